abbrev wd_Re_passes (cI cZ : ClassId) (a_t a_t_best a_t_isFree a_t_least a_t_levelArc a_t_levelWeight a_t_most a_t_row a_t_weight a_t_arcs a_t_split a_t_levelNodes a_t_levelIn a_t_above a_t_ordered a_t_parts : Nat) (t_nodes : Int32) (t_kinds : Int32) (t_levels : Int32) (t_size : Int32) (t_base : Int32) (t_best : Nat → Int32) (t_isFree : Nat → Int32) (t_least : Nat → Int32) (t_levelArc : Nat → Int32) (t_levelWeight : Nat → Int32) (t_most : Nat → Int32) (t_row : Nat → Int32) : va_W := [(a_t, .inr (9, [.int t_nodes, .int t_kinds, .ref a_t_weight, .ref a_t_arcs, .ref a_t_split, .ref a_t_least, .ref a_t_most, .int t_levels, .ref a_t_levelNodes, .ref a_t_levelWeight, .ref a_t_levelArc, .ref a_t_levelIn, .int t_size, .int t_base, .ref a_t_row, .ref a_t_isFree, .ref a_t_best, .ref a_t_above, .ref a_t_ordered, .ref a_t_parts])), (a_t_best, .inl (cI, 40, .inl t_best)), (a_t_isFree, .inl (cZ, 40, .inl t_isFree)), (a_t_least, .inl (cI, 4, .inl t_least)), (a_t_levelArc, .inl (cI, 65600, .inl t_levelArc)), (a_t_levelWeight, .inl (cI, 1640, .inl t_levelWeight)), (a_t_most, .inl (cI, 4, .inl t_most)), (a_t_row, .inl (cI, 40, .inl t_row))]
set_option maxRecDepth 100000 in
set_option maxHeartbeats 4000000 in
theorem c_Re_passes (l : Launch) (dC : Nat → ClassId) (dI : Nat → Nat → Nat) (cI cZ : ClassId) (a_t a_t_best a_t_isFree a_t_least a_t_levelArc a_t_levelWeight a_t_most a_t_row a_t_weight a_t_arcs a_t_split a_t_levelNodes a_t_levelIn a_t_above a_t_ordered a_t_parts sz : Nat) (t_nodes : Int32) (t_kinds : Int32) (t_levels : Int32) (t_size : Int32) (t_base : Int32) (t_best : Nat → Int32) (t_isFree : Nat → Int32) (t_least : Nat → Int32) (t_levelArc : Nat → Int32) (t_levelWeight : Nat → Int32) (t_most : Nat → Int32) (t_row : Nat → Int32) (out : Int32 × (Nat → Int32) × (Nat → Int32) × (Nat → Int32)) (hf : f_Re_passes t_kinds t_size t_base t_best t_isFree t_least t_levelArc t_levelWeight t_most t_row = some out) :
    Met l yy_Re_passes wq_Re_passes ({ frames := 4, cells := 0, slots := 0, locals := 114 }) (va_Pc ([.ref a_t] : List Value) (pre_ (dC, dI) cI cZ sz (wd_Re_passes cI cZ a_t a_t_best a_t_isFree a_t_least a_t_levelArc a_t_levelWeight a_t_most a_t_row a_t_weight a_t_arcs a_t_split a_t_levelNodes a_t_levelIn a_t_above a_t_ordered a_t_parts t_nodes t_kinds t_levels t_size t_base t_best t_isFree t_least t_levelArc t_levelWeight t_most t_row))) (va_Qi (fun (r : Int32) (_ : Unit) => r = out.1) (fun _ => pst (dC, dI) (va_A (wd_Re_passes cI cZ a_t a_t_best a_t_isFree a_t_least a_t_levelArc a_t_levelWeight a_t_most a_t_row a_t_weight a_t_arcs a_t_split a_t_levelNodes a_t_levelIn a_t_above a_t_ordered a_t_parts t_nodes t_kinds t_levels t_size t_base t_best t_isFree t_least t_levelArc t_levelWeight t_most t_row) sz) (wd_Re_passes cI cZ a_t a_t_best a_t_isFree a_t_least a_t_levelArc a_t_levelWeight a_t_most a_t_row a_t_weight a_t_arcs a_t_split a_t_levelNodes a_t_levelIn a_t_above a_t_ordered a_t_parts t_nodes t_kinds t_levels t_size t_base out.2.1 out.2.2.1 t_least t_levelArc t_levelWeight t_most out.2.2.2)) (va_A (wd_Re_passes cI cZ a_t a_t_best a_t_isFree a_t_least a_t_levelArc a_t_levelWeight a_t_most a_t_row a_t_weight a_t_arcs a_t_split a_t_levelNodes a_t_levelIn a_t_above a_t_ordered a_t_parts t_nodes t_kinds t_levels t_size t_base t_best t_isFree t_least t_levelArc t_levelWeight t_most t_row) sz)) 0 0 (va_A (wd_Re_passes cI cZ a_t a_t_best a_t_isFree a_t_least a_t_levelArc a_t_levelWeight a_t_most a_t_row a_t_weight a_t_arcs a_t_split a_t_levelNodes a_t_levelIn a_t_above a_t_ordered a_t_parts t_nodes t_kinds t_levels t_size t_base t_best t_isFree t_least t_levelArc t_levelWeight t_most t_row) sz) := by
  refine Met.ofW (cc := cc_Re_passes) (maxL := 2) (ret := (some .int)) (by decide) rfl ?_
  intro p e s m args below meth c s₁ B hml hv
  obtain ⟨rfl, hsz, hP, hK, hD0, hN⟩ := hv
  have hx := B.exec
  have hb := B.bytes
  have hr := B.returns
  have hts := atoms_spec (ws := wq_Re_passes) B.pre
  have hown : s.vm.findClass rr_Re = some m.cls := findClass_of_methodNamed B.named
  have hlocks := B.notSynchronized
  subst hsz
  have hD := hD0.self (sz := s.heap.size)
  generalize hAe : va_A (wd_Re_passes cI cZ a_t a_t_best a_t_isFree a_t_least a_t_levelArc a_t_levelWeight a_t_most a_t_row a_t_weight a_t_arcs a_t_split a_t_levelNodes a_t_levelIn a_t_above a_t_ordered a_t_parts t_nodes t_kinds t_levels t_size t_base t_best t_isFree t_least t_levelArc t_levelWeight t_most t_row) s.heap.size = A at hD ⊢
  have hA : ∀ q : Nat, s.heap.size ≤ q → A q := fun q h => by rw [← hAe]; exact Or.inr h
  obtain ⟨H, hH⟩ : ∃ H : Heap, H = s.heap := ⟨_, rfl⟩
  have hS : va_S A s.heap H [] := by rw [hH]; exact va_S.rf
  have hl := lv_entry (([.ref a_t] : List Value)) (n := 2) (Nat.le_of_ble_eq_true rfl)
  rw [lg_entry_eq]
  generalize (lg_sl (([.ref a_t] : List Value)) ++ List.replicate (2 - (lg_sl (([.ref a_t] : List Value))).length) Slot.unset).toArray = ls at hl ⊢
  have hl : lv_has ls 2 [(0, .ref a_t)] := hl
  rw [← hH] at hP ⊢
  have hP : va_P (dC, dI) clsL (wd_Re_passes cI cZ a_t a_t_best a_t_isFree a_t_least a_t_levelArc a_t_levelWeight a_t_most a_t_row a_t_weight a_t_arcs a_t_split a_t_levelNodes a_t_levelIn a_t_above a_t_ordered a_t_parts t_nodes t_kinds t_levels t_size t_base t_best t_isFree t_least t_levelArc t_levelWeight t_most t_row) H := hP
  unfold f_Re_passes at hf
  have h2 : ∀ (n2 : Nat) (x1 : Int32) (t_best : Nat → Int32) (t_isFree : Nat → Int32) (t_row : Nat → Int32) (ls : Array Slot) (H : Heap) (locs : List Loc), L_Re_passes_2 t_kinds t_size t_base t_least t_levelArc t_levelWeight t_most n2 x1 t_best t_isFree t_row = some out → lv_has ls 2 [(0, .ref a_t), (1, .int x1)] → va_P (dC, dI) clsL (wd_Re_passes cI cZ a_t a_t_best a_t_isFree a_t_least a_t_levelArc a_t_levelWeight a_t_most a_t_row a_t_weight a_t_arcs a_t_split a_t_levelNodes a_t_levelIn a_t_above a_t_ordered a_t_parts t_nodes t_kinds t_levels t_size t_base t_best t_isFree t_least t_levelArc t_levelWeight t_most t_row) H → va_D A (wd_Re_passes cI cZ a_t a_t_best a_t_isFree a_t_least a_t_levelArc a_t_levelWeight a_t_most a_t_row a_t_weight a_t_arcs a_t_split a_t_levelNodes a_t_levelIn a_t_above a_t_ordered a_t_parts t_nodes t_kinds t_levels t_size t_base t_best t_isFree t_least t_levelArc t_levelWeight t_most t_row) → va_S A s.heap H locs → W p l e (headSpec wq_Re_passes ({ frames := 4, cells := 0, slots := 0, locals := 114 })).room s m ([.ref a_t] : List Value).toArray below meth c H locs 0 0 (MQ below (va_Qi (fun (r : Int32) (_ : Unit) => r = out.1) (fun _ => pst (dC, dI) A (wd_Re_passes cI cZ a_t a_t_best a_t_isFree a_t_least a_t_levelArc a_t_levelWeight a_t_most a_t_row a_t_weight a_t_arcs a_t_split a_t_levelNodes a_t_levelIn a_t_above a_t_ordered a_t_parts t_nodes t_kinds t_levels t_size t_base out.2.1 out.2.2.1 t_least t_levelArc t_levelWeight t_most out.2.2.2)) A) ([.ref a_t] : List Value).toArray s 0 0 A) (F0 m 2 ls []) := by
    intro n2
    induction n2 with
    | zero =>
      intro x1 t_best t_isFree t_row ls H locs hf
      rw [L_Re_passes_2] at hf
      exact absurd hf (fun h => by cases h)
    | succ n2 ih2 =>
      intro x1 t_best t_isFree t_row ls H locs hf hl hP hD hS
      rw [L_Re_passes_2] at hf
      refine lv_iload_n hx hb dd_Re_passes_2 rfl (lv_at hl 1 rfl) ?_
      refine lv_bipush (v := 8) hx hb dd_Re_passes_3 (by decide) ?_
      refine lv_icmp_ge (tgt := 21) hx hb dd_Re_passes_5 (by decide) (fun cc => ?_) (fun cc => ?_)
      · skip
        have hf := if_t cc hf
        refine lv_iload_n hx hb dd_Re_passes_21 rfl (lv_at hl 1 rfl) ?_
        cases hf
        exact W.iret hx hb hr (fun t ht hW => ⟨⟨_, (), rfl, rfl, pst_of ht hP hD⟩, hS.F ht⟩) hS.2.2 dd_Re_passes_22
      · skip
        have hf := if_f cc hf
        refine lv_aload_n hx hb dd_Re_passes_8 rfl (lv_at hl 0 rfl) ?_
        obtain ⟨r9, hr9, hf⟩ := bind_some hf
        refine xcalli (rest := []) (wc := (wd_Re_pass cI cZ a_t a_t_best a_t_isFree a_t_least a_t_levelArc a_t_levelWeight a_t_most a_t_row a_t_weight a_t_arcs a_t_split a_t_levelNodes a_t_levelIn a_t_above a_t_ordered a_t_parts t_nodes t_kinds t_levels t_size t_base t_best t_isFree t_least t_levelArc t_levelWeight t_most t_row)) (w1 := (wd_Re_pass cI cZ a_t a_t_best a_t_isFree a_t_least a_t_levelArc a_t_levelWeight a_t_most a_t_row a_t_weight a_t_arcs a_t_split a_t_levelNodes a_t_levelIn a_t_above a_t_ordered a_t_parts t_nodes t_kinds t_levels t_size t_base r9.2.1 r9.2.2.1 t_least t_levelArc t_levelWeight t_most r9.2.2.2)) (wr := []) (ws' := (wd_Re_passes cI cZ a_t a_t_best a_t_isFree a_t_least a_t_levelArc a_t_levelWeight a_t_most a_t_row a_t_weight a_t_arcs a_t_split a_t_levelNodes a_t_levelIn a_t_above a_t_ordered a_t_parts t_nodes t_kinds t_levels t_size t_base r9.2.1 r9.2.2.1 t_least t_levelArc t_levelWeight t_most r9.2.2.2)) (va_runV (As := []) ⟨hx, hb, hml, hown, hts⟩ (c_Re_pass l dC dI cI cZ a_t a_t_best a_t_isFree a_t_least a_t_levelArc a_t_levelWeight a_t_most a_t_row a_t_weight a_t_arcs a_t_split a_t_levelNodes a_t_levelIn a_t_above a_t_ordered a_t_parts H.size t_nodes t_kinds t_levels t_size t_base t_best t_isFree t_least t_levelArc t_levelWeight t_most t_row r9 hr9) (cwV 0 hts (gV gw_891 gw_893 gw_45 gw_61 gw_894) rfl rfl rfl (yd_Re_pass) ⟨Nat.le_of_ble_eq_true rfl, Nat.le_of_ble_eq_true rfl⟩) (mkV hK (hP.sub (ws' := (wd_Re_pass cI cZ a_t a_t_best a_t_isFree a_t_least a_t_levelArc a_t_levelWeight a_t_most a_t_row a_t_weight a_t_arcs a_t_split a_t_levelNodes a_t_levelIn a_t_above a_t_ordered a_t_parts t_nodes t_kinds t_levels t_size t_base t_best t_isFree t_least t_levelArc t_levelWeight t_most t_row)) [0, 1, 2, 3, 4, 5, 6, 7] rfl) (hD.sub (ws' := (wd_Re_pass cI cZ a_t a_t_best a_t_isFree a_t_least a_t_levelArc a_t_levelWeight a_t_most a_t_row a_t_weight a_t_arcs a_t_split a_t_levelNodes a_t_levelIn a_t_above a_t_ordered a_t_parts t_nodes t_kinds t_levels t_size t_base t_best t_isFree t_least t_levelArc t_levelWeight t_most t_row)) [0, 1, 2, 3, 4, 5, 6, 7] (by decide) rfl) hN (va_recv hK hP (ci := 9) (q0 := 0) rfl rfl)) rfl rfl hl.1 rfl (lv_room (Nat.le_of_ble_eq_true rfl)) dd_Re_passes_9 ⟨Nat.zero_le _, Nat.zero_le _⟩) hP hD hS hA [0, 1, 2, 3, 4, 5, 6, 7] [] [0, 1, 2, 3, 4, 5, 6, 7] rfl rfl (by decide) (by decide) rfl (by decide) rfl (fun H locs hP hD hS => ?_)
        refine lv_if_eq (tgt := 21) hx hb dd_Re_passes_12 (by decide) (fun cc => ?_) (fun cc => ?_)
        · skip
          have hf := if_t cc hf
          refine lv_iload_n hx hb dd_Re_passes_21 rfl (lv_at hl 1 rfl) ?_
          cases hf
          exact W.iret hx hb hr (fun t ht hW => ⟨⟨_, (), rfl, rfl, pst_of ht hP hD⟩, hS.F ht⟩) hS.2.2 dd_Re_passes_22
        · skip
          have hf := if_f cc hf
          refine lv_iinc (v := x1 + 1) (lv' := [(1, .int (x1 + 1)), (0, .ref a_t)]) hx hb dd_Re_passes_15 hl (k := 1) rfl rfl (by decide) rfl (fun ls hl => ?_)
          refine lv_goto (tgt := 2) hx hb dd_Re_passes_18 (by decide) ?_
          exact ih2 (x1 + 1) r9.2.1 r9.2.2.1 r9.2.2.2 _ _ _ hf (lv_sub hl [1, 0] rfl) hP hD hS
  refine lv_iconst (v := 0) hx hb dd_Re_passes_0 (by decide) ?_
  refine lv_istore_n (lv' := [(1, .int 0), (0, .ref a_t)]) hx hb dd_Re_passes_1 rfl hl (by decide) rfl (fun ls hl => ?_)
  exact h2 64 0 t_best t_isFree t_row _ _ _ hf (lv_sub hl [1, 0] rfl) hP hD hS
abbrev wd_Re_grows (cI cZ : ClassId) (a_t a_t_isFree a_t_levelWeight a_t_most a_t_row a_t_weight a_t_arcs a_t_split a_t_least a_t_levelNodes a_t_levelArc a_t_levelIn a_t_best a_t_above a_t_ordered a_t_parts : Nat) (t_nodes : Int32) (t_kinds : Int32) (t_levels : Int32) (t_size : Int32) (t_base : Int32) (t_isFree : Nat → Int32) (t_levelWeight : Nat → Int32) (t_most : Nat → Int32) (t_row : Nat → Int32) : va_W := [(a_t, .inr (9, [.int t_nodes, .int t_kinds, .ref a_t_weight, .ref a_t_arcs, .ref a_t_split, .ref a_t_least, .ref a_t_most, .int t_levels, .ref a_t_levelNodes, .ref a_t_levelWeight, .ref a_t_levelArc, .ref a_t_levelIn, .int t_size, .int t_base, .ref a_t_row, .ref a_t_isFree, .ref a_t_best, .ref a_t_above, .ref a_t_ordered, .ref a_t_parts])), (a_t_isFree, .inl (cZ, 40, .inl t_isFree)), (a_t_levelWeight, .inl (cI, 1640, .inl t_levelWeight)), (a_t_most, .inl (cI, 4, .inl t_most)), (a_t_row, .inl (cI, 40, .inl t_row))]
set_option maxRecDepth 100000 in
set_option maxHeartbeats 4000000 in
theorem c_Re_grows (l : Launch) (dC : Nat → ClassId) (dI : Nat → Nat → Nat) (cI cZ : ClassId) (a_t a_t_isFree a_t_levelWeight a_t_most a_t_row a_t_weight a_t_arcs a_t_split a_t_least a_t_levelNodes a_t_levelArc a_t_levelIn a_t_best a_t_above a_t_ordered a_t_parts sz : Nat) (t_nodes : Int32) (t_kinds : Int32) (t_levels : Int32) (t_size : Int32) (t_base : Int32) (t_isFree : Nat → Int32) (t_levelWeight : Nat → Int32) (t_most : Nat → Int32) (t_row : Nat → Int32) (out : (Nat → Int32) × (Nat → Int32)) (hf : f_Re_grows t_kinds t_size t_base t_isFree t_levelWeight t_most t_row = some out) :
    Met l yy_Re_grows wq_Re_grows ({ frames := 2, cells := 0, slots := 0, locals := 45 }) (va_Pc ([.ref a_t] : List Value) (pre_ (dC, dI) cI cZ sz (wd_Re_grows cI cZ a_t a_t_isFree a_t_levelWeight a_t_most a_t_row a_t_weight a_t_arcs a_t_split a_t_least a_t_levelNodes a_t_levelArc a_t_levelIn a_t_best a_t_above a_t_ordered a_t_parts t_nodes t_kinds t_levels t_size t_base t_isFree t_levelWeight t_most t_row))) (va_Qv (fun _ : Unit => True) (fun _ => pst (dC, dI) (va_A (wd_Re_grows cI cZ a_t a_t_isFree a_t_levelWeight a_t_most a_t_row a_t_weight a_t_arcs a_t_split a_t_least a_t_levelNodes a_t_levelArc a_t_levelIn a_t_best a_t_above a_t_ordered a_t_parts t_nodes t_kinds t_levels t_size t_base t_isFree t_levelWeight t_most t_row) sz) (wd_Re_grows cI cZ a_t a_t_isFree a_t_levelWeight a_t_most a_t_row a_t_weight a_t_arcs a_t_split a_t_least a_t_levelNodes a_t_levelArc a_t_levelIn a_t_best a_t_above a_t_ordered a_t_parts t_nodes t_kinds t_levels t_size t_base out.1 t_levelWeight t_most out.2)) (va_A (wd_Re_grows cI cZ a_t a_t_isFree a_t_levelWeight a_t_most a_t_row a_t_weight a_t_arcs a_t_split a_t_least a_t_levelNodes a_t_levelArc a_t_levelIn a_t_best a_t_above a_t_ordered a_t_parts t_nodes t_kinds t_levels t_size t_base t_isFree t_levelWeight t_most t_row) sz)) 0 0 (va_A (wd_Re_grows cI cZ a_t a_t_isFree a_t_levelWeight a_t_most a_t_row a_t_weight a_t_arcs a_t_split a_t_least a_t_levelNodes a_t_levelArc a_t_levelIn a_t_best a_t_above a_t_ordered a_t_parts t_nodes t_kinds t_levels t_size t_base t_isFree t_levelWeight t_most t_row) sz) := by
  refine Met.ofW (cc := cc_Re_grows) (maxL := 5) (ret := none) (by decide) rfl ?_
  intro p e s m args below meth c s₁ B hml hv
  obtain ⟨rfl, hsz, hP, hK, hD0, hN⟩ := hv
  have hx := B.exec
  have hb := B.bytes
  have hr := B.returns
  have hts := atoms_spec (ws := wq_Re_grows) B.pre
  have hown : s.vm.findClass rr_Re = some m.cls := findClass_of_methodNamed B.named
  have hlocks := B.notSynchronized
  subst hsz
  have hD := hD0.self (sz := s.heap.size)
  generalize hAe : va_A (wd_Re_grows cI cZ a_t a_t_isFree a_t_levelWeight a_t_most a_t_row a_t_weight a_t_arcs a_t_split a_t_least a_t_levelNodes a_t_levelArc a_t_levelIn a_t_best a_t_above a_t_ordered a_t_parts t_nodes t_kinds t_levels t_size t_base t_isFree t_levelWeight t_most t_row) s.heap.size = A at hD ⊢
  have hA : ∀ q : Nat, s.heap.size ≤ q → A q := fun q h => by rw [← hAe]; exact Or.inr h
  obtain ⟨H, hH⟩ : ∃ H : Heap, H = s.heap := ⟨_, rfl⟩
  have hS : va_S A s.heap H [] := by rw [hH]; exact va_S.rf
  have hl := lv_entry (([.ref a_t] : List Value)) (n := 5) (Nat.le_of_ble_eq_true rfl)
  rw [lg_entry_eq]
  generalize (lg_sl (([.ref a_t] : List Value)) ++ List.replicate (5 - (lg_sl (([.ref a_t] : List Value))).length) Slot.unset).toArray = ls at hl ⊢
  have hl : lv_has ls 5 [(0, .ref a_t)] := hl
  rw [← hH] at hP ⊢
  have hP : va_P (dC, dI) clsL (wd_Re_grows cI cZ a_t a_t_isFree a_t_levelWeight a_t_most a_t_row a_t_weight a_t_arcs a_t_split a_t_least a_t_levelNodes a_t_levelArc a_t_levelIn a_t_best a_t_above a_t_ordered a_t_parts t_nodes t_kinds t_levels t_size t_base t_isFree t_levelWeight t_most t_row) H := hP
  unfold f_Re_grows at hf
  have h2 : ∀ (n2 : Nat) (x1 : Int32) (t_isFree : Nat → Int32) (t_row : Nat → Int32) (ls : Array Slot) (H : Heap) (locs : List Loc), L_Re_grows_2 t_kinds t_size t_base t_levelWeight t_most n2 x1 t_isFree t_row = some out → lv_has ls 5 [(0, .ref a_t), (1, .int x1)] → va_P (dC, dI) clsL (wd_Re_grows cI cZ a_t a_t_isFree a_t_levelWeight a_t_most a_t_row a_t_weight a_t_arcs a_t_split a_t_least a_t_levelNodes a_t_levelArc a_t_levelIn a_t_best a_t_above a_t_ordered a_t_parts t_nodes t_kinds t_levels t_size t_base t_isFree t_levelWeight t_most t_row) H → va_D A (wd_Re_grows cI cZ a_t a_t_isFree a_t_levelWeight a_t_most a_t_row a_t_weight a_t_arcs a_t_split a_t_least a_t_levelNodes a_t_levelArc a_t_levelIn a_t_best a_t_above a_t_ordered a_t_parts t_nodes t_kinds t_levels t_size t_base t_isFree t_levelWeight t_most t_row) → va_S A s.heap H locs → W p l e (headSpec wq_Re_grows ({ frames := 2, cells := 0, slots := 0, locals := 45 })).room s m ([.ref a_t] : List Value).toArray below meth c H locs 0 0 (MQ below (va_Qv (fun _ : Unit => True) (fun _ => pst (dC, dI) A (wd_Re_grows cI cZ a_t a_t_isFree a_t_levelWeight a_t_most a_t_row a_t_weight a_t_arcs a_t_split a_t_least a_t_levelNodes a_t_levelArc a_t_levelIn a_t_best a_t_above a_t_ordered a_t_parts t_nodes t_kinds t_levels t_size t_base out.1 t_levelWeight t_most out.2)) A) ([.ref a_t] : List Value).toArray s 0 0 A) (F0 m 2 ls []) := by
    intro n2
    induction n2 with
    | zero =>
      intro x1 t_isFree t_row ls H locs hf
      rw [L_Re_grows_2] at hf
      exact absurd hf (fun h => by cases h)
    | succ n2 ih2 =>
      intro x1 t_isFree t_row ls H locs hf hl hP hD hS
      rw [L_Re_grows_2] at hf
      have h32 : ∀ (n32 : Nat) (x1 : Int32) (t_isFree : Nat → Int32) (t_row : Nat → Int32) (ls : Array Slot) (H : Heap) (locs : List Loc), L_Re_grows_32 t_kinds t_size t_base t_levelWeight t_most n32 x1 t_isFree t_row = some out → lv_has ls 5 [(0, .ref a_t), (1, .int x1)] → va_P (dC, dI) clsL (wd_Re_grows cI cZ a_t a_t_isFree a_t_levelWeight a_t_most a_t_row a_t_weight a_t_arcs a_t_split a_t_least a_t_levelNodes a_t_levelArc a_t_levelIn a_t_best a_t_above a_t_ordered a_t_parts t_nodes t_kinds t_levels t_size t_base t_isFree t_levelWeight t_most t_row) H → va_D A (wd_Re_grows cI cZ a_t a_t_isFree a_t_levelWeight a_t_most a_t_row a_t_weight a_t_arcs a_t_split a_t_least a_t_levelNodes a_t_levelArc a_t_levelIn a_t_best a_t_above a_t_ordered a_t_parts t_nodes t_kinds t_levels t_size t_base t_isFree t_levelWeight t_most t_row) → va_S A s.heap H locs → W p l e (headSpec wq_Re_grows ({ frames := 2, cells := 0, slots := 0, locals := 45 })).room s m ([.ref a_t] : List Value).toArray below meth c H locs 0 0 (MQ below (va_Qv (fun _ : Unit => True) (fun _ => pst (dC, dI) A (wd_Re_grows cI cZ a_t a_t_isFree a_t_levelWeight a_t_most a_t_row a_t_weight a_t_arcs a_t_split a_t_least a_t_levelNodes a_t_levelArc a_t_levelIn a_t_best a_t_above a_t_ordered a_t_parts t_nodes t_kinds t_levels t_size t_base out.1 t_levelWeight t_most out.2)) A) ([.ref a_t] : List Value).toArray s 0 0 A) (F0 m 32 ls []) := by
        intro n32
        induction n32 with
        | zero =>
          intro x1 t_isFree t_row ls H locs hf
          rw [L_Re_grows_32] at hf
          exact absurd hf (fun h => by cases h)
        | succ n32 ih32 =>
          intro x1 t_isFree t_row ls H locs hf hl hP hD hS
          rw [L_Re_grows_32] at hf
          have h44 : ∀ (n44 : Nat) (x1 : Int32) (x2 : Int32) (x3 : Int32) (t_isFree : Nat → Int32) (t_row : Nat → Int32) (ls : Array Slot) (H : Heap) (locs : List Loc), L_Re_grows_44 t_kinds t_size t_base t_levelWeight t_most (L_Re_grows_32 t_kinds t_size t_base t_levelWeight t_most n32) n44 x1 x2 x3 t_isFree t_row = some out → lv_has ls 5 [(0, .ref a_t), (1, .int x1), (2, .int x2), (3, .int x3)] → va_P (dC, dI) clsL (wd_Re_grows cI cZ a_t a_t_isFree a_t_levelWeight a_t_most a_t_row a_t_weight a_t_arcs a_t_split a_t_least a_t_levelNodes a_t_levelArc a_t_levelIn a_t_best a_t_above a_t_ordered a_t_parts t_nodes t_kinds t_levels t_size t_base t_isFree t_levelWeight t_most t_row) H → va_D A (wd_Re_grows cI cZ a_t a_t_isFree a_t_levelWeight a_t_most a_t_row a_t_weight a_t_arcs a_t_split a_t_least a_t_levelNodes a_t_levelArc a_t_levelIn a_t_best a_t_above a_t_ordered a_t_parts t_nodes t_kinds t_levels t_size t_base t_isFree t_levelWeight t_most t_row) → va_S A s.heap H locs → W p l e (headSpec wq_Re_grows ({ frames := 2, cells := 0, slots := 0, locals := 45 })).room s m ([.ref a_t] : List Value).toArray below meth c H locs 0 0 (MQ below (va_Qv (fun _ : Unit => True) (fun _ => pst (dC, dI) A (wd_Re_grows cI cZ a_t a_t_isFree a_t_levelWeight a_t_most a_t_row a_t_weight a_t_arcs a_t_split a_t_least a_t_levelNodes a_t_levelArc a_t_levelIn a_t_best a_t_above a_t_ordered a_t_parts t_nodes t_kinds t_levels t_size t_base out.1 t_levelWeight t_most out.2)) A) ([.ref a_t] : List Value).toArray s 0 0 A) (F0 m 44 ls []) := by
            intro n44
            induction n44 with
            | zero =>
              intro x1 x2 x3 t_isFree t_row ls H locs hf
              rw [L_Re_grows_44] at hf
              exact absurd hf (fun h => by cases h)
            | succ n44 ih44 =>
              intro x1 x2 x3 t_isFree t_row ls H locs hf hl hP hD hS
              rw [L_Re_grows_44] at hf
              have h91 : ∀ (n91 : Nat) (x1 : Int32) (x2 : Int32) (x3 : Int32) (x4 : Int32) (t_isFree : Nat → Int32) (t_row : Nat → Int32) (ls : Array Slot) (H : Heap) (locs : List Loc), L_Re_grows_91 t_kinds t_size t_base t_levelWeight t_most (L_Re_grows_32 t_kinds t_size t_base t_levelWeight t_most n32) n91 x1 x2 x3 x4 t_isFree t_row = some out → lv_has ls 5 [(0, .ref a_t), (1, .int x1), (2, .int x2), (3, .int x3), (4, .int x4)] → va_P (dC, dI) clsL (wd_Re_grows cI cZ a_t a_t_isFree a_t_levelWeight a_t_most a_t_row a_t_weight a_t_arcs a_t_split a_t_least a_t_levelNodes a_t_levelArc a_t_levelIn a_t_best a_t_above a_t_ordered a_t_parts t_nodes t_kinds t_levels t_size t_base t_isFree t_levelWeight t_most t_row) H → va_D A (wd_Re_grows cI cZ a_t a_t_isFree a_t_levelWeight a_t_most a_t_row a_t_weight a_t_arcs a_t_split a_t_least a_t_levelNodes a_t_levelArc a_t_levelIn a_t_best a_t_above a_t_ordered a_t_parts t_nodes t_kinds t_levels t_size t_base t_isFree t_levelWeight t_most t_row) → va_S A s.heap H locs → W p l e (headSpec wq_Re_grows ({ frames := 2, cells := 0, slots := 0, locals := 45 })).room s m ([.ref a_t] : List Value).toArray below meth c H locs 0 0 (MQ below (va_Qv (fun _ : Unit => True) (fun _ => pst (dC, dI) A (wd_Re_grows cI cZ a_t a_t_isFree a_t_levelWeight a_t_most a_t_row a_t_weight a_t_arcs a_t_split a_t_least a_t_levelNodes a_t_levelArc a_t_levelIn a_t_best a_t_above a_t_ordered a_t_parts t_nodes t_kinds t_levels t_size t_base out.1 t_levelWeight t_most out.2)) A) ([.ref a_t] : List Value).toArray s 0 0 A) (F0 m 91 ls []) := by
                intro n91
                induction n91 with
                | zero =>
                  intro x1 x2 x3 x4 t_isFree t_row ls H locs hf
                  rw [L_Re_grows_91] at hf
                  exact absurd hf (fun h => by cases h)
                | succ n91 ih91 =>
                  intro x1 x2 x3 x4 t_isFree t_row ls H locs hf hl hP hD hS
                  rw [L_Re_grows_91] at hf
                  have h141 : ∀ (x1 : Int32) (x2 : Int32) (x3 : Int32) (t_isFree : Nat → Int32) (t_row : Nat → Int32) (ls : Array Slot) (H : Heap) (locs : List Loc), J_Re_grows_141 (L_Re_grows_32 t_kinds t_size t_base t_levelWeight t_most n32) x1 x2 x3 t_isFree t_row = some out → lv_has ls 5 [(0, .ref a_t), (1, .int x1), (2, .int x2), (3, .int x3)] → va_P (dC, dI) clsL (wd_Re_grows cI cZ a_t a_t_isFree a_t_levelWeight a_t_most a_t_row a_t_weight a_t_arcs a_t_split a_t_least a_t_levelNodes a_t_levelArc a_t_levelIn a_t_best a_t_above a_t_ordered a_t_parts t_nodes t_kinds t_levels t_size t_base t_isFree t_levelWeight t_most t_row) H → va_D A (wd_Re_grows cI cZ a_t a_t_isFree a_t_levelWeight a_t_most a_t_row a_t_weight a_t_arcs a_t_split a_t_least a_t_levelNodes a_t_levelArc a_t_levelIn a_t_best a_t_above a_t_ordered a_t_parts t_nodes t_kinds t_levels t_size t_base t_isFree t_levelWeight t_most t_row) → va_S A s.heap H locs → W p l e (headSpec wq_Re_grows ({ frames := 2, cells := 0, slots := 0, locals := 45 })).room s m ([.ref a_t] : List Value).toArray below meth c H locs 0 0 (MQ below (va_Qv (fun _ : Unit => True) (fun _ => pst (dC, dI) A (wd_Re_grows cI cZ a_t a_t_isFree a_t_levelWeight a_t_most a_t_row a_t_weight a_t_arcs a_t_split a_t_least a_t_levelNodes a_t_levelArc a_t_levelIn a_t_best a_t_above a_t_ordered a_t_parts t_nodes t_kinds t_levels t_size t_base out.1 t_levelWeight t_most out.2)) A) ([.ref a_t] : List Value).toArray s 0 0 A) (F0 m 141 ls []) := by
                    intro x1 x2 x3 t_isFree t_row ls H locs hf hl hP hD hS
                    unfold J_Re_grows_141 at hf
                    refine lv_aload_n hx hb dd_Re_grows_141 rfl (lv_at hl 0 rfl) ?_
                    refine va_get (D := (dC, dI)) (ci := 9) (v := .ref a_t_row) (C := rr_Re) (T := tt_Re) (N := 20) hx hb hts (fun w h => gwc (inn_Re w h)) hown hK hP 0 rfl rfl 14 (by decide) (hts _ (gwc gw_717)) (fun _ h9 => h9) rfl dd_Re_grows_142 ?_
                    refine lv_iload_n hx hb dd_Re_grows_145 rfl (lv_at hl 2 rfl) ?_
                    refine lv_iload_n hx hb dd_Re_grows_146 rfl (lv_at hl 3 rfl) ?_
                    obtain ⟨k147, hf⟩ := ck_some hf
                    refine va_iast hx hb hK hP hD hS 4 0 rfl rfl (okb_in k147) dd_Re_grows_147 (fun H locs hP hD hS => ?_)
                    have hP : va_P (dC, dI) clsL (wd_Re_grows cI cZ a_t a_t_isFree a_t_levelWeight a_t_most a_t_row a_t_weight a_t_arcs a_t_split a_t_least a_t_levelNodes a_t_levelArc a_t_levelIn a_t_best a_t_above a_t_ordered a_t_parts t_nodes t_kinds t_levels t_size t_base t_isFree t_levelWeight t_most (upd t_row (x2).toNatClampNeg x3)) H := hP
                    have hD : va_D A (wd_Re_grows cI cZ a_t a_t_isFree a_t_levelWeight a_t_most a_t_row a_t_weight a_t_arcs a_t_split a_t_least a_t_levelNodes a_t_levelArc a_t_levelIn a_t_best a_t_above a_t_ordered a_t_parts t_nodes t_kinds t_levels t_size t_base t_isFree t_levelWeight t_most (upd t_row (x2).toNatClampNeg x3)) := hD
                    refine lv_aload_n hx hb dd_Re_grows_148 rfl (lv_at hl 0 rfl) ?_
                    refine va_get (D := (dC, dI)) (ci := 9) (v := .ref a_t_isFree) (C := rr_Re) (T := tt_Re) (N := 20) hx hb hts (fun w h => gwc (inn_Re w h)) hown hK hP 0 rfl rfl 15 (by decide) (hts _ (gwc gw_718)) (fun _ h9 => h9) rfl dd_Re_grows_149 ?_
                    refine lv_iload_n hx hb dd_Re_grows_152 rfl (lv_at hl 2 rfl) ?_
                    refine lv_iconst (v := 0) hx hb dd_Re_grows_153 (by decide) ?_
                    obtain ⟨k154, hf⟩ := ck_some hf
                    refine va_zast hx hb hK hP hD hS 1 1 rfl rfl (okb_in k154) dd_Re_grows_154 (fun H locs hP hD hS => ?_)
                    have hP : va_P (dC, dI) clsL (wd_Re_grows cI cZ a_t a_t_isFree a_t_levelWeight a_t_most a_t_row a_t_weight a_t_arcs a_t_split a_t_least a_t_levelNodes a_t_levelArc a_t_levelIn a_t_best a_t_above a_t_ordered a_t_parts t_nodes t_kinds t_levels t_size t_base (upd t_isFree (x2).toNatClampNeg (vp_nar .boolean 0)) t_levelWeight t_most (upd t_row (x2).toNatClampNeg x3)) H := hP
                    have hD : va_D A (wd_Re_grows cI cZ a_t a_t_isFree a_t_levelWeight a_t_most a_t_row a_t_weight a_t_arcs a_t_split a_t_least a_t_levelNodes a_t_levelArc a_t_levelIn a_t_best a_t_above a_t_ordered a_t_parts t_nodes t_kinds t_levels t_size t_base (upd t_isFree (x2).toNatClampNeg (vp_nar .boolean 0)) t_levelWeight t_most (upd t_row (x2).toNatClampNeg x3)) := hD
                    refine lv_iinc (v := x1 + 1) (lv' := [(1, .int (x1 + 1)), (0, .ref a_t), (2, .int x2), (3, .int x3)]) hx hb dd_Re_grows_155 hl (k := 1) rfl rfl (by decide) rfl (fun ls hl => ?_)
                    refine lv_goto (tgt := 32) hx hb dd_Re_grows_158 (by decide) ?_
                    exact ih32 (x1 + 1) (upd t_isFree (x2).toNatClampNeg (vp_nar .boolean 0)) (upd t_row (x2).toNatClampNeg x3) _ _ _ hf (lv_sub hl [1, 0] rfl) hP hD hS
                  refine lv_iload hx hb dd_Re_grows_91 (lv_at hl 4 rfl) ?_
                  refine lv_aload_n hx hb dd_Re_grows_93 rfl (lv_at hl 0 rfl) ?_
                  refine va_get (D := (dC, dI)) (ci := 9) (v := .int t_kinds) (C := rr_Re) (T := tt_Re) (N := 20) hx hb hts (fun w h => gwc (inn_Re w h)) hown hK hP 0 rfl rfl 1 (by decide) (hts _ (gwc gw_704)) (fun _ h9 => h9) rfl dd_Re_grows_94 ?_
                  refine lv_icmp_ge (tgt := 141) hx hb dd_Re_grows_97 (by decide) (fun cc => ?_) (fun cc => ?_)
                  · skip
                    have hf := if_t cc hf
                    exact h141 x1 x2 x3 t_isFree t_row _ _ _ hf (lv_sub hl [0, 1, 2, 3] rfl) hP hD hS
                  · skip
                    have hf := if_f cc hf
                    refine lv_aload_n hx hb dd_Re_grows_100 rfl (lv_at hl 0 rfl) ?_
                    refine va_get (D := (dC, dI)) (ci := 9) (v := .ref a_t_most) (C := rr_Re) (T := tt_Re) (N := 20) hx hb hts (fun w h => gwc (inn_Re w h)) hown hK hP 0 rfl rfl 6 (by decide) (hts _ (gwc gw_709)) (fun _ h9 => h9) rfl dd_Re_grows_101 ?_
                    refine lv_iload hx hb dd_Re_grows_104 (lv_at hl 4 rfl) ?_
                    obtain ⟨k106, hf⟩ := ck_some hf
                    refine va_iald hx hb hK hP 3 0 rfl rfl (okb_in k106) dd_Re_grows_106 ?_
                    refine lv_i2l hx hb dd_Re_grows_107 rfl ?_
                    refine lv_aload_n hx hb dd_Re_grows_108 rfl (lv_at hl 0 rfl) ?_
                    refine lv_iload hx hb dd_Re_grows_109 (lv_at hl 4 rfl) ?_
                    obtain ⟨r111, hr111, hf⟩ := bind_some hf
                    refine xcalll (rest := [.long ((t_most (x4).toNatClampNeg).toInt64)]) (wc := (wd_Re_sumOf cI cZ a_t a_t_levelWeight a_t_row a_t_weight a_t_arcs a_t_split a_t_least a_t_most a_t_levelNodes a_t_levelArc a_t_levelIn a_t_isFree a_t_best a_t_above a_t_ordered a_t_parts t_nodes t_kinds t_levels t_size t_base t_levelWeight t_row)) (w1 := (wd_Re_sumOf cI cZ a_t a_t_levelWeight a_t_row a_t_weight a_t_arcs a_t_split a_t_least a_t_most a_t_levelNodes a_t_levelArc a_t_levelIn a_t_isFree a_t_best a_t_above a_t_ordered a_t_parts t_nodes t_kinds t_levels t_size t_base t_levelWeight t_row)) (wr := [(a_t_isFree, .inl (cZ, 40, .inl t_isFree)), (a_t_most, .inl (cI, 4, .inl t_most))]) (ws' := (wd_Re_grows cI cZ a_t a_t_isFree a_t_levelWeight a_t_most a_t_row a_t_weight a_t_arcs a_t_split a_t_least a_t_levelNodes a_t_levelArc a_t_levelIn a_t_best a_t_above a_t_ordered a_t_parts t_nodes t_kinds t_levels t_size t_base t_isFree t_levelWeight t_most t_row)) (va_runV (As := [.int x4]) ⟨hx, hb, hml, hown, hts⟩ (c_Re_sumOf l dC dI cI cZ a_t a_t_levelWeight a_t_row a_t_weight a_t_arcs a_t_split a_t_least a_t_most a_t_levelNodes a_t_levelArc a_t_levelIn a_t_isFree a_t_best a_t_above a_t_ordered a_t_parts H.size x4 t_nodes t_kinds t_levels t_size t_base t_levelWeight t_row r111 hr111) (cwV 1 hts (gV gw_838 gw_840 gw_36 gw_61 gw_841) rfl rfl rfl (yd_Re_sumOf) ⟨Nat.le_of_ble_eq_true rfl, Nat.le_of_ble_eq_true rfl⟩) (mkV hK (hP.sub (ws' := (wd_Re_sumOf cI cZ a_t a_t_levelWeight a_t_row a_t_weight a_t_arcs a_t_split a_t_least a_t_most a_t_levelNodes a_t_levelArc a_t_levelIn a_t_isFree a_t_best a_t_above a_t_ordered a_t_parts t_nodes t_kinds t_levels t_size t_base t_levelWeight t_row)) [0, 2, 4] rfl) (hD.sub (ws' := (wd_Re_sumOf cI cZ a_t a_t_levelWeight a_t_row a_t_weight a_t_arcs a_t_split a_t_least a_t_most a_t_levelNodes a_t_levelArc a_t_levelIn a_t_isFree a_t_best a_t_above a_t_ordered a_t_parts t_nodes t_kinds t_levels t_size t_base t_levelWeight t_row)) [0, 2, 4] (by decide) rfl) hN (va_recv hK hP (ci := 9) (q0 := 0) rfl rfl)) rfl rfl hl.1 rfl (lv_room (Nat.le_of_ble_eq_true rfl)) dd_Re_grows_111 ⟨Nat.zero_le _, Nat.zero_le _⟩) hP hD hS hA [0, 2, 4] [1, 3] [2, 0, 3, 1, 4] rfl rfl (by decide) (by decide) rfl (by decide) rfl (fun H locs hP hD hS => ?_)
                    refine lv_lsub hx hb dd_Re_grows_114 ?_
                    refine lv_aload_n hx hb dd_Re_grows_115 rfl (lv_at hl 0 rfl) ?_
                    refine va_get (D := (dC, dI)) (ci := 9) (v := .ref a_t_most) (C := rr_Re) (T := tt_Re) (N := 20) hx hb hts (fun w h => gwc (inn_Re w h)) hown hK hP 0 rfl rfl 6 (by decide) (hts _ (gwc gw_709)) (fun _ h9 => h9) rfl dd_Re_grows_116 ?_
                    refine lv_iload_n hx hb dd_Re_grows_119 rfl (lv_at hl 3 rfl) ?_
                    obtain ⟨k120, hf⟩ := ck_some hf
                    refine va_iald hx hb hK hP 3 0 rfl rfl (okb_in k120) dd_Re_grows_120 ?_
                    refine lv_i2l hx hb dd_Re_grows_121 rfl ?_
                    refine lv_aload_n hx hb dd_Re_grows_122 rfl (lv_at hl 0 rfl) ?_
                    refine lv_iload_n hx hb dd_Re_grows_123 rfl (lv_at hl 3 rfl) ?_
                    obtain ⟨r124, hr124, hf⟩ := bind_some hf
                    refine xcalll (rest := [.long ((t_most (x3).toNatClampNeg).toInt64), .long (((t_most (x4).toNatClampNeg).toInt64) - r111)]) (wc := (wd_Re_sumOf cI cZ a_t a_t_levelWeight a_t_row a_t_weight a_t_arcs a_t_split a_t_least a_t_most a_t_levelNodes a_t_levelArc a_t_levelIn a_t_isFree a_t_best a_t_above a_t_ordered a_t_parts t_nodes t_kinds t_levels t_size t_base t_levelWeight t_row)) (w1 := (wd_Re_sumOf cI cZ a_t a_t_levelWeight a_t_row a_t_weight a_t_arcs a_t_split a_t_least a_t_most a_t_levelNodes a_t_levelArc a_t_levelIn a_t_isFree a_t_best a_t_above a_t_ordered a_t_parts t_nodes t_kinds t_levels t_size t_base t_levelWeight t_row)) (wr := [(a_t_isFree, .inl (cZ, 40, .inl t_isFree)), (a_t_most, .inl (cI, 4, .inl t_most))]) (ws' := (wd_Re_grows cI cZ a_t a_t_isFree a_t_levelWeight a_t_most a_t_row a_t_weight a_t_arcs a_t_split a_t_least a_t_levelNodes a_t_levelArc a_t_levelIn a_t_best a_t_above a_t_ordered a_t_parts t_nodes t_kinds t_levels t_size t_base t_isFree t_levelWeight t_most t_row)) (va_runV (As := [.int x3]) ⟨hx, hb, hml, hown, hts⟩ (c_Re_sumOf l dC dI cI cZ a_t a_t_levelWeight a_t_row a_t_weight a_t_arcs a_t_split a_t_least a_t_most a_t_levelNodes a_t_levelArc a_t_levelIn a_t_isFree a_t_best a_t_above a_t_ordered a_t_parts H.size x3 t_nodes t_kinds t_levels t_size t_base t_levelWeight t_row r124 hr124) (cwV 1 hts (gV gw_838 gw_840 gw_36 gw_61 gw_841) rfl rfl rfl (yd_Re_sumOf) ⟨Nat.le_of_ble_eq_true rfl, Nat.le_of_ble_eq_true rfl⟩) (mkV hK (hP.sub (ws' := (wd_Re_sumOf cI cZ a_t a_t_levelWeight a_t_row a_t_weight a_t_arcs a_t_split a_t_least a_t_most a_t_levelNodes a_t_levelArc a_t_levelIn a_t_isFree a_t_best a_t_above a_t_ordered a_t_parts t_nodes t_kinds t_levels t_size t_base t_levelWeight t_row)) [0, 2, 4] rfl) (hD.sub (ws' := (wd_Re_sumOf cI cZ a_t a_t_levelWeight a_t_row a_t_weight a_t_arcs a_t_split a_t_least a_t_most a_t_levelNodes a_t_levelArc a_t_levelIn a_t_isFree a_t_best a_t_above a_t_ordered a_t_parts t_nodes t_kinds t_levels t_size t_base t_levelWeight t_row)) [0, 2, 4] (by decide) rfl) hN (va_recv hK hP (ci := 9) (q0 := 0) rfl rfl)) rfl rfl hl.1 rfl (lv_room (Nat.le_of_ble_eq_true rfl)) dd_Re_grows_124 ⟨Nat.zero_le _, Nat.zero_le _⟩) hP hD hS hA [0, 2, 4] [1, 3] [2, 0, 3, 1, 4] rfl rfl (by decide) (by decide) rfl (by decide) rfl (fun H locs hP hD hS => ?_)
                    refine lv_lsub hx hb dd_Re_grows_127 ?_
                    refine W.lcmp hx hb dd_Re_grows_128 ?_
                    refine lv_if_le (tgt := 135) hx hb dd_Re_grows_129 (by decide) (fun cc => ?_) (fun cc => ?_)
                    · skip
                      have hf := if_t cc hf
                      refine lv_iinc (v := x4 + 1) (lv' := [(4, .int (x4 + 1)), (0, .ref a_t), (1, .int x1), (2, .int x2), (3, .int x3)]) hx hb dd_Re_grows_135 hl (k := 4) rfl rfl (by decide) rfl (fun ls hl => ?_)
                      refine lv_goto (tgt := 91) hx hb dd_Re_grows_138 (by decide) ?_
                      exact ih91 x1 x2 x3 (x4 + 1) t_isFree t_row _ _ _ hf (lv_sub hl [1, 2, 3, 4, 0] rfl) hP hD hS
                    · skip
                      have hf := if_f cc hf
                      refine lv_iload hx hb dd_Re_grows_132 (lv_at hl 4 rfl) ?_
                      refine lv_istore_n (lv' := [(3, .int x4), (0, .ref a_t), (1, .int x1), (2, .int x2), (4, .int x4)]) hx hb dd_Re_grows_134 rfl hl (by decide) rfl (fun ls hl => ?_)
                      refine lv_iinc (v := x4 + 1) (lv' := [(4, .int (x4 + 1)), (3, .int x4), (0, .ref a_t), (1, .int x1), (2, .int x2)]) hx hb dd_Re_grows_135 hl (k := 4) rfl rfl (by decide) rfl (fun ls hl => ?_)
                      refine lv_goto (tgt := 91) hx hb dd_Re_grows_138 (by decide) ?_
                      exact ih91 x1 x2 x4 (x4 + 1) t_isFree t_row _ _ _ hf (lv_sub hl [2, 3, 4, 1, 0] rfl) hP hD hS
              refine lv_iload_n hx hb dd_Re_grows_44 rfl (lv_at hl 3 rfl) ?_
              refine lv_aload_n hx hb dd_Re_grows_45 rfl (lv_at hl 0 rfl) ?_
              refine va_get (D := (dC, dI)) (ci := 9) (v := .int t_size) (C := rr_Re) (T := tt_Re) (N := 20) hx hb hts (fun w h => gwc (inn_Re w h)) hown hK hP 0 rfl rfl 12 (by decide) (hts _ (gwc gw_715)) (fun _ h9 => h9) rfl dd_Re_grows_46 ?_
              refine lv_icmp_ge (tgt := 86) hx hb dd_Re_grows_49 (by decide) (fun cc => ?_) (fun cc => ?_)
              · skip
                have hf := if_t cc hf
                refine lv_iconst (v := 0) hx hb dd_Re_grows_86 (by decide) ?_
                refine lv_istore_n (lv' := [(3, .int 0), (0, .ref a_t), (1, .int x1), (2, .int x2)]) hx hb dd_Re_grows_87 rfl hl (by decide) rfl (fun ls hl => ?_)
                refine lv_iconst (v := 1) hx hb dd_Re_grows_88 (by decide) ?_
                refine lv_istore (lv' := [(4, .int 1), (3, .int 0), (0, .ref a_t), (1, .int x1), (2, .int x2)]) hx hb dd_Re_grows_89 hl (by decide) rfl (fun ls hl => ?_)
                exact h91 64 x1 x2 0 1 t_isFree t_row _ _ _ hf (lv_sub hl [2, 3, 4, 1, 0] rfl) hP hD hS
              · skip
                have hf := if_f cc hf
                refine lv_aload_n hx hb dd_Re_grows_52 rfl (lv_at hl 0 rfl) ?_
                refine va_get (D := (dC, dI)) (ci := 9) (v := .ref a_t_isFree) (C := rr_Re) (T := tt_Re) (N := 20) hx hb hts (fun w h => gwc (inn_Re w h)) hown hK hP 0 rfl rfl 15 (by decide) (hts _ (gwc gw_718)) (fun _ h9 => h9) rfl dd_Re_grows_53 ?_
                refine lv_iload_n hx hb dd_Re_grows_56 rfl (lv_at hl 3 rfl) ?_
                obtain ⟨k57, hf⟩ := ck_some hf
                refine va_zald hx hb hK hP 1 1 rfl rfl (okb_in k57) dd_Re_grows_57 ?_
                refine lv_if_eq (tgt := 80) hx hb dd_Re_grows_58 (by decide) (fun cc => ?_) (fun cc => ?_)
                · skip
                  have hf := if_t cc hf
                  refine lv_iinc (v := x3 + 1) (lv' := [(3, .int (x3 + 1)), (0, .ref a_t), (1, .int x1), (2, .int x2)]) hx hb dd_Re_grows_80 hl (k := 3) rfl rfl (by decide) rfl (fun ls hl => ?_)
                  refine lv_goto (tgt := 44) hx hb dd_Re_grows_83 (by decide) ?_
                  exact ih44 x1 x2 (x3 + 1) t_isFree t_row _ _ _ hf (lv_sub hl [1, 2, 3, 0] rfl) hP hD hS
                · skip
                  have hf := if_f cc hf
                  refine lv_iload_n hx hb dd_Re_grows_61 rfl (lv_at hl 2 rfl) ?_
                  refine lv_if_lt (tgt := 78) hx hb dd_Re_grows_62 (by decide) (fun cc => ?_) (fun cc => ?_)
                  · skip
                    have hf := if_t cc hf
                    refine lv_iload_n hx hb dd_Re_grows_78 rfl (lv_at hl 3 rfl) ?_
                    refine lv_istore_n (lv' := [(2, .int x3), (0, .ref a_t), (1, .int x1), (3, .int x3)]) hx hb dd_Re_grows_79 rfl hl (by decide) rfl (fun ls hl => ?_)
                    refine lv_iinc (v := x3 + 1) (lv' := [(3, .int (x3 + 1)), (2, .int x3), (0, .ref a_t), (1, .int x1)]) hx hb dd_Re_grows_80 hl (k := 3) rfl rfl (by decide) rfl (fun ls hl => ?_)
                    refine lv_goto (tgt := 44) hx hb dd_Re_grows_83 (by decide) ?_
                    exact ih44 x1 x3 (x3 + 1) t_isFree t_row _ _ _ hf (lv_sub hl [2, 3, 1, 0] rfl) hP hD hS
                  · skip
                    have hf := if_f cc hf
                    refine lv_aload_n hx hb dd_Re_grows_65 rfl (lv_at hl 0 rfl) ?_
                    refine lv_iload_n hx hb dd_Re_grows_66 rfl (lv_at hl 3 rfl) ?_
                    obtain ⟨r67, hr67, hf⟩ := bind_some hf
                    refine xcalli (rest := []) (wc := (wd_Re_weightOf cI cZ a_t a_t_levelWeight a_t_weight a_t_arcs a_t_split a_t_least a_t_most a_t_levelNodes a_t_levelArc a_t_levelIn a_t_row a_t_isFree a_t_best a_t_above a_t_ordered a_t_parts t_nodes t_kinds t_levels t_size t_base t_levelWeight)) (w1 := (wd_Re_weightOf cI cZ a_t a_t_levelWeight a_t_weight a_t_arcs a_t_split a_t_least a_t_most a_t_levelNodes a_t_levelArc a_t_levelIn a_t_row a_t_isFree a_t_best a_t_above a_t_ordered a_t_parts t_nodes t_kinds t_levels t_size t_base t_levelWeight)) (wr := [(a_t_isFree, .inl (cZ, 40, .inl t_isFree)), (a_t_most, .inl (cI, 4, .inl t_most)), (a_t_row, .inl (cI, 40, .inl t_row))]) (ws' := (wd_Re_grows cI cZ a_t a_t_isFree a_t_levelWeight a_t_most a_t_row a_t_weight a_t_arcs a_t_split a_t_least a_t_levelNodes a_t_levelArc a_t_levelIn a_t_best a_t_above a_t_ordered a_t_parts t_nodes t_kinds t_levels t_size t_base t_isFree t_levelWeight t_most t_row)) (va_runV (As := [.int x3]) ⟨hx, hb, hml, hown, hts⟩ (c_Re_weightOf l dC dI cI cZ a_t a_t_levelWeight a_t_weight a_t_arcs a_t_split a_t_least a_t_most a_t_levelNodes a_t_levelArc a_t_levelIn a_t_row a_t_isFree a_t_best a_t_above a_t_ordered a_t_parts H.size x3 t_nodes t_kinds t_levels t_size t_base t_levelWeight r67 hr67) (cwV 1 hts (gV gw_842 gw_844 gw_37 gw_61 gw_845) rfl rfl rfl (yd_Re_weightOf) ⟨Nat.le_of_ble_eq_true rfl, Nat.le_of_ble_eq_true rfl⟩) (mkV hK (hP.sub (ws' := (wd_Re_weightOf cI cZ a_t a_t_levelWeight a_t_weight a_t_arcs a_t_split a_t_least a_t_most a_t_levelNodes a_t_levelArc a_t_levelIn a_t_row a_t_isFree a_t_best a_t_above a_t_ordered a_t_parts t_nodes t_kinds t_levels t_size t_base t_levelWeight)) [0, 2] rfl) (hD.sub (ws' := (wd_Re_weightOf cI cZ a_t a_t_levelWeight a_t_weight a_t_arcs a_t_split a_t_least a_t_most a_t_levelNodes a_t_levelArc a_t_levelIn a_t_row a_t_isFree a_t_best a_t_above a_t_ordered a_t_parts t_nodes t_kinds t_levels t_size t_base t_levelWeight)) [0, 2] (by decide) rfl) hN (va_recv hK hP (ci := 9) (q0 := 0) rfl rfl)) rfl rfl hl.1 rfl (lv_room (Nat.le_of_ble_eq_true rfl)) dd_Re_grows_67 ⟨Nat.zero_le _, Nat.zero_le _⟩) hP hD hS hA [0, 2] [1, 3, 4] [3, 0, 4, 1, 2] rfl rfl (by decide) (by decide) rfl (by decide) rfl (fun H locs hP hD hS => ?_)
                    refine lv_aload_n hx hb dd_Re_grows_70 rfl (lv_at hl 0 rfl) ?_
                    refine lv_iload_n hx hb dd_Re_grows_71 rfl (lv_at hl 2 rfl) ?_
                    obtain ⟨r72, hr72, hf⟩ := bind_some hf
                    refine xcalli (rest := [.int r67]) (wc := (wd_Re_weightOf cI cZ a_t a_t_levelWeight a_t_weight a_t_arcs a_t_split a_t_least a_t_most a_t_levelNodes a_t_levelArc a_t_levelIn a_t_row a_t_isFree a_t_best a_t_above a_t_ordered a_t_parts t_nodes t_kinds t_levels t_size t_base t_levelWeight)) (w1 := (wd_Re_weightOf cI cZ a_t a_t_levelWeight a_t_weight a_t_arcs a_t_split a_t_least a_t_most a_t_levelNodes a_t_levelArc a_t_levelIn a_t_row a_t_isFree a_t_best a_t_above a_t_ordered a_t_parts t_nodes t_kinds t_levels t_size t_base t_levelWeight)) (wr := [(a_t_isFree, .inl (cZ, 40, .inl t_isFree)), (a_t_most, .inl (cI, 4, .inl t_most)), (a_t_row, .inl (cI, 40, .inl t_row))]) (ws' := (wd_Re_grows cI cZ a_t a_t_isFree a_t_levelWeight a_t_most a_t_row a_t_weight a_t_arcs a_t_split a_t_least a_t_levelNodes a_t_levelArc a_t_levelIn a_t_best a_t_above a_t_ordered a_t_parts t_nodes t_kinds t_levels t_size t_base t_isFree t_levelWeight t_most t_row)) (va_runV (As := [.int x2]) ⟨hx, hb, hml, hown, hts⟩ (c_Re_weightOf l dC dI cI cZ a_t a_t_levelWeight a_t_weight a_t_arcs a_t_split a_t_least a_t_most a_t_levelNodes a_t_levelArc a_t_levelIn a_t_row a_t_isFree a_t_best a_t_above a_t_ordered a_t_parts H.size x2 t_nodes t_kinds t_levels t_size t_base t_levelWeight r72 hr72) (cwV 1 hts (gV gw_842 gw_844 gw_37 gw_61 gw_845) rfl rfl rfl (yd_Re_weightOf) ⟨Nat.le_of_ble_eq_true rfl, Nat.le_of_ble_eq_true rfl⟩) (mkV hK (hP.sub (ws' := (wd_Re_weightOf cI cZ a_t a_t_levelWeight a_t_weight a_t_arcs a_t_split a_t_least a_t_most a_t_levelNodes a_t_levelArc a_t_levelIn a_t_row a_t_isFree a_t_best a_t_above a_t_ordered a_t_parts t_nodes t_kinds t_levels t_size t_base t_levelWeight)) [0, 2] rfl) (hD.sub (ws' := (wd_Re_weightOf cI cZ a_t a_t_levelWeight a_t_weight a_t_arcs a_t_split a_t_least a_t_most a_t_levelNodes a_t_levelArc a_t_levelIn a_t_row a_t_isFree a_t_best a_t_above a_t_ordered a_t_parts t_nodes t_kinds t_levels t_size t_base t_levelWeight)) [0, 2] (by decide) rfl) hN (va_recv hK hP (ci := 9) (q0 := 0) rfl rfl)) rfl rfl hl.1 rfl (lv_room (Nat.le_of_ble_eq_true rfl)) dd_Re_grows_72 ⟨Nat.zero_le _, Nat.zero_le _⟩) hP hD hS hA [0, 2] [1, 3, 4] [3, 0, 4, 1, 2] rfl rfl (by decide) (by decide) rfl (by decide) rfl (fun H locs hP hD hS => ?_)
                    refine lv_icmp_le (tgt := 80) hx hb dd_Re_grows_75 (by decide) (fun cc => ?_) (fun cc => ?_)
                    · skip
                      have hf := if_t cc hf
                      refine lv_iinc (v := x3 + 1) (lv' := [(3, .int (x3 + 1)), (0, .ref a_t), (1, .int x1), (2, .int x2)]) hx hb dd_Re_grows_80 hl (k := 3) rfl rfl (by decide) rfl (fun ls hl => ?_)
                      refine lv_goto (tgt := 44) hx hb dd_Re_grows_83 (by decide) ?_
                      exact ih44 x1 x2 (x3 + 1) t_isFree t_row _ _ _ hf (lv_sub hl [1, 2, 3, 0] rfl) hP hD hS
                    · skip
                      have hf := if_f cc hf
                      refine lv_iload_n hx hb dd_Re_grows_78 rfl (lv_at hl 3 rfl) ?_
                      refine lv_istore_n (lv' := [(2, .int x3), (0, .ref a_t), (1, .int x1), (3, .int x3)]) hx hb dd_Re_grows_79 rfl hl (by decide) rfl (fun ls hl => ?_)
                      refine lv_iinc (v := x3 + 1) (lv' := [(3, .int (x3 + 1)), (2, .int x3), (0, .ref a_t), (1, .int x1)]) hx hb dd_Re_grows_80 hl (k := 3) rfl rfl (by decide) rfl (fun ls hl => ?_)
                      refine lv_goto (tgt := 44) hx hb dd_Re_grows_83 (by decide) ?_
                      exact ih44 x1 x3 (x3 + 1) t_isFree t_row _ _ _ hf (lv_sub hl [2, 3, 1, 0] rfl) hP hD hS
          refine lv_iload_n hx hb dd_Re_grows_32 rfl (lv_at hl 1 rfl) ?_
          refine lv_aload_n hx hb dd_Re_grows_33 rfl (lv_at hl 0 rfl) ?_
          refine va_get (D := (dC, dI)) (ci := 9) (v := .int t_size) (C := rr_Re) (T := tt_Re) (N := 20) hx hb hts (fun w h => gwc (inn_Re w h)) hown hK hP 0 rfl rfl 12 (by decide) (hts _ (gwc gw_715)) (fun _ h9 => h9) rfl dd_Re_grows_34 ?_
          refine lv_icmp_ge (tgt := 161) hx hb dd_Re_grows_37 (by decide) (fun cc => ?_) (fun cc => ?_)
          · skip
            have hf := if_t cc hf
            cases hf
            exact W.vret hx hb hr (fun t ht hW => ⟨⟨(), rfl, trivial, pst_of ht hP hD⟩, hS.F ht⟩) hS.2.2 dd_Re_grows_161
          · skip
            have hf := if_f cc hf
            refine lv_iconst (v := -1) hx hb dd_Re_grows_40 (by decide) ?_
            refine lv_istore_n (lv' := [(2, .int (-1)), (0, .ref a_t), (1, .int x1)]) hx hb dd_Re_grows_41 rfl hl (by decide) rfl (fun ls hl => ?_)
            refine lv_iconst (v := 0) hx hb dd_Re_grows_42 (by decide) ?_
            refine lv_istore_n (lv' := [(3, .int 0), (2, .int (-1)), (0, .ref a_t), (1, .int x1)]) hx hb dd_Re_grows_43 rfl hl (by decide) rfl (fun ls hl => ?_)
            exact h44 64 x1 (-1) 0 t_isFree t_row _ _ _ hf (lv_sub hl [2, 3, 1, 0] rfl) hP hD hS
      refine lv_iload_n hx hb dd_Re_grows_2 rfl (lv_at hl 1 rfl) ?_
      refine lv_aload_n hx hb dd_Re_grows_3 rfl (lv_at hl 0 rfl) ?_
      refine va_get (D := (dC, dI)) (ci := 9) (v := .int t_size) (C := rr_Re) (T := tt_Re) (N := 20) hx hb hts (fun w h => gwc (inn_Re w h)) hown hK hP 0 rfl rfl 12 (by decide) (hts _ (gwc gw_715)) (fun _ h9 => h9) rfl dd_Re_grows_4 ?_
      refine lv_icmp_ge (tgt := 30) hx hb dd_Re_grows_7 (by decide) (fun cc => ?_) (fun cc => ?_)
      · skip
        have hf := if_t cc hf
        refine lv_iconst (v := 0) hx hb dd_Re_grows_30 (by decide) ?_
        refine lv_istore_n (lv' := [(1, .int 0), (0, .ref a_t)]) hx hb dd_Re_grows_31 rfl hl (by decide) rfl (fun ls hl => ?_)
        exact h32 64 0 t_isFree t_row _ _ _ hf (lv_sub hl [1, 0] rfl) hP hD hS
      · skip
        have hf := if_f cc hf
        refine lv_aload_n hx hb dd_Re_grows_10 rfl (lv_at hl 0 rfl) ?_
        refine va_get (D := (dC, dI)) (ci := 9) (v := .ref a_t_isFree) (C := rr_Re) (T := tt_Re) (N := 20) hx hb hts (fun w h => gwc (inn_Re w h)) hown hK hP 0 rfl rfl 15 (by decide) (hts _ (gwc gw_718)) (fun _ h9 => h9) rfl dd_Re_grows_11 ?_
        refine lv_iload_n hx hb dd_Re_grows_14 rfl (lv_at hl 1 rfl) ?_
        refine lv_iconst (v := 1) hx hb dd_Re_grows_15 (by decide) ?_
        obtain ⟨k16, hf⟩ := ck_some hf
        refine va_zast hx hb hK hP hD hS 1 1 rfl rfl (okb_in k16) dd_Re_grows_16 (fun H locs hP hD hS => ?_)
        have hP : va_P (dC, dI) clsL (wd_Re_grows cI cZ a_t a_t_isFree a_t_levelWeight a_t_most a_t_row a_t_weight a_t_arcs a_t_split a_t_least a_t_levelNodes a_t_levelArc a_t_levelIn a_t_best a_t_above a_t_ordered a_t_parts t_nodes t_kinds t_levels t_size t_base (upd t_isFree (x1).toNatClampNeg (vp_nar .boolean 1)) t_levelWeight t_most t_row) H := hP
        have hD : va_D A (wd_Re_grows cI cZ a_t a_t_isFree a_t_levelWeight a_t_most a_t_row a_t_weight a_t_arcs a_t_split a_t_least a_t_levelNodes a_t_levelArc a_t_levelIn a_t_best a_t_above a_t_ordered a_t_parts t_nodes t_kinds t_levels t_size t_base (upd t_isFree (x1).toNatClampNeg (vp_nar .boolean 1)) t_levelWeight t_most t_row) := hD
        refine lv_aload_n hx hb dd_Re_grows_17 rfl (lv_at hl 0 rfl) ?_
        refine va_get (D := (dC, dI)) (ci := 9) (v := .ref a_t_row) (C := rr_Re) (T := tt_Re) (N := 20) hx hb hts (fun w h => gwc (inn_Re w h)) hown hK hP 0 rfl rfl 14 (by decide) (hts _ (gwc gw_717)) (fun _ h9 => h9) rfl dd_Re_grows_18 ?_
        refine lv_iload_n hx hb dd_Re_grows_21 rfl (lv_at hl 1 rfl) ?_
        refine lv_iconst (v := -1) hx hb dd_Re_grows_22 (by decide) ?_
        obtain ⟨k23, hf⟩ := ck_some hf
        refine va_iast hx hb hK hP hD hS 4 0 rfl rfl (okb_in k23) dd_Re_grows_23 (fun H locs hP hD hS => ?_)
        have hP : va_P (dC, dI) clsL (wd_Re_grows cI cZ a_t a_t_isFree a_t_levelWeight a_t_most a_t_row a_t_weight a_t_arcs a_t_split a_t_least a_t_levelNodes a_t_levelArc a_t_levelIn a_t_best a_t_above a_t_ordered a_t_parts t_nodes t_kinds t_levels t_size t_base (upd t_isFree (x1).toNatClampNeg (vp_nar .boolean 1)) t_levelWeight t_most (upd t_row (x1).toNatClampNeg (-1))) H := hP
        have hD : va_D A (wd_Re_grows cI cZ a_t a_t_isFree a_t_levelWeight a_t_most a_t_row a_t_weight a_t_arcs a_t_split a_t_least a_t_levelNodes a_t_levelArc a_t_levelIn a_t_best a_t_above a_t_ordered a_t_parts t_nodes t_kinds t_levels t_size t_base (upd t_isFree (x1).toNatClampNeg (vp_nar .boolean 1)) t_levelWeight t_most (upd t_row (x1).toNatClampNeg (-1))) := hD
        refine lv_iinc (v := x1 + 1) (lv' := [(1, .int (x1 + 1)), (0, .ref a_t)]) hx hb dd_Re_grows_24 hl (k := 1) rfl rfl (by decide) rfl (fun ls hl => ?_)
        refine lv_goto (tgt := 2) hx hb dd_Re_grows_27 (by decide) ?_
        exact ih2 (x1 + 1) (upd t_isFree (x1).toNatClampNeg (vp_nar .boolean 1)) (upd t_row (x1).toNatClampNeg (-1)) _ _ _ hf (lv_sub hl [1, 0] rfl) hP hD hS
  refine lv_iconst (v := 0) hx hb dd_Re_grows_0 (by decide) ?_
  refine lv_istore_n (lv' := [(1, .int 0), (0, .ref a_t)]) hx hb dd_Re_grows_1 rfl hl (by decide) rfl (fun ls hl => ?_)
  exact h2 64 0 t_isFree t_row _ _ _ hf (lv_sub hl [1, 0] rfl) hP hD hS
abbrev wd_Re_tries (cI cZ : ClassId) (a_t a_t_best a_t_least a_t_levelArc a_t_levelWeight a_t_most a_t_row a_t_weight a_t_arcs a_t_split a_t_levelNodes a_t_levelIn a_t_isFree a_t_above a_t_ordered a_t_parts : Nat) (t_nodes : Int32) (t_kinds : Int32) (t_levels : Int32) (t_size : Int32) (t_base : Int32) (t_best : Nat → Int32) (t_least : Nat → Int32) (t_levelArc : Nat → Int32) (t_levelWeight : Nat → Int32) (t_most : Nat → Int32) (t_row : Nat → Int32) : va_W := [(a_t, .inr (9, [.int t_nodes, .int t_kinds, .ref a_t_weight, .ref a_t_arcs, .ref a_t_split, .ref a_t_least, .ref a_t_most, .int t_levels, .ref a_t_levelNodes, .ref a_t_levelWeight, .ref a_t_levelArc, .ref a_t_levelIn, .int t_size, .int t_base, .ref a_t_row, .ref a_t_isFree, .ref a_t_best, .ref a_t_above, .ref a_t_ordered, .ref a_t_parts])), (a_t_best, .inl (cI, 40, .inl t_best)), (a_t_least, .inl (cI, 4, .inl t_least)), (a_t_levelArc, .inl (cI, 65600, .inl t_levelArc)), (a_t_levelWeight, .inl (cI, 1640, .inl t_levelWeight)), (a_t_most, .inl (cI, 4, .inl t_most)), (a_t_row, .inl (cI, 40, .inl t_row))]
set_option maxRecDepth 100000 in
set_option maxHeartbeats 4000000 in
theorem c_Re_tries (l : Launch) (dC : Nat → ClassId) (dI : Nat → Nat → Nat) (cI cZ : ClassId) (a_t a_t_best a_t_least a_t_levelArc a_t_levelWeight a_t_most a_t_row a_t_weight a_t_arcs a_t_split a_t_levelNodes a_t_levelIn a_t_isFree a_t_above a_t_ordered a_t_parts sz : Nat) (t_nodes : Int32) (t_kinds : Int32) (t_levels : Int32) (t_size : Int32) (t_base : Int32) (t_best : Nat → Int32) (t_least : Nat → Int32) (t_levelArc : Nat → Int32) (t_levelWeight : Nat → Int32) (t_most : Nat → Int32) (t_row : Nat → Int32) (out : (Nat → Int32) × (Nat → Int32)) (hf : f_Re_tries t_kinds t_size t_base t_best t_least t_levelArc t_levelWeight t_most t_row = some out) :
    Met l yy_Re_tries wq_Re_tries ({ frames := 3, cells := 0, slots := 0, locals := 70 }) (va_Pc ([.ref a_t] : List Value) (pre_ (dC, dI) cI cZ sz (wd_Re_tries cI cZ a_t a_t_best a_t_least a_t_levelArc a_t_levelWeight a_t_most a_t_row a_t_weight a_t_arcs a_t_split a_t_levelNodes a_t_levelIn a_t_isFree a_t_above a_t_ordered a_t_parts t_nodes t_kinds t_levels t_size t_base t_best t_least t_levelArc t_levelWeight t_most t_row))) (va_Qv (fun _ : Unit => True) (fun _ => pst (dC, dI) (va_A (wd_Re_tries cI cZ a_t a_t_best a_t_least a_t_levelArc a_t_levelWeight a_t_most a_t_row a_t_weight a_t_arcs a_t_split a_t_levelNodes a_t_levelIn a_t_isFree a_t_above a_t_ordered a_t_parts t_nodes t_kinds t_levels t_size t_base t_best t_least t_levelArc t_levelWeight t_most t_row) sz) (wd_Re_tries cI cZ a_t a_t_best a_t_least a_t_levelArc a_t_levelWeight a_t_most a_t_row a_t_weight a_t_arcs a_t_split a_t_levelNodes a_t_levelIn a_t_isFree a_t_above a_t_ordered a_t_parts t_nodes t_kinds t_levels t_size t_base out.1 t_least t_levelArc t_levelWeight t_most out.2)) (va_A (wd_Re_tries cI cZ a_t a_t_best a_t_least a_t_levelArc a_t_levelWeight a_t_most a_t_row a_t_weight a_t_arcs a_t_split a_t_levelNodes a_t_levelIn a_t_isFree a_t_above a_t_ordered a_t_parts t_nodes t_kinds t_levels t_size t_base t_best t_least t_levelArc t_levelWeight t_most t_row) sz)) 0 0 (va_A (wd_Re_tries cI cZ a_t a_t_best a_t_least a_t_levelArc a_t_levelWeight a_t_most a_t_row a_t_weight a_t_arcs a_t_split a_t_levelNodes a_t_levelIn a_t_isFree a_t_above a_t_ordered a_t_parts t_nodes t_kinds t_levels t_size t_base t_best t_least t_levelArc t_levelWeight t_most t_row) sz) := by
  refine Met.ofW (cc := cc_Re_tries) (maxL := 11) (ret := none) (by decide) rfl ?_
  intro p e s m args below meth c s₁ B hml hv
  obtain ⟨rfl, hsz, hP, hK, hD0, hN⟩ := hv
  have hx := B.exec
  have hb := B.bytes
  have hr := B.returns
  have hts := atoms_spec (ws := wq_Re_tries) B.pre
  have hown : s.vm.findClass rr_Re = some m.cls := findClass_of_methodNamed B.named
  have hlocks := B.notSynchronized
  subst hsz
  have hD := hD0.self (sz := s.heap.size)
  generalize hAe : va_A (wd_Re_tries cI cZ a_t a_t_best a_t_least a_t_levelArc a_t_levelWeight a_t_most a_t_row a_t_weight a_t_arcs a_t_split a_t_levelNodes a_t_levelIn a_t_isFree a_t_above a_t_ordered a_t_parts t_nodes t_kinds t_levels t_size t_base t_best t_least t_levelArc t_levelWeight t_most t_row) s.heap.size = A at hD ⊢
  have hA : ∀ q : Nat, s.heap.size ≤ q → A q := fun q h => by rw [← hAe]; exact Or.inr h
  obtain ⟨H, hH⟩ : ∃ H : Heap, H = s.heap := ⟨_, rfl⟩
  have hS : va_S A s.heap H [] := by rw [hH]; exact va_S.rf
  have hl := lv_entry (([.ref a_t] : List Value)) (n := 11) (Nat.le_of_ble_eq_true rfl)
  rw [lg_entry_eq]
  generalize (lg_sl (([.ref a_t] : List Value)) ++ List.replicate (11 - (lg_sl (([.ref a_t] : List Value))).length) Slot.unset).toArray = ls at hl ⊢
  have hl : lv_has ls 11 [(0, .ref a_t)] := hl
  rw [← hH] at hP ⊢
  have hP : va_P (dC, dI) clsL (wd_Re_tries cI cZ a_t a_t_best a_t_least a_t_levelArc a_t_levelWeight a_t_most a_t_row a_t_weight a_t_arcs a_t_split a_t_levelNodes a_t_levelIn a_t_isFree a_t_above a_t_ordered a_t_parts t_nodes t_kinds t_levels t_size t_base t_best t_least t_levelArc t_levelWeight t_most t_row) H := hP
  unfold f_Re_tries at hf
  have h2 : ∀ (n2 : Nat) (x1 : Int32) (t_row : Nat → Int32) (ls : Array Slot) (H : Heap) (locs : List Loc), L_Re_tries_2 t_kinds t_size t_base t_best t_least t_levelArc t_levelWeight t_most n2 x1 t_row = some out → lv_has ls 11 [(0, .ref a_t), (1, .int x1)] → va_P (dC, dI) clsL (wd_Re_tries cI cZ a_t a_t_best a_t_least a_t_levelArc a_t_levelWeight a_t_most a_t_row a_t_weight a_t_arcs a_t_split a_t_levelNodes a_t_levelIn a_t_isFree a_t_above a_t_ordered a_t_parts t_nodes t_kinds t_levels t_size t_base t_best t_least t_levelArc t_levelWeight t_most t_row) H → va_D A (wd_Re_tries cI cZ a_t a_t_best a_t_least a_t_levelArc a_t_levelWeight a_t_most a_t_row a_t_weight a_t_arcs a_t_split a_t_levelNodes a_t_levelIn a_t_isFree a_t_above a_t_ordered a_t_parts t_nodes t_kinds t_levels t_size t_base t_best t_least t_levelArc t_levelWeight t_most t_row) → va_S A s.heap H locs → W p l e (headSpec wq_Re_tries ({ frames := 3, cells := 0, slots := 0, locals := 70 })).room s m ([.ref a_t] : List Value).toArray below meth c H locs 0 0 (MQ below (va_Qv (fun _ : Unit => True) (fun _ => pst (dC, dI) A (wd_Re_tries cI cZ a_t a_t_best a_t_least a_t_levelArc a_t_levelWeight a_t_most a_t_row a_t_weight a_t_arcs a_t_split a_t_levelNodes a_t_levelIn a_t_isFree a_t_above a_t_ordered a_t_parts t_nodes t_kinds t_levels t_size t_base out.1 t_least t_levelArc t_levelWeight t_most out.2)) A) ([.ref a_t] : List Value).toArray s 0 0 A) (F0 m 2 ls []) := by
    intro n2
    induction n2 with
    | zero =>
      intro x1 t_row ls H locs hf
      rw [L_Re_tries_2] at hf
      exact absurd hf (fun h => by cases h)
    | succ n2 ih2 =>
      intro x1 t_row ls H locs hf hl hP hD hS
      rw [L_Re_tries_2] at hf
      have h32 : ∀ (n32 : Nat) (x1 : Int64) (x3 : Int64) (x5 : Int32) (t_best : Nat → Int32) (t_row : Nat → Int32) (ls : Array Slot) (H : Heap) (locs : List Loc), L_Re_tries_32 t_kinds t_size t_base t_least t_levelArc t_levelWeight t_most n32 x1 x3 x5 t_best t_row = some out → lv_has ls 11 [(0, .ref a_t), (1, .long x1), (3, .long x3), (5, .int x5)] → va_P (dC, dI) clsL (wd_Re_tries cI cZ a_t a_t_best a_t_least a_t_levelArc a_t_levelWeight a_t_most a_t_row a_t_weight a_t_arcs a_t_split a_t_levelNodes a_t_levelIn a_t_isFree a_t_above a_t_ordered a_t_parts t_nodes t_kinds t_levels t_size t_base t_best t_least t_levelArc t_levelWeight t_most t_row) H → va_D A (wd_Re_tries cI cZ a_t a_t_best a_t_least a_t_levelArc a_t_levelWeight a_t_most a_t_row a_t_weight a_t_arcs a_t_split a_t_levelNodes a_t_levelIn a_t_isFree a_t_above a_t_ordered a_t_parts t_nodes t_kinds t_levels t_size t_base t_best t_least t_levelArc t_levelWeight t_most t_row) → va_S A s.heap H locs → W p l e (headSpec wq_Re_tries ({ frames := 3, cells := 0, slots := 0, locals := 70 })).room s m ([.ref a_t] : List Value).toArray below meth c H locs 0 0 (MQ below (va_Qv (fun _ : Unit => True) (fun _ => pst (dC, dI) A (wd_Re_tries cI cZ a_t a_t_best a_t_least a_t_levelArc a_t_levelWeight a_t_most a_t_row a_t_weight a_t_arcs a_t_split a_t_levelNodes a_t_levelIn a_t_isFree a_t_above a_t_ordered a_t_parts t_nodes t_kinds t_levels t_size t_base out.1 t_least t_levelArc t_levelWeight t_most out.2)) A) ([.ref a_t] : List Value).toArray s 0 0 A) (F0 m 32 ls []) := by
        intro n32
        induction n32 with
        | zero =>
          intro x1 x3 x5 t_best t_row ls H locs hf
          rw [L_Re_tries_32] at hf
          exact absurd hf (fun h => by cases h)
        | succ n32 ih32 =>
          intro x1 x3 x5 t_best t_row ls H locs hf hl hP hD hS
          rw [L_Re_tries_32] at hf
          have h64 : ∀ (y0 : Int64) (x1 : Int64) (x3 : Int64) (x6 : Int64) (t_best : Nat → Int32) (t_row : Nat → Int32) (ls : Array Slot) (H : Heap) (locs : List Loc), J_Re_tries_64 t_kinds t_size (L_Re_tries_32 t_kinds t_size t_base t_least t_levelArc t_levelWeight t_most n32) y0 x1 x3 x6 t_best t_row = some out → lv_has ls 11 [(0, .ref a_t), (1, .long x1), (3, .long x3), (6, .long x6)] → va_P (dC, dI) clsL (wd_Re_tries cI cZ a_t a_t_best a_t_least a_t_levelArc a_t_levelWeight a_t_most a_t_row a_t_weight a_t_arcs a_t_split a_t_levelNodes a_t_levelIn a_t_isFree a_t_above a_t_ordered a_t_parts t_nodes t_kinds t_levels t_size t_base t_best t_least t_levelArc t_levelWeight t_most t_row) H → va_D A (wd_Re_tries cI cZ a_t a_t_best a_t_least a_t_levelArc a_t_levelWeight a_t_most a_t_row a_t_weight a_t_arcs a_t_split a_t_levelNodes a_t_levelIn a_t_isFree a_t_above a_t_ordered a_t_parts t_nodes t_kinds t_levels t_size t_base t_best t_least t_levelArc t_levelWeight t_most t_row) → va_S A s.heap H locs → W p l e (headSpec wq_Re_tries ({ frames := 3, cells := 0, slots := 0, locals := 70 })).room s m ([.ref a_t] : List Value).toArray below meth c H locs 0 0 (MQ below (va_Qv (fun _ : Unit => True) (fun _ => pst (dC, dI) A (wd_Re_tries cI cZ a_t a_t_best a_t_least a_t_levelArc a_t_levelWeight a_t_most a_t_row a_t_weight a_t_arcs a_t_split a_t_levelNodes a_t_levelIn a_t_isFree a_t_above a_t_ordered a_t_parts t_nodes t_kinds t_levels t_size t_base out.1 t_least t_levelArc t_levelWeight t_most out.2)) A) ([.ref a_t] : List Value).toArray s 0 0 A) (F0 m 64 ls [.long y0]) := by
            intro y0 x1 x3 x6 t_best t_row ls H locs hf hl hP hD hS
            unfold J_Re_tries_64 at hf
            have h139 : ∀ (n139 : Nat) (x1 : Int64) (x3 : Int64) (x10 : Int32) (t_best : Nat → Int32) (t_row : Nat → Int32) (ls : Array Slot) (H : Heap) (locs : List Loc), L_Re_tries_139 t_kinds (L_Re_tries_32 t_kinds t_size t_base t_least t_levelArc t_levelWeight t_most n32) n139 x1 x3 x10 t_best t_row = some out → lv_has ls 11 [(0, .ref a_t), (1, .long x1), (3, .long x3), (10, .int x10)] → va_P (dC, dI) clsL (wd_Re_tries cI cZ a_t a_t_best a_t_least a_t_levelArc a_t_levelWeight a_t_most a_t_row a_t_weight a_t_arcs a_t_split a_t_levelNodes a_t_levelIn a_t_isFree a_t_above a_t_ordered a_t_parts t_nodes t_kinds t_levels t_size t_base t_best t_least t_levelArc t_levelWeight t_most t_row) H → va_D A (wd_Re_tries cI cZ a_t a_t_best a_t_least a_t_levelArc a_t_levelWeight a_t_most a_t_row a_t_weight a_t_arcs a_t_split a_t_levelNodes a_t_levelIn a_t_isFree a_t_above a_t_ordered a_t_parts t_nodes t_kinds t_levels t_size t_base t_best t_least t_levelArc t_levelWeight t_most t_row) → va_S A s.heap H locs → W p l e (headSpec wq_Re_tries ({ frames := 3, cells := 0, slots := 0, locals := 70 })).room s m ([.ref a_t] : List Value).toArray below meth c H locs 0 0 (MQ below (va_Qv (fun _ : Unit => True) (fun _ => pst (dC, dI) A (wd_Re_tries cI cZ a_t a_t_best a_t_least a_t_levelArc a_t_levelWeight a_t_most a_t_row a_t_weight a_t_arcs a_t_split a_t_levelNodes a_t_levelIn a_t_isFree a_t_above a_t_ordered a_t_parts t_nodes t_kinds t_levels t_size t_base out.1 t_least t_levelArc t_levelWeight t_most out.2)) A) ([.ref a_t] : List Value).toArray s 0 0 A) (F0 m 139 ls []) := by
              intro n139
              induction n139 with
              | zero =>
                intro x1 x3 x10 t_best t_row ls H locs hf
                rw [L_Re_tries_139] at hf
                exact absurd hf (fun h => by cases h)
              | succ n139 ih139 =>
                intro x1 x3 x10 t_best t_row ls H locs hf hl hP hD hS
                rw [L_Re_tries_139] at hf
                have h174 : ∀ (x1 : Int64) (x3 : Int64) (x10 : Int32) (t_best : Nat → Int32) (t_row : Nat → Int32) (ls : Array Slot) (H : Heap) (locs : List Loc), J_Re_tries_174 (L_Re_tries_32 t_kinds t_size t_base t_least t_levelArc t_levelWeight t_most n32) x1 x3 x10 t_best t_row = some out → lv_has ls 11 [(0, .ref a_t), (1, .long x1), (3, .long x3), (10, .int x10)] → va_P (dC, dI) clsL (wd_Re_tries cI cZ a_t a_t_best a_t_least a_t_levelArc a_t_levelWeight a_t_most a_t_row a_t_weight a_t_arcs a_t_split a_t_levelNodes a_t_levelIn a_t_isFree a_t_above a_t_ordered a_t_parts t_nodes t_kinds t_levels t_size t_base t_best t_least t_levelArc t_levelWeight t_most t_row) H → va_D A (wd_Re_tries cI cZ a_t a_t_best a_t_least a_t_levelArc a_t_levelWeight a_t_most a_t_row a_t_weight a_t_arcs a_t_split a_t_levelNodes a_t_levelIn a_t_isFree a_t_above a_t_ordered a_t_parts t_nodes t_kinds t_levels t_size t_base t_best t_least t_levelArc t_levelWeight t_most t_row) → va_S A s.heap H locs → W p l e (headSpec wq_Re_tries ({ frames := 3, cells := 0, slots := 0, locals := 70 })).room s m ([.ref a_t] : List Value).toArray below meth c H locs 0 0 (MQ below (va_Qv (fun _ : Unit => True) (fun _ => pst (dC, dI) A (wd_Re_tries cI cZ a_t a_t_best a_t_least a_t_levelArc a_t_levelWeight a_t_most a_t_row a_t_weight a_t_arcs a_t_split a_t_levelNodes a_t_levelIn a_t_isFree a_t_above a_t_ordered a_t_parts t_nodes t_kinds t_levels t_size t_base out.1 t_least t_levelArc t_levelWeight t_most out.2)) A) ([.ref a_t] : List Value).toArray s 0 0 A) (F0 m 174 ls []) := by
                  intro x1 x3 x10 t_best t_row ls H locs hf hl hP hD hS
                  unfold J_Re_tries_174 at hf
                  have h184 : ∀ (y0 : Int32) (x1 : Int64) (x3 : Int64) (x10 : Int32) (t_best : Nat → Int32) (t_row : Nat → Int32) (ls : Array Slot) (H : Heap) (locs : List Loc), J_Re_tries_184 (L_Re_tries_32 t_kinds t_size t_base t_least t_levelArc t_levelWeight t_most n32) y0 x1 x3 x10 t_best t_row = some out → lv_has ls 11 [(0, .ref a_t), (1, .long x1), (3, .long x3), (10, .int x10)] → va_P (dC, dI) clsL (wd_Re_tries cI cZ a_t a_t_best a_t_least a_t_levelArc a_t_levelWeight a_t_most a_t_row a_t_weight a_t_arcs a_t_split a_t_levelNodes a_t_levelIn a_t_isFree a_t_above a_t_ordered a_t_parts t_nodes t_kinds t_levels t_size t_base t_best t_least t_levelArc t_levelWeight t_most t_row) H → va_D A (wd_Re_tries cI cZ a_t a_t_best a_t_least a_t_levelArc a_t_levelWeight a_t_most a_t_row a_t_weight a_t_arcs a_t_split a_t_levelNodes a_t_levelIn a_t_isFree a_t_above a_t_ordered a_t_parts t_nodes t_kinds t_levels t_size t_base t_best t_least t_levelArc t_levelWeight t_most t_row) → va_S A s.heap H locs → W p l e (headSpec wq_Re_tries ({ frames := 3, cells := 0, slots := 0, locals := 70 })).room s m ([.ref a_t] : List Value).toArray below meth c H locs 0 0 (MQ below (va_Qv (fun _ : Unit => True) (fun _ => pst (dC, dI) A (wd_Re_tries cI cZ a_t a_t_best a_t_least a_t_levelArc a_t_levelWeight a_t_most a_t_row a_t_weight a_t_arcs a_t_split a_t_levelNodes a_t_levelIn a_t_isFree a_t_above a_t_ordered a_t_parts t_nodes t_kinds t_levels t_size t_base out.1 t_least t_levelArc t_levelWeight t_most out.2)) A) ([.ref a_t] : List Value).toArray s 0 0 A) (F0 m 184 ls [.int y0]) := by
                    intro y0 x1 x3 x10 t_best t_row ls H locs hf hl hP hD hS
                    unfold J_Re_tries_184 at hf
                    refine lv_istore (lv' := [(5, .int y0), (0, .ref a_t), (1, .long x1), (3, .long x3), (10, .int x10)]) hx hb dd_Re_tries_184 hl (by decide) rfl (fun ls hl => ?_)
                    refine lv_iload hx hb dd_Re_tries_186 (lv_at hl 0 rfl) ?_
                    refine lv_if_eq (tgt := 202) hx hb dd_Re_tries_188 (by decide) (fun cc => ?_) (fun cc => ?_)
                    · skip
                      have hf := if_t cc hf
                      refine lv_goto (tgt := 32) hx hb dd_Re_tries_202 (by decide) ?_
                      exact ih32 x1 x3 y0 t_best t_row _ _ _ hf (lv_sub hl [1, 2, 3, 0] rfl) hP hD hS
                    · skip
                      have hf := if_f cc hf
                      refine lv_aload_n hx hb dd_Re_tries_191 rfl (lv_at hl 1 rfl) ?_
                      refine va_get (D := (dC, dI)) (ci := 9) (v := .ref a_t_row) (C := rr_Re) (T := tt_Re) (N := 20) hx hb hts (fun w h => gwc (inn_Re w h)) hown hK hP 0 rfl rfl 14 (by decide) (hts _ (gwc gw_717)) (fun _ h9 => h9) rfl dd_Re_tries_192 ?_
                      refine lv_iload hx hb dd_Re_tries_195 (lv_at hl 4 rfl) ?_
                      refine lv_dup2_11 hx hb dd_Re_tries_197 rfl rfl ?_
                      obtain ⟨k198, hf⟩ := ck_some hf
                      refine va_iald hx hb hK hP 6 0 rfl rfl (okb_in k198) dd_Re_tries_198 ?_
                      refine lv_iconst (v := 1) hx hb dd_Re_tries_199 (by decide) ?_
                      refine lv_iadd hx hb dd_Re_tries_200 ?_
                      obtain ⟨k201, hf⟩ := ck_some hf
                      refine va_iast hx hb hK hP hD hS 6 0 rfl rfl (okb_in k201) dd_Re_tries_201 (fun H locs hP hD hS => ?_)
                      have hP : va_P (dC, dI) clsL (wd_Re_tries cI cZ a_t a_t_best a_t_least a_t_levelArc a_t_levelWeight a_t_most a_t_row a_t_weight a_t_arcs a_t_split a_t_levelNodes a_t_levelIn a_t_isFree a_t_above a_t_ordered a_t_parts t_nodes t_kinds t_levels t_size t_base t_best t_least t_levelArc t_levelWeight t_most (upd t_row (x10).toNatClampNeg ((t_row (x10).toNatClampNeg) + 1))) H := hP
                      have hD : va_D A (wd_Re_tries cI cZ a_t a_t_best a_t_least a_t_levelArc a_t_levelWeight a_t_most a_t_row a_t_weight a_t_arcs a_t_split a_t_levelNodes a_t_levelIn a_t_isFree a_t_above a_t_ordered a_t_parts t_nodes t_kinds t_levels t_size t_base t_best t_least t_levelArc t_levelWeight t_most (upd t_row (x10).toNatClampNeg ((t_row (x10).toNatClampNeg) + 1))) := hD
                      refine lv_goto (tgt := 32) hx hb dd_Re_tries_202 (by decide) ?_
                      exact ih32 x1 x3 y0 t_best (upd t_row (x10).toNatClampNeg ((t_row (x10).toNatClampNeg) + 1)) _ _ _ hf (lv_sub hl [1, 2, 3, 0] rfl) hP hD hS
                  refine lv_iload hx hb dd_Re_tries_174 (lv_at hl 3 rfl) ?_
                  refine lv_if_lt (tgt := 183) hx hb dd_Re_tries_176 (by decide) (fun cc => ?_) (fun cc => ?_)
                  · skip
                    have hf := if_t cc hf
                    refine lv_iconst (v := 0) hx hb dd_Re_tries_183 (by decide) ?_
                    exact h184 0 x1 x3 x10 t_best t_row _ _ _ hf (lv_sub hl [0, 1, 2, 3] rfl) hP hD hS
                  · skip
                    have hf := if_f cc hf
                    refine lv_iconst (v := 1) hx hb dd_Re_tries_179 (by decide) ?_
                    refine lv_goto (tgt := 184) hx hb dd_Re_tries_180 (by decide) ?_
                    exact h184 1 x1 x3 x10 t_best t_row _ _ _ hf (lv_sub hl [0, 1, 2, 3] rfl) hP hD hS
                refine lv_iload hx hb dd_Re_tries_139 (lv_at hl 3 rfl) ?_
                refine lv_if_lt (tgt := 174) hx hb dd_Re_tries_141 (by decide) (fun cc => ?_) (fun cc => ?_)
                · skip
                  have hf := if_t cc hf
                  exact h174 x1 x3 x10 t_best t_row _ _ _ hf (lv_sub hl [0, 1, 2, 3] rfl) hP hD hS
                · skip
                  have hf := if_f cc hf
                  refine lv_aload_n hx hb dd_Re_tries_144 rfl (lv_at hl 0 rfl) ?_
                  refine va_get (D := (dC, dI)) (ci := 9) (v := .ref a_t_row) (C := rr_Re) (T := tt_Re) (N := 20) hx hb hts (fun w h => gwc (inn_Re w h)) hown hK hP 0 rfl rfl 14 (by decide) (hts _ (gwc gw_717)) (fun _ h9 => h9) rfl dd_Re_tries_145 ?_
                  refine lv_iload hx hb dd_Re_tries_148 (lv_at hl 3 rfl) ?_
                  obtain ⟨k150, hf⟩ := ck_some hf
                  refine va_iald hx hb hK hP 6 0 rfl rfl (okb_in k150) dd_Re_tries_150 ?_
                  refine lv_aload_n hx hb dd_Re_tries_151 rfl (lv_at hl 0 rfl) ?_
                  refine va_get (D := (dC, dI)) (ci := 9) (v := .int t_kinds) (C := rr_Re) (T := tt_Re) (N := 20) hx hb hts (fun w h => gwc (inn_Re w h)) hown hK hP 0 rfl rfl 1 (by decide) (hts _ (gwc gw_704)) (fun _ h9 => h9) rfl dd_Re_tries_152 ?_
                  refine lv_iconst (v := 1) hx hb dd_Re_tries_155 (by decide) ?_
                  refine lv_isub hx hb dd_Re_tries_156 ?_
                  refine lv_icmp_ne (tgt := 174) hx hb dd_Re_tries_157 (by decide) (fun cc => ?_) (fun cc => ?_)
                  · skip
                    have hf := if_f cc hf
                    exact h174 x1 x3 x10 t_best t_row _ _ _ hf (lv_sub hl [0, 1, 2, 3] rfl) hP hD hS
                  · skip
                    have hf := if_t cc hf
                    refine lv_aload_n hx hb dd_Re_tries_160 rfl (lv_at hl 0 rfl) ?_
                    refine va_get (D := (dC, dI)) (ci := 9) (v := .ref a_t_row) (C := rr_Re) (T := tt_Re) (N := 20) hx hb hts (fun w h => gwc (inn_Re w h)) hown hK hP 0 rfl rfl 14 (by decide) (hts _ (gwc gw_717)) (fun _ h9 => h9) rfl dd_Re_tries_161 ?_
                    refine lv_iload hx hb dd_Re_tries_164 (lv_at hl 3 rfl) ?_
                    refine lv_iinc (v := x10 + (-1)) (lv' := [(10, .int (x10 + (-1))), (0, .ref a_t), (1, .long x1), (3, .long x3)]) hx hb dd_Re_tries_166 hl (k := 3) rfl rfl (by decide) rfl (fun ls hl => ?_)
                    refine lv_iconst (v := 0) hx hb dd_Re_tries_169 (by decide) ?_
                    obtain ⟨k170, hf⟩ := ck_some hf
                    refine va_iast hx hb hK hP hD hS 6 0 rfl rfl (okb_in k170) dd_Re_tries_170 (fun H locs hP hD hS => ?_)
                    have hP : va_P (dC, dI) clsL (wd_Re_tries cI cZ a_t a_t_best a_t_least a_t_levelArc a_t_levelWeight a_t_most a_t_row a_t_weight a_t_arcs a_t_split a_t_levelNodes a_t_levelIn a_t_isFree a_t_above a_t_ordered a_t_parts t_nodes t_kinds t_levels t_size t_base t_best t_least t_levelArc t_levelWeight t_most (upd t_row (x10).toNatClampNeg 0)) H := hP
                    have hD : va_D A (wd_Re_tries cI cZ a_t a_t_best a_t_least a_t_levelArc a_t_levelWeight a_t_most a_t_row a_t_weight a_t_arcs a_t_split a_t_levelNodes a_t_levelIn a_t_isFree a_t_above a_t_ordered a_t_parts t_nodes t_kinds t_levels t_size t_base t_best t_least t_levelArc t_levelWeight t_most (upd t_row (x10).toNatClampNeg 0)) := hD
                    refine lv_goto (tgt := 139) hx hb dd_Re_tries_171 (by decide) ?_
                    exact ih139 x1 x3 (x10 + (-1)) t_best (upd t_row (x10).toNatClampNeg 0) _ _ _ hf (lv_sub hl [1, 2, 3, 0] rfl) hP hD hS
            have h102 : ∀ (n102 : Nat) (x1 : Int64) (x3 : Int64) (x10 : Int32) (t_best : Nat → Int32) (t_row : Nat → Int32) (ls : Array Slot) (H : Heap) (locs : List Loc), L_Re_tries_102 t_kinds t_size (L_Re_tries_32 t_kinds t_size t_base t_least t_levelArc t_levelWeight t_most n32) n102 x1 x3 x10 t_best t_row = some out → lv_has ls 11 [(0, .ref a_t), (1, .long x1), (3, .long x3), (10, .int x10)] → va_P (dC, dI) clsL (wd_Re_tries cI cZ a_t a_t_best a_t_least a_t_levelArc a_t_levelWeight a_t_most a_t_row a_t_weight a_t_arcs a_t_split a_t_levelNodes a_t_levelIn a_t_isFree a_t_above a_t_ordered a_t_parts t_nodes t_kinds t_levels t_size t_base t_best t_least t_levelArc t_levelWeight t_most t_row) H → va_D A (wd_Re_tries cI cZ a_t a_t_best a_t_least a_t_levelArc a_t_levelWeight a_t_most a_t_row a_t_weight a_t_arcs a_t_split a_t_levelNodes a_t_levelIn a_t_isFree a_t_above a_t_ordered a_t_parts t_nodes t_kinds t_levels t_size t_base t_best t_least t_levelArc t_levelWeight t_most t_row) → va_S A s.heap H locs → W p l e (headSpec wq_Re_tries ({ frames := 3, cells := 0, slots := 0, locals := 70 })).room s m ([.ref a_t] : List Value).toArray below meth c H locs 0 0 (MQ below (va_Qv (fun _ : Unit => True) (fun _ => pst (dC, dI) A (wd_Re_tries cI cZ a_t a_t_best a_t_least a_t_levelArc a_t_levelWeight a_t_most a_t_row a_t_weight a_t_arcs a_t_split a_t_levelNodes a_t_levelIn a_t_isFree a_t_above a_t_ordered a_t_parts t_nodes t_kinds t_levels t_size t_base out.1 t_least t_levelArc t_levelWeight t_most out.2)) A) ([.ref a_t] : List Value).toArray s 0 0 A) (F0 m 102 ls []) := by
              intro n102
              induction n102 with
              | zero =>
                intro x1 x3 x10 t_best t_row ls H locs hf
                rw [L_Re_tries_102] at hf
                exact absurd hf (fun h => by cases h)
              | succ n102 ih102 =>
                intro x1 x3 x10 t_best t_row ls H locs hf hl hP hD hS
                rw [L_Re_tries_102] at hf
                refine lv_iload hx hb dd_Re_tries_102 (lv_at hl 3 rfl) ?_
                refine lv_aload_n hx hb dd_Re_tries_104 rfl (lv_at hl 0 rfl) ?_
                refine va_get (D := (dC, dI)) (ci := 9) (v := .int t_size) (C := rr_Re) (T := tt_Re) (N := 20) hx hb hts (fun w h => gwc (inn_Re w h)) hown hK hP 0 rfl rfl 12 (by decide) (hts _ (gwc gw_715)) (fun _ h9 => h9) rfl dd_Re_tries_105 ?_
                refine lv_icmp_ge (tgt := 131) hx hb dd_Re_tries_108 (by decide) (fun cc => ?_) (fun cc => ?_)
                · skip
                  have hf := if_t cc hf
                  refine lv_aload_n hx hb dd_Re_tries_131 rfl (lv_at hl 0 rfl) ?_
                  refine va_get (D := (dC, dI)) (ci := 9) (v := .int t_size) (C := rr_Re) (T := tt_Re) (N := 20) hx hb hts (fun w h => gwc (inn_Re w h)) hown hK hP 0 rfl rfl 12 (by decide) (hts _ (gwc gw_715)) (fun _ h9 => h9) rfl dd_Re_tries_132 ?_
                  refine lv_iconst (v := 1) hx hb dd_Re_tries_135 (by decide) ?_
                  refine lv_isub hx hb dd_Re_tries_136 ?_
                  refine lv_istore (lv' := [(10, .int (t_size - 1)), (0, .ref a_t), (1, .long x1), (3, .long x3)]) hx hb dd_Re_tries_137 hl (by decide) rfl (fun ls hl => ?_)
                  exact h139 64 x1 x3 (t_size - 1) t_best t_row _ _ _ hf (lv_sub hl [1, 2, 3, 0] rfl) hP hD hS
                · skip
                  have hf := if_f cc hf
                  refine lv_aload_n hx hb dd_Re_tries_111 rfl (lv_at hl 0 rfl) ?_
                  refine va_get (D := (dC, dI)) (ci := 9) (v := .ref a_t_best) (C := rr_Re) (T := tt_Re) (N := 20) hx hb hts (fun w h => gwc (inn_Re w h)) hown hK hP 0 rfl rfl 16 (by decide) (hts _ (gwc gw_719)) (fun _ h9 => h9) rfl dd_Re_tries_112 ?_
                  refine lv_iload hx hb dd_Re_tries_115 (lv_at hl 3 rfl) ?_
                  refine lv_aload_n hx hb dd_Re_tries_117 rfl (lv_at hl 0 rfl) ?_
                  refine va_get (D := (dC, dI)) (ci := 9) (v := .ref a_t_row) (C := rr_Re) (T := tt_Re) (N := 20) hx hb hts (fun w h => gwc (inn_Re w h)) hown hK hP 0 rfl rfl 14 (by decide) (hts _ (gwc gw_717)) (fun _ h9 => h9) rfl dd_Re_tries_118 ?_
                  refine lv_iload hx hb dd_Re_tries_121 (lv_at hl 3 rfl) ?_
                  obtain ⟨k123, hf⟩ := ck_some hf
                  refine va_iald hx hb hK hP 6 0 rfl rfl (okb_in k123) dd_Re_tries_123 ?_
                  obtain ⟨k124, hf⟩ := ck_some hf
                  refine va_iast hx hb hK hP hD hS 1 0 rfl rfl (okb_in k124) dd_Re_tries_124 (fun H locs hP hD hS => ?_)
                  have hP : va_P (dC, dI) clsL (wd_Re_tries cI cZ a_t a_t_best a_t_least a_t_levelArc a_t_levelWeight a_t_most a_t_row a_t_weight a_t_arcs a_t_split a_t_levelNodes a_t_levelIn a_t_isFree a_t_above a_t_ordered a_t_parts t_nodes t_kinds t_levels t_size t_base (upd t_best (x10).toNatClampNeg (t_row (x10).toNatClampNeg)) t_least t_levelArc t_levelWeight t_most t_row) H := hP
                  have hD : va_D A (wd_Re_tries cI cZ a_t a_t_best a_t_least a_t_levelArc a_t_levelWeight a_t_most a_t_row a_t_weight a_t_arcs a_t_split a_t_levelNodes a_t_levelIn a_t_isFree a_t_above a_t_ordered a_t_parts t_nodes t_kinds t_levels t_size t_base (upd t_best (x10).toNatClampNeg (t_row (x10).toNatClampNeg)) t_least t_levelArc t_levelWeight t_most t_row) := hD
                  refine lv_iinc (v := x10 + 1) (lv' := [(10, .int (x10 + 1)), (0, .ref a_t), (1, .long x1), (3, .long x3)]) hx hb dd_Re_tries_125 hl (k := 3) rfl rfl (by decide) rfl (fun ls hl => ?_)
                  refine lv_goto (tgt := 102) hx hb dd_Re_tries_128 (by decide) ?_
                  exact ih102 x1 x3 (x10 + 1) (upd t_best (x10).toNatClampNeg (t_row (x10).toNatClampNeg)) t_row _ _ _ hf (lv_sub hl [1, 2, 3, 0] rfl) hP hD hS
            refine lv_lstore (lv' := [(8, .long y0), (0, .ref a_t), (1, .long x1), (3, .long x3), (6, .long x6)]) hx hb dd_Re_tries_64 hl (by decide) rfl (fun ls hl => ?_)
            refine lv_lload_n hx hb dd_Re_tries_66 rfl (lv_at hl 2 rfl) ?_
            refine lv_lconst (v := 0) hx hb dd_Re_tries_67 (by decide) ?_
            refine W.lcmp hx hb dd_Re_tries_68 ?_
            refine lv_if_lt (tgt := 93) hx hb dd_Re_tries_69 (by decide) (fun cc => ?_) (fun cc => ?_)
            · skip
              have hf := if_t cc hf
              refine lv_lload hx hb dd_Re_tries_93 (lv_at hl 4 rfl) ?_
              refine lv_lstore_n (lv' := [(1, .long x6), (8, .long y0), (0, .ref a_t), (3, .long x3), (6, .long x6)]) hx hb dd_Re_tries_95 rfl hl (by decide) rfl (fun ls hl => ?_)
              refine lv_lload hx hb dd_Re_tries_96 (lv_at hl 1 rfl) ?_
              refine lv_lstore_n (lv' := [(3, .long y0), (1, .long x6), (8, .long y0), (0, .ref a_t), (6, .long x6)]) hx hb dd_Re_tries_98 rfl hl (by decide) rfl (fun ls hl => ?_)
              refine lv_iconst (v := 0) hx hb dd_Re_tries_99 (by decide) ?_
              refine lv_istore (lv' := [(10, .int 0), (3, .long y0), (1, .long x6), (8, .long y0), (0, .ref a_t), (6, .long x6)]) hx hb dd_Re_tries_100 hl (by decide) rfl (fun ls hl => ?_)
              exact h102 64 x6 y0 0 t_best t_row _ _ _ hf (lv_sub hl [4, 2, 1, 0] rfl) hP hD hS
            · skip
              have hf := if_f cc hf
              refine lv_lload hx hb dd_Re_tries_72 (lv_at hl 4 rfl) ?_
              refine lv_lload_n hx hb dd_Re_tries_74 rfl (lv_at hl 2 rfl) ?_
              refine W.lcmp hx hb dd_Re_tries_75 ?_
              refine lv_if_lt (tgt := 93) hx hb dd_Re_tries_76 (by decide) (fun cc => ?_) (fun cc => ?_)
              · skip
                have hf := if_t cc hf
                refine lv_lload hx hb dd_Re_tries_93 (lv_at hl 4 rfl) ?_
                refine lv_lstore_n (lv' := [(1, .long x6), (8, .long y0), (0, .ref a_t), (3, .long x3), (6, .long x6)]) hx hb dd_Re_tries_95 rfl hl (by decide) rfl (fun ls hl => ?_)
                refine lv_lload hx hb dd_Re_tries_96 (lv_at hl 1 rfl) ?_
                refine lv_lstore_n (lv' := [(3, .long y0), (1, .long x6), (8, .long y0), (0, .ref a_t), (6, .long x6)]) hx hb dd_Re_tries_98 rfl hl (by decide) rfl (fun ls hl => ?_)
                refine lv_iconst (v := 0) hx hb dd_Re_tries_99 (by decide) ?_
                refine lv_istore (lv' := [(10, .int 0), (3, .long y0), (1, .long x6), (8, .long y0), (0, .ref a_t), (6, .long x6)]) hx hb dd_Re_tries_100 hl (by decide) rfl (fun ls hl => ?_)
                exact h102 64 x6 y0 0 t_best t_row _ _ _ hf (lv_sub hl [4, 2, 1, 0] rfl) hP hD hS
              · skip
                have hf := if_f cc hf
                refine lv_lload hx hb dd_Re_tries_79 (lv_at hl 4 rfl) ?_
                refine lv_lload_n hx hb dd_Re_tries_81 rfl (lv_at hl 2 rfl) ?_
                refine W.lcmp hx hb dd_Re_tries_82 ?_
                refine lv_if_ne (tgt := 131) hx hb dd_Re_tries_83 (by decide) (fun cc => ?_) (fun cc => ?_)
                · skip
                  have hf := if_f cc hf
                  refine lv_aload_n hx hb dd_Re_tries_131 rfl (lv_at hl 1 rfl) ?_
                  refine va_get (D := (dC, dI)) (ci := 9) (v := .int t_size) (C := rr_Re) (T := tt_Re) (N := 20) hx hb hts (fun w h => gwc (inn_Re w h)) hown hK hP 0 rfl rfl 12 (by decide) (hts _ (gwc gw_715)) (fun _ h9 => h9) rfl dd_Re_tries_132 ?_
                  refine lv_iconst (v := 1) hx hb dd_Re_tries_135 (by decide) ?_
                  refine lv_isub hx hb dd_Re_tries_136 ?_
                  refine lv_istore (lv' := [(10, .int (t_size - 1)), (8, .long y0), (0, .ref a_t), (1, .long x1), (3, .long x3), (6, .long x6)]) hx hb dd_Re_tries_137 hl (by decide) rfl (fun ls hl => ?_)
                  exact h139 64 x1 x3 (t_size - 1) t_best t_row _ _ _ hf (lv_sub hl [2, 3, 4, 0] rfl) hP hD hS
                · skip
                  have hf := if_t cc hf
                  refine lv_lload hx hb dd_Re_tries_86 (lv_at hl 0 rfl) ?_
                  refine lv_lload_n hx hb dd_Re_tries_88 rfl (lv_at hl 3 rfl) ?_
                  refine W.lcmp hx hb dd_Re_tries_89 ?_
                  refine lv_if_ge (tgt := 131) hx hb dd_Re_tries_90 (by decide) (fun cc => ?_) (fun cc => ?_)
                  · skip
                    have hf := if_t cc hf
                    refine lv_aload_n hx hb dd_Re_tries_131 rfl (lv_at hl 1 rfl) ?_
                    refine va_get (D := (dC, dI)) (ci := 9) (v := .int t_size) (C := rr_Re) (T := tt_Re) (N := 20) hx hb hts (fun w h => gwc (inn_Re w h)) hown hK hP 0 rfl rfl 12 (by decide) (hts _ (gwc gw_715)) (fun _ h9 => h9) rfl dd_Re_tries_132 ?_
                    refine lv_iconst (v := 1) hx hb dd_Re_tries_135 (by decide) ?_
                    refine lv_isub hx hb dd_Re_tries_136 ?_
                    refine lv_istore (lv' := [(10, .int (t_size - 1)), (8, .long y0), (0, .ref a_t), (1, .long x1), (3, .long x3), (6, .long x6)]) hx hb dd_Re_tries_137 hl (by decide) rfl (fun ls hl => ?_)
                    exact h139 64 x1 x3 (t_size - 1) t_best t_row _ _ _ hf (lv_sub hl [2, 3, 4, 0] rfl) hP hD hS
                  · skip
                    have hf := if_f cc hf
                    refine lv_lload hx hb dd_Re_tries_93 (lv_at hl 4 rfl) ?_
                    refine lv_lstore_n (lv' := [(1, .long x6), (8, .long y0), (0, .ref a_t), (3, .long x3), (6, .long x6)]) hx hb dd_Re_tries_95 rfl hl (by decide) rfl (fun ls hl => ?_)
                    refine lv_lload hx hb dd_Re_tries_96 (lv_at hl 1 rfl) ?_
                    refine lv_lstore_n (lv' := [(3, .long y0), (1, .long x6), (8, .long y0), (0, .ref a_t), (6, .long x6)]) hx hb dd_Re_tries_98 rfl hl (by decide) rfl (fun ls hl => ?_)
                    refine lv_iconst (v := 0) hx hb dd_Re_tries_99 (by decide) ?_
                    refine lv_istore (lv' := [(10, .int 0), (3, .long y0), (1, .long x6), (8, .long y0), (0, .ref a_t), (6, .long x6)]) hx hb dd_Re_tries_100 hl (by decide) rfl (fun ls hl => ?_)
                    exact h102 64 x6 y0 0 t_best t_row _ _ _ hf (lv_sub hl [4, 2, 1, 0] rfl) hP hD hS
          have h56 : ∀ (x1 : Int64) (x3 : Int64) (x6 : Int64) (t_best : Nat → Int32) (t_row : Nat → Int32) (ls : Array Slot) (H : Heap) (locs : List Loc), J_Re_tries_56 t_kinds t_size t_base t_levelArc (L_Re_tries_32 t_kinds t_size t_base t_least t_levelArc t_levelWeight t_most n32) x1 x3 x6 t_best t_row = some out → lv_has ls 11 [(0, .ref a_t), (1, .long x1), (3, .long x3), (6, .long x6)] → va_P (dC, dI) clsL (wd_Re_tries cI cZ a_t a_t_best a_t_least a_t_levelArc a_t_levelWeight a_t_most a_t_row a_t_weight a_t_arcs a_t_split a_t_levelNodes a_t_levelIn a_t_isFree a_t_above a_t_ordered a_t_parts t_nodes t_kinds t_levels t_size t_base t_best t_least t_levelArc t_levelWeight t_most t_row) H → va_D A (wd_Re_tries cI cZ a_t a_t_best a_t_least a_t_levelArc a_t_levelWeight a_t_most a_t_row a_t_weight a_t_arcs a_t_split a_t_levelNodes a_t_levelIn a_t_isFree a_t_above a_t_ordered a_t_parts t_nodes t_kinds t_levels t_size t_base t_best t_least t_levelArc t_levelWeight t_most t_row) → va_S A s.heap H locs → W p l e (headSpec wq_Re_tries ({ frames := 3, cells := 0, slots := 0, locals := 70 })).room s m ([.ref a_t] : List Value).toArray below meth c H locs 0 0 (MQ below (va_Qv (fun _ : Unit => True) (fun _ => pst (dC, dI) A (wd_Re_tries cI cZ a_t a_t_best a_t_least a_t_levelArc a_t_levelWeight a_t_most a_t_row a_t_weight a_t_arcs a_t_split a_t_levelNodes a_t_levelIn a_t_isFree a_t_above a_t_ordered a_t_parts t_nodes t_kinds t_levels t_size t_base out.1 t_least t_levelArc t_levelWeight t_most out.2)) A) ([.ref a_t] : List Value).toArray s 0 0 A) (F0 m 56 ls []) := by
            intro x1 x3 x6 t_best t_row ls H locs hf hl hP hD hS
            unfold J_Re_tries_56 at hf
            refine lv_aload_n hx hb dd_Re_tries_56 rfl (lv_at hl 0 rfl) ?_
            obtain ⟨r57, hr57, hf⟩ := bind_some hf
            refine xcalll (rest := []) (wc := (wd_Re_rowCut cI cZ a_t a_t_levelArc a_t_row a_t_weight a_t_arcs a_t_split a_t_least a_t_most a_t_levelNodes a_t_levelWeight a_t_levelIn a_t_isFree a_t_best a_t_above a_t_ordered a_t_parts t_nodes t_kinds t_levels t_size t_base t_levelArc t_row)) (w1 := (wd_Re_rowCut cI cZ a_t a_t_levelArc a_t_row a_t_weight a_t_arcs a_t_split a_t_least a_t_most a_t_levelNodes a_t_levelWeight a_t_levelIn a_t_isFree a_t_best a_t_above a_t_ordered a_t_parts t_nodes t_kinds t_levels t_size t_base t_levelArc t_row)) (wr := [(a_t_best, .inl (cI, 40, .inl t_best)), (a_t_least, .inl (cI, 4, .inl t_least)), (a_t_levelWeight, .inl (cI, 1640, .inl t_levelWeight)), (a_t_most, .inl (cI, 4, .inl t_most))]) (ws' := (wd_Re_tries cI cZ a_t a_t_best a_t_least a_t_levelArc a_t_levelWeight a_t_most a_t_row a_t_weight a_t_arcs a_t_split a_t_levelNodes a_t_levelIn a_t_isFree a_t_above a_t_ordered a_t_parts t_nodes t_kinds t_levels t_size t_base t_best t_least t_levelArc t_levelWeight t_most t_row)) (va_runV (As := []) ⟨hx, hb, hml, hown, hts⟩ (c_Re_rowCut l dC dI cI cZ a_t a_t_levelArc a_t_row a_t_weight a_t_arcs a_t_split a_t_least a_t_most a_t_levelNodes a_t_levelWeight a_t_levelIn a_t_isFree a_t_best a_t_above a_t_ordered a_t_parts H.size t_nodes t_kinds t_levels t_size t_base t_levelArc t_row r57 hr57) (cwV 0 hts (gV gw_850 gw_852 gw_38 gw_61 gw_853) rfl rfl rfl (yd_Re_rowCut) ⟨Nat.le_of_ble_eq_true rfl, Nat.le_of_ble_eq_true rfl⟩) (mkV hK (hP.sub (ws' := (wd_Re_rowCut cI cZ a_t a_t_levelArc a_t_row a_t_weight a_t_arcs a_t_split a_t_least a_t_most a_t_levelNodes a_t_levelWeight a_t_levelIn a_t_isFree a_t_best a_t_above a_t_ordered a_t_parts t_nodes t_kinds t_levels t_size t_base t_levelArc t_row)) [0, 3, 6] rfl) (hD.sub (ws' := (wd_Re_rowCut cI cZ a_t a_t_levelArc a_t_row a_t_weight a_t_arcs a_t_split a_t_least a_t_most a_t_levelNodes a_t_levelWeight a_t_levelIn a_t_isFree a_t_best a_t_above a_t_ordered a_t_parts t_nodes t_kinds t_levels t_size t_base t_levelArc t_row)) [0, 3, 6] (by decide) rfl) hN (va_recv hK hP (ci := 9) (q0 := 0) rfl rfl)) rfl rfl hl.1 rfl (lv_room (Nat.le_of_ble_eq_true rfl)) dd_Re_tries_57 ⟨Nat.zero_le _, Nat.zero_le _⟩) hP hD hS hA [0, 3, 6] [1, 2, 4, 5] [4, 0, 1, 5, 2, 3, 6] rfl rfl (by decide) (by decide) rfl (by decide) rfl (fun H locs hP hD hS => ?_)
            refine lv_goto (tgt := 64) hx hb dd_Re_tries_60 (by decide) ?_
            exact h64 r57 x1 x3 x6 t_best t_row _ _ _ hf (lv_sub hl [0, 1, 2, 3] rfl) hP hD hS
          have h208 : ∀ (n208 : Nat) (x6 : Int32) (t_best : Nat → Int32) (t_row : Nat → Int32) (ls : Array Slot) (H : Heap) (locs : List Loc), L_Re_tries_208 t_size n208 x6 t_best t_row = some out → lv_has ls 11 [(0, .ref a_t), (6, .int x6)] → va_P (dC, dI) clsL (wd_Re_tries cI cZ a_t a_t_best a_t_least a_t_levelArc a_t_levelWeight a_t_most a_t_row a_t_weight a_t_arcs a_t_split a_t_levelNodes a_t_levelIn a_t_isFree a_t_above a_t_ordered a_t_parts t_nodes t_kinds t_levels t_size t_base t_best t_least t_levelArc t_levelWeight t_most t_row) H → va_D A (wd_Re_tries cI cZ a_t a_t_best a_t_least a_t_levelArc a_t_levelWeight a_t_most a_t_row a_t_weight a_t_arcs a_t_split a_t_levelNodes a_t_levelIn a_t_isFree a_t_above a_t_ordered a_t_parts t_nodes t_kinds t_levels t_size t_base t_best t_least t_levelArc t_levelWeight t_most t_row) → va_S A s.heap H locs → W p l e (headSpec wq_Re_tries ({ frames := 3, cells := 0, slots := 0, locals := 70 })).room s m ([.ref a_t] : List Value).toArray below meth c H locs 0 0 (MQ below (va_Qv (fun _ : Unit => True) (fun _ => pst (dC, dI) A (wd_Re_tries cI cZ a_t a_t_best a_t_least a_t_levelArc a_t_levelWeight a_t_most a_t_row a_t_weight a_t_arcs a_t_split a_t_levelNodes a_t_levelIn a_t_isFree a_t_above a_t_ordered a_t_parts t_nodes t_kinds t_levels t_size t_base out.1 t_least t_levelArc t_levelWeight t_most out.2)) A) ([.ref a_t] : List Value).toArray s 0 0 A) (F0 m 208 ls []) := by
            intro n208
            induction n208 with
            | zero =>
              intro x6 t_best t_row ls H locs hf
              rw [L_Re_tries_208] at hf
              exact absurd hf (fun h => by cases h)
            | succ n208 ih208 =>
              intro x6 t_best t_row ls H locs hf hl hP hD hS
              rw [L_Re_tries_208] at hf
              refine lv_iload hx hb dd_Re_tries_208 (lv_at hl 1 rfl) ?_
              refine lv_aload_n hx hb dd_Re_tries_210 rfl (lv_at hl 0 rfl) ?_
              refine va_get (D := (dC, dI)) (ci := 9) (v := .int t_size) (C := rr_Re) (T := tt_Re) (N := 20) hx hb hts (fun w h => gwc (inn_Re w h)) hown hK hP 0 rfl rfl 12 (by decide) (hts _ (gwc gw_715)) (fun _ h9 => h9) rfl dd_Re_tries_211 ?_
              refine lv_icmp_ge (tgt := 237) hx hb dd_Re_tries_214 (by decide) (fun cc => ?_) (fun cc => ?_)
              · skip
                have hf := if_t cc hf
                cases hf
                exact W.vret hx hb hr (fun t ht hW => ⟨⟨(), rfl, trivial, pst_of ht hP hD⟩, hS.F ht⟩) hS.2.2 dd_Re_tries_237
              · skip
                have hf := if_f cc hf
                refine lv_aload_n hx hb dd_Re_tries_217 rfl (lv_at hl 0 rfl) ?_
                refine va_get (D := (dC, dI)) (ci := 9) (v := .ref a_t_row) (C := rr_Re) (T := tt_Re) (N := 20) hx hb hts (fun w h => gwc (inn_Re w h)) hown hK hP 0 rfl rfl 14 (by decide) (hts _ (gwc gw_717)) (fun _ h9 => h9) rfl dd_Re_tries_218 ?_
                refine lv_iload hx hb dd_Re_tries_221 (lv_at hl 1 rfl) ?_
                refine lv_aload_n hx hb dd_Re_tries_223 rfl (lv_at hl 0 rfl) ?_
                refine va_get (D := (dC, dI)) (ci := 9) (v := .ref a_t_best) (C := rr_Re) (T := tt_Re) (N := 20) hx hb hts (fun w h => gwc (inn_Re w h)) hown hK hP 0 rfl rfl 16 (by decide) (hts _ (gwc gw_719)) (fun _ h9 => h9) rfl dd_Re_tries_224 ?_
                refine lv_iload hx hb dd_Re_tries_227 (lv_at hl 1 rfl) ?_
                obtain ⟨k229, hf⟩ := ck_some hf
                refine va_iald hx hb hK hP 1 0 rfl rfl (okb_in k229) dd_Re_tries_229 ?_
                obtain ⟨k230, hf⟩ := ck_some hf
                refine va_iast hx hb hK hP hD hS 6 0 rfl rfl (okb_in k230) dd_Re_tries_230 (fun H locs hP hD hS => ?_)
                have hP : va_P (dC, dI) clsL (wd_Re_tries cI cZ a_t a_t_best a_t_least a_t_levelArc a_t_levelWeight a_t_most a_t_row a_t_weight a_t_arcs a_t_split a_t_levelNodes a_t_levelIn a_t_isFree a_t_above a_t_ordered a_t_parts t_nodes t_kinds t_levels t_size t_base t_best t_least t_levelArc t_levelWeight t_most (upd t_row (x6).toNatClampNeg (t_best (x6).toNatClampNeg))) H := hP
                have hD : va_D A (wd_Re_tries cI cZ a_t a_t_best a_t_least a_t_levelArc a_t_levelWeight a_t_most a_t_row a_t_weight a_t_arcs a_t_split a_t_levelNodes a_t_levelIn a_t_isFree a_t_above a_t_ordered a_t_parts t_nodes t_kinds t_levels t_size t_base t_best t_least t_levelArc t_levelWeight t_most (upd t_row (x6).toNatClampNeg (t_best (x6).toNatClampNeg))) := hD
                refine lv_iinc (v := x6 + 1) (lv' := [(6, .int (x6 + 1)), (0, .ref a_t)]) hx hb dd_Re_tries_231 hl (k := 1) rfl rfl (by decide) rfl (fun ls hl => ?_)
                refine lv_goto (tgt := 208) hx hb dd_Re_tries_234 (by decide) ?_
                exact ih208 (x6 + 1) t_best (upd t_row (x6).toNatClampNeg (t_best (x6).toNatClampNeg)) _ _ _ hf (lv_sub hl [1, 0] rfl) hP hD hS
          refine lv_iload hx hb dd_Re_tries_32 (lv_at hl 3 rfl) ?_
          refine lv_if_eq (tgt := 205) hx hb dd_Re_tries_34 (by decide) (fun cc => ?_) (fun cc => ?_)
          · skip
            have hf := if_t cc hf
            refine lv_iconst (v := 0) hx hb dd_Re_tries_205 (by decide) ?_
            refine lv_istore (lv' := [(6, .int 0), (0, .ref a_t), (1, .long x1), (3, .long x3), (5, .int x5)]) hx hb dd_Re_tries_206 hl (by decide) rfl (fun ls hl => ?_)
            exact h208 64 0 t_best t_row _ _ _ hf (lv_sub hl [1, 0] rfl) hP hD hS
          · skip
            have hf := if_f cc hf
            refine lv_aload_n hx hb dd_Re_tries_37 rfl (lv_at hl 0 rfl) ?_
            obtain ⟨r38, hr38, hf⟩ := bind_some hf
            refine xcalll (rest := []) (wc := (wd_Re_rowOver cI cZ a_t a_t_least a_t_levelWeight a_t_most a_t_row a_t_weight a_t_arcs a_t_split a_t_levelNodes a_t_levelArc a_t_levelIn a_t_isFree a_t_best a_t_above a_t_ordered a_t_parts t_nodes t_kinds t_levels t_size t_base t_least t_levelWeight t_most t_row)) (w1 := (wd_Re_rowOver cI cZ a_t a_t_least a_t_levelWeight a_t_most a_t_row a_t_weight a_t_arcs a_t_split a_t_levelNodes a_t_levelArc a_t_levelIn a_t_isFree a_t_best a_t_above a_t_ordered a_t_parts t_nodes t_kinds t_levels t_size t_base t_least t_levelWeight t_most t_row)) (wr := [(a_t_best, .inl (cI, 40, .inl t_best)), (a_t_levelArc, .inl (cI, 65600, .inl t_levelArc))]) (ws' := (wd_Re_tries cI cZ a_t a_t_best a_t_least a_t_levelArc a_t_levelWeight a_t_most a_t_row a_t_weight a_t_arcs a_t_split a_t_levelNodes a_t_levelIn a_t_isFree a_t_above a_t_ordered a_t_parts t_nodes t_kinds t_levels t_size t_base t_best t_least t_levelArc t_levelWeight t_most t_row)) (va_runV (As := []) ⟨hx, hb, hml, hown, hts⟩ (c_Re_rowOver l dC dI cI cZ a_t a_t_least a_t_levelWeight a_t_most a_t_row a_t_weight a_t_arcs a_t_split a_t_levelNodes a_t_levelArc a_t_levelIn a_t_isFree a_t_best a_t_above a_t_ordered a_t_parts H.size t_nodes t_kinds t_levels t_size t_base t_least t_levelWeight t_most t_row r38 hr38) (cwV 0 hts (gV gw_862 gw_864 gw_40 gw_61 gw_865) rfl rfl rfl (yd_Re_rowOver) ⟨Nat.le_of_ble_eq_true rfl, Nat.le_of_ble_eq_true rfl⟩) (mkV hK (hP.sub (ws' := (wd_Re_rowOver cI cZ a_t a_t_least a_t_levelWeight a_t_most a_t_row a_t_weight a_t_arcs a_t_split a_t_levelNodes a_t_levelArc a_t_levelIn a_t_isFree a_t_best a_t_above a_t_ordered a_t_parts t_nodes t_kinds t_levels t_size t_base t_least t_levelWeight t_most t_row)) [0, 2, 4, 5, 6] rfl) (hD.sub (ws' := (wd_Re_rowOver cI cZ a_t a_t_least a_t_levelWeight a_t_most a_t_row a_t_weight a_t_arcs a_t_split a_t_levelNodes a_t_levelArc a_t_levelIn a_t_isFree a_t_best a_t_above a_t_ordered a_t_parts t_nodes t_kinds t_levels t_size t_base t_least t_levelWeight t_most t_row)) [0, 2, 4, 5, 6] (by decide) rfl) hN (va_recv hK hP (ci := 9) (q0 := 0) rfl rfl)) rfl rfl hl.1 rfl (lv_room (Nat.le_of_ble_eq_true rfl)) dd_Re_tries_38 ⟨Nat.zero_le _, Nat.zero_le _⟩) hP hD hS hA [0, 2, 4, 5, 6] [1, 3] [2, 0, 3, 1, 4, 5, 6] rfl rfl (by decide) (by decide) rfl (by decide) rfl (fun H locs hP hD hS => ?_)
            refine lv_lstore (lv' := [(6, .long r38), (0, .ref a_t), (1, .long x1), (3, .long x3), (5, .int x5)]) hx hb dd_Re_tries_41 hl (by decide) rfl (fun ls hl => ?_)
            refine lv_lload_n hx hb dd_Re_tries_43 rfl (lv_at hl 2 rfl) ?_
            refine lv_lconst (v := 0) hx hb dd_Re_tries_44 (by decide) ?_
            refine W.lcmp hx hb dd_Re_tries_45 ?_
            refine lv_if_lt (tgt := 56) hx hb dd_Re_tries_46 (by decide) (fun cc => ?_) (fun cc => ?_)
            · skip
              have hf := if_t cc hf
              exact h56 x1 x3 r38 t_best t_row _ _ _ hf (lv_sub hl [1, 2, 3, 0] rfl) hP hD hS
            · skip
              have hf := if_f cc hf
              refine lv_lload hx hb dd_Re_tries_49 (lv_at hl 0 rfl) ?_
              refine lv_lload_n hx hb dd_Re_tries_51 rfl (lv_at hl 2 rfl) ?_
              refine W.lcmp hx hb dd_Re_tries_52 ?_
              refine lv_if_gt (tgt := 63) hx hb dd_Re_tries_53 (by decide) (fun cc => ?_) (fun cc => ?_)
              · skip
                have hf := if_t cc hf
                refine lv_lconst (v := 0) hx hb dd_Re_tries_63 (by decide) ?_
                exact h64 (0 : Int64) x1 x3 r38 t_best t_row _ _ _ hf (lv_sub hl [1, 2, 3, 0] rfl) hP hD hS
              · skip
                have hf := if_f cc hf
                exact h56 x1 x3 r38 t_best t_row _ _ _ hf (lv_sub hl [1, 2, 3, 0] rfl) hP hD hS
      refine lv_iload_n hx hb dd_Re_tries_2 rfl (lv_at hl 1 rfl) ?_
      refine lv_aload_n hx hb dd_Re_tries_3 rfl (lv_at hl 0 rfl) ?_
      refine va_get (D := (dC, dI)) (ci := 9) (v := .int t_size) (C := rr_Re) (T := tt_Re) (N := 20) hx hb hts (fun w h => gwc (inn_Re w h)) hown hK hP 0 rfl rfl 12 (by decide) (hts _ (gwc gw_715)) (fun _ h9 => h9) rfl dd_Re_tries_4 ?_
      refine lv_icmp_ge (tgt := 23) hx hb dd_Re_tries_7 (by decide) (fun cc => ?_) (fun cc => ?_)
      · skip
        have hf := if_t cc hf
        refine lv_ldc2 (v := -1) hx hb hown (hts _ (gwc gw_816)) dd_Re_tries_23 ?_
        refine lv_lstore_n (lv' := [(1, .long (-1 : Int64)), (0, .ref a_t)]) hx hb dd_Re_tries_26 rfl hl (by decide) rfl (fun ls hl => ?_)
        refine lv_lconst (v := 0) hx hb dd_Re_tries_27 (by decide) ?_
        refine lv_lstore_n (lv' := [(3, .long (0 : Int64)), (1, .long (-1 : Int64)), (0, .ref a_t)]) hx hb dd_Re_tries_28 rfl hl (by decide) rfl (fun ls hl => ?_)
        refine lv_iconst (v := 1) hx hb dd_Re_tries_29 (by decide) ?_
        refine lv_istore (lv' := [(5, .int 1), (3, .long (0 : Int64)), (1, .long (-1 : Int64)), (0, .ref a_t)]) hx hb dd_Re_tries_30 hl (by decide) rfl (fun ls hl => ?_)
        exact h32 64 (-1 : Int64) (0 : Int64) 1 t_best t_row _ _ _ hf (lv_sub hl [3, 2, 1, 0] rfl) hP hD hS
      · skip
        have hf := if_f cc hf
        refine lv_aload_n hx hb dd_Re_tries_10 rfl (lv_at hl 0 rfl) ?_
        refine va_get (D := (dC, dI)) (ci := 9) (v := .ref a_t_row) (C := rr_Re) (T := tt_Re) (N := 20) hx hb hts (fun w h => gwc (inn_Re w h)) hown hK hP 0 rfl rfl 14 (by decide) (hts _ (gwc gw_717)) (fun _ h9 => h9) rfl dd_Re_tries_11 ?_
        refine lv_iload_n hx hb dd_Re_tries_14 rfl (lv_at hl 1 rfl) ?_
        refine lv_iconst (v := 0) hx hb dd_Re_tries_15 (by decide) ?_
        obtain ⟨k16, hf⟩ := ck_some hf
        refine va_iast hx hb hK hP hD hS 6 0 rfl rfl (okb_in k16) dd_Re_tries_16 (fun H locs hP hD hS => ?_)
        have hP : va_P (dC, dI) clsL (wd_Re_tries cI cZ a_t a_t_best a_t_least a_t_levelArc a_t_levelWeight a_t_most a_t_row a_t_weight a_t_arcs a_t_split a_t_levelNodes a_t_levelIn a_t_isFree a_t_above a_t_ordered a_t_parts t_nodes t_kinds t_levels t_size t_base t_best t_least t_levelArc t_levelWeight t_most (upd t_row (x1).toNatClampNeg 0)) H := hP
        have hD : va_D A (wd_Re_tries cI cZ a_t a_t_best a_t_least a_t_levelArc a_t_levelWeight a_t_most a_t_row a_t_weight a_t_arcs a_t_split a_t_levelNodes a_t_levelIn a_t_isFree a_t_above a_t_ordered a_t_parts t_nodes t_kinds t_levels t_size t_base t_best t_least t_levelArc t_levelWeight t_most (upd t_row (x1).toNatClampNeg 0)) := hD
        refine lv_iinc (v := x1 + 1) (lv' := [(1, .int (x1 + 1)), (0, .ref a_t)]) hx hb dd_Re_tries_17 hl (k := 1) rfl rfl (by decide) rfl (fun ls hl => ?_)
        refine lv_goto (tgt := 2) hx hb dd_Re_tries_20 (by decide) ?_
        exact ih2 (x1 + 1) (upd t_row (x1).toNatClampNeg 0) _ _ _ hf (lv_sub hl [1, 0] rfl) hP hD hS
  refine lv_iconst (v := 0) hx hb dd_Re_tries_0 (by decide) ?_
  refine lv_istore_n (lv' := [(1, .int 0), (0, .ref a_t)]) hx hb dd_Re_tries_1 rfl hl (by decide) rfl (fun ls hl => ?_)
  exact h2 64 0 t_row _ _ _ hf (lv_sub hl [1, 0] rfl) hP hD hS
abbrev wd_Re_told (cI cZ : ClassId) (a_t a_t_least a_t_levelArc a_t_levelWeight a_t_most a_t_row a_t_weight a_t_arcs a_t_split a_t_levelNodes a_t_levelIn a_t_isFree a_t_best a_t_above a_t_ordered a_t_parts : Nat) (t_nodes : Int32) (t_kinds : Int32) (t_levels : Int32) (t_size : Int32) (t_base : Int32) (t_least : Nat → Int32) (t_levelArc : Nat → Int32) (t_levelWeight : Nat → Int32) (t_most : Nat → Int32) (t_row : Nat → Int32) : va_W := [(a_t, .inr (9, [.int t_nodes, .int t_kinds, .ref a_t_weight, .ref a_t_arcs, .ref a_t_split, .ref a_t_least, .ref a_t_most, .int t_levels, .ref a_t_levelNodes, .ref a_t_levelWeight, .ref a_t_levelArc, .ref a_t_levelIn, .int t_size, .int t_base, .ref a_t_row, .ref a_t_isFree, .ref a_t_best, .ref a_t_above, .ref a_t_ordered, .ref a_t_parts])), (a_t_least, .inl (cI, 4, .inl t_least)), (a_t_levelArc, .inl (cI, 65600, .inl t_levelArc)), (a_t_levelWeight, .inl (cI, 1640, .inl t_levelWeight)), (a_t_most, .inl (cI, 4, .inl t_most)), (a_t_row, .inl (cI, 40, .inl t_row))]
set_option maxRecDepth 100000 in
set_option maxHeartbeats 4000000 in
theorem c_Re_told (l : Launch) (dC : Nat → ClassId) (dI : Nat → Nat → Nat) (cI cZ : ClassId) (a_t a_t_least a_t_levelArc a_t_levelWeight a_t_most a_t_row a_t_weight a_t_arcs a_t_split a_t_levelNodes a_t_levelIn a_t_isFree a_t_best a_t_above a_t_ordered a_t_parts sz : Nat) (t_nodes : Int32) (t_kinds : Int32) (t_levels : Int32) (t_size : Int32) (t_base : Int32) (t_least : Nat → Int32) (t_levelArc : Nat → Int32) (t_levelWeight : Nat → Int32) (t_most : Nat → Int32) (t_row : Nat → Int32) (out : Int32) (hf : f_Re_told t_kinds t_size t_base t_least t_levelArc t_levelWeight t_most t_row = some out) :
    Met l yy_Re_told wq_Re_told ({ frames := 3, cells := 0, slots := 0, locals := 70 }) (va_Pc ([.ref a_t] : List Value) (pre_ (dC, dI) cI cZ sz (wd_Re_told cI cZ a_t a_t_least a_t_levelArc a_t_levelWeight a_t_most a_t_row a_t_weight a_t_arcs a_t_split a_t_levelNodes a_t_levelIn a_t_isFree a_t_best a_t_above a_t_ordered a_t_parts t_nodes t_kinds t_levels t_size t_base t_least t_levelArc t_levelWeight t_most t_row))) (va_Qi (fun (r : Int32) (_ : Unit) => r = out) (fun _ => pst (dC, dI) (va_A (wd_Re_told cI cZ a_t a_t_least a_t_levelArc a_t_levelWeight a_t_most a_t_row a_t_weight a_t_arcs a_t_split a_t_levelNodes a_t_levelIn a_t_isFree a_t_best a_t_above a_t_ordered a_t_parts t_nodes t_kinds t_levels t_size t_base t_least t_levelArc t_levelWeight t_most t_row) sz) (wd_Re_told cI cZ a_t a_t_least a_t_levelArc a_t_levelWeight a_t_most a_t_row a_t_weight a_t_arcs a_t_split a_t_levelNodes a_t_levelIn a_t_isFree a_t_best a_t_above a_t_ordered a_t_parts t_nodes t_kinds t_levels t_size t_base t_least t_levelArc t_levelWeight t_most t_row)) (va_A (wd_Re_told cI cZ a_t a_t_least a_t_levelArc a_t_levelWeight a_t_most a_t_row a_t_weight a_t_arcs a_t_split a_t_levelNodes a_t_levelIn a_t_isFree a_t_best a_t_above a_t_ordered a_t_parts t_nodes t_kinds t_levels t_size t_base t_least t_levelArc t_levelWeight t_most t_row) sz)) 0 0 (va_A (wd_Re_told cI cZ a_t a_t_least a_t_levelArc a_t_levelWeight a_t_most a_t_row a_t_weight a_t_arcs a_t_split a_t_levelNodes a_t_levelIn a_t_isFree a_t_best a_t_above a_t_ordered a_t_parts t_nodes t_kinds t_levels t_size t_base t_least t_levelArc t_levelWeight t_most t_row) sz) := by
  refine Met.ofW (cc := cc_Re_told) (maxL := 3) (ret := (some .int)) (by decide) rfl ?_
  intro p e s m args below meth c s₁ B hml hv
  obtain ⟨rfl, hsz, hP, hK, hD0, hN⟩ := hv
  have hx := B.exec
  have hb := B.bytes
  have hr := B.returns
  have hts := atoms_spec (ws := wq_Re_told) B.pre
  have hown : s.vm.findClass rr_Re = some m.cls := findClass_of_methodNamed B.named
  have hlocks := B.notSynchronized
  subst hsz
  have hD := hD0.self (sz := s.heap.size)
  generalize hAe : va_A (wd_Re_told cI cZ a_t a_t_least a_t_levelArc a_t_levelWeight a_t_most a_t_row a_t_weight a_t_arcs a_t_split a_t_levelNodes a_t_levelIn a_t_isFree a_t_best a_t_above a_t_ordered a_t_parts t_nodes t_kinds t_levels t_size t_base t_least t_levelArc t_levelWeight t_most t_row) s.heap.size = A at hD ⊢
  have hA : ∀ q : Nat, s.heap.size ≤ q → A q := fun q h => by rw [← hAe]; exact Or.inr h
  obtain ⟨H, hH⟩ : ∃ H : Heap, H = s.heap := ⟨_, rfl⟩
  have hS : va_S A s.heap H [] := by rw [hH]; exact va_S.rf
  have hl := lv_entry (([.ref a_t] : List Value)) (n := 3) (Nat.le_of_ble_eq_true rfl)
  rw [lg_entry_eq]
  generalize (lg_sl (([.ref a_t] : List Value)) ++ List.replicate (3 - (lg_sl (([.ref a_t] : List Value))).length) Slot.unset).toArray = ls at hl ⊢
  have hl : lv_has ls 3 [(0, .ref a_t)] := hl
  rw [← hH] at hP ⊢
  have hP : va_P (dC, dI) clsL (wd_Re_told cI cZ a_t a_t_least a_t_levelArc a_t_levelWeight a_t_most a_t_row a_t_weight a_t_arcs a_t_split a_t_levelNodes a_t_levelIn a_t_isFree a_t_best a_t_above a_t_ordered a_t_parts t_nodes t_kinds t_levels t_size t_base t_least t_levelArc t_levelWeight t_most t_row) H := hP
  unfold f_Re_told at hf
  refine lv_aload_n hx hb dd_Re_told_0 rfl (lv_at hl 0 rfl) ?_
  obtain ⟨r1, hr1, hf⟩ := bind_some hf
  refine xcalll (rest := []) (wc := (wd_Re_rowOver cI cZ a_t a_t_least a_t_levelWeight a_t_most a_t_row a_t_weight a_t_arcs a_t_split a_t_levelNodes a_t_levelArc a_t_levelIn a_t_isFree a_t_best a_t_above a_t_ordered a_t_parts t_nodes t_kinds t_levels t_size t_base t_least t_levelWeight t_most t_row)) (w1 := (wd_Re_rowOver cI cZ a_t a_t_least a_t_levelWeight a_t_most a_t_row a_t_weight a_t_arcs a_t_split a_t_levelNodes a_t_levelArc a_t_levelIn a_t_isFree a_t_best a_t_above a_t_ordered a_t_parts t_nodes t_kinds t_levels t_size t_base t_least t_levelWeight t_most t_row)) (wr := [(a_t_levelArc, .inl (cI, 65600, .inl t_levelArc))]) (ws' := (wd_Re_told cI cZ a_t a_t_least a_t_levelArc a_t_levelWeight a_t_most a_t_row a_t_weight a_t_arcs a_t_split a_t_levelNodes a_t_levelIn a_t_isFree a_t_best a_t_above a_t_ordered a_t_parts t_nodes t_kinds t_levels t_size t_base t_least t_levelArc t_levelWeight t_most t_row)) (va_runV (As := []) ⟨hx, hb, hml, hown, hts⟩ (c_Re_rowOver l dC dI cI cZ a_t a_t_least a_t_levelWeight a_t_most a_t_row a_t_weight a_t_arcs a_t_split a_t_levelNodes a_t_levelArc a_t_levelIn a_t_isFree a_t_best a_t_above a_t_ordered a_t_parts H.size t_nodes t_kinds t_levels t_size t_base t_least t_levelWeight t_most t_row r1 hr1) (cwV 0 hts (gV gw_862 gw_864 gw_40 gw_61 gw_865) rfl rfl rfl (yd_Re_rowOver) ⟨Nat.le_of_ble_eq_true rfl, Nat.le_of_ble_eq_true rfl⟩) (mkV hK (hP.sub (ws' := (wd_Re_rowOver cI cZ a_t a_t_least a_t_levelWeight a_t_most a_t_row a_t_weight a_t_arcs a_t_split a_t_levelNodes a_t_levelArc a_t_levelIn a_t_isFree a_t_best a_t_above a_t_ordered a_t_parts t_nodes t_kinds t_levels t_size t_base t_least t_levelWeight t_most t_row)) [0, 1, 3, 4, 5] rfl) (hD.sub (ws' := (wd_Re_rowOver cI cZ a_t a_t_least a_t_levelWeight a_t_most a_t_row a_t_weight a_t_arcs a_t_split a_t_levelNodes a_t_levelArc a_t_levelIn a_t_isFree a_t_best a_t_above a_t_ordered a_t_parts t_nodes t_kinds t_levels t_size t_base t_least t_levelWeight t_most t_row)) [0, 1, 3, 4, 5] (by decide) rfl) hN (va_recv hK hP (ci := 9) (q0 := 0) rfl rfl)) rfl rfl hl.1 rfl (lv_room (Nat.le_of_ble_eq_true rfl)) dd_Re_told_1 ⟨Nat.zero_le _, Nat.zero_le _⟩) hP hD hS hA [0, 1, 3, 4, 5] [2] [1, 2, 0, 3, 4, 5] rfl rfl (by decide) (by decide) rfl (by decide) rfl (fun H locs hP hD hS => ?_)
  refine lv_lstore_n (lv' := [(1, .long r1), (0, .ref a_t)]) hx hb dd_Re_told_4 rfl hl (by decide) rfl (fun ls hl => ?_)
  refine lv_lload_n hx hb dd_Re_told_5 rfl (lv_at hl 0 rfl) ?_
  refine lv_lconst (v := 0) hx hb dd_Re_told_6 (by decide) ?_
  refine W.lcmp hx hb dd_Re_told_7 ?_
  refine lv_if_ne (tgt := 19) hx hb dd_Re_told_8 (by decide) (fun cc => ?_) (fun cc => ?_)
  · skip
    have hf := if_f cc hf
    refine lv_ldc2 (v := -10) hx hb hown (hts _ (gwc gw_903)) dd_Re_told_19 ?_
    refine lv_lload_n hx hb dd_Re_told_22 rfl (lv_at hl 0 rfl) ?_
    refine lv_lsub hx hb dd_Re_told_23 ?_
    refine lv_l2i hx hb dd_Re_told_24 rfl ?_
    cases hf
    exact W.iret hx hb hr (fun t ht hW => ⟨⟨_, (), rfl, rfl, pst_of ht hP hD⟩, hS.F ht⟩) hS.2.2 dd_Re_told_25
  · skip
    have hf := if_t cc hf
    refine lv_aload_n hx hb dd_Re_told_11 rfl (lv_at hl 1 rfl) ?_
    obtain ⟨r12, hr12, hf⟩ := bind_some hf
    refine xcalll (rest := []) (wc := (wd_Re_rowCut cI cZ a_t a_t_levelArc a_t_row a_t_weight a_t_arcs a_t_split a_t_least a_t_most a_t_levelNodes a_t_levelWeight a_t_levelIn a_t_isFree a_t_best a_t_above a_t_ordered a_t_parts t_nodes t_kinds t_levels t_size t_base t_levelArc t_row)) (w1 := (wd_Re_rowCut cI cZ a_t a_t_levelArc a_t_row a_t_weight a_t_arcs a_t_split a_t_least a_t_most a_t_levelNodes a_t_levelWeight a_t_levelIn a_t_isFree a_t_best a_t_above a_t_ordered a_t_parts t_nodes t_kinds t_levels t_size t_base t_levelArc t_row)) (wr := [(a_t_least, .inl (cI, 4, .inl t_least)), (a_t_levelWeight, .inl (cI, 1640, .inl t_levelWeight)), (a_t_most, .inl (cI, 4, .inl t_most))]) (ws' := (wd_Re_told cI cZ a_t a_t_least a_t_levelArc a_t_levelWeight a_t_most a_t_row a_t_weight a_t_arcs a_t_split a_t_levelNodes a_t_levelIn a_t_isFree a_t_best a_t_above a_t_ordered a_t_parts t_nodes t_kinds t_levels t_size t_base t_least t_levelArc t_levelWeight t_most t_row)) (va_runV (As := []) ⟨hx, hb, hml, hown, hts⟩ (c_Re_rowCut l dC dI cI cZ a_t a_t_levelArc a_t_row a_t_weight a_t_arcs a_t_split a_t_least a_t_most a_t_levelNodes a_t_levelWeight a_t_levelIn a_t_isFree a_t_best a_t_above a_t_ordered a_t_parts H.size t_nodes t_kinds t_levels t_size t_base t_levelArc t_row r12 hr12) (cwV 0 hts (gV gw_850 gw_852 gw_38 gw_61 gw_853) rfl rfl rfl (yd_Re_rowCut) ⟨Nat.le_of_ble_eq_true rfl, Nat.le_of_ble_eq_true rfl⟩) (mkV hK (hP.sub (ws' := (wd_Re_rowCut cI cZ a_t a_t_levelArc a_t_row a_t_weight a_t_arcs a_t_split a_t_least a_t_most a_t_levelNodes a_t_levelWeight a_t_levelIn a_t_isFree a_t_best a_t_above a_t_ordered a_t_parts t_nodes t_kinds t_levels t_size t_base t_levelArc t_row)) [0, 2, 5] rfl) (hD.sub (ws' := (wd_Re_rowCut cI cZ a_t a_t_levelArc a_t_row a_t_weight a_t_arcs a_t_split a_t_least a_t_most a_t_levelNodes a_t_levelWeight a_t_levelIn a_t_isFree a_t_best a_t_above a_t_ordered a_t_parts t_nodes t_kinds t_levels t_size t_base t_levelArc t_row)) [0, 2, 5] (by decide) rfl) hN (va_recv hK hP (ci := 9) (q0 := 0) rfl rfl)) rfl rfl hl.1 rfl (lv_room (Nat.le_of_ble_eq_true rfl)) dd_Re_told_12 ⟨Nat.zero_le _, Nat.zero_le _⟩) hP hD hS hA [0, 2, 5] [1, 3, 4] [3, 0, 4, 1, 2, 5] rfl rfl (by decide) (by decide) rfl (by decide) rfl (fun H locs hP hD hS => ?_)
    refine lv_l2i hx hb dd_Re_told_15 rfl ?_
    refine lv_goto (tgt := 25) hx hb dd_Re_told_16 (by decide) ?_
    cases hf
    exact W.iret hx hb hr (fun t ht hW => ⟨⟨_, (), rfl, rfl, pst_of ht hP hD⟩, hS.F ht⟩) hS.2.2 dd_Re_told_25
abbrev wd_Re_run (cI cZ : ClassId) (a_t a_t_above a_t_arcs a_t_best a_t_isFree a_t_least a_t_levelArc a_t_levelIn a_t_levelNodes a_t_levelWeight a_t_most a_t_row a_t_split a_t_weight a_t_ordered a_t_parts : Nat) (t_nodes : Int32) (t_kinds : Int32) (t_levels : Int32) (t_size : Int32) (t_base : Int32) (t_above : Nat → Int32) (t_arcs : Nat → Int32) (t_best : Nat → Int32) (t_isFree : Nat → Int32) (t_least : Nat → Int32) (t_levelArc : Nat → Int32) (t_levelIn : Nat → Int32) (t_levelNodes : Nat → Int32) (t_levelWeight : Nat → Int32) (t_most : Nat → Int32) (t_row : Nat → Int32) (t_split : Nat → Int32) (t_weight : Nat → Int32) : va_W := [(a_t, .inr (9, [.int t_nodes, .int t_kinds, .ref a_t_weight, .ref a_t_arcs, .ref a_t_split, .ref a_t_least, .ref a_t_most, .int t_levels, .ref a_t_levelNodes, .ref a_t_levelWeight, .ref a_t_levelArc, .ref a_t_levelIn, .int t_size, .int t_base, .ref a_t_row, .ref a_t_isFree, .ref a_t_best, .ref a_t_above, .ref a_t_ordered, .ref a_t_parts])), (a_t_above, .inl (cI, 40, .inl t_above)), (a_t_arcs, .inl (cI, 1600, .inl t_arcs)), (a_t_best, .inl (cI, 40, .inl t_best)), (a_t_isFree, .inl (cZ, 40, .inl t_isFree)), (a_t_least, .inl (cI, 4, .inl t_least)), (a_t_levelArc, .inl (cI, 65600, .inl t_levelArc)), (a_t_levelIn, .inl (cI, 1640, .inl t_levelIn)), (a_t_levelNodes, .inl (cI, 41, .inl t_levelNodes)), (a_t_levelWeight, .inl (cI, 1640, .inl t_levelWeight)), (a_t_most, .inl (cI, 4, .inl t_most)), (a_t_row, .inl (cI, 40, .inl t_row)), (a_t_split, .inl (cI, 40, .inl t_split)), (a_t_weight, .inl (cI, 40, .inl t_weight))]
set_option maxRecDepth 100000 in
set_option maxHeartbeats 4000000 in
theorem c_Re_run (l : Launch) (dC : Nat → ClassId) (dI : Nat → Nat → Nat) (cI cZ : ClassId) (a_t a_t_above a_t_arcs a_t_best a_t_isFree a_t_least a_t_levelArc a_t_levelIn a_t_levelNodes a_t_levelWeight a_t_most a_t_row a_t_split a_t_weight a_t_ordered a_t_parts sz : Nat) (t_nodes : Int32) (t_kinds : Int32) (t_levels : Int32) (t_size : Int32) (t_base : Int32) (t_above : Nat → Int32) (t_arcs : Nat → Int32) (t_best : Nat → Int32) (t_isFree : Nat → Int32) (t_least : Nat → Int32) (t_levelArc : Nat → Int32) (t_levelIn : Nat → Int32) (t_levelNodes : Nat → Int32) (t_levelWeight : Nat → Int32) (t_most : Nat → Int32) (t_row : Nat → Int32) (t_split : Nat → Int32) (t_weight : Nat → Int32) (out : Int32 × Int32 × Int32 × Int32 × (Nat → Int32) × (Nat → Int32) × (Nat → Int32) × (Nat → Int32) × (Nat → Int32) × (Nat → Int32) × (Nat → Int32) × (Nat → Int32) × (Nat → Int32)) (hf : f_Re_run t_nodes t_kinds t_above t_arcs t_best t_isFree t_least t_levelArc t_levelIn t_levelNodes t_levelWeight t_most t_row t_split t_weight = some out) :
    Met l yy_Re_run wq_Re_run ({ frames := 5, cells := 0, slots := 0, locals := 135 }) (va_Pc ([.ref a_t] : List Value) (pre_ (dC, dI) cI cZ sz (wd_Re_run cI cZ a_t a_t_above a_t_arcs a_t_best a_t_isFree a_t_least a_t_levelArc a_t_levelIn a_t_levelNodes a_t_levelWeight a_t_most a_t_row a_t_split a_t_weight a_t_ordered a_t_parts t_nodes t_kinds t_levels t_size t_base t_above t_arcs t_best t_isFree t_least t_levelArc t_levelIn t_levelNodes t_levelWeight t_most t_row t_split t_weight))) (va_Qi (fun (r : Int32) (_ : Unit) => r = out.1) (fun _ => pst (dC, dI) (va_A (wd_Re_run cI cZ a_t a_t_above a_t_arcs a_t_best a_t_isFree a_t_least a_t_levelArc a_t_levelIn a_t_levelNodes a_t_levelWeight a_t_most a_t_row a_t_split a_t_weight a_t_ordered a_t_parts t_nodes t_kinds t_levels t_size t_base t_above t_arcs t_best t_isFree t_least t_levelArc t_levelIn t_levelNodes t_levelWeight t_most t_row t_split t_weight) sz) (wd_Re_run cI cZ a_t a_t_above a_t_arcs a_t_best a_t_isFree a_t_least a_t_levelArc a_t_levelIn a_t_levelNodes a_t_levelWeight a_t_most a_t_row a_t_split a_t_weight a_t_ordered a_t_parts t_nodes t_kinds out.2.1 out.2.2.1 out.2.2.2.1 out.2.2.2.2.1 t_arcs out.2.2.2.2.2.1 out.2.2.2.2.2.2.1 t_least out.2.2.2.2.2.2.2.1 out.2.2.2.2.2.2.2.2.1 out.2.2.2.2.2.2.2.2.2.1 out.2.2.2.2.2.2.2.2.2.2.1 t_most out.2.2.2.2.2.2.2.2.2.2.2.1 out.2.2.2.2.2.2.2.2.2.2.2.2 t_weight)) (va_A (wd_Re_run cI cZ a_t a_t_above a_t_arcs a_t_best a_t_isFree a_t_least a_t_levelArc a_t_levelIn a_t_levelNodes a_t_levelWeight a_t_most a_t_row a_t_split a_t_weight a_t_ordered a_t_parts t_nodes t_kinds t_levels t_size t_base t_above t_arcs t_best t_isFree t_least t_levelArc t_levelIn t_levelNodes t_levelWeight t_most t_row t_split t_weight) sz)) 0 0 (va_A (wd_Re_run cI cZ a_t a_t_above a_t_arcs a_t_best a_t_isFree a_t_least a_t_levelArc a_t_levelIn a_t_levelNodes a_t_levelWeight a_t_most a_t_row a_t_split a_t_weight a_t_ordered a_t_parts t_nodes t_kinds t_levels t_size t_base t_above t_arcs t_best t_isFree t_least t_levelArc t_levelIn t_levelNodes t_levelWeight t_most t_row t_split t_weight) sz) := by
  refine Met.ofW (cc := cc_Re_run) (maxL := 3) (ret := (some .int)) (by decide) rfl ?_
  intro p e s m args below meth c s₁ B hml hv
  obtain ⟨rfl, hsz, hP, hK, hD0, hN⟩ := hv
  have hx := B.exec
  have hb := B.bytes
  have hr := B.returns
  have hts := atoms_spec (ws := wq_Re_run) B.pre
  have hown : s.vm.findClass rr_Re = some m.cls := findClass_of_methodNamed B.named
  have hlocks := B.notSynchronized
  subst hsz
  have hD := hD0.self (sz := s.heap.size)
  generalize hAe : va_A (wd_Re_run cI cZ a_t a_t_above a_t_arcs a_t_best a_t_isFree a_t_least a_t_levelArc a_t_levelIn a_t_levelNodes a_t_levelWeight a_t_most a_t_row a_t_split a_t_weight a_t_ordered a_t_parts t_nodes t_kinds t_levels t_size t_base t_above t_arcs t_best t_isFree t_least t_levelArc t_levelIn t_levelNodes t_levelWeight t_most t_row t_split t_weight) s.heap.size = A at hD ⊢
  have hA : ∀ q : Nat, s.heap.size ≤ q → A q := fun q h => by rw [← hAe]; exact Or.inr h
  obtain ⟨H, hH⟩ : ∃ H : Heap, H = s.heap := ⟨_, rfl⟩
  have hS : va_S A s.heap H [] := by rw [hH]; exact va_S.rf
  have hl := lv_entry (([.ref a_t] : List Value)) (n := 3) (Nat.le_of_ble_eq_true rfl)
  rw [lg_entry_eq]
  generalize (lg_sl (([.ref a_t] : List Value)) ++ List.replicate (3 - (lg_sl (([.ref a_t] : List Value))).length) Slot.unset).toArray = ls at hl ⊢
  have hl : lv_has ls 3 [(0, .ref a_t)] := hl
  rw [← hH] at hP ⊢
  have hP : va_P (dC, dI) clsL (wd_Re_run cI cZ a_t a_t_above a_t_arcs a_t_best a_t_isFree a_t_least a_t_levelArc a_t_levelIn a_t_levelNodes a_t_levelWeight a_t_most a_t_row a_t_split a_t_weight a_t_ordered a_t_parts t_nodes t_kinds t_levels t_size t_base t_above t_arcs t_best t_isFree t_least t_levelArc t_levelIn t_levelNodes t_levelWeight t_most t_row t_split t_weight) H := hP
  unfold f_Re_run at hf
  have h34 : ∀ (t_levels : Int32) (t_size : Int32) (t_base : Int32) (t_best : Nat → Int32) (t_isFree : Nat → Int32) (t_levelArc : Nat → Int32) (t_levelIn : Nat → Int32) (t_levelNodes : Nat → Int32) (t_levelWeight : Nat → Int32) (t_row : Nat → Int32) (ls : Array Slot) (H : Heap) (locs : List Loc), J_Re_run_34 t_nodes t_kinds t_above t_least t_most t_split t_levels t_size t_base t_best t_isFree t_levelArc t_levelIn t_levelNodes t_levelWeight t_row = some out → lv_has ls 3 [(0, .ref a_t)] → va_P (dC, dI) clsL (wd_Re_run cI cZ a_t a_t_above a_t_arcs a_t_best a_t_isFree a_t_least a_t_levelArc a_t_levelIn a_t_levelNodes a_t_levelWeight a_t_most a_t_row a_t_split a_t_weight a_t_ordered a_t_parts t_nodes t_kinds t_levels t_size t_base t_above t_arcs t_best t_isFree t_least t_levelArc t_levelIn t_levelNodes t_levelWeight t_most t_row t_split t_weight) H → va_D A (wd_Re_run cI cZ a_t a_t_above a_t_arcs a_t_best a_t_isFree a_t_least a_t_levelArc a_t_levelIn a_t_levelNodes a_t_levelWeight a_t_most a_t_row a_t_split a_t_weight a_t_ordered a_t_parts t_nodes t_kinds t_levels t_size t_base t_above t_arcs t_best t_isFree t_least t_levelArc t_levelIn t_levelNodes t_levelWeight t_most t_row t_split t_weight) → va_S A s.heap H locs → W p l e (headSpec wq_Re_run ({ frames := 5, cells := 0, slots := 0, locals := 135 })).room s m ([.ref a_t] : List Value).toArray below meth c H locs 0 0 (MQ below (va_Qi (fun (r : Int32) (_ : Unit) => r = out.1) (fun _ => pst (dC, dI) A (wd_Re_run cI cZ a_t a_t_above a_t_arcs a_t_best a_t_isFree a_t_least a_t_levelArc a_t_levelIn a_t_levelNodes a_t_levelWeight a_t_most a_t_row a_t_split a_t_weight a_t_ordered a_t_parts t_nodes t_kinds out.2.1 out.2.2.1 out.2.2.2.1 out.2.2.2.2.1 t_arcs out.2.2.2.2.2.1 out.2.2.2.2.2.2.1 t_least out.2.2.2.2.2.2.2.1 out.2.2.2.2.2.2.2.2.1 out.2.2.2.2.2.2.2.2.2.1 out.2.2.2.2.2.2.2.2.2.2.1 t_most out.2.2.2.2.2.2.2.2.2.2.2.1 out.2.2.2.2.2.2.2.2.2.2.2.2 t_weight)) A) ([.ref a_t] : List Value).toArray s 0 0 A) (F0 m 34 ls []) := by
    intro t_levels t_size t_base t_best t_isFree t_levelArc t_levelIn t_levelNodes t_levelWeight t_row ls H locs hf hl hP hD hS
    unfold J_Re_run_34 at hf
    have h46 : ∀ (n46 : Nat) (x1 : Int32) (t_levels : Int32) (t_size : Int32) (t_base : Int32) (t_above : Nat → Int32) (t_best : Nat → Int32) (t_isFree : Nat → Int32) (t_levelArc : Nat → Int32) (t_levelIn : Nat → Int32) (t_levelNodes : Nat → Int32) (t_levelWeight : Nat → Int32) (t_row : Nat → Int32) (ls : Array Slot) (H : Heap) (locs : List Loc), L_Re_run_46 t_nodes t_kinds t_least t_most t_split n46 x1 t_levels t_size t_base t_above t_best t_isFree t_levelArc t_levelIn t_levelNodes t_levelWeight t_row = some out → lv_has ls 3 [(0, .ref a_t), (1, .int x1)] → va_P (dC, dI) clsL (wd_Re_run cI cZ a_t a_t_above a_t_arcs a_t_best a_t_isFree a_t_least a_t_levelArc a_t_levelIn a_t_levelNodes a_t_levelWeight a_t_most a_t_row a_t_split a_t_weight a_t_ordered a_t_parts t_nodes t_kinds t_levels t_size t_base t_above t_arcs t_best t_isFree t_least t_levelArc t_levelIn t_levelNodes t_levelWeight t_most t_row t_split t_weight) H → va_D A (wd_Re_run cI cZ a_t a_t_above a_t_arcs a_t_best a_t_isFree a_t_least a_t_levelArc a_t_levelIn a_t_levelNodes a_t_levelWeight a_t_most a_t_row a_t_split a_t_weight a_t_ordered a_t_parts t_nodes t_kinds t_levels t_size t_base t_above t_arcs t_best t_isFree t_least t_levelArc t_levelIn t_levelNodes t_levelWeight t_most t_row t_split t_weight) → va_S A s.heap H locs → W p l e (headSpec wq_Re_run ({ frames := 5, cells := 0, slots := 0, locals := 135 })).room s m ([.ref a_t] : List Value).toArray below meth c H locs 0 0 (MQ below (va_Qi (fun (r : Int32) (_ : Unit) => r = out.1) (fun _ => pst (dC, dI) A (wd_Re_run cI cZ a_t a_t_above a_t_arcs a_t_best a_t_isFree a_t_least a_t_levelArc a_t_levelIn a_t_levelNodes a_t_levelWeight a_t_most a_t_row a_t_split a_t_weight a_t_ordered a_t_parts t_nodes t_kinds out.2.1 out.2.2.1 out.2.2.2.1 out.2.2.2.2.1 t_arcs out.2.2.2.2.2.1 out.2.2.2.2.2.2.1 t_least out.2.2.2.2.2.2.2.1 out.2.2.2.2.2.2.2.2.1 out.2.2.2.2.2.2.2.2.2.1 out.2.2.2.2.2.2.2.2.2.2.1 t_most out.2.2.2.2.2.2.2.2.2.2.2.1 out.2.2.2.2.2.2.2.2.2.2.2.2 t_weight)) A) ([.ref a_t] : List Value).toArray s 0 0 A) (F0 m 46 ls []) := by
      intro n46
      induction n46 with
      | zero =>
        intro x1 t_levels t_size t_base t_above t_best t_isFree t_levelArc t_levelIn t_levelNodes t_levelWeight t_row ls H locs hf
        rw [L_Re_run_46] at hf
        exact absurd hf (fun h => by cases h)
      | succ n46 ih46 =>
        intro x1 t_levels t_size t_base t_above t_best t_isFree t_levelArc t_levelIn t_levelNodes t_levelWeight t_row ls H locs hf hl hP hD hS
        rw [L_Re_run_46] at hf
        have h57 : ∀ (n57 : Nat) (x1 : Int32) (x2 : Int32) (t_levels : Int32) (t_size : Int32) (t_base : Int32) (t_above : Nat → Int32) (t_best : Nat → Int32) (t_isFree : Nat → Int32) (t_levelArc : Nat → Int32) (t_levelIn : Nat → Int32) (t_levelNodes : Nat → Int32) (t_levelWeight : Nat → Int32) (t_row : Nat → Int32) (ls : Array Slot) (H : Heap) (locs : List Loc), L_Re_run_57 t_kinds t_least t_most (L_Re_run_46 t_nodes t_kinds t_least t_most t_split n46) n57 x1 x2 t_levels t_size t_base t_above t_best t_isFree t_levelArc t_levelIn t_levelNodes t_levelWeight t_row = some out → lv_has ls 3 [(0, .ref a_t), (1, .int x1), (2, .int x2)] → va_P (dC, dI) clsL (wd_Re_run cI cZ a_t a_t_above a_t_arcs a_t_best a_t_isFree a_t_least a_t_levelArc a_t_levelIn a_t_levelNodes a_t_levelWeight a_t_most a_t_row a_t_split a_t_weight a_t_ordered a_t_parts t_nodes t_kinds t_levels t_size t_base t_above t_arcs t_best t_isFree t_least t_levelArc t_levelIn t_levelNodes t_levelWeight t_most t_row t_split t_weight) H → va_D A (wd_Re_run cI cZ a_t a_t_above a_t_arcs a_t_best a_t_isFree a_t_least a_t_levelArc a_t_levelIn a_t_levelNodes a_t_levelWeight a_t_most a_t_row a_t_split a_t_weight a_t_ordered a_t_parts t_nodes t_kinds t_levels t_size t_base t_above t_arcs t_best t_isFree t_least t_levelArc t_levelIn t_levelNodes t_levelWeight t_most t_row t_split t_weight) → va_S A s.heap H locs → W p l e (headSpec wq_Re_run ({ frames := 5, cells := 0, slots := 0, locals := 135 })).room s m ([.ref a_t] : List Value).toArray below meth c H locs 0 0 (MQ below (va_Qi (fun (r : Int32) (_ : Unit) => r = out.1) (fun _ => pst (dC, dI) A (wd_Re_run cI cZ a_t a_t_above a_t_arcs a_t_best a_t_isFree a_t_least a_t_levelArc a_t_levelIn a_t_levelNodes a_t_levelWeight a_t_most a_t_row a_t_split a_t_weight a_t_ordered a_t_parts t_nodes t_kinds out.2.1 out.2.2.1 out.2.2.2.1 out.2.2.2.2.1 t_arcs out.2.2.2.2.2.1 out.2.2.2.2.2.2.1 t_least out.2.2.2.2.2.2.2.1 out.2.2.2.2.2.2.2.2.1 out.2.2.2.2.2.2.2.2.2.1 out.2.2.2.2.2.2.2.2.2.2.1 t_most out.2.2.2.2.2.2.2.2.2.2.2.1 out.2.2.2.2.2.2.2.2.2.2.2.2 t_weight)) A) ([.ref a_t] : List Value).toArray s 0 0 A) (F0 m 57 ls []) := by
          intro n57
          induction n57 with
          | zero =>
            intro x1 x2 t_levels t_size t_base t_above t_best t_isFree t_levelArc t_levelIn t_levelNodes t_levelWeight t_row ls H locs hf
            rw [L_Re_run_57] at hf
            exact absurd hf (fun h => by cases h)
          | succ n57 ih57 =>
            intro x1 x2 t_levels t_size t_base t_above t_best t_isFree t_levelArc t_levelIn t_levelNodes t_levelWeight t_row ls H locs hf hl hP hD hS
            rw [L_Re_run_57] at hf
            have h95 : ∀ (n95 : Nat) (x1 : Int32) (x2 : Int32) (t_levels : Int32) (t_size : Int32) (t_base : Int32) (t_above : Nat → Int32) (t_best : Nat → Int32) (t_isFree : Nat → Int32) (t_levelArc : Nat → Int32) (t_levelIn : Nat → Int32) (t_levelNodes : Nat → Int32) (t_levelWeight : Nat → Int32) (t_row : Nat → Int32) (ls : Array Slot) (H : Heap) (locs : List Loc), L_Re_run_95 t_kinds t_least t_most (L_Re_run_46 t_nodes t_kinds t_least t_most t_split n46) n95 x1 x2 t_levels t_size t_base t_above t_best t_isFree t_levelArc t_levelIn t_levelNodes t_levelWeight t_row = some out → lv_has ls 3 [(0, .ref a_t), (1, .int x1), (2, .int x2)] → va_P (dC, dI) clsL (wd_Re_run cI cZ a_t a_t_above a_t_arcs a_t_best a_t_isFree a_t_least a_t_levelArc a_t_levelIn a_t_levelNodes a_t_levelWeight a_t_most a_t_row a_t_split a_t_weight a_t_ordered a_t_parts t_nodes t_kinds t_levels t_size t_base t_above t_arcs t_best t_isFree t_least t_levelArc t_levelIn t_levelNodes t_levelWeight t_most t_row t_split t_weight) H → va_D A (wd_Re_run cI cZ a_t a_t_above a_t_arcs a_t_best a_t_isFree a_t_least a_t_levelArc a_t_levelIn a_t_levelNodes a_t_levelWeight a_t_most a_t_row a_t_split a_t_weight a_t_ordered a_t_parts t_nodes t_kinds t_levels t_size t_base t_above t_arcs t_best t_isFree t_least t_levelArc t_levelIn t_levelNodes t_levelWeight t_most t_row t_split t_weight) → va_S A s.heap H locs → W p l e (headSpec wq_Re_run ({ frames := 5, cells := 0, slots := 0, locals := 135 })).room s m ([.ref a_t] : List Value).toArray below meth c H locs 0 0 (MQ below (va_Qi (fun (r : Int32) (_ : Unit) => r = out.1) (fun _ => pst (dC, dI) A (wd_Re_run cI cZ a_t a_t_above a_t_arcs a_t_best a_t_isFree a_t_least a_t_levelArc a_t_levelIn a_t_levelNodes a_t_levelWeight a_t_most a_t_row a_t_split a_t_weight a_t_ordered a_t_parts t_nodes t_kinds out.2.1 out.2.2.1 out.2.2.2.1 out.2.2.2.2.1 t_arcs out.2.2.2.2.2.1 out.2.2.2.2.2.2.1 t_least out.2.2.2.2.2.2.2.1 out.2.2.2.2.2.2.2.2.1 out.2.2.2.2.2.2.2.2.2.1 out.2.2.2.2.2.2.2.2.2.2.1 t_most out.2.2.2.2.2.2.2.2.2.2.2.1 out.2.2.2.2.2.2.2.2.2.2.2.2 t_weight)) A) ([.ref a_t] : List Value).toArray s 0 0 A) (F0 m 95 ls []) := by
              intro n95
              induction n95 with
              | zero =>
                intro x1 x2 t_levels t_size t_base t_above t_best t_isFree t_levelArc t_levelIn t_levelNodes t_levelWeight t_row ls H locs hf
                rw [L_Re_run_95] at hf
                exact absurd hf (fun h => by cases h)
              | succ n95 ih95 =>
                intro x1 x2 t_levels t_size t_base t_above t_best t_isFree t_levelArc t_levelIn t_levelNodes t_levelWeight t_row ls H locs hf hl hP hD hS
                rw [L_Re_run_95] at hf
                have h121 : ∀ (x1 : Int32) (t_levels : Int32) (t_size : Int32) (t_base : Int32) (t_above : Nat → Int32) (t_best : Nat → Int32) (t_isFree : Nat → Int32) (t_levelArc : Nat → Int32) (t_levelIn : Nat → Int32) (t_levelNodes : Nat → Int32) (t_levelWeight : Nat → Int32) (t_row : Nat → Int32) (ls : Array Slot) (H : Heap) (locs : List Loc), J_Re_run_121 t_kinds t_least t_most (L_Re_run_46 t_nodes t_kinds t_least t_most t_split n46) x1 t_levels t_size t_base t_above t_best t_isFree t_levelArc t_levelIn t_levelNodes t_levelWeight t_row = some out → lv_has ls 3 [(0, .ref a_t), (1, .int x1)] → va_P (dC, dI) clsL (wd_Re_run cI cZ a_t a_t_above a_t_arcs a_t_best a_t_isFree a_t_least a_t_levelArc a_t_levelIn a_t_levelNodes a_t_levelWeight a_t_most a_t_row a_t_split a_t_weight a_t_ordered a_t_parts t_nodes t_kinds t_levels t_size t_base t_above t_arcs t_best t_isFree t_least t_levelArc t_levelIn t_levelNodes t_levelWeight t_most t_row t_split t_weight) H → va_D A (wd_Re_run cI cZ a_t a_t_above a_t_arcs a_t_best a_t_isFree a_t_least a_t_levelArc a_t_levelIn a_t_levelNodes a_t_levelWeight a_t_most a_t_row a_t_split a_t_weight a_t_ordered a_t_parts t_nodes t_kinds t_levels t_size t_base t_above t_arcs t_best t_isFree t_least t_levelArc t_levelIn t_levelNodes t_levelWeight t_most t_row t_split t_weight) → va_S A s.heap H locs → W p l e (headSpec wq_Re_run ({ frames := 5, cells := 0, slots := 0, locals := 135 })).room s m ([.ref a_t] : List Value).toArray below meth c H locs 0 0 (MQ below (va_Qi (fun (r : Int32) (_ : Unit) => r = out.1) (fun _ => pst (dC, dI) A (wd_Re_run cI cZ a_t a_t_above a_t_arcs a_t_best a_t_isFree a_t_least a_t_levelArc a_t_levelIn a_t_levelNodes a_t_levelWeight a_t_most a_t_row a_t_split a_t_weight a_t_ordered a_t_parts t_nodes t_kinds out.2.1 out.2.2.1 out.2.2.2.1 out.2.2.2.2.1 t_arcs out.2.2.2.2.2.1 out.2.2.2.2.2.2.1 t_least out.2.2.2.2.2.2.2.1 out.2.2.2.2.2.2.2.2.1 out.2.2.2.2.2.2.2.2.2.1 out.2.2.2.2.2.2.2.2.2.2.1 t_most out.2.2.2.2.2.2.2.2.2.2.2.1 out.2.2.2.2.2.2.2.2.2.2.2.2 t_weight)) A) ([.ref a_t] : List Value).toArray s 0 0 A) (F0 m 121 ls []) := by
                  intro x1 t_levels t_size t_base t_above t_best t_isFree t_levelArc t_levelIn t_levelNodes t_levelWeight t_row ls H locs hf hl hP hD hS
                  unfold J_Re_run_121 at hf
                  refine lv_aload_n hx hb dd_Re_run_121 rfl (lv_at hl 0 rfl) ?_
                  obtain ⟨r122, hr122, hf⟩ := bind_some hf
                  refine xcalli (rest := []) (wc := (wd_Re_passes cI cZ a_t a_t_best a_t_isFree a_t_least a_t_levelArc a_t_levelWeight a_t_most a_t_row a_t_weight a_t_arcs a_t_split a_t_levelNodes a_t_levelIn a_t_above a_t_ordered a_t_parts t_nodes t_kinds t_levels t_size t_base t_best t_isFree t_least t_levelArc t_levelWeight t_most t_row)) (w1 := (wd_Re_passes cI cZ a_t a_t_best a_t_isFree a_t_least a_t_levelArc a_t_levelWeight a_t_most a_t_row a_t_weight a_t_arcs a_t_split a_t_levelNodes a_t_levelIn a_t_above a_t_ordered a_t_parts t_nodes t_kinds t_levels t_size t_base r122.2.1 r122.2.2.1 t_least t_levelArc t_levelWeight t_most r122.2.2.2)) (wr := [(a_t_above, .inl (cI, 40, .inl t_above)), (a_t_arcs, .inl (cI, 1600, .inl t_arcs)), (a_t_levelIn, .inl (cI, 1640, .inl t_levelIn)), (a_t_levelNodes, .inl (cI, 41, .inl t_levelNodes)), (a_t_split, .inl (cI, 40, .inl t_split)), (a_t_weight, .inl (cI, 40, .inl t_weight))]) (ws' := (wd_Re_run cI cZ a_t a_t_above a_t_arcs a_t_best a_t_isFree a_t_least a_t_levelArc a_t_levelIn a_t_levelNodes a_t_levelWeight a_t_most a_t_row a_t_split a_t_weight a_t_ordered a_t_parts t_nodes t_kinds t_levels t_size t_base t_above t_arcs r122.2.1 r122.2.2.1 t_least t_levelArc t_levelIn t_levelNodes t_levelWeight t_most r122.2.2.2 t_split t_weight)) (va_runV (As := []) ⟨hx, hb, hml, hown, hts⟩ (c_Re_passes l dC dI cI cZ a_t a_t_best a_t_isFree a_t_least a_t_levelArc a_t_levelWeight a_t_most a_t_row a_t_weight a_t_arcs a_t_split a_t_levelNodes a_t_levelIn a_t_above a_t_ordered a_t_parts H.size t_nodes t_kinds t_levels t_size t_base t_best t_isFree t_least t_levelArc t_levelWeight t_most t_row r122 hr122) (cwV 0 hts (gV gw_887 gw_889 gw_44 gw_61 gw_890) rfl rfl rfl (yd_Re_passes) ⟨Nat.le_of_ble_eq_true rfl, Nat.le_of_ble_eq_true rfl⟩) (mkV hK (hP.sub (ws' := (wd_Re_passes cI cZ a_t a_t_best a_t_isFree a_t_least a_t_levelArc a_t_levelWeight a_t_most a_t_row a_t_weight a_t_arcs a_t_split a_t_levelNodes a_t_levelIn a_t_above a_t_ordered a_t_parts t_nodes t_kinds t_levels t_size t_base t_best t_isFree t_least t_levelArc t_levelWeight t_most t_row)) [0, 3, 4, 5, 6, 9, 10, 11] rfl) (hD.sub (ws' := (wd_Re_passes cI cZ a_t a_t_best a_t_isFree a_t_least a_t_levelArc a_t_levelWeight a_t_most a_t_row a_t_weight a_t_arcs a_t_split a_t_levelNodes a_t_levelIn a_t_above a_t_ordered a_t_parts t_nodes t_kinds t_levels t_size t_base t_best t_isFree t_least t_levelArc t_levelWeight t_most t_row)) [0, 3, 4, 5, 6, 9, 10, 11] (by decide) rfl) hN (va_recv hK hP (ci := 9) (q0 := 0) rfl rfl)) rfl rfl hl.1 rfl (lv_room (Nat.le_of_ble_eq_true rfl)) dd_Re_run_122 ⟨Nat.zero_le _, Nat.zero_le _⟩) hP hD hS hA [0, 3, 4, 5, 6, 9, 10, 11] [1, 2, 7, 8, 12, 13] [6, 0, 1, 7, 8, 9, 10, 2, 3, 11, 12, 13, 4, 5] rfl rfl (by decide) (by decide) rfl (by decide) rfl (fun H locs hP hD hS => ?_)
                  refine lv_pop hx hb dd_Re_run_125 rfl ?_
                  refine lv_iinc (v := x1 + (-1)) (lv' := [(1, .int (x1 + (-1))), (0, .ref a_t)]) hx hb dd_Re_run_126 hl (k := 1) rfl rfl (by decide) rfl (fun ls hl => ?_)
                  refine lv_goto (tgt := 46) hx hb dd_Re_run_129 (by decide) ?_
                  exact ih46 (x1 + (-1)) t_levels t_size t_base t_above r122.2.1 r122.2.2.1 t_levelArc t_levelIn t_levelNodes t_levelWeight r122.2.2.2 _ _ _ hf (lv_sub hl [1, 0] rfl) hP hD hS
                refine lv_iload_n hx hb dd_Re_run_95 rfl (lv_at hl 2 rfl) ?_
                refine lv_aload_n hx hb dd_Re_run_96 rfl (lv_at hl 0 rfl) ?_
                refine va_get (D := (dC, dI)) (ci := 9) (v := .int t_size) (C := rr_Re) (T := tt_Re) (N := 20) hx hb hts (fun w h => gwc (inn_Re w h)) hown hK hP 0 rfl rfl 12 (by decide) (hts _ (gwc gw_715)) (fun _ h9 => h9) rfl dd_Re_run_97 ?_
                refine lv_icmp_ge (tgt := 121) hx hb dd_Re_run_100 (by decide) (fun cc => ?_) (fun cc => ?_)
                · skip
                  have hf := if_t cc hf
                  exact h121 x1 t_levels t_size t_base t_above t_best t_isFree t_levelArc t_levelIn t_levelNodes t_levelWeight t_row _ _ _ hf (lv_sub hl [0, 1] rfl) hP hD hS
                · skip
                  have hf := if_f cc hf
                  refine lv_aload_n hx hb dd_Re_run_103 rfl (lv_at hl 0 rfl) ?_
                  refine va_get (D := (dC, dI)) (ci := 9) (v := .ref a_t_row) (C := rr_Re) (T := tt_Re) (N := 20) hx hb hts (fun w h => gwc (inn_Re w h)) hown hK hP 0 rfl rfl 14 (by decide) (hts _ (gwc gw_717)) (fun _ h9 => h9) rfl dd_Re_run_104 ?_
                  refine lv_iload_n hx hb dd_Re_run_107 rfl (lv_at hl 2 rfl) ?_
                  refine lv_aload_n hx hb dd_Re_run_108 rfl (lv_at hl 0 rfl) ?_
                  refine va_get (D := (dC, dI)) (ci := 9) (v := .ref a_t_above) (C := rr_Re) (T := tt_Re) (N := 20) hx hb hts (fun w h => gwc (inn_Re w h)) hown hK hP 0 rfl rfl 17 (by decide) (hts _ (gwc gw_720)) (fun _ h9 => h9) rfl dd_Re_run_109 ?_
                  refine lv_iload_n hx hb dd_Re_run_112 rfl (lv_at hl 2 rfl) ?_
                  obtain ⟨k113, hf⟩ := ck_some hf
                  refine va_iald hx hb hK hP 1 0 rfl rfl (okb_in k113) dd_Re_run_113 ?_
                  obtain ⟨k114, hf⟩ := ck_some hf
                  refine va_iast hx hb hK hP hD hS 11 0 rfl rfl (okb_in k114) dd_Re_run_114 (fun H locs hP hD hS => ?_)
                  have hP : va_P (dC, dI) clsL (wd_Re_run cI cZ a_t a_t_above a_t_arcs a_t_best a_t_isFree a_t_least a_t_levelArc a_t_levelIn a_t_levelNodes a_t_levelWeight a_t_most a_t_row a_t_split a_t_weight a_t_ordered a_t_parts t_nodes t_kinds t_levels t_size t_base t_above t_arcs t_best t_isFree t_least t_levelArc t_levelIn t_levelNodes t_levelWeight t_most (upd t_row (x2).toNatClampNeg (t_above (x2).toNatClampNeg)) t_split t_weight) H := hP
                  have hD : va_D A (wd_Re_run cI cZ a_t a_t_above a_t_arcs a_t_best a_t_isFree a_t_least a_t_levelArc a_t_levelIn a_t_levelNodes a_t_levelWeight a_t_most a_t_row a_t_split a_t_weight a_t_ordered a_t_parts t_nodes t_kinds t_levels t_size t_base t_above t_arcs t_best t_isFree t_least t_levelArc t_levelIn t_levelNodes t_levelWeight t_most (upd t_row (x2).toNatClampNeg (t_above (x2).toNatClampNeg)) t_split t_weight) := hD
                  refine lv_iinc (v := x2 + 1) (lv' := [(2, .int (x2 + 1)), (0, .ref a_t), (1, .int x1)]) hx hb dd_Re_run_115 hl (k := 2) rfl rfl (by decide) rfl (fun ls hl => ?_)
                  refine lv_goto (tgt := 95) hx hb dd_Re_run_118 (by decide) ?_
                  exact ih95 x1 (x2 + 1) t_levels t_size t_base t_above t_best t_isFree t_levelArc t_levelIn t_levelNodes t_levelWeight (upd t_row (x2).toNatClampNeg (t_above (x2).toNatClampNeg)) _ _ _ hf (lv_sub hl [1, 2, 0] rfl) hP hD hS
            refine lv_iload_n hx hb dd_Re_run_57 rfl (lv_at hl 2 rfl) ?_
            refine lv_aload_n hx hb dd_Re_run_58 rfl (lv_at hl 0 rfl) ?_
            refine va_get (D := (dC, dI)) (ci := 9) (v := .int t_size) (C := rr_Re) (T := tt_Re) (N := 20) hx hb hts (fun w h => gwc (inn_Re w h)) hown hK hP 0 rfl rfl 12 (by decide) (hts _ (gwc gw_715)) (fun _ h9 => h9) rfl dd_Re_run_59 ?_
            refine lv_icmp_ge (tgt := 93) hx hb dd_Re_run_62 (by decide) (fun cc => ?_) (fun cc => ?_)
            · skip
              have hf := if_t cc hf
              refine lv_iconst (v := 0) hx hb dd_Re_run_93 (by decide) ?_
              refine lv_istore_n (lv' := [(2, .int 0), (0, .ref a_t), (1, .int x1)]) hx hb dd_Re_run_94 rfl hl (by decide) rfl (fun ls hl => ?_)
              exact h95 64 x1 0 t_levels t_size t_base t_above t_best t_isFree t_levelArc t_levelIn t_levelNodes t_levelWeight t_row _ _ _ hf (lv_sub hl [1, 2, 0] rfl) hP hD hS
            · skip
              have hf := if_f cc hf
              refine lv_aload_n hx hb dd_Re_run_65 rfl (lv_at hl 0 rfl) ?_
              refine va_get (D := (dC, dI)) (ci := 9) (v := .ref a_t_above) (C := rr_Re) (T := tt_Re) (N := 20) hx hb hts (fun w h => gwc (inn_Re w h)) hown hK hP 0 rfl rfl 17 (by decide) (hts _ (gwc gw_720)) (fun _ h9 => h9) rfl dd_Re_run_66 ?_
              refine lv_iload_n hx hb dd_Re_run_69 rfl (lv_at hl 2 rfl) ?_
              refine lv_aload_n hx hb dd_Re_run_70 rfl (lv_at hl 0 rfl) ?_
              refine va_get (D := (dC, dI)) (ci := 9) (v := .ref a_t_row) (C := rr_Re) (T := tt_Re) (N := 20) hx hb hts (fun w h => gwc (inn_Re w h)) hown hK hP 0 rfl rfl 14 (by decide) (hts _ (gwc gw_717)) (fun _ h9 => h9) rfl dd_Re_run_71 ?_
              refine lv_aload_n hx hb dd_Re_run_74 rfl (lv_at hl 0 rfl) ?_
              refine va_get (D := (dC, dI)) (ci := 9) (v := .ref a_t_levelIn) (C := rr_Re) (T := tt_Re) (N := 20) hx hb hts (fun w h => gwc (inn_Re w h)) hown hK hP 0 rfl rfl 11 (by decide) (hts _ (gwc gw_714)) (fun _ h9 => h9) rfl dd_Re_run_75 ?_
              refine lv_bipush (v := 40) hx hb dd_Re_run_78 (by decide) ?_
              refine lv_iload_n hx hb dd_Re_run_80 rfl (lv_at hl 1 rfl) ?_
              refine lv_imul hx hb dd_Re_run_81 ?_
              refine lv_iload_n hx hb dd_Re_run_82 rfl (lv_at hl 2 rfl) ?_
              refine lv_iadd hx hb dd_Re_run_83 ?_
              obtain ⟨k84, hf⟩ := ck_some hf
              refine va_iald hx hb hK hP 7 0 rfl rfl (okb_in k84) dd_Re_run_84 ?_
              obtain ⟨k85, hf⟩ := ck_some hf
              refine va_iald hx hb hK hP 11 0 rfl rfl (okb_in k85) dd_Re_run_85 ?_
              obtain ⟨k86, hf⟩ := ck_some hf
              refine va_iast hx hb hK hP hD hS 1 0 rfl rfl (okb_in k86) dd_Re_run_86 (fun H locs hP hD hS => ?_)
              have hP : va_P (dC, dI) clsL (wd_Re_run cI cZ a_t a_t_above a_t_arcs a_t_best a_t_isFree a_t_least a_t_levelArc a_t_levelIn a_t_levelNodes a_t_levelWeight a_t_most a_t_row a_t_split a_t_weight a_t_ordered a_t_parts t_nodes t_kinds t_levels t_size t_base (upd t_above (x2).toNatClampNeg (t_row (t_levelIn ((40 * x1) + x2).toNatClampNeg).toNatClampNeg)) t_arcs t_best t_isFree t_least t_levelArc t_levelIn t_levelNodes t_levelWeight t_most t_row t_split t_weight) H := hP
              have hD : va_D A (wd_Re_run cI cZ a_t a_t_above a_t_arcs a_t_best a_t_isFree a_t_least a_t_levelArc a_t_levelIn a_t_levelNodes a_t_levelWeight a_t_most a_t_row a_t_split a_t_weight a_t_ordered a_t_parts t_nodes t_kinds t_levels t_size t_base (upd t_above (x2).toNatClampNeg (t_row (t_levelIn ((40 * x1) + x2).toNatClampNeg).toNatClampNeg)) t_arcs t_best t_isFree t_least t_levelArc t_levelIn t_levelNodes t_levelWeight t_most t_row t_split t_weight) := hD
              refine lv_iinc (v := x2 + 1) (lv' := [(2, .int (x2 + 1)), (0, .ref a_t), (1, .int x1)]) hx hb dd_Re_run_87 hl (k := 2) rfl rfl (by decide) rfl (fun ls hl => ?_)
              refine lv_goto (tgt := 57) hx hb dd_Re_run_90 (by decide) ?_
              exact ih57 x1 (x2 + 1) t_levels t_size t_base (upd t_above (x2).toNatClampNeg (t_row (t_levelIn ((40 * x1) + x2).toNatClampNeg).toNatClampNeg)) t_best t_isFree t_levelArc t_levelIn t_levelNodes t_levelWeight t_row _ _ _ hf (lv_sub hl [1, 2, 0] rfl) hP hD hS
        have h132 : ∀ (t_levels : Int32) (t_size : Int32) (t_base : Int32) (t_above : Nat → Int32) (t_best : Nat → Int32) (t_isFree : Nat → Int32) (t_levelArc : Nat → Int32) (t_levelIn : Nat → Int32) (t_levelNodes : Nat → Int32) (t_levelWeight : Nat → Int32) (t_row : Nat → Int32) (ls : Array Slot) (H : Heap) (locs : List Loc), J_Re_run_132 t_nodes t_kinds t_least t_most t_split t_levels t_size t_base t_above t_best t_isFree t_levelArc t_levelIn t_levelNodes t_levelWeight t_row = some out → lv_has ls 3 [(0, .ref a_t)] → va_P (dC, dI) clsL (wd_Re_run cI cZ a_t a_t_above a_t_arcs a_t_best a_t_isFree a_t_least a_t_levelArc a_t_levelIn a_t_levelNodes a_t_levelWeight a_t_most a_t_row a_t_split a_t_weight a_t_ordered a_t_parts t_nodes t_kinds t_levels t_size t_base t_above t_arcs t_best t_isFree t_least t_levelArc t_levelIn t_levelNodes t_levelWeight t_most t_row t_split t_weight) H → va_D A (wd_Re_run cI cZ a_t a_t_above a_t_arcs a_t_best a_t_isFree a_t_least a_t_levelArc a_t_levelIn a_t_levelNodes a_t_levelWeight a_t_most a_t_row a_t_split a_t_weight a_t_ordered a_t_parts t_nodes t_kinds t_levels t_size t_base t_above t_arcs t_best t_isFree t_least t_levelArc t_levelIn t_levelNodes t_levelWeight t_most t_row t_split t_weight) → va_S A s.heap H locs → W p l e (headSpec wq_Re_run ({ frames := 5, cells := 0, slots := 0, locals := 135 })).room s m ([.ref a_t] : List Value).toArray below meth c H locs 0 0 (MQ below (va_Qi (fun (r : Int32) (_ : Unit) => r = out.1) (fun _ => pst (dC, dI) A (wd_Re_run cI cZ a_t a_t_above a_t_arcs a_t_best a_t_isFree a_t_least a_t_levelArc a_t_levelIn a_t_levelNodes a_t_levelWeight a_t_most a_t_row a_t_split a_t_weight a_t_ordered a_t_parts t_nodes t_kinds out.2.1 out.2.2.1 out.2.2.2.1 out.2.2.2.2.1 t_arcs out.2.2.2.2.2.1 out.2.2.2.2.2.2.1 t_least out.2.2.2.2.2.2.2.1 out.2.2.2.2.2.2.2.2.1 out.2.2.2.2.2.2.2.2.2.1 out.2.2.2.2.2.2.2.2.2.2.1 t_most out.2.2.2.2.2.2.2.2.2.2.2.1 out.2.2.2.2.2.2.2.2.2.2.2.2 t_weight)) A) ([.ref a_t] : List Value).toArray s 0 0 A) (F0 m 132 ls []) := by
          intro t_levels t_size t_base t_above t_best t_isFree t_levelArc t_levelIn t_levelNodes t_levelWeight t_row ls H locs hf hl hP hD hS
          unfold J_Re_run_132 at hf
          refine lv_aload_n hx hb dd_Re_run_132 rfl (lv_at hl 0 rfl) ?_
          obtain ⟨r133, hr133, hf⟩ := bind_some hf
          refine xcallv (rest := []) (wc := (wd_Re_giveSplit cI cZ a_t a_t_row a_t_split a_t_weight a_t_arcs a_t_least a_t_most a_t_levelNodes a_t_levelWeight a_t_levelArc a_t_levelIn a_t_isFree a_t_best a_t_above a_t_ordered a_t_parts t_nodes t_kinds t_levels t_size t_base t_row t_split)) (w1 := (wd_Re_giveSplit cI cZ a_t a_t_row a_t_split a_t_weight a_t_arcs a_t_least a_t_most a_t_levelNodes a_t_levelWeight a_t_levelArc a_t_levelIn a_t_isFree a_t_best a_t_above a_t_ordered a_t_parts t_nodes t_kinds t_levels t_size t_base t_row r133)) (wr := [(a_t_above, .inl (cI, 40, .inl t_above)), (a_t_arcs, .inl (cI, 1600, .inl t_arcs)), (a_t_best, .inl (cI, 40, .inl t_best)), (a_t_isFree, .inl (cZ, 40, .inl t_isFree)), (a_t_least, .inl (cI, 4, .inl t_least)), (a_t_levelArc, .inl (cI, 65600, .inl t_levelArc)), (a_t_levelIn, .inl (cI, 1640, .inl t_levelIn)), (a_t_levelNodes, .inl (cI, 41, .inl t_levelNodes)), (a_t_levelWeight, .inl (cI, 1640, .inl t_levelWeight)), (a_t_most, .inl (cI, 4, .inl t_most)), (a_t_weight, .inl (cI, 40, .inl t_weight))]) (ws' := (wd_Re_run cI cZ a_t a_t_above a_t_arcs a_t_best a_t_isFree a_t_least a_t_levelArc a_t_levelIn a_t_levelNodes a_t_levelWeight a_t_most a_t_row a_t_split a_t_weight a_t_ordered a_t_parts t_nodes t_kinds t_levels t_size t_base t_above t_arcs t_best t_isFree t_least t_levelArc t_levelIn t_levelNodes t_levelWeight t_most t_row r133 t_weight)) (va_runV (As := []) ⟨hx, hb, hml, hown, hts⟩ (c_Re_giveSplit l dC dI cI cZ a_t a_t_row a_t_split a_t_weight a_t_arcs a_t_least a_t_most a_t_levelNodes a_t_levelWeight a_t_levelArc a_t_levelIn a_t_isFree a_t_best a_t_above a_t_ordered a_t_parts H.size t_nodes t_kinds t_levels t_size t_base t_row t_split r133 hr133) (cwV 0 hts (gV gw_895 gw_897 gw_46 gw_61 gw_898) rfl rfl rfl (yd_Re_giveSplit) ⟨Nat.le_of_ble_eq_true rfl, Nat.le_of_ble_eq_true rfl⟩) (mkV hK (hP.sub (ws' := (wd_Re_giveSplit cI cZ a_t a_t_row a_t_split a_t_weight a_t_arcs a_t_least a_t_most a_t_levelNodes a_t_levelWeight a_t_levelArc a_t_levelIn a_t_isFree a_t_best a_t_above a_t_ordered a_t_parts t_nodes t_kinds t_levels t_size t_base t_row t_split)) [0, 11, 12] rfl) (hD.sub (ws' := (wd_Re_giveSplit cI cZ a_t a_t_row a_t_split a_t_weight a_t_arcs a_t_least a_t_most a_t_levelNodes a_t_levelWeight a_t_levelArc a_t_levelIn a_t_isFree a_t_best a_t_above a_t_ordered a_t_parts t_nodes t_kinds t_levels t_size t_base t_row t_split)) [0, 11, 12] (by decide) rfl) hN (va_recv hK hP (ci := 9) (q0 := 0) rfl rfl)) rfl rfl hl.1 rfl (lv_room (Nat.le_of_ble_eq_true rfl)) dd_Re_run_133 ⟨Nat.zero_le _, Nat.zero_le _⟩) hP hD hS hA [0, 11, 12] [1, 2, 3, 4, 5, 6, 7, 8, 9, 10, 13] [11, 0, 1, 2, 3, 4, 5, 6, 7, 8, 9, 12, 13, 10] rfl rfl (by decide) (by decide) rfl (by decide) rfl (fun H locs hP hD hS => ?_)
          refine lv_aload_n hx hb dd_Re_run_136 rfl (lv_at hl 0 rfl) ?_
          obtain ⟨r137, hr137, hf⟩ := bind_some hf
          refine xcalli (rest := []) (wc := (wd_Re_told cI cZ a_t a_t_least a_t_levelArc a_t_levelWeight a_t_most a_t_row a_t_weight a_t_arcs a_t_split a_t_levelNodes a_t_levelIn a_t_isFree a_t_best a_t_above a_t_ordered a_t_parts t_nodes t_kinds t_levels t_size t_base t_least t_levelArc t_levelWeight t_most t_row)) (w1 := (wd_Re_told cI cZ a_t a_t_least a_t_levelArc a_t_levelWeight a_t_most a_t_row a_t_weight a_t_arcs a_t_split a_t_levelNodes a_t_levelIn a_t_isFree a_t_best a_t_above a_t_ordered a_t_parts t_nodes t_kinds t_levels t_size t_base t_least t_levelArc t_levelWeight t_most t_row)) (wr := [(a_t_above, .inl (cI, 40, .inl t_above)), (a_t_arcs, .inl (cI, 1600, .inl t_arcs)), (a_t_best, .inl (cI, 40, .inl t_best)), (a_t_isFree, .inl (cZ, 40, .inl t_isFree)), (a_t_levelIn, .inl (cI, 1640, .inl t_levelIn)), (a_t_levelNodes, .inl (cI, 41, .inl t_levelNodes)), (a_t_split, .inl (cI, 40, .inl r133)), (a_t_weight, .inl (cI, 40, .inl t_weight))]) (ws' := (wd_Re_run cI cZ a_t a_t_above a_t_arcs a_t_best a_t_isFree a_t_least a_t_levelArc a_t_levelIn a_t_levelNodes a_t_levelWeight a_t_most a_t_row a_t_split a_t_weight a_t_ordered a_t_parts t_nodes t_kinds t_levels t_size t_base t_above t_arcs t_best t_isFree t_least t_levelArc t_levelIn t_levelNodes t_levelWeight t_most t_row r133 t_weight)) (va_runV (As := []) ⟨hx, hb, hml, hown, hts⟩ (c_Re_told l dC dI cI cZ a_t a_t_least a_t_levelArc a_t_levelWeight a_t_most a_t_row a_t_weight a_t_arcs a_t_split a_t_levelNodes a_t_levelIn a_t_isFree a_t_best a_t_above a_t_ordered a_t_parts H.size t_nodes t_kinds t_levels t_size t_base t_least t_levelArc t_levelWeight t_most t_row r137 hr137) (cwV 0 hts (gV gw_899 gw_901 gw_47 gw_61 gw_902) rfl rfl rfl (yd_Re_told) ⟨Nat.le_of_ble_eq_true rfl, Nat.le_of_ble_eq_true rfl⟩) (mkV hK (hP.sub (ws' := (wd_Re_told cI cZ a_t a_t_least a_t_levelArc a_t_levelWeight a_t_most a_t_row a_t_weight a_t_arcs a_t_split a_t_levelNodes a_t_levelIn a_t_isFree a_t_best a_t_above a_t_ordered a_t_parts t_nodes t_kinds t_levels t_size t_base t_least t_levelArc t_levelWeight t_most t_row)) [0, 5, 6, 9, 10, 11] rfl) (hD.sub (ws' := (wd_Re_told cI cZ a_t a_t_least a_t_levelArc a_t_levelWeight a_t_most a_t_row a_t_weight a_t_arcs a_t_split a_t_levelNodes a_t_levelIn a_t_isFree a_t_best a_t_above a_t_ordered a_t_parts t_nodes t_kinds t_levels t_size t_base t_least t_levelArc t_levelWeight t_most t_row)) [0, 5, 6, 9, 10, 11] (by decide) rfl) hN (va_recv hK hP (ci := 9) (q0 := 0) rfl rfl)) rfl rfl hl.1 rfl (lv_room (Nat.le_of_ble_eq_true rfl)) dd_Re_run_137 ⟨Nat.zero_le _, Nat.zero_le _⟩) hP hD hS hA [0, 5, 6, 9, 10, 11] [1, 2, 3, 4, 7, 8, 12, 13] [8, 0, 1, 2, 3, 9, 10, 4, 5, 11, 12, 13, 6, 7] rfl rfl (by decide) (by decide) rfl (by decide) rfl (fun H locs hP hD hS => ?_)
          cases hf
          exact W.iret hx hb hr (fun t ht hW => ⟨⟨_, (), rfl, rfl, pst_of ht hP hD⟩, hS.F ht⟩) hS.2.2 dd_Re_run_140
        refine lv_iload_n hx hb dd_Re_run_46 rfl (lv_at hl 1 rfl) ?_
        refine lv_if_lt (tgt := 132) hx hb dd_Re_run_47 (by decide) (fun cc => ?_) (fun cc => ?_)
        · skip
          have hf := if_t cc hf
          exact h132 t_levels t_size t_base t_above t_best t_isFree t_levelArc t_levelIn t_levelNodes t_levelWeight t_row _ _ _ hf (lv_sub hl [0] rfl) hP hD hS
        · skip
          have hf := if_f cc hf
          refine lv_aload_n hx hb dd_Re_run_50 rfl (lv_at hl 0 rfl) ?_
          refine lv_iload_n hx hb dd_Re_run_51 rfl (lv_at hl 1 rfl) ?_
          obtain ⟨r52, hr52, hf⟩ := bind_some hf
          refine xcallv (rest := []) (wc := (wd_Re_take cI cZ a_t a_t_levelNodes a_t_weight a_t_arcs a_t_split a_t_least a_t_most a_t_levelWeight a_t_levelArc a_t_levelIn a_t_row a_t_isFree a_t_best a_t_above a_t_ordered a_t_parts t_nodes t_kinds t_levels t_size t_base t_levelNodes)) (w1 := (wd_Re_take cI cZ a_t a_t_levelNodes a_t_weight a_t_arcs a_t_split a_t_least a_t_most a_t_levelWeight a_t_levelArc a_t_levelIn a_t_row a_t_isFree a_t_best a_t_above a_t_ordered a_t_parts t_nodes t_kinds t_levels r52.1 r52.2 t_levelNodes)) (wr := [(a_t_above, .inl (cI, 40, .inl t_above)), (a_t_arcs, .inl (cI, 1600, .inl t_arcs)), (a_t_best, .inl (cI, 40, .inl t_best)), (a_t_isFree, .inl (cZ, 40, .inl t_isFree)), (a_t_least, .inl (cI, 4, .inl t_least)), (a_t_levelArc, .inl (cI, 65600, .inl t_levelArc)), (a_t_levelIn, .inl (cI, 1640, .inl t_levelIn)), (a_t_levelWeight, .inl (cI, 1640, .inl t_levelWeight)), (a_t_most, .inl (cI, 4, .inl t_most)), (a_t_row, .inl (cI, 40, .inl t_row)), (a_t_split, .inl (cI, 40, .inl t_split)), (a_t_weight, .inl (cI, 40, .inl t_weight))]) (ws' := (wd_Re_run cI cZ a_t a_t_above a_t_arcs a_t_best a_t_isFree a_t_least a_t_levelArc a_t_levelIn a_t_levelNodes a_t_levelWeight a_t_most a_t_row a_t_split a_t_weight a_t_ordered a_t_parts t_nodes t_kinds t_levels r52.1 r52.2 t_above t_arcs t_best t_isFree t_least t_levelArc t_levelIn t_levelNodes t_levelWeight t_most t_row t_split t_weight)) (va_runV (As := [.int x1]) ⟨hx, hb, hml, hown, hts⟩ (c_Re_take l dC dI cI cZ a_t a_t_levelNodes a_t_weight a_t_arcs a_t_split a_t_least a_t_most a_t_levelWeight a_t_levelArc a_t_levelIn a_t_row a_t_isFree a_t_best a_t_above a_t_ordered a_t_parts H.size x1 t_nodes t_kinds t_levels t_size t_base t_levelNodes r52 hr52) (cwV 1 hts (gV gw_834 gw_836 gw_35 gw_61 gw_837) rfl rfl rfl (yd_Re_take) ⟨Nat.le_of_ble_eq_true rfl, Nat.le_of_ble_eq_true rfl⟩) (mkV hK (hP.sub (ws' := (wd_Re_take cI cZ a_t a_t_levelNodes a_t_weight a_t_arcs a_t_split a_t_least a_t_most a_t_levelWeight a_t_levelArc a_t_levelIn a_t_row a_t_isFree a_t_best a_t_above a_t_ordered a_t_parts t_nodes t_kinds t_levels t_size t_base t_levelNodes)) [0, 8] rfl) (hD.sub (ws' := (wd_Re_take cI cZ a_t a_t_levelNodes a_t_weight a_t_arcs a_t_split a_t_least a_t_most a_t_levelWeight a_t_levelArc a_t_levelIn a_t_row a_t_isFree a_t_best a_t_above a_t_ordered a_t_parts t_nodes t_kinds t_levels t_size t_base t_levelNodes)) [0, 8] (by decide) rfl) hN (va_recv hK hP (ci := 9) (q0 := 0) rfl rfl)) rfl rfl hl.1 rfl (lv_room (Nat.le_of_ble_eq_true rfl)) dd_Re_run_52 ⟨Nat.zero_le _, Nat.zero_le _⟩) hP hD hS hA [0, 8] [1, 2, 3, 4, 5, 6, 7, 9, 10, 11, 12, 13] [12, 0, 1, 2, 3, 4, 5, 6, 13, 7, 8, 9, 10, 11] rfl rfl (by decide) (by decide) rfl (by decide) rfl (fun H locs hP hD hS => ?_)
          refine lv_iconst (v := 0) hx hb dd_Re_run_55 (by decide) ?_
          refine lv_istore_n (lv' := [(2, .int 0), (0, .ref a_t), (1, .int x1)]) hx hb dd_Re_run_56 rfl hl (by decide) rfl (fun ls hl => ?_)
          exact h57 64 x1 0 t_levels r52.1 r52.2 t_above t_best t_isFree t_levelArc t_levelIn t_levelNodes t_levelWeight t_row _ _ _ hf (lv_sub hl [1, 2, 0] rfl) hP hD hS
    refine lv_aload_n hx hb dd_Re_run_34 rfl (lv_at hl 0 rfl) ?_
    obtain ⟨r35, hr35, hf⟩ := bind_some hf
    refine xcalli (rest := []) (wc := (wd_Re_passes cI cZ a_t a_t_best a_t_isFree a_t_least a_t_levelArc a_t_levelWeight a_t_most a_t_row a_t_weight a_t_arcs a_t_split a_t_levelNodes a_t_levelIn a_t_above a_t_ordered a_t_parts t_nodes t_kinds t_levels t_size t_base t_best t_isFree t_least t_levelArc t_levelWeight t_most t_row)) (w1 := (wd_Re_passes cI cZ a_t a_t_best a_t_isFree a_t_least a_t_levelArc a_t_levelWeight a_t_most a_t_row a_t_weight a_t_arcs a_t_split a_t_levelNodes a_t_levelIn a_t_above a_t_ordered a_t_parts t_nodes t_kinds t_levels t_size t_base r35.2.1 r35.2.2.1 t_least t_levelArc t_levelWeight t_most r35.2.2.2)) (wr := [(a_t_above, .inl (cI, 40, .inl t_above)), (a_t_arcs, .inl (cI, 1600, .inl t_arcs)), (a_t_levelIn, .inl (cI, 1640, .inl t_levelIn)), (a_t_levelNodes, .inl (cI, 41, .inl t_levelNodes)), (a_t_split, .inl (cI, 40, .inl t_split)), (a_t_weight, .inl (cI, 40, .inl t_weight))]) (ws' := (wd_Re_run cI cZ a_t a_t_above a_t_arcs a_t_best a_t_isFree a_t_least a_t_levelArc a_t_levelIn a_t_levelNodes a_t_levelWeight a_t_most a_t_row a_t_split a_t_weight a_t_ordered a_t_parts t_nodes t_kinds t_levels t_size t_base t_above t_arcs r35.2.1 r35.2.2.1 t_least t_levelArc t_levelIn t_levelNodes t_levelWeight t_most r35.2.2.2 t_split t_weight)) (va_runV (As := []) ⟨hx, hb, hml, hown, hts⟩ (c_Re_passes l dC dI cI cZ a_t a_t_best a_t_isFree a_t_least a_t_levelArc a_t_levelWeight a_t_most a_t_row a_t_weight a_t_arcs a_t_split a_t_levelNodes a_t_levelIn a_t_above a_t_ordered a_t_parts H.size t_nodes t_kinds t_levels t_size t_base t_best t_isFree t_least t_levelArc t_levelWeight t_most t_row r35 hr35) (cwV 0 hts (gV gw_887 gw_889 gw_44 gw_61 gw_890) rfl rfl rfl (yd_Re_passes) ⟨Nat.le_of_ble_eq_true rfl, Nat.le_of_ble_eq_true rfl⟩) (mkV hK (hP.sub (ws' := (wd_Re_passes cI cZ a_t a_t_best a_t_isFree a_t_least a_t_levelArc a_t_levelWeight a_t_most a_t_row a_t_weight a_t_arcs a_t_split a_t_levelNodes a_t_levelIn a_t_above a_t_ordered a_t_parts t_nodes t_kinds t_levels t_size t_base t_best t_isFree t_least t_levelArc t_levelWeight t_most t_row)) [0, 3, 4, 5, 6, 9, 10, 11] rfl) (hD.sub (ws' := (wd_Re_passes cI cZ a_t a_t_best a_t_isFree a_t_least a_t_levelArc a_t_levelWeight a_t_most a_t_row a_t_weight a_t_arcs a_t_split a_t_levelNodes a_t_levelIn a_t_above a_t_ordered a_t_parts t_nodes t_kinds t_levels t_size t_base t_best t_isFree t_least t_levelArc t_levelWeight t_most t_row)) [0, 3, 4, 5, 6, 9, 10, 11] (by decide) rfl) hN (va_recv hK hP (ci := 9) (q0 := 0) rfl rfl)) rfl rfl hl.1 rfl (lv_room (Nat.le_of_ble_eq_true rfl)) dd_Re_run_35 ⟨Nat.zero_le _, Nat.zero_le _⟩) hP hD hS hA [0, 3, 4, 5, 6, 9, 10, 11] [1, 2, 7, 8, 12, 13] [6, 0, 1, 7, 8, 9, 10, 2, 3, 11, 12, 13, 4, 5] rfl rfl (by decide) (by decide) rfl (by decide) rfl (fun H locs hP hD hS => ?_)
    refine lv_pop hx hb dd_Re_run_38 rfl ?_
    refine lv_aload_n hx hb dd_Re_run_39 rfl (lv_at hl 0 rfl) ?_
    refine va_get (D := (dC, dI)) (ci := 9) (v := .int t_levels) (C := rr_Re) (T := tt_Re) (N := 20) hx hb hts (fun w h => gwc (inn_Re w h)) hown hK hP 0 rfl rfl 7 (by decide) (hts _ (gwc gw_710)) (fun _ h9 => h9) rfl dd_Re_run_40 ?_
    refine lv_iconst (v := 2) hx hb dd_Re_run_43 (by decide) ?_
    refine lv_isub hx hb dd_Re_run_44 ?_
    refine lv_istore_n (lv' := [(1, .int (t_levels - 2)), (0, .ref a_t)]) hx hb dd_Re_run_45 rfl hl (by decide) rfl (fun ls hl => ?_)
    exact h46 64 (t_levels - 2) t_levels t_size t_base t_above r35.2.1 r35.2.2.1 t_levelArc t_levelIn t_levelNodes t_levelWeight r35.2.2.2 _ _ _ hf (lv_sub hl [1, 0] rfl) hP hD hS
  refine lv_aload_n hx hb dd_Re_run_0 rfl (lv_at hl 0 rfl) ?_
  obtain ⟨r1, hr1, hf⟩ := bind_some hf
  refine xcallv (rest := []) (wc := (wd_Re_makeLevels cI cZ a_t a_t_arcs a_t_levelArc a_t_levelIn a_t_levelNodes a_t_levelWeight a_t_weight a_t_split a_t_least a_t_most a_t_row a_t_isFree a_t_best a_t_above a_t_ordered a_t_parts t_nodes t_kinds t_levels t_size t_base t_arcs t_levelArc t_levelIn t_levelNodes t_levelWeight t_weight)) (w1 := (wd_Re_makeLevels cI cZ a_t a_t_arcs a_t_levelArc a_t_levelIn a_t_levelNodes a_t_levelWeight a_t_weight a_t_split a_t_least a_t_most a_t_row a_t_isFree a_t_best a_t_above a_t_ordered a_t_parts t_nodes t_kinds r1.1 t_size t_base t_arcs r1.2.1 r1.2.2.1 r1.2.2.2.1 r1.2.2.2.2 t_weight)) (wr := [(a_t_above, .inl (cI, 40, .inl t_above)), (a_t_best, .inl (cI, 40, .inl t_best)), (a_t_isFree, .inl (cZ, 40, .inl t_isFree)), (a_t_least, .inl (cI, 4, .inl t_least)), (a_t_most, .inl (cI, 4, .inl t_most)), (a_t_row, .inl (cI, 40, .inl t_row)), (a_t_split, .inl (cI, 40, .inl t_split))]) (ws' := (wd_Re_run cI cZ a_t a_t_above a_t_arcs a_t_best a_t_isFree a_t_least a_t_levelArc a_t_levelIn a_t_levelNodes a_t_levelWeight a_t_most a_t_row a_t_split a_t_weight a_t_ordered a_t_parts t_nodes t_kinds r1.1 t_size t_base t_above t_arcs t_best t_isFree t_least r1.2.1 r1.2.2.1 r1.2.2.2.1 r1.2.2.2.2 t_most t_row t_split t_weight)) (va_runV (As := []) ⟨hx, hb, hml, hown, hts⟩ (c_Re_makeLevels l dC dI cI cZ a_t a_t_arcs a_t_levelArc a_t_levelIn a_t_levelNodes a_t_levelWeight a_t_weight a_t_split a_t_least a_t_most a_t_row a_t_isFree a_t_best a_t_above a_t_ordered a_t_parts H.size t_nodes t_kinds t_levels t_size t_base t_arcs t_levelArc t_levelIn t_levelNodes t_levelWeight t_weight r1 hr1) (cwV 0 hts (gV gw_796 gw_798 gw_31 gw_61 gw_799) rfl rfl rfl (yd_Re_makeLevels) ⟨Nat.le_of_ble_eq_true rfl, Nat.le_of_ble_eq_true rfl⟩) (mkV hK (hP.sub (ws' := (wd_Re_makeLevels cI cZ a_t a_t_arcs a_t_levelArc a_t_levelIn a_t_levelNodes a_t_levelWeight a_t_weight a_t_split a_t_least a_t_most a_t_row a_t_isFree a_t_best a_t_above a_t_ordered a_t_parts t_nodes t_kinds t_levels t_size t_base t_arcs t_levelArc t_levelIn t_levelNodes t_levelWeight t_weight)) [0, 2, 6, 7, 8, 9, 13] rfl) (hD.sub (ws' := (wd_Re_makeLevels cI cZ a_t a_t_arcs a_t_levelArc a_t_levelIn a_t_levelNodes a_t_levelWeight a_t_weight a_t_split a_t_least a_t_most a_t_row a_t_isFree a_t_best a_t_above a_t_ordered a_t_parts t_nodes t_kinds t_levels t_size t_base t_arcs t_levelArc t_levelIn t_levelNodes t_levelWeight t_weight)) [0, 2, 6, 7, 8, 9, 13] (by decide) rfl) hN (va_recv hK hP (ci := 9) (q0 := 0) rfl rfl)) rfl rfl hl.1 rfl (lv_room (Nat.le_of_ble_eq_true rfl)) dd_Re_run_1 ⟨Nat.zero_le _, Nat.zero_le _⟩) hP hD hS hA [0, 2, 6, 7, 8, 9, 13] [1, 3, 4, 5, 10, 11, 12] [7, 0, 8, 1, 2, 3, 9, 10, 11, 12, 4, 5, 6, 13] rfl rfl (by decide) (by decide) rfl (by decide) rfl (fun H locs hP hD hS => ?_)
  refine lv_aload_n hx hb dd_Re_run_4 rfl (lv_at hl 0 rfl) ?_
  refine lv_aload_n hx hb dd_Re_run_5 rfl (lv_at hl 0 rfl) ?_
  refine va_get (D := (dC, dI)) (ci := 9) (v := .int r1.1) (C := rr_Re) (T := tt_Re) (N := 20) hx hb hts (fun w h => gwc (inn_Re w h)) hown hK hP 0 rfl rfl 7 (by decide) (hts _ (gwc gw_710)) (fun _ h9 => h9) rfl dd_Re_run_6 ?_
  refine lv_iconst (v := 1) hx hb dd_Re_run_9 (by decide) ?_
  refine lv_isub hx hb dd_Re_run_10 ?_
  obtain ⟨r11, hr11, hf⟩ := bind_some hf
  refine xcallv (rest := []) (wc := (wd_Re_take cI cZ a_t a_t_levelNodes a_t_weight a_t_arcs a_t_split a_t_least a_t_most a_t_levelWeight a_t_levelArc a_t_levelIn a_t_row a_t_isFree a_t_best a_t_above a_t_ordered a_t_parts t_nodes t_kinds r1.1 t_size t_base r1.2.2.2.1)) (w1 := (wd_Re_take cI cZ a_t a_t_levelNodes a_t_weight a_t_arcs a_t_split a_t_least a_t_most a_t_levelWeight a_t_levelArc a_t_levelIn a_t_row a_t_isFree a_t_best a_t_above a_t_ordered a_t_parts t_nodes t_kinds r1.1 r11.1 r11.2 r1.2.2.2.1)) (wr := [(a_t_above, .inl (cI, 40, .inl t_above)), (a_t_arcs, .inl (cI, 1600, .inl t_arcs)), (a_t_best, .inl (cI, 40, .inl t_best)), (a_t_isFree, .inl (cZ, 40, .inl t_isFree)), (a_t_least, .inl (cI, 4, .inl t_least)), (a_t_levelArc, .inl (cI, 65600, .inl r1.2.1)), (a_t_levelIn, .inl (cI, 1640, .inl r1.2.2.1)), (a_t_levelWeight, .inl (cI, 1640, .inl r1.2.2.2.2)), (a_t_most, .inl (cI, 4, .inl t_most)), (a_t_row, .inl (cI, 40, .inl t_row)), (a_t_split, .inl (cI, 40, .inl t_split)), (a_t_weight, .inl (cI, 40, .inl t_weight))]) (ws' := (wd_Re_run cI cZ a_t a_t_above a_t_arcs a_t_best a_t_isFree a_t_least a_t_levelArc a_t_levelIn a_t_levelNodes a_t_levelWeight a_t_most a_t_row a_t_split a_t_weight a_t_ordered a_t_parts t_nodes t_kinds r1.1 r11.1 r11.2 t_above t_arcs t_best t_isFree t_least r1.2.1 r1.2.2.1 r1.2.2.2.1 r1.2.2.2.2 t_most t_row t_split t_weight)) (va_runV (As := [.int (r1.1 - 1)]) ⟨hx, hb, hml, hown, hts⟩ (c_Re_take l dC dI cI cZ a_t a_t_levelNodes a_t_weight a_t_arcs a_t_split a_t_least a_t_most a_t_levelWeight a_t_levelArc a_t_levelIn a_t_row a_t_isFree a_t_best a_t_above a_t_ordered a_t_parts H.size (r1.1 - 1) t_nodes t_kinds r1.1 t_size t_base r1.2.2.2.1 r11 hr11) (cwV 1 hts (gV gw_834 gw_836 gw_35 gw_61 gw_837) rfl rfl rfl (yd_Re_take) ⟨Nat.le_of_ble_eq_true rfl, Nat.le_of_ble_eq_true rfl⟩) (mkV hK (hP.sub (ws' := (wd_Re_take cI cZ a_t a_t_levelNodes a_t_weight a_t_arcs a_t_split a_t_least a_t_most a_t_levelWeight a_t_levelArc a_t_levelIn a_t_row a_t_isFree a_t_best a_t_above a_t_ordered a_t_parts t_nodes t_kinds r1.1 t_size t_base r1.2.2.2.1)) [0, 8] rfl) (hD.sub (ws' := (wd_Re_take cI cZ a_t a_t_levelNodes a_t_weight a_t_arcs a_t_split a_t_least a_t_most a_t_levelWeight a_t_levelArc a_t_levelIn a_t_row a_t_isFree a_t_best a_t_above a_t_ordered a_t_parts t_nodes t_kinds r1.1 t_size t_base r1.2.2.2.1)) [0, 8] (by decide) rfl) hN (va_recv hK hP (ci := 9) (q0 := 0) rfl rfl)) rfl rfl hl.1 rfl (lv_room (Nat.le_of_ble_eq_true rfl)) dd_Re_run_11 ⟨Nat.zero_le _, Nat.zero_le _⟩) hP hD hS hA [0, 8] [1, 2, 3, 4, 5, 6, 7, 9, 10, 11, 12, 13] [12, 0, 1, 2, 3, 4, 5, 6, 13, 7, 8, 9, 10, 11] rfl rfl (by decide) (by decide) rfl (by decide) rfl (fun H locs hP hD hS => ?_)
  refine lv_aload_n hx hb dd_Re_run_14 rfl (lv_at hl 0 rfl) ?_
  refine va_get (D := (dC, dI)) (ci := 9) (v := .int r11.1) (C := rr_Re) (T := tt_Re) (N := 20) hx hb hts (fun w h => gwc (inn_Re w h)) hown hK hP 0 rfl rfl 12 (by decide) (hts _ (gwc gw_715)) (fun _ h9 => h9) rfl dd_Re_run_15 ?_
  refine lv_bipush (v := 6) hx hb dd_Re_run_18 (by decide) ?_
  refine lv_icmp_gt (tgt := 30) hx hb dd_Re_run_20 (by decide) (fun cc => ?_) (fun cc => ?_)
  · skip
    have hf := if_t cc hf
    refine lv_aload_n hx hb dd_Re_run_30 rfl (lv_at hl 0 rfl) ?_
    obtain ⟨r31, hr31, hf⟩ := bind_some hf
    refine xcallv (rest := []) (wc := (wd_Re_grows cI cZ a_t a_t_isFree a_t_levelWeight a_t_most a_t_row a_t_weight a_t_arcs a_t_split a_t_least a_t_levelNodes a_t_levelArc a_t_levelIn a_t_best a_t_above a_t_ordered a_t_parts t_nodes t_kinds r1.1 r11.1 r11.2 t_isFree r1.2.2.2.2 t_most t_row)) (w1 := (wd_Re_grows cI cZ a_t a_t_isFree a_t_levelWeight a_t_most a_t_row a_t_weight a_t_arcs a_t_split a_t_least a_t_levelNodes a_t_levelArc a_t_levelIn a_t_best a_t_above a_t_ordered a_t_parts t_nodes t_kinds r1.1 r11.1 r11.2 r31.1 r1.2.2.2.2 t_most r31.2)) (wr := [(a_t_above, .inl (cI, 40, .inl t_above)), (a_t_arcs, .inl (cI, 1600, .inl t_arcs)), (a_t_best, .inl (cI, 40, .inl t_best)), (a_t_least, .inl (cI, 4, .inl t_least)), (a_t_levelArc, .inl (cI, 65600, .inl r1.2.1)), (a_t_levelIn, .inl (cI, 1640, .inl r1.2.2.1)), (a_t_levelNodes, .inl (cI, 41, .inl r1.2.2.2.1)), (a_t_split, .inl (cI, 40, .inl t_split)), (a_t_weight, .inl (cI, 40, .inl t_weight))]) (ws' := (wd_Re_run cI cZ a_t a_t_above a_t_arcs a_t_best a_t_isFree a_t_least a_t_levelArc a_t_levelIn a_t_levelNodes a_t_levelWeight a_t_most a_t_row a_t_split a_t_weight a_t_ordered a_t_parts t_nodes t_kinds r1.1 r11.1 r11.2 t_above t_arcs t_best r31.1 t_least r1.2.1 r1.2.2.1 r1.2.2.2.1 r1.2.2.2.2 t_most r31.2 t_split t_weight)) (va_runV (As := []) ⟨hx, hb, hml, hown, hts⟩ (c_Re_grows l dC dI cI cZ a_t a_t_isFree a_t_levelWeight a_t_most a_t_row a_t_weight a_t_arcs a_t_split a_t_least a_t_levelNodes a_t_levelArc a_t_levelIn a_t_best a_t_above a_t_ordered a_t_parts H.size t_nodes t_kinds r1.1 r11.1 r11.2 t_isFree r1.2.2.2.2 t_most t_row r31 hr31) (cwV 0 hts (gV gw_883 gw_885 gw_43 gw_61 gw_886) rfl rfl rfl (yd_Re_grows) ⟨Nat.le_of_ble_eq_true rfl, Nat.le_of_ble_eq_true rfl⟩) (mkV hK (hP.sub (ws' := (wd_Re_grows cI cZ a_t a_t_isFree a_t_levelWeight a_t_most a_t_row a_t_weight a_t_arcs a_t_split a_t_least a_t_levelNodes a_t_levelArc a_t_levelIn a_t_best a_t_above a_t_ordered a_t_parts t_nodes t_kinds r1.1 r11.1 r11.2 t_isFree r1.2.2.2.2 t_most t_row)) [0, 4, 9, 10, 11] rfl) (hD.sub (ws' := (wd_Re_grows cI cZ a_t a_t_isFree a_t_levelWeight a_t_most a_t_row a_t_weight a_t_arcs a_t_split a_t_least a_t_levelNodes a_t_levelArc a_t_levelIn a_t_best a_t_above a_t_ordered a_t_parts t_nodes t_kinds r1.1 r11.1 r11.2 t_isFree r1.2.2.2.2 t_most t_row)) [0, 4, 9, 10, 11] (by decide) rfl) hN (va_recv hK hP (ci := 9) (q0 := 0) rfl rfl)) rfl rfl hl.1 rfl (lv_room (Nat.le_of_ble_eq_true rfl)) dd_Re_run_31 ⟨Nat.zero_le _, Nat.zero_le _⟩) hP hD hS hA [0, 4, 9, 10, 11] [1, 2, 3, 5, 6, 7, 8, 12, 13] [9, 0, 1, 2, 10, 3, 4, 5, 6, 11, 12, 13, 7, 8] rfl rfl (by decide) (by decide) rfl (by decide) rfl (fun H locs hP hD hS => ?_)
    exact h34 r1.1 r11.1 r11.2 t_best r31.1 r1.2.1 r1.2.2.1 r1.2.2.2.1 r1.2.2.2.2 r31.2 _ _ _ hf (lv_sub hl [0] rfl) hP hD hS
  · skip
    have hf := if_f cc hf
    refine lv_aload_n hx hb dd_Re_run_23 rfl (lv_at hl 0 rfl) ?_
    obtain ⟨r24, hr24, hf⟩ := bind_some hf
    refine xcallv (rest := []) (wc := (wd_Re_tries cI cZ a_t a_t_best a_t_least a_t_levelArc a_t_levelWeight a_t_most a_t_row a_t_weight a_t_arcs a_t_split a_t_levelNodes a_t_levelIn a_t_isFree a_t_above a_t_ordered a_t_parts t_nodes t_kinds r1.1 r11.1 r11.2 t_best t_least r1.2.1 r1.2.2.2.2 t_most t_row)) (w1 := (wd_Re_tries cI cZ a_t a_t_best a_t_least a_t_levelArc a_t_levelWeight a_t_most a_t_row a_t_weight a_t_arcs a_t_split a_t_levelNodes a_t_levelIn a_t_isFree a_t_above a_t_ordered a_t_parts t_nodes t_kinds r1.1 r11.1 r11.2 r24.1 t_least r1.2.1 r1.2.2.2.2 t_most r24.2)) (wr := [(a_t_above, .inl (cI, 40, .inl t_above)), (a_t_arcs, .inl (cI, 1600, .inl t_arcs)), (a_t_isFree, .inl (cZ, 40, .inl t_isFree)), (a_t_levelIn, .inl (cI, 1640, .inl r1.2.2.1)), (a_t_levelNodes, .inl (cI, 41, .inl r1.2.2.2.1)), (a_t_split, .inl (cI, 40, .inl t_split)), (a_t_weight, .inl (cI, 40, .inl t_weight))]) (ws' := (wd_Re_run cI cZ a_t a_t_above a_t_arcs a_t_best a_t_isFree a_t_least a_t_levelArc a_t_levelIn a_t_levelNodes a_t_levelWeight a_t_most a_t_row a_t_split a_t_weight a_t_ordered a_t_parts t_nodes t_kinds r1.1 r11.1 r11.2 t_above t_arcs r24.1 t_isFree t_least r1.2.1 r1.2.2.1 r1.2.2.2.1 r1.2.2.2.2 t_most r24.2 t_split t_weight)) (va_runV (As := []) ⟨hx, hb, hml, hown, hts⟩ (c_Re_tries l dC dI cI cZ a_t a_t_best a_t_least a_t_levelArc a_t_levelWeight a_t_most a_t_row a_t_weight a_t_arcs a_t_split a_t_levelNodes a_t_levelIn a_t_isFree a_t_above a_t_ordered a_t_parts H.size t_nodes t_kinds r1.1 r11.1 r11.2 t_best t_least r1.2.1 r1.2.2.2.2 t_most t_row r24 hr24) (cwV 0 hts (gV gw_879 gw_881 gw_42 gw_61 gw_882) rfl rfl rfl (yd_Re_tries) ⟨Nat.le_of_ble_eq_true rfl, Nat.le_of_ble_eq_true rfl⟩) (mkV hK (hP.sub (ws' := (wd_Re_tries cI cZ a_t a_t_best a_t_least a_t_levelArc a_t_levelWeight a_t_most a_t_row a_t_weight a_t_arcs a_t_split a_t_levelNodes a_t_levelIn a_t_isFree a_t_above a_t_ordered a_t_parts t_nodes t_kinds r1.1 r11.1 r11.2 t_best t_least r1.2.1 r1.2.2.2.2 t_most t_row)) [0, 3, 5, 6, 9, 10, 11] rfl) (hD.sub (ws' := (wd_Re_tries cI cZ a_t a_t_best a_t_least a_t_levelArc a_t_levelWeight a_t_most a_t_row a_t_weight a_t_arcs a_t_split a_t_levelNodes a_t_levelIn a_t_isFree a_t_above a_t_ordered a_t_parts t_nodes t_kinds r1.1 r11.1 r11.2 t_best t_least r1.2.1 r1.2.2.2.2 t_most t_row)) [0, 3, 5, 6, 9, 10, 11] (by decide) rfl) hN (va_recv hK hP (ci := 9) (q0 := 0) rfl rfl)) rfl rfl hl.1 rfl (lv_room (Nat.le_of_ble_eq_true rfl)) dd_Re_run_24 ⟨Nat.zero_le _, Nat.zero_le _⟩) hP hD hS hA [0, 3, 5, 6, 9, 10, 11] [1, 2, 4, 7, 8, 12, 13] [7, 0, 1, 8, 2, 9, 10, 3, 4, 11, 12, 13, 5, 6] rfl rfl (by decide) (by decide) rfl (by decide) rfl (fun H locs hP hD hS => ?_)
    refine lv_goto (tgt := 34) hx hb dd_Re_run_27 (by decide) ?_
    exact h34 r1.1 r11.1 r11.2 r24.1 t_isFree r1.2.1 r1.2.2.1 r1.2.2.2.1 r1.2.2.2.2 r24.2 _ _ _ hf (lv_sub hl [0] rfl) hP hD hS
