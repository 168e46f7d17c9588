abbrev wd_Re_exact (cI cZ : ClassId) (a_t a_t_arcs a_t_best a_t_least a_t_levelArc a_t_levelIn a_t_levelNodes a_t_levelWeight a_t_most a_t_row a_t_split a_t_weight a_t_isFree a_t_above a_t_ordered a_t_parts : Nat) (t_nodes : Int32) (t_kinds : Int32) (t_levels : Int32) (t_size : Int32) (t_base : Int32) (t_arcs : Nat → Int32) (t_best : Nat → Int32) (t_least : Nat → Int32) (t_levelArc : Nat → Int32) (t_levelIn : Nat → Int32) (t_levelNodes : Nat → Int32) (t_levelWeight : Nat → Int32) (t_most : Nat → Int32) (t_row : Nat → Int32) (t_split : Nat → Int32) (t_weight : Nat → Int32) : va_W := [(a_t, .inr (9, [.int t_nodes, .int t_kinds, .ref a_t_weight, .ref a_t_arcs, .ref a_t_split, .ref a_t_least, .ref a_t_most, .int t_levels, .ref a_t_levelNodes, .ref a_t_levelWeight, .ref a_t_levelArc, .ref a_t_levelIn, .int t_size, .int t_base, .ref a_t_row, .ref a_t_isFree, .ref a_t_best, .ref a_t_above, .ref a_t_ordered, .ref a_t_parts])), (a_t_arcs, .inl (cI, 1600, .inl t_arcs)), (a_t_best, .inl (cI, 40, .inl t_best)), (a_t_least, .inl (cI, 4, .inl t_least)), (a_t_levelArc, .inl (cI, 65600, .inl t_levelArc)), (a_t_levelIn, .inl (cI, 1640, .inl t_levelIn)), (a_t_levelNodes, .inl (cI, 41, .inl t_levelNodes)), (a_t_levelWeight, .inl (cI, 1640, .inl t_levelWeight)), (a_t_most, .inl (cI, 4, .inl t_most)), (a_t_row, .inl (cI, 40, .inl t_row)), (a_t_split, .inl (cI, 40, .inl t_split)), (a_t_weight, .inl (cI, 40, .inl t_weight))]
set_option maxRecDepth 100000 in
set_option maxHeartbeats 4000000 in
theorem c_Re_exact (l : Launch) (dC : Nat → ClassId) (dI : Nat → Nat → Nat) (cI cZ : ClassId) (a_t a_t_arcs a_t_best a_t_least a_t_levelArc a_t_levelIn a_t_levelNodes a_t_levelWeight a_t_most a_t_row a_t_split a_t_weight a_t_isFree a_t_above a_t_ordered a_t_parts sz : Nat) (t_nodes : Int32) (t_kinds : Int32) (t_levels : Int32) (t_size : Int32) (t_base : Int32) (t_arcs : Nat → Int32) (t_best : Nat → Int32) (t_least : Nat → Int32) (t_levelArc : Nat → Int32) (t_levelIn : Nat → Int32) (t_levelNodes : Nat → Int32) (t_levelWeight : Nat → Int32) (t_most : Nat → Int32) (t_row : Nat → Int32) (t_split : Nat → Int32) (t_weight : Nat → Int32) (out : Int32 × Int32 × Int32 × Int32 × (Nat → Int32) × (Nat → Int32) × (Nat → Int32) × (Nat → Int32) × (Nat → Int32) × (Nat → Int32) × (Nat → Int32)) (hf : f_Re_exact t_nodes t_kinds t_levels t_size t_base t_arcs t_best t_least t_levelArc t_levelIn t_levelNodes t_levelWeight t_most t_row t_split t_weight = some out) :
    Met l yy_Re_exact wq_Re_exact ({ frames := 4, cells := 0, slots := 0, locals := 102 }) (va_Pc ([.ref a_t] : List Value) (pre_ (dC, dI) cI cZ sz (wd_Re_exact cI cZ a_t a_t_arcs a_t_best a_t_least a_t_levelArc a_t_levelIn a_t_levelNodes a_t_levelWeight a_t_most a_t_row a_t_split a_t_weight a_t_isFree a_t_above a_t_ordered a_t_parts t_nodes t_kinds t_levels t_size t_base t_arcs t_best t_least t_levelArc t_levelIn t_levelNodes t_levelWeight t_most t_row t_split t_weight))) (va_Qi (fun (r : Int32) (_ : Unit) => r = out.1) (fun _ => pst (dC, dI) (va_A (wd_Re_exact cI cZ a_t a_t_arcs a_t_best a_t_least a_t_levelArc a_t_levelIn a_t_levelNodes a_t_levelWeight a_t_most a_t_row a_t_split a_t_weight a_t_isFree a_t_above a_t_ordered a_t_parts t_nodes t_kinds t_levels t_size t_base t_arcs t_best t_least t_levelArc t_levelIn t_levelNodes t_levelWeight t_most t_row t_split t_weight) sz) (wd_Re_exact cI cZ a_t a_t_arcs a_t_best a_t_least a_t_levelArc a_t_levelIn a_t_levelNodes a_t_levelWeight a_t_most a_t_row a_t_split a_t_weight a_t_isFree a_t_above a_t_ordered a_t_parts t_nodes t_kinds out.2.1 out.2.2.1 out.2.2.2.1 t_arcs out.2.2.2.2.1 t_least out.2.2.2.2.2.1 out.2.2.2.2.2.2.1 out.2.2.2.2.2.2.2.1 out.2.2.2.2.2.2.2.2.1 t_most out.2.2.2.2.2.2.2.2.2.1 out.2.2.2.2.2.2.2.2.2.2 t_weight)) (va_A (wd_Re_exact cI cZ a_t a_t_arcs a_t_best a_t_least a_t_levelArc a_t_levelIn a_t_levelNodes a_t_levelWeight a_t_most a_t_row a_t_split a_t_weight a_t_isFree a_t_above a_t_ordered a_t_parts t_nodes t_kinds t_levels t_size t_base t_arcs t_best t_least t_levelArc t_levelIn t_levelNodes t_levelWeight t_most t_row t_split t_weight) sz)) 0 0 (va_A (wd_Re_exact cI cZ a_t a_t_arcs a_t_best a_t_least a_t_levelArc a_t_levelIn a_t_levelNodes a_t_levelWeight a_t_most a_t_row a_t_split a_t_weight a_t_isFree a_t_above a_t_ordered a_t_parts t_nodes t_kinds t_levels t_size t_base t_arcs t_best t_least t_levelArc t_levelIn t_levelNodes t_levelWeight t_most t_row t_split t_weight) sz) := by
  refine Met.ofW (cc := cc_Re_exact) (maxL := 4) (ret := (some .int)) (by decide) rfl ?_
  intro p e s m args below meth c s₁ B hml hv
  obtain ⟨rfl, hsz, hP, hK, hD0, hN⟩ := hv
  have hx := B.exec
  have hb := B.bytes
  have hr := B.returns
  have hts := atoms_spec (ws := wq_Re_exact) B.pre
  have hown : s.vm.findClass rr_Re = some m.cls := findClass_of_methodNamed B.named
  have hlocks := B.notSynchronized
  subst hsz
  have hD := hD0.self (sz := s.heap.size)
  generalize hAe : va_A (wd_Re_exact cI cZ a_t a_t_arcs a_t_best a_t_least a_t_levelArc a_t_levelIn a_t_levelNodes a_t_levelWeight a_t_most a_t_row a_t_split a_t_weight a_t_isFree a_t_above a_t_ordered a_t_parts t_nodes t_kinds t_levels t_size t_base t_arcs t_best t_least t_levelArc t_levelIn t_levelNodes t_levelWeight t_most t_row t_split t_weight) s.heap.size = A at hD ⊢
  have hA : ∀ q : Nat, s.heap.size ≤ q → A q := fun q h => by rw [← hAe]; exact Or.inr h
  obtain ⟨H, hH⟩ : ∃ H : Heap, H = s.heap := ⟨_, rfl⟩
  have hS : va_S A s.heap H [] := by rw [hH]; exact va_S.rf
  have hl := lv_entry (([.ref a_t] : List Value)) (n := 4) (Nat.le_of_ble_eq_true rfl)
  rw [lg_entry_eq]
  generalize (lg_sl (([.ref a_t] : List Value)) ++ List.replicate (4 - (lg_sl (([.ref a_t] : List Value))).length) Slot.unset).toArray = ls at hl ⊢
  have hl : lv_has ls 4 [(0, .ref a_t)] := hl
  rw [← hH] at hP ⊢
  have hP : va_P (dC, dI) clsL (wd_Re_exact cI cZ a_t a_t_arcs a_t_best a_t_least a_t_levelArc a_t_levelIn a_t_levelNodes a_t_levelWeight a_t_most a_t_row a_t_split a_t_weight a_t_isFree a_t_above a_t_ordered a_t_parts t_nodes t_kinds t_levels t_size t_base t_arcs t_best t_least t_levelArc t_levelIn t_levelNodes t_levelWeight t_most t_row t_split t_weight) H := hP
  unfold f_Re_exact at hf
  have h4 : ∀ (n4 : Nat) (x1 : Int64) (x3 : Int32) (ls : Array Slot) (H : Heap) (locs : List Loc), L_Re_exact_4 t_nodes t_kinds t_levels t_size t_base t_arcs t_best t_least t_levelArc t_levelIn t_levelNodes t_levelWeight t_most t_row t_split t_weight n4 x1 x3 = some out → lv_has ls 4 [(0, .ref a_t), (1, .long x1), (3, .int x3)] → va_P (dC, dI) clsL (wd_Re_exact cI cZ a_t a_t_arcs a_t_best a_t_least a_t_levelArc a_t_levelIn a_t_levelNodes a_t_levelWeight a_t_most a_t_row a_t_split a_t_weight a_t_isFree a_t_above a_t_ordered a_t_parts t_nodes t_kinds t_levels t_size t_base t_arcs t_best t_least t_levelArc t_levelIn t_levelNodes t_levelWeight t_most t_row t_split t_weight) H → va_D A (wd_Re_exact cI cZ a_t a_t_arcs a_t_best a_t_least a_t_levelArc a_t_levelIn a_t_levelNodes a_t_levelWeight a_t_most a_t_row a_t_split a_t_weight a_t_isFree a_t_above a_t_ordered a_t_parts t_nodes t_kinds t_levels t_size t_base t_arcs t_best t_least t_levelArc t_levelIn t_levelNodes t_levelWeight t_most t_row t_split t_weight) → va_S A s.heap H locs → W p l e (headSpec wq_Re_exact ({ frames := 4, cells := 0, slots := 0, locals := 102 })).room s m ([.ref a_t] : List Value).toArray below meth c H locs 0 0 (MQ below (va_Qi (fun (r : Int32) (_ : Unit) => r = out.1) (fun _ => pst (dC, dI) A (wd_Re_exact cI cZ a_t a_t_arcs a_t_best a_t_least a_t_levelArc a_t_levelIn a_t_levelNodes a_t_levelWeight a_t_most a_t_row a_t_split a_t_weight a_t_isFree a_t_above a_t_ordered a_t_parts t_nodes t_kinds out.2.1 out.2.2.1 out.2.2.2.1 t_arcs out.2.2.2.2.1 t_least out.2.2.2.2.2.1 out.2.2.2.2.2.2.1 out.2.2.2.2.2.2.2.1 out.2.2.2.2.2.2.2.2.1 t_most out.2.2.2.2.2.2.2.2.2.1 out.2.2.2.2.2.2.2.2.2.2 t_weight)) A) ([.ref a_t] : List Value).toArray s 0 0 A) (F0 m 4 ls []) := by
    intro n4
    induction n4 with
    | zero =>
      intro x1 x3 ls H locs hf
      rw [L_Re_exact_4] at hf
      exact absurd hf (fun h => by cases h)
    | succ n4 ih4 =>
      intro x1 x3 ls H locs hf hl hP hD hS
      rw [L_Re_exact_4] at hf
      have h34 : ∀ (x1 : Int64) (ls : Array Slot) (H : Heap) (locs : List Loc), J_Re_exact_34 t_nodes t_kinds t_levels t_size t_base t_arcs t_best t_least t_levelArc t_levelIn t_levelNodes t_levelWeight t_most t_row t_split t_weight x1 = some out → lv_has ls 4 [(0, .ref a_t), (1, .long x1)] → va_P (dC, dI) clsL (wd_Re_exact cI cZ a_t a_t_arcs a_t_best a_t_least a_t_levelArc a_t_levelIn a_t_levelNodes a_t_levelWeight a_t_most a_t_row a_t_split a_t_weight a_t_isFree a_t_above a_t_ordered a_t_parts t_nodes t_kinds t_levels t_size t_base t_arcs t_best t_least t_levelArc t_levelIn t_levelNodes t_levelWeight t_most t_row t_split t_weight) H → va_D A (wd_Re_exact cI cZ a_t a_t_arcs a_t_best a_t_least a_t_levelArc a_t_levelIn a_t_levelNodes a_t_levelWeight a_t_most a_t_row a_t_split a_t_weight a_t_isFree a_t_above a_t_ordered a_t_parts t_nodes t_kinds t_levels t_size t_base t_arcs t_best t_least t_levelArc t_levelIn t_levelNodes t_levelWeight t_most t_row t_split t_weight) → va_S A s.heap H locs → W p l e (headSpec wq_Re_exact ({ frames := 4, cells := 0, slots := 0, locals := 102 })).room s m ([.ref a_t] : List Value).toArray below meth c H locs 0 0 (MQ below (va_Qi (fun (r : Int32) (_ : Unit) => r = out.1) (fun _ => pst (dC, dI) A (wd_Re_exact cI cZ a_t a_t_arcs a_t_best a_t_least a_t_levelArc a_t_levelIn a_t_levelNodes a_t_levelWeight a_t_most a_t_row a_t_split a_t_weight a_t_isFree a_t_above a_t_ordered a_t_parts t_nodes t_kinds out.2.1 out.2.2.1 out.2.2.2.1 t_arcs out.2.2.2.2.1 t_least out.2.2.2.2.2.1 out.2.2.2.2.2.2.1 out.2.2.2.2.2.2.2.1 out.2.2.2.2.2.2.2.2.1 t_most out.2.2.2.2.2.2.2.2.2.1 out.2.2.2.2.2.2.2.2.2.2 t_weight)) A) ([.ref a_t] : List Value).toArray s 0 0 A) (F0 m 34 ls []) := by
        intro x1 ls H locs hf hl hP hD hS
        unfold J_Re_exact_34 at hf
        refine lv_lload_n hx hb dd_Re_exact_34 rfl (lv_at hl 1 rfl) ?_
        refine lv_ldc2 (v := 60000) hx hb hown (hts _ (gwc gw_929)) dd_Re_exact_35 ?_
        refine W.lcmp hx hb dd_Re_exact_38 ?_
        refine lv_if_le (tgt := 45) hx hb dd_Re_exact_39 (by decide) (fun cc => ?_) (fun cc => ?_)
        · skip
          have hf := if_t cc hf
          refine lv_aload_n hx hb dd_Re_exact_45 rfl (lv_at hl 0 rfl) ?_
          obtain ⟨r46, hr46, hf⟩ := bind_some hf
          refine xcallv (rest := []) (wc := (wd_Re_takeSplit cI cZ a_t a_t_arcs a_t_levelArc a_t_levelIn a_t_levelNodes a_t_levelWeight a_t_row a_t_split a_t_weight a_t_least a_t_most a_t_isFree a_t_best a_t_above a_t_ordered a_t_parts t_nodes t_kinds t_levels t_size t_base t_arcs t_levelArc t_levelIn t_levelNodes t_levelWeight t_row t_split t_weight)) (w1 := (wd_Re_takeSplit cI cZ a_t a_t_arcs a_t_levelArc a_t_levelIn a_t_levelNodes a_t_levelWeight a_t_row a_t_split a_t_weight a_t_least a_t_most a_t_isFree a_t_best a_t_above a_t_ordered a_t_parts t_nodes t_kinds r46.1 r46.2.1 r46.2.2.1 t_arcs r46.2.2.2.1 r46.2.2.2.2.1 r46.2.2.2.2.2.1 r46.2.2.2.2.2.2.1 r46.2.2.2.2.2.2.2 t_split t_weight)) (wr := [(a_t_best, .inl (cI, 40, .inl t_best)), (a_t_least, .inl (cI, 4, .inl t_least)), (a_t_most, .inl (cI, 4, .inl t_most))]) (ws' := (wd_Re_exact cI cZ a_t a_t_arcs a_t_best a_t_least a_t_levelArc a_t_levelIn a_t_levelNodes a_t_levelWeight a_t_most a_t_row a_t_split a_t_weight a_t_isFree a_t_above a_t_ordered a_t_parts t_nodes t_kinds r46.1 r46.2.1 r46.2.2.1 t_arcs t_best t_least r46.2.2.2.1 r46.2.2.2.2.1 r46.2.2.2.2.2.1 r46.2.2.2.2.2.2.1 t_most r46.2.2.2.2.2.2.2 t_split t_weight)) (va_runV (As := []) ⟨hx, hb, hml, hown, hts⟩ (c_Re_takeSplit l dC dI cI cZ a_t a_t_arcs a_t_levelArc a_t_levelIn a_t_levelNodes a_t_levelWeight a_t_row a_t_split a_t_weight a_t_least a_t_most a_t_isFree a_t_best a_t_above a_t_ordered a_t_parts H.size t_nodes t_kinds t_levels t_size t_base t_arcs t_levelArc t_levelIn t_levelNodes t_levelWeight t_row t_split t_weight r46 hr46) (cwV 0 hts (gV gw_830 gw_832 gw_34 gw_61 gw_833) rfl rfl rfl (yd_Re_takeSplit) ⟨Nat.le_of_ble_eq_true rfl, Nat.le_of_ble_eq_true rfl⟩) (mkV hK (hP.sub (ws' := (wd_Re_takeSplit cI cZ a_t a_t_arcs a_t_levelArc a_t_levelIn a_t_levelNodes a_t_levelWeight a_t_row a_t_split a_t_weight a_t_least a_t_most a_t_isFree a_t_best a_t_above a_t_ordered a_t_parts t_nodes t_kinds t_levels t_size t_base t_arcs t_levelArc t_levelIn t_levelNodes t_levelWeight t_row t_split t_weight)) [0, 1, 4, 5, 6, 7, 9, 10, 11] rfl) (hD.sub (ws' := (wd_Re_takeSplit cI cZ a_t a_t_arcs a_t_levelArc a_t_levelIn a_t_levelNodes a_t_levelWeight a_t_row a_t_split a_t_weight a_t_least a_t_most a_t_isFree a_t_best a_t_above a_t_ordered a_t_parts t_nodes t_kinds t_levels t_size t_base t_arcs t_levelArc t_levelIn t_levelNodes t_levelWeight t_row t_split t_weight)) [0, 1, 4, 5, 6, 7, 9, 10, 11] (by decide) rfl) hN (va_recv hK hP (ci := 9) (q0 := 0) rfl rfl)) rfl rfl hl.1 rfl (lv_room (Nat.le_of_ble_eq_true rfl)) dd_Re_exact_46 ⟨Nat.zero_le _, Nat.zero_le _⟩) hP hD hS hA [0, 1, 4, 5, 6, 7, 9, 10, 11] [2, 3, 8] [3, 4, 0, 1, 5, 6, 7, 8, 2, 9, 10, 11] rfl rfl (by decide) (by decide) rfl (by decide) rfl (fun H locs hP hD hS => ?_)
          refine lv_aload_n hx hb dd_Re_exact_49 rfl (lv_at hl 0 rfl) ?_
          obtain ⟨r50, hr50, hf⟩ := bind_some hf
          refine xcallv (rest := []) (wc := (wd_Re_tries cI cZ a_t a_t_best a_t_least a_t_levelArc a_t_levelWeight a_t_most a_t_row a_t_weight a_t_arcs a_t_split a_t_levelNodes a_t_levelIn a_t_isFree a_t_above a_t_ordered a_t_parts t_nodes t_kinds r46.1 r46.2.1 r46.2.2.1 t_best t_least r46.2.2.2.1 r46.2.2.2.2.2.2.1 t_most r46.2.2.2.2.2.2.2)) (w1 := (wd_Re_tries cI cZ a_t a_t_best a_t_least a_t_levelArc a_t_levelWeight a_t_most a_t_row a_t_weight a_t_arcs a_t_split a_t_levelNodes a_t_levelIn a_t_isFree a_t_above a_t_ordered a_t_parts t_nodes t_kinds r46.1 r46.2.1 r46.2.2.1 r50.1 t_least r46.2.2.2.1 r46.2.2.2.2.2.2.1 t_most r50.2)) (wr := [(a_t_arcs, .inl (cI, 1600, .inl t_arcs)), (a_t_levelIn, .inl (cI, 1640, .inl r46.2.2.2.2.1)), (a_t_levelNodes, .inl (cI, 41, .inl r46.2.2.2.2.2.1)), (a_t_split, .inl (cI, 40, .inl t_split)), (a_t_weight, .inl (cI, 40, .inl t_weight))]) (ws' := (wd_Re_exact cI cZ a_t a_t_arcs a_t_best a_t_least a_t_levelArc a_t_levelIn a_t_levelNodes a_t_levelWeight a_t_most a_t_row a_t_split a_t_weight a_t_isFree a_t_above a_t_ordered a_t_parts t_nodes t_kinds r46.1 r46.2.1 r46.2.2.1 t_arcs r50.1 t_least r46.2.2.2.1 r46.2.2.2.2.1 r46.2.2.2.2.2.1 r46.2.2.2.2.2.2.1 t_most r50.2 t_split t_weight)) (va_runV (As := []) ⟨hx, hb, hml, hown, hts⟩ (c_Re_tries l dC dI cI cZ a_t a_t_best a_t_least a_t_levelArc a_t_levelWeight a_t_most a_t_row a_t_weight a_t_arcs a_t_split a_t_levelNodes a_t_levelIn a_t_isFree a_t_above a_t_ordered a_t_parts H.size t_nodes t_kinds r46.1 r46.2.1 r46.2.2.1 t_best t_least r46.2.2.2.1 r46.2.2.2.2.2.2.1 t_most r46.2.2.2.2.2.2.2 r50 hr50) (cwV 0 hts (gV gw_879 gw_881 gw_42 gw_61 gw_882) rfl rfl rfl (yd_Re_tries) ⟨Nat.le_of_ble_eq_true rfl, Nat.le_of_ble_eq_true rfl⟩) (mkV hK (hP.sub (ws' := (wd_Re_tries cI cZ a_t a_t_best a_t_least a_t_levelArc a_t_levelWeight a_t_most a_t_row a_t_weight a_t_arcs a_t_split a_t_levelNodes a_t_levelIn a_t_isFree a_t_above a_t_ordered a_t_parts t_nodes t_kinds r46.1 r46.2.1 r46.2.2.1 t_best t_least r46.2.2.2.1 r46.2.2.2.2.2.2.1 t_most r46.2.2.2.2.2.2.2)) [0, 2, 3, 4, 7, 8, 9] rfl) (hD.sub (ws' := (wd_Re_tries cI cZ a_t a_t_best a_t_least a_t_levelArc a_t_levelWeight a_t_most a_t_row a_t_weight a_t_arcs a_t_split a_t_levelNodes a_t_levelIn a_t_isFree a_t_above a_t_ordered a_t_parts t_nodes t_kinds r46.1 r46.2.1 r46.2.2.1 t_best t_least r46.2.2.2.1 r46.2.2.2.2.2.2.1 t_most r46.2.2.2.2.2.2.2)) [0, 2, 3, 4, 7, 8, 9] (by decide) rfl) hN (va_recv hK hP (ci := 9) (q0 := 0) rfl rfl)) rfl rfl hl.1 rfl (lv_room (Nat.le_of_ble_eq_true rfl)) dd_Re_exact_50 ⟨Nat.zero_le _, Nat.zero_le _⟩) hP hD hS hA [0, 2, 3, 4, 7, 8, 9] [1, 5, 6, 10, 11] [5, 0, 6, 7, 8, 1, 2, 9, 10, 11, 3, 4] rfl rfl (by decide) (by decide) rfl (by decide) rfl (fun H locs hP hD hS => ?_)
          refine lv_aload_n hx hb dd_Re_exact_53 rfl (lv_at hl 0 rfl) ?_
          obtain ⟨r54, hr54, hf⟩ := bind_some hf
          refine xcallv (rest := []) (wc := (wd_Re_giveSplit cI cZ a_t a_t_row a_t_split a_t_weight a_t_arcs a_t_least a_t_most a_t_levelNodes a_t_levelWeight a_t_levelArc a_t_levelIn a_t_isFree a_t_best a_t_above a_t_ordered a_t_parts t_nodes t_kinds r46.1 r46.2.1 r46.2.2.1 r50.2 t_split)) (w1 := (wd_Re_giveSplit cI cZ a_t a_t_row a_t_split a_t_weight a_t_arcs a_t_least a_t_most a_t_levelNodes a_t_levelWeight a_t_levelArc a_t_levelIn a_t_isFree a_t_best a_t_above a_t_ordered a_t_parts t_nodes t_kinds r46.1 r46.2.1 r46.2.2.1 r50.2 r54)) (wr := [(a_t_arcs, .inl (cI, 1600, .inl t_arcs)), (a_t_best, .inl (cI, 40, .inl r50.1)), (a_t_least, .inl (cI, 4, .inl t_least)), (a_t_levelArc, .inl (cI, 65600, .inl r46.2.2.2.1)), (a_t_levelIn, .inl (cI, 1640, .inl r46.2.2.2.2.1)), (a_t_levelNodes, .inl (cI, 41, .inl r46.2.2.2.2.2.1)), (a_t_levelWeight, .inl (cI, 1640, .inl r46.2.2.2.2.2.2.1)), (a_t_most, .inl (cI, 4, .inl t_most)), (a_t_weight, .inl (cI, 40, .inl t_weight))]) (ws' := (wd_Re_exact cI cZ a_t a_t_arcs a_t_best a_t_least a_t_levelArc a_t_levelIn a_t_levelNodes a_t_levelWeight a_t_most a_t_row a_t_split a_t_weight a_t_isFree a_t_above a_t_ordered a_t_parts t_nodes t_kinds r46.1 r46.2.1 r46.2.2.1 t_arcs r50.1 t_least r46.2.2.2.1 r46.2.2.2.2.1 r46.2.2.2.2.2.1 r46.2.2.2.2.2.2.1 t_most r50.2 r54 t_weight)) (va_runV (As := []) ⟨hx, hb, hml, hown, hts⟩ (c_Re_giveSplit l dC dI cI cZ a_t a_t_row a_t_split a_t_weight a_t_arcs a_t_least a_t_most a_t_levelNodes a_t_levelWeight a_t_levelArc a_t_levelIn a_t_isFree a_t_best a_t_above a_t_ordered a_t_parts H.size t_nodes t_kinds r46.1 r46.2.1 r46.2.2.1 r50.2 t_split r54 hr54) (cwV 0 hts (gV gw_895 gw_897 gw_46 gw_61 gw_898) rfl rfl rfl (yd_Re_giveSplit) ⟨Nat.le_of_ble_eq_true rfl, Nat.le_of_ble_eq_true rfl⟩) (mkV hK (hP.sub (ws' := (wd_Re_giveSplit cI cZ a_t a_t_row a_t_split a_t_weight a_t_arcs a_t_least a_t_most a_t_levelNodes a_t_levelWeight a_t_levelArc a_t_levelIn a_t_isFree a_t_best a_t_above a_t_ordered a_t_parts t_nodes t_kinds r46.1 r46.2.1 r46.2.2.1 r50.2 t_split)) [0, 9, 10] rfl) (hD.sub (ws' := (wd_Re_giveSplit cI cZ a_t a_t_row a_t_split a_t_weight a_t_arcs a_t_least a_t_most a_t_levelNodes a_t_levelWeight a_t_levelArc a_t_levelIn a_t_isFree a_t_best a_t_above a_t_ordered a_t_parts t_nodes t_kinds r46.1 r46.2.1 r46.2.2.1 r50.2 t_split)) [0, 9, 10] (by decide) rfl) hN (va_recv hK hP (ci := 9) (q0 := 0) rfl rfl)) rfl rfl hl.1 rfl (lv_room (Nat.le_of_ble_eq_true rfl)) dd_Re_exact_54 ⟨Nat.zero_le _, Nat.zero_le _⟩) hP hD hS hA [0, 9, 10] [1, 2, 3, 4, 5, 6, 7, 8, 11] [9, 0, 1, 2, 3, 4, 5, 6, 7, 10, 11, 8] rfl rfl (by decide) (by decide) rfl (by decide) rfl (fun H locs hP hD hS => ?_)
          refine lv_aload_n hx hb dd_Re_exact_57 rfl (lv_at hl 0 rfl) ?_
          obtain ⟨r58, hr58, hf⟩ := bind_some hf
          refine xcalli (rest := []) (wc := (wd_Re_told cI cZ a_t a_t_least a_t_levelArc a_t_levelWeight a_t_most a_t_row a_t_weight a_t_arcs a_t_split a_t_levelNodes a_t_levelIn a_t_isFree a_t_best a_t_above a_t_ordered a_t_parts t_nodes t_kinds r46.1 r46.2.1 r46.2.2.1 t_least r46.2.2.2.1 r46.2.2.2.2.2.2.1 t_most r50.2)) (w1 := (wd_Re_told cI cZ a_t a_t_least a_t_levelArc a_t_levelWeight a_t_most a_t_row a_t_weight a_t_arcs a_t_split a_t_levelNodes a_t_levelIn a_t_isFree a_t_best a_t_above a_t_ordered a_t_parts t_nodes t_kinds r46.1 r46.2.1 r46.2.2.1 t_least r46.2.2.2.1 r46.2.2.2.2.2.2.1 t_most r50.2)) (wr := [(a_t_arcs, .inl (cI, 1600, .inl t_arcs)), (a_t_best, .inl (cI, 40, .inl r50.1)), (a_t_levelIn, .inl (cI, 1640, .inl r46.2.2.2.2.1)), (a_t_levelNodes, .inl (cI, 41, .inl r46.2.2.2.2.2.1)), (a_t_split, .inl (cI, 40, .inl r54)), (a_t_weight, .inl (cI, 40, .inl t_weight))]) (ws' := (wd_Re_exact cI cZ a_t a_t_arcs a_t_best a_t_least a_t_levelArc a_t_levelIn a_t_levelNodes a_t_levelWeight a_t_most a_t_row a_t_split a_t_weight a_t_isFree a_t_above a_t_ordered a_t_parts t_nodes t_kinds r46.1 r46.2.1 r46.2.2.1 t_arcs r50.1 t_least r46.2.2.2.1 r46.2.2.2.2.1 r46.2.2.2.2.2.1 r46.2.2.2.2.2.2.1 t_most r50.2 r54 t_weight)) (va_runV (As := []) ⟨hx, hb, hml, hown, hts⟩ (c_Re_told l dC dI cI cZ a_t a_t_least a_t_levelArc a_t_levelWeight a_t_most a_t_row a_t_weight a_t_arcs a_t_split a_t_levelNodes a_t_levelIn a_t_isFree a_t_best a_t_above a_t_ordered a_t_parts H.size t_nodes t_kinds r46.1 r46.2.1 r46.2.2.1 t_least r46.2.2.2.1 r46.2.2.2.2.2.2.1 t_most r50.2 r58 hr58) (cwV 0 hts (gV gw_899 gw_901 gw_47 gw_61 gw_902) rfl rfl rfl (yd_Re_told) ⟨Nat.le_of_ble_eq_true rfl, Nat.le_of_ble_eq_true rfl⟩) (mkV hK (hP.sub (ws' := (wd_Re_told cI cZ a_t a_t_least a_t_levelArc a_t_levelWeight a_t_most a_t_row a_t_weight a_t_arcs a_t_split a_t_levelNodes a_t_levelIn a_t_isFree a_t_best a_t_above a_t_ordered a_t_parts t_nodes t_kinds r46.1 r46.2.1 r46.2.2.1 t_least r46.2.2.2.1 r46.2.2.2.2.2.2.1 t_most r50.2)) [0, 3, 4, 7, 8, 9] rfl) (hD.sub (ws' := (wd_Re_told cI cZ a_t a_t_least a_t_levelArc a_t_levelWeight a_t_most a_t_row a_t_weight a_t_arcs a_t_split a_t_levelNodes a_t_levelIn a_t_isFree a_t_best a_t_above a_t_ordered a_t_parts t_nodes t_kinds r46.1 r46.2.1 r46.2.2.1 t_least r46.2.2.2.1 r46.2.2.2.2.2.2.1 t_most r50.2)) [0, 3, 4, 7, 8, 9] (by decide) rfl) hN (va_recv hK hP (ci := 9) (q0 := 0) rfl rfl)) rfl rfl hl.1 rfl (lv_room (Nat.le_of_ble_eq_true rfl)) dd_Re_exact_58 ⟨Nat.zero_le _, Nat.zero_le _⟩) hP hD hS hA [0, 3, 4, 7, 8, 9] [1, 2, 5, 6, 10, 11] [6, 0, 1, 7, 8, 2, 3, 9, 10, 11, 4, 5] rfl rfl (by decide) (by decide) rfl (by decide) rfl (fun H locs hP hD hS => ?_)
          have hf := Option.some.inj hf
          subst hf
          exact W.iret hx hb hr (fun t ht hW => ⟨⟨_, (), rfl, rfl, pst_of ht hP hD⟩, hS.F ht⟩) hS.2.2 dd_Re_exact_61
        · skip
          have hf := if_f cc hf
          refine lv_bipush (v := -4) hx hb dd_Re_exact_42 (by decide) ?_
          have hf := Option.some.inj hf
          subst hf
          exact W.iret hx hb hr (fun t ht hW => ⟨⟨_, (), rfl, rfl, pst_of ht hP hD⟩, hS.F ht⟩) hS.2.2 dd_Re_exact_44
      refine lv_iload_n hx hb dd_Re_exact_4 rfl (lv_at hl 2 rfl) ?_
      refine lv_aload_n hx hb dd_Re_exact_5 rfl (lv_at hl 0 rfl) ?_
      refine va_get (D := (dC, dI)) (ci := 9) (v := .int t_nodes) (C := rr_Re) (T := tt_Re) (N := 20) hx hb hts (fun w h => gwc (inn_Re w h)) hown hK hP 0 rfl rfl 0 (by decide) (hts _ (gwc gw_703)) (fun _ h9 => h9) rfl dd_Re_exact_6 ?_
      refine lv_icmp_ge (tgt := 34) hx hb dd_Re_exact_9 (by decide) (fun cc => ?_) (fun cc => ?_)
      · skip
        have hf := if_t cc hf
        exact h34 x1 _ _ _ hf (lv_sub hl [0, 1] rfl) hP hD hS
      · skip
        have hf := if_f cc hf
        refine lv_lload_n hx hb dd_Re_exact_12 rfl (lv_at hl 1 rfl) ?_
        refine lv_ldc2 (v := 60000) hx hb hown (hts _ (gwc gw_929)) dd_Re_exact_13 ?_
        refine W.lcmp hx hb dd_Re_exact_16 ?_
        refine lv_if_gt (tgt := 34) hx hb dd_Re_exact_17 (by decide) (fun cc => ?_) (fun cc => ?_)
        · skip
          have hf := if_t cc hf
          exact h34 x1 _ _ _ hf (lv_sub hl [0, 1] rfl) hP hD hS
        · skip
          have hf := if_f cc hf
          refine lv_lload_n hx hb dd_Re_exact_20 rfl (lv_at hl 1 rfl) ?_
          refine lv_aload_n hx hb dd_Re_exact_21 rfl (lv_at hl 0 rfl) ?_
          refine va_get (D := (dC, dI)) (ci := 9) (v := .int t_kinds) (C := rr_Re) (T := tt_Re) (N := 20) hx hb hts (fun w h => gwc (inn_Re w h)) hown hK hP 0 rfl rfl 1 (by decide) (hts _ (gwc gw_704)) (fun _ h9 => h9) rfl dd_Re_exact_22 ?_
          refine lv_i2l hx hb dd_Re_exact_25 rfl ?_
          refine lv_lmul hx hb dd_Re_exact_26 ?_
          refine lv_lstore_n (lv' := [(1, .long (x1 * t_kinds.toInt64)), (0, .ref a_t), (3, .int x3)]) hx hb dd_Re_exact_27 rfl hl (by decide) rfl (fun ls hl => ?_)
          refine lv_iinc (v := x3 + 1) (lv' := [(3, .int (x3 + 1)), (1, .long (x1 * t_kinds.toInt64)), (0, .ref a_t)]) hx hb dd_Re_exact_28 hl (k := 2) rfl rfl (by decide) rfl (fun ls hl => ?_)
          refine lv_goto (tgt := 4) hx hb dd_Re_exact_31 (by decide) ?_
          exact ih4 (x1 * t_kinds.toInt64) (x3 + 1) _ _ _ hf (lv_sub hl [2, 1, 0] rfl) hP hD hS
  refine lv_lconst (v := 1) hx hb dd_Re_exact_0 (by decide) ?_
  refine lv_lstore_n (lv' := [(1, .long (1 : Int64)), (0, .ref a_t)]) hx hb dd_Re_exact_1 rfl hl (by decide) rfl (fun ls hl => ?_)
  refine lv_iconst (v := 0) hx hb dd_Re_exact_2 (by decide) ?_
  refine lv_istore_n (lv' := [(3, .int 0), (1, .long (1 : Int64)), (0, .ref a_t)]) hx hb dd_Re_exact_3 rfl hl (by decide) rfl (fun ls hl => ?_)
  exact h4 64 (1 : Int64) 0 _ _ _ hf (lv_sub hl [2, 1, 0] rfl) hP hD hS
abbrev wd_Re_isOpen (cI cZ : ClassId) (a_t a_t_arcs a_t_parts a_t_split a_t_weight a_t_least a_t_most a_t_levelNodes a_t_levelWeight a_t_levelArc a_t_levelIn a_t_row a_t_isFree a_t_best a_t_above a_t_ordered : Nat) (t_nodes : Int32) (t_kinds : Int32) (t_levels : Int32) (t_size : Int32) (t_base : Int32) (t_arcs : Nat → Int32) (t_parts : Nat → Int32) (t_split : Nat → Int32) : va_W := [(a_t, .inr (9, [.int t_nodes, .int t_kinds, .ref a_t_weight, .ref a_t_arcs, .ref a_t_split, .ref a_t_least, .ref a_t_most, .int t_levels, .ref a_t_levelNodes, .ref a_t_levelWeight, .ref a_t_levelArc, .ref a_t_levelIn, .int t_size, .int t_base, .ref a_t_row, .ref a_t_isFree, .ref a_t_best, .ref a_t_above, .ref a_t_ordered, .ref a_t_parts])), (a_t_arcs, .inl (cI, 1600, .inl t_arcs)), (a_t_parts, .inl (cZ, 40, .inl t_parts)), (a_t_split, .inl (cI, 40, .inl t_split))]
set_option maxRecDepth 100000 in
set_option maxHeartbeats 4000000 in
theorem c_Re_isOpen (l : Launch) (dC : Nat → ClassId) (dI : Nat → Nat → Nat) (cI cZ : ClassId) (a_t a_t_arcs a_t_parts a_t_split a_t_weight a_t_least a_t_most a_t_levelNodes a_t_levelWeight a_t_levelArc a_t_levelIn a_t_row a_t_isFree a_t_best a_t_above a_t_ordered sz : Nat) (x1 : Int32) (x2 : Int32) (t_nodes : Int32) (t_kinds : Int32) (t_levels : Int32) (t_size : Int32) (t_base : Int32) (t_arcs : Nat → Int32) (t_parts : Nat → Int32) (t_split : Nat → Int32) (out : Int32) (hf : f_Re_isOpen x1 x2 t_arcs t_parts t_split = some out) :
    Met l yy_Re_isOpen wq_Re_isOpen ({ frames := 0, cells := 0, slots := 0, locals := 0 }) (va_Pc ([.ref a_t, .int x1, .int x2] : List Value) (pre_ (dC, dI) cI cZ sz (wd_Re_isOpen cI cZ a_t a_t_arcs a_t_parts a_t_split a_t_weight a_t_least a_t_most a_t_levelNodes a_t_levelWeight a_t_levelArc a_t_levelIn a_t_row a_t_isFree a_t_best a_t_above a_t_ordered t_nodes t_kinds t_levels t_size t_base t_arcs t_parts t_split))) (va_Qi (fun (r : Int32) (_ : Unit) => r = out) (fun _ => pst (dC, dI) (va_A (wd_Re_isOpen cI cZ a_t a_t_arcs a_t_parts a_t_split a_t_weight a_t_least a_t_most a_t_levelNodes a_t_levelWeight a_t_levelArc a_t_levelIn a_t_row a_t_isFree a_t_best a_t_above a_t_ordered t_nodes t_kinds t_levels t_size t_base t_arcs t_parts t_split) sz) (wd_Re_isOpen cI cZ a_t a_t_arcs a_t_parts a_t_split a_t_weight a_t_least a_t_most a_t_levelNodes a_t_levelWeight a_t_levelArc a_t_levelIn a_t_row a_t_isFree a_t_best a_t_above a_t_ordered t_nodes t_kinds t_levels t_size t_base t_arcs t_parts t_split)) (va_A (wd_Re_isOpen cI cZ a_t a_t_arcs a_t_parts a_t_split a_t_weight a_t_least a_t_most a_t_levelNodes a_t_levelWeight a_t_levelArc a_t_levelIn a_t_row a_t_isFree a_t_best a_t_above a_t_ordered t_nodes t_kinds t_levels t_size t_base t_arcs t_parts t_split) sz)) 0 0 (va_A (wd_Re_isOpen cI cZ a_t a_t_arcs a_t_parts a_t_split a_t_weight a_t_least a_t_most a_t_levelNodes a_t_levelWeight a_t_levelArc a_t_levelIn a_t_row a_t_isFree a_t_best a_t_above a_t_ordered t_nodes t_kinds t_levels t_size t_base t_arcs t_parts t_split) sz) := by
  refine Met.ofW (cc := cc_Re_isOpen) (maxL := 3) (ret := (some .boolean)) (by decide) rfl ?_
  intro p e s m args below meth c s₁ B hml hv
  obtain ⟨rfl, hsz, hP, hK, hD0, hN⟩ := hv
  have hx := B.exec
  have hb := B.bytes
  have hr := B.returns
  have hts := atoms_spec (ws := wq_Re_isOpen) B.pre
  have hown : s.vm.findClass rr_Re = some m.cls := findClass_of_methodNamed B.named
  have hlocks := B.notSynchronized
  subst hsz
  have hD := hD0.self (sz := s.heap.size)
  generalize hAe : va_A (wd_Re_isOpen cI cZ a_t a_t_arcs a_t_parts a_t_split a_t_weight a_t_least a_t_most a_t_levelNodes a_t_levelWeight a_t_levelArc a_t_levelIn a_t_row a_t_isFree a_t_best a_t_above a_t_ordered t_nodes t_kinds t_levels t_size t_base t_arcs t_parts t_split) s.heap.size = A at hD ⊢
  have hA : ∀ q : Nat, s.heap.size ≤ q → A q := fun q h => by rw [← hAe]; exact Or.inr h
  obtain ⟨H, hH⟩ : ∃ H : Heap, H = s.heap := ⟨_, rfl⟩
  have hS : va_S A s.heap H [] := by rw [hH]; exact va_S.rf
  have hl := lv_entry (([.ref a_t, .int x1, .int x2] : List Value)) (n := 3) (Nat.le_of_ble_eq_true rfl)
  rw [lg_entry_eq]
  generalize (lg_sl (([.ref a_t, .int x1, .int x2] : List Value)) ++ List.replicate (3 - (lg_sl (([.ref a_t, .int x1, .int x2] : List Value))).length) Slot.unset).toArray = ls at hl ⊢
  have hl : lv_has ls 3 [(0, .ref a_t), (1, .int x1), (2, .int x2)] := hl
  rw [← hH] at hP ⊢
  have hP : va_P (dC, dI) clsL (wd_Re_isOpen cI cZ a_t a_t_arcs a_t_parts a_t_split a_t_weight a_t_least a_t_most a_t_levelNodes a_t_levelWeight a_t_levelArc a_t_levelIn a_t_row a_t_isFree a_t_best a_t_above a_t_ordered t_nodes t_kinds t_levels t_size t_base t_arcs t_parts t_split) H := hP
  unfold f_Re_isOpen at hf
  refine lv_aload_n hx hb dd_Re_isOpen_0 rfl (lv_at hl 0 rfl) ?_
  refine va_get (D := (dC, dI)) (ci := 9) (v := .ref a_t_arcs) (C := rr_Re) (T := tt_Re) (N := 20) hx hb hts (fun w h => gwc (inn_Re w h)) hown hK hP 0 rfl rfl 3 (by decide) (hts _ (gwc gw_706)) (fun _ h9 => h9) rfl dd_Re_isOpen_1 ?_
  refine lv_bipush (v := 40) hx hb dd_Re_isOpen_4 (by decide) ?_
  refine lv_iload_n hx hb dd_Re_isOpen_6 rfl (lv_at hl 1 rfl) ?_
  refine lv_imul hx hb dd_Re_isOpen_7 ?_
  refine lv_iload_n hx hb dd_Re_isOpen_8 rfl (lv_at hl 2 rfl) ?_
  refine lv_iadd hx hb dd_Re_isOpen_9 ?_
  obtain ⟨k10, hf⟩ := ck_some hf
  refine va_iald hx hb hK hP 1 0 rfl rfl (okb_in k10) dd_Re_isOpen_10 ?_
  refine lv_if_le (tgt := 51) hx hb dd_Re_isOpen_11 (by decide) (fun cc => ?_) (fun cc => ?_)
  · skip
    have hf := if_t cc hf
    refine lv_iconst (v := 0) hx hb dd_Re_isOpen_51 (by decide) ?_
    have hf := Option.some.inj hf
    subst hf
    exact W.zret hx hb hr narrow_b0 (fun t ht hW => ⟨⟨_, (), rfl, rfl, pst_of ht hP hD⟩, hS.F ht⟩) hS.2.2 dd_Re_isOpen_52
  · skip
    have hf := if_f cc hf
    refine lv_aload_n hx hb dd_Re_isOpen_14 rfl (lv_at hl 0 rfl) ?_
    refine va_get (D := (dC, dI)) (ci := 9) (v := .ref a_t_split) (C := rr_Re) (T := tt_Re) (N := 20) hx hb hts (fun w h => gwc (inn_Re w h)) hown hK hP 0 rfl rfl 4 (by decide) (hts _ (gwc gw_707)) (fun _ h9 => h9) rfl dd_Re_isOpen_15 ?_
    refine lv_iload_n hx hb dd_Re_isOpen_18 rfl (lv_at hl 1 rfl) ?_
    obtain ⟨k19, hf⟩ := ck_some hf
    refine va_iald hx hb hK hP 3 0 rfl rfl (okb_in k19) dd_Re_isOpen_19 ?_
    refine lv_aload_n hx hb dd_Re_isOpen_20 rfl (lv_at hl 0 rfl) ?_
    refine va_get (D := (dC, dI)) (ci := 9) (v := .ref a_t_split) (C := rr_Re) (T := tt_Re) (N := 20) hx hb hts (fun w h => gwc (inn_Re w h)) hown hK hP 0 rfl rfl 4 (by decide) (hts _ (gwc gw_707)) (fun _ h9 => h9) rfl dd_Re_isOpen_21 ?_
    refine lv_iload_n hx hb dd_Re_isOpen_24 rfl (lv_at hl 2 rfl) ?_
    obtain ⟨k25, hf⟩ := ck_some hf
    refine va_iald hx hb hK hP 3 0 rfl rfl (okb_in k25) dd_Re_isOpen_25 ?_
    refine lv_icmp_eq (tgt := 51) hx hb dd_Re_isOpen_26 (by decide) (fun cc => ?_) (fun cc => ?_)
    · skip
      have hf := if_t cc hf
      refine lv_iconst (v := 0) hx hb dd_Re_isOpen_51 (by decide) ?_
      have hf := Option.some.inj hf
      subst hf
      exact W.zret hx hb hr narrow_b0 (fun t ht hW => ⟨⟨_, (), rfl, rfl, pst_of ht hP hD⟩, hS.F ht⟩) hS.2.2 dd_Re_isOpen_52
    · skip
      have hf := if_f cc hf
      refine lv_aload_n hx hb dd_Re_isOpen_29 rfl (lv_at hl 0 rfl) ?_
      refine va_get (D := (dC, dI)) (ci := 9) (v := .ref a_t_parts) (C := rr_Re) (T := tt_Re) (N := 20) hx hb hts (fun w h => gwc (inn_Re w h)) hown hK hP 0 rfl rfl 19 (by decide) (hts _ (gwc gw_722)) (fun _ h9 => h9) rfl dd_Re_isOpen_30 ?_
      refine lv_iload_n hx hb dd_Re_isOpen_33 rfl (lv_at hl 1 rfl) ?_
      obtain ⟨k34, hf⟩ := ck_some hf
      refine va_zald hx hb hK hP 2 1 rfl rfl (okb_in k34) dd_Re_isOpen_34 ?_
      refine lv_if_ne (tgt := 51) hx hb dd_Re_isOpen_35 (by decide) (fun cc => ?_) (fun cc => ?_)
      · skip
        have hf := if_f cc hf
        refine lv_iconst (v := 0) hx hb dd_Re_isOpen_51 (by decide) ?_
        have hf := Option.some.inj hf
        subst hf
        exact W.zret hx hb hr narrow_b0 (fun t ht hW => ⟨⟨_, (), rfl, rfl, pst_of ht hP hD⟩, hS.F ht⟩) hS.2.2 dd_Re_isOpen_52
      · skip
        have hf := if_t cc hf
        refine lv_aload_n hx hb dd_Re_isOpen_38 rfl (lv_at hl 0 rfl) ?_
        refine va_get (D := (dC, dI)) (ci := 9) (v := .ref a_t_parts) (C := rr_Re) (T := tt_Re) (N := 20) hx hb hts (fun w h => gwc (inn_Re w h)) hown hK hP 0 rfl rfl 19 (by decide) (hts _ (gwc gw_722)) (fun _ h9 => h9) rfl dd_Re_isOpen_39 ?_
        refine lv_iload_n hx hb dd_Re_isOpen_42 rfl (lv_at hl 2 rfl) ?_
        obtain ⟨k43, hf⟩ := ck_some hf
        refine va_zald hx hb hK hP 2 1 rfl rfl (okb_in k43) dd_Re_isOpen_43 ?_
        refine lv_if_ne (tgt := 51) hx hb dd_Re_isOpen_44 (by decide) (fun cc => ?_) (fun cc => ?_)
        · skip
          have hf := if_f cc hf
          refine lv_iconst (v := 0) hx hb dd_Re_isOpen_51 (by decide) ?_
          have hf := Option.some.inj hf
          subst hf
          exact W.zret hx hb hr narrow_b0 (fun t ht hW => ⟨⟨_, (), rfl, rfl, pst_of ht hP hD⟩, hS.F ht⟩) hS.2.2 dd_Re_isOpen_52
        · skip
          have hf := if_t cc hf
          refine lv_iconst (v := 1) hx hb dd_Re_isOpen_47 (by decide) ?_
          refine lv_goto (tgt := 52) hx hb dd_Re_isOpen_48 (by decide) ?_
          have hf := Option.some.inj hf
          subst hf
          exact W.zret hx hb hr narrow_b1 (fun t ht hW => ⟨⟨_, (), rfl, rfl, pst_of ht hP hD⟩, hS.F ht⟩) hS.2.2 dd_Re_isOpen_52
abbrev wd_Re_separate (cI cZ : ClassId) (a_t a_t_arcs a_t_parts a_t_split a_t_weight a_t_least a_t_most a_t_levelNodes a_t_levelWeight a_t_levelArc a_t_levelIn a_t_row a_t_isFree a_t_best a_t_above a_t_ordered : Nat) (t_nodes : Int32) (t_kinds : Int32) (t_levels : Int32) (t_size : Int32) (t_base : Int32) (t_arcs : Nat → Int32) (t_parts : Nat → Int32) (t_split : Nat → Int32) (t_weight : Nat → Int32) : va_W := [(a_t, .inr (9, [.int t_nodes, .int t_kinds, .ref a_t_weight, .ref a_t_arcs, .ref a_t_split, .ref a_t_least, .ref a_t_most, .int t_levels, .ref a_t_levelNodes, .ref a_t_levelWeight, .ref a_t_levelArc, .ref a_t_levelIn, .int t_size, .int t_base, .ref a_t_row, .ref a_t_isFree, .ref a_t_best, .ref a_t_above, .ref a_t_ordered, .ref a_t_parts])), (a_t_arcs, .inl (cI, 1600, .inl t_arcs)), (a_t_parts, .inl (cZ, 40, .inl t_parts)), (a_t_split, .inl (cI, 40, .inl t_split)), (a_t_weight, .inl (cI, 40, .inl t_weight))]
set_option maxRecDepth 100000 in
set_option maxHeartbeats 4000000 in
theorem c_Re_separate (l : Launch) (dC : Nat → ClassId) (dI : Nat → Nat → Nat) (cI cZ : ClassId) (a_t a_t_arcs a_t_parts a_t_split a_t_weight a_t_least a_t_most a_t_levelNodes a_t_levelWeight a_t_levelArc a_t_levelIn a_t_row a_t_isFree a_t_best a_t_above a_t_ordered sz : Nat) (t_nodes : Int32) (t_kinds : Int32) (t_levels : Int32) (t_size : Int32) (t_base : Int32) (t_arcs : Nat → Int32) (t_parts : Nat → Int32) (t_split : Nat → Int32) (t_weight : Nat → Int32) (out : (Nat → Int32)) (hf : f_Re_separate t_nodes t_arcs t_parts t_split t_weight = some out) :
    Met l yy_Re_separate wq_Re_separate ({ frames := 1, cells := 0, slots := 0, locals := 22 }) (va_Pc ([.ref a_t] : List Value) (pre_ (dC, dI) cI cZ sz (wd_Re_separate cI cZ a_t a_t_arcs a_t_parts a_t_split a_t_weight a_t_least a_t_most a_t_levelNodes a_t_levelWeight a_t_levelArc a_t_levelIn a_t_row a_t_isFree a_t_best a_t_above a_t_ordered t_nodes t_kinds t_levels t_size t_base t_arcs t_parts t_split t_weight))) (va_Qv (fun _ : Unit => True) (fun _ => pst (dC, dI) (va_A (wd_Re_separate cI cZ a_t a_t_arcs a_t_parts a_t_split a_t_weight a_t_least a_t_most a_t_levelNodes a_t_levelWeight a_t_levelArc a_t_levelIn a_t_row a_t_isFree a_t_best a_t_above a_t_ordered t_nodes t_kinds t_levels t_size t_base t_arcs t_parts t_split t_weight) sz) (wd_Re_separate cI cZ a_t a_t_arcs a_t_parts a_t_split a_t_weight a_t_least a_t_most a_t_levelNodes a_t_levelWeight a_t_levelArc a_t_levelIn a_t_row a_t_isFree a_t_best a_t_above a_t_ordered t_nodes t_kinds t_levels t_size t_base t_arcs out t_split t_weight)) (va_A (wd_Re_separate cI cZ a_t a_t_arcs a_t_parts a_t_split a_t_weight a_t_least a_t_most a_t_levelNodes a_t_levelWeight a_t_levelArc a_t_levelIn a_t_row a_t_isFree a_t_best a_t_above a_t_ordered t_nodes t_kinds t_levels t_size t_base t_arcs t_parts t_split t_weight) sz)) 0 0 (va_A (wd_Re_separate cI cZ a_t a_t_arcs a_t_parts a_t_split a_t_weight a_t_least a_t_most a_t_levelNodes a_t_levelWeight a_t_levelArc a_t_levelIn a_t_row a_t_isFree a_t_best a_t_above a_t_ordered t_nodes t_kinds t_levels t_size t_base t_arcs t_parts t_split t_weight) sz) := by
  refine Met.ofW (cc := cc_Re_separate) (maxL := 6) (ret := none) (by decide) rfl ?_
  intro p e s m args below meth c s₁ B hml hv
  obtain ⟨rfl, hsz, hP, hK, hD0, hN⟩ := hv
  have hx := B.exec
  have hb := B.bytes
  have hr := B.returns
  have hts := atoms_spec (ws := wq_Re_separate) B.pre
  have hown : s.vm.findClass rr_Re = some m.cls := findClass_of_methodNamed B.named
  have hlocks := B.notSynchronized
  subst hsz
  have hD := hD0.self (sz := s.heap.size)
  generalize hAe : va_A (wd_Re_separate cI cZ a_t a_t_arcs a_t_parts a_t_split a_t_weight a_t_least a_t_most a_t_levelNodes a_t_levelWeight a_t_levelArc a_t_levelIn a_t_row a_t_isFree a_t_best a_t_above a_t_ordered t_nodes t_kinds t_levels t_size t_base t_arcs t_parts t_split t_weight) s.heap.size = A at hD ⊢
  have hA : ∀ q : Nat, s.heap.size ≤ q → A q := fun q h => by rw [← hAe]; exact Or.inr h
  obtain ⟨H, hH⟩ : ∃ H : Heap, H = s.heap := ⟨_, rfl⟩
  have hS : va_S A s.heap H [] := by rw [hH]; exact va_S.rf
  have hl := lv_entry (([.ref a_t] : List Value)) (n := 6) (Nat.le_of_ble_eq_true rfl)
  rw [lg_entry_eq]
  generalize (lg_sl (([.ref a_t] : List Value)) ++ List.replicate (6 - (lg_sl (([.ref a_t] : List Value))).length) Slot.unset).toArray = ls at hl ⊢
  have hl : lv_has ls 6 [(0, .ref a_t)] := hl
  rw [← hH] at hP ⊢
  have hP : va_P (dC, dI) clsL (wd_Re_separate cI cZ a_t a_t_arcs a_t_parts a_t_split a_t_weight a_t_least a_t_most a_t_levelNodes a_t_levelWeight a_t_levelArc a_t_levelIn a_t_row a_t_isFree a_t_best a_t_above a_t_ordered t_nodes t_kinds t_levels t_size t_base t_arcs t_parts t_split t_weight) H := hP
  unfold f_Re_separate at hf
  have h2 : ∀ (n2 : Nat) (x1 : Int32) (t_parts : Nat → Int32) (ls : Array Slot) (H : Heap) (locs : List Loc), L_Re_separate_2 t_nodes t_arcs t_split t_weight n2 x1 t_parts = some out → lv_has ls 6 [(0, .ref a_t), (1, .int x1)] → va_P (dC, dI) clsL (wd_Re_separate cI cZ a_t a_t_arcs a_t_parts a_t_split a_t_weight a_t_least a_t_most a_t_levelNodes a_t_levelWeight a_t_levelArc a_t_levelIn a_t_row a_t_isFree a_t_best a_t_above a_t_ordered t_nodes t_kinds t_levels t_size t_base t_arcs t_parts t_split t_weight) H → va_D A (wd_Re_separate cI cZ a_t a_t_arcs a_t_parts a_t_split a_t_weight a_t_least a_t_most a_t_levelNodes a_t_levelWeight a_t_levelArc a_t_levelIn a_t_row a_t_isFree a_t_best a_t_above a_t_ordered t_nodes t_kinds t_levels t_size t_base t_arcs t_parts t_split t_weight) → va_S A s.heap H locs → W p l e (headSpec wq_Re_separate ({ frames := 1, cells := 0, slots := 0, locals := 22 })).room s m ([.ref a_t] : List Value).toArray below meth c H locs 0 0 (MQ below (va_Qv (fun _ : Unit => True) (fun _ => pst (dC, dI) A (wd_Re_separate cI cZ a_t a_t_arcs a_t_parts a_t_split a_t_weight a_t_least a_t_most a_t_levelNodes a_t_levelWeight a_t_levelArc a_t_levelIn a_t_row a_t_isFree a_t_best a_t_above a_t_ordered t_nodes t_kinds t_levels t_size t_base t_arcs out t_split t_weight)) A) ([.ref a_t] : List Value).toArray s 0 0 A) (F0 m 2 ls []) := by
    intro n2
    induction n2 with
    | zero =>
      intro x1 t_parts ls H locs hf
      rw [L_Re_separate_2] at hf
      exact absurd hf (fun h => by cases h)
    | succ n2 ih2 =>
      intro x1 t_parts ls H locs hf hl hP hD hS
      rw [L_Re_separate_2] at hf
      have h23 : ∀ (n23 : Nat) (t_parts : Nat → Int32) (ls : Array Slot) (H : Heap) (locs : List Loc), L_Re_separate_23 t_nodes t_arcs t_split t_weight n23 t_parts = some out → lv_has ls 6 [(0, .ref a_t)] → va_P (dC, dI) clsL (wd_Re_separate cI cZ a_t a_t_arcs a_t_parts a_t_split a_t_weight a_t_least a_t_most a_t_levelNodes a_t_levelWeight a_t_levelArc a_t_levelIn a_t_row a_t_isFree a_t_best a_t_above a_t_ordered t_nodes t_kinds t_levels t_size t_base t_arcs t_parts t_split t_weight) H → va_D A (wd_Re_separate cI cZ a_t a_t_arcs a_t_parts a_t_split a_t_weight a_t_least a_t_most a_t_levelNodes a_t_levelWeight a_t_levelArc a_t_levelIn a_t_row a_t_isFree a_t_best a_t_above a_t_ordered t_nodes t_kinds t_levels t_size t_base t_arcs t_parts t_split t_weight) → va_S A s.heap H locs → W p l e (headSpec wq_Re_separate ({ frames := 1, cells := 0, slots := 0, locals := 22 })).room s m ([.ref a_t] : List Value).toArray below meth c H locs 0 0 (MQ below (va_Qv (fun _ : Unit => True) (fun _ => pst (dC, dI) A (wd_Re_separate cI cZ a_t a_t_arcs a_t_parts a_t_split a_t_weight a_t_least a_t_most a_t_levelNodes a_t_levelWeight a_t_levelArc a_t_levelIn a_t_row a_t_isFree a_t_best a_t_above a_t_ordered t_nodes t_kinds t_levels t_size t_base t_arcs out t_split t_weight)) A) ([.ref a_t] : List Value).toArray s 0 0 A) (F0 m 23 ls []) := by
        intro n23
        induction n23 with
        | zero =>
          intro t_parts ls H locs hf
          rw [L_Re_separate_23] at hf
          exact absurd hf (fun h => by cases h)
        | succ n23 ih23 =>
          intro t_parts ls H locs hf hl hP hD hS
          rw [L_Re_separate_23] at hf
          have h29 : ∀ (n29 : Nat) (x1 : Int32) (x2 : Int32) (x3 : Int32) (t_parts : Nat → Int32) (ls : Array Slot) (H : Heap) (locs : List Loc), L_Re_separate_29 t_nodes t_arcs t_split t_weight (L_Re_separate_23 t_nodes t_arcs t_split t_weight n23) n29 x1 x2 x3 t_parts = some out → lv_has ls 6 [(0, .ref a_t), (1, .int x1), (2, .int x2), (3, .int x3)] → va_P (dC, dI) clsL (wd_Re_separate cI cZ a_t a_t_arcs a_t_parts a_t_split a_t_weight a_t_least a_t_most a_t_levelNodes a_t_levelWeight a_t_levelArc a_t_levelIn a_t_row a_t_isFree a_t_best a_t_above a_t_ordered t_nodes t_kinds t_levels t_size t_base t_arcs t_parts t_split t_weight) H → va_D A (wd_Re_separate cI cZ a_t a_t_arcs a_t_parts a_t_split a_t_weight a_t_least a_t_most a_t_levelNodes a_t_levelWeight a_t_levelArc a_t_levelIn a_t_row a_t_isFree a_t_best a_t_above a_t_ordered t_nodes t_kinds t_levels t_size t_base t_arcs t_parts t_split t_weight) → va_S A s.heap H locs → W p l e (headSpec wq_Re_separate ({ frames := 1, cells := 0, slots := 0, locals := 22 })).room s m ([.ref a_t] : List Value).toArray below meth c H locs 0 0 (MQ below (va_Qv (fun _ : Unit => True) (fun _ => pst (dC, dI) A (wd_Re_separate cI cZ a_t a_t_arcs a_t_parts a_t_split a_t_weight a_t_least a_t_most a_t_levelNodes a_t_levelWeight a_t_levelArc a_t_levelIn a_t_row a_t_isFree a_t_best a_t_above a_t_ordered t_nodes t_kinds t_levels t_size t_base t_arcs out t_split t_weight)) A) ([.ref a_t] : List Value).toArray s 0 0 A) (F0 m 29 ls []) := by
            intro n29
            induction n29 with
            | zero =>
              intro x1 x2 x3 t_parts ls H locs hf
              rw [L_Re_separate_29] at hf
              exact absurd hf (fun h => by cases h)
            | succ n29 ih29 =>
              intro x1 x2 x3 t_parts ls H locs hf hl hP hD hS
              rw [L_Re_separate_29] at hf
              have h43 : ∀ (n43 : Nat) (x1 : Int32) (x2 : Int32) (x3 : Int32) (x4 : Int32) (x5 : Int32) (t_parts : Nat → Int32) (ls : Array Slot) (H : Heap) (locs : List Loc), L_Re_separate_43 t_nodes t_arcs t_split t_weight (L_Re_separate_29 t_nodes t_arcs t_split t_weight (L_Re_separate_23 t_nodes t_arcs t_split t_weight n23) n29) n43 x1 x2 x3 x4 x5 t_parts = some out → lv_has ls 6 [(0, .ref a_t), (1, .int x1), (2, .int x2), (3, .int x3), (4, .int x4), (5, .int x5)] → va_P (dC, dI) clsL (wd_Re_separate cI cZ a_t a_t_arcs a_t_parts a_t_split a_t_weight a_t_least a_t_most a_t_levelNodes a_t_levelWeight a_t_levelArc a_t_levelIn a_t_row a_t_isFree a_t_best a_t_above a_t_ordered t_nodes t_kinds t_levels t_size t_base t_arcs t_parts t_split t_weight) H → va_D A (wd_Re_separate cI cZ a_t a_t_arcs a_t_parts a_t_split a_t_weight a_t_least a_t_most a_t_levelNodes a_t_levelWeight a_t_levelArc a_t_levelIn a_t_row a_t_isFree a_t_best a_t_above a_t_ordered t_nodes t_kinds t_levels t_size t_base t_arcs t_parts t_split t_weight) → va_S A s.heap H locs → W p l e (headSpec wq_Re_separate ({ frames := 1, cells := 0, slots := 0, locals := 22 })).room s m ([.ref a_t] : List Value).toArray below meth c H locs 0 0 (MQ below (va_Qv (fun _ : Unit => True) (fun _ => pst (dC, dI) A (wd_Re_separate cI cZ a_t a_t_arcs a_t_parts a_t_split a_t_weight a_t_least a_t_most a_t_levelNodes a_t_levelWeight a_t_levelArc a_t_levelIn a_t_row a_t_isFree a_t_best a_t_above a_t_ordered t_nodes t_kinds t_levels t_size t_base t_arcs out t_split t_weight)) A) ([.ref a_t] : List Value).toArray s 0 0 A) (F0 m 43 ls []) := by
                intro n43
                induction n43 with
                | zero =>
                  intro x1 x2 x3 x4 x5 t_parts ls H locs hf
                  rw [L_Re_separate_43] at hf
                  exact absurd hf (fun h => by cases h)
                | succ n43 ih43 =>
                  intro x1 x2 x3 x4 x5 t_parts ls H locs hf hl hP hD hS
                  rw [L_Re_separate_43] at hf
                  have h78 : ∀ (x1 : Int32) (x2 : Int32) (x3 : Int32) (x4 : Int32) (t_parts : Nat → Int32) (ls : Array Slot) (H : Heap) (locs : List Loc), J_Re_separate_78 t_weight (L_Re_separate_29 t_nodes t_arcs t_split t_weight (L_Re_separate_23 t_nodes t_arcs t_split t_weight n23) n29) x1 x2 x3 x4 t_parts = some out → lv_has ls 6 [(0, .ref a_t), (1, .int x1), (2, .int x2), (3, .int x3), (4, .int x4)] → va_P (dC, dI) clsL (wd_Re_separate cI cZ a_t a_t_arcs a_t_parts a_t_split a_t_weight a_t_least a_t_most a_t_levelNodes a_t_levelWeight a_t_levelArc a_t_levelIn a_t_row a_t_isFree a_t_best a_t_above a_t_ordered t_nodes t_kinds t_levels t_size t_base t_arcs t_parts t_split t_weight) H → va_D A (wd_Re_separate cI cZ a_t a_t_arcs a_t_parts a_t_split a_t_weight a_t_least a_t_most a_t_levelNodes a_t_levelWeight a_t_levelArc a_t_levelIn a_t_row a_t_isFree a_t_best a_t_above a_t_ordered t_nodes t_kinds t_levels t_size t_base t_arcs t_parts t_split t_weight) → va_S A s.heap H locs → W p l e (headSpec wq_Re_separate ({ frames := 1, cells := 0, slots := 0, locals := 22 })).room s m ([.ref a_t] : List Value).toArray below meth c H locs 0 0 (MQ below (va_Qv (fun _ : Unit => True) (fun _ => pst (dC, dI) A (wd_Re_separate cI cZ a_t a_t_arcs a_t_parts a_t_split a_t_weight a_t_least a_t_most a_t_levelNodes a_t_levelWeight a_t_levelArc a_t_levelIn a_t_row a_t_isFree a_t_best a_t_above a_t_ordered t_nodes t_kinds t_levels t_size t_base t_arcs out t_split t_weight)) A) ([.ref a_t] : List Value).toArray s 0 0 A) (F0 m 78 ls []) := by
                    intro x1 x2 x3 x4 t_parts ls H locs hf hl hP hD hS
                    unfold J_Re_separate_78 at hf
                    refine lv_iload hx hb dd_Re_separate_78 (lv_at hl 4 rfl) ?_
                    refine lv_if_eq (tgt := 118) hx hb dd_Re_separate_80 (by decide) (fun cc => ?_) (fun cc => ?_)
                    · skip
                      have hf := if_t cc hf
                      refine lv_iinc (v := x3 + 1) (lv' := [(3, .int (x3 + 1)), (0, .ref a_t), (1, .int x1), (2, .int x2), (4, .int x4)]) hx hb dd_Re_separate_118 hl (k := 3) rfl rfl (by decide) rfl (fun ls hl => ?_)
                      refine lv_goto (tgt := 29) hx hb dd_Re_separate_121 (by decide) ?_
                      exact ih29 x1 x2 (x3 + 1) t_parts _ _ _ hf (lv_sub hl [1, 2, 3, 0] rfl) hP hD hS
                    · skip
                      have hf := if_f cc hf
                      refine lv_iload hx hb dd_Re_separate_83 (lv_at hl 4 rfl) ?_
                      refine lv_iload_n hx hb dd_Re_separate_85 rfl (lv_at hl 2 rfl) ?_
                      refine lv_icmp_lt (tgt := 118) hx hb dd_Re_separate_86 (by decide) (fun cc => ?_) (fun cc => ?_)
                      · skip
                        have hf := if_t cc hf
                        refine lv_iinc (v := x3 + 1) (lv' := [(3, .int (x3 + 1)), (0, .ref a_t), (1, .int x1), (2, .int x2), (4, .int x4)]) hx hb dd_Re_separate_118 hl (k := 3) rfl rfl (by decide) rfl (fun ls hl => ?_)
                        refine lv_goto (tgt := 29) hx hb dd_Re_separate_121 (by decide) ?_
                        exact ih29 x1 x2 (x3 + 1) t_parts _ _ _ hf (lv_sub hl [1, 2, 3, 0] rfl) hP hD hS
                      · skip
                        have hf := if_f cc hf
                        refine lv_iload hx hb dd_Re_separate_89 (lv_at hl 4 rfl) ?_
                        refine lv_iload_n hx hb dd_Re_separate_91 rfl (lv_at hl 2 rfl) ?_
                        refine lv_icmp_ne (tgt := 113) hx hb dd_Re_separate_92 (by decide) (fun cc => ?_) (fun cc => ?_)
                        · skip
                          have hf := if_f cc hf
                          refine lv_iload_n hx hb dd_Re_separate_113 rfl (lv_at hl 3 rfl) ?_
                          refine lv_istore_n (lv' := [(1, .int x3), (0, .ref a_t), (2, .int x2), (3, .int x3), (4, .int x4)]) hx hb dd_Re_separate_114 rfl hl (by decide) rfl (fun ls hl => ?_)
                          refine lv_iload hx hb dd_Re_separate_115 (lv_at hl 4 rfl) ?_
                          refine lv_istore_n (lv' := [(2, .int x4), (1, .int x3), (0, .ref a_t), (3, .int x3), (4, .int x4)]) hx hb dd_Re_separate_117 rfl hl (by decide) rfl (fun ls hl => ?_)
                          refine lv_iinc (v := x3 + 1) (lv' := [(3, .int (x3 + 1)), (2, .int x4), (1, .int x3), (0, .ref a_t), (4, .int x4)]) hx hb dd_Re_separate_118 hl (k := 3) rfl rfl (by decide) rfl (fun ls hl => ?_)
                          refine lv_goto (tgt := 29) hx hb dd_Re_separate_121 (by decide) ?_
                          exact ih29 x3 x4 (x3 + 1) t_parts _ _ _ hf (lv_sub hl [3, 2, 1, 0] rfl) hP hD hS
                        · skip
                          have hf := if_t cc hf
                          refine lv_aload_n hx hb dd_Re_separate_95 rfl (lv_at hl 0 rfl) ?_
                          refine va_get (D := (dC, dI)) (ci := 9) (v := .ref a_t_weight) (C := rr_Re) (T := tt_Re) (N := 20) hx hb hts (fun w h => gwc (inn_Re w h)) hown hK hP 0 rfl rfl 2 (by decide) (hts _ (gwc gw_705)) (fun _ h9 => h9) rfl dd_Re_separate_96 ?_
                          refine lv_iload_n hx hb dd_Re_separate_99 rfl (lv_at hl 3 rfl) ?_
                          obtain ⟨k100, hf⟩ := ck_some hf
                          refine va_iald hx hb hK hP 4 0 rfl rfl (okb_in k100) dd_Re_separate_100 ?_
                          refine lv_aload_n hx hb dd_Re_separate_101 rfl (lv_at hl 0 rfl) ?_
                          refine va_get (D := (dC, dI)) (ci := 9) (v := .ref a_t_weight) (C := rr_Re) (T := tt_Re) (N := 20) hx hb hts (fun w h => gwc (inn_Re w h)) hown hK hP 0 rfl rfl 2 (by decide) (hts _ (gwc gw_705)) (fun _ h9 => h9) rfl dd_Re_separate_102 ?_
                          refine lv_iload_n hx hb dd_Re_separate_105 rfl (lv_at hl 1 rfl) ?_
                          obtain ⟨k106, hf⟩ := ck_some hf
                          refine va_iald hx hb hK hP 4 0 rfl rfl (okb_in k106) dd_Re_separate_106 ?_
                          refine lv_icmp_lt (tgt := 113) hx hb dd_Re_separate_107 (by decide) (fun cc => ?_) (fun cc => ?_)
                          · skip
                            have hf := if_t cc hf
                            refine lv_iload_n hx hb dd_Re_separate_113 rfl (lv_at hl 3 rfl) ?_
                            refine lv_istore_n (lv' := [(1, .int x3), (0, .ref a_t), (2, .int x2), (3, .int x3), (4, .int x4)]) hx hb dd_Re_separate_114 rfl hl (by decide) rfl (fun ls hl => ?_)
                            refine lv_iload hx hb dd_Re_separate_115 (lv_at hl 4 rfl) ?_
                            refine lv_istore_n (lv' := [(2, .int x4), (1, .int x3), (0, .ref a_t), (3, .int x3), (4, .int x4)]) hx hb dd_Re_separate_117 rfl hl (by decide) rfl (fun ls hl => ?_)
                            refine lv_iinc (v := x3 + 1) (lv' := [(3, .int (x3 + 1)), (2, .int x4), (1, .int x3), (0, .ref a_t), (4, .int x4)]) hx hb dd_Re_separate_118 hl (k := 3) rfl rfl (by decide) rfl (fun ls hl => ?_)
                            refine lv_goto (tgt := 29) hx hb dd_Re_separate_121 (by decide) ?_
                            exact ih29 x3 x4 (x3 + 1) t_parts _ _ _ hf (lv_sub hl [3, 2, 1, 0] rfl) hP hD hS
                          · skip
                            have hf := if_f cc hf
                            refine lv_goto (tgt := 118) hx hb dd_Re_separate_110 (by decide) ?_
                            refine lv_iinc (v := x3 + 1) (lv' := [(3, .int (x3 + 1)), (0, .ref a_t), (1, .int x1), (2, .int x2), (4, .int x4)]) hx hb dd_Re_separate_118 hl (k := 3) rfl rfl (by decide) rfl (fun ls hl => ?_)
                            refine lv_goto (tgt := 29) hx hb dd_Re_separate_121 (by decide) ?_
                            exact ih29 x1 x2 (x3 + 1) t_parts _ _ _ hf (lv_sub hl [1, 2, 3, 0] rfl) hP hD hS
                  refine lv_iload hx hb dd_Re_separate_43 (lv_at hl 5 rfl) ?_
                  refine lv_aload_n hx hb dd_Re_separate_45 rfl (lv_at hl 0 rfl) ?_
                  refine va_get (D := (dC, dI)) (ci := 9) (v := .int t_nodes) (C := rr_Re) (T := tt_Re) (N := 20) hx hb hts (fun w h => gwc (inn_Re w h)) hown hK hP 0 rfl rfl 0 (by decide) (hts _ (gwc gw_703)) (fun _ h9 => h9) rfl dd_Re_separate_46 ?_
                  refine lv_icmp_ge (tgt := 78) hx hb dd_Re_separate_49 (by decide) (fun cc => ?_) (fun cc => ?_)
                  · skip
                    have hf := if_t cc hf
                    exact h78 x1 x2 x3 x4 t_parts _ _ _ hf (lv_sub hl [0, 1, 2, 3, 4] rfl) hP hD hS
                  · skip
                    have hf := if_f cc hf
                    refine lv_iload hx hb dd_Re_separate_52 (lv_at hl 4 rfl) ?_
                    refine lv_aload_n hx hb dd_Re_separate_54 rfl (lv_at hl 0 rfl) ?_
                    refine lv_iload_n hx hb dd_Re_separate_55 rfl (lv_at hl 3 rfl) ?_
                    refine lv_iload hx hb dd_Re_separate_56 (lv_at hl 5 rfl) ?_
                    obtain ⟨r58, hr58, hf⟩ := bind_some hf
                    refine xcalli (rest := [.int x4]) (wc := (wd_Re_isOpen cI cZ a_t a_t_arcs a_t_parts a_t_split a_t_weight a_t_least a_t_most a_t_levelNodes a_t_levelWeight a_t_levelArc a_t_levelIn a_t_row a_t_isFree a_t_best a_t_above a_t_ordered t_nodes t_kinds t_levels t_size t_base t_arcs t_parts t_split)) (w1 := (wd_Re_isOpen cI cZ a_t a_t_arcs a_t_parts a_t_split a_t_weight a_t_least a_t_most a_t_levelNodes a_t_levelWeight a_t_levelArc a_t_levelIn a_t_row a_t_isFree a_t_best a_t_above a_t_ordered t_nodes t_kinds t_levels t_size t_base t_arcs t_parts t_split)) (wr := [(a_t_weight, .inl (cI, 40, .inl t_weight))]) (ws' := (wd_Re_separate cI cZ a_t a_t_arcs a_t_parts a_t_split a_t_weight a_t_least a_t_most a_t_levelNodes a_t_levelWeight a_t_levelArc a_t_levelIn a_t_row a_t_isFree a_t_best a_t_above a_t_ordered t_nodes t_kinds t_levels t_size t_base t_arcs t_parts t_split t_weight)) (va_runV (As := [.int x3, .int x5]) ⟨hx, hb, hml, hown, hts⟩ (c_Re_isOpen l dC dI cI cZ a_t a_t_arcs a_t_parts a_t_split a_t_weight a_t_least a_t_most a_t_levelNodes a_t_levelWeight a_t_levelArc a_t_levelIn a_t_row a_t_isFree a_t_best a_t_above a_t_ordered H.size x3 x5 t_nodes t_kinds t_levels t_size t_base t_arcs t_parts t_split r58 hr58) (cwV 2 hts (gV gw_938 gw_940 gw_50 gw_61 gw_941) rfl rfl rfl (yd_Re_isOpen) ⟨Nat.le_of_ble_eq_true rfl, Nat.le_of_ble_eq_true rfl⟩) (mkV hK (hP.sub (ws' := (wd_Re_isOpen cI cZ a_t a_t_arcs a_t_parts a_t_split a_t_weight a_t_least a_t_most a_t_levelNodes a_t_levelWeight a_t_levelArc a_t_levelIn a_t_row a_t_isFree a_t_best a_t_above a_t_ordered t_nodes t_kinds t_levels t_size t_base t_arcs t_parts t_split)) [0, 1, 2, 3] rfl) (hD.sub (ws' := (wd_Re_isOpen cI cZ a_t a_t_arcs a_t_parts a_t_split a_t_weight a_t_least a_t_most a_t_levelNodes a_t_levelWeight a_t_levelArc a_t_levelIn a_t_row a_t_isFree a_t_best a_t_above a_t_ordered t_nodes t_kinds t_levels t_size t_base t_arcs t_parts t_split)) [0, 1, 2, 3] (by decide) rfl) hN (va_recv hK hP (ci := 9) (q0 := 0) rfl rfl)) rfl rfl hl.1 rfl (lv_room (Nat.le_of_ble_eq_true rfl)) dd_Re_separate_58 ⟨Nat.zero_le _, Nat.zero_le _⟩) hP hD hS hA [0, 1, 2, 3] [4] [1, 2, 3, 4, 0] rfl rfl (by decide) (by decide) rfl (by decide) rfl (fun H locs hP hD hS => ?_)
                    refine lv_if_eq (tgt := 68) hx hb dd_Re_separate_61 (by decide) (fun cc => ?_) (fun cc => ?_)
                    · skip
                      have hf := if_t cc hf
                      refine lv_iconst (v := 0) hx hb dd_Re_separate_68 (by decide) ?_
                      refine lv_iadd hx hb dd_Re_separate_69 ?_
                      refine lv_istore (lv' := [(4, .int (x4 + 0)), (0, .ref a_t), (1, .int x1), (2, .int x2), (3, .int x3), (5, .int x5)]) hx hb dd_Re_separate_70 hl (by decide) rfl (fun ls hl => ?_)
                      refine lv_iinc (v := x5 + 1) (lv' := [(5, .int (x5 + 1)), (4, .int (x4 + 0)), (0, .ref a_t), (1, .int x1), (2, .int x2), (3, .int x3)]) hx hb dd_Re_separate_72 hl (k := 5) rfl rfl (by decide) rfl (fun ls hl => ?_)
                      refine lv_goto (tgt := 43) hx hb dd_Re_separate_75 (by decide) ?_
                      exact ih43 x1 x2 x3 (x4 + 0) (x5 + 1) t_parts _ _ _ hf (lv_sub hl [2, 3, 4, 5, 1, 0] rfl) hP hD hS
                    · skip
                      have hf := if_f cc hf
                      refine lv_iconst (v := 1) hx hb dd_Re_separate_64 (by decide) ?_
                      refine lv_goto (tgt := 69) hx hb dd_Re_separate_65 (by decide) ?_
                      refine lv_iadd hx hb dd_Re_separate_69 ?_
                      refine lv_istore (lv' := [(4, .int (x4 + 1)), (0, .ref a_t), (1, .int x1), (2, .int x2), (3, .int x3), (5, .int x5)]) hx hb dd_Re_separate_70 hl (by decide) rfl (fun ls hl => ?_)
                      refine lv_iinc (v := x5 + 1) (lv' := [(5, .int (x5 + 1)), (4, .int (x4 + 1)), (0, .ref a_t), (1, .int x1), (2, .int x2), (3, .int x3)]) hx hb dd_Re_separate_72 hl (k := 5) rfl rfl (by decide) rfl (fun ls hl => ?_)
                      refine lv_goto (tgt := 43) hx hb dd_Re_separate_75 (by decide) ?_
                      exact ih43 x1 x2 x3 (x4 + 1) (x5 + 1) t_parts _ _ _ hf (lv_sub hl [2, 3, 4, 5, 1, 0] rfl) hP hD hS
              have h124 : ∀ (x1 : Int32) (t_parts : Nat → Int32) (ls : Array Slot) (H : Heap) (locs : List Loc), J_Re_separate_124 t_nodes t_arcs t_split (L_Re_separate_23 t_nodes t_arcs t_split t_weight n23) x1 t_parts = some out → lv_has ls 6 [(0, .ref a_t), (1, .int x1)] → va_P (dC, dI) clsL (wd_Re_separate cI cZ a_t a_t_arcs a_t_parts a_t_split a_t_weight a_t_least a_t_most a_t_levelNodes a_t_levelWeight a_t_levelArc a_t_levelIn a_t_row a_t_isFree a_t_best a_t_above a_t_ordered t_nodes t_kinds t_levels t_size t_base t_arcs t_parts t_split t_weight) H → va_D A (wd_Re_separate cI cZ a_t a_t_arcs a_t_parts a_t_split a_t_weight a_t_least a_t_most a_t_levelNodes a_t_levelWeight a_t_levelArc a_t_levelIn a_t_row a_t_isFree a_t_best a_t_above a_t_ordered t_nodes t_kinds t_levels t_size t_base t_arcs t_parts t_split t_weight) → va_S A s.heap H locs → W p l e (headSpec wq_Re_separate ({ frames := 1, cells := 0, slots := 0, locals := 22 })).room s m ([.ref a_t] : List Value).toArray below meth c H locs 0 0 (MQ below (va_Qv (fun _ : Unit => True) (fun _ => pst (dC, dI) A (wd_Re_separate cI cZ a_t a_t_arcs a_t_parts a_t_split a_t_weight a_t_least a_t_most a_t_levelNodes a_t_levelWeight a_t_levelArc a_t_levelIn a_t_row a_t_isFree a_t_best a_t_above a_t_ordered t_nodes t_kinds t_levels t_size t_base t_arcs out t_split t_weight)) A) ([.ref a_t] : List Value).toArray s 0 0 A) (F0 m 124 ls []) := by
                intro x1 t_parts ls H locs hf hl hP hD hS
                unfold J_Re_separate_124 at hf
                have h148 : ∀ (n148 : Nat) (x1 : Int32) (t_parts : Nat → Int32) (ls : Array Slot) (H : Heap) (locs : List Loc), L_Re_separate_148 t_nodes t_arcs t_split n148 x1 t_parts = some out → lv_has ls 6 [(0, .ref a_t), (1, .int x1)] → va_P (dC, dI) clsL (wd_Re_separate cI cZ a_t a_t_arcs a_t_parts a_t_split a_t_weight a_t_least a_t_most a_t_levelNodes a_t_levelWeight a_t_levelArc a_t_levelIn a_t_row a_t_isFree a_t_best a_t_above a_t_ordered t_nodes t_kinds t_levels t_size t_base t_arcs t_parts t_split t_weight) H → va_D A (wd_Re_separate cI cZ a_t a_t_arcs a_t_parts a_t_split a_t_weight a_t_least a_t_most a_t_levelNodes a_t_levelWeight a_t_levelArc a_t_levelIn a_t_row a_t_isFree a_t_best a_t_above a_t_ordered t_nodes t_kinds t_levels t_size t_base t_arcs t_parts t_split t_weight) → va_S A s.heap H locs → W p l e (headSpec wq_Re_separate ({ frames := 1, cells := 0, slots := 0, locals := 22 })).room s m ([.ref a_t] : List Value).toArray below meth c H locs 0 0 (MQ below (va_Qv (fun _ : Unit => True) (fun _ => pst (dC, dI) A (wd_Re_separate cI cZ a_t a_t_arcs a_t_parts a_t_split a_t_weight a_t_least a_t_most a_t_levelNodes a_t_levelWeight a_t_levelArc a_t_levelIn a_t_row a_t_isFree a_t_best a_t_above a_t_ordered t_nodes t_kinds t_levels t_size t_base t_arcs out t_split t_weight)) A) ([.ref a_t] : List Value).toArray s 0 0 A) (F0 m 148 ls []) := by
                  intro n148
                  induction n148 with
                  | zero =>
                    intro x1 t_parts ls H locs hf
                    rw [L_Re_separate_148] at hf
                    exact absurd hf (fun h => by cases h)
                  | succ n148 ih148 =>
                    intro x1 t_parts ls H locs hf hl hP hD hS
                    rw [L_Re_separate_148] at hf
                    have h175 : ∀ (n175 : Nat) (x1 : Int32) (x2 : Int32) (x3 : Int32) (t_parts : Nat → Int32) (ls : Array Slot) (H : Heap) (locs : List Loc), L_Re_separate_175 t_nodes t_arcs t_split (L_Re_separate_148 t_nodes t_arcs t_split n148) n175 x1 x2 x3 t_parts = some out → lv_has ls 6 [(0, .ref a_t), (1, .int x1), (2, .int x2), (3, .int x3)] → va_P (dC, dI) clsL (wd_Re_separate cI cZ a_t a_t_arcs a_t_parts a_t_split a_t_weight a_t_least a_t_most a_t_levelNodes a_t_levelWeight a_t_levelArc a_t_levelIn a_t_row a_t_isFree a_t_best a_t_above a_t_ordered t_nodes t_kinds t_levels t_size t_base t_arcs t_parts t_split t_weight) H → va_D A (wd_Re_separate cI cZ a_t a_t_arcs a_t_parts a_t_split a_t_weight a_t_least a_t_most a_t_levelNodes a_t_levelWeight a_t_levelArc a_t_levelIn a_t_row a_t_isFree a_t_best a_t_above a_t_ordered t_nodes t_kinds t_levels t_size t_base t_arcs t_parts t_split t_weight) → va_S A s.heap H locs → W p l e (headSpec wq_Re_separate ({ frames := 1, cells := 0, slots := 0, locals := 22 })).room s m ([.ref a_t] : List Value).toArray below meth c H locs 0 0 (MQ below (va_Qv (fun _ : Unit => True) (fun _ => pst (dC, dI) A (wd_Re_separate cI cZ a_t a_t_arcs a_t_parts a_t_split a_t_weight a_t_least a_t_most a_t_levelNodes a_t_levelWeight a_t_levelArc a_t_levelIn a_t_row a_t_isFree a_t_best a_t_above a_t_ordered t_nodes t_kinds t_levels t_size t_base t_arcs out t_split t_weight)) A) ([.ref a_t] : List Value).toArray s 0 0 A) (F0 m 175 ls []) := by
                      intro n175
                      induction n175 with
                      | zero =>
                        intro x1 x2 x3 t_parts ls H locs hf
                        rw [L_Re_separate_175] at hf
                        exact absurd hf (fun h => by cases h)
                      | succ n175 ih175 =>
                        intro x1 x2 x3 t_parts ls H locs hf hl hP hD hS
                        rw [L_Re_separate_175] at hf
                        have h198 : ∀ (x1 : Int32) (x2 : Int32) (t_parts : Nat → Int32) (ls : Array Slot) (H : Heap) (locs : List Loc), J_Re_separate_198 (L_Re_separate_148 t_nodes t_arcs t_split n148) x1 x2 t_parts = some out → lv_has ls 6 [(0, .ref a_t), (1, .int x1), (2, .int x2)] → va_P (dC, dI) clsL (wd_Re_separate cI cZ a_t a_t_arcs a_t_parts a_t_split a_t_weight a_t_least a_t_most a_t_levelNodes a_t_levelWeight a_t_levelArc a_t_levelIn a_t_row a_t_isFree a_t_best a_t_above a_t_ordered t_nodes t_kinds t_levels t_size t_base t_arcs t_parts t_split t_weight) H → va_D A (wd_Re_separate cI cZ a_t a_t_arcs a_t_parts a_t_split a_t_weight a_t_least a_t_most a_t_levelNodes a_t_levelWeight a_t_levelArc a_t_levelIn a_t_row a_t_isFree a_t_best a_t_above a_t_ordered t_nodes t_kinds t_levels t_size t_base t_arcs t_parts t_split t_weight) → va_S A s.heap H locs → W p l e (headSpec wq_Re_separate ({ frames := 1, cells := 0, slots := 0, locals := 22 })).room s m ([.ref a_t] : List Value).toArray below meth c H locs 0 0 (MQ below (va_Qv (fun _ : Unit => True) (fun _ => pst (dC, dI) A (wd_Re_separate cI cZ a_t a_t_arcs a_t_parts a_t_split a_t_weight a_t_least a_t_most a_t_levelNodes a_t_levelWeight a_t_levelArc a_t_levelIn a_t_row a_t_isFree a_t_best a_t_above a_t_ordered t_nodes t_kinds t_levels t_size t_base t_arcs out t_split t_weight)) A) ([.ref a_t] : List Value).toArray s 0 0 A) (F0 m 198 ls []) := by
                          intro x1 x2 t_parts ls H locs hf hl hP hD hS
                          unfold J_Re_separate_198 at hf
                          refine lv_aload_n hx hb dd_Re_separate_198 rfl (lv_at hl 0 rfl) ?_
                          refine va_get (D := (dC, dI)) (ci := 9) (v := .ref a_t_parts) (C := rr_Re) (T := tt_Re) (N := 20) hx hb hts (fun w h => gwc (inn_Re w h)) hown hK hP 0 rfl rfl 19 (by decide) (hts _ (gwc gw_722)) (fun _ h9 => h9) rfl dd_Re_separate_199 ?_
                          refine lv_iload_n hx hb dd_Re_separate_202 rfl (lv_at hl 1 rfl) ?_
                          refine lv_iload_n hx hb dd_Re_separate_203 rfl (lv_at hl 2 rfl) ?_
                          obtain ⟨k204, hf⟩ := ck_some hf
                          refine va_zast hx hb hK hP hD hS 2 1 rfl rfl (okb_in k204) dd_Re_separate_204 (fun H locs hP hD hS => ?_)
                          have hP : va_P (dC, dI) clsL (wd_Re_separate cI cZ a_t a_t_arcs a_t_parts a_t_split a_t_weight a_t_least a_t_most a_t_levelNodes a_t_levelWeight a_t_levelArc a_t_levelIn a_t_row a_t_isFree a_t_best a_t_above a_t_ordered t_nodes t_kinds t_levels t_size t_base t_arcs (upd t_parts (x1).toNatClampNeg (vp_nar .boolean x2)) t_split t_weight) H := hP
                          have hD : va_D A (wd_Re_separate cI cZ a_t a_t_arcs a_t_parts a_t_split a_t_weight a_t_least a_t_most a_t_levelNodes a_t_levelWeight a_t_levelArc a_t_levelIn a_t_row a_t_isFree a_t_best a_t_above a_t_ordered t_nodes t_kinds t_levels t_size t_base t_arcs (upd t_parts (x1).toNatClampNeg (vp_nar .boolean x2)) t_split t_weight) := hD
                          refine lv_iinc (v := x1 + (-1)) (lv' := [(1, .int (x1 + (-1))), (0, .ref a_t), (2, .int x2)]) hx hb dd_Re_separate_205 hl (k := 1) rfl rfl (by decide) rfl (fun ls hl => ?_)
                          refine lv_goto (tgt := 148) hx hb dd_Re_separate_208 (by decide) ?_
                          exact ih148 (x1 + (-1)) (upd t_parts (x1).toNatClampNeg (vp_nar .boolean x2)) _ _ _ hf (lv_sub hl [1, 0] rfl) hP hD hS
                        refine lv_iload_n hx hb dd_Re_separate_175 rfl (lv_at hl 3 rfl) ?_
                        refine lv_aload_n hx hb dd_Re_separate_176 rfl (lv_at hl 0 rfl) ?_
                        refine va_get (D := (dC, dI)) (ci := 9) (v := .int t_nodes) (C := rr_Re) (T := tt_Re) (N := 20) hx hb hts (fun w h => gwc (inn_Re w h)) hown hK hP 0 rfl rfl 0 (by decide) (hts _ (gwc gw_703)) (fun _ h9 => h9) rfl dd_Re_separate_177 ?_
                        refine lv_icmp_ge (tgt := 198) hx hb dd_Re_separate_180 (by decide) (fun cc => ?_) (fun cc => ?_)
                        · skip
                          have hf := if_t cc hf
                          exact h198 x1 x2 t_parts _ _ _ hf (lv_sub hl [0, 1, 2] rfl) hP hD hS
                        · skip
                          have hf := if_f cc hf
                          refine lv_iload_n hx hb dd_Re_separate_183 rfl (lv_at hl 2 rfl) ?_
                          refine lv_aload_n hx hb dd_Re_separate_184 rfl (lv_at hl 0 rfl) ?_
                          refine lv_iload_n hx hb dd_Re_separate_185 rfl (lv_at hl 1 rfl) ?_
                          refine lv_iload_n hx hb dd_Re_separate_186 rfl (lv_at hl 3 rfl) ?_
                          obtain ⟨r187, hr187, hf⟩ := bind_some hf
                          refine xcalli (rest := [.int x2]) (wc := (wd_Re_isOpen cI cZ a_t a_t_arcs a_t_parts a_t_split a_t_weight a_t_least a_t_most a_t_levelNodes a_t_levelWeight a_t_levelArc a_t_levelIn a_t_row a_t_isFree a_t_best a_t_above a_t_ordered t_nodes t_kinds t_levels t_size t_base t_arcs t_parts t_split)) (w1 := (wd_Re_isOpen cI cZ a_t a_t_arcs a_t_parts a_t_split a_t_weight a_t_least a_t_most a_t_levelNodes a_t_levelWeight a_t_levelArc a_t_levelIn a_t_row a_t_isFree a_t_best a_t_above a_t_ordered t_nodes t_kinds t_levels t_size t_base t_arcs t_parts t_split)) (wr := [(a_t_weight, .inl (cI, 40, .inl t_weight))]) (ws' := (wd_Re_separate cI cZ a_t a_t_arcs a_t_parts a_t_split a_t_weight a_t_least a_t_most a_t_levelNodes a_t_levelWeight a_t_levelArc a_t_levelIn a_t_row a_t_isFree a_t_best a_t_above a_t_ordered t_nodes t_kinds t_levels t_size t_base t_arcs t_parts t_split t_weight)) (va_runV (As := [.int x1, .int x3]) ⟨hx, hb, hml, hown, hts⟩ (c_Re_isOpen l dC dI cI cZ a_t a_t_arcs a_t_parts a_t_split a_t_weight a_t_least a_t_most a_t_levelNodes a_t_levelWeight a_t_levelArc a_t_levelIn a_t_row a_t_isFree a_t_best a_t_above a_t_ordered H.size x1 x3 t_nodes t_kinds t_levels t_size t_base t_arcs t_parts t_split r187 hr187) (cwV 2 hts (gV gw_938 gw_940 gw_50 gw_61 gw_941) rfl rfl rfl (yd_Re_isOpen) ⟨Nat.le_of_ble_eq_true rfl, Nat.le_of_ble_eq_true rfl⟩) (mkV hK (hP.sub (ws' := (wd_Re_isOpen cI cZ a_t a_t_arcs a_t_parts a_t_split a_t_weight a_t_least a_t_most a_t_levelNodes a_t_levelWeight a_t_levelArc a_t_levelIn a_t_row a_t_isFree a_t_best a_t_above a_t_ordered t_nodes t_kinds t_levels t_size t_base t_arcs t_parts t_split)) [0, 1, 2, 3] rfl) (hD.sub (ws' := (wd_Re_isOpen cI cZ a_t a_t_arcs a_t_parts a_t_split a_t_weight a_t_least a_t_most a_t_levelNodes a_t_levelWeight a_t_levelArc a_t_levelIn a_t_row a_t_isFree a_t_best a_t_above a_t_ordered t_nodes t_kinds t_levels t_size t_base t_arcs t_parts t_split)) [0, 1, 2, 3] (by decide) rfl) hN (va_recv hK hP (ci := 9) (q0 := 0) rfl rfl)) rfl rfl hl.1 rfl (lv_room (Nat.le_of_ble_eq_true rfl)) dd_Re_separate_187 ⟨Nat.zero_le _, Nat.zero_le _⟩) hP hD hS hA [0, 1, 2, 3] [4] [1, 2, 3, 4, 0] rfl rfl (by decide) (by decide) rfl (by decide) rfl (fun H locs hP hD hS => ?_)
                          refine lv_ior hx hb dd_Re_separate_190 ?_
                          refine lv_istore_n (lv' := [(2, .int (x2 ||| r187)), (0, .ref a_t), (1, .int x1), (3, .int x3)]) hx hb dd_Re_separate_191 rfl hl (by decide) rfl (fun ls hl => ?_)
                          refine lv_iinc (v := x3 + 1) (lv' := [(3, .int (x3 + 1)), (2, .int (x2 ||| r187)), (0, .ref a_t), (1, .int x1)]) hx hb dd_Re_separate_192 hl (k := 3) rfl rfl (by decide) rfl (fun ls hl => ?_)
                          refine lv_goto (tgt := 175) hx hb dd_Re_separate_195 (by decide) ?_
                          exact ih175 x1 (x2 ||| r187) (x3 + 1) t_parts _ _ _ hf (lv_sub hl [2, 3, 1, 0] rfl) hP hD hS
                    refine lv_iload_n hx hb dd_Re_separate_148 rfl (lv_at hl 1 rfl) ?_
                    refine lv_if_lt (tgt := 211) hx hb dd_Re_separate_149 (by decide) (fun cc => ?_) (fun cc => ?_)
                    · skip
                      have hf := if_t cc hf
                      have hf := Option.some.inj hf
                      subst hf
                      exact W.vret hx hb hr (fun t ht hW => ⟨⟨(), rfl, trivial, pst_of ht hP hD⟩, hS.F ht⟩) hS.2.2 dd_Re_separate_211
                    · skip
                      have hf := if_f cc hf
                      refine lv_aload_n hx hb dd_Re_separate_152 rfl (lv_at hl 0 rfl) ?_
                      refine va_get (D := (dC, dI)) (ci := 9) (v := .ref a_t_parts) (C := rr_Re) (T := tt_Re) (N := 20) hx hb hts (fun w h => gwc (inn_Re w h)) hown hK hP 0 rfl rfl 19 (by decide) (hts _ (gwc gw_722)) (fun _ h9 => h9) rfl dd_Re_separate_153 ?_
                      refine lv_iload_n hx hb dd_Re_separate_156 rfl (lv_at hl 1 rfl) ?_
                      obtain ⟨k157, hf⟩ := ck_some hf
                      refine va_zald hx hb hK hP 2 1 rfl rfl (okb_in k157) dd_Re_separate_157 ?_
                      refine lv_if_ne (tgt := 164) hx hb dd_Re_separate_158 (by decide) (fun cc => ?_) (fun cc => ?_)
                      · skip
                        have hf := if_f cc hf
                        refine lv_aload_n hx hb dd_Re_separate_164 rfl (lv_at hl 0 rfl) ?_
                        refine va_get (D := (dC, dI)) (ci := 9) (v := .ref a_t_parts) (C := rr_Re) (T := tt_Re) (N := 20) hx hb hts (fun w h => gwc (inn_Re w h)) hown hK hP 0 rfl rfl 19 (by decide) (hts _ (gwc gw_722)) (fun _ h9 => h9) rfl dd_Re_separate_165 ?_
                        refine lv_iload_n hx hb dd_Re_separate_168 rfl (lv_at hl 1 rfl) ?_
                        refine lv_iconst (v := 0) hx hb dd_Re_separate_169 (by decide) ?_
                        obtain ⟨k170, hf⟩ := ck_some hf
                        refine va_zast hx hb hK hP hD hS 2 1 rfl rfl (okb_in k170) dd_Re_separate_170 (fun H locs hP hD hS => ?_)
                        have hP : va_P (dC, dI) clsL (wd_Re_separate cI cZ a_t a_t_arcs a_t_parts a_t_split a_t_weight a_t_least a_t_most a_t_levelNodes a_t_levelWeight a_t_levelArc a_t_levelIn a_t_row a_t_isFree a_t_best a_t_above a_t_ordered t_nodes t_kinds t_levels t_size t_base t_arcs (upd t_parts (x1).toNatClampNeg (vp_nar .boolean 0)) t_split t_weight) H := hP
                        have hD : va_D A (wd_Re_separate cI cZ a_t a_t_arcs a_t_parts a_t_split a_t_weight a_t_least a_t_most a_t_levelNodes a_t_levelWeight a_t_levelArc a_t_levelIn a_t_row a_t_isFree a_t_best a_t_above a_t_ordered t_nodes t_kinds t_levels t_size t_base t_arcs (upd t_parts (x1).toNatClampNeg (vp_nar .boolean 0)) t_split t_weight) := hD
                        refine lv_iconst (v := 0) hx hb dd_Re_separate_171 (by decide) ?_
                        refine lv_istore_n (lv' := [(2, .int 0), (0, .ref a_t), (1, .int x1)]) hx hb dd_Re_separate_172 rfl hl (by decide) rfl (fun ls hl => ?_)
                        refine lv_iconst (v := 0) hx hb dd_Re_separate_173 (by decide) ?_
                        refine lv_istore_n (lv' := [(3, .int 0), (2, .int 0), (0, .ref a_t), (1, .int x1)]) hx hb dd_Re_separate_174 rfl hl (by decide) rfl (fun ls hl => ?_)
                        exact h175 64 x1 0 0 (upd t_parts (x1).toNatClampNeg (vp_nar .boolean 0)) _ _ _ hf (lv_sub hl [2, 3, 1, 0] rfl) hP hD hS
                      · skip
                        have hf := if_t cc hf
                        refine lv_goto (tgt := 205) hx hb dd_Re_separate_161 (by decide) ?_
                        refine lv_iinc (v := x1 + (-1)) (lv' := [(1, .int (x1 + (-1))), (0, .ref a_t)]) hx hb dd_Re_separate_205 hl (k := 1) rfl rfl (by decide) rfl (fun ls hl => ?_)
                        refine lv_goto (tgt := 148) hx hb dd_Re_separate_208 (by decide) ?_
                        exact ih148 (x1 + (-1)) t_parts _ _ _ hf (lv_sub hl [1, 0] rfl) hP hD hS
                refine lv_iload_n hx hb dd_Re_separate_124 rfl (lv_at hl 1 rfl) ?_
                refine lv_if_ge (tgt := 131) hx hb dd_Re_separate_125 (by decide) (fun cc => ?_) (fun cc => ?_)
                · skip
                  have hf := if_t cc hf
                  refine lv_aload_n hx hb dd_Re_separate_131 rfl (lv_at hl 0 rfl) ?_
                  refine va_get (D := (dC, dI)) (ci := 9) (v := .ref a_t_parts) (C := rr_Re) (T := tt_Re) (N := 20) hx hb hts (fun w h => gwc (inn_Re w h)) hown hK hP 0 rfl rfl 19 (by decide) (hts _ (gwc gw_722)) (fun _ h9 => h9) rfl dd_Re_separate_132 ?_
                  refine lv_iload_n hx hb dd_Re_separate_135 rfl (lv_at hl 1 rfl) ?_
                  refine lv_iconst (v := 1) hx hb dd_Re_separate_136 (by decide) ?_
                  obtain ⟨k137, hf⟩ := ck_some hf
                  refine va_zast hx hb hK hP hD hS 2 1 rfl rfl (okb_in k137) dd_Re_separate_137 (fun H locs hP hD hS => ?_)
                  have hP : va_P (dC, dI) clsL (wd_Re_separate cI cZ a_t a_t_arcs a_t_parts a_t_split a_t_weight a_t_least a_t_most a_t_levelNodes a_t_levelWeight a_t_levelArc a_t_levelIn a_t_row a_t_isFree a_t_best a_t_above a_t_ordered t_nodes t_kinds t_levels t_size t_base t_arcs (upd t_parts (x1).toNatClampNeg (vp_nar .boolean 1)) t_split t_weight) H := hP
                  have hD : va_D A (wd_Re_separate cI cZ a_t a_t_arcs a_t_parts a_t_split a_t_weight a_t_least a_t_most a_t_levelNodes a_t_levelWeight a_t_levelArc a_t_levelIn a_t_row a_t_isFree a_t_best a_t_above a_t_ordered t_nodes t_kinds t_levels t_size t_base t_arcs (upd t_parts (x1).toNatClampNeg (vp_nar .boolean 1)) t_split t_weight) := hD
                  refine lv_goto (tgt := 23) hx hb dd_Re_separate_138 (by decide) ?_
                  exact ih23 (upd t_parts (x1).toNatClampNeg (vp_nar .boolean 1)) _ _ _ hf (lv_sub hl [0] rfl) hP hD hS
                · skip
                  have hf := if_f cc hf
                  refine lv_goto (tgt := 141) hx hb dd_Re_separate_128 (by decide) ?_
                  refine lv_aload_n hx hb dd_Re_separate_141 rfl (lv_at hl 0 rfl) ?_
                  refine va_get (D := (dC, dI)) (ci := 9) (v := .int t_nodes) (C := rr_Re) (T := tt_Re) (N := 20) hx hb hts (fun w h => gwc (inn_Re w h)) hown hK hP 0 rfl rfl 0 (by decide) (hts _ (gwc gw_703)) (fun _ h9 => h9) rfl dd_Re_separate_142 ?_
                  refine lv_iconst (v := 1) hx hb dd_Re_separate_145 (by decide) ?_
                  refine lv_isub hx hb dd_Re_separate_146 ?_
                  refine lv_istore_n (lv' := [(1, .int (t_nodes - 1)), (0, .ref a_t)]) hx hb dd_Re_separate_147 rfl hl (by decide) rfl (fun ls hl => ?_)
                  exact h148 64 (t_nodes - 1) t_parts _ _ _ hf (lv_sub hl [1, 0] rfl) hP hD hS
              refine lv_iload_n hx hb dd_Re_separate_29 rfl (lv_at hl 3 rfl) ?_
              refine lv_aload_n hx hb dd_Re_separate_30 rfl (lv_at hl 0 rfl) ?_
              refine va_get (D := (dC, dI)) (ci := 9) (v := .int t_nodes) (C := rr_Re) (T := tt_Re) (N := 20) hx hb hts (fun w h => gwc (inn_Re w h)) hown hK hP 0 rfl rfl 0 (by decide) (hts _ (gwc gw_703)) (fun _ h9 => h9) rfl dd_Re_separate_31 ?_
              refine lv_icmp_ge (tgt := 124) hx hb dd_Re_separate_34 (by decide) (fun cc => ?_) (fun cc => ?_)
              · skip
                have hf := if_t cc hf
                exact h124 x1 t_parts _ _ _ hf (lv_sub hl [0, 1] rfl) hP hD hS
              · skip
                have hf := if_f cc hf
                refine lv_iconst (v := 0) hx hb dd_Re_separate_37 (by decide) ?_
                refine lv_istore (lv' := [(4, .int 0), (0, .ref a_t), (1, .int x1), (2, .int x2), (3, .int x3)]) hx hb dd_Re_separate_38 hl (by decide) rfl (fun ls hl => ?_)
                refine lv_iconst (v := 0) hx hb dd_Re_separate_40 (by decide) ?_
                refine lv_istore (lv' := [(5, .int 0), (4, .int 0), (0, .ref a_t), (1, .int x1), (2, .int x2), (3, .int x3)]) hx hb dd_Re_separate_41 hl (by decide) rfl (fun ls hl => ?_)
                exact h43 64 x1 x2 x3 0 0 t_parts _ _ _ hf (lv_sub hl [2, 3, 4, 5, 1, 0] rfl) hP hD hS
          refine lv_iconst (v := -1) hx hb dd_Re_separate_23 (by decide) ?_
          refine lv_istore_n (lv' := [(1, .int (-1)), (0, .ref a_t)]) hx hb dd_Re_separate_24 rfl hl (by decide) rfl (fun ls hl => ?_)
          refine lv_iconst (v := 0) hx hb dd_Re_separate_25 (by decide) ?_
          refine lv_istore_n (lv' := [(2, .int 0), (1, .int (-1)), (0, .ref a_t)]) hx hb dd_Re_separate_26 rfl hl (by decide) rfl (fun ls hl => ?_)
          refine lv_iconst (v := 0) hx hb dd_Re_separate_27 (by decide) ?_
          refine lv_istore_n (lv' := [(3, .int 0), (2, .int 0), (1, .int (-1)), (0, .ref a_t)]) hx hb dd_Re_separate_28 rfl hl (by decide) rfl (fun ls hl => ?_)
          exact h29 64 (-1) 0 0 t_parts _ _ _ hf (lv_sub hl [3, 2, 1, 0] rfl) hP hD hS
      refine lv_iload_n hx hb dd_Re_separate_2 rfl (lv_at hl 1 rfl) ?_
      refine lv_aload_n hx hb dd_Re_separate_3 rfl (lv_at hl 0 rfl) ?_
      refine va_get (D := (dC, dI)) (ci := 9) (v := .int t_nodes) (C := rr_Re) (T := tt_Re) (N := 20) hx hb hts (fun w h => gwc (inn_Re w h)) hown hK hP 0 rfl rfl 0 (by decide) (hts _ (gwc gw_703)) (fun _ h9 => h9) rfl dd_Re_separate_4 ?_
      refine lv_icmp_ge (tgt := 23) hx hb dd_Re_separate_7 (by decide) (fun cc => ?_) (fun cc => ?_)
      · skip
        have hf := if_t cc hf
        exact h23 64 t_parts _ _ _ hf (lv_sub hl [0] rfl) hP hD hS
      · skip
        have hf := if_f cc hf
        refine lv_aload_n hx hb dd_Re_separate_10 rfl (lv_at hl 0 rfl) ?_
        refine va_get (D := (dC, dI)) (ci := 9) (v := .ref a_t_parts) (C := rr_Re) (T := tt_Re) (N := 20) hx hb hts (fun w h => gwc (inn_Re w h)) hown hK hP 0 rfl rfl 19 (by decide) (hts _ (gwc gw_722)) (fun _ h9 => h9) rfl dd_Re_separate_11 ?_
        refine lv_iload_n hx hb dd_Re_separate_14 rfl (lv_at hl 1 rfl) ?_
        refine lv_iconst (v := 0) hx hb dd_Re_separate_15 (by decide) ?_
        obtain ⟨k16, hf⟩ := ck_some hf
        refine va_zast hx hb hK hP hD hS 2 1 rfl rfl (okb_in k16) dd_Re_separate_16 (fun H locs hP hD hS => ?_)
        have hP : va_P (dC, dI) clsL (wd_Re_separate cI cZ a_t a_t_arcs a_t_parts a_t_split a_t_weight a_t_least a_t_most a_t_levelNodes a_t_levelWeight a_t_levelArc a_t_levelIn a_t_row a_t_isFree a_t_best a_t_above a_t_ordered t_nodes t_kinds t_levels t_size t_base t_arcs (upd t_parts (x1).toNatClampNeg (vp_nar .boolean 0)) t_split t_weight) H := hP
        have hD : va_D A (wd_Re_separate cI cZ a_t a_t_arcs a_t_parts a_t_split a_t_weight a_t_least a_t_most a_t_levelNodes a_t_levelWeight a_t_levelArc a_t_levelIn a_t_row a_t_isFree a_t_best a_t_above a_t_ordered t_nodes t_kinds t_levels t_size t_base t_arcs (upd t_parts (x1).toNatClampNeg (vp_nar .boolean 0)) t_split t_weight) := hD
        refine lv_iinc (v := x1 + 1) (lv' := [(1, .int (x1 + 1)), (0, .ref a_t)]) hx hb dd_Re_separate_17 hl (k := 1) rfl rfl (by decide) rfl (fun ls hl => ?_)
        refine lv_goto (tgt := 2) hx hb dd_Re_separate_20 (by decide) ?_
        exact ih2 (x1 + 1) (upd t_parts (x1).toNatClampNeg (vp_nar .boolean 0)) _ _ _ hf (lv_sub hl [1, 0] rfl) hP hD hS
  refine lv_iconst (v := 0) hx hb dd_Re_separate_0 (by decide) ?_
  refine lv_istore_n (lv' := [(1, .int 0), (0, .ref a_t)]) hx hb dd_Re_separate_1 rfl hl (by decide) rfl (fun ls hl => ?_)
  exact h2 64 0 t_parts _ _ _ hf (lv_sub hl [1, 0] rfl) hP hD hS
abbrev wd_Re_separator (cI cZ : ClassId) (a_t a_t_arcs a_t_parts a_t_split a_t_weight a_t_least a_t_most a_t_levelNodes a_t_levelWeight a_t_levelArc a_t_levelIn a_t_row a_t_isFree a_t_best a_t_above a_t_ordered : Nat) (t_nodes : Int32) (t_kinds : Int32) (t_levels : Int32) (t_size : Int32) (t_base : Int32) (t_arcs : Nat → Int32) (t_parts : Nat → Int32) (t_split : Nat → Int32) (t_weight : Nat → Int32) : va_W := [(a_t, .inr (9, [.int t_nodes, .int t_kinds, .ref a_t_weight, .ref a_t_arcs, .ref a_t_split, .ref a_t_least, .ref a_t_most, .int t_levels, .ref a_t_levelNodes, .ref a_t_levelWeight, .ref a_t_levelArc, .ref a_t_levelIn, .int t_size, .int t_base, .ref a_t_row, .ref a_t_isFree, .ref a_t_best, .ref a_t_above, .ref a_t_ordered, .ref a_t_parts])), (a_t_arcs, .inl (cI, 1600, .inl t_arcs)), (a_t_parts, .inl (cZ, 40, .inl t_parts)), (a_t_split, .inl (cI, 40, .inl t_split)), (a_t_weight, .inl (cI, 40, .inl t_weight))]
set_option maxRecDepth 100000 in
set_option maxHeartbeats 4000000 in
theorem c_Re_separator (l : Launch) (dC : Nat → ClassId) (dI : Nat → Nat → Nat) (cI cZ : ClassId) (a_t a_t_arcs a_t_parts a_t_split a_t_weight a_t_least a_t_most a_t_levelNodes a_t_levelWeight a_t_levelArc a_t_levelIn a_t_row a_t_isFree a_t_best a_t_above a_t_ordered sz : Nat) (x1 : Int32) (t_nodes : Int32) (t_kinds : Int32) (t_levels : Int32) (t_size : Int32) (t_base : Int32) (t_arcs : Nat → Int32) (t_parts : Nat → Int32) (t_split : Nat → Int32) (t_weight : Nat → Int32) (out : Int32 × (Nat → Int32)) (hf : f_Re_separator x1 t_nodes t_arcs t_parts t_split t_weight = some out) :
    Met l yy_Re_separator wq_Re_separator ({ frames := 2, cells := 0, slots := 0, locals := 47 }) (va_Pc ([.ref a_t, .int x1] : List Value) (pre_ (dC, dI) cI cZ sz (wd_Re_separator cI cZ a_t a_t_arcs a_t_parts a_t_split a_t_weight a_t_least a_t_most a_t_levelNodes a_t_levelWeight a_t_levelArc a_t_levelIn a_t_row a_t_isFree a_t_best a_t_above a_t_ordered t_nodes t_kinds t_levels t_size t_base t_arcs t_parts t_split t_weight))) (va_Qi (fun (r : Int32) (_ : Unit) => r = out.1) (fun _ => pst (dC, dI) (va_A (wd_Re_separator cI cZ a_t a_t_arcs a_t_parts a_t_split a_t_weight a_t_least a_t_most a_t_levelNodes a_t_levelWeight a_t_levelArc a_t_levelIn a_t_row a_t_isFree a_t_best a_t_above a_t_ordered t_nodes t_kinds t_levels t_size t_base t_arcs t_parts t_split t_weight) sz) (wd_Re_separator cI cZ a_t a_t_arcs a_t_parts a_t_split a_t_weight a_t_least a_t_most a_t_levelNodes a_t_levelWeight a_t_levelArc a_t_levelIn a_t_row a_t_isFree a_t_best a_t_above a_t_ordered t_nodes t_kinds t_levels t_size t_base t_arcs out.2 t_split t_weight)) (va_A (wd_Re_separator cI cZ a_t a_t_arcs a_t_parts a_t_split a_t_weight a_t_least a_t_most a_t_levelNodes a_t_levelWeight a_t_levelArc a_t_levelIn a_t_row a_t_isFree a_t_best a_t_above a_t_ordered t_nodes t_kinds t_levels t_size t_base t_arcs t_parts t_split t_weight) sz)) 0 0 (va_A (wd_Re_separator cI cZ a_t a_t_arcs a_t_parts a_t_split a_t_weight a_t_least a_t_most a_t_levelNodes a_t_levelWeight a_t_levelArc a_t_levelIn a_t_row a_t_isFree a_t_best a_t_above a_t_ordered t_nodes t_kinds t_levels t_size t_base t_arcs t_parts t_split t_weight) sz) := by
  refine Met.ofW (cc := cc_Re_separator) (maxL := 4) (ret := (some .int)) (by decide) rfl ?_
  intro p e s m args below meth c s₁ B hml hv
  obtain ⟨rfl, hsz, hP, hK, hD0, hN⟩ := hv
  have hx := B.exec
  have hb := B.bytes
  have hr := B.returns
  have hts := atoms_spec (ws := wq_Re_separator) B.pre
  have hown : s.vm.findClass rr_Re = some m.cls := findClass_of_methodNamed B.named
  have hlocks := B.notSynchronized
  subst hsz
  have hD := hD0.self (sz := s.heap.size)
  generalize hAe : va_A (wd_Re_separator cI cZ a_t a_t_arcs a_t_parts a_t_split a_t_weight a_t_least a_t_most a_t_levelNodes a_t_levelWeight a_t_levelArc a_t_levelIn a_t_row a_t_isFree a_t_best a_t_above a_t_ordered t_nodes t_kinds t_levels t_size t_base t_arcs t_parts t_split t_weight) s.heap.size = A at hD ⊢
  have hA : ∀ q : Nat, s.heap.size ≤ q → A q := fun q h => by rw [← hAe]; exact Or.inr h
  obtain ⟨H, hH⟩ : ∃ H : Heap, H = s.heap := ⟨_, rfl⟩
  have hS : va_S A s.heap H [] := by rw [hH]; exact va_S.rf
  have hl := lv_entry (([.ref a_t, .int x1] : List Value)) (n := 4) (Nat.le_of_ble_eq_true rfl)
  rw [lg_entry_eq]
  generalize (lg_sl (([.ref a_t, .int x1] : List Value)) ++ List.replicate (4 - (lg_sl (([.ref a_t, .int x1] : List Value))).length) Slot.unset).toArray = ls at hl ⊢
  have hl : lv_has ls 4 [(0, .ref a_t), (1, .int x1)] := hl
  rw [← hH] at hP ⊢
  have hP : va_P (dC, dI) clsL (wd_Re_separator cI cZ a_t a_t_arcs a_t_parts a_t_split a_t_weight a_t_least a_t_most a_t_levelNodes a_t_levelWeight a_t_levelArc a_t_levelIn a_t_row a_t_isFree a_t_best a_t_above a_t_ordered t_nodes t_kinds t_levels t_size t_base t_arcs t_parts t_split t_weight) H := hP
  unfold f_Re_separator at hf
  have h8 : ∀ (n8 : Nat) (x2 : Int32) (x3 : Int32) (t_parts : Nat → Int32) (ls : Array Slot) (H : Heap) (locs : List Loc), L_Re_separator_8 x1 t_nodes n8 x2 x3 t_parts = some out → lv_has ls 4 [(0, .ref a_t), (1, .int x1), (2, .int x2), (3, .int x3)] → va_P (dC, dI) clsL (wd_Re_separator cI cZ a_t a_t_arcs a_t_parts a_t_split a_t_weight a_t_least a_t_most a_t_levelNodes a_t_levelWeight a_t_levelArc a_t_levelIn a_t_row a_t_isFree a_t_best a_t_above a_t_ordered t_nodes t_kinds t_levels t_size t_base t_arcs t_parts t_split t_weight) H → va_D A (wd_Re_separator cI cZ a_t a_t_arcs a_t_parts a_t_split a_t_weight a_t_least a_t_most a_t_levelNodes a_t_levelWeight a_t_levelArc a_t_levelIn a_t_row a_t_isFree a_t_best a_t_above a_t_ordered t_nodes t_kinds t_levels t_size t_base t_arcs t_parts t_split t_weight) → va_S A s.heap H locs → W p l e (headSpec wq_Re_separator ({ frames := 2, cells := 0, slots := 0, locals := 47 })).room s m ([.ref a_t, .int x1] : List Value).toArray below meth c H locs 0 0 (MQ below (va_Qi (fun (r : Int32) (_ : Unit) => r = out.1) (fun _ => pst (dC, dI) A (wd_Re_separator cI cZ a_t a_t_arcs a_t_parts a_t_split a_t_weight a_t_least a_t_most a_t_levelNodes a_t_levelWeight a_t_levelArc a_t_levelIn a_t_row a_t_isFree a_t_best a_t_above a_t_ordered t_nodes t_kinds t_levels t_size t_base t_arcs out.2 t_split t_weight)) A) ([.ref a_t, .int x1] : List Value).toArray s 0 0 A) (F0 m 8 ls []) := by
    intro n8
    induction n8 with
    | zero =>
      intro x2 x3 t_parts ls H locs hf
      rw [L_Re_separator_8] at hf
      exact absurd hf (fun h => by cases h)
    | succ n8 ih8 =>
      intro x2 x3 t_parts ls H locs hf hl hP hD hS
      rw [L_Re_separator_8] at hf
      refine lv_iload_n hx hb dd_Re_separator_8 rfl (lv_at hl 3 rfl) ?_
      refine lv_aload_n hx hb dd_Re_separator_9 rfl (lv_at hl 0 rfl) ?_
      refine va_get (D := (dC, dI)) (ci := 9) (v := .int t_nodes) (C := rr_Re) (T := tt_Re) (N := 20) hx hb hts (fun w h => gwc (inn_Re w h)) hown hK hP 0 rfl rfl 0 (by decide) (hts _ (gwc gw_703)) (fun _ h9 => h9) rfl dd_Re_separator_10 ?_
      refine lv_icmp_ge (tgt := 44) hx hb dd_Re_separator_13 (by decide) (fun cc => ?_) (fun cc => ?_)
      · skip
        have hf := if_t cc hf
        refine lv_bipush (v := -2) hx hb dd_Re_separator_44 (by decide) ?_
        have hf := Option.some.inj hf
        subst hf
        exact W.iret hx hb hr (fun t ht hW => ⟨⟨_, (), rfl, rfl, pst_of ht hP hD⟩, hS.F ht⟩) hS.2.2 dd_Re_separator_46
      · skip
        have hf := if_f cc hf
        refine lv_iload_n hx hb dd_Re_separator_16 rfl (lv_at hl 1 rfl) ?_
        refine lv_if_lt (tgt := 44) hx hb dd_Re_separator_17 (by decide) (fun cc => ?_) (fun cc => ?_)
        · skip
          have hf := if_t cc hf
          refine lv_bipush (v := -2) hx hb dd_Re_separator_44 (by decide) ?_
          have hf := Option.some.inj hf
          subst hf
          exact W.iret hx hb hr (fun t ht hW => ⟨⟨_, (), rfl, rfl, pst_of ht hP hD⟩, hS.F ht⟩) hS.2.2 dd_Re_separator_46
        · skip
          have hf := if_f cc hf
          refine lv_aload_n hx hb dd_Re_separator_20 rfl (lv_at hl 0 rfl) ?_
          refine va_get (D := (dC, dI)) (ci := 9) (v := .ref a_t_parts) (C := rr_Re) (T := tt_Re) (N := 20) hx hb hts (fun w h => gwc (inn_Re w h)) hown hK hP 0 rfl rfl 19 (by decide) (hts _ (gwc gw_722)) (fun _ h9 => h9) rfl dd_Re_separator_21 ?_
          refine lv_iload_n hx hb dd_Re_separator_24 rfl (lv_at hl 3 rfl) ?_
          obtain ⟨k25, hf⟩ := ck_some hf
          refine va_zald hx hb hK hP 2 1 rfl rfl (okb_in k25) dd_Re_separator_25 ?_
          refine lv_if_eq (tgt := 38) hx hb dd_Re_separator_26 (by decide) (fun cc => ?_) (fun cc => ?_)
          · skip
            have hf := if_t cc hf
            refine lv_iinc (v := x3 + 1) (lv' := [(3, .int (x3 + 1)), (0, .ref a_t), (1, .int x1), (2, .int x2)]) hx hb dd_Re_separator_38 hl (k := 3) rfl rfl (by decide) rfl (fun ls hl => ?_)
            refine lv_goto (tgt := 8) hx hb dd_Re_separator_41 (by decide) ?_
            exact ih8 x2 (x3 + 1) t_parts _ _ _ hf (lv_sub hl [1, 2, 3, 0] rfl) hP hD hS
          · skip
            have hf := if_f cc hf
            refine lv_iload_n hx hb dd_Re_separator_29 rfl (lv_at hl 2 rfl) ?_
            refine lv_iinc (v := x2 + (-1)) (lv' := [(2, .int (x2 + (-1))), (0, .ref a_t), (1, .int x1), (3, .int x3)]) hx hb dd_Re_separator_30 hl (k := 2) rfl rfl (by decide) rfl (fun ls hl => ?_)
            refine lv_if_ne (tgt := 38) hx hb dd_Re_separator_33 (by decide) (fun cc => ?_) (fun cc => ?_)
            · skip
              have hf := if_f cc hf
              refine lv_iinc (v := x3 + 1) (lv' := [(3, .int (x3 + 1)), (2, .int (x2 + (-1))), (0, .ref a_t), (1, .int x1)]) hx hb dd_Re_separator_38 hl (k := 3) rfl rfl (by decide) rfl (fun ls hl => ?_)
              refine lv_goto (tgt := 8) hx hb dd_Re_separator_41 (by decide) ?_
              exact ih8 (x2 + (-1)) (x3 + 1) t_parts _ _ _ hf (lv_sub hl [2, 3, 1, 0] rfl) hP hD hS
            · skip
              have hf := if_t cc hf
              refine lv_iload_n hx hb dd_Re_separator_36 rfl (lv_at hl 3 rfl) ?_
              have hf := Option.some.inj hf
              subst hf
              exact W.iret hx hb hr (fun t ht hW => ⟨⟨_, (), rfl, rfl, pst_of ht hP hD⟩, hS.F ht⟩) hS.2.2 dd_Re_separator_37
  refine lv_aload_n hx hb dd_Re_separator_0 rfl (lv_at hl 0 rfl) ?_
  obtain ⟨r1, hr1, hf⟩ := bind_some hf
  refine xcallv (rest := []) (wc := (wd_Re_separate cI cZ a_t a_t_arcs a_t_parts a_t_split a_t_weight a_t_least a_t_most a_t_levelNodes a_t_levelWeight a_t_levelArc a_t_levelIn a_t_row a_t_isFree a_t_best a_t_above a_t_ordered t_nodes t_kinds t_levels t_size t_base t_arcs t_parts t_split t_weight)) (w1 := (wd_Re_separate cI cZ a_t a_t_arcs a_t_parts a_t_split a_t_weight a_t_least a_t_most a_t_levelNodes a_t_levelWeight a_t_levelArc a_t_levelIn a_t_row a_t_isFree a_t_best a_t_above a_t_ordered t_nodes t_kinds t_levels t_size t_base t_arcs r1 t_split t_weight)) (wr := []) (ws' := (wd_Re_separator cI cZ a_t a_t_arcs a_t_parts a_t_split a_t_weight a_t_least a_t_most a_t_levelNodes a_t_levelWeight a_t_levelArc a_t_levelIn a_t_row a_t_isFree a_t_best a_t_above a_t_ordered t_nodes t_kinds t_levels t_size t_base t_arcs r1 t_split t_weight)) (va_runV (As := []) ⟨hx, hb, hml, hown, hts⟩ (c_Re_separate l dC dI cI cZ a_t a_t_arcs a_t_parts a_t_split a_t_weight a_t_least a_t_most a_t_levelNodes a_t_levelWeight a_t_levelArc a_t_levelIn a_t_row a_t_isFree a_t_best a_t_above a_t_ordered H.size t_nodes t_kinds t_levels t_size t_base t_arcs t_parts t_split t_weight r1 hr1) (cwV 0 hts (gV gw_934 gw_936 gw_49 gw_61 gw_937) rfl rfl rfl (yd_Re_separate) ⟨Nat.le_of_ble_eq_true rfl, Nat.le_of_ble_eq_true rfl⟩) (mkV hK (hP.sub (ws' := (wd_Re_separate cI cZ a_t a_t_arcs a_t_parts a_t_split a_t_weight a_t_least a_t_most a_t_levelNodes a_t_levelWeight a_t_levelArc a_t_levelIn a_t_row a_t_isFree a_t_best a_t_above a_t_ordered t_nodes t_kinds t_levels t_size t_base t_arcs t_parts t_split t_weight)) [0, 1, 2, 3, 4] rfl) (hD.sub (ws' := (wd_Re_separate cI cZ a_t a_t_arcs a_t_parts a_t_split a_t_weight a_t_least a_t_most a_t_levelNodes a_t_levelWeight a_t_levelArc a_t_levelIn a_t_row a_t_isFree a_t_best a_t_above a_t_ordered t_nodes t_kinds t_levels t_size t_base t_arcs t_parts t_split t_weight)) [0, 1, 2, 3, 4] (by decide) rfl) hN (va_recv hK hP (ci := 9) (q0 := 0) rfl rfl)) rfl rfl hl.1 rfl (lv_room (Nat.le_of_ble_eq_true rfl)) dd_Re_separator_1 ⟨Nat.zero_le _, Nat.zero_le _⟩) hP hD hS hA [0, 1, 2, 3, 4] [] [0, 1, 2, 3, 4] rfl rfl (by decide) (by decide) rfl (by decide) rfl (fun H locs hP hD hS => ?_)
  refine lv_iload_n hx hb dd_Re_separator_4 rfl (lv_at hl 1 rfl) ?_
  refine lv_istore_n (lv' := [(2, .int x1), (0, .ref a_t), (1, .int x1)]) hx hb dd_Re_separator_5 rfl hl (by decide) rfl (fun ls hl => ?_)
  refine lv_iconst (v := 0) hx hb dd_Re_separator_6 (by decide) ?_
  refine lv_istore_n (lv' := [(3, .int 0), (2, .int x1), (0, .ref a_t), (1, .int x1)]) hx hb dd_Re_separator_7 rfl hl (by decide) rfl (fun ls hl => ?_)
  exact h8 64 x1 0 r1 _ _ _ hf (lv_sub hl [2, 3, 1, 0] rfl) hP hD hS
abbrev wd_Re_count (cI cZ : ClassId) (a_t a_t_arcs a_t_levelArc a_t_levelIn a_t_levelNodes a_t_levelWeight a_t_parts a_t_split a_t_weight a_t_least a_t_most a_t_row a_t_isFree a_t_best a_t_above a_t_ordered : Nat) (t_nodes : Int32) (t_kinds : Int32) (t_levels : Int32) (t_size : Int32) (t_base : Int32) (t_arcs : Nat → Int32) (t_levelArc : Nat → Int32) (t_levelIn : Nat → Int32) (t_levelNodes : Nat → Int32) (t_levelWeight : Nat → Int32) (t_parts : Nat → Int32) (t_split : Nat → Int32) (t_weight : Nat → Int32) : va_W := [(a_t, .inr (9, [.int t_nodes, .int t_kinds, .ref a_t_weight, .ref a_t_arcs, .ref a_t_split, .ref a_t_least, .ref a_t_most, .int t_levels, .ref a_t_levelNodes, .ref a_t_levelWeight, .ref a_t_levelArc, .ref a_t_levelIn, .int t_size, .int t_base, .ref a_t_row, .ref a_t_isFree, .ref a_t_best, .ref a_t_above, .ref a_t_ordered, .ref a_t_parts])), (a_t_arcs, .inl (cI, 1600, .inl t_arcs)), (a_t_levelArc, .inl (cI, 65600, .inl t_levelArc)), (a_t_levelIn, .inl (cI, 1640, .inl t_levelIn)), (a_t_levelNodes, .inl (cI, 41, .inl t_levelNodes)), (a_t_levelWeight, .inl (cI, 1640, .inl t_levelWeight)), (a_t_parts, .inl (cZ, 40, .inl t_parts)), (a_t_split, .inl (cI, 40, .inl t_split)), (a_t_weight, .inl (cI, 40, .inl t_weight))]
set_option maxRecDepth 100000 in
set_option maxHeartbeats 4000000 in
theorem c_Re_count (l : Launch) (dC : Nat → ClassId) (dI : Nat → Nat → Nat) (cI cZ : ClassId) (a_t a_t_arcs a_t_levelArc a_t_levelIn a_t_levelNodes a_t_levelWeight a_t_parts a_t_split a_t_weight a_t_least a_t_most a_t_row a_t_isFree a_t_best a_t_above a_t_ordered sz : Nat) (x1 : Int32) (t_nodes : Int32) (t_kinds : Int32) (t_levels : Int32) (t_size : Int32) (t_base : Int32) (t_arcs : Nat → Int32) (t_levelArc : Nat → Int32) (t_levelIn : Nat → Int32) (t_levelNodes : Nat → Int32) (t_levelWeight : Nat → Int32) (t_parts : Nat → Int32) (t_split : Nat → Int32) (t_weight : Nat → Int32) (out : Int32 × Int32 × (Nat → Int32) × (Nat → Int32) × (Nat → Int32) × (Nat → Int32) × (Nat → Int32)) (hf : f_Re_count x1 t_nodes t_kinds t_levels t_arcs t_levelArc t_levelIn t_levelNodes t_levelWeight t_parts t_split t_weight = some out) :
    Met l yy_Re_count wq_Re_count ({ frames := 3, cells := 0, slots := 0, locals := 81 }) (va_Pc ([.ref a_t, .int x1] : List Value) (pre_ (dC, dI) cI cZ sz (wd_Re_count cI cZ a_t a_t_arcs a_t_levelArc a_t_levelIn a_t_levelNodes a_t_levelWeight a_t_parts a_t_split a_t_weight a_t_least a_t_most a_t_row a_t_isFree a_t_best a_t_above a_t_ordered t_nodes t_kinds t_levels t_size t_base t_arcs t_levelArc t_levelIn t_levelNodes t_levelWeight t_parts t_split t_weight))) (va_Qi (fun (r : Int32) (_ : Unit) => r = out.1) (fun _ => pst (dC, dI) (va_A (wd_Re_count cI cZ a_t a_t_arcs a_t_levelArc a_t_levelIn a_t_levelNodes a_t_levelWeight a_t_parts a_t_split a_t_weight a_t_least a_t_most a_t_row a_t_isFree a_t_best a_t_above a_t_ordered t_nodes t_kinds t_levels t_size t_base t_arcs t_levelArc t_levelIn t_levelNodes t_levelWeight t_parts t_split t_weight) sz) (wd_Re_count cI cZ a_t a_t_arcs a_t_levelArc a_t_levelIn a_t_levelNodes a_t_levelWeight a_t_parts a_t_split a_t_weight a_t_least a_t_most a_t_row a_t_isFree a_t_best a_t_above a_t_ordered t_nodes t_kinds out.2.1 t_size t_base t_arcs out.2.2.1 out.2.2.2.1 out.2.2.2.2.1 out.2.2.2.2.2.1 out.2.2.2.2.2.2 t_split t_weight)) (va_A (wd_Re_count cI cZ a_t a_t_arcs a_t_levelArc a_t_levelIn a_t_levelNodes a_t_levelWeight a_t_parts a_t_split a_t_weight a_t_least a_t_most a_t_row a_t_isFree a_t_best a_t_above a_t_ordered t_nodes t_kinds t_levels t_size t_base t_arcs t_levelArc t_levelIn t_levelNodes t_levelWeight t_parts t_split t_weight) sz)) 0 0 (va_A (wd_Re_count cI cZ a_t a_t_arcs a_t_levelArc a_t_levelIn a_t_levelNodes a_t_levelWeight a_t_parts a_t_split a_t_weight a_t_least a_t_most a_t_row a_t_isFree a_t_best a_t_above a_t_ordered t_nodes t_kinds t_levels t_size t_base t_arcs t_levelArc t_levelIn t_levelNodes t_levelWeight t_parts t_split t_weight) sz) := by
  refine Met.ofW (cc := cc_Re_count) (maxL := 5) (ret := (some .int)) (by decide) rfl ?_
  intro p e s m args below meth c s₁ B hml hv
  obtain ⟨rfl, hsz, hP, hK, hD0, hN⟩ := hv
  have hx := B.exec
  have hb := B.bytes
  have hr := B.returns
  have hts := atoms_spec (ws := wq_Re_count) B.pre
  have hown : s.vm.findClass rr_Re = some m.cls := findClass_of_methodNamed B.named
  have hlocks := B.notSynchronized
  subst hsz
  have hD := hD0.self (sz := s.heap.size)
  generalize hAe : va_A (wd_Re_count cI cZ a_t a_t_arcs a_t_levelArc a_t_levelIn a_t_levelNodes a_t_levelWeight a_t_parts a_t_split a_t_weight a_t_least a_t_most a_t_row a_t_isFree a_t_best a_t_above a_t_ordered t_nodes t_kinds t_levels t_size t_base t_arcs t_levelArc t_levelIn t_levelNodes t_levelWeight t_parts t_split t_weight) s.heap.size = A at hD ⊢
  have hA : ∀ q : Nat, s.heap.size ≤ q → A q := fun q h => by rw [← hAe]; exact Or.inr h
  obtain ⟨H, hH⟩ : ∃ H : Heap, H = s.heap := ⟨_, rfl⟩
  have hS : va_S A s.heap H [] := by rw [hH]; exact va_S.rf
  have hl := lv_entry (([.ref a_t, .int x1] : List Value)) (n := 5) (Nat.le_of_ble_eq_true rfl)
  rw [lg_entry_eq]
  generalize (lg_sl (([.ref a_t, .int x1] : List Value)) ++ List.replicate (5 - (lg_sl (([.ref a_t, .int x1] : List Value))).length) Slot.unset).toArray = ls at hl ⊢
  have hl : lv_has ls 5 [(0, .ref a_t), (1, .int x1)] := hl
  rw [← hH] at hP ⊢
  have hP : va_P (dC, dI) clsL (wd_Re_count cI cZ a_t a_t_arcs a_t_levelArc a_t_levelIn a_t_levelNodes a_t_levelWeight a_t_parts a_t_split a_t_weight a_t_least a_t_most a_t_row a_t_isFree a_t_best a_t_above a_t_ordered t_nodes t_kinds t_levels t_size t_base t_arcs t_levelArc t_levelIn t_levelNodes t_levelWeight t_parts t_split t_weight) H := hP
  unfold f_Re_count at hf
  have h52 : ∀ (n52 : Nat) (x2 : Int32) (x3 : Int32) (ls : Array Slot) (H : Heap) (locs : List Loc), L_Re_count_52 t_nodes t_levels t_arcs t_levelArc t_levelIn t_levelNodes t_levelWeight t_parts n52 x2 x3 = some out → lv_has ls 5 [(0, .ref a_t), (2, .int x2), (3, .int x3)] → va_P (dC, dI) clsL (wd_Re_count cI cZ a_t a_t_arcs a_t_levelArc a_t_levelIn a_t_levelNodes a_t_levelWeight a_t_parts a_t_split a_t_weight a_t_least a_t_most a_t_row a_t_isFree a_t_best a_t_above a_t_ordered t_nodes t_kinds t_levels t_size t_base t_arcs t_levelArc t_levelIn t_levelNodes t_levelWeight t_parts t_split t_weight) H → va_D A (wd_Re_count cI cZ a_t a_t_arcs a_t_levelArc a_t_levelIn a_t_levelNodes a_t_levelWeight a_t_parts a_t_split a_t_weight a_t_least a_t_most a_t_row a_t_isFree a_t_best a_t_above a_t_ordered t_nodes t_kinds t_levels t_size t_base t_arcs t_levelArc t_levelIn t_levelNodes t_levelWeight t_parts t_split t_weight) → va_S A s.heap H locs → W p l e (headSpec wq_Re_count ({ frames := 3, cells := 0, slots := 0, locals := 81 })).room s m ([.ref a_t, .int x1] : List Value).toArray below meth c H locs 0 0 (MQ below (va_Qi (fun (r : Int32) (_ : Unit) => r = out.1) (fun _ => pst (dC, dI) A (wd_Re_count cI cZ a_t a_t_arcs a_t_levelArc a_t_levelIn a_t_levelNodes a_t_levelWeight a_t_parts a_t_split a_t_weight a_t_least a_t_most a_t_row a_t_isFree a_t_best a_t_above a_t_ordered t_nodes t_kinds out.2.1 t_size t_base t_arcs out.2.2.1 out.2.2.2.1 out.2.2.2.2.1 out.2.2.2.2.2.1 out.2.2.2.2.2.2 t_split t_weight)) A) ([.ref a_t, .int x1] : List Value).toArray s 0 0 A) (F0 m 52 ls []) := by
    intro n52
    induction n52 with
    | zero =>
      intro x2 x3 ls H locs hf
      rw [L_Re_count_52] at hf
      exact absurd hf (fun h => by cases h)
    | succ n52 ih52 =>
      intro x2 x3 ls H locs hf hl hP hD hS
      rw [L_Re_count_52] at hf
      have h63 : ∀ (n63 : Nat) (x2 : Int32) (x3 : Int32) (x4 : Int32) (ls : Array Slot) (H : Heap) (locs : List Loc), L_Re_count_63 t_arcs (L_Re_count_52 t_nodes t_levels t_arcs t_levelArc t_levelIn t_levelNodes t_levelWeight t_parts n52) n63 x2 x3 x4 = some out → lv_has ls 5 [(0, .ref a_t), (2, .int x2), (3, .int x3), (4, .int x4)] → va_P (dC, dI) clsL (wd_Re_count cI cZ a_t a_t_arcs a_t_levelArc a_t_levelIn a_t_levelNodes a_t_levelWeight a_t_parts a_t_split a_t_weight a_t_least a_t_most a_t_row a_t_isFree a_t_best a_t_above a_t_ordered t_nodes t_kinds t_levels t_size t_base t_arcs t_levelArc t_levelIn t_levelNodes t_levelWeight t_parts t_split t_weight) H → va_D A (wd_Re_count cI cZ a_t a_t_arcs a_t_levelArc a_t_levelIn a_t_levelNodes a_t_levelWeight a_t_parts a_t_split a_t_weight a_t_least a_t_most a_t_row a_t_isFree a_t_best a_t_above a_t_ordered t_nodes t_kinds t_levels t_size t_base t_arcs t_levelArc t_levelIn t_levelNodes t_levelWeight t_parts t_split t_weight) → va_S A s.heap H locs → W p l e (headSpec wq_Re_count ({ frames := 3, cells := 0, slots := 0, locals := 81 })).room s m ([.ref a_t, .int x1] : List Value).toArray below meth c H locs 0 0 (MQ below (va_Qi (fun (r : Int32) (_ : Unit) => r = out.1) (fun _ => pst (dC, dI) A (wd_Re_count cI cZ a_t a_t_arcs a_t_levelArc a_t_levelIn a_t_levelNodes a_t_levelWeight a_t_parts a_t_split a_t_weight a_t_least a_t_most a_t_row a_t_isFree a_t_best a_t_above a_t_ordered t_nodes t_kinds out.2.1 t_size t_base t_arcs out.2.2.1 out.2.2.2.1 out.2.2.2.2.1 out.2.2.2.2.2.1 out.2.2.2.2.2.2 t_split t_weight)) A) ([.ref a_t, .int x1] : List Value).toArray s 0 0 A) (F0 m 63 ls []) := by
        intro n63
        induction n63 with
        | zero =>
          intro x2 x3 x4 ls H locs hf
          rw [L_Re_count_63] at hf
          exact absurd hf (fun h => by cases h)
        | succ n63 ih63 =>
          intro x2 x3 x4 ls H locs hf hl hP hD hS
          rw [L_Re_count_63] at hf
          refine lv_iload hx hb dd_Re_count_63 (lv_at hl 3 rfl) ?_
          refine lv_iload_n hx hb dd_Re_count_65 rfl (lv_at hl 2 rfl) ?_
          refine lv_icmp_ge (tgt := 98) hx hb dd_Re_count_66 (by decide) (fun cc => ?_) (fun cc => ?_)
          · skip
            have hf := if_t cc hf
            refine lv_iinc (v := x3 + 1) (lv' := [(3, .int (x3 + 1)), (0, .ref a_t), (2, .int x2), (4, .int x4)]) hx hb dd_Re_count_98 hl (k := 2) rfl rfl (by decide) rfl (fun ls hl => ?_)
            refine lv_goto (tgt := 52) hx hb dd_Re_count_101 (by decide) ?_
            exact ih52 x2 (x3 + 1) _ _ _ hf (lv_sub hl [1, 2, 0] rfl) hP hD hS
          · skip
            have hf := if_f cc hf
            refine lv_iload_n hx hb dd_Re_count_69 rfl (lv_at hl 1 rfl) ?_
            refine lv_aload_n hx hb dd_Re_count_70 rfl (lv_at hl 0 rfl) ?_
            refine va_get (D := (dC, dI)) (ci := 9) (v := .ref a_t_arcs) (C := rr_Re) (T := tt_Re) (N := 20) hx hb hts (fun w h => gwc (inn_Re w h)) hown hK hP 0 rfl rfl 3 (by decide) (hts _ (gwc gw_706)) (fun _ h9 => h9) rfl dd_Re_count_71 ?_
            refine lv_bipush (v := 40) hx hb dd_Re_count_74 (by decide) ?_
            refine lv_iload_n hx hb dd_Re_count_76 rfl (lv_at hl 2 rfl) ?_
            refine lv_imul hx hb dd_Re_count_77 ?_
            refine lv_iload hx hb dd_Re_count_78 (lv_at hl 3 rfl) ?_
            refine lv_iadd hx hb dd_Re_count_80 ?_
            obtain ⟨k81, hf⟩ := ck_some hf
            refine va_iald hx hb hK hP 1 0 rfl rfl (okb_in k81) dd_Re_count_81 ?_
            refine lv_if_le (tgt := 89) hx hb dd_Re_count_82 (by decide) (fun cc => ?_) (fun cc => ?_)
            · skip
              have hf := if_t cc hf
              refine lv_iconst (v := 0) hx hb dd_Re_count_89 (by decide) ?_
              refine lv_iadd hx hb dd_Re_count_90 ?_
              refine lv_istore_n (lv' := [(2, .int (x2 + 0)), (0, .ref a_t), (3, .int x3), (4, .int x4)]) hx hb dd_Re_count_91 rfl hl (by decide) rfl (fun ls hl => ?_)
              refine lv_iinc (v := x4 + 1) (lv' := [(4, .int (x4 + 1)), (2, .int (x2 + 0)), (0, .ref a_t), (3, .int x3)]) hx hb dd_Re_count_92 hl (k := 3) rfl rfl (by decide) rfl (fun ls hl => ?_)
              refine lv_goto (tgt := 63) hx hb dd_Re_count_95 (by decide) ?_
              exact ih63 (x2 + 0) x3 (x4 + 1) _ _ _ hf (lv_sub hl [2, 1, 3, 0] rfl) hP hD hS
            · skip
              have hf := if_f cc hf
              refine lv_iconst (v := 1) hx hb dd_Re_count_85 (by decide) ?_
              refine lv_goto (tgt := 90) hx hb dd_Re_count_86 (by decide) ?_
              refine lv_iadd hx hb dd_Re_count_90 ?_
              refine lv_istore_n (lv' := [(2, .int (x2 + 1)), (0, .ref a_t), (3, .int x3), (4, .int x4)]) hx hb dd_Re_count_91 rfl hl (by decide) rfl (fun ls hl => ?_)
              refine lv_iinc (v := x4 + 1) (lv' := [(4, .int (x4 + 1)), (2, .int (x2 + 1)), (0, .ref a_t), (3, .int x3)]) hx hb dd_Re_count_92 hl (k := 3) rfl rfl (by decide) rfl (fun ls hl => ?_)
              refine lv_goto (tgt := 63) hx hb dd_Re_count_95 (by decide) ?_
              exact ih63 (x2 + 1) x3 (x4 + 1) _ _ _ hf (lv_sub hl [2, 1, 3, 0] rfl) hP hD hS
      refine lv_iload_n hx hb dd_Re_count_52 rfl (lv_at hl 2 rfl) ?_
      refine lv_aload_n hx hb dd_Re_count_53 rfl (lv_at hl 0 rfl) ?_
      refine va_get (D := (dC, dI)) (ci := 9) (v := .int t_nodes) (C := rr_Re) (T := tt_Re) (N := 20) hx hb hts (fun w h => gwc (inn_Re w h)) hown hK hP 0 rfl rfl 0 (by decide) (hts _ (gwc gw_703)) (fun _ h9 => h9) rfl dd_Re_count_54 ?_
      refine lv_icmp_ge (tgt := 104) hx hb dd_Re_count_57 (by decide) (fun cc => ?_) (fun cc => ?_)
      · skip
        have hf := if_t cc hf
        refine lv_iload_n hx hb dd_Re_count_104 rfl (lv_at hl 1 rfl) ?_
        have hf := Option.some.inj hf
        subst hf
        exact W.iret hx hb hr (fun t ht hW => ⟨⟨_, (), rfl, rfl, pst_of ht hP hD⟩, hS.F ht⟩) hS.2.2 dd_Re_count_105
      · skip
        have hf := if_f cc hf
        refine lv_iconst (v := 0) hx hb dd_Re_count_60 (by decide) ?_
        refine lv_istore (lv' := [(4, .int 0), (0, .ref a_t), (2, .int x2), (3, .int x3)]) hx hb dd_Re_count_61 hl (by decide) rfl (fun ls hl => ?_)
        exact h63 64 x2 x3 0 _ _ _ hf (lv_sub hl [1, 2, 3, 0] rfl) hP hD hS
  have h121 : ∀ (n121 : Nat) (x2 : Int32) (x3 : Int32) (t_parts : Nat → Int32) (ls : Array Slot) (H : Heap) (locs : List Loc), L_Re_count_121 t_nodes t_levels t_levelArc t_levelIn t_levelNodes t_levelWeight n121 x2 x3 t_parts = some out → lv_has ls 5 [(0, .ref a_t), (2, .int x2), (3, .int x3)] → va_P (dC, dI) clsL (wd_Re_count cI cZ a_t a_t_arcs a_t_levelArc a_t_levelIn a_t_levelNodes a_t_levelWeight a_t_parts a_t_split a_t_weight a_t_least a_t_most a_t_row a_t_isFree a_t_best a_t_above a_t_ordered t_nodes t_kinds t_levels t_size t_base t_arcs t_levelArc t_levelIn t_levelNodes t_levelWeight t_parts t_split t_weight) H → va_D A (wd_Re_count cI cZ a_t a_t_arcs a_t_levelArc a_t_levelIn a_t_levelNodes a_t_levelWeight a_t_parts a_t_split a_t_weight a_t_least a_t_most a_t_row a_t_isFree a_t_best a_t_above a_t_ordered t_nodes t_kinds t_levels t_size t_base t_arcs t_levelArc t_levelIn t_levelNodes t_levelWeight t_parts t_split t_weight) → va_S A s.heap H locs → W p l e (headSpec wq_Re_count ({ frames := 3, cells := 0, slots := 0, locals := 81 })).room s m ([.ref a_t, .int x1] : List Value).toArray below meth c H locs 0 0 (MQ below (va_Qi (fun (r : Int32) (_ : Unit) => r = out.1) (fun _ => pst (dC, dI) A (wd_Re_count cI cZ a_t a_t_arcs a_t_levelArc a_t_levelIn a_t_levelNodes a_t_levelWeight a_t_parts a_t_split a_t_weight a_t_least a_t_most a_t_row a_t_isFree a_t_best a_t_above a_t_ordered t_nodes t_kinds out.2.1 t_size t_base t_arcs out.2.2.1 out.2.2.2.1 out.2.2.2.2.1 out.2.2.2.2.2.1 out.2.2.2.2.2.2 t_split t_weight)) A) ([.ref a_t, .int x1] : List Value).toArray s 0 0 A) (F0 m 121 ls []) := by
    intro n121
    induction n121 with
    | zero =>
      intro x2 x3 t_parts ls H locs hf
      rw [L_Re_count_121] at hf
      exact absurd hf (fun h => by cases h)
    | succ n121 ih121 =>
      intro x2 x3 t_parts ls H locs hf hl hP hD hS
      rw [L_Re_count_121] at hf
      refine lv_iload_n hx hb dd_Re_count_121 rfl (lv_at hl 2 rfl) ?_
      refine lv_aload_n hx hb dd_Re_count_122 rfl (lv_at hl 0 rfl) ?_
      refine va_get (D := (dC, dI)) (ci := 9) (v := .int t_nodes) (C := rr_Re) (T := tt_Re) (N := 20) hx hb hts (fun w h => gwc (inn_Re w h)) hown hK hP 0 rfl rfl 0 (by decide) (hts _ (gwc gw_703)) (fun _ h9 => h9) rfl dd_Re_count_123 ?_
      refine lv_icmp_ge (tgt := 152) hx hb dd_Re_count_126 (by decide) (fun cc => ?_) (fun cc => ?_)
      · skip
        have hf := if_t cc hf
        refine lv_iload_n hx hb dd_Re_count_152 rfl (lv_at hl 1 rfl) ?_
        have hf := Option.some.inj hf
        subst hf
        exact W.iret hx hb hr (fun t ht hW => ⟨⟨_, (), rfl, rfl, pst_of ht hP hD⟩, hS.F ht⟩) hS.2.2 dd_Re_count_153
      · skip
        have hf := if_f cc hf
        refine lv_iload_n hx hb dd_Re_count_129 rfl (lv_at hl 1 rfl) ?_
        refine lv_aload_n hx hb dd_Re_count_130 rfl (lv_at hl 0 rfl) ?_
        refine va_get (D := (dC, dI)) (ci := 9) (v := .ref a_t_parts) (C := rr_Re) (T := tt_Re) (N := 20) hx hb hts (fun w h => gwc (inn_Re w h)) hown hK hP 0 rfl rfl 19 (by decide) (hts _ (gwc gw_722)) (fun _ h9 => h9) rfl dd_Re_count_131 ?_
        refine lv_iload_n hx hb dd_Re_count_134 rfl (lv_at hl 2 rfl) ?_
        obtain ⟨k135, hf⟩ := ck_some hf
        refine va_zald hx hb hK hP 6 1 rfl rfl (okb_in k135) dd_Re_count_135 ?_
        refine lv_if_eq (tgt := 143) hx hb dd_Re_count_136 (by decide) (fun cc => ?_) (fun cc => ?_)
        · skip
          have hf := if_t cc hf
          refine lv_iconst (v := 0) hx hb dd_Re_count_143 (by decide) ?_
          refine lv_iadd hx hb dd_Re_count_144 ?_
          refine lv_istore_n (lv' := [(2, .int (x2 + 0)), (0, .ref a_t), (3, .int x3)]) hx hb dd_Re_count_145 rfl hl (by decide) rfl (fun ls hl => ?_)
          refine lv_iinc (v := x3 + 1) (lv' := [(3, .int (x3 + 1)), (2, .int (x2 + 0)), (0, .ref a_t)]) hx hb dd_Re_count_146 hl (k := 2) rfl rfl (by decide) rfl (fun ls hl => ?_)
          refine lv_goto (tgt := 121) hx hb dd_Re_count_149 (by decide) ?_
          exact ih121 (x2 + 0) (x3 + 1) t_parts _ _ _ hf (lv_sub hl [2, 1, 0] rfl) hP hD hS
        · skip
          have hf := if_f cc hf
          refine lv_iconst (v := 1) hx hb dd_Re_count_139 (by decide) ?_
          refine lv_goto (tgt := 144) hx hb dd_Re_count_140 (by decide) ?_
          refine lv_iadd hx hb dd_Re_count_144 ?_
          refine lv_istore_n (lv' := [(2, .int (x2 + 1)), (0, .ref a_t), (3, .int x3)]) hx hb dd_Re_count_145 rfl hl (by decide) rfl (fun ls hl => ?_)
          refine lv_iinc (v := x3 + 1) (lv' := [(3, .int (x3 + 1)), (2, .int (x2 + 1)), (0, .ref a_t)]) hx hb dd_Re_count_146 hl (k := 2) rfl rfl (by decide) rfl (fun ls hl => ?_)
          refine lv_goto (tgt := 121) hx hb dd_Re_count_149 (by decide) ?_
          exact ih121 (x2 + 1) (x3 + 1) t_parts _ _ _ hf (lv_sub hl [2, 1, 0] rfl) hP hD hS
  have h156 : ∀ (n156 : Nat) (x2 : Int32) (x3 : Int32) (ls : Array Slot) (H : Heap) (locs : List Loc), L_Re_count_156 t_nodes t_kinds t_levels t_arcs t_levelArc t_levelIn t_levelNodes t_levelWeight t_parts t_split t_weight n156 x2 x3 = some out → lv_has ls 5 [(0, .ref a_t), (2, .int x2), (3, .int x3)] → va_P (dC, dI) clsL (wd_Re_count cI cZ a_t a_t_arcs a_t_levelArc a_t_levelIn a_t_levelNodes a_t_levelWeight a_t_parts a_t_split a_t_weight a_t_least a_t_most a_t_row a_t_isFree a_t_best a_t_above a_t_ordered t_nodes t_kinds t_levels t_size t_base t_arcs t_levelArc t_levelIn t_levelNodes t_levelWeight t_parts t_split t_weight) H → va_D A (wd_Re_count cI cZ a_t a_t_arcs a_t_levelArc a_t_levelIn a_t_levelNodes a_t_levelWeight a_t_parts a_t_split a_t_weight a_t_least a_t_most a_t_row a_t_isFree a_t_best a_t_above a_t_ordered t_nodes t_kinds t_levels t_size t_base t_arcs t_levelArc t_levelIn t_levelNodes t_levelWeight t_parts t_split t_weight) → va_S A s.heap H locs → W p l e (headSpec wq_Re_count ({ frames := 3, cells := 0, slots := 0, locals := 81 })).room s m ([.ref a_t, .int x1] : List Value).toArray below meth c H locs 0 0 (MQ below (va_Qi (fun (r : Int32) (_ : Unit) => r = out.1) (fun _ => pst (dC, dI) A (wd_Re_count cI cZ a_t a_t_arcs a_t_levelArc a_t_levelIn a_t_levelNodes a_t_levelWeight a_t_parts a_t_split a_t_weight a_t_least a_t_most a_t_row a_t_isFree a_t_best a_t_above a_t_ordered t_nodes t_kinds out.2.1 t_size t_base t_arcs out.2.2.1 out.2.2.2.1 out.2.2.2.2.1 out.2.2.2.2.2.1 out.2.2.2.2.2.2 t_split t_weight)) A) ([.ref a_t, .int x1] : List Value).toArray s 0 0 A) (F0 m 156 ls []) := by
    intro n156
    induction n156 with
    | zero =>
      intro x2 x3 ls H locs hf
      rw [L_Re_count_156] at hf
      exact absurd hf (fun h => by cases h)
    | succ n156 ih156 =>
      intro x2 x3 ls H locs hf hl hP hD hS
      rw [L_Re_count_156] at hf
      refine lv_iload_n hx hb dd_Re_count_156 rfl (lv_at hl 2 rfl) ?_
      refine lv_aload_n hx hb dd_Re_count_157 rfl (lv_at hl 0 rfl) ?_
      refine va_get (D := (dC, dI)) (ci := 9) (v := .int t_nodes) (C := rr_Re) (T := tt_Re) (N := 20) hx hb hts (fun w h => gwc (inn_Re w h)) hown hK hP 0 rfl rfl 0 (by decide) (hts _ (gwc gw_703)) (fun _ h9 => h9) rfl dd_Re_count_158 ?_
      refine lv_icmp_ge (tgt := 179) hx hb dd_Re_count_161 (by decide) (fun cc => ?_) (fun cc => ?_)
      · skip
        have hf := if_t cc hf
        refine lv_iload_n hx hb dd_Re_count_179 rfl (lv_at hl 1 rfl) ?_
        have hf := Option.some.inj hf
        subst hf
        exact W.iret hx hb hr (fun t ht hW => ⟨⟨_, (), rfl, rfl, pst_of ht hP hD⟩, hS.F ht⟩) hS.2.2 dd_Re_count_180
      · skip
        have hf := if_f cc hf
        refine lv_iload_n hx hb dd_Re_count_164 rfl (lv_at hl 1 rfl) ?_
        refine lv_aload_n hx hb dd_Re_count_165 rfl (lv_at hl 0 rfl) ?_
        refine lv_iload_n hx hb dd_Re_count_166 rfl (lv_at hl 2 rfl) ?_
        refine lv_iconst (v := 2) hx hb dd_Re_count_167 (by decide) ?_
        obtain ⟨r168, hr168, hf⟩ := bind_some hf
        refine xcalli (rest := [.int x2]) (wc := (wd_Re_of cI cZ a_t a_t_arcs a_t_split a_t_weight a_t_least a_t_most a_t_levelNodes a_t_levelWeight a_t_levelArc a_t_levelIn a_t_row a_t_isFree a_t_best a_t_above a_t_ordered a_t_parts t_nodes t_kinds t_levels t_size t_base t_arcs t_split t_weight)) (w1 := (wd_Re_of cI cZ a_t a_t_arcs a_t_split a_t_weight a_t_least a_t_most a_t_levelNodes a_t_levelWeight a_t_levelArc a_t_levelIn a_t_row a_t_isFree a_t_best a_t_above a_t_ordered a_t_parts t_nodes t_kinds t_levels t_size t_base t_arcs t_split t_weight)) (wr := [(a_t_levelArc, .inl (cI, 65600, .inl t_levelArc)), (a_t_levelIn, .inl (cI, 1640, .inl t_levelIn)), (a_t_levelNodes, .inl (cI, 41, .inl t_levelNodes)), (a_t_levelWeight, .inl (cI, 1640, .inl t_levelWeight)), (a_t_parts, .inl (cZ, 40, .inl t_parts))]) (ws' := (wd_Re_count cI cZ a_t a_t_arcs a_t_levelArc a_t_levelIn a_t_levelNodes a_t_levelWeight a_t_parts a_t_split a_t_weight a_t_least a_t_most a_t_row a_t_isFree a_t_best a_t_above a_t_ordered t_nodes t_kinds t_levels t_size t_base t_arcs t_levelArc t_levelIn t_levelNodes t_levelWeight t_parts t_split t_weight)) (va_runV (As := [.int x3, .int 2]) ⟨hx, hb, hml, hown, hts⟩ (c_Re_of l dC dI cI cZ a_t a_t_arcs a_t_split a_t_weight a_t_least a_t_most a_t_levelNodes a_t_levelWeight a_t_levelArc a_t_levelIn a_t_row a_t_isFree a_t_best a_t_above a_t_ordered a_t_parts H.size x3 2 t_nodes t_kinds t_levels t_size t_base t_arcs t_split t_weight r168 hr168) (cwV 2 hts (gV gw_946 gw_818 gw_819 gw_61 gw_820) rfl rfl rfl (yd_Re_of) ⟨Nat.le_of_ble_eq_true rfl, Nat.le_of_ble_eq_true rfl⟩) (mkV hK (hP.sub (ws' := (wd_Re_of cI cZ a_t a_t_arcs a_t_split a_t_weight a_t_least a_t_most a_t_levelNodes a_t_levelWeight a_t_levelArc a_t_levelIn a_t_row a_t_isFree a_t_best a_t_above a_t_ordered a_t_parts t_nodes t_kinds t_levels t_size t_base t_arcs t_split t_weight)) [0, 1, 7, 8] rfl) (hD.sub (ws' := (wd_Re_of cI cZ a_t a_t_arcs a_t_split a_t_weight a_t_least a_t_most a_t_levelNodes a_t_levelWeight a_t_levelArc a_t_levelIn a_t_row a_t_isFree a_t_best a_t_above a_t_ordered a_t_parts t_nodes t_kinds t_levels t_size t_base t_arcs t_split t_weight)) [0, 1, 7, 8] (by decide) rfl) hN (va_recv hK hP (ci := 9) (q0 := 0) rfl rfl)) rfl rfl hl.1 rfl (lv_room (Nat.le_of_ble_eq_true rfl)) dd_Re_count_168 ⟨Nat.zero_le _, Nat.zero_le _⟩) hP hD hS hA [0, 1, 7, 8] [2, 3, 4, 5, 6] [5, 6, 0, 1, 2, 3, 4, 7, 8] rfl rfl (by decide) (by decide) rfl (by decide) rfl (fun H locs hP hD hS => ?_)
        refine lv_iadd hx hb dd_Re_count_171 ?_
        refine lv_istore_n (lv' := [(2, .int (x2 + r168)), (0, .ref a_t), (3, .int x3)]) hx hb dd_Re_count_172 rfl hl (by decide) rfl (fun ls hl => ?_)
        refine lv_iinc (v := x3 + 1) (lv' := [(3, .int (x3 + 1)), (2, .int (x2 + r168)), (0, .ref a_t)]) hx hb dd_Re_count_173 hl (k := 2) rfl rfl (by decide) rfl (fun ls hl => ?_)
        refine lv_goto (tgt := 156) hx hb dd_Re_count_176 (by decide) ?_
        exact ih156 (x2 + r168) (x3 + 1) _ _ _ hf (lv_sub hl [2, 1, 0] rfl) hP hD hS
  refine lv_iconst (v := 0) hx hb dd_Re_count_0 (by decide) ?_
  refine lv_istore_n (lv' := [(2, .int 0), (0, .ref a_t), (1, .int x1)]) hx hb dd_Re_count_1 rfl hl (by decide) rfl (fun ls hl => ?_)
  refine lv_iload_n hx hb dd_Re_count_2 rfl (lv_at hl 2 rfl) ?_
  by_cases c3_0 : x1 = 0
  · skip
    refine lv_tableIn (tgt := 40) hx hb dd_Re_count_3 (by rw [c3_0]; decide) (by rw [c3_0]; decide) (by rw [c3_0]; rfl) (by decide) ?_
    have hf := if_t c3_0 hf
    refine lv_aload_n hx hb dd_Re_count_40 rfl (lv_at hl 1 rfl) ?_
    refine va_get (D := (dC, dI)) (ci := 9) (v := .int t_nodes) (C := rr_Re) (T := tt_Re) (N := 20) hx hb hts (fun w h => gwc (inn_Re w h)) hown hK hP 0 rfl rfl 0 (by decide) (hts _ (gwc gw_703)) (fun _ h9 => h9) rfl dd_Re_count_41 ?_
    have hf := Option.some.inj hf
    subst hf
    exact W.iret hx hb hr (fun t ht hW => ⟨⟨_, (), rfl, rfl, pst_of ht hP hD⟩, hS.F ht⟩) hS.2.2 dd_Re_count_44
  · skip
    have hf := if_f c3_0 hf
    by_cases c3_1 : x1 = 1
    · skip
      refine lv_tableIn (tgt := 45) hx hb dd_Re_count_3 (by rw [c3_1]; decide) (by rw [c3_1]; decide) (by rw [c3_1]; rfl) (by decide) ?_
      have hf := if_t c3_1 hf
      refine lv_aload_n hx hb dd_Re_count_45 rfl (lv_at hl 1 rfl) ?_
      refine va_get (D := (dC, dI)) (ci := 9) (v := .int t_kinds) (C := rr_Re) (T := tt_Re) (N := 20) hx hb hts (fun w h => gwc (inn_Re w h)) hown hK hP 0 rfl rfl 1 (by decide) (hts _ (gwc gw_704)) (fun _ h9 => h9) rfl dd_Re_count_46 ?_
      have hf := Option.some.inj hf
      subst hf
      exact W.iret hx hb hr (fun t ht hW => ⟨⟨_, (), rfl, rfl, pst_of ht hP hD⟩, hS.F ht⟩) hS.2.2 dd_Re_count_49
    · skip
      have hf := if_f c3_1 hf
      by_cases c3_2 : x1 = 2
      · skip
        refine lv_tableIn (tgt := 50) hx hb dd_Re_count_3 (by rw [c3_2]; decide) (by rw [c3_2]; decide) (by rw [c3_2]; rfl) (by decide) ?_
        have hf := if_t c3_2 hf
        refine lv_iconst (v := 0) hx hb dd_Re_count_50 (by decide) ?_
        refine lv_istore_n (lv' := [(3, .int 0), (2, .int 0), (0, .ref a_t), (1, .int x1)]) hx hb dd_Re_count_51 rfl hl (by decide) rfl (fun ls hl => ?_)
        exact h52 64 0 0 _ _ _ hf (lv_sub hl [2, 1, 0] rfl) hP hD hS
      · skip
        have hf := if_f c3_2 hf
        by_cases c3_3 : x1 = 3
        · skip
          refine lv_tableIn (tgt := 106) hx hb dd_Re_count_3 (by rw [c3_3]; decide) (by rw [c3_3]; decide) (by rw [c3_3]; rfl) (by decide) ?_
          have hf := if_t c3_3 hf
          refine lv_aload_n hx hb dd_Re_count_106 rfl (lv_at hl 1 rfl) ?_
          obtain ⟨r107, hr107, hf⟩ := bind_some hf
          refine xcallv (rest := []) (wc := (wd_Re_makeLevels cI cZ a_t a_t_arcs a_t_levelArc a_t_levelIn a_t_levelNodes a_t_levelWeight a_t_weight a_t_split a_t_least a_t_most a_t_row a_t_isFree a_t_best a_t_above a_t_ordered a_t_parts t_nodes t_kinds t_levels t_size t_base t_arcs t_levelArc t_levelIn t_levelNodes t_levelWeight t_weight)) (w1 := (wd_Re_makeLevels cI cZ a_t a_t_arcs a_t_levelArc a_t_levelIn a_t_levelNodes a_t_levelWeight a_t_weight a_t_split a_t_least a_t_most a_t_row a_t_isFree a_t_best a_t_above a_t_ordered a_t_parts t_nodes t_kinds r107.1 t_size t_base t_arcs r107.2.1 r107.2.2.1 r107.2.2.2.1 r107.2.2.2.2 t_weight)) (wr := [(a_t_parts, .inl (cZ, 40, .inl t_parts)), (a_t_split, .inl (cI, 40, .inl t_split))]) (ws' := (wd_Re_count cI cZ a_t a_t_arcs a_t_levelArc a_t_levelIn a_t_levelNodes a_t_levelWeight a_t_parts a_t_split a_t_weight a_t_least a_t_most a_t_row a_t_isFree a_t_best a_t_above a_t_ordered t_nodes t_kinds r107.1 t_size t_base t_arcs r107.2.1 r107.2.2.1 r107.2.2.2.1 r107.2.2.2.2 t_parts t_split t_weight)) (va_runV (As := []) ⟨hx, hb, hml, hown, hts⟩ (c_Re_makeLevels l dC dI cI cZ a_t a_t_arcs a_t_levelArc a_t_levelIn a_t_levelNodes a_t_levelWeight a_t_weight a_t_split a_t_least a_t_most a_t_row a_t_isFree a_t_best a_t_above a_t_ordered a_t_parts H.size t_nodes t_kinds t_levels t_size t_base t_arcs t_levelArc t_levelIn t_levelNodes t_levelWeight t_weight r107 hr107) (cwV 0 hts (gV gw_796 gw_798 gw_31 gw_61 gw_799) rfl rfl rfl (yd_Re_makeLevels) ⟨Nat.le_of_ble_eq_true rfl, Nat.le_of_ble_eq_true rfl⟩) (mkV hK (hP.sub (ws' := (wd_Re_makeLevels cI cZ a_t a_t_arcs a_t_levelArc a_t_levelIn a_t_levelNodes a_t_levelWeight a_t_weight a_t_split a_t_least a_t_most a_t_row a_t_isFree a_t_best a_t_above a_t_ordered a_t_parts t_nodes t_kinds t_levels t_size t_base t_arcs t_levelArc t_levelIn t_levelNodes t_levelWeight t_weight)) [0, 1, 2, 3, 4, 5, 8] rfl) (hD.sub (ws' := (wd_Re_makeLevels cI cZ a_t a_t_arcs a_t_levelArc a_t_levelIn a_t_levelNodes a_t_levelWeight a_t_weight a_t_split a_t_least a_t_most a_t_row a_t_isFree a_t_best a_t_above a_t_ordered a_t_parts t_nodes t_kinds t_levels t_size t_base t_arcs t_levelArc t_levelIn t_levelNodes t_levelWeight t_weight)) [0, 1, 2, 3, 4, 5, 8] (by decide) rfl) hN (va_recv hK hP (ci := 9) (q0 := 0) rfl rfl)) rfl rfl hl.1 rfl (lv_room (Nat.le_of_ble_eq_true rfl)) dd_Re_count_107 ⟨Nat.zero_le _, Nat.zero_le _⟩) hP hD hS hA [0, 1, 2, 3, 4, 5, 8] [6, 7] [2, 3, 4, 5, 6, 7, 0, 1, 8] rfl rfl (by decide) (by decide) rfl (by decide) rfl (fun H locs hP hD hS => ?_)
          refine lv_aload_n hx hb dd_Re_count_110 rfl (lv_at hl 1 rfl) ?_
          refine va_get (D := (dC, dI)) (ci := 9) (v := .int r107.1) (C := rr_Re) (T := tt_Re) (N := 20) hx hb hts (fun w h => gwc (inn_Re w h)) hown hK hP 0 rfl rfl 7 (by decide) (hts _ (gwc gw_710)) (fun _ h9 => h9) rfl dd_Re_count_111 ?_
          have hf := Option.some.inj hf
          subst hf
          exact W.iret hx hb hr (fun t ht hW => ⟨⟨_, (), rfl, rfl, pst_of ht hP hD⟩, hS.F ht⟩) hS.2.2 dd_Re_count_114
        · skip
          have hf := if_f c3_3 hf
          by_cases c3_4 : x1 = 4
          · skip
            refine lv_tableIn (tgt := 115) hx hb dd_Re_count_3 (by rw [c3_4]; decide) (by rw [c3_4]; decide) (by rw [c3_4]; rfl) (by decide) ?_
            have hf := if_t c3_4 hf
            refine lv_aload_n hx hb dd_Re_count_115 rfl (lv_at hl 1 rfl) ?_
            obtain ⟨r116, hr116, hf⟩ := bind_some hf
            refine xcallv (rest := []) (wc := (wd_Re_separate cI cZ a_t a_t_arcs a_t_parts a_t_split a_t_weight a_t_least a_t_most a_t_levelNodes a_t_levelWeight a_t_levelArc a_t_levelIn a_t_row a_t_isFree a_t_best a_t_above a_t_ordered t_nodes t_kinds t_levels t_size t_base t_arcs t_parts t_split t_weight)) (w1 := (wd_Re_separate cI cZ a_t a_t_arcs a_t_parts a_t_split a_t_weight a_t_least a_t_most a_t_levelNodes a_t_levelWeight a_t_levelArc a_t_levelIn a_t_row a_t_isFree a_t_best a_t_above a_t_ordered t_nodes t_kinds t_levels t_size t_base t_arcs r116 t_split t_weight)) (wr := [(a_t_levelArc, .inl (cI, 65600, .inl t_levelArc)), (a_t_levelIn, .inl (cI, 1640, .inl t_levelIn)), (a_t_levelNodes, .inl (cI, 41, .inl t_levelNodes)), (a_t_levelWeight, .inl (cI, 1640, .inl t_levelWeight))]) (ws' := (wd_Re_count cI cZ a_t a_t_arcs a_t_levelArc a_t_levelIn a_t_levelNodes a_t_levelWeight a_t_parts a_t_split a_t_weight a_t_least a_t_most a_t_row a_t_isFree a_t_best a_t_above a_t_ordered t_nodes t_kinds t_levels t_size t_base t_arcs t_levelArc t_levelIn t_levelNodes t_levelWeight r116 t_split t_weight)) (va_runV (As := []) ⟨hx, hb, hml, hown, hts⟩ (c_Re_separate l dC dI cI cZ a_t a_t_arcs a_t_parts a_t_split a_t_weight a_t_least a_t_most a_t_levelNodes a_t_levelWeight a_t_levelArc a_t_levelIn a_t_row a_t_isFree a_t_best a_t_above a_t_ordered H.size t_nodes t_kinds t_levels t_size t_base t_arcs t_parts t_split t_weight r116 hr116) (cwV 0 hts (gV gw_934 gw_936 gw_49 gw_61 gw_937) rfl rfl rfl (yd_Re_separate) ⟨Nat.le_of_ble_eq_true rfl, Nat.le_of_ble_eq_true rfl⟩) (mkV hK (hP.sub (ws' := (wd_Re_separate cI cZ a_t a_t_arcs a_t_parts a_t_split a_t_weight a_t_least a_t_most a_t_levelNodes a_t_levelWeight a_t_levelArc a_t_levelIn a_t_row a_t_isFree a_t_best a_t_above a_t_ordered t_nodes t_kinds t_levels t_size t_base t_arcs t_parts t_split t_weight)) [0, 1, 6, 7, 8] rfl) (hD.sub (ws' := (wd_Re_separate cI cZ a_t a_t_arcs a_t_parts a_t_split a_t_weight a_t_least a_t_most a_t_levelNodes a_t_levelWeight a_t_levelArc a_t_levelIn a_t_row a_t_isFree a_t_best a_t_above a_t_ordered t_nodes t_kinds t_levels t_size t_base t_arcs t_parts t_split t_weight)) [0, 1, 6, 7, 8] (by decide) rfl) hN (va_recv hK hP (ci := 9) (q0 := 0) rfl rfl)) rfl rfl hl.1 rfl (lv_room (Nat.le_of_ble_eq_true rfl)) dd_Re_count_116 ⟨Nat.zero_le _, Nat.zero_le _⟩) hP hD hS hA [0, 1, 6, 7, 8] [2, 3, 4, 5] [4, 5, 0, 1, 2, 3, 6, 7, 8] rfl rfl (by decide) (by decide) rfl (by decide) rfl (fun H locs hP hD hS => ?_)
            refine lv_iconst (v := 0) hx hb dd_Re_count_119 (by decide) ?_
            refine lv_istore_n (lv' := [(3, .int 0), (2, .int 0), (0, .ref a_t), (1, .int x1)]) hx hb dd_Re_count_120 rfl hl (by decide) rfl (fun ls hl => ?_)
            exact h121 64 0 0 r116 _ _ _ hf (lv_sub hl [2, 1, 0] rfl) hP hD hS
          · skip
            have hf := if_f c3_4 hf
            by_cases c3_5 : x1 = 5
            · skip
              refine lv_tableIn (tgt := 154) hx hb dd_Re_count_3 (by rw [c3_5]; decide) (by rw [c3_5]; decide) (by rw [c3_5]; rfl) (by decide) ?_
              have hf := if_t c3_5 hf
              refine lv_iconst (v := 0) hx hb dd_Re_count_154 (by decide) ?_
              refine lv_istore_n (lv' := [(3, .int 0), (2, .int 0), (0, .ref a_t), (1, .int x1)]) hx hb dd_Re_count_155 rfl hl (by decide) rfl (fun ls hl => ?_)
              exact h156 64 0 0 _ _ _ hf (lv_sub hl [2, 1, 0] rfl) hP hD hS
            · skip
              have hf := if_f c3_5 hf
              refine lv_tableOut (tgt := 181) hx hb dd_Re_count_3 (sw_out6 c3_0 c3_1 c3_2 c3_3 c3_4 c3_5) (by decide) ?_
              refine lv_iconst (v := -1) hx hb dd_Re_count_181 (by decide) ?_
              have hf := Option.some.inj hf
              subst hf
              exact W.iret hx hb hr (fun t ht hW => ⟨⟨_, (), rfl, rfl, pst_of ht hP hD⟩, hS.F ht⟩) hS.2.2 dd_Re_count_182
