abbrev wd_Re_giveSplit (cI cZ : ClassId) (a_t a_t_row a_t_split a_t_weight a_t_arcs a_t_least a_t_most a_t_levelNodes a_t_levelWeight a_t_levelArc a_t_levelIn a_t_isFree a_t_best a_t_above a_t_ordered a_t_parts : Nat) (t_nodes : Int32) (t_kinds : Int32) (t_levels : Int32) (t_size : Int32) (t_base : Int32) (t_row : Nat → Int32) (t_split : Nat → Int32) : va_W := [(a_t, .inr (9, [.int t_nodes, .int t_kinds, .ref a_t_weight, .ref a_t_arcs, .ref a_t_split, .ref a_t_least, .ref a_t_most, .int t_levels, .ref a_t_levelNodes, .ref a_t_levelWeight, .ref a_t_levelArc, .ref a_t_levelIn, .int t_size, .int t_base, .ref a_t_row, .ref a_t_isFree, .ref a_t_best, .ref a_t_above, .ref a_t_ordered, .ref a_t_parts])), (a_t_row, .inl (cI, 40, .inl t_row)), (a_t_split, .inl (cI, 40, .inl t_split))]
set_option maxRecDepth 100000 in
set_option maxHeartbeats 4000000 in
theorem c_Re_giveSplit (l : Launch) (dC : Nat → ClassId) (dI : Nat → Nat → Nat) (cI cZ : ClassId) (a_t a_t_row a_t_split a_t_weight a_t_arcs a_t_least a_t_most a_t_levelNodes a_t_levelWeight a_t_levelArc a_t_levelIn a_t_isFree a_t_best a_t_above a_t_ordered a_t_parts sz : Nat) (t_nodes : Int32) (t_kinds : Int32) (t_levels : Int32) (t_size : Int32) (t_base : Int32) (t_row : Nat → Int32) (t_split : Nat → Int32) (out : (Nat → Int32)) (hf : f_Re_giveSplit t_nodes t_row t_split = some out) :
    Met l yy_Re_giveSplit wq_Re_giveSplit ({ frames := 0, cells := 0, slots := 0, locals := 0 }) (va_Pc ([.ref a_t] : List Value) (pre_ (dC, dI) cI cZ sz (wd_Re_giveSplit cI cZ a_t a_t_row a_t_split a_t_weight a_t_arcs a_t_least a_t_most a_t_levelNodes a_t_levelWeight a_t_levelArc a_t_levelIn a_t_isFree a_t_best a_t_above a_t_ordered a_t_parts t_nodes t_kinds t_levels t_size t_base t_row t_split))) (va_Qv (fun _ : Unit => True) (fun _ => pst (dC, dI) (va_A (wd_Re_giveSplit cI cZ a_t a_t_row a_t_split a_t_weight a_t_arcs a_t_least a_t_most a_t_levelNodes a_t_levelWeight a_t_levelArc a_t_levelIn a_t_isFree a_t_best a_t_above a_t_ordered a_t_parts t_nodes t_kinds t_levels t_size t_base t_row t_split) sz) (wd_Re_giveSplit cI cZ a_t a_t_row a_t_split a_t_weight a_t_arcs a_t_least a_t_most a_t_levelNodes a_t_levelWeight a_t_levelArc a_t_levelIn a_t_isFree a_t_best a_t_above a_t_ordered a_t_parts t_nodes t_kinds t_levels t_size t_base t_row out)) (va_A (wd_Re_giveSplit cI cZ a_t a_t_row a_t_split a_t_weight a_t_arcs a_t_least a_t_most a_t_levelNodes a_t_levelWeight a_t_levelArc a_t_levelIn a_t_isFree a_t_best a_t_above a_t_ordered a_t_parts t_nodes t_kinds t_levels t_size t_base t_row t_split) sz)) 0 0 (va_A (wd_Re_giveSplit cI cZ a_t a_t_row a_t_split a_t_weight a_t_arcs a_t_least a_t_most a_t_levelNodes a_t_levelWeight a_t_levelArc a_t_levelIn a_t_isFree a_t_best a_t_above a_t_ordered a_t_parts t_nodes t_kinds t_levels t_size t_base t_row t_split) sz) := by
  refine Met.ofW (cc := cc_Re_giveSplit) (maxL := 2) (ret := none) (by decide) rfl ?_
  intro p e s m args below meth c s₁ B hml hv
  obtain ⟨rfl, hsz, hP, hK, hD0, hN⟩ := hv
  have hx := B.exec
  have hb := B.bytes
  have hr := B.returns
  have hts := atoms_spec (ws := wq_Re_giveSplit) B.pre
  have hown : s.vm.findClass rr_Re = some m.cls := findClass_of_methodNamed B.named
  have hlocks := B.notSynchronized
  subst hsz
  have hD := hD0.self (sz := s.heap.size)
  generalize hAe : va_A (wd_Re_giveSplit cI cZ a_t a_t_row a_t_split a_t_weight a_t_arcs a_t_least a_t_most a_t_levelNodes a_t_levelWeight a_t_levelArc a_t_levelIn a_t_isFree a_t_best a_t_above a_t_ordered a_t_parts t_nodes t_kinds t_levels t_size t_base t_row t_split) s.heap.size = A at hD ⊢
  have hA : ∀ q : Nat, s.heap.size ≤ q → A q := fun q h => by rw [← hAe]; exact Or.inr h
  obtain ⟨H, hH⟩ : ∃ H : Heap, H = s.heap := ⟨_, rfl⟩
  have hS : va_S A s.heap H [] := by rw [hH]; exact va_S.rf
  have hl := lv_entry (([.ref a_t] : List Value)) (n := 2) (Nat.le_of_ble_eq_true rfl)
  rw [lg_entry_eq]
  generalize (lg_sl (([.ref a_t] : List Value)) ++ List.replicate (2 - (lg_sl (([.ref a_t] : List Value))).length) Slot.unset).toArray = ls at hl ⊢
  have hl : lv_has ls 2 [(0, .ref a_t)] := hl
  rw [← hH] at hP ⊢
  have hP : va_P (dC, dI) clsL (wd_Re_giveSplit cI cZ a_t a_t_row a_t_split a_t_weight a_t_arcs a_t_least a_t_most a_t_levelNodes a_t_levelWeight a_t_levelArc a_t_levelIn a_t_isFree a_t_best a_t_above a_t_ordered a_t_parts t_nodes t_kinds t_levels t_size t_base t_row t_split) H := hP
  unfold f_Re_giveSplit at hf
  have h2 : ∀ (n2 : Nat) (x1 : Int32) (t_split : Nat → Int32) (ls : Array Slot) (H : Heap) (locs : List Loc), L_Re_giveSplit_2 t_nodes t_row n2 x1 t_split = some out → lv_has ls 2 [(0, .ref a_t), (1, .int x1)] → va_P (dC, dI) clsL (wd_Re_giveSplit cI cZ a_t a_t_row a_t_split a_t_weight a_t_arcs a_t_least a_t_most a_t_levelNodes a_t_levelWeight a_t_levelArc a_t_levelIn a_t_isFree a_t_best a_t_above a_t_ordered a_t_parts t_nodes t_kinds t_levels t_size t_base t_row t_split) H → va_D A (wd_Re_giveSplit cI cZ a_t a_t_row a_t_split a_t_weight a_t_arcs a_t_least a_t_most a_t_levelNodes a_t_levelWeight a_t_levelArc a_t_levelIn a_t_isFree a_t_best a_t_above a_t_ordered a_t_parts t_nodes t_kinds t_levels t_size t_base t_row t_split) → va_S A s.heap H locs → W p l e (headSpec wq_Re_giveSplit ({ frames := 0, cells := 0, slots := 0, locals := 0 })).room s m ([.ref a_t] : List Value).toArray below meth c H locs 0 0 (MQ below (va_Qv (fun _ : Unit => True) (fun _ => pst (dC, dI) A (wd_Re_giveSplit cI cZ a_t a_t_row a_t_split a_t_weight a_t_arcs a_t_least a_t_most a_t_levelNodes a_t_levelWeight a_t_levelArc a_t_levelIn a_t_isFree a_t_best a_t_above a_t_ordered a_t_parts t_nodes t_kinds t_levels t_size t_base t_row out)) A) ([.ref a_t] : List Value).toArray s 0 0 A) (F0 m 2 ls []) := by
    intro n2
    induction n2 with
    | zero =>
      intro x1 t_split ls H locs hf
      rw [L_Re_giveSplit_2] at hf
      exact absurd hf (fun h => by cases h)
    | succ n2 ih2 =>
      intro x1 t_split ls H locs hf hl hP hD hS
      rw [L_Re_giveSplit_2] at hf
      refine lv_iload_n hx hb dd_Re_giveSplit_2 rfl (lv_at hl 1 rfl) ?_
      refine lv_aload_n hx hb dd_Re_giveSplit_3 rfl (lv_at hl 0 rfl) ?_
      refine va_get (D := (dC, dI)) (ci := 9) (v := .int t_nodes) (C := rr_Re) (T := tt_Re) (N := 20) hx hb hts (fun w h => gwc (inn_Re w h)) hown hK hP 0 rfl rfl 0 (by decide) (hts _ (gwc gw_703)) (fun _ h9 => h9) rfl dd_Re_giveSplit_4 ?_
      refine lv_icmp_ge (tgt := 28) hx hb dd_Re_giveSplit_7 (by decide) (fun cc => ?_) (fun cc => ?_)
      · skip
        have hf := if_t cc hf
        have hf := Option.some.inj hf
        subst hf
        exact W.vret hx hb hr (fun t ht hW => ⟨⟨(), rfl, trivial, pst_of ht hP hD⟩, hS.F ht⟩) hS.2.2 dd_Re_giveSplit_28
      · skip
        have hf := if_f cc hf
        refine lv_aload_n hx hb dd_Re_giveSplit_10 rfl (lv_at hl 0 rfl) ?_
        refine va_get (D := (dC, dI)) (ci := 9) (v := .ref a_t_split) (C := rr_Re) (T := tt_Re) (N := 20) hx hb hts (fun w h => gwc (inn_Re w h)) hown hK hP 0 rfl rfl 4 (by decide) (hts _ (gwc gw_707)) (fun _ h9 => h9) rfl dd_Re_giveSplit_11 ?_
        refine lv_iload_n hx hb dd_Re_giveSplit_14 rfl (lv_at hl 1 rfl) ?_
        refine lv_aload_n hx hb dd_Re_giveSplit_15 rfl (lv_at hl 0 rfl) ?_
        refine va_get (D := (dC, dI)) (ci := 9) (v := .ref a_t_row) (C := rr_Re) (T := tt_Re) (N := 20) hx hb hts (fun w h => gwc (inn_Re w h)) hown hK hP 0 rfl rfl 14 (by decide) (hts _ (gwc gw_717)) (fun _ h9 => h9) rfl dd_Re_giveSplit_16 ?_
        refine lv_iload_n hx hb dd_Re_giveSplit_19 rfl (lv_at hl 1 rfl) ?_
        obtain ⟨k20, hf⟩ := ck_some hf
        refine va_iald hx hb hK hP 1 0 rfl rfl (okb_in k20) dd_Re_giveSplit_20 ?_
        obtain ⟨k21, hf⟩ := ck_some hf
        refine va_iast hx hb hK hP hD hS 2 0 rfl rfl (okb_in k21) dd_Re_giveSplit_21 (fun H locs hP hD hS => ?_)
        have hP : va_P (dC, dI) clsL (wd_Re_giveSplit cI cZ a_t a_t_row a_t_split a_t_weight a_t_arcs a_t_least a_t_most a_t_levelNodes a_t_levelWeight a_t_levelArc a_t_levelIn a_t_isFree a_t_best a_t_above a_t_ordered a_t_parts t_nodes t_kinds t_levels t_size t_base t_row (upd t_split (x1).toNatClampNeg (t_row (x1).toNatClampNeg))) H := hP
        have hD : va_D A (wd_Re_giveSplit cI cZ a_t a_t_row a_t_split a_t_weight a_t_arcs a_t_least a_t_most a_t_levelNodes a_t_levelWeight a_t_levelArc a_t_levelIn a_t_isFree a_t_best a_t_above a_t_ordered a_t_parts t_nodes t_kinds t_levels t_size t_base t_row (upd t_split (x1).toNatClampNeg (t_row (x1).toNatClampNeg))) := hD
        refine lv_iinc (v := x1 + 1) (lv' := [(1, .int (x1 + 1)), (0, .ref a_t)]) hx hb dd_Re_giveSplit_22 hl (k := 1) rfl rfl (by decide) rfl (fun ls hl => ?_)
        refine lv_goto (tgt := 2) hx hb dd_Re_giveSplit_25 (by decide) ?_
        exact ih2 (x1 + 1) (upd t_split (x1).toNatClampNeg (t_row (x1).toNatClampNeg)) _ _ _ hf (lv_sub hl [1, 0] rfl) hP hD hS
  refine lv_iconst (v := 0) hx hb dd_Re_giveSplit_0 (by decide) ?_
  refine lv_istore_n (lv' := [(1, .int 0), (0, .ref a_t)]) hx hb dd_Re_giveSplit_1 rfl hl (by decide) rfl (fun ls hl => ?_)
  exact h2 64 0 t_split _ _ _ hf (lv_sub hl [1, 0] rfl) hP hD hS
abbrev wd_Re_of (cI cZ : ClassId) (a_t a_t_arcs a_t_split a_t_weight a_t_least a_t_most a_t_levelNodes a_t_levelWeight a_t_levelArc a_t_levelIn a_t_row a_t_isFree a_t_best a_t_above a_t_ordered a_t_parts : Nat) (t_nodes : Int32) (t_kinds : Int32) (t_levels : Int32) (t_size : Int32) (t_base : Int32) (t_arcs : Nat → Int32) (t_split : Nat → Int32) (t_weight : Nat → Int32) : va_W := [(a_t, .inr (9, [.int t_nodes, .int t_kinds, .ref a_t_weight, .ref a_t_arcs, .ref a_t_split, .ref a_t_least, .ref a_t_most, .int t_levels, .ref a_t_levelNodes, .ref a_t_levelWeight, .ref a_t_levelArc, .ref a_t_levelIn, .int t_size, .int t_base, .ref a_t_row, .ref a_t_isFree, .ref a_t_best, .ref a_t_above, .ref a_t_ordered, .ref a_t_parts])), (a_t_arcs, .inl (cI, 1600, .inl t_arcs)), (a_t_split, .inl (cI, 40, .inl t_split)), (a_t_weight, .inl (cI, 40, .inl t_weight))]
set_option maxRecDepth 100000 in
set_option maxHeartbeats 4000000 in
theorem c_Re_of (l : Launch) (dC : Nat → ClassId) (dI : Nat → Nat → Nat) (cI cZ : ClassId) (a_t a_t_arcs a_t_split a_t_weight a_t_least a_t_most a_t_levelNodes a_t_levelWeight a_t_levelArc a_t_levelIn a_t_row a_t_isFree a_t_best a_t_above a_t_ordered a_t_parts sz : Nat) (x1 : Int32) (x2 : Int32) (t_nodes : Int32) (t_kinds : Int32) (t_levels : Int32) (t_size : Int32) (t_base : Int32) (t_arcs : Nat → Int32) (t_split : Nat → Int32) (t_weight : Nat → Int32) (out : Int32) (hf : f_Re_of x1 x2 t_nodes t_kinds t_arcs t_split t_weight = some out) :
    Met l yy_Re_of wq_Re_of ({ frames := 2, cells := 0, slots := 0, locals := 46 }) (va_Pc ([.ref a_t, .int x1, .int x2] : List Value) (pre_ (dC, dI) cI cZ sz (wd_Re_of cI cZ a_t a_t_arcs a_t_split a_t_weight a_t_least a_t_most a_t_levelNodes a_t_levelWeight a_t_levelArc a_t_levelIn a_t_row a_t_isFree a_t_best a_t_above a_t_ordered a_t_parts t_nodes t_kinds t_levels t_size t_base t_arcs t_split t_weight))) (va_Qi (fun (r : Int32) (_ : Unit) => r = out) (fun _ => pst (dC, dI) (va_A (wd_Re_of cI cZ a_t a_t_arcs a_t_split a_t_weight a_t_least a_t_most a_t_levelNodes a_t_levelWeight a_t_levelArc a_t_levelIn a_t_row a_t_isFree a_t_best a_t_above a_t_ordered a_t_parts t_nodes t_kinds t_levels t_size t_base t_arcs t_split t_weight) sz) (wd_Re_of cI cZ a_t a_t_arcs a_t_split a_t_weight a_t_least a_t_most a_t_levelNodes a_t_levelWeight a_t_levelArc a_t_levelIn a_t_row a_t_isFree a_t_best a_t_above a_t_ordered a_t_parts t_nodes t_kinds t_levels t_size t_base t_arcs t_split t_weight)) (va_A (wd_Re_of cI cZ a_t a_t_arcs a_t_split a_t_weight a_t_least a_t_most a_t_levelNodes a_t_levelWeight a_t_levelArc a_t_levelIn a_t_row a_t_isFree a_t_best a_t_above a_t_ordered a_t_parts t_nodes t_kinds t_levels t_size t_base t_arcs t_split t_weight) sz)) 0 0 (va_A (wd_Re_of cI cZ a_t a_t_arcs a_t_split a_t_weight a_t_least a_t_most a_t_levelNodes a_t_levelWeight a_t_levelArc a_t_levelIn a_t_row a_t_isFree a_t_best a_t_above a_t_ordered a_t_parts t_nodes t_kinds t_levels t_size t_base t_arcs t_split t_weight) sz) := by
  refine Met.ofW (cc := cc_Re_of) (maxL := 7) (ret := (some .int)) (by decide) rfl ?_
  intro p e s m args below meth c s₁ B hml hv
  obtain ⟨rfl, hsz, hP, hK, hD0, hN⟩ := hv
  have hx := B.exec
  have hb := B.bytes
  have hr := B.returns
  have hts := atoms_spec (ws := wq_Re_of) B.pre
  have hown : s.vm.findClass rr_Re = some m.cls := findClass_of_methodNamed B.named
  have hlocks := B.notSynchronized
  subst hsz
  have hD := hD0.self (sz := s.heap.size)
  generalize hAe : va_A (wd_Re_of cI cZ a_t a_t_arcs a_t_split a_t_weight a_t_least a_t_most a_t_levelNodes a_t_levelWeight a_t_levelArc a_t_levelIn a_t_row a_t_isFree a_t_best a_t_above a_t_ordered a_t_parts t_nodes t_kinds t_levels t_size t_base t_arcs t_split t_weight) s.heap.size = A at hD ⊢
  have hA : ∀ q : Nat, s.heap.size ≤ q → A q := fun q h => by rw [← hAe]; exact Or.inr h
  obtain ⟨H, hH⟩ : ∃ H : Heap, H = s.heap := ⟨_, rfl⟩
  have hS : va_S A s.heap H [] := by rw [hH]; exact va_S.rf
  have hl := lv_entry (([.ref a_t, .int x1, .int x2] : List Value)) (n := 7) (Nat.le_of_ble_eq_true rfl)
  rw [lg_entry_eq]
  generalize (lg_sl (([.ref a_t, .int x1, .int x2] : List Value)) ++ List.replicate (7 - (lg_sl (([.ref a_t, .int x1, .int x2] : List Value))).length) Slot.unset).toArray = ls at hl ⊢
  have hl : lv_has ls 7 [(0, .ref a_t), (1, .int x1), (2, .int x2)] := hl
  rw [← hH] at hP ⊢
  have hP : va_P (dC, dI) clsL (wd_Re_of cI cZ a_t a_t_arcs a_t_split a_t_weight a_t_least a_t_most a_t_levelNodes a_t_levelWeight a_t_levelArc a_t_levelIn a_t_row a_t_isFree a_t_best a_t_above a_t_ordered a_t_parts t_nodes t_kinds t_levels t_size t_base t_arcs t_split t_weight) H := hP
  unfold f_Re_of at hf
  have h50 : ∀ (n50 : Nat) (x3 : Int32) (x4 : Int32) (ls : Array Slot) (H : Heap) (locs : List Loc), L_Re_of_50 x1 x2 t_nodes t_kinds t_arcs t_split n50 x3 x4 = some out → lv_has ls 7 [(0, .ref a_t), (1, .int x1), (2, .int x2), (3, .int x3), (4, .int x4)] → va_P (dC, dI) clsL (wd_Re_of cI cZ a_t a_t_arcs a_t_split a_t_weight a_t_least a_t_most a_t_levelNodes a_t_levelWeight a_t_levelArc a_t_levelIn a_t_row a_t_isFree a_t_best a_t_above a_t_ordered a_t_parts t_nodes t_kinds t_levels t_size t_base t_arcs t_split t_weight) H → va_D A (wd_Re_of cI cZ a_t a_t_arcs a_t_split a_t_weight a_t_least a_t_most a_t_levelNodes a_t_levelWeight a_t_levelArc a_t_levelIn a_t_row a_t_isFree a_t_best a_t_above a_t_ordered a_t_parts t_nodes t_kinds t_levels t_size t_base t_arcs t_split t_weight) → va_S A s.heap H locs → W p l e (headSpec wq_Re_of ({ frames := 2, cells := 0, slots := 0, locals := 46 })).room s m ([.ref a_t, .int x1, .int x2] : List Value).toArray below meth c H locs 0 0 (MQ below (va_Qi (fun (r : Int32) (_ : Unit) => r = out) (fun _ => pst (dC, dI) A (wd_Re_of cI cZ a_t a_t_arcs a_t_split a_t_weight a_t_least a_t_most a_t_levelNodes a_t_levelWeight a_t_levelArc a_t_levelIn a_t_row a_t_isFree a_t_best a_t_above a_t_ordered a_t_parts t_nodes t_kinds t_levels t_size t_base t_arcs t_split t_weight)) A) ([.ref a_t, .int x1, .int x2] : List Value).toArray s 0 0 A) (F0 m 50 ls []) := by
    intro n50
    induction n50 with
    | zero =>
      intro x3 x4 ls H locs hf
      rw [L_Re_of_50] at hf
      exact absurd hf (fun h => by cases h)
    | succ n50 ih50 =>
      intro x3 x4 ls H locs hf hl hP hD hS
      rw [L_Re_of_50] at hf
      have h65 : ∀ (n65 : Nat) (x3 : Int32) (x4 : Int32) (x5 : Int32) (x6 : Int32) (ls : Array Slot) (H : Heap) (locs : List Loc), L_Re_of_65 x1 t_nodes t_arcs t_split (L_Re_of_50 x1 x2 t_nodes t_kinds t_arcs t_split n50) n65 x3 x4 x5 x6 = some out → lv_has ls 7 [(0, .ref a_t), (1, .int x1), (2, .int x2), (3, .int x3), (4, .int x4), (5, .int x5), (6, .int x6)] → va_P (dC, dI) clsL (wd_Re_of cI cZ a_t a_t_arcs a_t_split a_t_weight a_t_least a_t_most a_t_levelNodes a_t_levelWeight a_t_levelArc a_t_levelIn a_t_row a_t_isFree a_t_best a_t_above a_t_ordered a_t_parts t_nodes t_kinds t_levels t_size t_base t_arcs t_split t_weight) H → va_D A (wd_Re_of cI cZ a_t a_t_arcs a_t_split a_t_weight a_t_least a_t_most a_t_levelNodes a_t_levelWeight a_t_levelArc a_t_levelIn a_t_row a_t_isFree a_t_best a_t_above a_t_ordered a_t_parts t_nodes t_kinds t_levels t_size t_base t_arcs t_split t_weight) → va_S A s.heap H locs → W p l e (headSpec wq_Re_of ({ frames := 2, cells := 0, slots := 0, locals := 46 })).room s m ([.ref a_t, .int x1, .int x2] : List Value).toArray below meth c H locs 0 0 (MQ below (va_Qi (fun (r : Int32) (_ : Unit) => r = out) (fun _ => pst (dC, dI) A (wd_Re_of cI cZ a_t a_t_arcs a_t_split a_t_weight a_t_least a_t_most a_t_levelNodes a_t_levelWeight a_t_levelArc a_t_levelIn a_t_row a_t_isFree a_t_best a_t_above a_t_ordered a_t_parts t_nodes t_kinds t_levels t_size t_base t_arcs t_split t_weight)) A) ([.ref a_t, .int x1, .int x2] : List Value).toArray s 0 0 A) (F0 m 65 ls []) := by
        intro n65
        induction n65 with
        | zero =>
          intro x3 x4 x5 x6 ls H locs hf
          rw [L_Re_of_65] at hf
          exact absurd hf (fun h => by cases h)
        | succ n65 ih65 =>
          intro x3 x4 x5 x6 ls H locs hf hl hP hD hS
          rw [L_Re_of_65] at hf
          have h117 : ∀ (x3 : Int32) (x4 : Int32) (x5 : Int32) (ls : Array Slot) (H : Heap) (locs : List Loc), J_Re_of_117 x1 t_split (L_Re_of_50 x1 x2 t_nodes t_kinds t_arcs t_split n50) x3 x4 x5 = some out → lv_has ls 7 [(0, .ref a_t), (1, .int x1), (2, .int x2), (3, .int x3), (4, .int x4), (5, .int x5)] → va_P (dC, dI) clsL (wd_Re_of cI cZ a_t a_t_arcs a_t_split a_t_weight a_t_least a_t_most a_t_levelNodes a_t_levelWeight a_t_levelArc a_t_levelIn a_t_row a_t_isFree a_t_best a_t_above a_t_ordered a_t_parts t_nodes t_kinds t_levels t_size t_base t_arcs t_split t_weight) H → va_D A (wd_Re_of cI cZ a_t a_t_arcs a_t_split a_t_weight a_t_least a_t_most a_t_levelNodes a_t_levelWeight a_t_levelArc a_t_levelIn a_t_row a_t_isFree a_t_best a_t_above a_t_ordered a_t_parts t_nodes t_kinds t_levels t_size t_base t_arcs t_split t_weight) → va_S A s.heap H locs → W p l e (headSpec wq_Re_of ({ frames := 2, cells := 0, slots := 0, locals := 46 })).room s m ([.ref a_t, .int x1, .int x2] : List Value).toArray below meth c H locs 0 0 (MQ below (va_Qi (fun (r : Int32) (_ : Unit) => r = out) (fun _ => pst (dC, dI) A (wd_Re_of cI cZ a_t a_t_arcs a_t_split a_t_weight a_t_least a_t_most a_t_levelNodes a_t_levelWeight a_t_levelArc a_t_levelIn a_t_row a_t_isFree a_t_best a_t_above a_t_ordered a_t_parts t_nodes t_kinds t_levels t_size t_base t_arcs t_split t_weight)) A) ([.ref a_t, .int x1, .int x2] : List Value).toArray s 0 0 A) (F0 m 117 ls []) := by
            intro x3 x4 x5 ls H locs hf hl hP hD hS
            unfold J_Re_of_117 at hf
            refine lv_iload_n hx hb dd_Re_of_117 rfl (lv_at hl 3 rfl) ?_
            refine lv_iload hx hb dd_Re_of_118 (lv_at hl 5 rfl) ?_
            refine lv_if_eq (tgt := 138) hx hb dd_Re_of_120 (by decide) (fun cc => ?_) (fun cc => ?_)
            · skip
              have hf := if_t cc hf
              refine lv_iconst (v := 0) hx hb dd_Re_of_138 (by decide) ?_
              refine lv_iadd hx hb dd_Re_of_139 ?_
              refine lv_istore_n (lv' := [(3, .int (x3 + 0)), (0, .ref a_t), (1, .int x1), (2, .int x2), (4, .int x4), (5, .int x5)]) hx hb dd_Re_of_140 rfl hl (by decide) rfl (fun ls hl => ?_)
              refine lv_iinc (v := x4 + 1) (lv' := [(4, .int (x4 + 1)), (3, .int (x3 + 0)), (0, .ref a_t), (1, .int x1), (2, .int x2), (5, .int x5)]) hx hb dd_Re_of_141 hl (k := 4) rfl rfl (by decide) rfl (fun ls hl => ?_)
              refine lv_goto (tgt := 50) hx hb dd_Re_of_144 (by decide) ?_
              exact ih50 (x3 + 0) (x4 + 1) _ _ _ hf (lv_sub hl [2, 3, 4, 1, 0] rfl) hP hD hS
            · skip
              have hf := if_f cc hf
              refine lv_iload hx hb dd_Re_of_123 (lv_at hl 4 rfl) ?_
              refine lv_aload_n hx hb dd_Re_of_125 rfl (lv_at hl 0 rfl) ?_
              refine va_get (D := (dC, dI)) (ci := 9) (v := .ref a_t_split) (C := rr_Re) (T := tt_Re) (N := 20) hx hb hts (fun w h => gwc (inn_Re w h)) hown hK hP 0 rfl rfl 4 (by decide) (hts _ (gwc gw_707)) (fun _ h9 => h9) rfl dd_Re_of_126 ?_
              refine lv_iload_n hx hb dd_Re_of_129 rfl (lv_at hl 1 rfl) ?_
              obtain ⟨k130, hf⟩ := ck_some hf
              refine va_iald hx hb hK hP 2 0 rfl rfl (okb_in k130) dd_Re_of_130 ?_
              refine lv_icmp_eq (tgt := 138) hx hb dd_Re_of_131 (by decide) (fun cc => ?_) (fun cc => ?_)
              · skip
                have hf := if_t cc hf
                refine lv_iconst (v := 0) hx hb dd_Re_of_138 (by decide) ?_
                refine lv_iadd hx hb dd_Re_of_139 ?_
                refine lv_istore_n (lv' := [(3, .int (x3 + 0)), (0, .ref a_t), (1, .int x1), (2, .int x2), (4, .int x4), (5, .int x5)]) hx hb dd_Re_of_140 rfl hl (by decide) rfl (fun ls hl => ?_)
                refine lv_iinc (v := x4 + 1) (lv' := [(4, .int (x4 + 1)), (3, .int (x3 + 0)), (0, .ref a_t), (1, .int x1), (2, .int x2), (5, .int x5)]) hx hb dd_Re_of_141 hl (k := 4) rfl rfl (by decide) rfl (fun ls hl => ?_)
                refine lv_goto (tgt := 50) hx hb dd_Re_of_144 (by decide) ?_
                exact ih50 (x3 + 0) (x4 + 1) _ _ _ hf (lv_sub hl [2, 3, 4, 1, 0] rfl) hP hD hS
              · skip
                have hf := if_f cc hf
                refine lv_iconst (v := 1) hx hb dd_Re_of_134 (by decide) ?_
                refine lv_goto (tgt := 139) hx hb dd_Re_of_135 (by decide) ?_
                refine lv_iadd hx hb dd_Re_of_139 ?_
                refine lv_istore_n (lv' := [(3, .int (x3 + 1)), (0, .ref a_t), (1, .int x1), (2, .int x2), (4, .int x4), (5, .int x5)]) hx hb dd_Re_of_140 rfl hl (by decide) rfl (fun ls hl => ?_)
                refine lv_iinc (v := x4 + 1) (lv' := [(4, .int (x4 + 1)), (3, .int (x3 + 1)), (0, .ref a_t), (1, .int x1), (2, .int x2), (5, .int x5)]) hx hb dd_Re_of_141 hl (k := 4) rfl rfl (by decide) rfl (fun ls hl => ?_)
                refine lv_goto (tgt := 50) hx hb dd_Re_of_144 (by decide) ?_
                exact ih50 (x3 + 1) (x4 + 1) _ _ _ hf (lv_sub hl [2, 3, 4, 1, 0] rfl) hP hD hS
          refine lv_iload hx hb dd_Re_of_65 (lv_at hl 6 rfl) ?_
          refine lv_aload_n hx hb dd_Re_of_67 rfl (lv_at hl 0 rfl) ?_
          refine va_get (D := (dC, dI)) (ci := 9) (v := .int t_nodes) (C := rr_Re) (T := tt_Re) (N := 20) hx hb hts (fun w h => gwc (inn_Re w h)) hown hK hP 0 rfl rfl 0 (by decide) (hts _ (gwc gw_703)) (fun _ h9 => h9) rfl dd_Re_of_68 ?_
          refine lv_icmp_ge (tgt := 117) hx hb dd_Re_of_71 (by decide) (fun cc => ?_) (fun cc => ?_)
          · skip
            have hf := if_t cc hf
            exact h117 x3 x4 x5 _ _ _ hf (lv_sub hl [0, 1, 2, 3, 4, 5] rfl) hP hD hS
          · skip
            have hf := if_f cc hf
            refine lv_iload hx hb dd_Re_of_74 (lv_at hl 5 rfl) ?_
            refine lv_aload_n hx hb dd_Re_of_76 rfl (lv_at hl 0 rfl) ?_
            refine va_get (D := (dC, dI)) (ci := 9) (v := .ref a_t_arcs) (C := rr_Re) (T := tt_Re) (N := 20) hx hb hts (fun w h => gwc (inn_Re w h)) hown hK hP 0 rfl rfl 3 (by decide) (hts _ (gwc gw_706)) (fun _ h9 => h9) rfl dd_Re_of_77 ?_
            refine lv_bipush (v := 40) hx hb dd_Re_of_80 (by decide) ?_
            refine lv_iload_n hx hb dd_Re_of_82 rfl (lv_at hl 1 rfl) ?_
            refine lv_imul hx hb dd_Re_of_83 ?_
            refine lv_iload hx hb dd_Re_of_84 (lv_at hl 6 rfl) ?_
            refine lv_iadd hx hb dd_Re_of_86 ?_
            obtain ⟨k87, hf⟩ := ck_some hf
            refine va_iald hx hb hK hP 1 0 rfl rfl (okb_in k87) dd_Re_of_87 ?_
            refine lv_if_le (tgt := 107) hx hb dd_Re_of_88 (by decide) (fun cc => ?_) (fun cc => ?_)
            · skip
              have hf := if_t cc hf
              refine lv_iconst (v := 0) hx hb dd_Re_of_107 (by decide) ?_
              refine lv_ior hx hb dd_Re_of_108 ?_
              refine lv_istore (lv' := [(5, .int (x5 ||| 0)), (0, .ref a_t), (1, .int x1), (2, .int x2), (3, .int x3), (4, .int x4), (6, .int x6)]) hx hb dd_Re_of_109 hl (by decide) rfl (fun ls hl => ?_)
              refine lv_iinc (v := x6 + 1) (lv' := [(6, .int (x6 + 1)), (5, .int (x5 ||| 0)), (0, .ref a_t), (1, .int x1), (2, .int x2), (3, .int x3), (4, .int x4)]) hx hb dd_Re_of_111 hl (k := 6) rfl rfl (by decide) rfl (fun ls hl => ?_)
              refine lv_goto (tgt := 65) hx hb dd_Re_of_114 (by decide) ?_
              exact ih65 x3 x4 (x5 ||| 0) (x6 + 1) _ _ _ hf (lv_sub hl [2, 3, 4, 5, 6, 1, 0] rfl) hP hD hS
            · skip
              have hf := if_f cc hf
              refine lv_aload_n hx hb dd_Re_of_91 rfl (lv_at hl 0 rfl) ?_
              refine va_get (D := (dC, dI)) (ci := 9) (v := .ref a_t_split) (C := rr_Re) (T := tt_Re) (N := 20) hx hb hts (fun w h => gwc (inn_Re w h)) hown hK hP 0 rfl rfl 4 (by decide) (hts _ (gwc gw_707)) (fun _ h9 => h9) rfl dd_Re_of_92 ?_
              refine lv_iload hx hb dd_Re_of_95 (lv_at hl 6 rfl) ?_
              obtain ⟨k97, hf⟩ := ck_some hf
              refine va_iald hx hb hK hP 2 0 rfl rfl (okb_in k97) dd_Re_of_97 ?_
              refine lv_iload hx hb dd_Re_of_98 (lv_at hl 4 rfl) ?_
              refine lv_icmp_ne (tgt := 107) hx hb dd_Re_of_100 (by decide) (fun cc => ?_) (fun cc => ?_)
              · skip
                have hf := if_f cc hf
                refine lv_iconst (v := 0) hx hb dd_Re_of_107 (by decide) ?_
                refine lv_ior hx hb dd_Re_of_108 ?_
                refine lv_istore (lv' := [(5, .int (x5 ||| 0)), (0, .ref a_t), (1, .int x1), (2, .int x2), (3, .int x3), (4, .int x4), (6, .int x6)]) hx hb dd_Re_of_109 hl (by decide) rfl (fun ls hl => ?_)
                refine lv_iinc (v := x6 + 1) (lv' := [(6, .int (x6 + 1)), (5, .int (x5 ||| 0)), (0, .ref a_t), (1, .int x1), (2, .int x2), (3, .int x3), (4, .int x4)]) hx hb dd_Re_of_111 hl (k := 6) rfl rfl (by decide) rfl (fun ls hl => ?_)
                refine lv_goto (tgt := 65) hx hb dd_Re_of_114 (by decide) ?_
                exact ih65 x3 x4 (x5 ||| 0) (x6 + 1) _ _ _ hf (lv_sub hl [2, 3, 4, 5, 6, 1, 0] rfl) hP hD hS
              · skip
                have hf := if_t cc hf
                refine lv_iconst (v := 1) hx hb dd_Re_of_103 (by decide) ?_
                refine lv_goto (tgt := 108) hx hb dd_Re_of_104 (by decide) ?_
                refine lv_ior hx hb dd_Re_of_108 ?_
                refine lv_istore (lv' := [(5, .int (x5 ||| 1)), (0, .ref a_t), (1, .int x1), (2, .int x2), (3, .int x3), (4, .int x4), (6, .int x6)]) hx hb dd_Re_of_109 hl (by decide) rfl (fun ls hl => ?_)
                refine lv_iinc (v := x6 + 1) (lv' := [(6, .int (x6 + 1)), (5, .int (x5 ||| 1)), (0, .ref a_t), (1, .int x1), (2, .int x2), (3, .int x3), (4, .int x4)]) hx hb dd_Re_of_111 hl (k := 6) rfl rfl (by decide) rfl (fun ls hl => ?_)
                refine lv_goto (tgt := 65) hx hb dd_Re_of_114 (by decide) ?_
                exact ih65 x3 x4 (x5 ||| 1) (x6 + 1) _ _ _ hf (lv_sub hl [2, 3, 4, 5, 6, 1, 0] rfl) hP hD hS
      have h153 : ∀ (n153 : Nat) (x3 : Int32) (x4 : Int32) (x5 : Int32) (ls : Array Slot) (H : Heap) (locs : List Loc), L_Re_of_153 x1 x2 t_nodes t_arcs n153 x3 x4 x5 = some out → lv_has ls 7 [(0, .ref a_t), (1, .int x1), (2, .int x2), (3, .int x3), (4, .int x4), (5, .int x5)] → va_P (dC, dI) clsL (wd_Re_of cI cZ a_t a_t_arcs a_t_split a_t_weight a_t_least a_t_most a_t_levelNodes a_t_levelWeight a_t_levelArc a_t_levelIn a_t_row a_t_isFree a_t_best a_t_above a_t_ordered a_t_parts t_nodes t_kinds t_levels t_size t_base t_arcs t_split t_weight) H → va_D A (wd_Re_of cI cZ a_t a_t_arcs a_t_split a_t_weight a_t_least a_t_most a_t_levelNodes a_t_levelWeight a_t_levelArc a_t_levelIn a_t_row a_t_isFree a_t_best a_t_above a_t_ordered a_t_parts t_nodes t_kinds t_levels t_size t_base t_arcs t_split t_weight) → va_S A s.heap H locs → W p l e (headSpec wq_Re_of ({ frames := 2, cells := 0, slots := 0, locals := 46 })).room s m ([.ref a_t, .int x1, .int x2] : List Value).toArray below meth c H locs 0 0 (MQ below (va_Qi (fun (r : Int32) (_ : Unit) => r = out) (fun _ => pst (dC, dI) A (wd_Re_of cI cZ a_t a_t_arcs a_t_split a_t_weight a_t_least a_t_most a_t_levelNodes a_t_levelWeight a_t_levelArc a_t_levelIn a_t_row a_t_isFree a_t_best a_t_above a_t_ordered a_t_parts t_nodes t_kinds t_levels t_size t_base t_arcs t_split t_weight)) A) ([.ref a_t, .int x1, .int x2] : List Value).toArray s 0 0 A) (F0 m 153 ls []) := by
        intro n153
        induction n153 with
        | zero =>
          intro x3 x4 x5 ls H locs hf
          rw [L_Re_of_153] at hf
          exact absurd hf (fun h => by cases h)
        | succ n153 ih153 =>
          intro x3 x4 x5 ls H locs hf hl hP hD hS
          rw [L_Re_of_153] at hf
          have h193 : ∀ (x3 : Int32) (x4 : Int32) (ls : Array Slot) (H : Heap) (locs : List Loc), J_Re_of_193 x2 x3 x4 = some out → lv_has ls 7 [(2, .int x2), (3, .int x3), (4, .int x4)] → va_P (dC, dI) clsL (wd_Re_of cI cZ a_t a_t_arcs a_t_split a_t_weight a_t_least a_t_most a_t_levelNodes a_t_levelWeight a_t_levelArc a_t_levelIn a_t_row a_t_isFree a_t_best a_t_above a_t_ordered a_t_parts t_nodes t_kinds t_levels t_size t_base t_arcs t_split t_weight) H → va_D A (wd_Re_of cI cZ a_t a_t_arcs a_t_split a_t_weight a_t_least a_t_most a_t_levelNodes a_t_levelWeight a_t_levelArc a_t_levelIn a_t_row a_t_isFree a_t_best a_t_above a_t_ordered a_t_parts t_nodes t_kinds t_levels t_size t_base t_arcs t_split t_weight) → va_S A s.heap H locs → W p l e (headSpec wq_Re_of ({ frames := 2, cells := 0, slots := 0, locals := 46 })).room s m ([.ref a_t, .int x1, .int x2] : List Value).toArray below meth c H locs 0 0 (MQ below (va_Qi (fun (r : Int32) (_ : Unit) => r = out) (fun _ => pst (dC, dI) A (wd_Re_of cI cZ a_t a_t_arcs a_t_split a_t_weight a_t_least a_t_most a_t_levelNodes a_t_levelWeight a_t_levelArc a_t_levelIn a_t_row a_t_isFree a_t_best a_t_above a_t_ordered a_t_parts t_nodes t_kinds t_levels t_size t_base t_arcs t_split t_weight)) A) ([.ref a_t, .int x1, .int x2] : List Value).toArray s 0 0 A) (F0 m 193 ls []) := by
            intro x3 x4 ls H locs hf hl hP hD hS
            unfold J_Re_of_193 at hf
            refine lv_iload_n hx hb dd_Re_of_193 rfl (lv_at hl 0 rfl) ?_
            refine lv_iconst (v := 2) hx hb dd_Re_of_194 (by decide) ?_
            refine lv_icmp_ne (tgt := 202) hx hb dd_Re_of_195 (by decide) (fun cc => ?_) (fun cc => ?_)
            · skip
              have hf := if_f cc hf
              refine lv_iload hx hb dd_Re_of_202 (lv_at hl 2 rfl) ?_
              have hf := Option.some.inj hf
              subst hf
              exact W.iret hx hb hr (fun t ht hW => ⟨⟨_, (), rfl, rfl, pst_of ht hP hD⟩, hS.F ht⟩) hS.2.2 dd_Re_of_204
            · skip
              have hf := if_t cc hf
              refine lv_iload_n hx hb dd_Re_of_198 rfl (lv_at hl 1 rfl) ?_
              refine lv_goto (tgt := 204) hx hb dd_Re_of_199 (by decide) ?_
              have hf := Option.some.inj hf
              subst hf
              exact W.iret hx hb hr (fun t ht hW => ⟨⟨_, (), rfl, rfl, pst_of ht hP hD⟩, hS.F ht⟩) hS.2.2 dd_Re_of_204
          refine lv_iload hx hb dd_Re_of_153 (lv_at hl 5 rfl) ?_
          refine lv_aload_n hx hb dd_Re_of_155 rfl (lv_at hl 0 rfl) ?_
          refine va_get (D := (dC, dI)) (ci := 9) (v := .int t_nodes) (C := rr_Re) (T := tt_Re) (N := 20) hx hb hts (fun w h => gwc (inn_Re w h)) hown hK hP 0 rfl rfl 0 (by decide) (hts _ (gwc gw_703)) (fun _ h9 => h9) rfl dd_Re_of_156 ?_
          refine lv_icmp_ge (tgt := 193) hx hb dd_Re_of_159 (by decide) (fun cc => ?_) (fun cc => ?_)
          · skip
            have hf := if_t cc hf
            exact h193 x3 x4 _ _ _ hf (lv_sub hl [2, 3, 4] rfl) hP hD hS
          · skip
            have hf := if_f cc hf
            refine lv_iload hx hb dd_Re_of_162 (lv_at hl 4 rfl) ?_
            refine lv_aload_n hx hb dd_Re_of_164 rfl (lv_at hl 0 rfl) ?_
            refine va_get (D := (dC, dI)) (ci := 9) (v := .ref a_t_arcs) (C := rr_Re) (T := tt_Re) (N := 20) hx hb hts (fun w h => gwc (inn_Re w h)) hown hK hP 0 rfl rfl 3 (by decide) (hts _ (gwc gw_706)) (fun _ h9 => h9) rfl dd_Re_of_165 ?_
            refine lv_bipush (v := 40) hx hb dd_Re_of_168 (by decide) ?_
            refine lv_iload_n hx hb dd_Re_of_170 rfl (lv_at hl 1 rfl) ?_
            refine lv_imul hx hb dd_Re_of_171 ?_
            refine lv_iload hx hb dd_Re_of_172 (lv_at hl 5 rfl) ?_
            refine lv_iadd hx hb dd_Re_of_174 ?_
            obtain ⟨k175, hf⟩ := ck_some hf
            refine va_iald hx hb hK hP 1 0 rfl rfl (okb_in k175) dd_Re_of_175 ?_
            refine lv_if_le (tgt := 183) hx hb dd_Re_of_176 (by decide) (fun cc => ?_) (fun cc => ?_)
            · skip
              have hf := if_t cc hf
              refine lv_iconst (v := 0) hx hb dd_Re_of_183 (by decide) ?_
              refine lv_iadd hx hb dd_Re_of_184 ?_
              refine lv_istore (lv' := [(4, .int (x4 + 0)), (0, .ref a_t), (1, .int x1), (2, .int x2), (3, .int x3), (5, .int x5)]) hx hb dd_Re_of_185 hl (by decide) rfl (fun ls hl => ?_)
              refine lv_iinc (v := x5 + 1) (lv' := [(5, .int (x5 + 1)), (4, .int (x4 + 0)), (0, .ref a_t), (1, .int x1), (2, .int x2), (3, .int x3)]) hx hb dd_Re_of_187 hl (k := 5) rfl rfl (by decide) rfl (fun ls hl => ?_)
              refine lv_goto (tgt := 153) hx hb dd_Re_of_190 (by decide) ?_
              exact ih153 x3 (x4 + 0) (x5 + 1) _ _ _ hf (lv_sub hl [2, 3, 4, 5, 1, 0] rfl) hP hD hS
            · skip
              have hf := if_f cc hf
              refine lv_iconst (v := 1) hx hb dd_Re_of_179 (by decide) ?_
              refine lv_goto (tgt := 184) hx hb dd_Re_of_180 (by decide) ?_
              refine lv_iadd hx hb dd_Re_of_184 ?_
              refine lv_istore (lv' := [(4, .int (x4 + 1)), (0, .ref a_t), (1, .int x1), (2, .int x2), (3, .int x3), (5, .int x5)]) hx hb dd_Re_of_185 hl (by decide) rfl (fun ls hl => ?_)
              refine lv_iinc (v := x5 + 1) (lv' := [(5, .int (x5 + 1)), (4, .int (x4 + 1)), (0, .ref a_t), (1, .int x1), (2, .int x2), (3, .int x3)]) hx hb dd_Re_of_187 hl (k := 5) rfl rfl (by decide) rfl (fun ls hl => ?_)
              refine lv_goto (tgt := 153) hx hb dd_Re_of_190 (by decide) ?_
              exact ih153 x3 (x4 + 1) (x5 + 1) _ _ _ hf (lv_sub hl [2, 3, 4, 5, 1, 0] rfl) hP hD hS
      refine lv_iload hx hb dd_Re_of_50 (lv_at hl 4 rfl) ?_
      refine lv_aload_n hx hb dd_Re_of_52 rfl (lv_at hl 0 rfl) ?_
      refine va_get (D := (dC, dI)) (ci := 9) (v := .int t_kinds) (C := rr_Re) (T := tt_Re) (N := 20) hx hb hts (fun w h => gwc (inn_Re w h)) hown hK hP 0 rfl rfl 1 (by decide) (hts _ (gwc gw_704)) (fun _ h9 => h9) rfl dd_Re_of_53 ?_
      refine lv_icmp_ge (tgt := 147) hx hb dd_Re_of_56 (by decide) (fun cc => ?_) (fun cc => ?_)
      · skip
        have hf := if_t cc hf
        refine lv_iconst (v := 0) hx hb dd_Re_of_147 (by decide) ?_
        refine lv_istore (lv' := [(4, .int 0), (0, .ref a_t), (1, .int x1), (2, .int x2), (3, .int x3)]) hx hb dd_Re_of_148 hl (by decide) rfl (fun ls hl => ?_)
        refine lv_iconst (v := 0) hx hb dd_Re_of_150 (by decide) ?_
        refine lv_istore (lv' := [(5, .int 0), (4, .int 0), (0, .ref a_t), (1, .int x1), (2, .int x2), (3, .int x3)]) hx hb dd_Re_of_151 hl (by decide) rfl (fun ls hl => ?_)
        exact h153 64 x3 0 0 _ _ _ hf (lv_sub hl [2, 3, 4, 5, 1, 0] rfl) hP hD hS
      · skip
        have hf := if_f cc hf
        refine lv_iconst (v := 0) hx hb dd_Re_of_59 (by decide) ?_
        refine lv_istore (lv' := [(5, .int 0), (0, .ref a_t), (1, .int x1), (2, .int x2), (3, .int x3), (4, .int x4)]) hx hb dd_Re_of_60 hl (by decide) rfl (fun ls hl => ?_)
        refine lv_iconst (v := 0) hx hb dd_Re_of_62 (by decide) ?_
        refine lv_istore (lv' := [(6, .int 0), (5, .int 0), (0, .ref a_t), (1, .int x1), (2, .int x2), (3, .int x3), (4, .int x4)]) hx hb dd_Re_of_63 hl (by decide) rfl (fun ls hl => ?_)
        exact h65 64 x3 x4 0 0 _ _ _ hf (lv_sub hl [2, 3, 4, 5, 6, 1, 0] rfl) hP hD hS
  refine lv_aload_n hx hb dd_Re_of_0 rfl (lv_at hl 0 rfl) ?_
  refine lv_iload_n hx hb dd_Re_of_1 rfl (lv_at hl 1 rfl) ?_
  obtain ⟨r2, hr2, hf⟩ := bind_some hf
  refine xcalli (rest := []) (wc := (wd_Re_isNode cI cZ a_t a_t_weight a_t_arcs a_t_split a_t_least a_t_most a_t_levelNodes a_t_levelWeight a_t_levelArc a_t_levelIn a_t_row a_t_isFree a_t_best a_t_above a_t_ordered a_t_parts t_nodes t_kinds t_levels t_size t_base)) (w1 := (wd_Re_isNode cI cZ a_t a_t_weight a_t_arcs a_t_split a_t_least a_t_most a_t_levelNodes a_t_levelWeight a_t_levelArc a_t_levelIn a_t_row a_t_isFree a_t_best a_t_above a_t_ordered a_t_parts t_nodes t_kinds t_levels t_size t_base)) (wr := [(a_t_arcs, .inl (cI, 1600, .inl t_arcs)), (a_t_split, .inl (cI, 40, .inl t_split)), (a_t_weight, .inl (cI, 40, .inl t_weight))]) (ws' := (wd_Re_of cI cZ a_t a_t_arcs a_t_split a_t_weight a_t_least a_t_most a_t_levelNodes a_t_levelWeight a_t_levelArc a_t_levelIn a_t_row a_t_isFree a_t_best a_t_above a_t_ordered a_t_parts t_nodes t_kinds t_levels t_size t_base t_arcs t_split t_weight)) (va_runV (As := [.int x1]) ⟨hx, hb, hml, hown, hts⟩ (c_Re_isNode l dC dI cI cZ a_t a_t_weight a_t_arcs a_t_split a_t_least a_t_most a_t_levelNodes a_t_levelWeight a_t_levelArc a_t_levelIn a_t_row a_t_isFree a_t_best a_t_above a_t_ordered a_t_parts H.size x1 t_nodes t_kinds t_levels t_size t_base r2 hr2) (cwV 1 hts (gV gw_773 gw_775 gw_29 gw_61 gw_776) rfl rfl rfl (yd_Re_isNode) ⟨Nat.le_of_ble_eq_true rfl, Nat.le_of_ble_eq_true rfl⟩) (mkV hK (hP.sub (ws' := (wd_Re_isNode cI cZ a_t a_t_weight a_t_arcs a_t_split a_t_least a_t_most a_t_levelNodes a_t_levelWeight a_t_levelArc a_t_levelIn a_t_row a_t_isFree a_t_best a_t_above a_t_ordered a_t_parts t_nodes t_kinds t_levels t_size t_base)) [0] rfl) (hD.sub (ws' := (wd_Re_isNode cI cZ a_t a_t_weight a_t_arcs a_t_split a_t_least a_t_most a_t_levelNodes a_t_levelWeight a_t_levelArc a_t_levelIn a_t_row a_t_isFree a_t_best a_t_above a_t_ordered a_t_parts t_nodes t_kinds t_levels t_size t_base)) [0] (by decide) rfl) hN (va_recv hK hP (ci := 9) (q0 := 0) rfl rfl)) rfl rfl hl.1 rfl (lv_room (Nat.le_of_ble_eq_true rfl)) dd_Re_of_2 ⟨Nat.zero_le _, Nat.zero_le _⟩) hP hD hS hA [0] [1, 2, 3] [3, 0, 1, 2] rfl rfl (by decide) (by decide) rfl (by decide) rfl (fun H locs hP hD hS => ?_)
  refine lv_if_eq (tgt := 20) hx hb dd_Re_of_5 (by decide) (fun cc => ?_) (fun cc => ?_)
  · skip
    have hf := if_t cc hf
    refine lv_iconst (v := -1) hx hb dd_Re_of_20 (by decide) ?_
    have hf := Option.some.inj hf
    subst hf
    exact W.iret hx hb hr (fun t ht hW => ⟨⟨_, (), rfl, rfl, pst_of ht hP hD⟩, hS.F ht⟩) hS.2.2 dd_Re_of_21
  · skip
    have hf := if_f cc hf
    refine lv_iload_n hx hb dd_Re_of_8 rfl (lv_at hl 2 rfl) ?_
    refine lv_i2l hx hb dd_Re_of_9 rfl ?_
    refine lv_lconst (v := 0) hx hb dd_Re_of_10 (by decide) ?_
    refine lv_ldc2 (v := 3) hx hb hown (hts _ (gwc gw_821)) dd_Re_of_11 ?_
    obtain ⟨r14, hr14, hf⟩ := bind_some hf
    refine xcalli (rest := []) (wc := (wd_Re_isIn cI cZ)) (w1 := (wd_Re_isIn cI cZ)) (wr := [(a_t, .inr (9, [.int t_nodes, .int t_kinds, .ref a_t_weight, .ref a_t_arcs, .ref a_t_split, .ref a_t_least, .ref a_t_most, .int t_levels, .ref a_t_levelNodes, .ref a_t_levelWeight, .ref a_t_levelArc, .ref a_t_levelIn, .int t_size, .int t_base, .ref a_t_row, .ref a_t_isFree, .ref a_t_best, .ref a_t_above, .ref a_t_ordered, .ref a_t_parts])), (a_t_arcs, .inl (cI, 1600, .inl t_arcs)), (a_t_split, .inl (cI, 40, .inl t_split)), (a_t_weight, .inl (cI, 40, .inl t_weight))]) (ws' := (wd_Re_of cI cZ a_t a_t_arcs a_t_split a_t_weight a_t_least a_t_most a_t_levelNodes a_t_levelWeight a_t_levelArc a_t_levelIn a_t_row a_t_isFree a_t_best a_t_above a_t_ordered a_t_parts t_nodes t_kinds t_levels t_size t_base t_arcs t_split t_weight)) (va_runS (As := [.long x2.toInt64, .long (0 : Int64), .long (3 : Int64)]) ⟨hx, hb, hml, hown, hts⟩ (c_Re_isIn l dC dI cI cZ H.size x2.toInt64 (0 : Int64) (3 : Int64) r14 hr14) (va_cwS 3 hts (gS gw_699 gw_700 gw_61 gw_701) rfl rfl rfl (yd_Re_isIn).2 ⟨Nat.le_of_ble_eq_true rfl, Nat.le_of_ble_eq_true rfl⟩) (mkS hK (hP.sub (ws' := (wd_Re_isIn cI cZ)) [] rfl) (hD.sub (ws' := (wd_Re_isIn cI cZ)) [] (by decide) rfl) hN) rfl rfl hl.1 rfl (lv_room (Nat.le_of_ble_eq_true rfl)) dd_Re_of_14 ⟨Nat.zero_le _, Nat.zero_le _⟩) hP hD hS hA [] [0, 1, 2, 3] [0, 1, 2, 3] rfl rfl (by decide) (by decide) rfl (by decide) rfl (fun H locs hP hD hS => ?_)
    refine lv_if_ne (tgt := 22) hx hb dd_Re_of_17 (by decide) (fun cc => ?_) (fun cc => ?_)
    · skip
      have hf := if_f cc hf
      refine lv_iload_n hx hb dd_Re_of_22 rfl (lv_at hl 2 rfl) ?_
      refine lv_if_ne (tgt := 33) hx hb dd_Re_of_23 (by decide) (fun cc => ?_) (fun cc => ?_)
      · skip
        have hf := if_f cc hf
        refine lv_iload_n hx hb dd_Re_of_33 rfl (lv_at hl 2 rfl) ?_
        refine lv_iconst (v := 1) hx hb dd_Re_of_34 (by decide) ?_
        refine lv_icmp_ne (tgt := 45) hx hb dd_Re_of_35 (by decide) (fun cc => ?_) (fun cc => ?_)
        · skip
          have hf := if_f cc hf
          refine lv_iconst (v := 0) hx hb dd_Re_of_45 (by decide) ?_
          refine lv_istore_n (lv' := [(3, .int 0), (0, .ref a_t), (1, .int x1), (2, .int x2)]) hx hb dd_Re_of_46 rfl hl (by decide) rfl (fun ls hl => ?_)
          refine lv_iconst (v := 0) hx hb dd_Re_of_47 (by decide) ?_
          refine lv_istore (lv' := [(4, .int 0), (3, .int 0), (0, .ref a_t), (1, .int x1), (2, .int x2)]) hx hb dd_Re_of_48 hl (by decide) rfl (fun ls hl => ?_)
          exact h50 64 0 0 _ _ _ hf (lv_sub hl [2, 3, 4, 1, 0] rfl) hP hD hS
        · skip
          have hf := if_t cc hf
          refine lv_aload_n hx hb dd_Re_of_38 rfl (lv_at hl 0 rfl) ?_
          refine va_get (D := (dC, dI)) (ci := 9) (v := .ref a_t_split) (C := rr_Re) (T := tt_Re) (N := 20) hx hb hts (fun w h => gwc (inn_Re w h)) hown hK hP 0 rfl rfl 4 (by decide) (hts _ (gwc gw_707)) (fun _ h9 => h9) rfl dd_Re_of_39 ?_
          refine lv_iload_n hx hb dd_Re_of_42 rfl (lv_at hl 1 rfl) ?_
          obtain ⟨k43, hf⟩ := ck_some hf
          refine va_iald hx hb hK hP 2 0 rfl rfl (okb_in k43) dd_Re_of_43 ?_
          have hf := Option.some.inj hf
          subst hf
          exact W.iret hx hb hr (fun t ht hW => ⟨⟨_, (), rfl, rfl, pst_of ht hP hD⟩, hS.F ht⟩) hS.2.2 dd_Re_of_44
      · skip
        have hf := if_t cc hf
        refine lv_aload_n hx hb dd_Re_of_26 rfl (lv_at hl 0 rfl) ?_
        refine va_get (D := (dC, dI)) (ci := 9) (v := .ref a_t_weight) (C := rr_Re) (T := tt_Re) (N := 20) hx hb hts (fun w h => gwc (inn_Re w h)) hown hK hP 0 rfl rfl 2 (by decide) (hts _ (gwc gw_705)) (fun _ h9 => h9) rfl dd_Re_of_27 ?_
        refine lv_iload_n hx hb dd_Re_of_30 rfl (lv_at hl 1 rfl) ?_
        obtain ⟨k31, hf⟩ := ck_some hf
        refine va_iald hx hb hK hP 3 0 rfl rfl (okb_in k31) dd_Re_of_31 ?_
        have hf := Option.some.inj hf
        subst hf
        exact W.iret hx hb hr (fun t ht hW => ⟨⟨_, (), rfl, rfl, pst_of ht hP hD⟩, hS.F ht⟩) hS.2.2 dd_Re_of_32
    · skip
      have hf := if_t cc hf
      refine lv_iconst (v := -1) hx hb dd_Re_of_20 (by decide) ?_
      have hf := Option.some.inj hf
      subst hf
      exact W.iret hx hb hr (fun t ht hW => ⟨⟨_, (), rfl, rfl, pst_of ht hP hD⟩, hS.F ht⟩) hS.2.2 dd_Re_of_21
abbrev wd_Re_between (cI cZ : ClassId) (a_t a_t_arcs a_t_weight a_t_split a_t_least a_t_most a_t_levelNodes a_t_levelWeight a_t_levelArc a_t_levelIn a_t_row a_t_isFree a_t_best a_t_above a_t_ordered a_t_parts : Nat) (t_nodes : Int32) (t_kinds : Int32) (t_levels : Int32) (t_size : Int32) (t_base : Int32) (t_arcs : Nat → Int32) : va_W := [(a_t, .inr (9, [.int t_nodes, .int t_kinds, .ref a_t_weight, .ref a_t_arcs, .ref a_t_split, .ref a_t_least, .ref a_t_most, .int t_levels, .ref a_t_levelNodes, .ref a_t_levelWeight, .ref a_t_levelArc, .ref a_t_levelIn, .int t_size, .int t_base, .ref a_t_row, .ref a_t_isFree, .ref a_t_best, .ref a_t_above, .ref a_t_ordered, .ref a_t_parts])), (a_t_arcs, .inl (cI, 1600, .inl t_arcs))]
set_option maxRecDepth 100000 in
set_option maxHeartbeats 4000000 in
theorem c_Re_between (l : Launch) (dC : Nat → ClassId) (dI : Nat → Nat → Nat) (cI cZ : ClassId) (a_t a_t_arcs a_t_weight a_t_split a_t_least a_t_most a_t_levelNodes a_t_levelWeight a_t_levelArc a_t_levelIn a_t_row a_t_isFree a_t_best a_t_above a_t_ordered a_t_parts sz : Nat) (x1 : Int32) (x2 : Int32) (t_nodes : Int32) (t_kinds : Int32) (t_levels : Int32) (t_size : Int32) (t_base : Int32) (t_arcs : Nat → Int32) (out : Int32) (hf : f_Re_between x1 x2 t_nodes t_arcs = some out) :
    Met l yy_Re_between wq_Re_between ({ frames := 2, cells := 0, slots := 0, locals := 46 }) (va_Pc ([.ref a_t, .int x1, .int x2] : List Value) (pre_ (dC, dI) cI cZ sz (wd_Re_between cI cZ a_t a_t_arcs a_t_weight a_t_split a_t_least a_t_most a_t_levelNodes a_t_levelWeight a_t_levelArc a_t_levelIn a_t_row a_t_isFree a_t_best a_t_above a_t_ordered a_t_parts t_nodes t_kinds t_levels t_size t_base t_arcs))) (va_Qi (fun (r : Int32) (_ : Unit) => r = out) (fun _ => pst (dC, dI) (va_A (wd_Re_between cI cZ a_t a_t_arcs a_t_weight a_t_split a_t_least a_t_most a_t_levelNodes a_t_levelWeight a_t_levelArc a_t_levelIn a_t_row a_t_isFree a_t_best a_t_above a_t_ordered a_t_parts t_nodes t_kinds t_levels t_size t_base t_arcs) sz) (wd_Re_between cI cZ a_t a_t_arcs a_t_weight a_t_split a_t_least a_t_most a_t_levelNodes a_t_levelWeight a_t_levelArc a_t_levelIn a_t_row a_t_isFree a_t_best a_t_above a_t_ordered a_t_parts t_nodes t_kinds t_levels t_size t_base t_arcs)) (va_A (wd_Re_between cI cZ a_t a_t_arcs a_t_weight a_t_split a_t_least a_t_most a_t_levelNodes a_t_levelWeight a_t_levelArc a_t_levelIn a_t_row a_t_isFree a_t_best a_t_above a_t_ordered a_t_parts t_nodes t_kinds t_levels t_size t_base t_arcs) sz)) 0 0 (va_A (wd_Re_between cI cZ a_t a_t_arcs a_t_weight a_t_split a_t_least a_t_most a_t_levelNodes a_t_levelWeight a_t_levelArc a_t_levelIn a_t_row a_t_isFree a_t_best a_t_above a_t_ordered a_t_parts t_nodes t_kinds t_levels t_size t_base t_arcs) sz) := by
  refine Met.ofW (cc := cc_Re_between) (maxL := 3) (ret := (some .int)) (by decide) rfl ?_
  intro p e s m args below meth c s₁ B hml hv
  obtain ⟨rfl, hsz, hP, hK, hD0, hN⟩ := hv
  have hx := B.exec
  have hb := B.bytes
  have hr := B.returns
  have hts := atoms_spec (ws := wq_Re_between) B.pre
  have hown : s.vm.findClass rr_Re = some m.cls := findClass_of_methodNamed B.named
  have hlocks := B.notSynchronized
  subst hsz
  have hD := hD0.self (sz := s.heap.size)
  generalize hAe : va_A (wd_Re_between cI cZ a_t a_t_arcs a_t_weight a_t_split a_t_least a_t_most a_t_levelNodes a_t_levelWeight a_t_levelArc a_t_levelIn a_t_row a_t_isFree a_t_best a_t_above a_t_ordered a_t_parts t_nodes t_kinds t_levels t_size t_base t_arcs) s.heap.size = A at hD ⊢
  have hA : ∀ q : Nat, s.heap.size ≤ q → A q := fun q h => by rw [← hAe]; exact Or.inr h
  obtain ⟨H, hH⟩ : ∃ H : Heap, H = s.heap := ⟨_, rfl⟩
  have hS : va_S A s.heap H [] := by rw [hH]; exact va_S.rf
  have hl := lv_entry (([.ref a_t, .int x1, .int x2] : List Value)) (n := 3) (Nat.le_of_ble_eq_true rfl)
  rw [lg_entry_eq]
  generalize (lg_sl (([.ref a_t, .int x1, .int x2] : List Value)) ++ List.replicate (3 - (lg_sl (([.ref a_t, .int x1, .int x2] : List Value))).length) Slot.unset).toArray = ls at hl ⊢
  have hl : lv_has ls 3 [(0, .ref a_t), (1, .int x1), (2, .int x2)] := hl
  rw [← hH] at hP ⊢
  have hP : va_P (dC, dI) clsL (wd_Re_between cI cZ a_t a_t_arcs a_t_weight a_t_split a_t_least a_t_most a_t_levelNodes a_t_levelWeight a_t_levelArc a_t_levelIn a_t_row a_t_isFree a_t_best a_t_above a_t_ordered a_t_parts t_nodes t_kinds t_levels t_size t_base t_arcs) H := hP
  unfold f_Re_between at hf
  refine lv_aload_n hx hb dd_Re_between_0 rfl (lv_at hl 0 rfl) ?_
  refine lv_iload_n hx hb dd_Re_between_1 rfl (lv_at hl 1 rfl) ?_
  obtain ⟨r2, hr2, hf⟩ := bind_some hf
  refine xcalli (rest := []) (wc := (wd_Re_isNode cI cZ a_t a_t_weight a_t_arcs a_t_split a_t_least a_t_most a_t_levelNodes a_t_levelWeight a_t_levelArc a_t_levelIn a_t_row a_t_isFree a_t_best a_t_above a_t_ordered a_t_parts t_nodes t_kinds t_levels t_size t_base)) (w1 := (wd_Re_isNode cI cZ a_t a_t_weight a_t_arcs a_t_split a_t_least a_t_most a_t_levelNodes a_t_levelWeight a_t_levelArc a_t_levelIn a_t_row a_t_isFree a_t_best a_t_above a_t_ordered a_t_parts t_nodes t_kinds t_levels t_size t_base)) (wr := [(a_t_arcs, .inl (cI, 1600, .inl t_arcs))]) (ws' := (wd_Re_between cI cZ a_t a_t_arcs a_t_weight a_t_split a_t_least a_t_most a_t_levelNodes a_t_levelWeight a_t_levelArc a_t_levelIn a_t_row a_t_isFree a_t_best a_t_above a_t_ordered a_t_parts t_nodes t_kinds t_levels t_size t_base t_arcs)) (va_runV (As := [.int x1]) ⟨hx, hb, hml, hown, hts⟩ (c_Re_isNode l dC dI cI cZ a_t a_t_weight a_t_arcs a_t_split a_t_least a_t_most a_t_levelNodes a_t_levelWeight a_t_levelArc a_t_levelIn a_t_row a_t_isFree a_t_best a_t_above a_t_ordered a_t_parts H.size x1 t_nodes t_kinds t_levels t_size t_base r2 hr2) (cwV 1 hts (gV gw_773 gw_775 gw_29 gw_61 gw_776) rfl rfl rfl (yd_Re_isNode) ⟨Nat.le_of_ble_eq_true rfl, Nat.le_of_ble_eq_true rfl⟩) (mkV hK (hP.sub (ws' := (wd_Re_isNode cI cZ a_t a_t_weight a_t_arcs a_t_split a_t_least a_t_most a_t_levelNodes a_t_levelWeight a_t_levelArc a_t_levelIn a_t_row a_t_isFree a_t_best a_t_above a_t_ordered a_t_parts t_nodes t_kinds t_levels t_size t_base)) [0] rfl) (hD.sub (ws' := (wd_Re_isNode cI cZ a_t a_t_weight a_t_arcs a_t_split a_t_least a_t_most a_t_levelNodes a_t_levelWeight a_t_levelArc a_t_levelIn a_t_row a_t_isFree a_t_best a_t_above a_t_ordered a_t_parts t_nodes t_kinds t_levels t_size t_base)) [0] (by decide) rfl) hN (va_recv hK hP (ci := 9) (q0 := 0) rfl rfl)) rfl rfl hl.1 rfl (lv_room (Nat.le_of_ble_eq_true rfl)) dd_Re_between_2 ⟨Nat.zero_le _, Nat.zero_le _⟩) hP hD hS hA [0] [1] [1, 0] rfl rfl (by decide) (by decide) rfl (by decide) rfl (fun H locs hP hD hS => ?_)
  refine lv_if_eq (tgt := 30) hx hb dd_Re_between_5 (by decide) (fun cc => ?_) (fun cc => ?_)
  · skip
    have hf := if_t cc hf
    refine lv_iconst (v := -1) hx hb dd_Re_between_30 (by decide) ?_
    have hf := Option.some.inj hf
    subst hf
    exact W.iret hx hb hr (fun t ht hW => ⟨⟨_, (), rfl, rfl, pst_of ht hP hD⟩, hS.F ht⟩) hS.2.2 dd_Re_between_31
  · skip
    have hf := if_f cc hf
    refine lv_aload_n hx hb dd_Re_between_8 rfl (lv_at hl 0 rfl) ?_
    refine lv_iload_n hx hb dd_Re_between_9 rfl (lv_at hl 2 rfl) ?_
    obtain ⟨r10, hr10, hf⟩ := bind_some hf
    refine xcalli (rest := []) (wc := (wd_Re_isNode cI cZ a_t a_t_weight a_t_arcs a_t_split a_t_least a_t_most a_t_levelNodes a_t_levelWeight a_t_levelArc a_t_levelIn a_t_row a_t_isFree a_t_best a_t_above a_t_ordered a_t_parts t_nodes t_kinds t_levels t_size t_base)) (w1 := (wd_Re_isNode cI cZ a_t a_t_weight a_t_arcs a_t_split a_t_least a_t_most a_t_levelNodes a_t_levelWeight a_t_levelArc a_t_levelIn a_t_row a_t_isFree a_t_best a_t_above a_t_ordered a_t_parts t_nodes t_kinds t_levels t_size t_base)) (wr := [(a_t_arcs, .inl (cI, 1600, .inl t_arcs))]) (ws' := (wd_Re_between cI cZ a_t a_t_arcs a_t_weight a_t_split a_t_least a_t_most a_t_levelNodes a_t_levelWeight a_t_levelArc a_t_levelIn a_t_row a_t_isFree a_t_best a_t_above a_t_ordered a_t_parts t_nodes t_kinds t_levels t_size t_base t_arcs)) (va_runV (As := [.int x2]) ⟨hx, hb, hml, hown, hts⟩ (c_Re_isNode l dC dI cI cZ a_t a_t_weight a_t_arcs a_t_split a_t_least a_t_most a_t_levelNodes a_t_levelWeight a_t_levelArc a_t_levelIn a_t_row a_t_isFree a_t_best a_t_above a_t_ordered a_t_parts H.size x2 t_nodes t_kinds t_levels t_size t_base r10 hr10) (cwV 1 hts (gV gw_773 gw_775 gw_29 gw_61 gw_776) rfl rfl rfl (yd_Re_isNode) ⟨Nat.le_of_ble_eq_true rfl, Nat.le_of_ble_eq_true rfl⟩) (mkV hK (hP.sub (ws' := (wd_Re_isNode cI cZ a_t a_t_weight a_t_arcs a_t_split a_t_least a_t_most a_t_levelNodes a_t_levelWeight a_t_levelArc a_t_levelIn a_t_row a_t_isFree a_t_best a_t_above a_t_ordered a_t_parts t_nodes t_kinds t_levels t_size t_base)) [0] rfl) (hD.sub (ws' := (wd_Re_isNode cI cZ a_t a_t_weight a_t_arcs a_t_split a_t_least a_t_most a_t_levelNodes a_t_levelWeight a_t_levelArc a_t_levelIn a_t_row a_t_isFree a_t_best a_t_above a_t_ordered a_t_parts t_nodes t_kinds t_levels t_size t_base)) [0] (by decide) rfl) hN (va_recv hK hP (ci := 9) (q0 := 0) rfl rfl)) rfl rfl hl.1 rfl (lv_room (Nat.le_of_ble_eq_true rfl)) dd_Re_between_10 ⟨Nat.zero_le _, Nat.zero_le _⟩) hP hD hS hA [0] [1] [1, 0] rfl rfl (by decide) (by decide) rfl (by decide) rfl (fun H locs hP hD hS => ?_)
    refine lv_if_eq (tgt := 30) hx hb dd_Re_between_13 (by decide) (fun cc => ?_) (fun cc => ?_)
    · skip
      have hf := if_t cc hf
      refine lv_iconst (v := -1) hx hb dd_Re_between_30 (by decide) ?_
      have hf := Option.some.inj hf
      subst hf
      exact W.iret hx hb hr (fun t ht hW => ⟨⟨_, (), rfl, rfl, pst_of ht hP hD⟩, hS.F ht⟩) hS.2.2 dd_Re_between_31
    · skip
      have hf := if_f cc hf
      refine lv_aload_n hx hb dd_Re_between_16 rfl (lv_at hl 0 rfl) ?_
      refine va_get (D := (dC, dI)) (ci := 9) (v := .ref a_t_arcs) (C := rr_Re) (T := tt_Re) (N := 20) hx hb hts (fun w h => gwc (inn_Re w h)) hown hK hP 0 rfl rfl 3 (by decide) (hts _ (gwc gw_706)) (fun _ h9 => h9) rfl dd_Re_between_17 ?_
      refine lv_bipush (v := 40) hx hb dd_Re_between_20 (by decide) ?_
      refine lv_iload_n hx hb dd_Re_between_22 rfl (lv_at hl 1 rfl) ?_
      refine lv_imul hx hb dd_Re_between_23 ?_
      refine lv_iload_n hx hb dd_Re_between_24 rfl (lv_at hl 2 rfl) ?_
      refine lv_iadd hx hb dd_Re_between_25 ?_
      obtain ⟨k26, hf⟩ := ck_some hf
      refine va_iald hx hb hK hP 1 0 rfl rfl (okb_in k26) dd_Re_between_26 ?_
      refine lv_goto (tgt := 31) hx hb dd_Re_between_27 (by decide) ?_
      have hf := Option.some.inj hf
      subst hf
      exact W.iret hx hb hr (fun t ht hW => ⟨⟨_, (), rfl, rfl, pst_of ht hP hD⟩, hS.F ht⟩) hS.2.2 dd_Re_between_31
abbrev wd_Re_part (cI cZ : ClassId) (a_t a_t_arcs a_t_least a_t_levelArc a_t_levelIn a_t_levelNodes a_t_levelWeight a_t_most a_t_row a_t_split a_t_weight a_t_isFree a_t_best a_t_above a_t_ordered a_t_parts : Nat) (t_nodes : Int32) (t_kinds : Int32) (t_levels : Int32) (t_size : Int32) (t_base : Int32) (t_arcs : Nat → Int32) (t_least : Nat → Int32) (t_levelArc : Nat → Int32) (t_levelIn : Nat → Int32) (t_levelNodes : Nat → Int32) (t_levelWeight : Nat → Int32) (t_most : Nat → Int32) (t_row : Nat → Int32) (t_split : Nat → Int32) (t_weight : Nat → Int32) : va_W := [(a_t, .inr (9, [.int t_nodes, .int t_kinds, .ref a_t_weight, .ref a_t_arcs, .ref a_t_split, .ref a_t_least, .ref a_t_most, .int t_levels, .ref a_t_levelNodes, .ref a_t_levelWeight, .ref a_t_levelArc, .ref a_t_levelIn, .int t_size, .int t_base, .ref a_t_row, .ref a_t_isFree, .ref a_t_best, .ref a_t_above, .ref a_t_ordered, .ref a_t_parts])), (a_t_arcs, .inl (cI, 1600, .inl t_arcs)), (a_t_least, .inl (cI, 4, .inl t_least)), (a_t_levelArc, .inl (cI, 65600, .inl t_levelArc)), (a_t_levelIn, .inl (cI, 1640, .inl t_levelIn)), (a_t_levelNodes, .inl (cI, 41, .inl t_levelNodes)), (a_t_levelWeight, .inl (cI, 1640, .inl t_levelWeight)), (a_t_most, .inl (cI, 4, .inl t_most)), (a_t_row, .inl (cI, 40, .inl t_row)), (a_t_split, .inl (cI, 40, .inl t_split)), (a_t_weight, .inl (cI, 40, .inl t_weight))]
set_option maxRecDepth 100000 in
set_option maxHeartbeats 4000000 in
theorem c_Re_part (l : Launch) (dC : Nat → ClassId) (dI : Nat → Nat → Nat) (cI cZ : ClassId) (a_t a_t_arcs a_t_least a_t_levelArc a_t_levelIn a_t_levelNodes a_t_levelWeight a_t_most a_t_row a_t_split a_t_weight a_t_isFree a_t_best a_t_above a_t_ordered a_t_parts sz : Nat) (x1 : Int32) (x2 : Int32) (t_nodes : Int32) (t_kinds : Int32) (t_levels : Int32) (t_size : Int32) (t_base : Int32) (t_arcs : Nat → Int32) (t_least : Nat → Int32) (t_levelArc : Nat → Int32) (t_levelIn : Nat → Int32) (t_levelNodes : Nat → Int32) (t_levelWeight : Nat → Int32) (t_most : Nat → Int32) (t_row : Nat → Int32) (t_split : Nat → Int32) (t_weight : Nat → Int32) (out : Int32 × Int32 × Int32 × Int32 × (Nat → Int32) × (Nat → Int32) × (Nat → Int32) × (Nat → Int32) × (Nat → Int32)) (hf : f_Re_part x1 x2 t_nodes t_kinds t_levels t_size t_base t_arcs t_least t_levelArc t_levelIn t_levelNodes t_levelWeight t_most t_row t_split t_weight = some out) :
    Met l yy_Re_part wq_Re_part ({ frames := 4, cells := 0, slots := 0, locals := 102 }) (va_Pc ([.ref a_t, .int x1, .int x2] : List Value) (pre_ (dC, dI) cI cZ sz (wd_Re_part cI cZ a_t a_t_arcs a_t_least a_t_levelArc a_t_levelIn a_t_levelNodes a_t_levelWeight a_t_most a_t_row a_t_split a_t_weight a_t_isFree a_t_best a_t_above a_t_ordered a_t_parts t_nodes t_kinds t_levels t_size t_base t_arcs t_least t_levelArc t_levelIn t_levelNodes t_levelWeight t_most t_row t_split t_weight))) (va_Qi (fun (r : Int32) (_ : Unit) => r = out.1) (fun _ => pst (dC, dI) (va_A (wd_Re_part cI cZ a_t a_t_arcs a_t_least a_t_levelArc a_t_levelIn a_t_levelNodes a_t_levelWeight a_t_most a_t_row a_t_split a_t_weight a_t_isFree a_t_best a_t_above a_t_ordered a_t_parts t_nodes t_kinds t_levels t_size t_base t_arcs t_least t_levelArc t_levelIn t_levelNodes t_levelWeight t_most t_row t_split t_weight) sz) (wd_Re_part cI cZ a_t a_t_arcs a_t_least a_t_levelArc a_t_levelIn a_t_levelNodes a_t_levelWeight a_t_most a_t_row a_t_split a_t_weight a_t_isFree a_t_best a_t_above a_t_ordered a_t_parts t_nodes t_kinds out.2.1 out.2.2.1 out.2.2.2.1 t_arcs t_least out.2.2.2.2.1 out.2.2.2.2.2.1 out.2.2.2.2.2.2.1 out.2.2.2.2.2.2.2.1 t_most out.2.2.2.2.2.2.2.2 t_split t_weight)) (va_A (wd_Re_part cI cZ a_t a_t_arcs a_t_least a_t_levelArc a_t_levelIn a_t_levelNodes a_t_levelWeight a_t_most a_t_row a_t_split a_t_weight a_t_isFree a_t_best a_t_above a_t_ordered a_t_parts t_nodes t_kinds t_levels t_size t_base t_arcs t_least t_levelArc t_levelIn t_levelNodes t_levelWeight t_most t_row t_split t_weight) sz)) 0 0 (va_A (wd_Re_part cI cZ a_t a_t_arcs a_t_least a_t_levelArc a_t_levelIn a_t_levelNodes a_t_levelWeight a_t_most a_t_row a_t_split a_t_weight a_t_isFree a_t_best a_t_above a_t_ordered a_t_parts t_nodes t_kinds t_levels t_size t_base t_arcs t_least t_levelArc t_levelIn t_levelNodes t_levelWeight t_most t_row t_split t_weight) sz) := by
  refine Met.ofW (cc := cc_Re_part) (maxL := 5) (ret := (some .int)) (by decide) rfl ?_
  intro p e s m args below meth c s₁ B hml hv
  obtain ⟨rfl, hsz, hP, hK, hD0, hN⟩ := hv
  have hx := B.exec
  have hb := B.bytes
  have hr := B.returns
  have hts := atoms_spec (ws := wq_Re_part) B.pre
  have hown : s.vm.findClass rr_Re = some m.cls := findClass_of_methodNamed B.named
  have hlocks := B.notSynchronized
  subst hsz
  have hD := hD0.self (sz := s.heap.size)
  generalize hAe : va_A (wd_Re_part cI cZ a_t a_t_arcs a_t_least a_t_levelArc a_t_levelIn a_t_levelNodes a_t_levelWeight a_t_most a_t_row a_t_split a_t_weight a_t_isFree a_t_best a_t_above a_t_ordered a_t_parts t_nodes t_kinds t_levels t_size t_base t_arcs t_least t_levelArc t_levelIn t_levelNodes t_levelWeight t_most t_row t_split t_weight) s.heap.size = A at hD ⊢
  have hA : ∀ q : Nat, s.heap.size ≤ q → A q := fun q h => by rw [← hAe]; exact Or.inr h
  obtain ⟨H, hH⟩ : ∃ H : Heap, H = s.heap := ⟨_, rfl⟩
  have hS : va_S A s.heap H [] := by rw [hH]; exact va_S.rf
  have hl := lv_entry (([.ref a_t, .int x1, .int x2] : List Value)) (n := 5) (Nat.le_of_ble_eq_true rfl)
  rw [lg_entry_eq]
  generalize (lg_sl (([.ref a_t, .int x1, .int x2] : List Value)) ++ List.replicate (5 - (lg_sl (([.ref a_t, .int x1, .int x2] : List Value))).length) Slot.unset).toArray = ls at hl ⊢
  have hl : lv_has ls 5 [(0, .ref a_t), (1, .int x1), (2, .int x2)] := hl
  rw [← hH] at hP ⊢
  have hP : va_P (dC, dI) clsL (wd_Re_part cI cZ a_t a_t_arcs a_t_least a_t_levelArc a_t_levelIn a_t_levelNodes a_t_levelWeight a_t_most a_t_row a_t_split a_t_weight a_t_isFree a_t_best a_t_above a_t_ordered a_t_parts t_nodes t_kinds t_levels t_size t_base t_arcs t_least t_levelArc t_levelIn t_levelNodes t_levelWeight t_most t_row t_split t_weight) H := hP
  unfold f_Re_part at hf
  have h31 : ∀ (n31 : Nat) (x3 : Int32) (x4 : Int32) (t_levels : Int32) (t_size : Int32) (t_base : Int32) (t_levelArc : Nat → Int32) (t_levelIn : Nat → Int32) (t_levelNodes : Nat → Int32) (t_levelWeight : Nat → Int32) (t_row : Nat → Int32) (ls : Array Slot) (H : Heap) (locs : List Loc), L_Re_part_31 x1 x2 t_nodes t_least t_most t_split n31 x3 x4 t_levels t_size t_base t_levelArc t_levelIn t_levelNodes t_levelWeight t_row = some out → lv_has ls 5 [(0, .ref a_t), (1, .int x1), (2, .int x2), (3, .int x3), (4, .int x4)] → va_P (dC, dI) clsL (wd_Re_part cI cZ a_t a_t_arcs a_t_least a_t_levelArc a_t_levelIn a_t_levelNodes a_t_levelWeight a_t_most a_t_row a_t_split a_t_weight a_t_isFree a_t_best a_t_above a_t_ordered a_t_parts t_nodes t_kinds t_levels t_size t_base t_arcs t_least t_levelArc t_levelIn t_levelNodes t_levelWeight t_most t_row t_split t_weight) H → va_D A (wd_Re_part cI cZ a_t a_t_arcs a_t_least a_t_levelArc a_t_levelIn a_t_levelNodes a_t_levelWeight a_t_most a_t_row a_t_split a_t_weight a_t_isFree a_t_best a_t_above a_t_ordered a_t_parts t_nodes t_kinds t_levels t_size t_base t_arcs t_least t_levelArc t_levelIn t_levelNodes t_levelWeight t_most t_row t_split t_weight) → va_S A s.heap H locs → W p l e (headSpec wq_Re_part ({ frames := 4, cells := 0, slots := 0, locals := 102 })).room s m ([.ref a_t, .int x1, .int x2] : List Value).toArray below meth c H locs 0 0 (MQ below (va_Qi (fun (r : Int32) (_ : Unit) => r = out.1) (fun _ => pst (dC, dI) A (wd_Re_part cI cZ a_t a_t_arcs a_t_least a_t_levelArc a_t_levelIn a_t_levelNodes a_t_levelWeight a_t_most a_t_row a_t_split a_t_weight a_t_isFree a_t_best a_t_above a_t_ordered a_t_parts t_nodes t_kinds out.2.1 out.2.2.1 out.2.2.2.1 t_arcs t_least out.2.2.2.2.1 out.2.2.2.2.2.1 out.2.2.2.2.2.2.1 out.2.2.2.2.2.2.2.1 t_most out.2.2.2.2.2.2.2.2 t_split t_weight)) A) ([.ref a_t, .int x1, .int x2] : List Value).toArray s 0 0 A) (F0 m 31 ls []) := by
    intro n31
    induction n31 with
    | zero =>
      intro x3 x4 t_levels t_size t_base t_levelArc t_levelIn t_levelNodes t_levelWeight t_row ls H locs hf
      rw [L_Re_part_31] at hf
      exact absurd hf (fun h => by cases h)
    | succ n31 ih31 =>
      intro x3 x4 t_levels t_size t_base t_levelArc t_levelIn t_levelNodes t_levelWeight t_row ls H locs hf hl hP hD hS
      rw [L_Re_part_31] at hf
      have h65 : ∀ (x3 : Int32) (t_levels : Int32) (t_size : Int32) (t_base : Int32) (t_levelArc : Nat → Int32) (t_levelIn : Nat → Int32) (t_levelNodes : Nat → Int32) (t_levelWeight : Nat → Int32) (t_row : Nat → Int32) (ls : Array Slot) (H : Heap) (locs : List Loc), J_Re_part_65 x1 x2 t_least t_most x3 t_levels t_size t_base t_levelArc t_levelIn t_levelNodes t_levelWeight t_row = some out → lv_has ls 5 [(0, .ref a_t), (1, .int x1), (2, .int x2), (3, .int x3)] → va_P (dC, dI) clsL (wd_Re_part cI cZ a_t a_t_arcs a_t_least a_t_levelArc a_t_levelIn a_t_levelNodes a_t_levelWeight a_t_most a_t_row a_t_split a_t_weight a_t_isFree a_t_best a_t_above a_t_ordered a_t_parts t_nodes t_kinds t_levels t_size t_base t_arcs t_least t_levelArc t_levelIn t_levelNodes t_levelWeight t_most t_row t_split t_weight) H → va_D A (wd_Re_part cI cZ a_t a_t_arcs a_t_least a_t_levelArc a_t_levelIn a_t_levelNodes a_t_levelWeight a_t_most a_t_row a_t_split a_t_weight a_t_isFree a_t_best a_t_above a_t_ordered a_t_parts t_nodes t_kinds t_levels t_size t_base t_arcs t_least t_levelArc t_levelIn t_levelNodes t_levelWeight t_most t_row t_split t_weight) → va_S A s.heap H locs → W p l e (headSpec wq_Re_part ({ frames := 4, cells := 0, slots := 0, locals := 102 })).room s m ([.ref a_t, .int x1, .int x2] : List Value).toArray below meth c H locs 0 0 (MQ below (va_Qi (fun (r : Int32) (_ : Unit) => r = out.1) (fun _ => pst (dC, dI) A (wd_Re_part cI cZ a_t a_t_arcs a_t_least a_t_levelArc a_t_levelIn a_t_levelNodes a_t_levelWeight a_t_most a_t_row a_t_split a_t_weight a_t_isFree a_t_best a_t_above a_t_ordered a_t_parts t_nodes t_kinds out.2.1 out.2.2.1 out.2.2.2.1 t_arcs t_least out.2.2.2.2.1 out.2.2.2.2.2.1 out.2.2.2.2.2.2.1 out.2.2.2.2.2.2.2.1 t_most out.2.2.2.2.2.2.2.2 t_split t_weight)) A) ([.ref a_t, .int x1, .int x2] : List Value).toArray s 0 0 A) (F0 m 65 ls []) := by
        intro x3 t_levels t_size t_base t_levelArc t_levelIn t_levelNodes t_levelWeight t_row ls H locs hf hl hP hD hS
        unfold J_Re_part_65 at hf
        refine lv_iload_n hx hb dd_Re_part_65 rfl (lv_at hl 2 rfl) ?_
        refine lv_if_ne (tgt := 78) hx hb dd_Re_part_66 (by decide) (fun cc => ?_) (fun cc => ?_)
        · skip
          have hf := if_f cc hf
          refine lv_iload_n hx hb dd_Re_part_78 rfl (lv_at hl 2 rfl) ?_
          refine lv_iconst (v := 1) hx hb dd_Re_part_79 (by decide) ?_
          refine lv_icmp_ne (tgt := 87) hx hb dd_Re_part_80 (by decide) (fun cc => ?_) (fun cc => ?_)
          · skip
            have hf := if_f cc hf
            refine lv_iload_n hx hb dd_Re_part_87 rfl (lv_at hl 2 rfl) ?_
            refine lv_iconst (v := 2) hx hb dd_Re_part_88 (by decide) ?_
            refine lv_icmp_ne (tgt := 101) hx hb dd_Re_part_89 (by decide) (fun cc => ?_) (fun cc => ?_)
            · skip
              have hf := if_f cc hf
              refine lv_aload_n hx hb dd_Re_part_101 rfl (lv_at hl 0 rfl) ?_
              refine va_get (D := (dC, dI)) (ci := 9) (v := .ref a_t_most) (C := rr_Re) (T := tt_Re) (N := 20) hx hb hts (fun w h => gwc (inn_Re w h)) hown hK hP 0 rfl rfl 6 (by decide) (hts _ (gwc gw_709)) (fun _ h9 => h9) rfl dd_Re_part_102 ?_
              refine lv_iload_n hx hb dd_Re_part_105 rfl (lv_at hl 1 rfl) ?_
              obtain ⟨k106, hf⟩ := ck_some hf
              refine va_iald hx hb hK hP 7 0 rfl rfl (okb_in k106) dd_Re_part_106 ?_
              have hf := Option.some.inj hf
              subst hf
              exact W.iret hx hb hr (fun t ht hW => ⟨⟨_, (), rfl, rfl, pst_of ht hP hD⟩, hS.F ht⟩) hS.2.2 dd_Re_part_107
            · skip
              have hf := if_t cc hf
              refine lv_aload_n hx hb dd_Re_part_92 rfl (lv_at hl 0 rfl) ?_
              refine va_get (D := (dC, dI)) (ci := 9) (v := .ref a_t_least) (C := rr_Re) (T := tt_Re) (N := 20) hx hb hts (fun w h => gwc (inn_Re w h)) hown hK hP 0 rfl rfl 5 (by decide) (hts _ (gwc gw_708)) (fun _ h9 => h9) rfl dd_Re_part_93 ?_
              refine lv_iload_n hx hb dd_Re_part_96 rfl (lv_at hl 1 rfl) ?_
              obtain ⟨k97, hf⟩ := ck_some hf
              refine va_iald hx hb hK hP 2 0 rfl rfl (okb_in k97) dd_Re_part_97 ?_
              refine lv_goto (tgt := 107) hx hb dd_Re_part_98 (by decide) ?_
              have hf := Option.some.inj hf
              subst hf
              exact W.iret hx hb hr (fun t ht hW => ⟨⟨_, (), rfl, rfl, pst_of ht hP hD⟩, hS.F ht⟩) hS.2.2 dd_Re_part_107
          · skip
            have hf := if_t cc hf
            refine lv_iload_n hx hb dd_Re_part_83 rfl (lv_at hl 3 rfl) ?_
            refine lv_goto (tgt := 107) hx hb dd_Re_part_84 (by decide) ?_
            have hf := Option.some.inj hf
            subst hf
            exact W.iret hx hb hr (fun t ht hW => ⟨⟨_, (), rfl, rfl, pst_of ht hP hD⟩, hS.F ht⟩) hS.2.2 dd_Re_part_107
        · skip
          have hf := if_t cc hf
          refine lv_aload_n hx hb dd_Re_part_69 rfl (lv_at hl 0 rfl) ?_
          refine lv_iload_n hx hb dd_Re_part_70 rfl (lv_at hl 1 rfl) ?_
          obtain ⟨r71, hr71, hf⟩ := bind_some hf
          refine xcalll (rest := []) (wc := (wd_Re_sumOf cI cZ a_t a_t_levelWeight a_t_row a_t_weight a_t_arcs a_t_split a_t_least a_t_most a_t_levelNodes a_t_levelArc a_t_levelIn a_t_isFree a_t_best a_t_above a_t_ordered a_t_parts t_nodes t_kinds t_levels t_size t_base t_levelWeight t_row)) (w1 := (wd_Re_sumOf cI cZ a_t a_t_levelWeight a_t_row a_t_weight a_t_arcs a_t_split a_t_least a_t_most a_t_levelNodes a_t_levelArc a_t_levelIn a_t_isFree a_t_best a_t_above a_t_ordered a_t_parts t_nodes t_kinds t_levels t_size t_base t_levelWeight t_row)) (wr := [(a_t_arcs, .inl (cI, 1600, .inl t_arcs)), (a_t_least, .inl (cI, 4, .inl t_least)), (a_t_levelArc, .inl (cI, 65600, .inl t_levelArc)), (a_t_levelIn, .inl (cI, 1640, .inl t_levelIn)), (a_t_levelNodes, .inl (cI, 41, .inl t_levelNodes)), (a_t_most, .inl (cI, 4, .inl t_most)), (a_t_split, .inl (cI, 40, .inl t_split)), (a_t_weight, .inl (cI, 40, .inl t_weight))]) (ws' := (wd_Re_part cI cZ a_t a_t_arcs a_t_least a_t_levelArc a_t_levelIn a_t_levelNodes a_t_levelWeight a_t_most a_t_row a_t_split a_t_weight a_t_isFree a_t_best a_t_above a_t_ordered a_t_parts t_nodes t_kinds t_levels t_size t_base t_arcs t_least t_levelArc t_levelIn t_levelNodes t_levelWeight t_most t_row t_split t_weight)) (va_runV (As := [.int x1]) ⟨hx, hb, hml, hown, hts⟩ (c_Re_sumOf l dC dI cI cZ a_t a_t_levelWeight a_t_row a_t_weight a_t_arcs a_t_split a_t_least a_t_most a_t_levelNodes a_t_levelArc a_t_levelIn a_t_isFree a_t_best a_t_above a_t_ordered a_t_parts H.size x1 t_nodes t_kinds t_levels t_size t_base t_levelWeight t_row r71 hr71) (cwV 1 hts (gV gw_838 gw_840 gw_36 gw_61 gw_841) rfl rfl rfl (yd_Re_sumOf) ⟨Nat.le_of_ble_eq_true rfl, Nat.le_of_ble_eq_true rfl⟩) (mkV hK (hP.sub (ws' := (wd_Re_sumOf cI cZ a_t a_t_levelWeight a_t_row a_t_weight a_t_arcs a_t_split a_t_least a_t_most a_t_levelNodes a_t_levelArc a_t_levelIn a_t_isFree a_t_best a_t_above a_t_ordered a_t_parts t_nodes t_kinds t_levels t_size t_base t_levelWeight t_row)) [0, 6, 8] rfl) (hD.sub (ws' := (wd_Re_sumOf cI cZ a_t a_t_levelWeight a_t_row a_t_weight a_t_arcs a_t_split a_t_least a_t_most a_t_levelNodes a_t_levelArc a_t_levelIn a_t_isFree a_t_best a_t_above a_t_ordered a_t_parts t_nodes t_kinds t_levels t_size t_base t_levelWeight t_row)) [0, 6, 8] (by decide) rfl) hN (va_recv hK hP (ci := 9) (q0 := 0) rfl rfl)) rfl rfl hl.1 rfl (lv_room (Nat.le_of_ble_eq_true rfl)) dd_Re_part_71 ⟨Nat.zero_le _, Nat.zero_le _⟩) hP hD hS hA [0, 6, 8] [1, 2, 3, 4, 5, 7, 9, 10] [8, 0, 1, 2, 3, 4, 9, 5, 10, 6, 7] rfl rfl (by decide) (by decide) rfl (by decide) rfl (fun H locs hP hD hS => ?_)
          refine lv_l2i hx hb dd_Re_part_74 rfl ?_
          refine lv_goto (tgt := 107) hx hb dd_Re_part_75 (by decide) ?_
          have hf := Option.some.inj hf
          subst hf
          exact W.iret hx hb hr (fun t ht hW => ⟨⟨_, (), rfl, rfl, pst_of ht hP hD⟩, hS.F ht⟩) hS.2.2 dd_Re_part_107
      refine lv_iload hx hb dd_Re_part_31 (lv_at hl 4 rfl) ?_
      refine lv_aload_n hx hb dd_Re_part_33 rfl (lv_at hl 0 rfl) ?_
      refine va_get (D := (dC, dI)) (ci := 9) (v := .int t_nodes) (C := rr_Re) (T := tt_Re) (N := 20) hx hb hts (fun w h => gwc (inn_Re w h)) hown hK hP 0 rfl rfl 0 (by decide) (hts _ (gwc gw_703)) (fun _ h9 => h9) rfl dd_Re_part_34 ?_
      refine lv_icmp_ge (tgt := 65) hx hb dd_Re_part_37 (by decide) (fun cc => ?_) (fun cc => ?_)
      · skip
        have hf := if_t cc hf
        exact h65 x3 t_levels t_size t_base t_levelArc t_levelIn t_levelNodes t_levelWeight t_row _ _ _ hf (lv_sub hl [0, 1, 2, 3] rfl) hP hD hS
      · skip
        have hf := if_f cc hf
        refine lv_iload_n hx hb dd_Re_part_40 rfl (lv_at hl 3 rfl) ?_
        refine lv_aload_n hx hb dd_Re_part_41 rfl (lv_at hl 0 rfl) ?_
        refine va_get (D := (dC, dI)) (ci := 9) (v := .ref a_t_split) (C := rr_Re) (T := tt_Re) (N := 20) hx hb hts (fun w h => gwc (inn_Re w h)) hown hK hP 0 rfl rfl 4 (by decide) (hts _ (gwc gw_707)) (fun _ h9 => h9) rfl dd_Re_part_42 ?_
        refine lv_iload hx hb dd_Re_part_45 (lv_at hl 4 rfl) ?_
        obtain ⟨k47, hf⟩ := ck_some hf
        refine va_iald hx hb hK hP 9 0 rfl rfl (okb_in k47) dd_Re_part_47 ?_
        refine lv_iload_n hx hb dd_Re_part_48 rfl (lv_at hl 1 rfl) ?_
        refine lv_icmp_ne (tgt := 56) hx hb dd_Re_part_49 (by decide) (fun cc => ?_) (fun cc => ?_)
        · skip
          have hf := if_f cc hf
          refine lv_iconst (v := 0) hx hb dd_Re_part_56 (by decide) ?_
          refine lv_iadd hx hb dd_Re_part_57 ?_
          refine lv_istore_n (lv' := [(3, .int (x3 + 0)), (0, .ref a_t), (1, .int x1), (2, .int x2), (4, .int x4)]) hx hb dd_Re_part_58 rfl hl (by decide) rfl (fun ls hl => ?_)
          refine lv_iinc (v := x4 + 1) (lv' := [(4, .int (x4 + 1)), (3, .int (x3 + 0)), (0, .ref a_t), (1, .int x1), (2, .int x2)]) hx hb dd_Re_part_59 hl (k := 4) rfl rfl (by decide) rfl (fun ls hl => ?_)
          refine lv_goto (tgt := 31) hx hb dd_Re_part_62 (by decide) ?_
          exact ih31 (x3 + 0) (x4 + 1) t_levels t_size t_base t_levelArc t_levelIn t_levelNodes t_levelWeight t_row _ _ _ hf (lv_sub hl [2, 3, 4, 1, 0] rfl) hP hD hS
        · skip
          have hf := if_t cc hf
          refine lv_iconst (v := 1) hx hb dd_Re_part_52 (by decide) ?_
          refine lv_goto (tgt := 57) hx hb dd_Re_part_53 (by decide) ?_
          refine lv_iadd hx hb dd_Re_part_57 ?_
          refine lv_istore_n (lv' := [(3, .int (x3 + 1)), (0, .ref a_t), (1, .int x1), (2, .int x2), (4, .int x4)]) hx hb dd_Re_part_58 rfl hl (by decide) rfl (fun ls hl => ?_)
          refine lv_iinc (v := x4 + 1) (lv' := [(4, .int (x4 + 1)), (3, .int (x3 + 1)), (0, .ref a_t), (1, .int x1), (2, .int x2)]) hx hb dd_Re_part_59 hl (k := 4) rfl rfl (by decide) rfl (fun ls hl => ?_)
          refine lv_goto (tgt := 31) hx hb dd_Re_part_62 (by decide) ?_
          exact ih31 (x3 + 1) (x4 + 1) t_levels t_size t_base t_levelArc t_levelIn t_levelNodes t_levelWeight t_row _ _ _ hf (lv_sub hl [2, 3, 4, 1, 0] rfl) hP hD hS
  refine lv_aload_n hx hb dd_Re_part_0 rfl (lv_at hl 0 rfl) ?_
  refine lv_iload_n hx hb dd_Re_part_1 rfl (lv_at hl 1 rfl) ?_
  obtain ⟨r2, hr2, hf⟩ := bind_some hf
  refine xcalli (rest := []) (wc := (wd_Re_isPart cI cZ a_t a_t_weight a_t_arcs a_t_split a_t_least a_t_most a_t_levelNodes a_t_levelWeight a_t_levelArc a_t_levelIn a_t_row a_t_isFree a_t_best a_t_above a_t_ordered a_t_parts t_nodes t_kinds t_levels t_size t_base)) (w1 := (wd_Re_isPart cI cZ a_t a_t_weight a_t_arcs a_t_split a_t_least a_t_most a_t_levelNodes a_t_levelWeight a_t_levelArc a_t_levelIn a_t_row a_t_isFree a_t_best a_t_above a_t_ordered a_t_parts t_nodes t_kinds t_levels t_size t_base)) (wr := [(a_t_arcs, .inl (cI, 1600, .inl t_arcs)), (a_t_least, .inl (cI, 4, .inl t_least)), (a_t_levelArc, .inl (cI, 65600, .inl t_levelArc)), (a_t_levelIn, .inl (cI, 1640, .inl t_levelIn)), (a_t_levelNodes, .inl (cI, 41, .inl t_levelNodes)), (a_t_levelWeight, .inl (cI, 1640, .inl t_levelWeight)), (a_t_most, .inl (cI, 4, .inl t_most)), (a_t_row, .inl (cI, 40, .inl t_row)), (a_t_split, .inl (cI, 40, .inl t_split)), (a_t_weight, .inl (cI, 40, .inl t_weight))]) (ws' := (wd_Re_part cI cZ a_t a_t_arcs a_t_least a_t_levelArc a_t_levelIn a_t_levelNodes a_t_levelWeight a_t_most a_t_row a_t_split a_t_weight a_t_isFree a_t_best a_t_above a_t_ordered a_t_parts t_nodes t_kinds t_levels t_size t_base t_arcs t_least t_levelArc t_levelIn t_levelNodes t_levelWeight t_most t_row t_split t_weight)) (va_runV (As := [.int x1]) ⟨hx, hb, hml, hown, hts⟩ (c_Re_isPart l dC dI cI cZ a_t a_t_weight a_t_arcs a_t_split a_t_least a_t_most a_t_levelNodes a_t_levelWeight a_t_levelArc a_t_levelIn a_t_row a_t_isFree a_t_best a_t_above a_t_ordered a_t_parts H.size x1 t_nodes t_kinds t_levels t_size t_base r2 hr2) (cwV 1 hts (gV gw_782 gw_784 gw_30 gw_61 gw_785) rfl rfl rfl (yd_Re_isPart) ⟨Nat.le_of_ble_eq_true rfl, Nat.le_of_ble_eq_true rfl⟩) (mkV hK (hP.sub (ws' := (wd_Re_isPart cI cZ a_t a_t_weight a_t_arcs a_t_split a_t_least a_t_most a_t_levelNodes a_t_levelWeight a_t_levelArc a_t_levelIn a_t_row a_t_isFree a_t_best a_t_above a_t_ordered a_t_parts t_nodes t_kinds t_levels t_size t_base)) [0] rfl) (hD.sub (ws' := (wd_Re_isPart cI cZ a_t a_t_weight a_t_arcs a_t_split a_t_least a_t_most a_t_levelNodes a_t_levelWeight a_t_levelArc a_t_levelIn a_t_row a_t_isFree a_t_best a_t_above a_t_ordered a_t_parts t_nodes t_kinds t_levels t_size t_base)) [0] (by decide) rfl) hN (va_recv hK hP (ci := 9) (q0 := 0) rfl rfl)) rfl rfl hl.1 rfl (lv_room (Nat.le_of_ble_eq_true rfl)) dd_Re_part_2 ⟨Nat.zero_le _, Nat.zero_le _⟩) hP hD hS hA [0] [1, 2, 3, 4, 5, 6, 7, 8, 9, 10] [10, 0, 1, 2, 3, 4, 5, 6, 7, 8, 9] rfl rfl (by decide) (by decide) rfl (by decide) rfl (fun H locs hP hD hS => ?_)
  refine lv_if_eq (tgt := 20) hx hb dd_Re_part_5 (by decide) (fun cc => ?_) (fun cc => ?_)
  · skip
    have hf := if_t cc hf
    refine lv_iconst (v := -1) hx hb dd_Re_part_20 (by decide) ?_
    have hf := Option.some.inj hf
    subst hf
    exact W.iret hx hb hr (fun t ht hW => ⟨⟨_, (), rfl, rfl, pst_of ht hP hD⟩, hS.F ht⟩) hS.2.2 dd_Re_part_21
  · skip
    have hf := if_f cc hf
    refine lv_iload_n hx hb dd_Re_part_8 rfl (lv_at hl 2 rfl) ?_
    refine lv_i2l hx hb dd_Re_part_9 rfl ?_
    refine lv_lconst (v := 0) hx hb dd_Re_part_10 (by decide) ?_
    refine lv_ldc2 (v := 3) hx hb hown (hts _ (gwc gw_821)) dd_Re_part_11 ?_
    obtain ⟨r14, hr14, hf⟩ := bind_some hf
    refine xcalli (rest := []) (wc := (wd_Re_isIn cI cZ)) (w1 := (wd_Re_isIn cI cZ)) (wr := [(a_t, .inr (9, [.int t_nodes, .int t_kinds, .ref a_t_weight, .ref a_t_arcs, .ref a_t_split, .ref a_t_least, .ref a_t_most, .int t_levels, .ref a_t_levelNodes, .ref a_t_levelWeight, .ref a_t_levelArc, .ref a_t_levelIn, .int t_size, .int t_base, .ref a_t_row, .ref a_t_isFree, .ref a_t_best, .ref a_t_above, .ref a_t_ordered, .ref a_t_parts])), (a_t_arcs, .inl (cI, 1600, .inl t_arcs)), (a_t_least, .inl (cI, 4, .inl t_least)), (a_t_levelArc, .inl (cI, 65600, .inl t_levelArc)), (a_t_levelIn, .inl (cI, 1640, .inl t_levelIn)), (a_t_levelNodes, .inl (cI, 41, .inl t_levelNodes)), (a_t_levelWeight, .inl (cI, 1640, .inl t_levelWeight)), (a_t_most, .inl (cI, 4, .inl t_most)), (a_t_row, .inl (cI, 40, .inl t_row)), (a_t_split, .inl (cI, 40, .inl t_split)), (a_t_weight, .inl (cI, 40, .inl t_weight))]) (ws' := (wd_Re_part cI cZ a_t a_t_arcs a_t_least a_t_levelArc a_t_levelIn a_t_levelNodes a_t_levelWeight a_t_most a_t_row a_t_split a_t_weight a_t_isFree a_t_best a_t_above a_t_ordered a_t_parts t_nodes t_kinds t_levels t_size t_base t_arcs t_least t_levelArc t_levelIn t_levelNodes t_levelWeight t_most t_row t_split t_weight)) (va_runS (As := [.long x2.toInt64, .long (0 : Int64), .long (3 : Int64)]) ⟨hx, hb, hml, hown, hts⟩ (c_Re_isIn l dC dI cI cZ H.size x2.toInt64 (0 : Int64) (3 : Int64) r14 hr14) (va_cwS 3 hts (gS gw_699 gw_700 gw_61 gw_701) rfl rfl rfl (yd_Re_isIn).2 ⟨Nat.le_of_ble_eq_true rfl, Nat.le_of_ble_eq_true rfl⟩) (mkS hK (hP.sub (ws' := (wd_Re_isIn cI cZ)) [] rfl) (hD.sub (ws' := (wd_Re_isIn cI cZ)) [] (by decide) rfl) hN) rfl rfl hl.1 rfl (lv_room (Nat.le_of_ble_eq_true rfl)) dd_Re_part_14 ⟨Nat.zero_le _, Nat.zero_le _⟩) hP hD hS hA [] [0, 1, 2, 3, 4, 5, 6, 7, 8, 9, 10] [0, 1, 2, 3, 4, 5, 6, 7, 8, 9, 10] rfl rfl (by decide) (by decide) rfl (by decide) rfl (fun H locs hP hD hS => ?_)
    refine lv_if_ne (tgt := 22) hx hb dd_Re_part_17 (by decide) (fun cc => ?_) (fun cc => ?_)
    · skip
      have hf := if_f cc hf
      refine lv_aload_n hx hb dd_Re_part_22 rfl (lv_at hl 0 rfl) ?_
      obtain ⟨r23, hr23, hf⟩ := bind_some hf
      refine xcallv (rest := []) (wc := (wd_Re_takeSplit cI cZ a_t a_t_arcs a_t_levelArc a_t_levelIn a_t_levelNodes a_t_levelWeight a_t_row a_t_split a_t_weight a_t_least a_t_most a_t_isFree a_t_best a_t_above a_t_ordered a_t_parts t_nodes t_kinds t_levels t_size t_base t_arcs t_levelArc t_levelIn t_levelNodes t_levelWeight t_row t_split t_weight)) (w1 := (wd_Re_takeSplit cI cZ a_t a_t_arcs a_t_levelArc a_t_levelIn a_t_levelNodes a_t_levelWeight a_t_row a_t_split a_t_weight a_t_least a_t_most a_t_isFree a_t_best a_t_above a_t_ordered a_t_parts t_nodes t_kinds r23.1 r23.2.1 r23.2.2.1 t_arcs r23.2.2.2.1 r23.2.2.2.2.1 r23.2.2.2.2.2.1 r23.2.2.2.2.2.2.1 r23.2.2.2.2.2.2.2 t_split t_weight)) (wr := [(a_t_least, .inl (cI, 4, .inl t_least)), (a_t_most, .inl (cI, 4, .inl t_most))]) (ws' := (wd_Re_part cI cZ a_t a_t_arcs a_t_least a_t_levelArc a_t_levelIn a_t_levelNodes a_t_levelWeight a_t_most a_t_row a_t_split a_t_weight a_t_isFree a_t_best a_t_above a_t_ordered a_t_parts t_nodes t_kinds r23.1 r23.2.1 r23.2.2.1 t_arcs t_least r23.2.2.2.1 r23.2.2.2.2.1 r23.2.2.2.2.2.1 r23.2.2.2.2.2.2.1 t_most r23.2.2.2.2.2.2.2 t_split t_weight)) (va_runV (As := []) ⟨hx, hb, hml, hown, hts⟩ (c_Re_takeSplit l dC dI cI cZ a_t a_t_arcs a_t_levelArc a_t_levelIn a_t_levelNodes a_t_levelWeight a_t_row a_t_split a_t_weight a_t_least a_t_most a_t_isFree a_t_best a_t_above a_t_ordered a_t_parts H.size t_nodes t_kinds t_levels t_size t_base t_arcs t_levelArc t_levelIn t_levelNodes t_levelWeight t_row t_split t_weight r23 hr23) (cwV 0 hts (gV gw_830 gw_832 gw_34 gw_61 gw_833) rfl rfl rfl (yd_Re_takeSplit) ⟨Nat.le_of_ble_eq_true rfl, Nat.le_of_ble_eq_true rfl⟩) (mkV hK (hP.sub (ws' := (wd_Re_takeSplit cI cZ a_t a_t_arcs a_t_levelArc a_t_levelIn a_t_levelNodes a_t_levelWeight a_t_row a_t_split a_t_weight a_t_least a_t_most a_t_isFree a_t_best a_t_above a_t_ordered a_t_parts t_nodes t_kinds t_levels t_size t_base t_arcs t_levelArc t_levelIn t_levelNodes t_levelWeight t_row t_split t_weight)) [0, 1, 3, 4, 5, 6, 8, 9, 10] rfl) (hD.sub (ws' := (wd_Re_takeSplit cI cZ a_t a_t_arcs a_t_levelArc a_t_levelIn a_t_levelNodes a_t_levelWeight a_t_row a_t_split a_t_weight a_t_least a_t_most a_t_isFree a_t_best a_t_above a_t_ordered a_t_parts t_nodes t_kinds t_levels t_size t_base t_arcs t_levelArc t_levelIn t_levelNodes t_levelWeight t_row t_split t_weight)) [0, 1, 3, 4, 5, 6, 8, 9, 10] (by decide) rfl) hN (va_recv hK hP (ci := 9) (q0 := 0) rfl rfl)) rfl rfl hl.1 rfl (lv_room (Nat.le_of_ble_eq_true rfl)) dd_Re_part_23 ⟨Nat.zero_le _, Nat.zero_le _⟩) hP hD hS hA [0, 1, 3, 4, 5, 6, 8, 9, 10] [2, 7] [2, 3, 0, 4, 5, 6, 7, 1, 8, 9, 10] rfl rfl (by decide) (by decide) rfl (by decide) rfl (fun H locs hP hD hS => ?_)
      refine lv_iconst (v := 0) hx hb dd_Re_part_26 (by decide) ?_
      refine lv_istore_n (lv' := [(3, .int 0), (0, .ref a_t), (1, .int x1), (2, .int x2)]) hx hb dd_Re_part_27 rfl hl (by decide) rfl (fun ls hl => ?_)
      refine lv_iconst (v := 0) hx hb dd_Re_part_28 (by decide) ?_
      refine lv_istore (lv' := [(4, .int 0), (3, .int 0), (0, .ref a_t), (1, .int x1), (2, .int x2)]) hx hb dd_Re_part_29 hl (by decide) rfl (fun ls hl => ?_)
      exact h31 64 0 0 r23.1 r23.2.1 r23.2.2.1 r23.2.2.2.1 r23.2.2.2.2.1 r23.2.2.2.2.2.1 r23.2.2.2.2.2.2.1 r23.2.2.2.2.2.2.2 _ _ _ hf (lv_sub hl [2, 3, 4, 1, 0] rfl) hP hD hS
    · skip
      have hf := if_t cc hf
      refine lv_iconst (v := -1) hx hb dd_Re_part_20 (by decide) ?_
      have hf := Option.some.inj hf
      subst hf
      exact W.iret hx hb hr (fun t ht hW => ⟨⟨_, (), rfl, rfl, pst_of ht hP hD⟩, hS.F ht⟩) hS.2.2 dd_Re_part_21
abbrev wd_Re_cut (cI cZ : ClassId) (a_t a_t_arcs a_t_levelArc a_t_levelIn a_t_levelNodes a_t_levelWeight a_t_row a_t_split a_t_weight a_t_least a_t_most a_t_isFree a_t_best a_t_above a_t_ordered a_t_parts : Nat) (t_nodes : Int32) (t_kinds : Int32) (t_levels : Int32) (t_size : Int32) (t_base : Int32) (t_arcs : Nat → Int32) (t_levelArc : Nat → Int32) (t_levelIn : Nat → Int32) (t_levelNodes : Nat → Int32) (t_levelWeight : Nat → Int32) (t_row : Nat → Int32) (t_split : Nat → Int32) (t_weight : Nat → Int32) : va_W := [(a_t, .inr (9, [.int t_nodes, .int t_kinds, .ref a_t_weight, .ref a_t_arcs, .ref a_t_split, .ref a_t_least, .ref a_t_most, .int t_levels, .ref a_t_levelNodes, .ref a_t_levelWeight, .ref a_t_levelArc, .ref a_t_levelIn, .int t_size, .int t_base, .ref a_t_row, .ref a_t_isFree, .ref a_t_best, .ref a_t_above, .ref a_t_ordered, .ref a_t_parts])), (a_t_arcs, .inl (cI, 1600, .inl t_arcs)), (a_t_levelArc, .inl (cI, 65600, .inl t_levelArc)), (a_t_levelIn, .inl (cI, 1640, .inl t_levelIn)), (a_t_levelNodes, .inl (cI, 41, .inl t_levelNodes)), (a_t_levelWeight, .inl (cI, 1640, .inl t_levelWeight)), (a_t_row, .inl (cI, 40, .inl t_row)), (a_t_split, .inl (cI, 40, .inl t_split)), (a_t_weight, .inl (cI, 40, .inl t_weight))]
set_option maxRecDepth 100000 in
set_option maxHeartbeats 4000000 in
theorem c_Re_cut (l : Launch) (dC : Nat → ClassId) (dI : Nat → Nat → Nat) (cI cZ : ClassId) (a_t a_t_arcs a_t_levelArc a_t_levelIn a_t_levelNodes a_t_levelWeight a_t_row a_t_split a_t_weight a_t_least a_t_most a_t_isFree a_t_best a_t_above a_t_ordered a_t_parts sz : Nat) (t_nodes : Int32) (t_kinds : Int32) (t_levels : Int32) (t_size : Int32) (t_base : Int32) (t_arcs : Nat → Int32) (t_levelArc : Nat → Int32) (t_levelIn : Nat → Int32) (t_levelNodes : Nat → Int32) (t_levelWeight : Nat → Int32) (t_row : Nat → Int32) (t_split : Nat → Int32) (t_weight : Nat → Int32) (out : Int32 × Int32 × Int32 × Int32 × (Nat → Int32) × (Nat → Int32) × (Nat → Int32) × (Nat → Int32) × (Nat → Int32)) (hf : f_Re_cut t_nodes t_kinds t_arcs t_levelArc t_levelIn t_levelNodes t_levelWeight t_row t_split t_weight = some out) :
    Met l yy_Re_cut wq_Re_cut ({ frames := 4, cells := 0, slots := 0, locals := 102 }) (va_Pc ([.ref a_t] : List Value) (pre_ (dC, dI) cI cZ sz (wd_Re_cut cI cZ a_t a_t_arcs a_t_levelArc a_t_levelIn a_t_levelNodes a_t_levelWeight a_t_row a_t_split a_t_weight a_t_least a_t_most a_t_isFree a_t_best a_t_above a_t_ordered a_t_parts t_nodes t_kinds t_levels t_size t_base t_arcs t_levelArc t_levelIn t_levelNodes t_levelWeight t_row t_split t_weight))) (va_Qi (fun (r : Int32) (_ : Unit) => r = out.1) (fun _ => pst (dC, dI) (va_A (wd_Re_cut cI cZ a_t a_t_arcs a_t_levelArc a_t_levelIn a_t_levelNodes a_t_levelWeight a_t_row a_t_split a_t_weight a_t_least a_t_most a_t_isFree a_t_best a_t_above a_t_ordered a_t_parts t_nodes t_kinds t_levels t_size t_base t_arcs t_levelArc t_levelIn t_levelNodes t_levelWeight t_row t_split t_weight) sz) (wd_Re_cut cI cZ a_t a_t_arcs a_t_levelArc a_t_levelIn a_t_levelNodes a_t_levelWeight a_t_row a_t_split a_t_weight a_t_least a_t_most a_t_isFree a_t_best a_t_above a_t_ordered a_t_parts t_nodes t_kinds out.2.1 out.2.2.1 out.2.2.2.1 t_arcs out.2.2.2.2.1 out.2.2.2.2.2.1 out.2.2.2.2.2.2.1 out.2.2.2.2.2.2.2.1 out.2.2.2.2.2.2.2.2 t_split t_weight)) (va_A (wd_Re_cut cI cZ a_t a_t_arcs a_t_levelArc a_t_levelIn a_t_levelNodes a_t_levelWeight a_t_row a_t_split a_t_weight a_t_least a_t_most a_t_isFree a_t_best a_t_above a_t_ordered a_t_parts t_nodes t_kinds t_levels t_size t_base t_arcs t_levelArc t_levelIn t_levelNodes t_levelWeight t_row t_split t_weight) sz)) 0 0 (va_A (wd_Re_cut cI cZ a_t a_t_arcs a_t_levelArc a_t_levelIn a_t_levelNodes a_t_levelWeight a_t_row a_t_split a_t_weight a_t_least a_t_most a_t_isFree a_t_best a_t_above a_t_ordered a_t_parts t_nodes t_kinds t_levels t_size t_base t_arcs t_levelArc t_levelIn t_levelNodes t_levelWeight t_row t_split t_weight) sz) := by
  refine Met.ofW (cc := cc_Re_cut) (maxL := 1) (ret := (some .int)) (by decide) rfl ?_
  intro p e s m args below meth c s₁ B hml hv
  obtain ⟨rfl, hsz, hP, hK, hD0, hN⟩ := hv
  have hx := B.exec
  have hb := B.bytes
  have hr := B.returns
  have hts := atoms_spec (ws := wq_Re_cut) B.pre
  have hown : s.vm.findClass rr_Re = some m.cls := findClass_of_methodNamed B.named
  have hlocks := B.notSynchronized
  subst hsz
  have hD := hD0.self (sz := s.heap.size)
  generalize hAe : va_A (wd_Re_cut cI cZ a_t a_t_arcs a_t_levelArc a_t_levelIn a_t_levelNodes a_t_levelWeight a_t_row a_t_split a_t_weight a_t_least a_t_most a_t_isFree a_t_best a_t_above a_t_ordered a_t_parts t_nodes t_kinds t_levels t_size t_base t_arcs t_levelArc t_levelIn t_levelNodes t_levelWeight t_row t_split t_weight) s.heap.size = A at hD ⊢
  have hA : ∀ q : Nat, s.heap.size ≤ q → A q := fun q h => by rw [← hAe]; exact Or.inr h
  obtain ⟨H, hH⟩ : ∃ H : Heap, H = s.heap := ⟨_, rfl⟩
  have hS : va_S A s.heap H [] := by rw [hH]; exact va_S.rf
  have hl := lv_entry (([.ref a_t] : List Value)) (n := 1) (Nat.le_of_ble_eq_true rfl)
  rw [lg_entry_eq]
  generalize (lg_sl (([.ref a_t] : List Value)) ++ List.replicate (1 - (lg_sl (([.ref a_t] : List Value))).length) Slot.unset).toArray = ls at hl ⊢
  have hl : lv_has ls 1 [(0, .ref a_t)] := hl
  rw [← hH] at hP ⊢
  have hP : va_P (dC, dI) clsL (wd_Re_cut cI cZ a_t a_t_arcs a_t_levelArc a_t_levelIn a_t_levelNodes a_t_levelWeight a_t_row a_t_split a_t_weight a_t_least a_t_most a_t_isFree a_t_best a_t_above a_t_ordered a_t_parts t_nodes t_kinds t_levels t_size t_base t_arcs t_levelArc t_levelIn t_levelNodes t_levelWeight t_row t_split t_weight) H := hP
  unfold f_Re_cut at hf
  refine lv_aload_n hx hb dd_Re_cut_0 rfl (lv_at hl 0 rfl) ?_
  obtain ⟨r1, hr1, hf⟩ := bind_some hf
  refine xcallv (rest := []) (wc := (wd_Re_takeSplit cI cZ a_t a_t_arcs a_t_levelArc a_t_levelIn a_t_levelNodes a_t_levelWeight a_t_row a_t_split a_t_weight a_t_least a_t_most a_t_isFree a_t_best a_t_above a_t_ordered a_t_parts t_nodes t_kinds t_levels t_size t_base t_arcs t_levelArc t_levelIn t_levelNodes t_levelWeight t_row t_split t_weight)) (w1 := (wd_Re_takeSplit cI cZ a_t a_t_arcs a_t_levelArc a_t_levelIn a_t_levelNodes a_t_levelWeight a_t_row a_t_split a_t_weight a_t_least a_t_most a_t_isFree a_t_best a_t_above a_t_ordered a_t_parts t_nodes t_kinds r1.1 r1.2.1 r1.2.2.1 t_arcs r1.2.2.2.1 r1.2.2.2.2.1 r1.2.2.2.2.2.1 r1.2.2.2.2.2.2.1 r1.2.2.2.2.2.2.2 t_split t_weight)) (wr := []) (ws' := (wd_Re_cut cI cZ a_t a_t_arcs a_t_levelArc a_t_levelIn a_t_levelNodes a_t_levelWeight a_t_row a_t_split a_t_weight a_t_least a_t_most a_t_isFree a_t_best a_t_above a_t_ordered a_t_parts t_nodes t_kinds r1.1 r1.2.1 r1.2.2.1 t_arcs r1.2.2.2.1 r1.2.2.2.2.1 r1.2.2.2.2.2.1 r1.2.2.2.2.2.2.1 r1.2.2.2.2.2.2.2 t_split t_weight)) (va_runV (As := []) ⟨hx, hb, hml, hown, hts⟩ (c_Re_takeSplit l dC dI cI cZ a_t a_t_arcs a_t_levelArc a_t_levelIn a_t_levelNodes a_t_levelWeight a_t_row a_t_split a_t_weight a_t_least a_t_most a_t_isFree a_t_best a_t_above a_t_ordered a_t_parts H.size t_nodes t_kinds t_levels t_size t_base t_arcs t_levelArc t_levelIn t_levelNodes t_levelWeight t_row t_split t_weight r1 hr1) (cwV 0 hts (gV gw_830 gw_832 gw_34 gw_61 gw_833) rfl rfl rfl (yd_Re_takeSplit) ⟨Nat.le_of_ble_eq_true rfl, Nat.le_of_ble_eq_true rfl⟩) (mkV hK (hP.sub (ws' := (wd_Re_takeSplit cI cZ a_t a_t_arcs a_t_levelArc a_t_levelIn a_t_levelNodes a_t_levelWeight a_t_row a_t_split a_t_weight a_t_least a_t_most a_t_isFree a_t_best a_t_above a_t_ordered a_t_parts t_nodes t_kinds t_levels t_size t_base t_arcs t_levelArc t_levelIn t_levelNodes t_levelWeight t_row t_split t_weight)) [0, 1, 2, 3, 4, 5, 6, 7, 8] rfl) (hD.sub (ws' := (wd_Re_takeSplit cI cZ a_t a_t_arcs a_t_levelArc a_t_levelIn a_t_levelNodes a_t_levelWeight a_t_row a_t_split a_t_weight a_t_least a_t_most a_t_isFree a_t_best a_t_above a_t_ordered a_t_parts t_nodes t_kinds t_levels t_size t_base t_arcs t_levelArc t_levelIn t_levelNodes t_levelWeight t_row t_split t_weight)) [0, 1, 2, 3, 4, 5, 6, 7, 8] (by decide) rfl) hN (va_recv hK hP (ci := 9) (q0 := 0) rfl rfl)) rfl rfl hl.1 rfl (lv_room (Nat.le_of_ble_eq_true rfl)) dd_Re_cut_1 ⟨Nat.zero_le _, Nat.zero_le _⟩) hP hD hS hA [0, 1, 2, 3, 4, 5, 6, 7, 8] [] [0, 1, 2, 3, 4, 5, 6, 7, 8] rfl rfl (by decide) (by decide) rfl (by decide) rfl (fun H locs hP hD hS => ?_)
  refine lv_aload_n hx hb dd_Re_cut_4 rfl (lv_at hl 0 rfl) ?_
  obtain ⟨r5, hr5, hf⟩ := bind_some hf
  refine xcalll (rest := []) (wc := (wd_Re_rowCut cI cZ a_t a_t_levelArc a_t_row a_t_weight a_t_arcs a_t_split a_t_least a_t_most a_t_levelNodes a_t_levelWeight a_t_levelIn a_t_isFree a_t_best a_t_above a_t_ordered a_t_parts t_nodes t_kinds r1.1 r1.2.1 r1.2.2.1 r1.2.2.2.1 r1.2.2.2.2.2.2.2)) (w1 := (wd_Re_rowCut cI cZ a_t a_t_levelArc a_t_row a_t_weight a_t_arcs a_t_split a_t_least a_t_most a_t_levelNodes a_t_levelWeight a_t_levelIn a_t_isFree a_t_best a_t_above a_t_ordered a_t_parts t_nodes t_kinds r1.1 r1.2.1 r1.2.2.1 r1.2.2.2.1 r1.2.2.2.2.2.2.2)) (wr := [(a_t_arcs, .inl (cI, 1600, .inl t_arcs)), (a_t_levelIn, .inl (cI, 1640, .inl r1.2.2.2.2.1)), (a_t_levelNodes, .inl (cI, 41, .inl r1.2.2.2.2.2.1)), (a_t_levelWeight, .inl (cI, 1640, .inl r1.2.2.2.2.2.2.1)), (a_t_split, .inl (cI, 40, .inl t_split)), (a_t_weight, .inl (cI, 40, .inl t_weight))]) (ws' := (wd_Re_cut cI cZ a_t a_t_arcs a_t_levelArc a_t_levelIn a_t_levelNodes a_t_levelWeight a_t_row a_t_split a_t_weight a_t_least a_t_most a_t_isFree a_t_best a_t_above a_t_ordered a_t_parts t_nodes t_kinds r1.1 r1.2.1 r1.2.2.1 t_arcs r1.2.2.2.1 r1.2.2.2.2.1 r1.2.2.2.2.2.1 r1.2.2.2.2.2.2.1 r1.2.2.2.2.2.2.2 t_split t_weight)) (va_runV (As := []) ⟨hx, hb, hml, hown, hts⟩ (c_Re_rowCut l dC dI cI cZ a_t a_t_levelArc a_t_row a_t_weight a_t_arcs a_t_split a_t_least a_t_most a_t_levelNodes a_t_levelWeight a_t_levelIn a_t_isFree a_t_best a_t_above a_t_ordered a_t_parts H.size t_nodes t_kinds r1.1 r1.2.1 r1.2.2.1 r1.2.2.2.1 r1.2.2.2.2.2.2.2 r5 hr5) (cwV 0 hts (gV gw_850 gw_852 gw_38 gw_61 gw_853) rfl rfl rfl (yd_Re_rowCut) ⟨Nat.le_of_ble_eq_true rfl, Nat.le_of_ble_eq_true rfl⟩) (mkV hK (hP.sub (ws' := (wd_Re_rowCut cI cZ a_t a_t_levelArc a_t_row a_t_weight a_t_arcs a_t_split a_t_least a_t_most a_t_levelNodes a_t_levelWeight a_t_levelIn a_t_isFree a_t_best a_t_above a_t_ordered a_t_parts t_nodes t_kinds r1.1 r1.2.1 r1.2.2.1 r1.2.2.2.1 r1.2.2.2.2.2.2.2)) [0, 2, 6] rfl) (hD.sub (ws' := (wd_Re_rowCut cI cZ a_t a_t_levelArc a_t_row a_t_weight a_t_arcs a_t_split a_t_least a_t_most a_t_levelNodes a_t_levelWeight a_t_levelIn a_t_isFree a_t_best a_t_above a_t_ordered a_t_parts t_nodes t_kinds r1.1 r1.2.1 r1.2.2.1 r1.2.2.2.1 r1.2.2.2.2.2.2.2)) [0, 2, 6] (by decide) rfl) hN (va_recv hK hP (ci := 9) (q0 := 0) rfl rfl)) rfl rfl hl.1 rfl (lv_room (Nat.le_of_ble_eq_true rfl)) dd_Re_cut_5 ⟨Nat.zero_le _, Nat.zero_le _⟩) hP hD hS hA [0, 2, 6] [1, 3, 4, 5, 7, 8] [6, 0, 7, 1, 2, 3, 8, 4, 5] rfl rfl (by decide) (by decide) rfl (by decide) rfl (fun H locs hP hD hS => ?_)
  refine lv_l2i hx hb dd_Re_cut_8 rfl ?_
  have hf := Option.some.inj hf
  subst hf
  exact W.iret hx hb hr (fun t ht hW => ⟨⟨_, (), rfl, rfl, pst_of ht hP hD⟩, hS.F ht⟩) hS.2.2 dd_Re_cut_9
abbrev wd_Re_over (cI cZ : ClassId) (a_t a_t_arcs a_t_least a_t_levelArc a_t_levelIn a_t_levelNodes a_t_levelWeight a_t_most a_t_row a_t_split a_t_weight a_t_isFree a_t_best a_t_above a_t_ordered a_t_parts : Nat) (t_nodes : Int32) (t_kinds : Int32) (t_levels : Int32) (t_size : Int32) (t_base : Int32) (t_arcs : Nat → Int32) (t_least : Nat → Int32) (t_levelArc : Nat → Int32) (t_levelIn : Nat → Int32) (t_levelNodes : Nat → Int32) (t_levelWeight : Nat → Int32) (t_most : Nat → Int32) (t_row : Nat → Int32) (t_split : Nat → Int32) (t_weight : Nat → Int32) : va_W := [(a_t, .inr (9, [.int t_nodes, .int t_kinds, .ref a_t_weight, .ref a_t_arcs, .ref a_t_split, .ref a_t_least, .ref a_t_most, .int t_levels, .ref a_t_levelNodes, .ref a_t_levelWeight, .ref a_t_levelArc, .ref a_t_levelIn, .int t_size, .int t_base, .ref a_t_row, .ref a_t_isFree, .ref a_t_best, .ref a_t_above, .ref a_t_ordered, .ref a_t_parts])), (a_t_arcs, .inl (cI, 1600, .inl t_arcs)), (a_t_least, .inl (cI, 4, .inl t_least)), (a_t_levelArc, .inl (cI, 65600, .inl t_levelArc)), (a_t_levelIn, .inl (cI, 1640, .inl t_levelIn)), (a_t_levelNodes, .inl (cI, 41, .inl t_levelNodes)), (a_t_levelWeight, .inl (cI, 1640, .inl t_levelWeight)), (a_t_most, .inl (cI, 4, .inl t_most)), (a_t_row, .inl (cI, 40, .inl t_row)), (a_t_split, .inl (cI, 40, .inl t_split)), (a_t_weight, .inl (cI, 40, .inl t_weight))]
set_option maxRecDepth 100000 in
set_option maxHeartbeats 4000000 in
theorem c_Re_over (l : Launch) (dC : Nat → ClassId) (dI : Nat → Nat → Nat) (cI cZ : ClassId) (a_t a_t_arcs a_t_least a_t_levelArc a_t_levelIn a_t_levelNodes a_t_levelWeight a_t_most a_t_row a_t_split a_t_weight a_t_isFree a_t_best a_t_above a_t_ordered a_t_parts sz : Nat) (t_nodes : Int32) (t_kinds : Int32) (t_levels : Int32) (t_size : Int32) (t_base : Int32) (t_arcs : Nat → Int32) (t_least : Nat → Int32) (t_levelArc : Nat → Int32) (t_levelIn : Nat → Int32) (t_levelNodes : Nat → Int32) (t_levelWeight : Nat → Int32) (t_most : Nat → Int32) (t_row : Nat → Int32) (t_split : Nat → Int32) (t_weight : Nat → Int32) (out : Int32 × Int32 × Int32 × Int32 × (Nat → Int32) × (Nat → Int32) × (Nat → Int32) × (Nat → Int32) × (Nat → Int32)) (hf : f_Re_over t_nodes t_kinds t_arcs t_least t_levelArc t_levelIn t_levelNodes t_levelWeight t_most t_row t_split t_weight = some out) :
    Met l yy_Re_over wq_Re_over ({ frames := 4, cells := 0, slots := 0, locals := 102 }) (va_Pc ([.ref a_t] : List Value) (pre_ (dC, dI) cI cZ sz (wd_Re_over cI cZ a_t a_t_arcs a_t_least a_t_levelArc a_t_levelIn a_t_levelNodes a_t_levelWeight a_t_most a_t_row a_t_split a_t_weight a_t_isFree a_t_best a_t_above a_t_ordered a_t_parts t_nodes t_kinds t_levels t_size t_base t_arcs t_least t_levelArc t_levelIn t_levelNodes t_levelWeight t_most t_row t_split t_weight))) (va_Qi (fun (r : Int32) (_ : Unit) => r = out.1) (fun _ => pst (dC, dI) (va_A (wd_Re_over cI cZ a_t a_t_arcs a_t_least a_t_levelArc a_t_levelIn a_t_levelNodes a_t_levelWeight a_t_most a_t_row a_t_split a_t_weight a_t_isFree a_t_best a_t_above a_t_ordered a_t_parts t_nodes t_kinds t_levels t_size t_base t_arcs t_least t_levelArc t_levelIn t_levelNodes t_levelWeight t_most t_row t_split t_weight) sz) (wd_Re_over cI cZ a_t a_t_arcs a_t_least a_t_levelArc a_t_levelIn a_t_levelNodes a_t_levelWeight a_t_most a_t_row a_t_split a_t_weight a_t_isFree a_t_best a_t_above a_t_ordered a_t_parts t_nodes t_kinds out.2.1 out.2.2.1 out.2.2.2.1 t_arcs t_least out.2.2.2.2.1 out.2.2.2.2.2.1 out.2.2.2.2.2.2.1 out.2.2.2.2.2.2.2.1 t_most out.2.2.2.2.2.2.2.2 t_split t_weight)) (va_A (wd_Re_over cI cZ a_t a_t_arcs a_t_least a_t_levelArc a_t_levelIn a_t_levelNodes a_t_levelWeight a_t_most a_t_row a_t_split a_t_weight a_t_isFree a_t_best a_t_above a_t_ordered a_t_parts t_nodes t_kinds t_levels t_size t_base t_arcs t_least t_levelArc t_levelIn t_levelNodes t_levelWeight t_most t_row t_split t_weight) sz)) 0 0 (va_A (wd_Re_over cI cZ a_t a_t_arcs a_t_least a_t_levelArc a_t_levelIn a_t_levelNodes a_t_levelWeight a_t_most a_t_row a_t_split a_t_weight a_t_isFree a_t_best a_t_above a_t_ordered a_t_parts t_nodes t_kinds t_levels t_size t_base t_arcs t_least t_levelArc t_levelIn t_levelNodes t_levelWeight t_most t_row t_split t_weight) sz) := by
  refine Met.ofW (cc := cc_Re_over) (maxL := 1) (ret := (some .int)) (by decide) rfl ?_
  intro p e s m args below meth c s₁ B hml hv
  obtain ⟨rfl, hsz, hP, hK, hD0, hN⟩ := hv
  have hx := B.exec
  have hb := B.bytes
  have hr := B.returns
  have hts := atoms_spec (ws := wq_Re_over) B.pre
  have hown : s.vm.findClass rr_Re = some m.cls := findClass_of_methodNamed B.named
  have hlocks := B.notSynchronized
  subst hsz
  have hD := hD0.self (sz := s.heap.size)
  generalize hAe : va_A (wd_Re_over cI cZ a_t a_t_arcs a_t_least a_t_levelArc a_t_levelIn a_t_levelNodes a_t_levelWeight a_t_most a_t_row a_t_split a_t_weight a_t_isFree a_t_best a_t_above a_t_ordered a_t_parts t_nodes t_kinds t_levels t_size t_base t_arcs t_least t_levelArc t_levelIn t_levelNodes t_levelWeight t_most t_row t_split t_weight) s.heap.size = A at hD ⊢
  have hA : ∀ q : Nat, s.heap.size ≤ q → A q := fun q h => by rw [← hAe]; exact Or.inr h
  obtain ⟨H, hH⟩ : ∃ H : Heap, H = s.heap := ⟨_, rfl⟩
  have hS : va_S A s.heap H [] := by rw [hH]; exact va_S.rf
  have hl := lv_entry (([.ref a_t] : List Value)) (n := 1) (Nat.le_of_ble_eq_true rfl)
  rw [lg_entry_eq]
  generalize (lg_sl (([.ref a_t] : List Value)) ++ List.replicate (1 - (lg_sl (([.ref a_t] : List Value))).length) Slot.unset).toArray = ls at hl ⊢
  have hl : lv_has ls 1 [(0, .ref a_t)] := hl
  rw [← hH] at hP ⊢
  have hP : va_P (dC, dI) clsL (wd_Re_over cI cZ a_t a_t_arcs a_t_least a_t_levelArc a_t_levelIn a_t_levelNodes a_t_levelWeight a_t_most a_t_row a_t_split a_t_weight a_t_isFree a_t_best a_t_above a_t_ordered a_t_parts t_nodes t_kinds t_levels t_size t_base t_arcs t_least t_levelArc t_levelIn t_levelNodes t_levelWeight t_most t_row t_split t_weight) H := hP
  unfold f_Re_over at hf
  refine lv_aload_n hx hb dd_Re_over_0 rfl (lv_at hl 0 rfl) ?_
  obtain ⟨r1, hr1, hf⟩ := bind_some hf
  refine xcallv (rest := []) (wc := (wd_Re_takeSplit cI cZ a_t a_t_arcs a_t_levelArc a_t_levelIn a_t_levelNodes a_t_levelWeight a_t_row a_t_split a_t_weight a_t_least a_t_most a_t_isFree a_t_best a_t_above a_t_ordered a_t_parts t_nodes t_kinds t_levels t_size t_base t_arcs t_levelArc t_levelIn t_levelNodes t_levelWeight t_row t_split t_weight)) (w1 := (wd_Re_takeSplit cI cZ a_t a_t_arcs a_t_levelArc a_t_levelIn a_t_levelNodes a_t_levelWeight a_t_row a_t_split a_t_weight a_t_least a_t_most a_t_isFree a_t_best a_t_above a_t_ordered a_t_parts t_nodes t_kinds r1.1 r1.2.1 r1.2.2.1 t_arcs r1.2.2.2.1 r1.2.2.2.2.1 r1.2.2.2.2.2.1 r1.2.2.2.2.2.2.1 r1.2.2.2.2.2.2.2 t_split t_weight)) (wr := [(a_t_least, .inl (cI, 4, .inl t_least)), (a_t_most, .inl (cI, 4, .inl t_most))]) (ws' := (wd_Re_over cI cZ a_t a_t_arcs a_t_least a_t_levelArc a_t_levelIn a_t_levelNodes a_t_levelWeight a_t_most a_t_row a_t_split a_t_weight a_t_isFree a_t_best a_t_above a_t_ordered a_t_parts t_nodes t_kinds r1.1 r1.2.1 r1.2.2.1 t_arcs t_least r1.2.2.2.1 r1.2.2.2.2.1 r1.2.2.2.2.2.1 r1.2.2.2.2.2.2.1 t_most r1.2.2.2.2.2.2.2 t_split t_weight)) (va_runV (As := []) ⟨hx, hb, hml, hown, hts⟩ (c_Re_takeSplit l dC dI cI cZ a_t a_t_arcs a_t_levelArc a_t_levelIn a_t_levelNodes a_t_levelWeight a_t_row a_t_split a_t_weight a_t_least a_t_most a_t_isFree a_t_best a_t_above a_t_ordered a_t_parts H.size t_nodes t_kinds t_levels t_size t_base t_arcs t_levelArc t_levelIn t_levelNodes t_levelWeight t_row t_split t_weight r1 hr1) (cwV 0 hts (gV gw_830 gw_832 gw_34 gw_61 gw_833) rfl rfl rfl (yd_Re_takeSplit) ⟨Nat.le_of_ble_eq_true rfl, Nat.le_of_ble_eq_true rfl⟩) (mkV hK (hP.sub (ws' := (wd_Re_takeSplit cI cZ a_t a_t_arcs a_t_levelArc a_t_levelIn a_t_levelNodes a_t_levelWeight a_t_row a_t_split a_t_weight a_t_least a_t_most a_t_isFree a_t_best a_t_above a_t_ordered a_t_parts t_nodes t_kinds t_levels t_size t_base t_arcs t_levelArc t_levelIn t_levelNodes t_levelWeight t_row t_split t_weight)) [0, 1, 3, 4, 5, 6, 8, 9, 10] rfl) (hD.sub (ws' := (wd_Re_takeSplit cI cZ a_t a_t_arcs a_t_levelArc a_t_levelIn a_t_levelNodes a_t_levelWeight a_t_row a_t_split a_t_weight a_t_least a_t_most a_t_isFree a_t_best a_t_above a_t_ordered a_t_parts t_nodes t_kinds t_levels t_size t_base t_arcs t_levelArc t_levelIn t_levelNodes t_levelWeight t_row t_split t_weight)) [0, 1, 3, 4, 5, 6, 8, 9, 10] (by decide) rfl) hN (va_recv hK hP (ci := 9) (q0 := 0) rfl rfl)) rfl rfl hl.1 rfl (lv_room (Nat.le_of_ble_eq_true rfl)) dd_Re_over_1 ⟨Nat.zero_le _, Nat.zero_le _⟩) hP hD hS hA [0, 1, 3, 4, 5, 6, 8, 9, 10] [2, 7] [2, 3, 0, 4, 5, 6, 7, 1, 8, 9, 10] rfl rfl (by decide) (by decide) rfl (by decide) rfl (fun H locs hP hD hS => ?_)
  refine lv_aload_n hx hb dd_Re_over_4 rfl (lv_at hl 0 rfl) ?_
  obtain ⟨r5, hr5, hf⟩ := bind_some hf
  refine xcalll (rest := []) (wc := (wd_Re_rowOver cI cZ a_t a_t_least a_t_levelWeight a_t_most a_t_row a_t_weight a_t_arcs a_t_split a_t_levelNodes a_t_levelArc a_t_levelIn a_t_isFree a_t_best a_t_above a_t_ordered a_t_parts t_nodes t_kinds r1.1 r1.2.1 r1.2.2.1 t_least r1.2.2.2.2.2.2.1 t_most r1.2.2.2.2.2.2.2)) (w1 := (wd_Re_rowOver cI cZ a_t a_t_least a_t_levelWeight a_t_most a_t_row a_t_weight a_t_arcs a_t_split a_t_levelNodes a_t_levelArc a_t_levelIn a_t_isFree a_t_best a_t_above a_t_ordered a_t_parts t_nodes t_kinds r1.1 r1.2.1 r1.2.2.1 t_least r1.2.2.2.2.2.2.1 t_most r1.2.2.2.2.2.2.2)) (wr := [(a_t_arcs, .inl (cI, 1600, .inl t_arcs)), (a_t_levelArc, .inl (cI, 65600, .inl r1.2.2.2.1)), (a_t_levelIn, .inl (cI, 1640, .inl r1.2.2.2.2.1)), (a_t_levelNodes, .inl (cI, 41, .inl r1.2.2.2.2.2.1)), (a_t_split, .inl (cI, 40, .inl t_split)), (a_t_weight, .inl (cI, 40, .inl t_weight))]) (ws' := (wd_Re_over cI cZ a_t a_t_arcs a_t_least a_t_levelArc a_t_levelIn a_t_levelNodes a_t_levelWeight a_t_most a_t_row a_t_split a_t_weight a_t_isFree a_t_best a_t_above a_t_ordered a_t_parts t_nodes t_kinds r1.1 r1.2.1 r1.2.2.1 t_arcs t_least r1.2.2.2.1 r1.2.2.2.2.1 r1.2.2.2.2.2.1 r1.2.2.2.2.2.2.1 t_most r1.2.2.2.2.2.2.2 t_split t_weight)) (va_runV (As := []) ⟨hx, hb, hml, hown, hts⟩ (c_Re_rowOver l dC dI cI cZ a_t a_t_least a_t_levelWeight a_t_most a_t_row a_t_weight a_t_arcs a_t_split a_t_levelNodes a_t_levelArc a_t_levelIn a_t_isFree a_t_best a_t_above a_t_ordered a_t_parts H.size t_nodes t_kinds r1.1 r1.2.1 r1.2.2.1 t_least r1.2.2.2.2.2.2.1 t_most r1.2.2.2.2.2.2.2 r5 hr5) (cwV 0 hts (gV gw_862 gw_864 gw_40 gw_61 gw_865) rfl rfl rfl (yd_Re_rowOver) ⟨Nat.le_of_ble_eq_true rfl, Nat.le_of_ble_eq_true rfl⟩) (mkV hK (hP.sub (ws' := (wd_Re_rowOver cI cZ a_t a_t_least a_t_levelWeight a_t_most a_t_row a_t_weight a_t_arcs a_t_split a_t_levelNodes a_t_levelArc a_t_levelIn a_t_isFree a_t_best a_t_above a_t_ordered a_t_parts t_nodes t_kinds r1.1 r1.2.1 r1.2.2.1 t_least r1.2.2.2.2.2.2.1 t_most r1.2.2.2.2.2.2.2)) [0, 2, 6, 7, 8] rfl) (hD.sub (ws' := (wd_Re_rowOver cI cZ a_t a_t_least a_t_levelWeight a_t_most a_t_row a_t_weight a_t_arcs a_t_split a_t_levelNodes a_t_levelArc a_t_levelIn a_t_isFree a_t_best a_t_above a_t_ordered a_t_parts t_nodes t_kinds r1.1 r1.2.1 r1.2.2.1 t_least r1.2.2.2.2.2.2.1 t_most r1.2.2.2.2.2.2.2)) [0, 2, 6, 7, 8] (by decide) rfl) hN (va_recv hK hP (ci := 9) (q0 := 0) rfl rfl)) rfl rfl hl.1 rfl (lv_room (Nat.le_of_ble_eq_true rfl)) dd_Re_over_5 ⟨Nat.zero_le _, Nat.zero_le _⟩) hP hD hS hA [0, 2, 6, 7, 8] [1, 3, 4, 5, 9, 10] [6, 0, 7, 1, 2, 3, 8, 9, 10, 4, 5] rfl rfl (by decide) (by decide) rfl (by decide) rfl (fun H locs hP hD hS => ?_)
  refine lv_l2i hx hb dd_Re_over_8 rfl ?_
  have hf := Option.some.inj hf
  subst hf
  exact W.iret hx hb hr (fun t ht hW => ⟨⟨_, (), rfl, rfl, pst_of ht hP hD⟩, hS.F ht⟩) hS.2.2 dd_Re_over_9
abbrev wd_Re_gain (cI cZ : ClassId) (a_t a_t_arcs a_t_levelArc a_t_levelIn a_t_levelNodes a_t_levelWeight a_t_row a_t_split a_t_weight a_t_least a_t_most a_t_isFree a_t_best a_t_above a_t_ordered a_t_parts : Nat) (t_nodes : Int32) (t_kinds : Int32) (t_levels : Int32) (t_size : Int32) (t_base : Int32) (t_arcs : Nat → Int32) (t_levelArc : Nat → Int32) (t_levelIn : Nat → Int32) (t_levelNodes : Nat → Int32) (t_levelWeight : Nat → Int32) (t_row : Nat → Int32) (t_split : Nat → Int32) (t_weight : Nat → Int32) : va_W := [(a_t, .inr (9, [.int t_nodes, .int t_kinds, .ref a_t_weight, .ref a_t_arcs, .ref a_t_split, .ref a_t_least, .ref a_t_most, .int t_levels, .ref a_t_levelNodes, .ref a_t_levelWeight, .ref a_t_levelArc, .ref a_t_levelIn, .int t_size, .int t_base, .ref a_t_row, .ref a_t_isFree, .ref a_t_best, .ref a_t_above, .ref a_t_ordered, .ref a_t_parts])), (a_t_arcs, .inl (cI, 1600, .inl t_arcs)), (a_t_levelArc, .inl (cI, 65600, .inl t_levelArc)), (a_t_levelIn, .inl (cI, 1640, .inl t_levelIn)), (a_t_levelNodes, .inl (cI, 41, .inl t_levelNodes)), (a_t_levelWeight, .inl (cI, 1640, .inl t_levelWeight)), (a_t_row, .inl (cI, 40, .inl t_row)), (a_t_split, .inl (cI, 40, .inl t_split)), (a_t_weight, .inl (cI, 40, .inl t_weight))]
set_option maxRecDepth 100000 in
set_option maxHeartbeats 4000000 in
theorem c_Re_gain (l : Launch) (dC : Nat → ClassId) (dI : Nat → Nat → Nat) (cI cZ : ClassId) (a_t a_t_arcs a_t_levelArc a_t_levelIn a_t_levelNodes a_t_levelWeight a_t_row a_t_split a_t_weight a_t_least a_t_most a_t_isFree a_t_best a_t_above a_t_ordered a_t_parts sz : Nat) (x1 : Int32) (x2 : Int32) (t_nodes : Int32) (t_kinds : Int32) (t_levels : Int32) (t_size : Int32) (t_base : Int32) (t_arcs : Nat → Int32) (t_levelArc : Nat → Int32) (t_levelIn : Nat → Int32) (t_levelNodes : Nat → Int32) (t_levelWeight : Nat → Int32) (t_row : Nat → Int32) (t_split : Nat → Int32) (t_weight : Nat → Int32) (out : Int32 × Int32 × Int32 × Int32 × (Nat → Int32) × (Nat → Int32) × (Nat → Int32) × (Nat → Int32) × (Nat → Int32)) (hf : f_Re_gain x1 x2 t_nodes t_kinds t_levels t_size t_base t_arcs t_levelArc t_levelIn t_levelNodes t_levelWeight t_row t_split t_weight = some out) :
    Met l yy_Re_gain wq_Re_gain ({ frames := 4, cells := 0, slots := 0, locals := 102 }) (va_Pc ([.ref a_t, .int x1, .int x2] : List Value) (pre_ (dC, dI) cI cZ sz (wd_Re_gain cI cZ a_t a_t_arcs a_t_levelArc a_t_levelIn a_t_levelNodes a_t_levelWeight a_t_row a_t_split a_t_weight a_t_least a_t_most a_t_isFree a_t_best a_t_above a_t_ordered a_t_parts t_nodes t_kinds t_levels t_size t_base t_arcs t_levelArc t_levelIn t_levelNodes t_levelWeight t_row t_split t_weight))) (va_Qi (fun (r : Int32) (_ : Unit) => r = out.1) (fun _ => pst (dC, dI) (va_A (wd_Re_gain cI cZ a_t a_t_arcs a_t_levelArc a_t_levelIn a_t_levelNodes a_t_levelWeight a_t_row a_t_split a_t_weight a_t_least a_t_most a_t_isFree a_t_best a_t_above a_t_ordered a_t_parts t_nodes t_kinds t_levels t_size t_base t_arcs t_levelArc t_levelIn t_levelNodes t_levelWeight t_row t_split t_weight) sz) (wd_Re_gain cI cZ a_t a_t_arcs a_t_levelArc a_t_levelIn a_t_levelNodes a_t_levelWeight a_t_row a_t_split a_t_weight a_t_least a_t_most a_t_isFree a_t_best a_t_above a_t_ordered a_t_parts t_nodes t_kinds out.2.1 out.2.2.1 out.2.2.2.1 t_arcs out.2.2.2.2.1 out.2.2.2.2.2.1 out.2.2.2.2.2.2.1 out.2.2.2.2.2.2.2.1 out.2.2.2.2.2.2.2.2 t_split t_weight)) (va_A (wd_Re_gain cI cZ a_t a_t_arcs a_t_levelArc a_t_levelIn a_t_levelNodes a_t_levelWeight a_t_row a_t_split a_t_weight a_t_least a_t_most a_t_isFree a_t_best a_t_above a_t_ordered a_t_parts t_nodes t_kinds t_levels t_size t_base t_arcs t_levelArc t_levelIn t_levelNodes t_levelWeight t_row t_split t_weight) sz)) 0 0 (va_A (wd_Re_gain cI cZ a_t a_t_arcs a_t_levelArc a_t_levelIn a_t_levelNodes a_t_levelWeight a_t_row a_t_split a_t_weight a_t_least a_t_most a_t_isFree a_t_best a_t_above a_t_ordered a_t_parts t_nodes t_kinds t_levels t_size t_base t_arcs t_levelArc t_levelIn t_levelNodes t_levelWeight t_row t_split t_weight) sz) := by
  refine Met.ofW (cc := cc_Re_gain) (maxL := 3) (ret := (some .int)) (by decide) rfl ?_
  intro p e s m args below meth c s₁ B hml hv
  obtain ⟨rfl, hsz, hP, hK, hD0, hN⟩ := hv
  have hx := B.exec
  have hb := B.bytes
  have hr := B.returns
  have hts := atoms_spec (ws := wq_Re_gain) B.pre
  have hown : s.vm.findClass rr_Re = some m.cls := findClass_of_methodNamed B.named
  have hlocks := B.notSynchronized
  subst hsz
  have hD := hD0.self (sz := s.heap.size)
  generalize hAe : va_A (wd_Re_gain cI cZ a_t a_t_arcs a_t_levelArc a_t_levelIn a_t_levelNodes a_t_levelWeight a_t_row a_t_split a_t_weight a_t_least a_t_most a_t_isFree a_t_best a_t_above a_t_ordered a_t_parts t_nodes t_kinds t_levels t_size t_base t_arcs t_levelArc t_levelIn t_levelNodes t_levelWeight t_row t_split t_weight) s.heap.size = A at hD ⊢
  have hA : ∀ q : Nat, s.heap.size ≤ q → A q := fun q h => by rw [← hAe]; exact Or.inr h
  obtain ⟨H, hH⟩ : ∃ H : Heap, H = s.heap := ⟨_, rfl⟩
  have hS : va_S A s.heap H [] := by rw [hH]; exact va_S.rf
  have hl := lv_entry (([.ref a_t, .int x1, .int x2] : List Value)) (n := 3) (Nat.le_of_ble_eq_true rfl)
  rw [lg_entry_eq]
  generalize (lg_sl (([.ref a_t, .int x1, .int x2] : List Value)) ++ List.replicate (3 - (lg_sl (([.ref a_t, .int x1, .int x2] : List Value))).length) Slot.unset).toArray = ls at hl ⊢
  have hl : lv_has ls 3 [(0, .ref a_t), (1, .int x1), (2, .int x2)] := hl
  rw [← hH] at hP ⊢
  have hP : va_P (dC, dI) clsL (wd_Re_gain cI cZ a_t a_t_arcs a_t_levelArc a_t_levelIn a_t_levelNodes a_t_levelWeight a_t_row a_t_split a_t_weight a_t_least a_t_most a_t_isFree a_t_best a_t_above a_t_ordered a_t_parts t_nodes t_kinds t_levels t_size t_base t_arcs t_levelArc t_levelIn t_levelNodes t_levelWeight t_row t_split t_weight) H := hP
  unfold f_Re_gain at hf
  refine lv_aload_n hx hb dd_Re_gain_0 rfl (lv_at hl 0 rfl) ?_
  refine lv_iload_n hx hb dd_Re_gain_1 rfl (lv_at hl 1 rfl) ?_
  obtain ⟨r2, hr2, hf⟩ := bind_some hf
  refine xcalli (rest := []) (wc := (wd_Re_isNode cI cZ a_t a_t_weight a_t_arcs a_t_split a_t_least a_t_most a_t_levelNodes a_t_levelWeight a_t_levelArc a_t_levelIn a_t_row a_t_isFree a_t_best a_t_above a_t_ordered a_t_parts t_nodes t_kinds t_levels t_size t_base)) (w1 := (wd_Re_isNode cI cZ a_t a_t_weight a_t_arcs a_t_split a_t_least a_t_most a_t_levelNodes a_t_levelWeight a_t_levelArc a_t_levelIn a_t_row a_t_isFree a_t_best a_t_above a_t_ordered a_t_parts t_nodes t_kinds t_levels t_size t_base)) (wr := [(a_t_arcs, .inl (cI, 1600, .inl t_arcs)), (a_t_levelArc, .inl (cI, 65600, .inl t_levelArc)), (a_t_levelIn, .inl (cI, 1640, .inl t_levelIn)), (a_t_levelNodes, .inl (cI, 41, .inl t_levelNodes)), (a_t_levelWeight, .inl (cI, 1640, .inl t_levelWeight)), (a_t_row, .inl (cI, 40, .inl t_row)), (a_t_split, .inl (cI, 40, .inl t_split)), (a_t_weight, .inl (cI, 40, .inl t_weight))]) (ws' := (wd_Re_gain cI cZ a_t a_t_arcs a_t_levelArc a_t_levelIn a_t_levelNodes a_t_levelWeight a_t_row a_t_split a_t_weight a_t_least a_t_most a_t_isFree a_t_best a_t_above a_t_ordered a_t_parts t_nodes t_kinds t_levels t_size t_base t_arcs t_levelArc t_levelIn t_levelNodes t_levelWeight t_row t_split t_weight)) (va_runV (As := [.int x1]) ⟨hx, hb, hml, hown, hts⟩ (c_Re_isNode l dC dI cI cZ a_t a_t_weight a_t_arcs a_t_split a_t_least a_t_most a_t_levelNodes a_t_levelWeight a_t_levelArc a_t_levelIn a_t_row a_t_isFree a_t_best a_t_above a_t_ordered a_t_parts H.size x1 t_nodes t_kinds t_levels t_size t_base r2 hr2) (cwV 1 hts (gV gw_773 gw_775 gw_29 gw_61 gw_776) rfl rfl rfl (yd_Re_isNode) ⟨Nat.le_of_ble_eq_true rfl, Nat.le_of_ble_eq_true rfl⟩) (mkV hK (hP.sub (ws' := (wd_Re_isNode cI cZ a_t a_t_weight a_t_arcs a_t_split a_t_least a_t_most a_t_levelNodes a_t_levelWeight a_t_levelArc a_t_levelIn a_t_row a_t_isFree a_t_best a_t_above a_t_ordered a_t_parts t_nodes t_kinds t_levels t_size t_base)) [0] rfl) (hD.sub (ws' := (wd_Re_isNode cI cZ a_t a_t_weight a_t_arcs a_t_split a_t_least a_t_most a_t_levelNodes a_t_levelWeight a_t_levelArc a_t_levelIn a_t_row a_t_isFree a_t_best a_t_above a_t_ordered a_t_parts t_nodes t_kinds t_levels t_size t_base)) [0] (by decide) rfl) hN (va_recv hK hP (ci := 9) (q0 := 0) rfl rfl)) rfl rfl hl.1 rfl (lv_room (Nat.le_of_ble_eq_true rfl)) dd_Re_gain_2 ⟨Nat.zero_le _, Nat.zero_le _⟩) hP hD hS hA [0] [1, 2, 3, 4, 5, 6, 7, 8] [8, 0, 1, 2, 3, 4, 5, 6, 7] rfl rfl (by decide) (by decide) rfl (by decide) rfl (fun H locs hP hD hS => ?_)
  refine lv_if_eq (tgt := 16) hx hb dd_Re_gain_5 (by decide) (fun cc => ?_) (fun cc => ?_)
  · skip
    have hf := if_t cc hf
    refine lv_ldc (v := -100000000) hx hb hown (hts _ (gwc gw_870)) dd_Re_gain_16 ?_
    have hf := Option.some.inj hf
    subst hf
    exact W.iret hx hb hr (fun t ht hW => ⟨⟨_, (), rfl, rfl, pst_of ht hP hD⟩, hS.F ht⟩) hS.2.2 dd_Re_gain_18
  · skip
    have hf := if_f cc hf
    refine lv_aload_n hx hb dd_Re_gain_8 rfl (lv_at hl 0 rfl) ?_
    refine lv_iload_n hx hb dd_Re_gain_9 rfl (lv_at hl 2 rfl) ?_
    obtain ⟨r10, hr10, hf⟩ := bind_some hf
    refine xcalli (rest := []) (wc := (wd_Re_isPart cI cZ a_t a_t_weight a_t_arcs a_t_split a_t_least a_t_most a_t_levelNodes a_t_levelWeight a_t_levelArc a_t_levelIn a_t_row a_t_isFree a_t_best a_t_above a_t_ordered a_t_parts t_nodes t_kinds t_levels t_size t_base)) (w1 := (wd_Re_isPart cI cZ a_t a_t_weight a_t_arcs a_t_split a_t_least a_t_most a_t_levelNodes a_t_levelWeight a_t_levelArc a_t_levelIn a_t_row a_t_isFree a_t_best a_t_above a_t_ordered a_t_parts t_nodes t_kinds t_levels t_size t_base)) (wr := [(a_t_arcs, .inl (cI, 1600, .inl t_arcs)), (a_t_levelArc, .inl (cI, 65600, .inl t_levelArc)), (a_t_levelIn, .inl (cI, 1640, .inl t_levelIn)), (a_t_levelNodes, .inl (cI, 41, .inl t_levelNodes)), (a_t_levelWeight, .inl (cI, 1640, .inl t_levelWeight)), (a_t_row, .inl (cI, 40, .inl t_row)), (a_t_split, .inl (cI, 40, .inl t_split)), (a_t_weight, .inl (cI, 40, .inl t_weight))]) (ws' := (wd_Re_gain cI cZ a_t a_t_arcs a_t_levelArc a_t_levelIn a_t_levelNodes a_t_levelWeight a_t_row a_t_split a_t_weight a_t_least a_t_most a_t_isFree a_t_best a_t_above a_t_ordered a_t_parts t_nodes t_kinds t_levels t_size t_base t_arcs t_levelArc t_levelIn t_levelNodes t_levelWeight t_row t_split t_weight)) (va_runV (As := [.int x2]) ⟨hx, hb, hml, hown, hts⟩ (c_Re_isPart l dC dI cI cZ a_t a_t_weight a_t_arcs a_t_split a_t_least a_t_most a_t_levelNodes a_t_levelWeight a_t_levelArc a_t_levelIn a_t_row a_t_isFree a_t_best a_t_above a_t_ordered a_t_parts H.size x2 t_nodes t_kinds t_levels t_size t_base r10 hr10) (cwV 1 hts (gV gw_782 gw_784 gw_30 gw_61 gw_785) rfl rfl rfl (yd_Re_isPart) ⟨Nat.le_of_ble_eq_true rfl, Nat.le_of_ble_eq_true rfl⟩) (mkV hK (hP.sub (ws' := (wd_Re_isPart cI cZ a_t a_t_weight a_t_arcs a_t_split a_t_least a_t_most a_t_levelNodes a_t_levelWeight a_t_levelArc a_t_levelIn a_t_row a_t_isFree a_t_best a_t_above a_t_ordered a_t_parts t_nodes t_kinds t_levels t_size t_base)) [0] rfl) (hD.sub (ws' := (wd_Re_isPart cI cZ a_t a_t_weight a_t_arcs a_t_split a_t_least a_t_most a_t_levelNodes a_t_levelWeight a_t_levelArc a_t_levelIn a_t_row a_t_isFree a_t_best a_t_above a_t_ordered a_t_parts t_nodes t_kinds t_levels t_size t_base)) [0] (by decide) rfl) hN (va_recv hK hP (ci := 9) (q0 := 0) rfl rfl)) rfl rfl hl.1 rfl (lv_room (Nat.le_of_ble_eq_true rfl)) dd_Re_gain_10 ⟨Nat.zero_le _, Nat.zero_le _⟩) hP hD hS hA [0] [1, 2, 3, 4, 5, 6, 7, 8] [8, 0, 1, 2, 3, 4, 5, 6, 7] rfl rfl (by decide) (by decide) rfl (by decide) rfl (fun H locs hP hD hS => ?_)
    refine lv_if_ne (tgt := 19) hx hb dd_Re_gain_13 (by decide) (fun cc => ?_) (fun cc => ?_)
    · skip
      have hf := if_f cc hf
      refine lv_aload_n hx hb dd_Re_gain_19 rfl (lv_at hl 0 rfl) ?_
      obtain ⟨r20, hr20, hf⟩ := bind_some hf
      refine xcallv (rest := []) (wc := (wd_Re_takeSplit cI cZ a_t a_t_arcs a_t_levelArc a_t_levelIn a_t_levelNodes a_t_levelWeight a_t_row a_t_split a_t_weight a_t_least a_t_most a_t_isFree a_t_best a_t_above a_t_ordered a_t_parts t_nodes t_kinds t_levels t_size t_base t_arcs t_levelArc t_levelIn t_levelNodes t_levelWeight t_row t_split t_weight)) (w1 := (wd_Re_takeSplit cI cZ a_t a_t_arcs a_t_levelArc a_t_levelIn a_t_levelNodes a_t_levelWeight a_t_row a_t_split a_t_weight a_t_least a_t_most a_t_isFree a_t_best a_t_above a_t_ordered a_t_parts t_nodes t_kinds r20.1 r20.2.1 r20.2.2.1 t_arcs r20.2.2.2.1 r20.2.2.2.2.1 r20.2.2.2.2.2.1 r20.2.2.2.2.2.2.1 r20.2.2.2.2.2.2.2 t_split t_weight)) (wr := []) (ws' := (wd_Re_gain cI cZ a_t a_t_arcs a_t_levelArc a_t_levelIn a_t_levelNodes a_t_levelWeight a_t_row a_t_split a_t_weight a_t_least a_t_most a_t_isFree a_t_best a_t_above a_t_ordered a_t_parts t_nodes t_kinds r20.1 r20.2.1 r20.2.2.1 t_arcs r20.2.2.2.1 r20.2.2.2.2.1 r20.2.2.2.2.2.1 r20.2.2.2.2.2.2.1 r20.2.2.2.2.2.2.2 t_split t_weight)) (va_runV (As := []) ⟨hx, hb, hml, hown, hts⟩ (c_Re_takeSplit l dC dI cI cZ a_t a_t_arcs a_t_levelArc a_t_levelIn a_t_levelNodes a_t_levelWeight a_t_row a_t_split a_t_weight a_t_least a_t_most a_t_isFree a_t_best a_t_above a_t_ordered a_t_parts H.size t_nodes t_kinds t_levels t_size t_base t_arcs t_levelArc t_levelIn t_levelNodes t_levelWeight t_row t_split t_weight r20 hr20) (cwV 0 hts (gV gw_830 gw_832 gw_34 gw_61 gw_833) rfl rfl rfl (yd_Re_takeSplit) ⟨Nat.le_of_ble_eq_true rfl, Nat.le_of_ble_eq_true rfl⟩) (mkV hK (hP.sub (ws' := (wd_Re_takeSplit cI cZ a_t a_t_arcs a_t_levelArc a_t_levelIn a_t_levelNodes a_t_levelWeight a_t_row a_t_split a_t_weight a_t_least a_t_most a_t_isFree a_t_best a_t_above a_t_ordered a_t_parts t_nodes t_kinds t_levels t_size t_base t_arcs t_levelArc t_levelIn t_levelNodes t_levelWeight t_row t_split t_weight)) [0, 1, 2, 3, 4, 5, 6, 7, 8] rfl) (hD.sub (ws' := (wd_Re_takeSplit cI cZ a_t a_t_arcs a_t_levelArc a_t_levelIn a_t_levelNodes a_t_levelWeight a_t_row a_t_split a_t_weight a_t_least a_t_most a_t_isFree a_t_best a_t_above a_t_ordered a_t_parts t_nodes t_kinds t_levels t_size t_base t_arcs t_levelArc t_levelIn t_levelNodes t_levelWeight t_row t_split t_weight)) [0, 1, 2, 3, 4, 5, 6, 7, 8] (by decide) rfl) hN (va_recv hK hP (ci := 9) (q0 := 0) rfl rfl)) rfl rfl hl.1 rfl (lv_room (Nat.le_of_ble_eq_true rfl)) dd_Re_gain_20 ⟨Nat.zero_le _, Nat.zero_le _⟩) hP hD hS hA [0, 1, 2, 3, 4, 5, 6, 7, 8] [] [0, 1, 2, 3, 4, 5, 6, 7, 8] rfl rfl (by decide) (by decide) rfl (by decide) rfl (fun H locs hP hD hS => ?_)
      refine lv_aload_n hx hb dd_Re_gain_23 rfl (lv_at hl 0 rfl) ?_
      refine lv_iload_n hx hb dd_Re_gain_24 rfl (lv_at hl 1 rfl) ?_
      refine lv_iload_n hx hb dd_Re_gain_25 rfl (lv_at hl 2 rfl) ?_
      obtain ⟨r26, hr26, hf⟩ := bind_some hf
      refine xcalll (rest := []) (wc := (wd_Re_rowGain cI cZ a_t a_t_levelArc a_t_row a_t_weight a_t_arcs a_t_split a_t_least a_t_most a_t_levelNodes a_t_levelWeight a_t_levelIn a_t_isFree a_t_best a_t_above a_t_ordered a_t_parts t_nodes t_kinds r20.1 r20.2.1 r20.2.2.1 r20.2.2.2.1 r20.2.2.2.2.2.2.2)) (w1 := (wd_Re_rowGain cI cZ a_t a_t_levelArc a_t_row a_t_weight a_t_arcs a_t_split a_t_least a_t_most a_t_levelNodes a_t_levelWeight a_t_levelIn a_t_isFree a_t_best a_t_above a_t_ordered a_t_parts t_nodes t_kinds r20.1 r20.2.1 r20.2.2.1 r20.2.2.2.1 r20.2.2.2.2.2.2.2)) (wr := [(a_t_arcs, .inl (cI, 1600, .inl t_arcs)), (a_t_levelIn, .inl (cI, 1640, .inl r20.2.2.2.2.1)), (a_t_levelNodes, .inl (cI, 41, .inl r20.2.2.2.2.2.1)), (a_t_levelWeight, .inl (cI, 1640, .inl r20.2.2.2.2.2.2.1)), (a_t_split, .inl (cI, 40, .inl t_split)), (a_t_weight, .inl (cI, 40, .inl t_weight))]) (ws' := (wd_Re_gain cI cZ a_t a_t_arcs a_t_levelArc a_t_levelIn a_t_levelNodes a_t_levelWeight a_t_row a_t_split a_t_weight a_t_least a_t_most a_t_isFree a_t_best a_t_above a_t_ordered a_t_parts t_nodes t_kinds r20.1 r20.2.1 r20.2.2.1 t_arcs r20.2.2.2.1 r20.2.2.2.2.1 r20.2.2.2.2.2.1 r20.2.2.2.2.2.2.1 r20.2.2.2.2.2.2.2 t_split t_weight)) (va_runV (As := [.int x1, .int x2]) ⟨hx, hb, hml, hown, hts⟩ (c_Re_rowGain l dC dI cI cZ a_t a_t_levelArc a_t_row a_t_weight a_t_arcs a_t_split a_t_least a_t_most a_t_levelNodes a_t_levelWeight a_t_levelIn a_t_isFree a_t_best a_t_above a_t_ordered a_t_parts H.size x1 x2 t_nodes t_kinds r20.1 r20.2.1 r20.2.2.1 r20.2.2.2.1 r20.2.2.2.2.2.2.2 r26 hr26) (cwV 2 hts (gV gw_871 gw_873 gw_41 gw_61 gw_874) rfl rfl rfl (yd_Re_rowGain) ⟨Nat.le_of_ble_eq_true rfl, Nat.le_of_ble_eq_true rfl⟩) (mkV hK (hP.sub (ws' := (wd_Re_rowGain cI cZ a_t a_t_levelArc a_t_row a_t_weight a_t_arcs a_t_split a_t_least a_t_most a_t_levelNodes a_t_levelWeight a_t_levelIn a_t_isFree a_t_best a_t_above a_t_ordered a_t_parts t_nodes t_kinds r20.1 r20.2.1 r20.2.2.1 r20.2.2.2.1 r20.2.2.2.2.2.2.2)) [0, 2, 6] rfl) (hD.sub (ws' := (wd_Re_rowGain cI cZ a_t a_t_levelArc a_t_row a_t_weight a_t_arcs a_t_split a_t_least a_t_most a_t_levelNodes a_t_levelWeight a_t_levelIn a_t_isFree a_t_best a_t_above a_t_ordered a_t_parts t_nodes t_kinds r20.1 r20.2.1 r20.2.2.1 r20.2.2.2.1 r20.2.2.2.2.2.2.2)) [0, 2, 6] (by decide) rfl) hN (va_recv hK hP (ci := 9) (q0 := 0) rfl rfl)) rfl rfl hl.1 rfl (lv_room (Nat.le_of_ble_eq_true rfl)) dd_Re_gain_26 ⟨Nat.zero_le _, Nat.zero_le _⟩) hP hD hS hA [0, 2, 6] [1, 3, 4, 5, 7, 8] [6, 0, 7, 1, 2, 3, 8, 4, 5] rfl rfl (by decide) (by decide) rfl (by decide) rfl (fun H locs hP hD hS => ?_)
      refine lv_l2i hx hb dd_Re_gain_29 rfl ?_
      have hf := Option.some.inj hf
      subst hf
      exact W.iret hx hb hr (fun t ht hW => ⟨⟨_, (), rfl, rfl, pst_of ht hP hD⟩, hS.F ht⟩) hS.2.2 dd_Re_gain_30
    · skip
      have hf := if_t cc hf
      refine lv_ldc (v := -100000000) hx hb hown (hts _ (gwc gw_870)) dd_Re_gain_16 ?_
      have hf := Option.some.inj hf
      subst hf
      exact W.iret hx hb hr (fun t ht hW => ⟨⟨_, (), rfl, rfl, pst_of ht hP hD⟩, hS.F ht⟩) hS.2.2 dd_Re_gain_18
