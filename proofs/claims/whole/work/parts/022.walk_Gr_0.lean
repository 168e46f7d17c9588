abbrev wd_Gr_has (cI cZ : ClassId) (a_t a_t_weight a_t_arcs : Nat) (t_size : Int32) : va_W := [(a_t, .inr (1, [.int t_size, .ref a_t_weight, .ref a_t_arcs]))]
set_option maxRecDepth 100000 in
set_option maxHeartbeats 4000000 in
theorem c_Gr_has (l : Launch) (dC : Nat → ClassId) (dI : Nat → Nat → Nat) (cI cZ : ClassId) (a_t a_t_weight a_t_arcs sz : Nat) (x1 : Int32) (t_size : Int32) (out : Int32) (hf : f_Gr_has x1 t_size = some out) :
    Met l yy_Gr_has wq_Gr_has ({ frames := 0, cells := 0, slots := 0, locals := 0 }) (va_Pc ([.ref a_t, .int x1] : List Value) (pre_ (dC, dI) cI cZ sz (wd_Gr_has cI cZ a_t a_t_weight a_t_arcs t_size))) (va_Qi (fun (r : Int32) (_ : Unit) => r = out) (fun _ => pst (dC, dI) (va_A (wd_Gr_has cI cZ a_t a_t_weight a_t_arcs t_size) sz) (wd_Gr_has cI cZ a_t a_t_weight a_t_arcs t_size)) (va_A (wd_Gr_has cI cZ a_t a_t_weight a_t_arcs t_size) sz)) 0 0 (va_A (wd_Gr_has cI cZ a_t a_t_weight a_t_arcs t_size) sz) := by
  refine Met.ofW (cc := cc_Gr_has) (maxL := 2) (ret := (some .boolean)) (by decide) rfl ?_
  intro p e s m args below meth c s₁ B hml hv
  obtain ⟨rfl, hsz, hP, hK, hD0, hN⟩ := hv
  have hx := B.exec
  have hb := B.bytes
  have hr := B.returns
  have hts := atoms_spec (ws := wq_Gr_has) B.pre
  have hown : s.vm.findClass rr_Gr = some m.cls := findClass_of_methodNamed B.named
  have hlocks := B.notSynchronized
  subst hsz
  have hD := hD0.self (sz := s.heap.size)
  generalize hAe : va_A (wd_Gr_has cI cZ a_t a_t_weight a_t_arcs t_size) s.heap.size = A at hD ⊢
  have hA : ∀ q : Nat, s.heap.size ≤ q → A q := fun q h => by rw [← hAe]; exact Or.inr h
  obtain ⟨H, hH⟩ : ∃ H : Heap, H = s.heap := ⟨_, rfl⟩
  have hS : va_S A s.heap H [] := by rw [hH]; exact va_S.rf
  have hl := lv_entry (([.ref a_t, .int x1] : List Value)) (n := 2) (Nat.le_of_ble_eq_true rfl)
  rw [lg_entry_eq]
  generalize (lg_sl (([.ref a_t, .int x1] : List Value)) ++ List.replicate (2 - (lg_sl (([.ref a_t, .int x1] : List Value))).length) Slot.unset).toArray = ls at hl ⊢
  have hl : lv_has ls 2 [(0, .ref a_t), (1, .int x1)] := hl
  rw [← hH] at hP ⊢
  have hP : va_P (dC, dI) clsL (wd_Gr_has cI cZ a_t a_t_weight a_t_arcs t_size) H := hP
  unfold f_Gr_has at hf
  refine lv_iload_n hx hb dd_Gr_has_0 rfl (lv_at hl 1 rfl) ?_
  refine lv_if_lt (tgt := 16) hx hb dd_Gr_has_1 (by decide) (fun cc => ?_) (fun cc => ?_)
  · skip
    have hf := if_t cc hf
    refine lv_iconst (v := 0) hx hb dd_Gr_has_16 (by decide) ?_
    cases hf
    exact W.zret hx hb hr narrow_b0 (fun t ht hW => ⟨⟨_, (), rfl, rfl, pst_of ht hP hD⟩, hS.F ht⟩) hS.2.2 dd_Gr_has_17
  · skip
    have hf := if_f cc hf
    refine lv_iload_n hx hb dd_Gr_has_4 rfl (lv_at hl 1 rfl) ?_
    refine lv_aload_n hx hb dd_Gr_has_5 rfl (lv_at hl 0 rfl) ?_
    refine va_get (D := (dC, dI)) (ci := 1) (v := .int t_size) (C := rr_Gr) (T := tt_Gr) (N := 3) hx hb hts (fun w h => gwc (inn_Gr w h)) hown hK hP 0 rfl rfl 0 (by decide) (hts _ (gwc gw_85)) (fun _ h9 => h9) rfl dd_Gr_has_6 ?_
    refine lv_icmp_ge (tgt := 16) hx hb dd_Gr_has_9 (by decide) (fun cc => ?_) (fun cc => ?_)
    · skip
      have hf := if_t cc hf
      refine lv_iconst (v := 0) hx hb dd_Gr_has_16 (by decide) ?_
      cases hf
      exact W.zret hx hb hr narrow_b0 (fun t ht hW => ⟨⟨_, (), rfl, rfl, pst_of ht hP hD⟩, hS.F ht⟩) hS.2.2 dd_Gr_has_17
    · skip
      have hf := if_f cc hf
      refine lv_iconst (v := 1) hx hb dd_Gr_has_12 (by decide) ?_
      refine lv_goto (tgt := 17) hx hb dd_Gr_has_13 (by decide) ?_
      cases hf
      exact W.zret hx hb hr narrow_b1 (fun t ht hW => ⟨⟨_, (), rfl, rfl, pst_of ht hP hD⟩, hS.F ht⟩) hS.2.2 dd_Gr_has_17
abbrev wd_Gr_empty (cI cZ : ClassId) (a_t a_t_arcs a_t_weight : Nat) (t_size : Int32) (t_arcs : Nat → Int32) (t_weight : Nat → Int32) : va_W := [(a_t, .inr (1, [.int t_size, .ref a_t_weight, .ref a_t_arcs])), (a_t_arcs, .inl (cI, 1600, .inl t_arcs)), (a_t_weight, .inl (cI, 40, .inl t_weight))]
set_option maxRecDepth 100000 in
set_option maxHeartbeats 4000000 in
theorem c_Gr_empty (l : Launch) (dC : Nat → ClassId) (dI : Nat → Nat → Nat) (cI cZ : ClassId) (a_t a_t_arcs a_t_weight sz : Nat) (x1 : Int32) (t_size : Int32) (t_arcs : Nat → Int32) (t_weight : Nat → Int32) (out : Int32 × (Nat → Int32) × (Nat → Int32)) (hf : f_Gr_empty x1 = some out) :
    Met l yy_Gr_empty wq_Gr_empty ({ frames := 1, cells := 0, slots := 0, locals := 23 }) (va_Pc ([.ref a_t, .int x1] : List Value) (pre_ (dC, dI) cI cZ sz (wd_Gr_empty cI cZ a_t a_t_arcs a_t_weight t_size t_arcs t_weight))) (va_Qv (fun _ : Unit => True) (fun _ => pst (dC, dI) (va_A (wd_Gr_empty cI cZ a_t a_t_arcs a_t_weight t_size t_arcs t_weight) sz) (wd_Gr_empty cI cZ a_t a_t_arcs a_t_weight out.1 out.2.1 out.2.2)) (va_A (wd_Gr_empty cI cZ a_t a_t_arcs a_t_weight t_size t_arcs t_weight) sz)) 0 0 (va_A (wd_Gr_empty cI cZ a_t a_t_arcs a_t_weight t_size t_arcs t_weight) sz) := by
  refine Met.ofW (cc := cc_Gr_empty) (maxL := 2) (ret := none) (by decide) rfl ?_
  intro p e s m args below meth c s₁ B hml hv
  obtain ⟨rfl, hsz, hP, hK, hD0, hN⟩ := hv
  have hx := B.exec
  have hb := B.bytes
  have hr := B.returns
  have hts := atoms_spec (ws := wq_Gr_empty) B.pre
  have hown : s.vm.findClass rr_Gr = some m.cls := findClass_of_methodNamed B.named
  have hlocks := B.notSynchronized
  subst hsz
  have hD := hD0.self (sz := s.heap.size)
  generalize hAe : va_A (wd_Gr_empty cI cZ a_t a_t_arcs a_t_weight t_size t_arcs t_weight) s.heap.size = A at hD ⊢
  have hA : ∀ q : Nat, s.heap.size ≤ q → A q := fun q h => by rw [← hAe]; exact Or.inr h
  obtain ⟨H, hH⟩ : ∃ H : Heap, H = s.heap := ⟨_, rfl⟩
  have hS : va_S A s.heap H [] := by rw [hH]; exact va_S.rf
  have hl := lv_entry (([.ref a_t, .int x1] : List Value)) (n := 2) (Nat.le_of_ble_eq_true rfl)
  rw [lg_entry_eq]
  generalize (lg_sl (([.ref a_t, .int x1] : List Value)) ++ List.replicate (2 - (lg_sl (([.ref a_t, .int x1] : List Value))).length) Slot.unset).toArray = ls at hl ⊢
  have hl : lv_has ls 2 [(0, .ref a_t), (1, .int x1)] := hl
  rw [← hH] at hP ⊢
  have hP : va_P (dC, dI) clsL (wd_Gr_empty cI cZ a_t a_t_arcs a_t_weight t_size t_arcs t_weight) H := hP
  unfold f_Gr_empty at hf
  refine lv_aload_n hx hb dd_Gr_empty_0 rfl (lv_at hl 0 rfl) ?_
  refine lv_iload_n hx hb dd_Gr_empty_1 rfl (lv_at hl 1 rfl) ?_
  refine va_put (D := (dC, dI)) (ci := 1) (v := .int x1) (ty := .int) (C := rr_Gr) (T := tt_Gr) (N := 3) hx hb hts (fun w h => gwc (inn_Gr w h)) tf_Gr to_Gr tn_Gr hown hK hP hD hS 0 rfl rfl 0 (by decide) (hts _ (gwc gw_85)) (fun _ h9 => h9) rfl (by decide +kernel) rfl rfl (Nat.le_of_ble_eq_true rfl) dd_Gr_empty_2 (fun H locs hP hD hS => ?_)
  have hP : va_P (dC, dI) clsL (wd_Gr_empty cI cZ a_t a_t_arcs a_t_weight x1 t_arcs t_weight) H := hP
  have hD : va_D A (wd_Gr_empty cI cZ a_t a_t_arcs a_t_weight x1 t_arcs t_weight) := hD
  refine lv_aload_n hx hb dd_Gr_empty_5 rfl (lv_at hl 0 rfl) ?_
  refine va_get (D := (dC, dI)) (ci := 1) (v := .ref a_t_weight) (C := rr_Gr) (T := tt_Gr) (N := 3) hx hb hts (fun w h => gwc (inn_Gr w h)) hown hK hP 0 rfl rfl 1 (by decide) (hts _ (gwc gw_92)) (fun _ h9 => h9) rfl dd_Gr_empty_6 ?_
  refine lv_iconst (v := 0) hx hb dd_Gr_empty_9 (by decide) ?_
  refine xcallv (rest := []) (wc := [(a_t_weight, .inl (cI, 40, .inl t_weight))]) (w1 := [(a_t_weight, .inl (cI, 40, .inl (fun _ => 0)))]) (wr := [(a_t, .inr (1, [.int x1, .ref a_t_weight, .ref a_t_arcs])), (a_t_arcs, .inl (cI, 1600, .inl t_arcs))]) (ws' := (wd_Gr_empty cI cZ a_t a_t_arcs a_t_weight x1 t_arcs (fun _ => 0))) (va_runS (As := [.ref a_t_weight, .int 0]) ⟨hx, hb, hml, hown, hts⟩ (c_fill l dC dI cI cZ a_t_weight H.size 40 (by decide) t_weight 0) (va_cwS 2 hts (gS gw_362 gw_339 gw_62 gw_340) rfl rfl rfl yd_fill ⟨Nat.le_of_ble_eq_true rfl, Nat.le_of_ble_eq_true rfl⟩) (mkS hK (hP.sub (ws' := [(a_t_weight, .inl (cI, 40, .inl t_weight))]) [2] rfl) (hD.sub (ws' := [(a_t_weight, .inl (cI, 40, .inl t_weight))]) [2] (by decide) rfl) hN) rfl rfl hl.1 rfl (lv_room (Nat.le_of_ble_eq_true rfl)) dd_Gr_empty_10 ⟨Nat.zero_le _, Nat.zero_le _⟩) hP hD hS hA [2] [0, 1] [0, 1, 2] rfl rfl (by decide) (by decide) rfl (by decide) rfl (fun H locs hP hD hS => ?_)
  have hP : va_P (dC, dI) clsL (wd_Gr_empty cI cZ a_t a_t_arcs a_t_weight x1 t_arcs (fun _ => 0)) H := hP
  have hD : va_D A (wd_Gr_empty cI cZ a_t a_t_arcs a_t_weight x1 t_arcs (fun _ => 0)) := hD
  refine lv_aload_n hx hb dd_Gr_empty_13 rfl (lv_at hl 0 rfl) ?_
  refine va_get (D := (dC, dI)) (ci := 1) (v := .ref a_t_arcs) (C := rr_Gr) (T := tt_Gr) (N := 3) hx hb hts (fun w h => gwc (inn_Gr w h)) hown hK hP 0 rfl rfl 2 (by decide) (hts _ (gwc gw_98)) (fun _ h9 => h9) rfl dd_Gr_empty_14 ?_
  refine lv_iconst (v := 0) hx hb dd_Gr_empty_17 (by decide) ?_
  refine xcallv (rest := []) (wc := [(a_t_arcs, .inl (cI, 1600, .inl t_arcs))]) (w1 := [(a_t_arcs, .inl (cI, 1600, .inl (fun _ => 0)))]) (wr := [(a_t, .inr (1, [.int x1, .ref a_t_weight, .ref a_t_arcs])), (a_t_weight, .inl (cI, 40, .inl (fun _ => 0)))]) (ws' := (wd_Gr_empty cI cZ a_t a_t_arcs a_t_weight x1 (fun _ => 0) (fun _ => 0))) (va_runS (As := [.ref a_t_arcs, .int 0]) ⟨hx, hb, hml, hown, hts⟩ (c_fill l dC dI cI cZ a_t_arcs H.size 1600 (by decide) t_arcs 0) (va_cwS 2 hts (gS gw_362 gw_339 gw_62 gw_340) rfl rfl rfl yd_fill ⟨Nat.le_of_ble_eq_true rfl, Nat.le_of_ble_eq_true rfl⟩) (mkS hK (hP.sub (ws' := [(a_t_arcs, .inl (cI, 1600, .inl t_arcs))]) [1] rfl) (hD.sub (ws' := [(a_t_arcs, .inl (cI, 1600, .inl t_arcs))]) [1] (by decide) rfl) hN) rfl rfl hl.1 rfl (lv_room (Nat.le_of_ble_eq_true rfl)) dd_Gr_empty_18 ⟨Nat.zero_le _, Nat.zero_le _⟩) hP hD hS hA [1] [0, 2] [0, 2, 1] rfl rfl (by decide) (by decide) rfl (by decide) rfl (fun H locs hP hD hS => ?_)
  have hP : va_P (dC, dI) clsL (wd_Gr_empty cI cZ a_t a_t_arcs a_t_weight x1 (fun _ => 0) (fun _ => 0)) H := hP
  have hD : va_D A (wd_Gr_empty cI cZ a_t a_t_arcs a_t_weight x1 (fun _ => 0) (fun _ => 0)) := hD
  cases hf
  exact W.vret hx hb hr (fun t ht hW => ⟨⟨(), rfl, trivial, pst_of ht hP hD⟩, hS.F ht⟩) hS.2.2 dd_Gr_empty_21
abbrev wd_Gr_arcOf (cI cZ : ClassId) (a_t a_t_arcs a_t_weight : Nat) (t_size : Int32) (t_arcs : Nat → Int32) : va_W := [(a_t, .inr (1, [.int t_size, .ref a_t_weight, .ref a_t_arcs])), (a_t_arcs, .inl (cI, 1600, .inl t_arcs))]
set_option maxRecDepth 100000 in
set_option maxHeartbeats 4000000 in
theorem c_Gr_arcOf (l : Launch) (dC : Nat → ClassId) (dI : Nat → Nat → Nat) (cI cZ : ClassId) (a_t a_t_arcs a_t_weight sz : Nat) (x1 : Int32) (x2 : Int32) (t_size : Int32) (t_arcs : Nat → Int32) (out : Int32) (hf : f_Gr_arcOf x1 x2 t_arcs = some out) :
    Met l yy_Gr_arcOf wq_Gr_arcOf ({ frames := 0, cells := 0, slots := 0, locals := 0 }) (va_Pc ([.ref a_t, .int x1, .int x2] : List Value) (pre_ (dC, dI) cI cZ sz (wd_Gr_arcOf cI cZ a_t a_t_arcs a_t_weight t_size t_arcs))) (va_Qi (fun (r : Int32) (_ : Unit) => r = out) (fun _ => pst (dC, dI) (va_A (wd_Gr_arcOf cI cZ a_t a_t_arcs a_t_weight t_size t_arcs) sz) (wd_Gr_arcOf cI cZ a_t a_t_arcs a_t_weight t_size t_arcs)) (va_A (wd_Gr_arcOf cI cZ a_t a_t_arcs a_t_weight t_size t_arcs) sz)) 0 0 (va_A (wd_Gr_arcOf cI cZ a_t a_t_arcs a_t_weight t_size t_arcs) sz) := by
  refine Met.ofW (cc := cc_Gr_arcOf) (maxL := 3) (ret := (some .int)) (by decide) rfl ?_
  intro p e s m args below meth c s₁ B hml hv
  obtain ⟨rfl, hsz, hP, hK, hD0, hN⟩ := hv
  have hx := B.exec
  have hb := B.bytes
  have hr := B.returns
  have hts := atoms_spec (ws := wq_Gr_arcOf) B.pre
  have hown : s.vm.findClass rr_Gr = some m.cls := findClass_of_methodNamed B.named
  have hlocks := B.notSynchronized
  subst hsz
  have hD := hD0.self (sz := s.heap.size)
  generalize hAe : va_A (wd_Gr_arcOf cI cZ a_t a_t_arcs a_t_weight t_size t_arcs) s.heap.size = A at hD ⊢
  have hA : ∀ q : Nat, s.heap.size ≤ q → A q := fun q h => by rw [← hAe]; exact Or.inr h
  obtain ⟨H, hH⟩ : ∃ H : Heap, H = s.heap := ⟨_, rfl⟩
  have hS : va_S A s.heap H [] := by rw [hH]; exact va_S.rf
  have hl := lv_entry (([.ref a_t, .int x1, .int x2] : List Value)) (n := 3) (Nat.le_of_ble_eq_true rfl)
  rw [lg_entry_eq]
  generalize (lg_sl (([.ref a_t, .int x1, .int x2] : List Value)) ++ List.replicate (3 - (lg_sl (([.ref a_t, .int x1, .int x2] : List Value))).length) Slot.unset).toArray = ls at hl ⊢
  have hl : lv_has ls 3 [(0, .ref a_t), (1, .int x1), (2, .int x2)] := hl
  rw [← hH] at hP ⊢
  have hP : va_P (dC, dI) clsL (wd_Gr_arcOf cI cZ a_t a_t_arcs a_t_weight t_size t_arcs) H := hP
  unfold f_Gr_arcOf at hf
  refine lv_aload_n hx hb dd_Gr_arcOf_0 rfl (lv_at hl 0 rfl) ?_
  refine va_get (D := (dC, dI)) (ci := 1) (v := .ref a_t_arcs) (C := rr_Gr) (T := tt_Gr) (N := 3) hx hb hts (fun w h => gwc (inn_Gr w h)) hown hK hP 0 rfl rfl 2 (by decide) (hts _ (gwc gw_98)) (fun _ h9 => h9) rfl dd_Gr_arcOf_1 ?_
  refine lv_iload_n hx hb dd_Gr_arcOf_4 rfl (lv_at hl 1 rfl) ?_
  refine lv_bipush (v := 40) hx hb dd_Gr_arcOf_5 (by decide) ?_
  refine lv_imul hx hb dd_Gr_arcOf_7 ?_
  refine lv_iload_n hx hb dd_Gr_arcOf_8 rfl (lv_at hl 2 rfl) ?_
  refine lv_iadd hx hb dd_Gr_arcOf_9 ?_
  obtain ⟨k10, hf⟩ := ck_some hf
  refine va_iald hx hb hK hP 1 0 rfl rfl (okb_in k10) dd_Gr_arcOf_10 ?_
  cases hf
  exact W.iret hx hb hr (fun t ht hW => ⟨⟨_, (), rfl, rfl, pst_of ht hP hD⟩, hS.F ht⟩) hS.2.2 dd_Gr_arcOf_11
abbrev wd_Gr_addArc (cI cZ : ClassId) (a_t a_t_arcs a_t_weight : Nat) (t_size : Int32) (t_arcs : Nat → Int32) : va_W := [(a_t, .inr (1, [.int t_size, .ref a_t_weight, .ref a_t_arcs])), (a_t_arcs, .inl (cI, 1600, .inl t_arcs))]
set_option maxRecDepth 100000 in
set_option maxHeartbeats 4000000 in
theorem c_Gr_addArc (l : Launch) (dC : Nat → ClassId) (dI : Nat → Nat → Nat) (cI cZ : ClassId) (a_t a_t_arcs a_t_weight sz : Nat) (x1 : Int32) (x2 : Int32) (x3 : Int32) (t_size : Int32) (t_arcs : Nat → Int32) (out : (Nat → Int32)) (hf : f_Gr_addArc x1 x2 x3 t_arcs = some out) :
    Met l yy_Gr_addArc wq_Gr_addArc ({ frames := 0, cells := 0, slots := 0, locals := 0 }) (va_Pc ([.ref a_t, .int x1, .int x2, .int x3] : List Value) (pre_ (dC, dI) cI cZ sz (wd_Gr_addArc cI cZ a_t a_t_arcs a_t_weight t_size t_arcs))) (va_Qv (fun _ : Unit => True) (fun _ => pst (dC, dI) (va_A (wd_Gr_addArc cI cZ a_t a_t_arcs a_t_weight t_size t_arcs) sz) (wd_Gr_addArc cI cZ a_t a_t_arcs a_t_weight t_size out)) (va_A (wd_Gr_addArc cI cZ a_t a_t_arcs a_t_weight t_size t_arcs) sz)) 0 0 (va_A (wd_Gr_addArc cI cZ a_t a_t_arcs a_t_weight t_size t_arcs) sz) := by
  refine Met.ofW (cc := cc_Gr_addArc) (maxL := 4) (ret := none) (by decide) rfl ?_
  intro p e s m args below meth c s₁ B hml hv
  obtain ⟨rfl, hsz, hP, hK, hD0, hN⟩ := hv
  have hx := B.exec
  have hb := B.bytes
  have hr := B.returns
  have hts := atoms_spec (ws := wq_Gr_addArc) B.pre
  have hown : s.vm.findClass rr_Gr = some m.cls := findClass_of_methodNamed B.named
  have hlocks := B.notSynchronized
  subst hsz
  have hD := hD0.self (sz := s.heap.size)
  generalize hAe : va_A (wd_Gr_addArc cI cZ a_t a_t_arcs a_t_weight t_size t_arcs) s.heap.size = A at hD ⊢
  have hA : ∀ q : Nat, s.heap.size ≤ q → A q := fun q h => by rw [← hAe]; exact Or.inr h
  obtain ⟨H, hH⟩ : ∃ H : Heap, H = s.heap := ⟨_, rfl⟩
  have hS : va_S A s.heap H [] := by rw [hH]; exact va_S.rf
  have hl := lv_entry (([.ref a_t, .int x1, .int x2, .int x3] : List Value)) (n := 4) (Nat.le_of_ble_eq_true rfl)
  rw [lg_entry_eq]
  generalize (lg_sl (([.ref a_t, .int x1, .int x2, .int x3] : List Value)) ++ List.replicate (4 - (lg_sl (([.ref a_t, .int x1, .int x2, .int x3] : List Value))).length) Slot.unset).toArray = ls at hl ⊢
  have hl : lv_has ls 4 [(0, .ref a_t), (1, .int x1), (2, .int x2), (3, .int x3)] := hl
  rw [← hH] at hP ⊢
  have hP : va_P (dC, dI) clsL (wd_Gr_addArc cI cZ a_t a_t_arcs a_t_weight t_size t_arcs) H := hP
  unfold f_Gr_addArc at hf
  refine lv_aload_n hx hb dd_Gr_addArc_0 rfl (lv_at hl 0 rfl) ?_
  refine va_get (D := (dC, dI)) (ci := 1) (v := .ref a_t_arcs) (C := rr_Gr) (T := tt_Gr) (N := 3) hx hb hts (fun w h => gwc (inn_Gr w h)) hown hK hP 0 rfl rfl 2 (by decide) (hts _ (gwc gw_98)) (fun _ h9 => h9) rfl dd_Gr_addArc_1 ?_
  refine lv_iload_n hx hb dd_Gr_addArc_4 rfl (lv_at hl 1 rfl) ?_
  refine lv_bipush (v := 40) hx hb dd_Gr_addArc_5 (by decide) ?_
  refine lv_imul hx hb dd_Gr_addArc_7 ?_
  refine lv_iload_n hx hb dd_Gr_addArc_8 rfl (lv_at hl 2 rfl) ?_
  refine lv_iadd hx hb dd_Gr_addArc_9 ?_
  refine lv_dup2_11 hx hb dd_Gr_addArc_10 rfl rfl ?_
  obtain ⟨k11, hf⟩ := ck_some hf
  refine va_iald hx hb hK hP 1 0 rfl rfl (okb_in k11) dd_Gr_addArc_11 ?_
  refine lv_iload_n hx hb dd_Gr_addArc_12 rfl (lv_at hl 3 rfl) ?_
  refine lv_iadd hx hb dd_Gr_addArc_13 ?_
  obtain ⟨k14, hf⟩ := ck_some hf
  refine va_iast hx hb hK hP hD hS 1 0 rfl rfl (okb_in k14) dd_Gr_addArc_14 (fun H locs hP hD hS => ?_)
  have hP : va_P (dC, dI) clsL (wd_Gr_addArc cI cZ a_t a_t_arcs a_t_weight t_size (upd t_arcs ((x1 * 40) + x2).toNatClampNeg ((t_arcs ((x1 * 40) + x2).toNatClampNeg) + x3))) H := hP
  have hD : va_D A (wd_Gr_addArc cI cZ a_t a_t_arcs a_t_weight t_size (upd t_arcs ((x1 * 40) + x2).toNatClampNeg ((t_arcs ((x1 * 40) + x2).toNatClampNeg) + x3))) := hD
  refine lv_aload_n hx hb dd_Gr_addArc_15 rfl (lv_at hl 0 rfl) ?_
  refine va_get (D := (dC, dI)) (ci := 1) (v := .ref a_t_arcs) (C := rr_Gr) (T := tt_Gr) (N := 3) hx hb hts (fun w h => gwc (inn_Gr w h)) hown hK hP 0 rfl rfl 2 (by decide) (hts _ (gwc gw_98)) (fun _ h9 => h9) rfl dd_Gr_addArc_16 ?_
  refine lv_iload_n hx hb dd_Gr_addArc_19 rfl (lv_at hl 2 rfl) ?_
  refine lv_bipush (v := 40) hx hb dd_Gr_addArc_20 (by decide) ?_
  refine lv_imul hx hb dd_Gr_addArc_22 ?_
  refine lv_iload_n hx hb dd_Gr_addArc_23 rfl (lv_at hl 1 rfl) ?_
  refine lv_iadd hx hb dd_Gr_addArc_24 ?_
  refine lv_dup2_11 hx hb dd_Gr_addArc_25 rfl rfl ?_
  obtain ⟨k26, hf⟩ := ck_some hf
  refine va_iald hx hb hK hP 1 0 rfl rfl (okb_in k26) dd_Gr_addArc_26 ?_
  refine lv_iload_n hx hb dd_Gr_addArc_27 rfl (lv_at hl 3 rfl) ?_
  refine lv_iadd hx hb dd_Gr_addArc_28 ?_
  obtain ⟨k29, hf⟩ := ck_some hf
  refine va_iast hx hb hK hP hD hS 1 0 rfl rfl (okb_in k29) dd_Gr_addArc_29 (fun H locs hP hD hS => ?_)
  have hP : va_P (dC, dI) clsL (wd_Gr_addArc cI cZ a_t a_t_arcs a_t_weight t_size (upd (upd t_arcs ((x1 * 40) + x2).toNatClampNeg ((t_arcs ((x1 * 40) + x2).toNatClampNeg) + x3)) ((x2 * 40) + x1).toNatClampNeg (((upd t_arcs ((x1 * 40) + x2).toNatClampNeg ((t_arcs ((x1 * 40) + x2).toNatClampNeg) + x3)) ((x2 * 40) + x1).toNatClampNeg) + x3))) H := hP
  have hD : va_D A (wd_Gr_addArc cI cZ a_t a_t_arcs a_t_weight t_size (upd (upd t_arcs ((x1 * 40) + x2).toNatClampNeg ((t_arcs ((x1 * 40) + x2).toNatClampNeg) + x3)) ((x2 * 40) + x1).toNatClampNeg (((upd t_arcs ((x1 * 40) + x2).toNatClampNeg ((t_arcs ((x1 * 40) + x2).toNatClampNeg) + x3)) ((x2 * 40) + x1).toNatClampNeg) + x3))) := hD
  cases hf
  exact W.vret hx hb hr (fun t ht hW => ⟨⟨(), rfl, trivial, pst_of ht hP hD⟩, hS.F ht⟩) hS.2.2 dd_Gr_addArc_30
abbrev wd_Gr_total (cI cZ : ClassId) (a_t a_t_weight a_t_arcs : Nat) (t_size : Int32) (t_weight : Nat → Int32) : va_W := [(a_t, .inr (1, [.int t_size, .ref a_t_weight, .ref a_t_arcs])), (a_t_weight, .inl (cI, 40, .inl t_weight))]
set_option maxRecDepth 100000 in
set_option maxHeartbeats 4000000 in
theorem c_Gr_total (l : Launch) (dC : Nat → ClassId) (dI : Nat → Nat → Nat) (cI cZ : ClassId) (a_t a_t_weight a_t_arcs sz : Nat) (t_size : Int32) (t_weight : Nat → Int32) (out : Int32) (hf : f_Gr_total t_size t_weight = some out) :
    Met l yy_Gr_total wq_Gr_total ({ frames := 0, cells := 0, slots := 0, locals := 0 }) (va_Pc ([.ref a_t] : List Value) (pre_ (dC, dI) cI cZ sz (wd_Gr_total cI cZ a_t a_t_weight a_t_arcs t_size t_weight))) (va_Qi (fun (r : Int32) (_ : Unit) => r = out) (fun _ => pst (dC, dI) (va_A (wd_Gr_total cI cZ a_t a_t_weight a_t_arcs t_size t_weight) sz) (wd_Gr_total cI cZ a_t a_t_weight a_t_arcs t_size t_weight)) (va_A (wd_Gr_total cI cZ a_t a_t_weight a_t_arcs t_size t_weight) sz)) 0 0 (va_A (wd_Gr_total cI cZ a_t a_t_weight a_t_arcs t_size t_weight) sz) := by
  refine Met.ofW (cc := cc_Gr_total) (maxL := 3) (ret := (some .int)) (by decide) rfl ?_
  intro p e s m args below meth c s₁ B hml hv
  obtain ⟨rfl, hsz, hP, hK, hD0, hN⟩ := hv
  have hx := B.exec
  have hb := B.bytes
  have hr := B.returns
  have hts := atoms_spec (ws := wq_Gr_total) B.pre
  have hown : s.vm.findClass rr_Gr = some m.cls := findClass_of_methodNamed B.named
  have hlocks := B.notSynchronized
  subst hsz
  have hD := hD0.self (sz := s.heap.size)
  generalize hAe : va_A (wd_Gr_total cI cZ a_t a_t_weight a_t_arcs t_size t_weight) s.heap.size = A at hD ⊢
  have hA : ∀ q : Nat, s.heap.size ≤ q → A q := fun q h => by rw [← hAe]; exact Or.inr h
  obtain ⟨H, hH⟩ : ∃ H : Heap, H = s.heap := ⟨_, rfl⟩
  have hS : va_S A s.heap H [] := by rw [hH]; exact va_S.rf
  have hl := lv_entry (([.ref a_t] : List Value)) (n := 3) (Nat.le_of_ble_eq_true rfl)
  rw [lg_entry_eq]
  generalize (lg_sl (([.ref a_t] : List Value)) ++ List.replicate (3 - (lg_sl (([.ref a_t] : List Value))).length) Slot.unset).toArray = ls at hl ⊢
  have hl : lv_has ls 3 [(0, .ref a_t)] := hl
  rw [← hH] at hP ⊢
  have hP : va_P (dC, dI) clsL (wd_Gr_total cI cZ a_t a_t_weight a_t_arcs t_size t_weight) H := hP
  unfold f_Gr_total at hf
  have h4 : ∀ (n4 : Nat) (x1 : Int32) (x2 : Int32) (ls : Array Slot) (H : Heap) (locs : List Loc), L_Gr_total_4 t_size t_weight n4 x1 x2 = some out → lv_has ls 3 [(0, .ref a_t), (1, .int x1), (2, .int x2)] → va_P (dC, dI) clsL (wd_Gr_total cI cZ a_t a_t_weight a_t_arcs t_size t_weight) H → va_D A (wd_Gr_total cI cZ a_t a_t_weight a_t_arcs t_size t_weight) → va_S A s.heap H locs → W p l e (headSpec wq_Gr_total ({ frames := 0, cells := 0, slots := 0, locals := 0 })).room s m ([.ref a_t] : List Value).toArray below meth c H locs 0 0 (MQ below (va_Qi (fun (r : Int32) (_ : Unit) => r = out) (fun _ => pst (dC, dI) A (wd_Gr_total cI cZ a_t a_t_weight a_t_arcs t_size t_weight)) A) ([.ref a_t] : List Value).toArray s 0 0 A) (F0 m 4 ls []) := by
    intro n4
    induction n4 with
    | zero =>
      intro x1 x2 ls H locs hf
      rw [L_Gr_total_4] at hf
      exact absurd hf (fun h => by cases h)
    | succ n4 ih4 =>
      intro x1 x2 ls H locs hf hl hP hD hS
      rw [L_Gr_total_4] at hf
      refine lv_iload_n hx hb dd_Gr_total_4 rfl (lv_at hl 2 rfl) ?_
      refine lv_aload_n hx hb dd_Gr_total_5 rfl (lv_at hl 0 rfl) ?_
      refine va_get (D := (dC, dI)) (ci := 1) (v := .int t_size) (C := rr_Gr) (T := tt_Gr) (N := 3) hx hb hts (fun w h => gwc (inn_Gr w h)) hown hK hP 0 rfl rfl 0 (by decide) (hts _ (gwc gw_85)) (fun _ h9 => h9) rfl dd_Gr_total_6 ?_
      refine lv_icmp_ge (tgt := 27) hx hb dd_Gr_total_9 (by decide) (fun cc => ?_) (fun cc => ?_)
      · skip
        have hf := if_t cc hf
        refine lv_iload_n hx hb dd_Gr_total_27 rfl (lv_at hl 1 rfl) ?_
        cases hf
        exact W.iret hx hb hr (fun t ht hW => ⟨⟨_, (), rfl, rfl, pst_of ht hP hD⟩, hS.F ht⟩) hS.2.2 dd_Gr_total_28
      · skip
        have hf := if_f cc hf
        refine lv_iload_n hx hb dd_Gr_total_12 rfl (lv_at hl 1 rfl) ?_
        refine lv_aload_n hx hb dd_Gr_total_13 rfl (lv_at hl 0 rfl) ?_
        refine va_get (D := (dC, dI)) (ci := 1) (v := .ref a_t_weight) (C := rr_Gr) (T := tt_Gr) (N := 3) hx hb hts (fun w h => gwc (inn_Gr w h)) hown hK hP 0 rfl rfl 1 (by decide) (hts _ (gwc gw_92)) (fun _ h9 => h9) rfl dd_Gr_total_14 ?_
        refine lv_iload_n hx hb dd_Gr_total_17 rfl (lv_at hl 2 rfl) ?_
        obtain ⟨k18, hf⟩ := ck_some hf
        refine va_iald hx hb hK hP 1 0 rfl rfl (okb_in k18) dd_Gr_total_18 ?_
        refine lv_iadd hx hb dd_Gr_total_19 ?_
        refine lv_istore_n (lv' := [(1, .int (x1 + (t_weight (x2).toNatClampNeg))), (0, .ref a_t), (2, .int x2)]) hx hb dd_Gr_total_20 rfl hl (by decide) rfl (fun ls hl => ?_)
        refine lv_iinc (v := x2 + 1) (lv' := [(2, .int (x2 + 1)), (1, .int (x1 + (t_weight (x2).toNatClampNeg))), (0, .ref a_t)]) hx hb dd_Gr_total_21 hl (k := 2) rfl rfl (by decide) rfl (fun ls hl => ?_)
        refine lv_goto (tgt := 4) hx hb dd_Gr_total_24 (by decide) ?_
        exact ih4 (x1 + (t_weight (x2).toNatClampNeg)) (x2 + 1) _ _ _ hf (lv_sub hl [2, 1, 0] rfl) hP hD hS
  refine lv_iconst (v := 0) hx hb dd_Gr_total_0 (by decide) ?_
  refine lv_istore_n (lv' := [(1, .int 0), (0, .ref a_t)]) hx hb dd_Gr_total_1 rfl hl (by decide) rfl (fun ls hl => ?_)
  refine lv_iconst (v := 0) hx hb dd_Gr_total_2 (by decide) ?_
  refine lv_istore_n (lv' := [(2, .int 0), (1, .int 0), (0, .ref a_t)]) hx hb dd_Gr_total_3 rfl hl (by decide) rfl (fun ls hl => ?_)
  exact h4 64 0 0 _ _ _ hf (lv_sub hl [2, 1, 0] rfl) hP hD hS
abbrev wd_Gr_neighbours (cI cZ : ClassId) (a_t a_t_arcs a_t_weight : Nat) (t_size : Int32) (t_arcs : Nat → Int32) : va_W := [(a_t, .inr (1, [.int t_size, .ref a_t_weight, .ref a_t_arcs])), (a_t_arcs, .inl (cI, 1600, .inl t_arcs))]
set_option maxRecDepth 100000 in
set_option maxHeartbeats 4000000 in
theorem c_Gr_neighbours (l : Launch) (dC : Nat → ClassId) (dI : Nat → Nat → Nat) (cI cZ : ClassId) (a_t a_t_arcs a_t_weight sz : Nat) (x1 : Int32) (t_size : Int32) (t_arcs : Nat → Int32) (out : Int32) (hf : f_Gr_neighbours x1 t_size t_arcs = some out) :
    Met l yy_Gr_neighbours wq_Gr_neighbours ({ frames := 1, cells := 0, slots := 0, locals := 22 }) (va_Pc ([.ref a_t, .int x1] : List Value) (pre_ (dC, dI) cI cZ sz (wd_Gr_neighbours cI cZ a_t a_t_arcs a_t_weight t_size t_arcs))) (va_Qi (fun (r : Int32) (_ : Unit) => r = out) (fun _ => pst (dC, dI) (va_A (wd_Gr_neighbours cI cZ a_t a_t_arcs a_t_weight t_size t_arcs) sz) (wd_Gr_neighbours cI cZ a_t a_t_arcs a_t_weight t_size t_arcs)) (va_A (wd_Gr_neighbours cI cZ a_t a_t_arcs a_t_weight t_size t_arcs) sz)) 0 0 (va_A (wd_Gr_neighbours cI cZ a_t a_t_arcs a_t_weight t_size t_arcs) sz) := by
  refine Met.ofW (cc := cc_Gr_neighbours) (maxL := 4) (ret := (some .int)) (by decide) rfl ?_
  intro p e s m args below meth c s₁ B hml hv
  obtain ⟨rfl, hsz, hP, hK, hD0, hN⟩ := hv
  have hx := B.exec
  have hb := B.bytes
  have hr := B.returns
  have hts := atoms_spec (ws := wq_Gr_neighbours) B.pre
  have hown : s.vm.findClass rr_Gr = some m.cls := findClass_of_methodNamed B.named
  have hlocks := B.notSynchronized
  subst hsz
  have hD := hD0.self (sz := s.heap.size)
  generalize hAe : va_A (wd_Gr_neighbours cI cZ a_t a_t_arcs a_t_weight t_size t_arcs) s.heap.size = A at hD ⊢
  have hA : ∀ q : Nat, s.heap.size ≤ q → A q := fun q h => by rw [← hAe]; exact Or.inr h
  obtain ⟨H, hH⟩ : ∃ H : Heap, H = s.heap := ⟨_, rfl⟩
  have hS : va_S A s.heap H [] := by rw [hH]; exact va_S.rf
  have hl := lv_entry (([.ref a_t, .int x1] : List Value)) (n := 4) (Nat.le_of_ble_eq_true rfl)
  rw [lg_entry_eq]
  generalize (lg_sl (([.ref a_t, .int x1] : List Value)) ++ List.replicate (4 - (lg_sl (([.ref a_t, .int x1] : List Value))).length) Slot.unset).toArray = ls at hl ⊢
  have hl : lv_has ls 4 [(0, .ref a_t), (1, .int x1)] := hl
  rw [← hH] at hP ⊢
  have hP : va_P (dC, dI) clsL (wd_Gr_neighbours cI cZ a_t a_t_arcs a_t_weight t_size t_arcs) H := hP
  unfold f_Gr_neighbours at hf
  have h4 : ∀ (n4 : Nat) (x2 : Int32) (x3 : Int32) (ls : Array Slot) (H : Heap) (locs : List Loc), L_Gr_neighbours_4 x1 t_size t_arcs n4 x2 x3 = some out → lv_has ls 4 [(0, .ref a_t), (1, .int x1), (2, .int x2), (3, .int x3)] → va_P (dC, dI) clsL (wd_Gr_neighbours cI cZ a_t a_t_arcs a_t_weight t_size t_arcs) H → va_D A (wd_Gr_neighbours cI cZ a_t a_t_arcs a_t_weight t_size t_arcs) → va_S A s.heap H locs → W p l e (headSpec wq_Gr_neighbours ({ frames := 1, cells := 0, slots := 0, locals := 22 })).room s m ([.ref a_t, .int x1] : List Value).toArray below meth c H locs 0 0 (MQ below (va_Qi (fun (r : Int32) (_ : Unit) => r = out) (fun _ => pst (dC, dI) A (wd_Gr_neighbours cI cZ a_t a_t_arcs a_t_weight t_size t_arcs)) A) ([.ref a_t, .int x1] : List Value).toArray s 0 0 A) (F0 m 4 ls []) := by
    intro n4
    induction n4 with
    | zero =>
      intro x2 x3 ls H locs hf
      rw [L_Gr_neighbours_4] at hf
      exact absurd hf (fun h => by cases h)
    | succ n4 ih4 =>
      intro x2 x3 ls H locs hf hl hP hD hS
      rw [L_Gr_neighbours_4] at hf
      refine lv_iload_n hx hb dd_Gr_neighbours_4 rfl (lv_at hl 3 rfl) ?_
      refine lv_aload_n hx hb dd_Gr_neighbours_5 rfl (lv_at hl 0 rfl) ?_
      refine va_get (D := (dC, dI)) (ci := 1) (v := .int t_size) (C := rr_Gr) (T := tt_Gr) (N := 3) hx hb hts (fun w h => gwc (inn_Gr w h)) hown hK hP 0 rfl rfl 0 (by decide) (hts _ (gwc gw_85)) (fun _ h9 => h9) rfl dd_Gr_neighbours_6 ?_
      refine lv_icmp_ge (tgt := 30) hx hb dd_Gr_neighbours_9 (by decide) (fun cc => ?_) (fun cc => ?_)
      · skip
        have hf := if_t cc hf
        refine lv_iload_n hx hb dd_Gr_neighbours_30 rfl (lv_at hl 2 rfl) ?_
        cases hf
        exact W.iret hx hb hr (fun t ht hW => ⟨⟨_, (), rfl, rfl, pst_of ht hP hD⟩, hS.F ht⟩) hS.2.2 dd_Gr_neighbours_31
      · skip
        have hf := if_f cc hf
        refine lv_aload_n hx hb dd_Gr_neighbours_12 rfl (lv_at hl 0 rfl) ?_
        refine lv_iload_n hx hb dd_Gr_neighbours_13 rfl (lv_at hl 1 rfl) ?_
        refine lv_iload_n hx hb dd_Gr_neighbours_14 rfl (lv_at hl 3 rfl) ?_
        obtain ⟨r15, hr15, hf⟩ := bind_some hf
        refine xcalli (rest := []) (wc := (wd_Gr_arcOf cI cZ a_t a_t_arcs a_t_weight t_size t_arcs)) (w1 := (wd_Gr_arcOf cI cZ a_t a_t_arcs a_t_weight t_size t_arcs)) (wr := []) (ws' := (wd_Gr_neighbours cI cZ a_t a_t_arcs a_t_weight t_size t_arcs)) (va_runV (As := [.int x1, .int x3]) ⟨hx, hb, hml, hown, hts⟩ (c_Gr_arcOf l dC dI cI cZ a_t a_t_arcs a_t_weight H.size x1 x3 t_size t_arcs r15 hr15) (cwV 2 hts (gV gw_389 gw_318 gw_319 gw_54 gw_320) rfl rfl rfl (yd_Gr_arcOf) ⟨Nat.le_of_ble_eq_true rfl, Nat.le_of_ble_eq_true rfl⟩) (mkV hK (hP.sub (ws' := (wd_Gr_arcOf cI cZ a_t a_t_arcs a_t_weight t_size t_arcs)) [0, 1] rfl) (hD.sub (ws' := (wd_Gr_arcOf cI cZ a_t a_t_arcs a_t_weight t_size t_arcs)) [0, 1] (by decide) rfl) hN (va_recv hK hP (ci := 1) (q0 := 0) rfl rfl)) rfl rfl hl.1 rfl (lv_room (Nat.le_of_ble_eq_true rfl)) dd_Gr_neighbours_15 ⟨Nat.zero_le _, Nat.zero_le _⟩) hP hD hS hA [0, 1] [] [0, 1] rfl rfl (by decide) (by decide) rfl (by decide) rfl (fun H locs hP hD hS => ?_)
        refine lv_if_le (tgt := 24) hx hb dd_Gr_neighbours_18 (by decide) (fun cc => ?_) (fun cc => ?_)
        · skip
          have hf := if_t cc hf
          refine lv_iinc (v := x3 + 1) (lv' := [(3, .int (x3 + 1)), (0, .ref a_t), (1, .int x1), (2, .int x2)]) hx hb dd_Gr_neighbours_24 hl (k := 3) rfl rfl (by decide) rfl (fun ls hl => ?_)
          refine lv_goto (tgt := 4) hx hb dd_Gr_neighbours_27 (by decide) ?_
          exact ih4 x2 (x3 + 1) _ _ _ hf (lv_sub hl [1, 2, 3, 0] rfl) hP hD hS
        · skip
          have hf := if_f cc hf
          refine lv_iinc (v := x2 + 1) (lv' := [(2, .int (x2 + 1)), (0, .ref a_t), (1, .int x1), (3, .int x3)]) hx hb dd_Gr_neighbours_21 hl (k := 2) rfl rfl (by decide) rfl (fun ls hl => ?_)
          refine lv_iinc (v := x3 + 1) (lv' := [(3, .int (x3 + 1)), (2, .int (x2 + 1)), (0, .ref a_t), (1, .int x1)]) hx hb dd_Gr_neighbours_24 hl (k := 3) rfl rfl (by decide) rfl (fun ls hl => ?_)
          refine lv_goto (tgt := 4) hx hb dd_Gr_neighbours_27 (by decide) ?_
          exact ih4 (x2 + 1) (x3 + 1) _ _ _ hf (lv_sub hl [2, 3, 1, 0] rfl) hP hD hS
  refine lv_iconst (v := 0) hx hb dd_Gr_neighbours_0 (by decide) ?_
  refine lv_istore_n (lv' := [(2, .int 0), (0, .ref a_t), (1, .int x1)]) hx hb dd_Gr_neighbours_1 rfl hl (by decide) rfl (fun ls hl => ?_)
  refine lv_iconst (v := 0) hx hb dd_Gr_neighbours_2 (by decide) ?_
  refine lv_istore_n (lv' := [(3, .int 0), (2, .int 0), (0, .ref a_t), (1, .int x1)]) hx hb dd_Gr_neighbours_3 rfl hl (by decide) rfl (fun ls hl => ?_)
  exact h4 64 0 0 _ _ _ hf (lv_sub hl [2, 3, 1, 0] rfl) hP hD hS
abbrev wd_Gr_arcCount (cI cZ : ClassId) (a_t a_t_arcs a_t_weight : Nat) (t_size : Int32) (t_arcs : Nat → Int32) : va_W := [(a_t, .inr (1, [.int t_size, .ref a_t_weight, .ref a_t_arcs])), (a_t_arcs, .inl (cI, 1600, .inl t_arcs))]
set_option maxRecDepth 100000 in
set_option maxHeartbeats 4000000 in
theorem c_Gr_arcCount (l : Launch) (dC : Nat → ClassId) (dI : Nat → Nat → Nat) (cI cZ : ClassId) (a_t a_t_arcs a_t_weight sz : Nat) (t_size : Int32) (t_arcs : Nat → Int32) (out : Int32) (hf : f_Gr_arcCount t_size t_arcs = some out) :
    Met l yy_Gr_arcCount wq_Gr_arcCount ({ frames := 2, cells := 0, slots := 0, locals := 45 }) (va_Pc ([.ref a_t] : List Value) (pre_ (dC, dI) cI cZ sz (wd_Gr_arcCount cI cZ a_t a_t_arcs a_t_weight t_size t_arcs))) (va_Qi (fun (r : Int32) (_ : Unit) => r = out) (fun _ => pst (dC, dI) (va_A (wd_Gr_arcCount cI cZ a_t a_t_arcs a_t_weight t_size t_arcs) sz) (wd_Gr_arcCount cI cZ a_t a_t_arcs a_t_weight t_size t_arcs)) (va_A (wd_Gr_arcCount cI cZ a_t a_t_arcs a_t_weight t_size t_arcs) sz)) 0 0 (va_A (wd_Gr_arcCount cI cZ a_t a_t_arcs a_t_weight t_size t_arcs) sz) := by
  refine Met.ofW (cc := cc_Gr_arcCount) (maxL := 3) (ret := (some .int)) (by decide) rfl ?_
  intro p e s m args below meth c s₁ B hml hv
  obtain ⟨rfl, hsz, hP, hK, hD0, hN⟩ := hv
  have hx := B.exec
  have hb := B.bytes
  have hr := B.returns
  have hts := atoms_spec (ws := wq_Gr_arcCount) B.pre
  have hown : s.vm.findClass rr_Gr = some m.cls := findClass_of_methodNamed B.named
  have hlocks := B.notSynchronized
  subst hsz
  have hD := hD0.self (sz := s.heap.size)
  generalize hAe : va_A (wd_Gr_arcCount cI cZ a_t a_t_arcs a_t_weight t_size t_arcs) s.heap.size = A at hD ⊢
  have hA : ∀ q : Nat, s.heap.size ≤ q → A q := fun q h => by rw [← hAe]; exact Or.inr h
  obtain ⟨H, hH⟩ : ∃ H : Heap, H = s.heap := ⟨_, rfl⟩
  have hS : va_S A s.heap H [] := by rw [hH]; exact va_S.rf
  have hl := lv_entry (([.ref a_t] : List Value)) (n := 3) (Nat.le_of_ble_eq_true rfl)
  rw [lg_entry_eq]
  generalize (lg_sl (([.ref a_t] : List Value)) ++ List.replicate (3 - (lg_sl (([.ref a_t] : List Value))).length) Slot.unset).toArray = ls at hl ⊢
  have hl : lv_has ls 3 [(0, .ref a_t)] := hl
  rw [← hH] at hP ⊢
  have hP : va_P (dC, dI) clsL (wd_Gr_arcCount cI cZ a_t a_t_arcs a_t_weight t_size t_arcs) H := hP
  unfold f_Gr_arcCount at hf
  have h4 : ∀ (n4 : Nat) (x1 : Int32) (x2 : Int32) (ls : Array Slot) (H : Heap) (locs : List Loc), L_Gr_arcCount_4 t_size t_arcs n4 x1 x2 = some out → lv_has ls 3 [(0, .ref a_t), (1, .int x1), (2, .int x2)] → va_P (dC, dI) clsL (wd_Gr_arcCount cI cZ a_t a_t_arcs a_t_weight t_size t_arcs) H → va_D A (wd_Gr_arcCount cI cZ a_t a_t_arcs a_t_weight t_size t_arcs) → va_S A s.heap H locs → W p l e (headSpec wq_Gr_arcCount ({ frames := 2, cells := 0, slots := 0, locals := 45 })).room s m ([.ref a_t] : List Value).toArray below meth c H locs 0 0 (MQ below (va_Qi (fun (r : Int32) (_ : Unit) => r = out) (fun _ => pst (dC, dI) A (wd_Gr_arcCount cI cZ a_t a_t_arcs a_t_weight t_size t_arcs)) A) ([.ref a_t] : List Value).toArray s 0 0 A) (F0 m 4 ls []) := by
    intro n4
    induction n4 with
    | zero =>
      intro x1 x2 ls H locs hf
      rw [L_Gr_arcCount_4] at hf
      exact absurd hf (fun h => by cases h)
    | succ n4 ih4 =>
      intro x1 x2 ls H locs hf hl hP hD hS
      rw [L_Gr_arcCount_4] at hf
      refine lv_iload_n hx hb dd_Gr_arcCount_4 rfl (lv_at hl 2 rfl) ?_
      refine lv_aload_n hx hb dd_Gr_arcCount_5 rfl (lv_at hl 0 rfl) ?_
      refine va_get (D := (dC, dI)) (ci := 1) (v := .int t_size) (C := rr_Gr) (T := tt_Gr) (N := 3) hx hb hts (fun w h => gwc (inn_Gr w h)) hown hK hP 0 rfl rfl 0 (by decide) (hts _ (gwc gw_85)) (fun _ h9 => h9) rfl dd_Gr_arcCount_6 ?_
      refine lv_icmp_ge (tgt := 26) hx hb dd_Gr_arcCount_9 (by decide) (fun cc => ?_) (fun cc => ?_)
      · skip
        have hf := if_t cc hf
        refine lv_iload_n hx hb dd_Gr_arcCount_26 rfl (lv_at hl 1 rfl) ?_
        refine lv_iconst (v := 1) hx hb dd_Gr_arcCount_27 (by decide) ?_
        refine lv_ishr hx hb dd_Gr_arcCount_28 ?_
        cases hf
        exact W.iret hx hb hr (fun t ht hW => ⟨⟨_, (), rfl, rfl, pst_of ht hP hD⟩, hS.F ht⟩) hS.2.2 dd_Gr_arcCount_29
      · skip
        have hf := if_f cc hf
        refine lv_iload_n hx hb dd_Gr_arcCount_12 rfl (lv_at hl 1 rfl) ?_
        refine lv_aload_n hx hb dd_Gr_arcCount_13 rfl (lv_at hl 0 rfl) ?_
        refine lv_iload_n hx hb dd_Gr_arcCount_14 rfl (lv_at hl 2 rfl) ?_
        obtain ⟨r15, hr15, hf⟩ := bind_some hf
        refine xcalli (rest := [.int x1]) (wc := (wd_Gr_neighbours cI cZ a_t a_t_arcs a_t_weight t_size t_arcs)) (w1 := (wd_Gr_neighbours cI cZ a_t a_t_arcs a_t_weight t_size t_arcs)) (wr := []) (ws' := (wd_Gr_arcCount cI cZ a_t a_t_arcs a_t_weight t_size t_arcs)) (va_runV (As := [.int x2]) ⟨hx, hb, hml, hown, hts⟩ (c_Gr_neighbours l dC dI cI cZ a_t a_t_arcs a_t_weight H.size x2 t_size t_arcs r15 hr15) (cwV 1 hts (gV gw_468 gw_386 gw_387 gw_54 gw_388) rfl rfl rfl (yd_Gr_neighbours) ⟨Nat.le_of_ble_eq_true rfl, Nat.le_of_ble_eq_true rfl⟩) (mkV hK (hP.sub (ws' := (wd_Gr_neighbours cI cZ a_t a_t_arcs a_t_weight t_size t_arcs)) [0, 1] rfl) (hD.sub (ws' := (wd_Gr_neighbours cI cZ a_t a_t_arcs a_t_weight t_size t_arcs)) [0, 1] (by decide) rfl) hN (va_recv hK hP (ci := 1) (q0 := 0) rfl rfl)) rfl rfl hl.1 rfl (lv_room (Nat.le_of_ble_eq_true rfl)) dd_Gr_arcCount_15 ⟨Nat.zero_le _, Nat.zero_le _⟩) hP hD hS hA [0, 1] [] [0, 1] rfl rfl (by decide) (by decide) rfl (by decide) rfl (fun H locs hP hD hS => ?_)
        refine lv_iadd hx hb dd_Gr_arcCount_18 ?_
        refine lv_istore_n (lv' := [(1, .int (x1 + r15)), (0, .ref a_t), (2, .int x2)]) hx hb dd_Gr_arcCount_19 rfl hl (by decide) rfl (fun ls hl => ?_)
        refine lv_iinc (v := x2 + 1) (lv' := [(2, .int (x2 + 1)), (1, .int (x1 + r15)), (0, .ref a_t)]) hx hb dd_Gr_arcCount_20 hl (k := 2) rfl rfl (by decide) rfl (fun ls hl => ?_)
        refine lv_goto (tgt := 4) hx hb dd_Gr_arcCount_23 (by decide) ?_
        exact ih4 (x1 + r15) (x2 + 1) _ _ _ hf (lv_sub hl [2, 1, 0] rfl) hP hD hS
  refine lv_iconst (v := 0) hx hb dd_Gr_arcCount_0 (by decide) ?_
  refine lv_istore_n (lv' := [(1, .int 0), (0, .ref a_t)]) hx hb dd_Gr_arcCount_1 rfl hl (by decide) rfl (fun ls hl => ?_)
  refine lv_iconst (v := 0) hx hb dd_Gr_arcCount_2 (by decide) ?_
  refine lv_istore_n (lv' := [(2, .int 0), (1, .int 0), (0, .ref a_t)]) hx hb dd_Gr_arcCount_3 rfl hl (by decide) rfl (fun ls hl => ?_)
  exact h4 64 0 0 _ _ _ hf (lv_sub hl [2, 1, 0] rfl) hP hD hS
abbrev wd_Gr_arcSum (cI cZ : ClassId) (a_t a_t_arcs a_t_weight : Nat) (t_size : Int32) (t_arcs : Nat → Int32) : va_W := [(a_t, .inr (1, [.int t_size, .ref a_t_weight, .ref a_t_arcs])), (a_t_arcs, .inl (cI, 1600, .inl t_arcs))]
set_option maxRecDepth 100000 in
set_option maxHeartbeats 4000000 in
theorem c_Gr_arcSum (l : Launch) (dC : Nat → ClassId) (dI : Nat → Nat → Nat) (cI cZ : ClassId) (a_t a_t_arcs a_t_weight sz : Nat) (t_size : Int32) (t_arcs : Nat → Int32) (out : Int32) (hf : f_Gr_arcSum t_size t_arcs = some out) :
    Met l yy_Gr_arcSum wq_Gr_arcSum ({ frames := 1, cells := 0, slots := 0, locals := 22 }) (va_Pc ([.ref a_t] : List Value) (pre_ (dC, dI) cI cZ sz (wd_Gr_arcSum cI cZ a_t a_t_arcs a_t_weight t_size t_arcs))) (va_Qi (fun (r : Int32) (_ : Unit) => r = out) (fun _ => pst (dC, dI) (va_A (wd_Gr_arcSum cI cZ a_t a_t_arcs a_t_weight t_size t_arcs) sz) (wd_Gr_arcSum cI cZ a_t a_t_arcs a_t_weight t_size t_arcs)) (va_A (wd_Gr_arcSum cI cZ a_t a_t_arcs a_t_weight t_size t_arcs) sz)) 0 0 (va_A (wd_Gr_arcSum cI cZ a_t a_t_arcs a_t_weight t_size t_arcs) sz) := by
  refine Met.ofW (cc := cc_Gr_arcSum) (maxL := 4) (ret := (some .int)) (by decide) rfl ?_
  intro p e s m args below meth c s₁ B hml hv
  obtain ⟨rfl, hsz, hP, hK, hD0, hN⟩ := hv
  have hx := B.exec
  have hb := B.bytes
  have hr := B.returns
  have hts := atoms_spec (ws := wq_Gr_arcSum) B.pre
  have hown : s.vm.findClass rr_Gr = some m.cls := findClass_of_methodNamed B.named
  have hlocks := B.notSynchronized
  subst hsz
  have hD := hD0.self (sz := s.heap.size)
  generalize hAe : va_A (wd_Gr_arcSum cI cZ a_t a_t_arcs a_t_weight t_size t_arcs) s.heap.size = A at hD ⊢
  have hA : ∀ q : Nat, s.heap.size ≤ q → A q := fun q h => by rw [← hAe]; exact Or.inr h
  obtain ⟨H, hH⟩ : ∃ H : Heap, H = s.heap := ⟨_, rfl⟩
  have hS : va_S A s.heap H [] := by rw [hH]; exact va_S.rf
  have hl := lv_entry (([.ref a_t] : List Value)) (n := 4) (Nat.le_of_ble_eq_true rfl)
  rw [lg_entry_eq]
  generalize (lg_sl (([.ref a_t] : List Value)) ++ List.replicate (4 - (lg_sl (([.ref a_t] : List Value))).length) Slot.unset).toArray = ls at hl ⊢
  have hl : lv_has ls 4 [(0, .ref a_t)] := hl
  rw [← hH] at hP ⊢
  have hP : va_P (dC, dI) clsL (wd_Gr_arcSum cI cZ a_t a_t_arcs a_t_weight t_size t_arcs) H := hP
  unfold f_Gr_arcSum at hf
  have h4 : ∀ (n4 : Nat) (x1 : Int32) (x2 : Int32) (ls : Array Slot) (H : Heap) (locs : List Loc), L_Gr_arcSum_4 t_size t_arcs n4 x1 x2 = some out → lv_has ls 4 [(0, .ref a_t), (1, .int x1), (2, .int x2)] → va_P (dC, dI) clsL (wd_Gr_arcSum cI cZ a_t a_t_arcs a_t_weight t_size t_arcs) H → va_D A (wd_Gr_arcSum cI cZ a_t a_t_arcs a_t_weight t_size t_arcs) → va_S A s.heap H locs → W p l e (headSpec wq_Gr_arcSum ({ frames := 1, cells := 0, slots := 0, locals := 22 })).room s m ([.ref a_t] : List Value).toArray below meth c H locs 0 0 (MQ below (va_Qi (fun (r : Int32) (_ : Unit) => r = out) (fun _ => pst (dC, dI) A (wd_Gr_arcSum cI cZ a_t a_t_arcs a_t_weight t_size t_arcs)) A) ([.ref a_t] : List Value).toArray s 0 0 A) (F0 m 4 ls []) := by
    intro n4
    induction n4 with
    | zero =>
      intro x1 x2 ls H locs hf
      rw [L_Gr_arcSum_4] at hf
      exact absurd hf (fun h => by cases h)
    | succ n4 ih4 =>
      intro x1 x2 ls H locs hf hl hP hD hS
      rw [L_Gr_arcSum_4] at hf
      have h16 : ∀ (n16 : Nat) (x1 : Int32) (x2 : Int32) (x3 : Int32) (ls : Array Slot) (H : Heap) (locs : List Loc), L_Gr_arcSum_16 t_size t_arcs (L_Gr_arcSum_4 t_size t_arcs n4) n16 x1 x2 x3 = some out → lv_has ls 4 [(0, .ref a_t), (1, .int x1), (2, .int x2), (3, .int x3)] → va_P (dC, dI) clsL (wd_Gr_arcSum cI cZ a_t a_t_arcs a_t_weight t_size t_arcs) H → va_D A (wd_Gr_arcSum cI cZ a_t a_t_arcs a_t_weight t_size t_arcs) → va_S A s.heap H locs → W p l e (headSpec wq_Gr_arcSum ({ frames := 1, cells := 0, slots := 0, locals := 22 })).room s m ([.ref a_t] : List Value).toArray below meth c H locs 0 0 (MQ below (va_Qi (fun (r : Int32) (_ : Unit) => r = out) (fun _ => pst (dC, dI) A (wd_Gr_arcSum cI cZ a_t a_t_arcs a_t_weight t_size t_arcs)) A) ([.ref a_t] : List Value).toArray s 0 0 A) (F0 m 16 ls []) := by
        intro n16
        induction n16 with
        | zero =>
          intro x1 x2 x3 ls H locs hf
          rw [L_Gr_arcSum_16] at hf
          exact absurd hf (fun h => by cases h)
        | succ n16 ih16 =>
          intro x1 x2 x3 ls H locs hf hl hP hD hS
          rw [L_Gr_arcSum_16] at hf
          refine lv_iload_n hx hb dd_Gr_arcSum_16 rfl (lv_at hl 3 rfl) ?_
          refine lv_aload_n hx hb dd_Gr_arcSum_17 rfl (lv_at hl 0 rfl) ?_
          refine va_get (D := (dC, dI)) (ci := 1) (v := .int t_size) (C := rr_Gr) (T := tt_Gr) (N := 3) hx hb hts (fun w h => gwc (inn_Gr w h)) hown hK hP 0 rfl rfl 0 (by decide) (hts _ (gwc gw_85)) (fun _ h9 => h9) rfl dd_Gr_arcSum_18 ?_
          refine lv_icmp_ge (tgt := 39) hx hb dd_Gr_arcSum_21 (by decide) (fun cc => ?_) (fun cc => ?_)
          · skip
            have hf := if_t cc hf
            refine lv_iinc (v := x2 + 1) (lv' := [(2, .int (x2 + 1)), (0, .ref a_t), (1, .int x1), (3, .int x3)]) hx hb dd_Gr_arcSum_39 hl (k := 2) rfl rfl (by decide) rfl (fun ls hl => ?_)
            refine lv_goto (tgt := 4) hx hb dd_Gr_arcSum_42 (by decide) ?_
            exact ih4 x1 (x2 + 1) _ _ _ hf (lv_sub hl [1, 2, 0] rfl) hP hD hS
          · skip
            have hf := if_f cc hf
            refine lv_iload_n hx hb dd_Gr_arcSum_24 rfl (lv_at hl 1 rfl) ?_
            refine lv_aload_n hx hb dd_Gr_arcSum_25 rfl (lv_at hl 0 rfl) ?_
            refine lv_iload_n hx hb dd_Gr_arcSum_26 rfl (lv_at hl 2 rfl) ?_
            refine lv_iload_n hx hb dd_Gr_arcSum_27 rfl (lv_at hl 3 rfl) ?_
            obtain ⟨r28, hr28, hf⟩ := bind_some hf
            refine xcalli (rest := [.int x1]) (wc := (wd_Gr_arcOf cI cZ a_t a_t_arcs a_t_weight t_size t_arcs)) (w1 := (wd_Gr_arcOf cI cZ a_t a_t_arcs a_t_weight t_size t_arcs)) (wr := []) (ws' := (wd_Gr_arcSum cI cZ a_t a_t_arcs a_t_weight t_size t_arcs)) (va_runV (As := [.int x2, .int x3]) ⟨hx, hb, hml, hown, hts⟩ (c_Gr_arcOf l dC dI cI cZ a_t a_t_arcs a_t_weight H.size x2 x3 t_size t_arcs r28 hr28) (cwV 2 hts (gV gw_389 gw_318 gw_319 gw_54 gw_320) rfl rfl rfl (yd_Gr_arcOf) ⟨Nat.le_of_ble_eq_true rfl, Nat.le_of_ble_eq_true rfl⟩) (mkV hK (hP.sub (ws' := (wd_Gr_arcOf cI cZ a_t a_t_arcs a_t_weight t_size t_arcs)) [0, 1] rfl) (hD.sub (ws' := (wd_Gr_arcOf cI cZ a_t a_t_arcs a_t_weight t_size t_arcs)) [0, 1] (by decide) rfl) hN (va_recv hK hP (ci := 1) (q0 := 0) rfl rfl)) rfl rfl hl.1 rfl (lv_room (Nat.le_of_ble_eq_true rfl)) dd_Gr_arcSum_28 ⟨Nat.zero_le _, Nat.zero_le _⟩) hP hD hS hA [0, 1] [] [0, 1] rfl rfl (by decide) (by decide) rfl (by decide) rfl (fun H locs hP hD hS => ?_)
            refine lv_iadd hx hb dd_Gr_arcSum_31 ?_
            refine lv_istore_n (lv' := [(1, .int (x1 + r28)), (0, .ref a_t), (2, .int x2), (3, .int x3)]) hx hb dd_Gr_arcSum_32 rfl hl (by decide) rfl (fun ls hl => ?_)
            refine lv_iinc (v := x3 + 1) (lv' := [(3, .int (x3 + 1)), (1, .int (x1 + r28)), (0, .ref a_t), (2, .int x2)]) hx hb dd_Gr_arcSum_33 hl (k := 3) rfl rfl (by decide) rfl (fun ls hl => ?_)
            refine lv_goto (tgt := 16) hx hb dd_Gr_arcSum_36 (by decide) ?_
            exact ih16 (x1 + r28) x2 (x3 + 1) _ _ _ hf (lv_sub hl [2, 1, 3, 0] rfl) hP hD hS
      refine lv_iload_n hx hb dd_Gr_arcSum_4 rfl (lv_at hl 2 rfl) ?_
      refine lv_aload_n hx hb dd_Gr_arcSum_5 rfl (lv_at hl 0 rfl) ?_
      refine va_get (D := (dC, dI)) (ci := 1) (v := .int t_size) (C := rr_Gr) (T := tt_Gr) (N := 3) hx hb hts (fun w h => gwc (inn_Gr w h)) hown hK hP 0 rfl rfl 0 (by decide) (hts _ (gwc gw_85)) (fun _ h9 => h9) rfl dd_Gr_arcSum_6 ?_
      refine lv_icmp_ge (tgt := 45) hx hb dd_Gr_arcSum_9 (by decide) (fun cc => ?_) (fun cc => ?_)
      · skip
        have hf := if_t cc hf
        refine lv_iload_n hx hb dd_Gr_arcSum_45 rfl (lv_at hl 1 rfl) ?_
        cases hf
        exact W.iret hx hb hr (fun t ht hW => ⟨⟨_, (), rfl, rfl, pst_of ht hP hD⟩, hS.F ht⟩) hS.2.2 dd_Gr_arcSum_46
      · skip
        have hf := if_f cc hf
        refine lv_iload_n hx hb dd_Gr_arcSum_12 rfl (lv_at hl 2 rfl) ?_
        refine lv_iconst (v := 1) hx hb dd_Gr_arcSum_13 (by decide) ?_
        refine lv_iadd hx hb dd_Gr_arcSum_14 ?_
        refine lv_istore_n (lv' := [(3, .int (x2 + 1)), (0, .ref a_t), (1, .int x1), (2, .int x2)]) hx hb dd_Gr_arcSum_15 rfl hl (by decide) rfl (fun ls hl => ?_)
        exact h16 64 x1 x2 (x2 + 1) _ _ _ hf (lv_sub hl [1, 2, 3, 0] rfl) hP hD hS
  refine lv_iconst (v := 0) hx hb dd_Gr_arcSum_0 (by decide) ?_
  refine lv_istore_n (lv' := [(1, .int 0), (0, .ref a_t)]) hx hb dd_Gr_arcSum_1 rfl hl (by decide) rfl (fun ls hl => ?_)
  refine lv_iconst (v := 0) hx hb dd_Gr_arcSum_2 (by decide) ?_
  refine lv_istore_n (lv' := [(2, .int 0), (1, .int 0), (0, .ref a_t)]) hx hb dd_Gr_arcSum_3 rfl hl (by decide) rfl (fun ls hl => ?_)
  exact h4 64 0 0 _ _ _ hf (lv_sub hl [2, 1, 0] rfl) hP hD hS
set_option maxRecDepth 100000 in
set_option maxHeartbeats 4000000 in
theorem c_Gr_new (l : Launch) (dC : Nat → ClassId) (dI : Nat → Nat → Nat) (cI cZ : ClassId) (a_t sz : Nat) : Met l yy_Gr_new wq_Gr_new ({ frames := 1, cells := 2, slots := 1640, locals := 12 }) (va_Pc [.ref a_t] (pre_ (dC, dI) cI cZ sz [(a_t, .inr (1, [.int 0, .null, .null]))])) (va_Qv (fun _ : Unit => True) (fun _ t => ∃ q12 q21 : Nat, pst (dC, dI) (va_A [(a_t, .inr (1, [.int 0, .null, .null]))] sz) [(a_t, .inr (1, [.int 0, .ref q12, .ref q21])), (q12, .inl (cI, 40, .inl (fun _ => 0))), (q21, .inl (cI, 1600, .inl (fun _ => 0)))] t) (va_A [(a_t, .inr (1, [.int 0, .null, .null]))] sz)) 2 1640 (va_A [(a_t, .inr (1, [.int 0, .null, .null]))] sz) := by
  refine Met.ofW (cc := cc_Gr_new) (maxL := 1) (ret := none) (by decide) rfl ?_
  intro p e s m args below meth c s₁ B hml hv
  obtain ⟨rfl, hsz, hP, hK, hD0, hN⟩ := hv
  have hx := B.exec
  have hb := B.bytes
  have hr := B.returns
  have hts := atoms_spec (ws := wq_Gr_new) B.pre
  have hown : s.vm.findClass rr_Gr = some m.cls := findClass_of_methodNamed B.named
  have hlocks := B.notSynchronized
  have hin : meth.name = "<init>" := (name_of_methodNamed B.named B.method).1
  subst hsz
  have hD := hD0.self (sz := s.heap.size)
  generalize hAe : va_A [(a_t, .inr (1, [.int 0, .null, .null]))] s.heap.size = A at hD ⊢
  have hA : ∀ q : Nat, s.heap.size ≤ q → A q := fun q h => by rw [← hAe]; exact Or.inr h
  have hS : va_S A s.heap s.heap [] := va_S.rf
  have hl := lv_entry ([.ref a_t]) (n := 1) (Nat.le_of_ble_eq_true rfl)
  rw [lg_entry_eq]
  generalize (lg_sl ([.ref a_t]) ++ List.replicate (1 - (lg_sl ([.ref a_t])).length) Slot.unset).toArray = ls at hl ⊢
  have hl : lv_has ls 1 [(0, .ref a_t)] := hl
  refine lv_aload_n hx hb dd_Gr_new_0 rfl (lv_at hl 0 rfl) ?_
  refine W.objInit hx hb hown (hts _ (gwc gw_84)) (hts _ (gwc gw_71)) (hts _ (gwc gw_72)) rfl (by rw [hml]; exact hl.1) rfl dd_Gr_new_1 (Nat.le_of_ble_eq_true rfl) (Nat.le_of_ble_eq_true rfl) ?_
  refine W.eq (g2 := F0 m 4 ls []) rfl ?_
  refine lv_aload_n hx hb dd_Gr_new_4 rfl (lv_at hl 0 rfl) ?_
  refine lv_iconst (v := 0) hx hb dd_Gr_new_5 (by decide) ?_
  refine va_put (D := (dC, dI)) (ci := 1) (v := .int 0) (ty := .int) (C := rr_Gr) (T := tt_Gr) (N := 3) hx hb hts (fun w h => gwc (inn_Gr w h)) tf_Gr to_Gr tn_Gr hown hK hP hD hS 0 rfl rfl 0 (by decide) (hts _ (gwc gw_85)) (fun _ h9 => h9) rfl (by decide +kernel) rfl rfl (Nat.le_of_ble_eq_true rfl) dd_Gr_new_6 (fun H locs hP hD hS => ?_)
  have hP : va_P (dC, dI) clsL [(a_t, .inr (1, [.int 0, .null, .null]))] H := hP
  have hD : va_D A [(a_t, .inr (1, [.int 0, .null, .null]))] := hD
  refine lv_aload_n hx hb dd_Gr_new_9 rfl (lv_at hl 0 rfl) ?_
  refine lv_bipush (v := 40) hx hb dd_Gr_new_10 (by decide) ?_
  refine xnewi (N := 40) hx hb (hts _ (gwc gw_106)) hK hP hD hS hA (by decide) (by decide) (by decide) (Nat.le_of_ble_eq_true rfl) (Nat.le_of_ble_eq_true rfl) dd_Gr_new_12 (fun q12 H hP hD hS => ?_)
  have hP : va_P (dC, dI) clsL [(a_t, .inr (1, [.int 0, .null, .null])), (q12, .inl (cI, 40, .inl (fun _ => 0)))] H := hP
  have hD : va_D A [(a_t, .inr (1, [.int 0, .null, .null])), (q12, .inl (cI, 40, .inl (fun _ => 0)))] := hD
  refine W.widen (k := 1) (n := 40) (by decide) (by decide) ?_
  refine va_putF (D := (dC, dI)) (ci := 1) (v := .ref q12) (ty := (.array .int)) (C := rr_Gr) (T := tt_Gr) (N := 3) hx hb hts (fun w h => gwc (inn_Gr w h)) tf_Gr to_Gr tn_Gr hown hK hP hD hS 0 rfl rfl 1 (by decide) (hts _ (gwc gw_92)) (fun _ h9 => h9) rfl hin rfl (by decide +kernel) rfl rfl (Nat.le_of_ble_eq_true rfl) dd_Gr_new_14 (fun H locs hP hD hS => ?_)
  have hP : va_P (dC, dI) clsL [(a_t, .inr (1, [.int 0, .ref q12, .null])), (q12, .inl (cI, 40, .inl (fun _ => 0)))] H := hP
  have hD : va_D A [(a_t, .inr (1, [.int 0, .ref q12, .null])), (q12, .inl (cI, 40, .inl (fun _ => 0)))] := hD
  refine lv_aload_n hx hb dd_Gr_new_17 rfl (lv_at hl 0 rfl) ?_
  refine lv_sipush (v := 1600) hx hb dd_Gr_new_18 (by decide) ?_
  refine xnewi (N := 1600) hx hb (hts _ (gwc gw_106)) hK hP hD hS hA (by decide) (by decide) (by decide) (Nat.le_of_ble_eq_true rfl) (Nat.le_of_ble_eq_true rfl) dd_Gr_new_21 (fun q21 H hP hD hS => ?_)
  have hP : va_P (dC, dI) clsL [(a_t, .inr (1, [.int 0, .ref q12, .null])), (q12, .inl (cI, 40, .inl (fun _ => 0))), (q21, .inl (cI, 1600, .inl (fun _ => 0)))] H := hP
  have hD : va_D A [(a_t, .inr (1, [.int 0, .ref q12, .null])), (q12, .inl (cI, 40, .inl (fun _ => 0))), (q21, .inl (cI, 1600, .inl (fun _ => 0)))] := hD
  refine W.widen (k := 2) (n := 1640) (by decide) (by decide) ?_
  refine va_putF (D := (dC, dI)) (ci := 1) (v := .ref q21) (ty := (.array .int)) (C := rr_Gr) (T := tt_Gr) (N := 3) hx hb hts (fun w h => gwc (inn_Gr w h)) tf_Gr to_Gr tn_Gr hown hK hP hD hS 0 rfl rfl 2 (by decide) (hts _ (gwc gw_98)) (fun _ h9 => h9) rfl hin rfl (by decide +kernel) rfl rfl (Nat.le_of_ble_eq_true rfl) dd_Gr_new_23 (fun H locs hP hD hS => ?_)
  have hP : va_P (dC, dI) clsL [(a_t, .inr (1, [.int 0, .ref q12, .ref q21])), (q12, .inl (cI, 40, .inl (fun _ => 0))), (q21, .inl (cI, 1600, .inl (fun _ => 0)))] H := hP
  have hD : va_D A [(a_t, .inr (1, [.int 0, .ref q12, .ref q21])), (q12, .inl (cI, 40, .inl (fun _ => 0))), (q21, .inl (cI, 1600, .inl (fun _ => 0)))] := hD
  exact W.vret hx hb hr (fun t ht hW => ⟨⟨(), rfl, trivial, q12, q21, pst_of ht hP hD⟩, hS.F ht⟩) hS.2.2 dd_Gr_new_26
