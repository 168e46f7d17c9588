abbrev wd_Bo_has (cI cZ : ClassId) (a_t a_t_least a_t_most : Nat) (t_k : Int32) : va_W := [(a_t, .inr (0, [.int t_k, .ref a_t_least, .ref a_t_most]))]
set_option maxRecDepth 100000 in
set_option maxHeartbeats 4000000 in
theorem c_Bo_has (l : Launch) (dC : Nat → ClassId) (dI : Nat → Nat → Nat) (cI cZ : ClassId) (a_t a_t_least a_t_most sz : Nat) (x1 : Int32) (t_k : Int32) (out : Int32) (hf : f_Bo_has x1 t_k = some out) :
    Met l yy_Bo_has wq_Bo_has ({ frames := 0, cells := 0, slots := 0, locals := 0 }) (va_Pc ([.ref a_t, .int x1] : List Value) (pre_ (dC, dI) cI cZ sz (wd_Bo_has cI cZ a_t a_t_least a_t_most t_k))) (va_Qi (fun (r : Int32) (_ : Unit) => r = out) (fun _ => pst (dC, dI) (va_A (wd_Bo_has cI cZ a_t a_t_least a_t_most t_k) sz) (wd_Bo_has cI cZ a_t a_t_least a_t_most t_k)) (va_A (wd_Bo_has cI cZ a_t a_t_least a_t_most t_k) sz)) 0 0 (va_A (wd_Bo_has cI cZ a_t a_t_least a_t_most t_k) sz) := by
  refine Met.ofW (cc := cc_Bo_has) (maxL := 2) (ret := (some .boolean)) (by decide) rfl ?_
  intro p e s m args below meth c s₁ B hml hv
  obtain ⟨rfl, hsz, hP, hK, hD0, hN⟩ := hv
  have hx := B.exec
  have hb := B.bytes
  have hr := B.returns
  have hts := atoms_spec (ws := wq_Bo_has) B.pre
  have hown : s.vm.findClass rr_Bo = some m.cls := findClass_of_methodNamed B.named
  have hlocks := B.notSynchronized
  subst hsz
  have hD := hD0.self (sz := s.heap.size)
  generalize hAe : va_A (wd_Bo_has cI cZ a_t a_t_least a_t_most t_k) s.heap.size = A at hD ⊢
  have hA : ∀ q : Nat, s.heap.size ≤ q → A q := fun q h => by rw [← hAe]; exact Or.inr h
  obtain ⟨H, hH⟩ : ∃ H : Heap, H = s.heap := ⟨_, rfl⟩
  have hS : va_S A s.heap H [] := by rw [hH]; exact va_S.rf
  have hl := lv_entry (([.ref a_t, .int x1] : List Value)) (n := 2) (Nat.le_of_ble_eq_true rfl)
  rw [lg_entry_eq]
  generalize (lg_sl (([.ref a_t, .int x1] : List Value)) ++ List.replicate (2 - (lg_sl (([.ref a_t, .int x1] : List Value))).length) Slot.unset).toArray = ls at hl ⊢
  have hl : lv_has ls 2 [(0, .ref a_t), (1, .int x1)] := hl
  rw [← hH] at hP ⊢
  have hP : va_P (dC, dI) clsL (wd_Bo_has cI cZ a_t a_t_least a_t_most t_k) H := hP
  unfold f_Bo_has at hf
  refine lv_iload_n hx hb dd_Bo_has_0 rfl (lv_at hl 1 rfl) ?_
  refine lv_if_lt (tgt := 16) hx hb dd_Bo_has_1 (by decide) (fun cc => ?_) (fun cc => ?_)
  · skip
    have hf := if_t cc hf
    refine lv_iconst (v := 0) hx hb dd_Bo_has_16 (by decide) ?_
    cases hf
    exact W.zret hx hb hr narrow_b0 (fun t ht hW => ⟨⟨_, (), rfl, rfl, pst_of ht hP hD⟩, hS.F ht⟩) hS.2.2 dd_Bo_has_17
  · skip
    have hf := if_f cc hf
    refine lv_iload_n hx hb dd_Bo_has_4 rfl (lv_at hl 1 rfl) ?_
    refine lv_aload_n hx hb dd_Bo_has_5 rfl (lv_at hl 0 rfl) ?_
    refine va_get (D := (dC, dI)) (ci := 0) (v := .int t_k) (C := rr_Bo) (T := tt_Bo) (N := 3) hx hb hts (fun w h => gwc (inn_Bo w h)) hown hK hP 0 rfl rfl 0 (by decide) (hts _ (gwc gw_114)) (fun _ h9 => h9) rfl dd_Bo_has_6 ?_
    refine lv_icmp_ge (tgt := 16) hx hb dd_Bo_has_9 (by decide) (fun cc => ?_) (fun cc => ?_)
    · skip
      have hf := if_t cc hf
      refine lv_iconst (v := 0) hx hb dd_Bo_has_16 (by decide) ?_
      cases hf
      exact W.zret hx hb hr narrow_b0 (fun t ht hW => ⟨⟨_, (), rfl, rfl, pst_of ht hP hD⟩, hS.F ht⟩) hS.2.2 dd_Bo_has_17
    · skip
      have hf := if_f cc hf
      refine lv_iconst (v := 1) hx hb dd_Bo_has_12 (by decide) ?_
      refine lv_goto (tgt := 17) hx hb dd_Bo_has_13 (by decide) ?_
      cases hf
      exact W.zret hx hb hr narrow_b1 (fun t ht hW => ⟨⟨_, (), rfl, rfl, pst_of ht hP hD⟩, hS.F ht⟩) hS.2.2 dd_Bo_has_17
abbrev wd_Bo_start (cI cZ : ClassId) (a_t a_t_least a_t_most : Nat) (t_k : Int32) (t_least : Nat → Int32) (t_most : Nat → Int32) : va_W := [(a_t, .inr (0, [.int t_k, .ref a_t_least, .ref a_t_most])), (a_t_least, .inl (cI, 4, .inl t_least)), (a_t_most, .inl (cI, 4, .inl t_most))]
set_option maxRecDepth 100000 in
set_option maxHeartbeats 4000000 in
theorem c_Bo_start (l : Launch) (dC : Nat → ClassId) (dI : Nat → Nat → Nat) (cI cZ : ClassId) (a_t a_t_least a_t_most sz : Nat) (x1 : Int32) (t_k : Int32) (t_least : Nat → Int32) (t_most : Nat → Int32) (out : Int32 × (Nat → Int32) × (Nat → Int32)) (hf : f_Bo_start x1 = some out) :
    Met l yy_Bo_start wq_Bo_start ({ frames := 1, cells := 0, slots := 0, locals := 23 }) (va_Pc ([.ref a_t, .int x1] : List Value) (pre_ (dC, dI) cI cZ sz (wd_Bo_start cI cZ a_t a_t_least a_t_most t_k t_least t_most))) (va_Qv (fun _ : Unit => True) (fun _ => pst (dC, dI) (va_A (wd_Bo_start cI cZ a_t a_t_least a_t_most t_k t_least t_most) sz) (wd_Bo_start cI cZ a_t a_t_least a_t_most out.1 out.2.1 out.2.2)) (va_A (wd_Bo_start cI cZ a_t a_t_least a_t_most t_k t_least t_most) sz)) 0 0 (va_A (wd_Bo_start cI cZ a_t a_t_least a_t_most t_k t_least t_most) sz) := by
  refine Met.ofW (cc := cc_Bo_start) (maxL := 2) (ret := none) (by decide) rfl ?_
  intro p e s m args below meth c s₁ B hml hv
  obtain ⟨rfl, hsz, hP, hK, hD0, hN⟩ := hv
  have hx := B.exec
  have hb := B.bytes
  have hr := B.returns
  have hts := atoms_spec (ws := wq_Bo_start) B.pre
  have hown : s.vm.findClass rr_Bo = some m.cls := findClass_of_methodNamed B.named
  have hlocks := B.notSynchronized
  subst hsz
  have hD := hD0.self (sz := s.heap.size)
  generalize hAe : va_A (wd_Bo_start cI cZ a_t a_t_least a_t_most t_k t_least t_most) s.heap.size = A at hD ⊢
  have hA : ∀ q : Nat, s.heap.size ≤ q → A q := fun q h => by rw [← hAe]; exact Or.inr h
  obtain ⟨H, hH⟩ : ∃ H : Heap, H = s.heap := ⟨_, rfl⟩
  have hS : va_S A s.heap H [] := by rw [hH]; exact va_S.rf
  have hl := lv_entry (([.ref a_t, .int x1] : List Value)) (n := 2) (Nat.le_of_ble_eq_true rfl)
  rw [lg_entry_eq]
  generalize (lg_sl (([.ref a_t, .int x1] : List Value)) ++ List.replicate (2 - (lg_sl (([.ref a_t, .int x1] : List Value))).length) Slot.unset).toArray = ls at hl ⊢
  have hl : lv_has ls 2 [(0, .ref a_t), (1, .int x1)] := hl
  rw [← hH] at hP ⊢
  have hP : va_P (dC, dI) clsL (wd_Bo_start cI cZ a_t a_t_least a_t_most t_k t_least t_most) H := hP
  unfold f_Bo_start at hf
  refine lv_aload_n hx hb dd_Bo_start_0 rfl (lv_at hl 0 rfl) ?_
  refine lv_iload_n hx hb dd_Bo_start_1 rfl (lv_at hl 1 rfl) ?_
  refine va_put (D := (dC, dI)) (ci := 0) (v := .int x1) (ty := .int) (C := rr_Bo) (T := tt_Bo) (N := 3) hx hb hts (fun w h => gwc (inn_Bo w h)) tf_Bo to_Bo tn_Bo hown hK hP hD hS 0 rfl rfl 0 (by decide) (hts _ (gwc gw_114)) (fun _ h9 => h9) rfl (by decide +kernel) rfl rfl (Nat.le_of_ble_eq_true rfl) dd_Bo_start_2 (fun H locs hP hD hS => ?_)
  have hP : va_P (dC, dI) clsL (wd_Bo_start cI cZ a_t a_t_least a_t_most x1 t_least t_most) H := hP
  have hD : va_D A (wd_Bo_start cI cZ a_t a_t_least a_t_most x1 t_least t_most) := hD
  refine lv_aload_n hx hb dd_Bo_start_5 rfl (lv_at hl 0 rfl) ?_
  refine va_get (D := (dC, dI)) (ci := 0) (v := .ref a_t_least) (C := rr_Bo) (T := tt_Bo) (N := 3) hx hb hts (fun w h => gwc (inn_Bo w h)) hown hK hP 0 rfl rfl 1 (by decide) (hts _ (gwc gw_119)) (fun _ h9 => h9) rfl dd_Bo_start_6 ?_
  refine lv_iconst (v := 0) hx hb dd_Bo_start_9 (by decide) ?_
  refine xcallv (rest := []) (wc := [(a_t_least, .inl (cI, 4, .inl t_least))]) (w1 := [(a_t_least, .inl (cI, 4, .inl (fun _ => 0)))]) (wr := [(a_t, .inr (0, [.int x1, .ref a_t_least, .ref a_t_most])), (a_t_most, .inl (cI, 4, .inl t_most))]) (ws' := (wd_Bo_start cI cZ a_t a_t_least a_t_most x1 (fun _ => 0) t_most)) (va_runS (As := [.ref a_t_least, .int 0]) ⟨hx, hb, hml, hown, hts⟩ (c_fill l dC dI cI cZ a_t_least H.size 4 (by decide) t_least 0) (va_cwS 2 hts (gS gw_338 gw_339 gw_62 gw_340) rfl rfl rfl yd_fill ⟨Nat.le_of_ble_eq_true rfl, Nat.le_of_ble_eq_true rfl⟩) (mkS hK (hP.sub (ws' := [(a_t_least, .inl (cI, 4, .inl t_least))]) [1] rfl) (hD.sub (ws' := [(a_t_least, .inl (cI, 4, .inl t_least))]) [1] (by decide) rfl) hN) rfl rfl hl.1 rfl (lv_room (Nat.le_of_ble_eq_true rfl)) dd_Bo_start_10 ⟨Nat.zero_le _, Nat.zero_le _⟩) hP hD hS hA [1] [0, 2] [0, 2, 1] rfl rfl (by decide) (by decide) rfl (by decide) rfl (fun H locs hP hD hS => ?_)
  have hP : va_P (dC, dI) clsL (wd_Bo_start cI cZ a_t a_t_least a_t_most x1 (fun _ => 0) t_most) H := hP
  have hD : va_D A (wd_Bo_start cI cZ a_t a_t_least a_t_most x1 (fun _ => 0) t_most) := hD
  refine lv_aload_n hx hb dd_Bo_start_13 rfl (lv_at hl 0 rfl) ?_
  refine va_get (D := (dC, dI)) (ci := 0) (v := .ref a_t_most) (C := rr_Bo) (T := tt_Bo) (N := 3) hx hb hts (fun w h => gwc (inn_Bo w h)) hown hK hP 0 rfl rfl 2 (by decide) (hts _ (gwc gw_122)) (fun _ h9 => h9) rfl dd_Bo_start_14 ?_
  refine lv_ldc (v := 1000000) hx hb hown (hts _ (gwc gw_113)) dd_Bo_start_17 ?_
  refine xcallv (rest := []) (wc := [(a_t_most, .inl (cI, 4, .inl t_most))]) (w1 := [(a_t_most, .inl (cI, 4, .inl (fun _ => 1000000)))]) (wr := [(a_t, .inr (0, [.int x1, .ref a_t_least, .ref a_t_most])), (a_t_least, .inl (cI, 4, .inl (fun _ => 0)))]) (ws' := (wd_Bo_start cI cZ a_t a_t_least a_t_most x1 (fun _ => 0) (fun _ => 1000000))) (va_runS (As := [.ref a_t_most, .int 1000000]) ⟨hx, hb, hml, hown, hts⟩ (c_fill l dC dI cI cZ a_t_most H.size 4 (by decide) t_most 1000000) (va_cwS 2 hts (gS gw_338 gw_339 gw_62 gw_340) rfl rfl rfl yd_fill ⟨Nat.le_of_ble_eq_true rfl, Nat.le_of_ble_eq_true rfl⟩) (mkS hK (hP.sub (ws' := [(a_t_most, .inl (cI, 4, .inl t_most))]) [2] rfl) (hD.sub (ws' := [(a_t_most, .inl (cI, 4, .inl t_most))]) [2] (by decide) rfl) hN) rfl rfl hl.1 rfl (lv_room (Nat.le_of_ble_eq_true rfl)) dd_Bo_start_19 ⟨Nat.zero_le _, Nat.zero_le _⟩) hP hD hS hA [2] [0, 1] [0, 1, 2] rfl rfl (by decide) (by decide) rfl (by decide) rfl (fun H locs hP hD hS => ?_)
  have hP : va_P (dC, dI) clsL (wd_Bo_start cI cZ a_t a_t_least a_t_most x1 (fun _ => 0) (fun _ => 1000000)) H := hP
  have hD : va_D A (wd_Bo_start cI cZ a_t a_t_least a_t_most x1 (fun _ => 0) (fun _ => 1000000)) := hD
  cases hf
  exact W.vret hx hb hr (fun t ht hW => ⟨⟨(), rfl, trivial, pst_of ht hP hD⟩, hS.F ht⟩) hS.2.2 dd_Bo_start_22
abbrev wd_Bo_copyOf (cI cZ : ClassId) (a_t a_t_least a_t_most a_p1 a_p1_least a_p1_most : Nat) (t_k : Int32) (t_least : Nat → Int32) (t_most : Nat → Int32) (p1_k : Int32) (p1_least : Nat → Int32) (p1_most : Nat → Int32) : va_W := [(a_t, .inr (0, [.int t_k, .ref a_t_least, .ref a_t_most])), (a_t_least, .inl (cI, 4, .inl t_least)), (a_t_most, .inl (cI, 4, .inl t_most)), (a_p1, .inr (0, [.int p1_k, .ref a_p1_least, .ref a_p1_most])), (a_p1_least, .inl (cI, 4, .inl p1_least)), (a_p1_most, .inl (cI, 4, .inl p1_most))]
set_option maxRecDepth 100000 in
set_option maxHeartbeats 4000000 in
theorem c_Bo_copyOf (l : Launch) (dC : Nat → ClassId) (dI : Nat → Nat → Nat) (cI cZ : ClassId) (a_t a_t_least a_t_most a_p1 a_p1_least a_p1_most sz : Nat) (t_k : Int32) (t_least : Nat → Int32) (t_most : Nat → Int32) (p1_k : Int32) (p1_least : Nat → Int32) (p1_most : Nat → Int32) (out : Int32 × (Nat → Int32) × (Nat → Int32)) (hf : f_Bo_copyOf t_least t_most p1_k p1_least p1_most = some out) :
    Met l yy_Bo_copyOf wq_Bo_copyOf ({ frames := 1, cells := 0, slots := 0, locals := 60 }) (va_Pc ([.ref a_t, .ref a_p1] : List Value) (pre_ (dC, dI) cI cZ sz (wd_Bo_copyOf cI cZ a_t a_t_least a_t_most a_p1 a_p1_least a_p1_most t_k t_least t_most p1_k p1_least p1_most))) (va_Qv (fun _ : Unit => True) (fun _ => pst (dC, dI) (va_A (wd_Bo_copyOf cI cZ a_t a_t_least a_t_most a_p1 a_p1_least a_p1_most t_k t_least t_most p1_k p1_least p1_most) sz) (wd_Bo_copyOf cI cZ a_t a_t_least a_t_most a_p1 a_p1_least a_p1_most out.1 out.2.1 out.2.2 p1_k p1_least p1_most)) (va_A (wd_Bo_copyOf cI cZ a_t a_t_least a_t_most a_p1 a_p1_least a_p1_most t_k t_least t_most p1_k p1_least p1_most) sz)) 0 0 (va_A (wd_Bo_copyOf cI cZ a_t a_t_least a_t_most a_p1 a_p1_least a_p1_most t_k t_least t_most p1_k p1_least p1_most) sz) := by
  refine Met.ofW (cc := cc_Bo_copyOf) (maxL := 2) (ret := none) (by decide) rfl ?_
  intro p e s m args below meth c s₁ B hml hv
  obtain ⟨rfl, hsz, hP, hK, hD0, hN⟩ := hv
  have hx := B.exec
  have hb := B.bytes
  have hr := B.returns
  have hts := atoms_spec (ws := wq_Bo_copyOf) B.pre
  have hown : s.vm.findClass rr_Bo = some m.cls := findClass_of_methodNamed B.named
  have hlocks := B.notSynchronized
  subst hsz
  have hD := hD0.self (sz := s.heap.size)
  generalize hAe : va_A (wd_Bo_copyOf cI cZ a_t a_t_least a_t_most a_p1 a_p1_least a_p1_most t_k t_least t_most p1_k p1_least p1_most) s.heap.size = A at hD ⊢
  have hA : ∀ q : Nat, s.heap.size ≤ q → A q := fun q h => by rw [← hAe]; exact Or.inr h
  obtain ⟨H, hH⟩ : ∃ H : Heap, H = s.heap := ⟨_, rfl⟩
  have hS : va_S A s.heap H [] := by rw [hH]; exact va_S.rf
  have hl := lv_entry (([.ref a_t, .ref a_p1] : List Value)) (n := 2) (Nat.le_of_ble_eq_true rfl)
  rw [lg_entry_eq]
  generalize (lg_sl (([.ref a_t, .ref a_p1] : List Value)) ++ List.replicate (2 - (lg_sl (([.ref a_t, .ref a_p1] : List Value))).length) Slot.unset).toArray = ls at hl ⊢
  have hl : lv_has ls 2 [(0, .ref a_t), (1, .ref a_p1)] := hl
  rw [← hH] at hP ⊢
  have hP : va_P (dC, dI) clsL (wd_Bo_copyOf cI cZ a_t a_t_least a_t_most a_p1 a_p1_least a_p1_most t_k t_least t_most p1_k p1_least p1_most) H := hP
  unfold f_Bo_copyOf at hf
  refine lv_aload_n hx hb dd_Bo_copyOf_0 rfl (lv_at hl 0 rfl) ?_
  refine lv_aload_n hx hb dd_Bo_copyOf_1 rfl (lv_at hl 1 rfl) ?_
  refine va_get (D := (dC, dI)) (ci := 0) (v := .int p1_k) (C := rr_Bo) (T := tt_Bo) (N := 3) hx hb hts (fun w h => gwc (inn_Bo w h)) hown hK hP 3 rfl rfl 0 (by decide) (hts _ (gwc gw_114)) (fun _ h9 => h9) rfl dd_Bo_copyOf_2 ?_
  refine va_put (D := (dC, dI)) (ci := 0) (v := .int p1_k) (ty := .int) (C := rr_Bo) (T := tt_Bo) (N := 3) hx hb hts (fun w h => gwc (inn_Bo w h)) tf_Bo to_Bo tn_Bo hown hK hP hD hS 0 rfl rfl 0 (by decide) (hts _ (gwc gw_114)) (fun _ h9 => h9) rfl (by decide +kernel) rfl rfl (Nat.le_of_ble_eq_true rfl) dd_Bo_copyOf_5 (fun H locs hP hD hS => ?_)
  have hP : va_P (dC, dI) clsL (wd_Bo_copyOf cI cZ a_t a_t_least a_t_most a_p1 a_p1_least a_p1_most p1_k t_least t_most p1_k p1_least p1_most) H := hP
  have hD : va_D A (wd_Bo_copyOf cI cZ a_t a_t_least a_t_most a_p1 a_p1_least a_p1_most p1_k t_least t_most p1_k p1_least p1_most) := hD
  refine lv_aload_n hx hb dd_Bo_copyOf_8 rfl (lv_at hl 1 rfl) ?_
  refine va_get (D := (dC, dI)) (ci := 0) (v := .ref a_p1_least) (C := rr_Bo) (T := tt_Bo) (N := 3) hx hb hts (fun w h => gwc (inn_Bo w h)) hown hK hP 3 rfl rfl 1 (by decide) (hts _ (gwc gw_119)) (fun _ h9 => h9) rfl dd_Bo_copyOf_9 ?_
  refine lv_iconst (v := 0) hx hb dd_Bo_copyOf_12 (by decide) ?_
  refine lv_aload_n hx hb dd_Bo_copyOf_13 rfl (lv_at hl 0 rfl) ?_
  refine va_get (D := (dC, dI)) (ci := 0) (v := .ref a_t_least) (C := rr_Bo) (T := tt_Bo) (N := 3) hx hb hts (fun w h => gwc (inn_Bo w h)) hown hK hP 0 rfl rfl 1 (by decide) (hts _ (gwc gw_119)) (fun _ h9 => h9) rfl dd_Bo_copyOf_14 ?_
  refine lv_iconst (v := 0) hx hb dd_Bo_copyOf_17 (by decide) ?_
  refine lv_iconst (v := 4) hx hb dd_Bo_copyOf_18 (by decide) ?_
  obtain ⟨k19, hf⟩ := ck_some hf
  refine va_copyi hx hb (hml.trans hl.1.symm) hown (hts _ (gwc gw_490)) (hts _ (gwc gw_492)) (hts _ (gwc gw_491)) (hts _ (gwc gw_63)) hK hP hD hS 4 1 0 0 rfl rfl rfl rfl rfl (okc_1 k19) (okc_2 k19) (okc_3 k19) (okc_4 k19) (okc_5 k19) (fun _ _ => rfl) (Nat.le_of_ble_eq_true rfl) (Nat.le_of_ble_eq_true rfl) dd_Bo_copyOf_19 (fun H locs hP hD hS => ?_)
  have hP : va_P (dC, dI) clsL (wd_Bo_copyOf cI cZ a_t a_t_least a_t_most a_p1 a_p1_least a_p1_most p1_k (va_cpy p1_least t_least (0 : Int32).toNatClampNeg (0 : Int32).toNatClampNeg (4 : Int32).toNatClampNeg) t_most p1_k p1_least p1_most) H := hP
  have hD : va_D A (wd_Bo_copyOf cI cZ a_t a_t_least a_t_most a_p1 a_p1_least a_p1_most p1_k (va_cpy p1_least t_least (0 : Int32).toNatClampNeg (0 : Int32).toNatClampNeg (4 : Int32).toNatClampNeg) t_most p1_k p1_least p1_most) := hD
  refine lv_aload_n hx hb dd_Bo_copyOf_22 rfl (lv_at hl 1 rfl) ?_
  refine va_get (D := (dC, dI)) (ci := 0) (v := .ref a_p1_most) (C := rr_Bo) (T := tt_Bo) (N := 3) hx hb hts (fun w h => gwc (inn_Bo w h)) hown hK hP 3 rfl rfl 2 (by decide) (hts _ (gwc gw_122)) (fun _ h9 => h9) rfl dd_Bo_copyOf_23 ?_
  refine lv_iconst (v := 0) hx hb dd_Bo_copyOf_26 (by decide) ?_
  refine lv_aload_n hx hb dd_Bo_copyOf_27 rfl (lv_at hl 0 rfl) ?_
  refine va_get (D := (dC, dI)) (ci := 0) (v := .ref a_t_most) (C := rr_Bo) (T := tt_Bo) (N := 3) hx hb hts (fun w h => gwc (inn_Bo w h)) hown hK hP 0 rfl rfl 2 (by decide) (hts _ (gwc gw_122)) (fun _ h9 => h9) rfl dd_Bo_copyOf_28 ?_
  refine lv_iconst (v := 0) hx hb dd_Bo_copyOf_31 (by decide) ?_
  refine lv_iconst (v := 4) hx hb dd_Bo_copyOf_32 (by decide) ?_
  obtain ⟨k33, hf⟩ := ck_some hf
  refine va_copyi hx hb (hml.trans hl.1.symm) hown (hts _ (gwc gw_490)) (hts _ (gwc gw_492)) (hts _ (gwc gw_491)) (hts _ (gwc gw_63)) hK hP hD hS 5 2 0 0 rfl rfl rfl rfl rfl (okc_1 k33) (okc_2 k33) (okc_3 k33) (okc_4 k33) (okc_5 k33) (fun _ _ => rfl) (Nat.le_of_ble_eq_true rfl) (Nat.le_of_ble_eq_true rfl) dd_Bo_copyOf_33 (fun H locs hP hD hS => ?_)
  have hP : va_P (dC, dI) clsL (wd_Bo_copyOf cI cZ a_t a_t_least a_t_most a_p1 a_p1_least a_p1_most p1_k (va_cpy p1_least t_least (0 : Int32).toNatClampNeg (0 : Int32).toNatClampNeg (4 : Int32).toNatClampNeg) (va_cpy p1_most t_most (0 : Int32).toNatClampNeg (0 : Int32).toNatClampNeg (4 : Int32).toNatClampNeg) p1_k p1_least p1_most) H := hP
  have hD : va_D A (wd_Bo_copyOf cI cZ a_t a_t_least a_t_most a_p1 a_p1_least a_p1_most p1_k (va_cpy p1_least t_least (0 : Int32).toNatClampNeg (0 : Int32).toNatClampNeg (4 : Int32).toNatClampNeg) (va_cpy p1_most t_most (0 : Int32).toNatClampNeg (0 : Int32).toNatClampNeg (4 : Int32).toNatClampNeg) p1_k p1_least p1_most) := hD
  cases hf
  exact W.vret hx hb hr (fun t ht hW => ⟨⟨(), rfl, trivial, pst_of ht hP hD⟩, hS.F ht⟩) hS.2.2 dd_Bo_copyOf_36
abbrev wd_Bo_miss (cI cZ : ClassId) (a_t a_t_least a_t_most : Nat) (t_k : Int32) (t_least : Nat → Int32) (t_most : Nat → Int32) : va_W := [(a_t, .inr (0, [.int t_k, .ref a_t_least, .ref a_t_most])), (a_t_least, .inl (cI, 4, .inl t_least)), (a_t_most, .inl (cI, 4, .inl t_most))]
set_option maxRecDepth 100000 in
set_option maxHeartbeats 4000000 in
theorem c_Bo_miss (l : Launch) (dC : Nat → ClassId) (dI : Nat → Nat → Nat) (cI cZ : ClassId) (a_t a_t_least a_t_most sz : Nat) (x1 : Int32) (x2 : Int32) (t_k : Int32) (t_least : Nat → Int32) (t_most : Nat → Int32) (out : Int32) (hf : f_Bo_miss x1 x2 t_least t_most = some out) :
    Met l yy_Bo_miss wq_Bo_miss ({ frames := 0, cells := 0, slots := 0, locals := 0 }) (va_Pc ([.ref a_t, .int x1, .int x2] : List Value) (pre_ (dC, dI) cI cZ sz (wd_Bo_miss cI cZ a_t a_t_least a_t_most t_k t_least t_most))) (va_Qi (fun (r : Int32) (_ : Unit) => r = out) (fun _ => pst (dC, dI) (va_A (wd_Bo_miss cI cZ a_t a_t_least a_t_most t_k t_least t_most) sz) (wd_Bo_miss cI cZ a_t a_t_least a_t_most t_k t_least t_most)) (va_A (wd_Bo_miss cI cZ a_t a_t_least a_t_most t_k t_least t_most) sz)) 0 0 (va_A (wd_Bo_miss cI cZ a_t a_t_least a_t_most t_k t_least t_most) sz) := by
  refine Met.ofW (cc := cc_Bo_miss) (maxL := 3) (ret := (some .int)) (by decide) rfl ?_
  intro p e s m args below meth c s₁ B hml hv
  obtain ⟨rfl, hsz, hP, hK, hD0, hN⟩ := hv
  have hx := B.exec
  have hb := B.bytes
  have hr := B.returns
  have hts := atoms_spec (ws := wq_Bo_miss) B.pre
  have hown : s.vm.findClass rr_Bo = some m.cls := findClass_of_methodNamed B.named
  have hlocks := B.notSynchronized
  subst hsz
  have hD := hD0.self (sz := s.heap.size)
  generalize hAe : va_A (wd_Bo_miss cI cZ a_t a_t_least a_t_most t_k t_least t_most) s.heap.size = A at hD ⊢
  have hA : ∀ q : Nat, s.heap.size ≤ q → A q := fun q h => by rw [← hAe]; exact Or.inr h
  obtain ⟨H, hH⟩ : ∃ H : Heap, H = s.heap := ⟨_, rfl⟩
  have hS : va_S A s.heap H [] := by rw [hH]; exact va_S.rf
  have hl := lv_entry (([.ref a_t, .int x1, .int x2] : List Value)) (n := 3) (Nat.le_of_ble_eq_true rfl)
  rw [lg_entry_eq]
  generalize (lg_sl (([.ref a_t, .int x1, .int x2] : List Value)) ++ List.replicate (3 - (lg_sl (([.ref a_t, .int x1, .int x2] : List Value))).length) Slot.unset).toArray = ls at hl ⊢
  have hl : lv_has ls 3 [(0, .ref a_t), (1, .int x1), (2, .int x2)] := hl
  rw [← hH] at hP ⊢
  have hP : va_P (dC, dI) clsL (wd_Bo_miss cI cZ a_t a_t_least a_t_most t_k t_least t_most) H := hP
  unfold f_Bo_miss at hf
  refine lv_iload_n hx hb dd_Bo_miss_0 rfl (lv_at hl 2 rfl) ?_
  refine lv_aload_n hx hb dd_Bo_miss_1 rfl (lv_at hl 0 rfl) ?_
  refine va_get (D := (dC, dI)) (ci := 0) (v := .ref a_t_least) (C := rr_Bo) (T := tt_Bo) (N := 3) hx hb hts (fun w h => gwc (inn_Bo w h)) hown hK hP 0 rfl rfl 1 (by decide) (hts _ (gwc gw_119)) (fun _ h9 => h9) rfl dd_Bo_miss_2 ?_
  refine lv_iload_n hx hb dd_Bo_miss_5 rfl (lv_at hl 1 rfl) ?_
  obtain ⟨k6, hf⟩ := ck_some hf
  refine va_iald hx hb hK hP 1 0 rfl rfl (okb_in k6) dd_Bo_miss_6 ?_
  refine lv_icmp_ge (tgt := 19) hx hb dd_Bo_miss_7 (by decide) (fun cc => ?_) (fun cc => ?_)
  · skip
    have hf := if_t cc hf
    refine lv_iload_n hx hb dd_Bo_miss_19 rfl (lv_at hl 2 rfl) ?_
    refine lv_aload_n hx hb dd_Bo_miss_20 rfl (lv_at hl 0 rfl) ?_
    refine va_get (D := (dC, dI)) (ci := 0) (v := .ref a_t_most) (C := rr_Bo) (T := tt_Bo) (N := 3) hx hb hts (fun w h => gwc (inn_Bo w h)) hown hK hP 0 rfl rfl 2 (by decide) (hts _ (gwc gw_122)) (fun _ h9 => h9) rfl dd_Bo_miss_21 ?_
    refine lv_iload_n hx hb dd_Bo_miss_24 rfl (lv_at hl 1 rfl) ?_
    obtain ⟨k25, hf⟩ := ck_some hf
    refine va_iald hx hb hK hP 2 0 rfl rfl (okb_in k25) dd_Bo_miss_25 ?_
    refine lv_icmp_le (tgt := 40) hx hb dd_Bo_miss_26 (by decide) (fun cc => ?_) (fun cc => ?_)
    · skip
      have hf := if_t cc hf
      refine lv_iconst (v := 0) hx hb dd_Bo_miss_40 (by decide) ?_
      cases hf
      exact W.iret hx hb hr (fun t ht hW => ⟨⟨_, (), rfl, rfl, pst_of ht hP hD⟩, hS.F ht⟩) hS.2.2 dd_Bo_miss_41
    · skip
      have hf := if_f cc hf
      refine lv_iload_n hx hb dd_Bo_miss_29 rfl (lv_at hl 2 rfl) ?_
      refine lv_aload_n hx hb dd_Bo_miss_30 rfl (lv_at hl 0 rfl) ?_
      refine va_get (D := (dC, dI)) (ci := 0) (v := .ref a_t_most) (C := rr_Bo) (T := tt_Bo) (N := 3) hx hb hts (fun w h => gwc (inn_Bo w h)) hown hK hP 0 rfl rfl 2 (by decide) (hts _ (gwc gw_122)) (fun _ h9 => h9) rfl dd_Bo_miss_31 ?_
      refine lv_iload_n hx hb dd_Bo_miss_34 rfl (lv_at hl 1 rfl) ?_
      obtain ⟨k35, hf⟩ := ck_some hf
      refine va_iald hx hb hK hP 2 0 rfl rfl (okb_in k35) dd_Bo_miss_35 ?_
      refine lv_isub hx hb dd_Bo_miss_36 ?_
      refine lv_goto (tgt := 41) hx hb dd_Bo_miss_37 (by decide) ?_
      cases hf
      exact W.iret hx hb hr (fun t ht hW => ⟨⟨_, (), rfl, rfl, pst_of ht hP hD⟩, hS.F ht⟩) hS.2.2 dd_Bo_miss_41
  · skip
    have hf := if_f cc hf
    refine lv_aload_n hx hb dd_Bo_miss_10 rfl (lv_at hl 0 rfl) ?_
    refine va_get (D := (dC, dI)) (ci := 0) (v := .ref a_t_least) (C := rr_Bo) (T := tt_Bo) (N := 3) hx hb hts (fun w h => gwc (inn_Bo w h)) hown hK hP 0 rfl rfl 1 (by decide) (hts _ (gwc gw_119)) (fun _ h9 => h9) rfl dd_Bo_miss_11 ?_
    refine lv_iload_n hx hb dd_Bo_miss_14 rfl (lv_at hl 1 rfl) ?_
    obtain ⟨k15, hf⟩ := ck_some hf
    refine va_iald hx hb hK hP 1 0 rfl rfl (okb_in k15) dd_Bo_miss_15 ?_
    refine lv_iload_n hx hb dd_Bo_miss_16 rfl (lv_at hl 2 rfl) ?_
    refine lv_isub hx hb dd_Bo_miss_17 ?_
    cases hf
    exact W.iret hx hb hr (fun t ht hW => ⟨⟨_, (), rfl, rfl, pst_of ht hP hD⟩, hS.F ht⟩) hS.2.2 dd_Bo_miss_18
set_option maxRecDepth 100000 in
set_option maxHeartbeats 4000000 in
theorem c_Bo_new (l : Launch) (dC : Nat → ClassId) (dI : Nat → Nat → Nat) (cI cZ : ClassId) (a_t sz : Nat) : Met l yy_Bo_new wq_Bo_new ({ frames := 1, cells := 2, slots := 8, locals := 12 }) (va_Pc [.ref a_t] (pre_ (dC, dI) cI cZ sz [(a_t, .inr (0, [.int 0, .null, .null]))])) (va_Qv (fun _ : Unit => True) (fun _ t => ∃ q11 q18 : Nat, pst (dC, dI) (va_A [(a_t, .inr (0, [.int 0, .null, .null]))] sz) [(a_t, .inr (0, [.int 2, .ref q11, .ref q18])), (q11, .inl (cI, 4, .inl (fun _ => 0))), (q18, .inl (cI, 4, .inl (upd (upd (upd (upd (fun _ => 0) (0 : Int32).toNatClampNeg 1000000) (1 : Int32).toNatClampNeg 1000000) (2 : Int32).toNatClampNeg 1000000) (3 : Int32).toNatClampNeg 1000000)))] t) (va_A [(a_t, .inr (0, [.int 0, .null, .null]))] sz)) 2 8 (va_A [(a_t, .inr (0, [.int 0, .null, .null]))] sz) := by
  refine Met.ofW (cc := cc_Bo_new) (maxL := 1) (ret := none) (by decide) rfl ?_
  intro p e s m args below meth c s₁ B hml hv
  obtain ⟨rfl, hsz, hP, hK, hD0, hN⟩ := hv
  have hx := B.exec
  have hb := B.bytes
  have hr := B.returns
  have hts := atoms_spec (ws := wq_Bo_new) B.pre
  have hown : s.vm.findClass rr_Bo = some m.cls := findClass_of_methodNamed B.named
  have hlocks := B.notSynchronized
  have hin : meth.name = "<init>" := (name_of_methodNamed B.named B.method).1
  subst hsz
  have hD := hD0.self (sz := s.heap.size)
  generalize hAe : va_A [(a_t, .inr (0, [.int 0, .null, .null]))] s.heap.size = A at hD ⊢
  have hA : ∀ q : Nat, s.heap.size ≤ q → A q := fun q h => by rw [← hAe]; exact Or.inr h
  have hS : va_S A s.heap s.heap [] := va_S.rf
  have hl := lv_entry ([.ref a_t]) (n := 1) (Nat.le_of_ble_eq_true rfl)
  rw [lg_entry_eq]
  generalize (lg_sl ([.ref a_t]) ++ List.replicate (1 - (lg_sl ([.ref a_t])).length) Slot.unset).toArray = ls at hl ⊢
  have hl : lv_has ls 1 [(0, .ref a_t)] := hl
  refine lv_aload_n hx hb dd_Bo_new_0 rfl (lv_at hl 0 rfl) ?_
  refine W.objInit hx hb hown (hts _ (gwc gw_112)) (hts _ (gwc gw_71)) (hts _ (gwc gw_72)) rfl (by rw [hml]; exact hl.1) rfl dd_Bo_new_1 (Nat.le_of_ble_eq_true rfl) (Nat.le_of_ble_eq_true rfl) ?_
  refine W.eq (g2 := F0 m 4 ls []) rfl ?_
  refine lv_aload_n hx hb dd_Bo_new_4 rfl (lv_at hl 0 rfl) ?_
  refine lv_iconst (v := 2) hx hb dd_Bo_new_5 (by decide) ?_
  refine va_put (D := (dC, dI)) (ci := 0) (v := .int 2) (ty := .int) (C := rr_Bo) (T := tt_Bo) (N := 3) hx hb hts (fun w h => gwc (inn_Bo w h)) tf_Bo to_Bo tn_Bo hown hK hP hD hS 0 rfl rfl 0 (by decide) (hts _ (gwc gw_114)) (fun _ h9 => h9) rfl (by decide +kernel) rfl rfl (Nat.le_of_ble_eq_true rfl) dd_Bo_new_6 (fun H locs hP hD hS => ?_)
  have hP : va_P (dC, dI) clsL [(a_t, .inr (0, [.int 2, .null, .null]))] H := hP
  have hD : va_D A [(a_t, .inr (0, [.int 2, .null, .null]))] := hD
  refine lv_aload_n hx hb dd_Bo_new_9 rfl (lv_at hl 0 rfl) ?_
  refine lv_iconst (v := 4) hx hb dd_Bo_new_10 (by decide) ?_
  refine xnewi (N := 4) hx hb (hts _ (gwc gw_106)) hK hP hD hS hA (by decide) (by decide) (by decide) (Nat.le_of_ble_eq_true rfl) (Nat.le_of_ble_eq_true rfl) dd_Bo_new_11 (fun q11 H hP hD hS => ?_)
  have hP : va_P (dC, dI) clsL [(a_t, .inr (0, [.int 2, .null, .null])), (q11, .inl (cI, 4, .inl (fun _ => 0)))] H := hP
  have hD : va_D A [(a_t, .inr (0, [.int 2, .null, .null])), (q11, .inl (cI, 4, .inl (fun _ => 0)))] := hD
  refine W.widen (k := 1) (n := 4) (by decide) (by decide) ?_
  refine va_putF (D := (dC, dI)) (ci := 0) (v := .ref q11) (ty := (.array .int)) (C := rr_Bo) (T := tt_Bo) (N := 3) hx hb hts (fun w h => gwc (inn_Bo w h)) tf_Bo to_Bo tn_Bo hown hK hP hD hS 0 rfl rfl 1 (by decide) (hts _ (gwc gw_119)) (fun _ h9 => h9) rfl hin rfl (by decide +kernel) rfl rfl (Nat.le_of_ble_eq_true rfl) dd_Bo_new_13 (fun H locs hP hD hS => ?_)
  have hP : va_P (dC, dI) clsL [(a_t, .inr (0, [.int 2, .ref q11, .null])), (q11, .inl (cI, 4, .inl (fun _ => 0)))] H := hP
  have hD : va_D A [(a_t, .inr (0, [.int 2, .ref q11, .null])), (q11, .inl (cI, 4, .inl (fun _ => 0)))] := hD
  refine lv_aload_n hx hb dd_Bo_new_16 rfl (lv_at hl 0 rfl) ?_
  refine lv_iconst (v := 4) hx hb dd_Bo_new_17 (by decide) ?_
  refine xnewi (N := 4) hx hb (hts _ (gwc gw_106)) hK hP hD hS hA (by decide) (by decide) (by decide) (Nat.le_of_ble_eq_true rfl) (Nat.le_of_ble_eq_true rfl) dd_Bo_new_18 (fun q18 H hP hD hS => ?_)
  have hP : va_P (dC, dI) clsL [(a_t, .inr (0, [.int 2, .ref q11, .null])), (q11, .inl (cI, 4, .inl (fun _ => 0))), (q18, .inl (cI, 4, .inl (fun _ => 0)))] H := hP
  have hD : va_D A [(a_t, .inr (0, [.int 2, .ref q11, .null])), (q11, .inl (cI, 4, .inl (fun _ => 0))), (q18, .inl (cI, 4, .inl (fun _ => 0)))] := hD
  refine W.widen (k := 2) (n := 8) (by decide) (by decide) ?_
  refine lv_dup hx hb dd_Bo_new_20 rfl ?_
  refine lv_iconst (v := 0) hx hb dd_Bo_new_21 (by decide) ?_
  refine lv_ldc (v := 1000000) hx hb hown (hts _ (gwc gw_113)) dd_Bo_new_22 ?_
  refine va_iast hx hb hK hP hD hS 2 0 rfl rfl (okb_in (by decide)) dd_Bo_new_24 (fun H locs hP hD hS => ?_)
  have hP : va_P (dC, dI) clsL [(a_t, .inr (0, [.int 2, .ref q11, .null])), (q11, .inl (cI, 4, .inl (fun _ => 0))), (q18, .inl (cI, 4, .inl (upd (fun _ => 0) (0 : Int32).toNatClampNeg 1000000)))] H := hP
  have hD : va_D A [(a_t, .inr (0, [.int 2, .ref q11, .null])), (q11, .inl (cI, 4, .inl (fun _ => 0))), (q18, .inl (cI, 4, .inl (upd (fun _ => 0) (0 : Int32).toNatClampNeg 1000000)))] := hD
  refine lv_dup hx hb dd_Bo_new_25 rfl ?_
  refine lv_iconst (v := 1) hx hb dd_Bo_new_26 (by decide) ?_
  refine lv_ldc (v := 1000000) hx hb hown (hts _ (gwc gw_113)) dd_Bo_new_27 ?_
  refine va_iast hx hb hK hP hD hS 2 0 rfl rfl (okb_in (by decide)) dd_Bo_new_29 (fun H locs hP hD hS => ?_)
  have hP : va_P (dC, dI) clsL [(a_t, .inr (0, [.int 2, .ref q11, .null])), (q11, .inl (cI, 4, .inl (fun _ => 0))), (q18, .inl (cI, 4, .inl (upd (upd (fun _ => 0) (0 : Int32).toNatClampNeg 1000000) (1 : Int32).toNatClampNeg 1000000)))] H := hP
  have hD : va_D A [(a_t, .inr (0, [.int 2, .ref q11, .null])), (q11, .inl (cI, 4, .inl (fun _ => 0))), (q18, .inl (cI, 4, .inl (upd (upd (fun _ => 0) (0 : Int32).toNatClampNeg 1000000) (1 : Int32).toNatClampNeg 1000000)))] := hD
  refine lv_dup hx hb dd_Bo_new_30 rfl ?_
  refine lv_iconst (v := 2) hx hb dd_Bo_new_31 (by decide) ?_
  refine lv_ldc (v := 1000000) hx hb hown (hts _ (gwc gw_113)) dd_Bo_new_32 ?_
  refine va_iast hx hb hK hP hD hS 2 0 rfl rfl (okb_in (by decide)) dd_Bo_new_34 (fun H locs hP hD hS => ?_)
  have hP : va_P (dC, dI) clsL [(a_t, .inr (0, [.int 2, .ref q11, .null])), (q11, .inl (cI, 4, .inl (fun _ => 0))), (q18, .inl (cI, 4, .inl (upd (upd (upd (fun _ => 0) (0 : Int32).toNatClampNeg 1000000) (1 : Int32).toNatClampNeg 1000000) (2 : Int32).toNatClampNeg 1000000)))] H := hP
  have hD : va_D A [(a_t, .inr (0, [.int 2, .ref q11, .null])), (q11, .inl (cI, 4, .inl (fun _ => 0))), (q18, .inl (cI, 4, .inl (upd (upd (upd (fun _ => 0) (0 : Int32).toNatClampNeg 1000000) (1 : Int32).toNatClampNeg 1000000) (2 : Int32).toNatClampNeg 1000000)))] := hD
  refine lv_dup hx hb dd_Bo_new_35 rfl ?_
  refine lv_iconst (v := 3) hx hb dd_Bo_new_36 (by decide) ?_
  refine lv_ldc (v := 1000000) hx hb hown (hts _ (gwc gw_113)) dd_Bo_new_37 ?_
  refine va_iast hx hb hK hP hD hS 2 0 rfl rfl (okb_in (by decide)) dd_Bo_new_39 (fun H locs hP hD hS => ?_)
  have hP : va_P (dC, dI) clsL [(a_t, .inr (0, [.int 2, .ref q11, .null])), (q11, .inl (cI, 4, .inl (fun _ => 0))), (q18, .inl (cI, 4, .inl (upd (upd (upd (upd (fun _ => 0) (0 : Int32).toNatClampNeg 1000000) (1 : Int32).toNatClampNeg 1000000) (2 : Int32).toNatClampNeg 1000000) (3 : Int32).toNatClampNeg 1000000)))] H := hP
  have hD : va_D A [(a_t, .inr (0, [.int 2, .ref q11, .null])), (q11, .inl (cI, 4, .inl (fun _ => 0))), (q18, .inl (cI, 4, .inl (upd (upd (upd (upd (fun _ => 0) (0 : Int32).toNatClampNeg 1000000) (1 : Int32).toNatClampNeg 1000000) (2 : Int32).toNatClampNeg 1000000) (3 : Int32).toNatClampNeg 1000000)))] := hD
  refine va_putF (D := (dC, dI)) (ci := 0) (v := .ref q18) (ty := (.array .int)) (C := rr_Bo) (T := tt_Bo) (N := 3) hx hb hts (fun w h => gwc (inn_Bo w h)) tf_Bo to_Bo tn_Bo hown hK hP hD hS 0 rfl rfl 2 (by decide) (hts _ (gwc gw_122)) (fun _ h9 => h9) rfl hin rfl (by decide +kernel) rfl rfl (Nat.le_of_ble_eq_true rfl) dd_Bo_new_40 (fun H locs hP hD hS => ?_)
  have hP : va_P (dC, dI) clsL [(a_t, .inr (0, [.int 2, .ref q11, .ref q18])), (q11, .inl (cI, 4, .inl (fun _ => 0))), (q18, .inl (cI, 4, .inl (upd (upd (upd (upd (fun _ => 0) (0 : Int32).toNatClampNeg 1000000) (1 : Int32).toNatClampNeg 1000000) (2 : Int32).toNatClampNeg 1000000) (3 : Int32).toNatClampNeg 1000000)))] H := hP
  have hD : va_D A [(a_t, .inr (0, [.int 2, .ref q11, .ref q18])), (q11, .inl (cI, 4, .inl (fun _ => 0))), (q18, .inl (cI, 4, .inl (upd (upd (upd (upd (fun _ => 0) (0 : Int32).toNatClampNeg 1000000) (1 : Int32).toNatClampNeg 1000000) (2 : Int32).toNatClampNeg 1000000) (3 : Int32).toNatClampNeg 1000000)))] := hD
  exact W.vret hx hb hr (fun t ht hW => ⟨⟨(), rfl, trivial, q11, q18, pst_of ht hP hD⟩, hS.F ht⟩) hS.2.2 dd_Bo_new_43
