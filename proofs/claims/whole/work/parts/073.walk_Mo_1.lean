set_option maxRecDepth 100000 in
set_option maxHeartbeats 4000000 in
theorem c_Mo_new (l : Launch) (dC : Nat → ClassId) (dI : Nat → Nat → Nat) (cI cZ : ClassId) (a_t sz : Nat) : Met l yy_Mo_new wq_Mo_new ({ frames := 1, cells := 2, slots := 80, locals := 12 }) (va_Pc [.ref a_t] (pre_ (dC, dI) cI cZ sz [(a_t, .inr (3, [.null, .null, .int 0, .int 0, .int 0, .int 0, .int 0, .int 0]))])) (va_Qv (fun _ : Unit => True) (fun _ t => ∃ q7 q15 : Nat, pst (dC, dI) (va_A [(a_t, .inr (3, [.null, .null, .int 0, .int 0, .int 0, .int 0, .int 0, .int 0]))] sz) [(a_t, .inr (3, [.ref q7, .ref q15, .int 0, .int 0, .int (-1), .int (-1), .int 0, .int 0])), (q7, .inl (cZ, 40, .inl (fun _ => 0))), (q15, .inl (cI, 40, .inl (fun _ => 0)))] t) (va_A [(a_t, .inr (3, [.null, .null, .int 0, .int 0, .int 0, .int 0, .int 0, .int 0]))] sz)) 2 80 (va_A [(a_t, .inr (3, [.null, .null, .int 0, .int 0, .int 0, .int 0, .int 0, .int 0]))] sz) := by
  refine Met.ofW (cc := cc_Mo_new) (maxL := 1) (ret := none) (by decide) rfl ?_
  intro p e s m args below meth c s₁ B hml hv
  obtain ⟨rfl, hsz, hP, hK, hD0, hN⟩ := hv
  have hx := B.exec
  have hb := B.bytes
  have hr := B.returns
  have hts := atoms_spec (ws := wq_Mo_new) B.pre
  have hown : s.vm.findClass rr_Mo = some m.cls := findClass_of_methodNamed B.named
  have hlocks := B.notSynchronized
  have hin : meth.name = "<init>" := (name_of_methodNamed B.named B.method).1
  subst hsz
  have hD := hD0.self (sz := s.heap.size)
  generalize hAe : va_A [(a_t, .inr (3, [.null, .null, .int 0, .int 0, .int 0, .int 0, .int 0, .int 0]))] s.heap.size = A at hD ⊢
  have hA : ∀ q : Nat, s.heap.size ≤ q → A q := fun q h => by rw [← hAe]; exact Or.inr h
  have hS : va_S A s.heap s.heap [] := va_S.rf
  have hl := lv_entry ([.ref a_t]) (n := 1) (Nat.le_of_ble_eq_true rfl)
  rw [lg_entry_eq]
  generalize (lg_sl ([.ref a_t]) ++ List.replicate (1 - (lg_sl ([.ref a_t])).length) Slot.unset).toArray = ls at hl ⊢
  have hl : lv_has ls 1 [(0, .ref a_t)] := hl
  refine lv_aload_n hx hb dd_Mo_new_0 rfl (lv_at hl 0 rfl) ?_
  refine W.objInit hx hb hown (hts _ (gwc gw_226)) (hts _ (gwc gw_71)) (hts _ (gwc gw_72)) rfl (by rw [hml]; exact hl.1) rfl dd_Mo_new_1 (Nat.le_of_ble_eq_true rfl) (Nat.le_of_ble_eq_true rfl) ?_
  refine W.eq (g2 := F0 m 4 ls []) rfl ?_
  refine lv_aload_n hx hb dd_Mo_new_4 rfl (lv_at hl 0 rfl) ?_
  refine lv_bipush (v := 40) hx hb dd_Mo_new_5 (by decide) ?_
  refine xnewz (N := 40) hx hb (hts _ (gwc gw_252)) hK hP hD hS hA (by decide) (by decide) (by decide) (Nat.le_of_ble_eq_true rfl) (Nat.le_of_ble_eq_true rfl) dd_Mo_new_7 (fun q7 H hP hD hS => ?_)
  have hP : va_P (dC, dI) clsL [(a_t, .inr (3, [.null, .null, .int 0, .int 0, .int 0, .int 0, .int 0, .int 0])), (q7, .inl (cZ, 40, .inl (fun _ => 0)))] H := hP
  have hD : va_D A [(a_t, .inr (3, [.null, .null, .int 0, .int 0, .int 0, .int 0, .int 0, .int 0])), (q7, .inl (cZ, 40, .inl (fun _ => 0)))] := hD
  refine W.widen (k := 1) (n := 40) (by decide) (by decide) ?_
  refine va_putF (D := (dC, dI)) (ci := 3) (v := .ref q7) (ty := (.array .boolean)) (C := rr_Mo) (T := tt_Mo) (N := 8) hx hb hts (fun w h => gwc (inn_Mo w h)) tf_Mo to_Mo tn_Mo hown hK hP hD hS 0 rfl rfl 0 (by decide) (hts _ (gwc gw_227)) (fun _ h9 => h9) rfl hin rfl (by decide +kernel) rfl rfl (Nat.le_of_ble_eq_true rfl) dd_Mo_new_9 (fun H locs hP hD hS => ?_)
  have hP : va_P (dC, dI) clsL [(a_t, .inr (3, [.ref q7, .null, .int 0, .int 0, .int 0, .int 0, .int 0, .int 0])), (q7, .inl (cZ, 40, .inl (fun _ => 0)))] H := hP
  have hD : va_D A [(a_t, .inr (3, [.ref q7, .null, .int 0, .int 0, .int 0, .int 0, .int 0, .int 0])), (q7, .inl (cZ, 40, .inl (fun _ => 0)))] := hD
  refine lv_aload_n hx hb dd_Mo_new_12 rfl (lv_at hl 0 rfl) ?_
  refine lv_bipush (v := 40) hx hb dd_Mo_new_13 (by decide) ?_
  refine xnewi (N := 40) hx hb (hts _ (gwc gw_106)) hK hP hD hS hA (by decide) (by decide) (by decide) (Nat.le_of_ble_eq_true rfl) (Nat.le_of_ble_eq_true rfl) dd_Mo_new_15 (fun q15 H hP hD hS => ?_)
  have hP : va_P (dC, dI) clsL [(a_t, .inr (3, [.ref q7, .null, .int 0, .int 0, .int 0, .int 0, .int 0, .int 0])), (q7, .inl (cZ, 40, .inl (fun _ => 0))), (q15, .inl (cI, 40, .inl (fun _ => 0)))] H := hP
  have hD : va_D A [(a_t, .inr (3, [.ref q7, .null, .int 0, .int 0, .int 0, .int 0, .int 0, .int 0])), (q7, .inl (cZ, 40, .inl (fun _ => 0))), (q15, .inl (cI, 40, .inl (fun _ => 0)))] := hD
  refine W.widen (k := 2) (n := 80) (by decide) (by decide) ?_
  refine va_putF (D := (dC, dI)) (ci := 3) (v := .ref q15) (ty := (.array .int)) (C := rr_Mo) (T := tt_Mo) (N := 8) hx hb hts (fun w h => gwc (inn_Mo w h)) tf_Mo to_Mo tn_Mo hown hK hP hD hS 0 rfl rfl 1 (by decide) (hts _ (gwc gw_228)) (fun _ h9 => h9) rfl hin rfl (by decide +kernel) rfl rfl (Nat.le_of_ble_eq_true rfl) dd_Mo_new_17 (fun H locs hP hD hS => ?_)
  have hP : va_P (dC, dI) clsL [(a_t, .inr (3, [.ref q7, .ref q15, .int 0, .int 0, .int 0, .int 0, .int 0, .int 0])), (q7, .inl (cZ, 40, .inl (fun _ => 0))), (q15, .inl (cI, 40, .inl (fun _ => 0)))] H := hP
  have hD : va_D A [(a_t, .inr (3, [.ref q7, .ref q15, .int 0, .int 0, .int 0, .int 0, .int 0, .int 0])), (q7, .inl (cZ, 40, .inl (fun _ => 0))), (q15, .inl (cI, 40, .inl (fun _ => 0)))] := hD
  refine lv_aload_n hx hb dd_Mo_new_20 rfl (lv_at hl 0 rfl) ?_
  refine lv_iconst (v := 0) hx hb dd_Mo_new_21 (by decide) ?_
  refine va_put (D := (dC, dI)) (ci := 3) (v := .int 0) (ty := .int) (C := rr_Mo) (T := tt_Mo) (N := 8) hx hb hts (fun w h => gwc (inn_Mo w h)) tf_Mo to_Mo tn_Mo hown hK hP hD hS 0 rfl rfl 2 (by decide) (hts _ (gwc gw_229)) (fun _ h9 => h9) rfl (by decide +kernel) rfl rfl (Nat.le_of_ble_eq_true rfl) dd_Mo_new_22 (fun H locs hP hD hS => ?_)
  have hP : va_P (dC, dI) clsL [(a_t, .inr (3, [.ref q7, .ref q15, .int 0, .int 0, .int 0, .int 0, .int 0, .int 0])), (q7, .inl (cZ, 40, .inl (fun _ => 0))), (q15, .inl (cI, 40, .inl (fun _ => 0)))] H := hP
  have hD : va_D A [(a_t, .inr (3, [.ref q7, .ref q15, .int 0, .int 0, .int 0, .int 0, .int 0, .int 0])), (q7, .inl (cZ, 40, .inl (fun _ => 0))), (q15, .inl (cI, 40, .inl (fun _ => 0)))] := hD
  refine lv_aload_n hx hb dd_Mo_new_25 rfl (lv_at hl 0 rfl) ?_
  refine lv_iconst (v := 0) hx hb dd_Mo_new_26 (by decide) ?_
  refine va_put (D := (dC, dI)) (ci := 3) (v := .int 0) (ty := .int) (C := rr_Mo) (T := tt_Mo) (N := 8) hx hb hts (fun w h => gwc (inn_Mo w h)) tf_Mo to_Mo tn_Mo hown hK hP hD hS 0 rfl rfl 3 (by decide) (hts _ (gwc gw_230)) (fun _ h9 => h9) rfl (by decide +kernel) rfl rfl (Nat.le_of_ble_eq_true rfl) dd_Mo_new_27 (fun H locs hP hD hS => ?_)
  have hP : va_P (dC, dI) clsL [(a_t, .inr (3, [.ref q7, .ref q15, .int 0, .int 0, .int 0, .int 0, .int 0, .int 0])), (q7, .inl (cZ, 40, .inl (fun _ => 0))), (q15, .inl (cI, 40, .inl (fun _ => 0)))] H := hP
  have hD : va_D A [(a_t, .inr (3, [.ref q7, .ref q15, .int 0, .int 0, .int 0, .int 0, .int 0, .int 0])), (q7, .inl (cZ, 40, .inl (fun _ => 0))), (q15, .inl (cI, 40, .inl (fun _ => 0)))] := hD
  refine lv_aload_n hx hb dd_Mo_new_30 rfl (lv_at hl 0 rfl) ?_
  refine lv_iconst (v := -1) hx hb dd_Mo_new_31 (by decide) ?_
  refine va_put (D := (dC, dI)) (ci := 3) (v := .int (-1)) (ty := .int) (C := rr_Mo) (T := tt_Mo) (N := 8) hx hb hts (fun w h => gwc (inn_Mo w h)) tf_Mo to_Mo tn_Mo hown hK hP hD hS 0 rfl rfl 4 (by decide) (hts _ (gwc gw_231)) (fun _ h9 => h9) rfl (by decide +kernel) rfl rfl (Nat.le_of_ble_eq_true rfl) dd_Mo_new_32 (fun H locs hP hD hS => ?_)
  have hP : va_P (dC, dI) clsL [(a_t, .inr (3, [.ref q7, .ref q15, .int 0, .int 0, .int (-1), .int 0, .int 0, .int 0])), (q7, .inl (cZ, 40, .inl (fun _ => 0))), (q15, .inl (cI, 40, .inl (fun _ => 0)))] H := hP
  have hD : va_D A [(a_t, .inr (3, [.ref q7, .ref q15, .int 0, .int 0, .int (-1), .int 0, .int 0, .int 0])), (q7, .inl (cZ, 40, .inl (fun _ => 0))), (q15, .inl (cI, 40, .inl (fun _ => 0)))] := hD
  refine lv_aload_n hx hb dd_Mo_new_35 rfl (lv_at hl 0 rfl) ?_
  refine lv_iconst (v := -1) hx hb dd_Mo_new_36 (by decide) ?_
  refine va_put (D := (dC, dI)) (ci := 3) (v := .int (-1)) (ty := .int) (C := rr_Mo) (T := tt_Mo) (N := 8) hx hb hts (fun w h => gwc (inn_Mo w h)) tf_Mo to_Mo tn_Mo hown hK hP hD hS 0 rfl rfl 5 (by decide) (hts _ (gwc gw_232)) (fun _ h9 => h9) rfl (by decide +kernel) rfl rfl (Nat.le_of_ble_eq_true rfl) dd_Mo_new_37 (fun H locs hP hD hS => ?_)
  have hP : va_P (dC, dI) clsL [(a_t, .inr (3, [.ref q7, .ref q15, .int 0, .int 0, .int (-1), .int (-1), .int 0, .int 0])), (q7, .inl (cZ, 40, .inl (fun _ => 0))), (q15, .inl (cI, 40, .inl (fun _ => 0)))] H := hP
  have hD : va_D A [(a_t, .inr (3, [.ref q7, .ref q15, .int 0, .int 0, .int (-1), .int (-1), .int 0, .int 0])), (q7, .inl (cZ, 40, .inl (fun _ => 0))), (q15, .inl (cI, 40, .inl (fun _ => 0)))] := hD
  refine lv_aload_n hx hb dd_Mo_new_40 rfl (lv_at hl 0 rfl) ?_
  refine lv_iconst (v := 0) hx hb dd_Mo_new_41 (by decide) ?_
  refine va_put (D := (dC, dI)) (ci := 3) (v := .int 0) (ty := .int) (C := rr_Mo) (T := tt_Mo) (N := 8) hx hb hts (fun w h => gwc (inn_Mo w h)) tf_Mo to_Mo tn_Mo hown hK hP hD hS 0 rfl rfl 6 (by decide) (hts _ (gwc gw_233)) (fun _ h9 => h9) rfl (by decide +kernel) rfl rfl (Nat.le_of_ble_eq_true rfl) dd_Mo_new_42 (fun H locs hP hD hS => ?_)
  have hP : va_P (dC, dI) clsL [(a_t, .inr (3, [.ref q7, .ref q15, .int 0, .int 0, .int (-1), .int (-1), .int 0, .int 0])), (q7, .inl (cZ, 40, .inl (fun _ => 0))), (q15, .inl (cI, 40, .inl (fun _ => 0)))] H := hP
  have hD : va_D A [(a_t, .inr (3, [.ref q7, .ref q15, .int 0, .int 0, .int (-1), .int (-1), .int 0, .int 0])), (q7, .inl (cZ, 40, .inl (fun _ => 0))), (q15, .inl (cI, 40, .inl (fun _ => 0)))] := hD
  refine lv_aload_n hx hb dd_Mo_new_45 rfl (lv_at hl 0 rfl) ?_
  refine lv_iconst (v := 0) hx hb dd_Mo_new_46 (by decide) ?_
  refine va_put (D := (dC, dI)) (ci := 3) (v := .int 0) (ty := .int) (C := rr_Mo) (T := tt_Mo) (N := 8) hx hb hts (fun w h => gwc (inn_Mo w h)) tf_Mo to_Mo tn_Mo hown hK hP hD hS 0 rfl rfl 7 (by decide) (hts _ (gwc gw_234)) (fun _ h9 => h9) rfl (by decide +kernel) rfl rfl (Nat.le_of_ble_eq_true rfl) dd_Mo_new_47 (fun H locs hP hD hS => ?_)
  have hP : va_P (dC, dI) clsL [(a_t, .inr (3, [.ref q7, .ref q15, .int 0, .int 0, .int (-1), .int (-1), .int 0, .int 0])), (q7, .inl (cZ, 40, .inl (fun _ => 0))), (q15, .inl (cI, 40, .inl (fun _ => 0)))] H := hP
  have hD : va_D A [(a_t, .inr (3, [.ref q7, .ref q15, .int 0, .int 0, .int (-1), .int (-1), .int 0, .int 0])), (q7, .inl (cZ, 40, .inl (fun _ => 0))), (q15, .inl (cI, 40, .inl (fun _ => 0)))] := hD
  exact W.vret hx hb hr (fun t ht hW => ⟨⟨(), rfl, trivial, q7, q15, pst_of ht hP hD⟩, hS.F ht⟩) hS.2.2 dd_Mo_new_50
