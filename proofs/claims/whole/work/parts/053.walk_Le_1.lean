abbrev wd_Le_bringDown (cI cZ : ClassId) (a_t a_t_holders a_p2 a_p3 a_t_size a_t_mate a_t_number : Nat) (t_fresh : Int32) (t_count : Int32) (t_holders : Nat → Int32) (p2 : Nat → Int32) (p3 : Nat → Int32) : va_W := [(a_t, .inr (2, [.int t_fresh, .int t_count, .ref a_t_size, .ref a_t_holders, .ref a_t_mate, .ref a_t_number])), (a_t_holders, .inl (cI, 1600, .inl t_holders)), (a_p2, .inl (cI, 40, .inl p2)), (a_p3, .inl (cI, 40, .inl p3))]
set_option maxRecDepth 100000 in
set_option maxHeartbeats 4000000 in
theorem c_Le_bringDown (l : Launch) (dC : Nat → ClassId) (dI : Nat → Nat → Nat) (cI cZ : ClassId) (a_t a_t_holders a_p2 a_p3 a_t_size a_t_mate a_t_number sz : Nat) (x1 : Int32) (x4 : Int32) (t_fresh : Int32) (t_count : Int32) (t_holders : Nat → Int32) (p2 : Nat → Int32) (p3 : Nat → Int32) (out : (Nat → Int32)) (hf : f_Le_bringDown x1 x4 t_holders p2 p3 = some out) :
    Met l yy_Le_bringDown wq_Le_bringDown ({ frames := 1, cells := 0, slots := 0, locals := 22 }) (va_Pc ([.ref a_t, .int x1, .ref a_p2, .ref a_p3, .int x4] : List Value) (pre_ (dC, dI) cI cZ sz (wd_Le_bringDown cI cZ a_t a_t_holders a_p2 a_p3 a_t_size a_t_mate a_t_number t_fresh t_count t_holders p2 p3))) (va_Qv (fun _ : Unit => True) (fun _ => pst (dC, dI) (va_A (wd_Le_bringDown cI cZ a_t a_t_holders a_p2 a_p3 a_t_size a_t_mate a_t_number t_fresh t_count t_holders p2 p3) sz) (wd_Le_bringDown cI cZ a_t a_t_holders a_p2 a_p3 a_t_size a_t_mate a_t_number t_fresh t_count t_holders p2 out)) (va_A (wd_Le_bringDown cI cZ a_t a_t_holders a_p2 a_p3 a_t_size a_t_mate a_t_number t_fresh t_count t_holders p2 p3) sz)) 0 0 (va_A (wd_Le_bringDown cI cZ a_t a_t_holders a_p2 a_p3 a_t_size a_t_mate a_t_number t_fresh t_count t_holders p2 p3) sz) := by
  refine Met.ofW (cc := cc_Le_bringDown) (maxL := 6) (ret := none) (by decide) rfl ?_
  intro p e s m args below meth c s₁ B hml hv
  obtain ⟨rfl, hsz, hP, hK, hD0, hN⟩ := hv
  have hx := B.exec
  have hb := B.bytes
  have hr := B.returns
  have hts := atoms_spec (ws := wq_Le_bringDown) B.pre
  have hown : s.vm.findClass rr_Le = some m.cls := findClass_of_methodNamed B.named
  have hlocks := B.notSynchronized
  subst hsz
  have hD := hD0.self (sz := s.heap.size)
  generalize hAe : va_A (wd_Le_bringDown cI cZ a_t a_t_holders a_p2 a_p3 a_t_size a_t_mate a_t_number t_fresh t_count t_holders p2 p3) s.heap.size = A at hD ⊢
  have hA : ∀ q : Nat, s.heap.size ≤ q → A q := fun q h => by rw [← hAe]; exact Or.inr h
  obtain ⟨H, hH⟩ : ∃ H : Heap, H = s.heap := ⟨_, rfl⟩
  have hS : va_S A s.heap H [] := by rw [hH]; exact va_S.rf
  have hl := lv_entry (([.ref a_t, .int x1, .ref a_p2, .ref a_p3, .int x4] : List Value)) (n := 6) (Nat.le_of_ble_eq_true rfl)
  rw [lg_entry_eq]
  generalize (lg_sl (([.ref a_t, .int x1, .ref a_p2, .ref a_p3, .int x4] : List Value)) ++ List.replicate (6 - (lg_sl (([.ref a_t, .int x1, .ref a_p2, .ref a_p3, .int x4] : List Value))).length) Slot.unset).toArray = ls at hl ⊢
  have hl : lv_has ls 6 [(0, .ref a_t), (1, .int x1), (2, .ref a_p2), (3, .ref a_p3), (4, .int x4)] := hl
  rw [← hH] at hP ⊢
  have hP : va_P (dC, dI) clsL (wd_Le_bringDown cI cZ a_t a_t_holders a_p2 a_p3 a_t_size a_t_mate a_t_number t_fresh t_count t_holders p2 p3) H := hP
  unfold f_Le_bringDown at hf
  have h3 : ∀ (n3 : Nat) (x5 : Int32) (p3 : Nat → Int32) (ls : Array Slot) (H : Heap) (locs : List Loc), L_Le_bringDown_3 x1 x4 t_holders p2 n3 x5 p3 = some out → lv_has ls 6 [(0, .ref a_t), (1, .int x1), (2, .ref a_p2), (3, .ref a_p3), (4, .int x4), (5, .int x5)] → va_P (dC, dI) clsL (wd_Le_bringDown cI cZ a_t a_t_holders a_p2 a_p3 a_t_size a_t_mate a_t_number t_fresh t_count t_holders p2 p3) H → va_D A (wd_Le_bringDown cI cZ a_t a_t_holders a_p2 a_p3 a_t_size a_t_mate a_t_number t_fresh t_count t_holders p2 p3) → va_S A s.heap H locs → W p l e (headSpec wq_Le_bringDown ({ frames := 1, cells := 0, slots := 0, locals := 22 })).room s m ([.ref a_t, .int x1, .ref a_p2, .ref a_p3, .int x4] : List Value).toArray below meth c H locs 0 0 (MQ below (va_Qv (fun _ : Unit => True) (fun _ => pst (dC, dI) A (wd_Le_bringDown cI cZ a_t a_t_holders a_p2 a_p3 a_t_size a_t_mate a_t_number t_fresh t_count t_holders p2 out)) A) ([.ref a_t, .int x1, .ref a_p2, .ref a_p3, .int x4] : List Value).toArray s 0 0 A) (F0 m 3 ls []) := by
    intro n3
    induction n3 with
    | zero =>
      intro x5 p3 ls H locs hf
      rw [L_Le_bringDown_3] at hf
      exact absurd hf (fun h => by cases h)
    | succ n3 ih3 =>
      intro x5 p3 ls H locs hf hl hP hD hS
      rw [L_Le_bringDown_3] at hf
      refine lv_iload hx hb dd_Le_bringDown_3 (lv_at hl 5 rfl) ?_
      refine lv_iload hx hb dd_Le_bringDown_5 (lv_at hl 4 rfl) ?_
      refine lv_icmp_ge (tgt := 29) hx hb dd_Le_bringDown_7 (by decide) (fun cc => ?_) (fun cc => ?_)
      · skip
        have hf := if_t cc hf
        cases hf
        exact W.vret hx hb hr (fun t ht hW => ⟨⟨(), rfl, trivial, pst_of ht hP hD⟩, hS.F ht⟩) hS.2.2 dd_Le_bringDown_29
      · skip
        have hf := if_f cc hf
        refine lv_aload_n hx hb dd_Le_bringDown_10 rfl (lv_at hl 3 rfl) ?_
        refine lv_aload_n hx hb dd_Le_bringDown_11 rfl (lv_at hl 0 rfl) ?_
        refine lv_iload_n hx hb dd_Le_bringDown_12 rfl (lv_at hl 1 rfl) ?_
        refine lv_iload hx hb dd_Le_bringDown_13 (lv_at hl 5 rfl) ?_
        obtain ⟨r15, hr15, hf⟩ := bind_some hf
        refine xcalli (rest := [.ref a_p3]) (wc := (wd_Le_holder cI cZ a_t a_t_holders a_t_size a_t_mate a_t_number t_fresh t_count t_holders)) (w1 := (wd_Le_holder cI cZ a_t a_t_holders a_t_size a_t_mate a_t_number t_fresh t_count t_holders)) (wr := [(a_p2, .inl (cI, 40, .inl p2)), (a_p3, .inl (cI, 40, .inl p3))]) (ws' := (wd_Le_bringDown cI cZ a_t a_t_holders a_p2 a_p3 a_t_size a_t_mate a_t_number t_fresh t_count t_holders p2 p3)) (va_runV (As := [.int x1, .int x5]) ⟨hx, hb, hml, hown, hts⟩ (c_Le_holder l dC dI cI cZ a_t a_t_holders a_t_size a_t_mate a_t_number H.size x1 x5 t_fresh t_count t_holders r15 hr15) (cwV 2 hts (gV gw_440 gw_441 gw_442 gw_56 gw_443) rfl rfl rfl (yd_Le_holder) ⟨Nat.le_of_ble_eq_true rfl, Nat.le_of_ble_eq_true rfl⟩) (mkV hK (hP.sub (ws' := (wd_Le_holder cI cZ a_t a_t_holders a_t_size a_t_mate a_t_number t_fresh t_count t_holders)) [0, 1] rfl) (hD.sub (ws' := (wd_Le_holder cI cZ a_t a_t_holders a_t_size a_t_mate a_t_number t_fresh t_count t_holders)) [0, 1] (by decide) rfl) hN (va_recv hK hP (ci := 2) (q0 := 0) rfl rfl)) rfl rfl hl.1 rfl (lv_room (Nat.le_of_ble_eq_true rfl)) dd_Le_bringDown_15 ⟨Nat.zero_le _, Nat.zero_le _⟩) hP hD hS hA [0, 1] [2, 3] [2, 3, 0, 1] rfl rfl (by decide) (by decide) rfl (by decide) rfl (fun H locs hP hD hS => ?_)
        refine lv_aload_n hx hb dd_Le_bringDown_18 rfl (lv_at hl 2 rfl) ?_
        refine lv_iload hx hb dd_Le_bringDown_19 (lv_at hl 5 rfl) ?_
        obtain ⟨k21, hf⟩ := ck_some hf
        refine va_iald hx hb hK hP 2 0 rfl rfl (okb_in k21) dd_Le_bringDown_21 ?_
        obtain ⟨k22, hf⟩ := ck_some hf
        refine va_iast hx hb hK hP hD hS 3 0 rfl rfl (okb_in k22) dd_Le_bringDown_22 (fun H locs hP hD hS => ?_)
        have hP : va_P (dC, dI) clsL (wd_Le_bringDown cI cZ a_t a_t_holders a_p2 a_p3 a_t_size a_t_mate a_t_number t_fresh t_count t_holders p2 (upd p3 (r15).toNatClampNeg (p2 (x5).toNatClampNeg))) H := hP
        have hD : va_D A (wd_Le_bringDown cI cZ a_t a_t_holders a_p2 a_p3 a_t_size a_t_mate a_t_number t_fresh t_count t_holders p2 (upd p3 (r15).toNatClampNeg (p2 (x5).toNatClampNeg))) := hD
        refine lv_iinc (v := x5 + 1) (lv' := [(5, .int (x5 + 1)), (0, .ref a_t), (1, .int x1), (2, .ref a_p2), (3, .ref a_p3), (4, .int x4)]) hx hb dd_Le_bringDown_23 hl (k := 5) rfl rfl (by decide) rfl (fun ls hl => ?_)
        refine lv_goto (tgt := 3) hx hb dd_Le_bringDown_26 (by decide) ?_
        exact ih3 (x5 + 1) (upd p3 (r15).toNatClampNeg (p2 (x5).toNatClampNeg)) _ _ _ hf (lv_sub hl [1, 2, 3, 4, 5, 0] rfl) hP hD hS
  refine lv_iconst (v := 0) hx hb dd_Le_bringDown_0 (by decide) ?_
  refine lv_istore (lv' := [(5, .int 0), (0, .ref a_t), (1, .int x1), (2, .ref a_p2), (3, .ref a_p3), (4, .int x4)]) hx hb dd_Le_bringDown_1 hl (by decide) rfl (fun ls hl => ?_)
  exact h3 64 0 p3 _ _ _ hf (lv_sub hl [1, 2, 3, 4, 5, 0] rfl) hP hD hS
abbrev wd_Le_bringUp (cI cZ : ClassId) (a_t a_t_holders a_p2 a_p3 a_t_size a_t_mate a_t_number : Nat) (t_fresh : Int32) (t_count : Int32) (t_holders : Nat → Int32) (p2 : Nat → Int32) (p3 : Nat → Int32) : va_W := [(a_t, .inr (2, [.int t_fresh, .int t_count, .ref a_t_size, .ref a_t_holders, .ref a_t_mate, .ref a_t_number])), (a_t_holders, .inl (cI, 1600, .inl t_holders)), (a_p2, .inl (cI, 40, .inl p2)), (a_p3, .inl (cI, 40, .inl p3))]
set_option maxRecDepth 100000 in
set_option maxHeartbeats 4000000 in
theorem c_Le_bringUp (l : Launch) (dC : Nat → ClassId) (dI : Nat → Nat → Nat) (cI cZ : ClassId) (a_t a_t_holders a_p2 a_p3 a_t_size a_t_mate a_t_number sz : Nat) (x1 : Int32) (x4 : Int32) (t_fresh : Int32) (t_count : Int32) (t_holders : Nat → Int32) (p2 : Nat → Int32) (p3 : Nat → Int32) (out : (Nat → Int32)) (hf : f_Le_bringUp x1 x4 t_holders p2 p3 = some out) :
    Met l yy_Le_bringUp wq_Le_bringUp ({ frames := 1, cells := 0, slots := 0, locals := 22 }) (va_Pc ([.ref a_t, .int x1, .ref a_p2, .ref a_p3, .int x4] : List Value) (pre_ (dC, dI) cI cZ sz (wd_Le_bringUp cI cZ a_t a_t_holders a_p2 a_p3 a_t_size a_t_mate a_t_number t_fresh t_count t_holders p2 p3))) (va_Qv (fun _ : Unit => True) (fun _ => pst (dC, dI) (va_A (wd_Le_bringUp cI cZ a_t a_t_holders a_p2 a_p3 a_t_size a_t_mate a_t_number t_fresh t_count t_holders p2 p3) sz) (wd_Le_bringUp cI cZ a_t a_t_holders a_p2 a_p3 a_t_size a_t_mate a_t_number t_fresh t_count t_holders p2 out)) (va_A (wd_Le_bringUp cI cZ a_t a_t_holders a_p2 a_p3 a_t_size a_t_mate a_t_number t_fresh t_count t_holders p2 p3) sz)) 0 0 (va_A (wd_Le_bringUp cI cZ a_t a_t_holders a_p2 a_p3 a_t_size a_t_mate a_t_number t_fresh t_count t_holders p2 p3) sz) := by
  refine Met.ofW (cc := cc_Le_bringUp) (maxL := 6) (ret := none) (by decide) rfl ?_
  intro p e s m args below meth c s₁ B hml hv
  obtain ⟨rfl, hsz, hP, hK, hD0, hN⟩ := hv
  have hx := B.exec
  have hb := B.bytes
  have hr := B.returns
  have hts := atoms_spec (ws := wq_Le_bringUp) B.pre
  have hown : s.vm.findClass rr_Le = some m.cls := findClass_of_methodNamed B.named
  have hlocks := B.notSynchronized
  subst hsz
  have hD := hD0.self (sz := s.heap.size)
  generalize hAe : va_A (wd_Le_bringUp cI cZ a_t a_t_holders a_p2 a_p3 a_t_size a_t_mate a_t_number t_fresh t_count t_holders p2 p3) s.heap.size = A at hD ⊢
  have hA : ∀ q : Nat, s.heap.size ≤ q → A q := fun q h => by rw [← hAe]; exact Or.inr h
  obtain ⟨H, hH⟩ : ∃ H : Heap, H = s.heap := ⟨_, rfl⟩
  have hS : va_S A s.heap H [] := by rw [hH]; exact va_S.rf
  have hl := lv_entry (([.ref a_t, .int x1, .ref a_p2, .ref a_p3, .int x4] : List Value)) (n := 6) (Nat.le_of_ble_eq_true rfl)
  rw [lg_entry_eq]
  generalize (lg_sl (([.ref a_t, .int x1, .ref a_p2, .ref a_p3, .int x4] : List Value)) ++ List.replicate (6 - (lg_sl (([.ref a_t, .int x1, .ref a_p2, .ref a_p3, .int x4] : List Value))).length) Slot.unset).toArray = ls at hl ⊢
  have hl : lv_has ls 6 [(0, .ref a_t), (1, .int x1), (2, .ref a_p2), (3, .ref a_p3), (4, .int x4)] := hl
  rw [← hH] at hP ⊢
  have hP : va_P (dC, dI) clsL (wd_Le_bringUp cI cZ a_t a_t_holders a_p2 a_p3 a_t_size a_t_mate a_t_number t_fresh t_count t_holders p2 p3) H := hP
  unfold f_Le_bringUp at hf
  have h3 : ∀ (n3 : Nat) (x5 : Int32) (p3 : Nat → Int32) (ls : Array Slot) (H : Heap) (locs : List Loc), L_Le_bringUp_3 x1 x4 t_holders p2 n3 x5 p3 = some out → lv_has ls 6 [(0, .ref a_t), (1, .int x1), (2, .ref a_p2), (3, .ref a_p3), (4, .int x4), (5, .int x5)] → va_P (dC, dI) clsL (wd_Le_bringUp cI cZ a_t a_t_holders a_p2 a_p3 a_t_size a_t_mate a_t_number t_fresh t_count t_holders p2 p3) H → va_D A (wd_Le_bringUp cI cZ a_t a_t_holders a_p2 a_p3 a_t_size a_t_mate a_t_number t_fresh t_count t_holders p2 p3) → va_S A s.heap H locs → W p l e (headSpec wq_Le_bringUp ({ frames := 1, cells := 0, slots := 0, locals := 22 })).room s m ([.ref a_t, .int x1, .ref a_p2, .ref a_p3, .int x4] : List Value).toArray below meth c H locs 0 0 (MQ below (va_Qv (fun _ : Unit => True) (fun _ => pst (dC, dI) A (wd_Le_bringUp cI cZ a_t a_t_holders a_p2 a_p3 a_t_size a_t_mate a_t_number t_fresh t_count t_holders p2 out)) A) ([.ref a_t, .int x1, .ref a_p2, .ref a_p3, .int x4] : List Value).toArray s 0 0 A) (F0 m 3 ls []) := by
    intro n3
    induction n3 with
    | zero =>
      intro x5 p3 ls H locs hf
      rw [L_Le_bringUp_3] at hf
      exact absurd hf (fun h => by cases h)
    | succ n3 ih3 =>
      intro x5 p3 ls H locs hf hl hP hD hS
      rw [L_Le_bringUp_3] at hf
      refine lv_iload hx hb dd_Le_bringUp_3 (lv_at hl 5 rfl) ?_
      refine lv_iload hx hb dd_Le_bringUp_5 (lv_at hl 4 rfl) ?_
      refine lv_icmp_ge (tgt := 29) hx hb dd_Le_bringUp_7 (by decide) (fun cc => ?_) (fun cc => ?_)
      · skip
        have hf := if_t cc hf
        cases hf
        exact W.vret hx hb hr (fun t ht hW => ⟨⟨(), rfl, trivial, pst_of ht hP hD⟩, hS.F ht⟩) hS.2.2 dd_Le_bringUp_29
      · skip
        have hf := if_f cc hf
        refine lv_aload_n hx hb dd_Le_bringUp_10 rfl (lv_at hl 3 rfl) ?_
        refine lv_iload hx hb dd_Le_bringUp_11 (lv_at hl 5 rfl) ?_
        refine lv_aload_n hx hb dd_Le_bringUp_13 rfl (lv_at hl 2 rfl) ?_
        refine lv_aload_n hx hb dd_Le_bringUp_14 rfl (lv_at hl 0 rfl) ?_
        refine lv_iload_n hx hb dd_Le_bringUp_15 rfl (lv_at hl 1 rfl) ?_
        refine lv_iload hx hb dd_Le_bringUp_16 (lv_at hl 5 rfl) ?_
        obtain ⟨r18, hr18, hf⟩ := bind_some hf
        refine xcalli (rest := [.ref a_p2, .int x5, .ref a_p3]) (wc := (wd_Le_holder cI cZ a_t a_t_holders a_t_size a_t_mate a_t_number t_fresh t_count t_holders)) (w1 := (wd_Le_holder cI cZ a_t a_t_holders a_t_size a_t_mate a_t_number t_fresh t_count t_holders)) (wr := [(a_p2, .inl (cI, 40, .inl p2)), (a_p3, .inl (cI, 40, .inl p3))]) (ws' := (wd_Le_bringUp cI cZ a_t a_t_holders a_p2 a_p3 a_t_size a_t_mate a_t_number t_fresh t_count t_holders p2 p3)) (va_runV (As := [.int x1, .int x5]) ⟨hx, hb, hml, hown, hts⟩ (c_Le_holder l dC dI cI cZ a_t a_t_holders a_t_size a_t_mate a_t_number H.size x1 x5 t_fresh t_count t_holders r18 hr18) (cwV 2 hts (gV gw_440 gw_441 gw_442 gw_56 gw_443) rfl rfl rfl (yd_Le_holder) ⟨Nat.le_of_ble_eq_true rfl, Nat.le_of_ble_eq_true rfl⟩) (mkV hK (hP.sub (ws' := (wd_Le_holder cI cZ a_t a_t_holders a_t_size a_t_mate a_t_number t_fresh t_count t_holders)) [0, 1] rfl) (hD.sub (ws' := (wd_Le_holder cI cZ a_t a_t_holders a_t_size a_t_mate a_t_number t_fresh t_count t_holders)) [0, 1] (by decide) rfl) hN (va_recv hK hP (ci := 2) (q0 := 0) rfl rfl)) rfl rfl hl.1 rfl (lv_room (Nat.le_of_ble_eq_true rfl)) dd_Le_bringUp_18 ⟨Nat.zero_le _, Nat.zero_le _⟩) hP hD hS hA [0, 1] [2, 3] [2, 3, 0, 1] rfl rfl (by decide) (by decide) rfl (by decide) rfl (fun H locs hP hD hS => ?_)
        obtain ⟨k21, hf⟩ := ck_some hf
        refine va_iald hx hb hK hP 2 0 rfl rfl (okb_in k21) dd_Le_bringUp_21 ?_
        obtain ⟨k22, hf⟩ := ck_some hf
        refine va_iast hx hb hK hP hD hS 3 0 rfl rfl (okb_in k22) dd_Le_bringUp_22 (fun H locs hP hD hS => ?_)
        have hP : va_P (dC, dI) clsL (wd_Le_bringUp cI cZ a_t a_t_holders a_p2 a_p3 a_t_size a_t_mate a_t_number t_fresh t_count t_holders p2 (upd p3 (x5).toNatClampNeg (p2 (r18).toNatClampNeg))) H := hP
        have hD : va_D A (wd_Le_bringUp cI cZ a_t a_t_holders a_p2 a_p3 a_t_size a_t_mate a_t_number t_fresh t_count t_holders p2 (upd p3 (x5).toNatClampNeg (p2 (r18).toNatClampNeg))) := hD
        refine lv_iinc (v := x5 + 1) (lv' := [(5, .int (x5 + 1)), (0, .ref a_t), (1, .int x1), (2, .ref a_p2), (3, .ref a_p3), (4, .int x4)]) hx hb dd_Le_bringUp_23 hl (k := 5) rfl rfl (by decide) rfl (fun ls hl => ?_)
        refine lv_goto (tgt := 3) hx hb dd_Le_bringUp_26 (by decide) ?_
        exact ih3 (x5 + 1) (upd p3 (x5).toNatClampNeg (p2 (r18).toNatClampNeg)) _ _ _ hf (lv_sub hl [1, 2, 3, 4, 5, 0] rfl) hP hD hS
  refine lv_iconst (v := 0) hx hb dd_Le_bringUp_0 (by decide) ?_
  refine lv_istore (lv' := [(5, .int 0), (0, .ref a_t), (1, .int x1), (2, .ref a_p2), (3, .ref a_p3), (4, .int x4)]) hx hb dd_Le_bringUp_1 hl (by decide) rfl (fun ls hl => ?_)
  exact h3 64 0 p3 _ _ _ hf (lv_sub hl [1, 2, 3, 4, 5, 0] rfl) hP hD hS
set_option maxRecDepth 100000 in
set_option maxHeartbeats 4000000 in
theorem c_Le_new (l : Launch) (dC : Nat → ClassId) (dI : Nat → Nat → Nat) (cI cZ : ClassId) (a_t sz : Nat) : Met l yy_Le_new wq_Le_new ({ frames := 1, cells := 4, slots := 1720, locals := 12 }) (va_Pc [.ref a_t] (pre_ (dC, dI) cI cZ sz [(a_t, .inr (2, [.int 0, .int 0, .null, .null, .null, .null]))])) (va_Qv (fun _ : Unit => True) (fun _ t => ∃ q17 q26 q34 q42 : Nat, pst (dC, dI) (va_A [(a_t, .inr (2, [.int 0, .int 0, .null, .null, .null, .null]))] sz) [(a_t, .inr (2, [.int 0, .int 1, .ref q17, .ref q26, .ref q34, .ref q42])), (q17, .inl (cI, 40, .inl (fun _ => 0))), (q26, .inl (cI, 1600, .inl (fun _ => 0))), (q34, .inl (cI, 40, .inl (fun _ => 0))), (q42, .inl (cI, 40, .inl (fun _ => 0)))] t) (va_A [(a_t, .inr (2, [.int 0, .int 0, .null, .null, .null, .null]))] sz)) 4 1720 (va_A [(a_t, .inr (2, [.int 0, .int 0, .null, .null, .null, .null]))] sz) := by
  refine Met.ofW (cc := cc_Le_new) (maxL := 1) (ret := none) (by decide) rfl ?_
  intro p e s m args below meth c s₁ B hml hv
  obtain ⟨rfl, hsz, hP, hK, hD0, hN⟩ := hv
  have hx := B.exec
  have hb := B.bytes
  have hr := B.returns
  have hts := atoms_spec (ws := wq_Le_new) B.pre
  have hown : s.vm.findClass rr_Le = some m.cls := findClass_of_methodNamed B.named
  have hlocks := B.notSynchronized
  have hin : meth.name = "<init>" := (name_of_methodNamed B.named B.method).1
  subst hsz
  have hD := hD0.self (sz := s.heap.size)
  generalize hAe : va_A [(a_t, .inr (2, [.int 0, .int 0, .null, .null, .null, .null]))] s.heap.size = A at hD ⊢
  have hA : ∀ q : Nat, s.heap.size ≤ q → A q := fun q h => by rw [← hAe]; exact Or.inr h
  have hS : va_S A s.heap s.heap [] := va_S.rf
  have hl := lv_entry ([.ref a_t]) (n := 1) (Nat.le_of_ble_eq_true rfl)
  rw [lg_entry_eq]
  generalize (lg_sl ([.ref a_t]) ++ List.replicate (1 - (lg_sl ([.ref a_t])).length) Slot.unset).toArray = ls at hl ⊢
  have hl : lv_has ls 1 [(0, .ref a_t)] := hl
  refine lv_aload_n hx hb dd_Le_new_0 rfl (lv_at hl 0 rfl) ?_
  refine W.objInit hx hb hown (hts _ (gwc gw_176)) (hts _ (gwc gw_71)) (hts _ (gwc gw_72)) rfl (by rw [hml]; exact hl.1) rfl dd_Le_new_1 (Nat.le_of_ble_eq_true rfl) (Nat.le_of_ble_eq_true rfl) ?_
  refine W.eq (g2 := F0 m 4 ls []) rfl ?_
  refine lv_aload_n hx hb dd_Le_new_4 rfl (lv_at hl 0 rfl) ?_
  refine lv_iconst (v := 0) hx hb dd_Le_new_5 (by decide) ?_
  refine va_put (D := (dC, dI)) (ci := 2) (v := .int 0) (ty := .boolean) (C := rr_Le) (T := tt_Le) (N := 6) hx hb hts (fun w h => gwc (inn_Le w h)) tf_Le to_Le tn_Le hown hK hP hD hS 0 rfl rfl 0 (by decide) (hts _ (gwc gw_177)) (fun _ h9 => h9) rfl (by decide +kernel) narrow_b0 rfl (Nat.le_of_ble_eq_true rfl) dd_Le_new_6 (fun H locs hP hD hS => ?_)
  have hP : va_P (dC, dI) clsL [(a_t, .inr (2, [.int 0, .int 0, .null, .null, .null, .null]))] H := hP
  have hD : va_D A [(a_t, .inr (2, [.int 0, .int 0, .null, .null, .null, .null]))] := hD
  refine lv_aload_n hx hb dd_Le_new_9 rfl (lv_at hl 0 rfl) ?_
  refine lv_iconst (v := 1) hx hb dd_Le_new_10 (by decide) ?_
  refine va_put (D := (dC, dI)) (ci := 2) (v := .int 1) (ty := .int) (C := rr_Le) (T := tt_Le) (N := 6) hx hb hts (fun w h => gwc (inn_Le w h)) tf_Le to_Le tn_Le hown hK hP hD hS 0 rfl rfl 1 (by decide) (hts _ (gwc gw_179)) (fun _ h9 => h9) rfl (by decide +kernel) rfl rfl (Nat.le_of_ble_eq_true rfl) dd_Le_new_11 (fun H locs hP hD hS => ?_)
  have hP : va_P (dC, dI) clsL [(a_t, .inr (2, [.int 0, .int 1, .null, .null, .null, .null]))] H := hP
  have hD : va_D A [(a_t, .inr (2, [.int 0, .int 1, .null, .null, .null, .null]))] := hD
  refine lv_aload_n hx hb dd_Le_new_14 rfl (lv_at hl 0 rfl) ?_
  refine lv_bipush (v := 40) hx hb dd_Le_new_15 (by decide) ?_
  refine xnewi (N := 40) hx hb (hts _ (gwc gw_106)) hK hP hD hS hA (by decide) (by decide) (by decide) (Nat.le_of_ble_eq_true rfl) (Nat.le_of_ble_eq_true rfl) dd_Le_new_17 (fun q17 H hP hD hS => ?_)
  have hP : va_P (dC, dI) clsL [(a_t, .inr (2, [.int 0, .int 1, .null, .null, .null, .null])), (q17, .inl (cI, 40, .inl (fun _ => 0)))] H := hP
  have hD : va_D A [(a_t, .inr (2, [.int 0, .int 1, .null, .null, .null, .null])), (q17, .inl (cI, 40, .inl (fun _ => 0)))] := hD
  refine W.widen (k := 1) (n := 40) (by decide) (by decide) ?_
  refine va_putF (D := (dC, dI)) (ci := 2) (v := .ref q17) (ty := (.array .int)) (C := rr_Le) (T := tt_Le) (N := 6) hx hb hts (fun w h => gwc (inn_Le w h)) tf_Le to_Le tn_Le hown hK hP hD hS 0 rfl rfl 2 (by decide) (hts _ (gwc gw_181)) (fun _ h9 => h9) rfl hin rfl (by decide +kernel) rfl rfl (Nat.le_of_ble_eq_true rfl) dd_Le_new_19 (fun H locs hP hD hS => ?_)
  have hP : va_P (dC, dI) clsL [(a_t, .inr (2, [.int 0, .int 1, .ref q17, .null, .null, .null])), (q17, .inl (cI, 40, .inl (fun _ => 0)))] H := hP
  have hD : va_D A [(a_t, .inr (2, [.int 0, .int 1, .ref q17, .null, .null, .null])), (q17, .inl (cI, 40, .inl (fun _ => 0)))] := hD
  refine lv_aload_n hx hb dd_Le_new_22 rfl (lv_at hl 0 rfl) ?_
  refine lv_sipush (v := 1600) hx hb dd_Le_new_23 (by decide) ?_
  refine xnewi (N := 1600) hx hb (hts _ (gwc gw_106)) hK hP hD hS hA (by decide) (by decide) (by decide) (Nat.le_of_ble_eq_true rfl) (Nat.le_of_ble_eq_true rfl) dd_Le_new_26 (fun q26 H hP hD hS => ?_)
  have hP : va_P (dC, dI) clsL [(a_t, .inr (2, [.int 0, .int 1, .ref q17, .null, .null, .null])), (q17, .inl (cI, 40, .inl (fun _ => 0))), (q26, .inl (cI, 1600, .inl (fun _ => 0)))] H := hP
  have hD : va_D A [(a_t, .inr (2, [.int 0, .int 1, .ref q17, .null, .null, .null])), (q17, .inl (cI, 40, .inl (fun _ => 0))), (q26, .inl (cI, 1600, .inl (fun _ => 0)))] := hD
  refine W.widen (k := 2) (n := 1640) (by decide) (by decide) ?_
  refine va_putF (D := (dC, dI)) (ci := 2) (v := .ref q26) (ty := (.array .int)) (C := rr_Le) (T := tt_Le) (N := 6) hx hb hts (fun w h => gwc (inn_Le w h)) tf_Le to_Le tn_Le hown hK hP hD hS 0 rfl rfl 3 (by decide) (hts _ (gwc gw_182)) (fun _ h9 => h9) rfl hin rfl (by decide +kernel) rfl rfl (Nat.le_of_ble_eq_true rfl) dd_Le_new_28 (fun H locs hP hD hS => ?_)
  have hP : va_P (dC, dI) clsL [(a_t, .inr (2, [.int 0, .int 1, .ref q17, .ref q26, .null, .null])), (q17, .inl (cI, 40, .inl (fun _ => 0))), (q26, .inl (cI, 1600, .inl (fun _ => 0)))] H := hP
  have hD : va_D A [(a_t, .inr (2, [.int 0, .int 1, .ref q17, .ref q26, .null, .null])), (q17, .inl (cI, 40, .inl (fun _ => 0))), (q26, .inl (cI, 1600, .inl (fun _ => 0)))] := hD
  refine lv_aload_n hx hb dd_Le_new_31 rfl (lv_at hl 0 rfl) ?_
  refine lv_bipush (v := 40) hx hb dd_Le_new_32 (by decide) ?_
  refine xnewi (N := 40) hx hb (hts _ (gwc gw_106)) hK hP hD hS hA (by decide) (by decide) (by decide) (Nat.le_of_ble_eq_true rfl) (Nat.le_of_ble_eq_true rfl) dd_Le_new_34 (fun q34 H hP hD hS => ?_)
  have hP : va_P (dC, dI) clsL [(a_t, .inr (2, [.int 0, .int 1, .ref q17, .ref q26, .null, .null])), (q17, .inl (cI, 40, .inl (fun _ => 0))), (q26, .inl (cI, 1600, .inl (fun _ => 0))), (q34, .inl (cI, 40, .inl (fun _ => 0)))] H := hP
  have hD : va_D A [(a_t, .inr (2, [.int 0, .int 1, .ref q17, .ref q26, .null, .null])), (q17, .inl (cI, 40, .inl (fun _ => 0))), (q26, .inl (cI, 1600, .inl (fun _ => 0))), (q34, .inl (cI, 40, .inl (fun _ => 0)))] := hD
  refine W.widen (k := 3) (n := 1680) (by decide) (by decide) ?_
  refine va_putF (D := (dC, dI)) (ci := 2) (v := .ref q34) (ty := (.array .int)) (C := rr_Le) (T := tt_Le) (N := 6) hx hb hts (fun w h => gwc (inn_Le w h)) tf_Le to_Le tn_Le hown hK hP hD hS 0 rfl rfl 4 (by decide) (hts _ (gwc gw_183)) (fun _ h9 => h9) rfl hin rfl (by decide +kernel) rfl rfl (Nat.le_of_ble_eq_true rfl) dd_Le_new_36 (fun H locs hP hD hS => ?_)
  have hP : va_P (dC, dI) clsL [(a_t, .inr (2, [.int 0, .int 1, .ref q17, .ref q26, .ref q34, .null])), (q17, .inl (cI, 40, .inl (fun _ => 0))), (q26, .inl (cI, 1600, .inl (fun _ => 0))), (q34, .inl (cI, 40, .inl (fun _ => 0)))] H := hP
  have hD : va_D A [(a_t, .inr (2, [.int 0, .int 1, .ref q17, .ref q26, .ref q34, .null])), (q17, .inl (cI, 40, .inl (fun _ => 0))), (q26, .inl (cI, 1600, .inl (fun _ => 0))), (q34, .inl (cI, 40, .inl (fun _ => 0)))] := hD
  refine lv_aload_n hx hb dd_Le_new_39 rfl (lv_at hl 0 rfl) ?_
  refine lv_bipush (v := 40) hx hb dd_Le_new_40 (by decide) ?_
  refine xnewi (N := 40) hx hb (hts _ (gwc gw_106)) hK hP hD hS hA (by decide) (by decide) (by decide) (Nat.le_of_ble_eq_true rfl) (Nat.le_of_ble_eq_true rfl) dd_Le_new_42 (fun q42 H hP hD hS => ?_)
  have hP : va_P (dC, dI) clsL [(a_t, .inr (2, [.int 0, .int 1, .ref q17, .ref q26, .ref q34, .null])), (q17, .inl (cI, 40, .inl (fun _ => 0))), (q26, .inl (cI, 1600, .inl (fun _ => 0))), (q34, .inl (cI, 40, .inl (fun _ => 0))), (q42, .inl (cI, 40, .inl (fun _ => 0)))] H := hP
  have hD : va_D A [(a_t, .inr (2, [.int 0, .int 1, .ref q17, .ref q26, .ref q34, .null])), (q17, .inl (cI, 40, .inl (fun _ => 0))), (q26, .inl (cI, 1600, .inl (fun _ => 0))), (q34, .inl (cI, 40, .inl (fun _ => 0))), (q42, .inl (cI, 40, .inl (fun _ => 0)))] := hD
  refine W.widen (k := 4) (n := 1720) (by decide) (by decide) ?_
  refine va_putF (D := (dC, dI)) (ci := 2) (v := .ref q42) (ty := (.array .int)) (C := rr_Le) (T := tt_Le) (N := 6) hx hb hts (fun w h => gwc (inn_Le w h)) tf_Le to_Le tn_Le hown hK hP hD hS 0 rfl rfl 5 (by decide) (hts _ (gwc gw_184)) (fun _ h9 => h9) rfl hin rfl (by decide +kernel) rfl rfl (Nat.le_of_ble_eq_true rfl) dd_Le_new_44 (fun H locs hP hD hS => ?_)
  have hP : va_P (dC, dI) clsL [(a_t, .inr (2, [.int 0, .int 1, .ref q17, .ref q26, .ref q34, .ref q42])), (q17, .inl (cI, 40, .inl (fun _ => 0))), (q26, .inl (cI, 1600, .inl (fun _ => 0))), (q34, .inl (cI, 40, .inl (fun _ => 0))), (q42, .inl (cI, 40, .inl (fun _ => 0)))] H := hP
  have hD : va_D A [(a_t, .inr (2, [.int 0, .int 1, .ref q17, .ref q26, .ref q34, .ref q42])), (q17, .inl (cI, 40, .inl (fun _ => 0))), (q26, .inl (cI, 1600, .inl (fun _ => 0))), (q34, .inl (cI, 40, .inl (fun _ => 0))), (q42, .inl (cI, 40, .inl (fun _ => 0)))] := hD
  exact W.vret hx hb hr (fun t ht hW => ⟨⟨(), rfl, trivial, q17, q26, q34, q42, pst_of ht hP hD⟩, hS.F ht⟩) hS.2.2 dd_Le_new_47
