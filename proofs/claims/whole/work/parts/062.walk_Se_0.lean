abbrev wd_Se_leastOver (cI cZ : ClassId) (a_t a_t_sum a_p1 a_p1_least a_p1_most a_t_tried a_t_best : Nat) (t_bestOver : Int32) (t_bestCut : Int32) (t_sum : Nat → Int32) (p1_k : Int32) (p1_least : Nat → Int32) (p1_most : Nat → Int32) : va_W := [(a_t, .inr (5, [.ref a_t_tried, .ref a_t_best, .ref a_t_sum, .int t_bestOver, .int t_bestCut])), (a_t_sum, .inl (cI, 4, .inl t_sum)), (a_p1, .inr (0, [.int p1_k, .ref a_p1_least, .ref a_p1_most])), (a_p1_least, .inl (cI, 4, .inl p1_least)), (a_p1_most, .inl (cI, 4, .inl p1_most))]
set_option maxRecDepth 100000 in
set_option maxHeartbeats 4000000 in
theorem c_Se_leastOver (l : Launch) (dC : Nat → ClassId) (dI : Nat → Nat → Nat) (cI cZ : ClassId) (a_t a_t_sum a_p1 a_p1_least a_p1_most a_t_tried a_t_best sz : Nat) (x2 : Int32) (t_bestOver : Int32) (t_bestCut : Int32) (t_sum : Nat → Int32) (p1_k : Int32) (p1_least : Nat → Int32) (p1_most : Nat → Int32) (out : Int32) (hf : f_Se_leastOver x2 t_sum p1_k p1_least p1_most = some out) :
    Met l yy_Se_leastOver wq_Se_leastOver ({ frames := 1, cells := 0, slots := 0, locals := 60 }) (va_Pc ([.ref a_t, .ref a_p1, .int x2] : List Value) (pre_ (dC, dI) cI cZ sz (wd_Se_leastOver cI cZ a_t a_t_sum a_p1 a_p1_least a_p1_most a_t_tried a_t_best t_bestOver t_bestCut t_sum p1_k p1_least p1_most))) (va_Qi (fun (r : Int32) (_ : Unit) => r = out) (fun _ => pst (dC, dI) (va_A (wd_Se_leastOver cI cZ a_t a_t_sum a_p1 a_p1_least a_p1_most a_t_tried a_t_best t_bestOver t_bestCut t_sum p1_k p1_least p1_most) sz) (wd_Se_leastOver cI cZ a_t a_t_sum a_p1 a_p1_least a_p1_most a_t_tried a_t_best t_bestOver t_bestCut t_sum p1_k p1_least p1_most)) (va_A (wd_Se_leastOver cI cZ a_t a_t_sum a_p1 a_p1_least a_p1_most a_t_tried a_t_best t_bestOver t_bestCut t_sum p1_k p1_least p1_most) sz)) 0 0 (va_A (wd_Se_leastOver cI cZ a_t a_t_sum a_p1 a_p1_least a_p1_most a_t_tried a_t_best t_bestOver t_bestCut t_sum p1_k p1_least p1_most) sz) := by
  refine Met.ofW (cc := cc_Se_leastOver) (maxL := 6) (ret := (some .int)) (by decide) rfl ?_
  intro p e s m args below meth c s₁ B hml hv
  obtain ⟨rfl, hsz, hP, hK, hD0, hN⟩ := hv
  have hx := B.exec
  have hb := B.bytes
  have hr := B.returns
  have hts := atoms_spec (ws := wq_Se_leastOver) B.pre
  have hown : s.vm.findClass rr_Se = some m.cls := findClass_of_methodNamed B.named
  have hlocks := B.notSynchronized
  subst hsz
  have hD := hD0.self (sz := s.heap.size)
  generalize hAe : va_A (wd_Se_leastOver cI cZ a_t a_t_sum a_p1 a_p1_least a_p1_most a_t_tried a_t_best t_bestOver t_bestCut t_sum p1_k p1_least p1_most) s.heap.size = A at hD ⊢
  have hA : ∀ q : Nat, s.heap.size ≤ q → A q := fun q h => by rw [← hAe]; exact Or.inr h
  obtain ⟨H, hH⟩ : ∃ H : Heap, H = s.heap := ⟨_, rfl⟩
  have hS : va_S A s.heap H [] := by rw [hH]; exact va_S.rf
  have hl := lv_entry (([.ref a_t, .ref a_p1, .int x2] : List Value)) (n := 6) (Nat.le_of_ble_eq_true rfl)
  rw [lg_entry_eq]
  generalize (lg_sl (([.ref a_t, .ref a_p1, .int x2] : List Value)) ++ List.replicate (6 - (lg_sl (([.ref a_t, .ref a_p1, .int x2] : List Value))).length) Slot.unset).toArray = ls at hl ⊢
  have hl : lv_has ls 6 [(0, .ref a_t), (1, .ref a_p1), (2, .int x2)] := hl
  rw [← hH] at hP ⊢
  have hP : va_P (dC, dI) clsL (wd_Se_leastOver cI cZ a_t a_t_sum a_p1 a_p1_least a_p1_most a_t_tried a_t_best t_bestOver t_bestCut t_sum p1_k p1_least p1_most) H := hP
  unfold f_Se_leastOver at hf
  have h8 : ∀ (n8 : Nat) (x3 : Int32) (x4 : Int32) (x5 : Int32) (ls : Array Slot) (H : Heap) (locs : List Loc), L_Se_leastOver_8 x2 t_sum p1_k p1_least p1_most n8 x3 x4 x5 = some out → lv_has ls 6 [(0, .ref a_t), (1, .ref a_p1), (2, .int x2), (3, .int x3), (4, .int x4), (5, .int x5)] → va_P (dC, dI) clsL (wd_Se_leastOver cI cZ a_t a_t_sum a_p1 a_p1_least a_p1_most a_t_tried a_t_best t_bestOver t_bestCut t_sum p1_k p1_least p1_most) H → va_D A (wd_Se_leastOver cI cZ a_t a_t_sum a_p1 a_p1_least a_p1_most a_t_tried a_t_best t_bestOver t_bestCut t_sum p1_k p1_least p1_most) → va_S A s.heap H locs → W p l e (headSpec wq_Se_leastOver ({ frames := 1, cells := 0, slots := 0, locals := 60 })).room s m ([.ref a_t, .ref a_p1, .int x2] : List Value).toArray below meth c H locs 0 0 (MQ below (va_Qi (fun (r : Int32) (_ : Unit) => r = out) (fun _ => pst (dC, dI) A (wd_Se_leastOver cI cZ a_t a_t_sum a_p1 a_p1_least a_p1_most a_t_tried a_t_best t_bestOver t_bestCut t_sum p1_k p1_least p1_most)) A) ([.ref a_t, .ref a_p1, .int x2] : List Value).toArray s 0 0 A) (F0 m 8 ls []) := by
    intro n8
    induction n8 with
    | zero =>
      intro x3 x4 x5 ls H locs hf
      rw [L_Se_leastOver_8] at hf
      exact absurd hf (fun h => by cases h)
    | succ n8 ih8 =>
      intro x3 x4 x5 ls H locs hf hl hP hD hS
      rw [L_Se_leastOver_8] at hf
      have h69 : ∀ (x3 : Int32) (x4 : Int32) (ls : Array Slot) (H : Heap) (locs : List Loc), J_Se_leastOver_69 x2 x3 x4 = some out → lv_has ls 6 [(2, .int x2), (3, .int x3), (4, .int x4)] → va_P (dC, dI) clsL (wd_Se_leastOver cI cZ a_t a_t_sum a_p1 a_p1_least a_p1_most a_t_tried a_t_best t_bestOver t_bestCut t_sum p1_k p1_least p1_most) H → va_D A (wd_Se_leastOver cI cZ a_t a_t_sum a_p1 a_p1_least a_p1_most a_t_tried a_t_best t_bestOver t_bestCut t_sum p1_k p1_least p1_most) → va_S A s.heap H locs → W p l e (headSpec wq_Se_leastOver ({ frames := 1, cells := 0, slots := 0, locals := 60 })).room s m ([.ref a_t, .ref a_p1, .int x2] : List Value).toArray below meth c H locs 0 0 (MQ below (va_Qi (fun (r : Int32) (_ : Unit) => r = out) (fun _ => pst (dC, dI) A (wd_Se_leastOver cI cZ a_t a_t_sum a_p1 a_p1_least a_p1_most a_t_tried a_t_best t_bestOver t_bestCut t_sum p1_k p1_least p1_most)) A) ([.ref a_t, .ref a_p1, .int x2] : List Value).toArray s 0 0 A) (F0 m 69 ls []) := by
        intro x3 x4 ls H locs hf hl hP hD hS
        unfold J_Se_leastOver_69 at hf
        refine lv_iload hx hb dd_Se_leastOver_69 (lv_at hl 2 rfl) ?_
        refine lv_iconst (v := 0) hx hb dd_Se_leastOver_71 (by decide) ?_
        refine lv_iload_n hx hb dd_Se_leastOver_72 rfl (lv_at hl 1 rfl) ?_
        refine lv_iload_n hx hb dd_Se_leastOver_73 rfl (lv_at hl 0 rfl) ?_
        refine lv_isub hx hb dd_Se_leastOver_74 ?_
        refine va_mmax hx hb (hml.trans hl.1.symm) hown (hts _ (gwc gw_511)) (hts _ (gwc gw_512)) (hts _ (gwc gw_64)) (hts _ (gwc gw_513)) (Nat.le_of_ble_eq_true rfl) (Nat.le_of_ble_eq_true rfl) (Nat.zero_le _) (Nat.zero_le _) dd_Se_leastOver_75 ?_

        refine lv_iadd hx hb dd_Se_leastOver_78 ?_
        cases hf
        exact W.iret hx hb hr (fun t ht hW => ⟨⟨_, (), rfl, rfl, pst_of ht hP hD⟩, hS.F ht⟩) hS.2.2 dd_Se_leastOver_79
      refine lv_iload hx hb dd_Se_leastOver_8 (lv_at hl 5 rfl) ?_
      refine lv_aload_n hx hb dd_Se_leastOver_10 rfl (lv_at hl 1 rfl) ?_
      refine va_get (D := (dC, dI)) (ci := 0) (v := .int p1_k) (C := rr_Bo) (T := tt_Bo) (N := 3) hx hb hts (fun w h => gwc (inn_Bo w h)) hown hK hP 2 rfl rfl 0 (by decide) (hts _ (gwc gw_116)) (fun _ h9 => h9) rfl dd_Se_leastOver_11 ?_
      refine lv_icmp_ge (tgt := 69) hx hb dd_Se_leastOver_14 (by decide) (fun cc => ?_) (fun cc => ?_)
      · skip
        have hf := if_t cc hf
        exact h69 x3 x4 _ _ _ hf (lv_sub hl [2, 3, 4] rfl) hP hD hS
      · skip
        have hf := if_f cc hf
        refine lv_iload_n hx hb dd_Se_leastOver_17 rfl (lv_at hl 3 rfl) ?_
        refine lv_iconst (v := 0) hx hb dd_Se_leastOver_18 (by decide) ?_
        refine lv_aload_n hx hb dd_Se_leastOver_19 rfl (lv_at hl 1 rfl) ?_
        refine va_get (D := (dC, dI)) (ci := 0) (v := .ref a_p1_least) (C := rr_Bo) (T := tt_Bo) (N := 3) hx hb hts (fun w h => gwc (inn_Bo w h)) hown hK hP 2 rfl rfl 1 (by decide) (hts _ (gwc gw_120)) (fun _ h9 => h9) rfl dd_Se_leastOver_20 ?_
        refine lv_iload hx hb dd_Se_leastOver_23 (lv_at hl 5 rfl) ?_
        obtain ⟨k25, hf⟩ := ck_some hf
        refine va_iald hx hb hK hP 3 0 rfl rfl (okb_in k25) dd_Se_leastOver_25 ?_
        refine lv_aload_n hx hb dd_Se_leastOver_26 rfl (lv_at hl 0 rfl) ?_
        refine va_get (D := (dC, dI)) (ci := 5) (v := .ref a_t_sum) (C := rr_Se) (T := tt_Se) (N := 5) hx hb hts (fun w h => gwc (inn_Se w h)) hown hK hP 0 rfl rfl 2 (by decide) (hts _ (gwc gw_207)) (fun _ h9 => h9) rfl dd_Se_leastOver_27 ?_
        refine lv_iload hx hb dd_Se_leastOver_30 (lv_at hl 5 rfl) ?_
        obtain ⟨k32, hf⟩ := ck_some hf
        refine va_iald hx hb hK hP 1 0 rfl rfl (okb_in k32) dd_Se_leastOver_32 ?_
        refine lv_isub hx hb dd_Se_leastOver_33 ?_
        refine va_mmax hx hb (hml.trans hl.1.symm) hown (hts _ (gwc gw_511)) (hts _ (gwc gw_512)) (hts _ (gwc gw_64)) (hts _ (gwc gw_513)) (Nat.le_of_ble_eq_true rfl) (Nat.le_of_ble_eq_true rfl) (Nat.zero_le _) (Nat.zero_le _) dd_Se_leastOver_34 ?_

        refine lv_iadd hx hb dd_Se_leastOver_37 ?_
        refine lv_istore_n (lv' := [(3, .int (x3 + (mx 0 ((p1_least (x5).toNatClampNeg) - (t_sum (x5).toNatClampNeg))))), (0, .ref a_t), (1, .ref a_p1), (2, .int x2), (4, .int x4), (5, .int x5)]) hx hb dd_Se_leastOver_38 rfl hl (by decide) rfl (fun ls hl => ?_)
        refine lv_iload hx hb dd_Se_leastOver_39 (lv_at hl 4 rfl) ?_
        refine lv_iconst (v := 0) hx hb dd_Se_leastOver_41 (by decide) ?_
        refine lv_aload_n hx hb dd_Se_leastOver_42 rfl (lv_at hl 1 rfl) ?_
        refine va_get (D := (dC, dI)) (ci := 5) (v := .ref a_t_sum) (C := rr_Se) (T := tt_Se) (N := 5) hx hb hts (fun w h => gwc (inn_Se w h)) hown hK hP 0 rfl rfl 2 (by decide) (hts _ (gwc gw_207)) (fun _ h9 => h9) rfl dd_Se_leastOver_43 ?_
        refine lv_iload hx hb dd_Se_leastOver_46 (lv_at hl 5 rfl) ?_
        obtain ⟨k48, hf⟩ := ck_some hf
        refine va_iald hx hb hK hP 1 0 rfl rfl (okb_in k48) dd_Se_leastOver_48 ?_
        refine lv_aload_n hx hb dd_Se_leastOver_49 rfl (lv_at hl 2 rfl) ?_
        refine va_get (D := (dC, dI)) (ci := 0) (v := .ref a_p1_most) (C := rr_Bo) (T := tt_Bo) (N := 3) hx hb hts (fun w h => gwc (inn_Bo w h)) hown hK hP 2 rfl rfl 2 (by decide) (hts _ (gwc gw_123)) (fun _ h9 => h9) rfl dd_Se_leastOver_50 ?_
        refine lv_iload hx hb dd_Se_leastOver_53 (lv_at hl 5 rfl) ?_
        obtain ⟨k55, hf⟩ := ck_some hf
        refine va_iald hx hb hK hP 4 0 rfl rfl (okb_in k55) dd_Se_leastOver_55 ?_
        refine lv_isub hx hb dd_Se_leastOver_56 ?_
        refine va_mmax hx hb (hml.trans hl.1.symm) hown (hts _ (gwc gw_511)) (hts _ (gwc gw_512)) (hts _ (gwc gw_64)) (hts _ (gwc gw_513)) (Nat.le_of_ble_eq_true rfl) (Nat.le_of_ble_eq_true rfl) (Nat.zero_le _) (Nat.zero_le _) dd_Se_leastOver_57 ?_

        refine lv_iadd hx hb dd_Se_leastOver_60 ?_
        refine lv_istore (lv' := [(4, .int (x4 + (mx 0 ((t_sum (x5).toNatClampNeg) - (p1_most (x5).toNatClampNeg))))), (3, .int (x3 + (mx 0 ((p1_least (x5).toNatClampNeg) - (t_sum (x5).toNatClampNeg))))), (0, .ref a_t), (1, .ref a_p1), (2, .int x2), (5, .int x5)]) hx hb dd_Se_leastOver_61 hl (by decide) rfl (fun ls hl => ?_)
        refine lv_iinc (v := x5 + 1) (lv' := [(5, .int (x5 + 1)), (4, .int (x4 + (mx 0 ((t_sum (x5).toNatClampNeg) - (p1_most (x5).toNatClampNeg))))), (3, .int (x3 + (mx 0 ((p1_least (x5).toNatClampNeg) - (t_sum (x5).toNatClampNeg))))), (0, .ref a_t), (1, .ref a_p1), (2, .int x2)]) hx hb dd_Se_leastOver_63 hl (k := 5) rfl rfl (by decide) rfl (fun ls hl => ?_)
        refine lv_goto (tgt := 8) hx hb dd_Se_leastOver_66 (by decide) ?_
        exact ih8 (x3 + (mx 0 ((p1_least (x5).toNatClampNeg) - (t_sum (x5).toNatClampNeg)))) (x4 + (mx 0 ((t_sum (x5).toNatClampNeg) - (p1_most (x5).toNatClampNeg)))) (x5 + 1) _ _ _ hf (lv_sub hl [3, 4, 5, 2, 1, 0] rfl) hP hD hS
  refine lv_iconst (v := 0) hx hb dd_Se_leastOver_0 (by decide) ?_
  refine lv_istore_n (lv' := [(3, .int 0), (0, .ref a_t), (1, .ref a_p1), (2, .int x2)]) hx hb dd_Se_leastOver_1 rfl hl (by decide) rfl (fun ls hl => ?_)
  refine lv_iconst (v := 0) hx hb dd_Se_leastOver_2 (by decide) ?_
  refine lv_istore (lv' := [(4, .int 0), (3, .int 0), (0, .ref a_t), (1, .ref a_p1), (2, .int x2)]) hx hb dd_Se_leastOver_3 hl (by decide) rfl (fun ls hl => ?_)
  refine lv_iconst (v := 0) hx hb dd_Se_leastOver_5 (by decide) ?_
  refine lv_istore (lv' := [(5, .int 0), (4, .int 0), (3, .int 0), (0, .ref a_t), (1, .ref a_p1), (2, .int x2)]) hx hb dd_Se_leastOver_6 hl (by decide) rfl (fun ls hl => ?_)
  exact h8 64 0 0 0 _ _ _ hf (lv_sub hl [3, 4, 5, 2, 1, 0] rfl) hP hD hS
abbrev wd_Se_cutBehind (cI cZ : ClassId) (a_t a_t_tried a_p1 a_p1_arcs a_t_best a_t_sum a_p1_weight : Nat) (t_bestOver : Int32) (t_bestCut : Int32) (t_tried : Nat → Int32) (p1_size : Int32) (p1_arcs : Nat → Int32) : va_W := [(a_t, .inr (5, [.ref a_t_tried, .ref a_t_best, .ref a_t_sum, .int t_bestOver, .int t_bestCut])), (a_t_tried, .inl (cI, 40, .inl t_tried)), (a_p1, .inr (1, [.int p1_size, .ref a_p1_weight, .ref a_p1_arcs])), (a_p1_arcs, .inl (cI, 1600, .inl p1_arcs))]
set_option maxRecDepth 100000 in
set_option maxHeartbeats 4000000 in
theorem c_Se_cutBehind (l : Launch) (dC : Nat → ClassId) (dI : Nat → Nat → Nat) (cI cZ : ClassId) (a_t a_t_tried a_p1 a_p1_arcs a_t_best a_t_sum a_p1_weight sz : Nat) (x2 : Int32) (t_bestOver : Int32) (t_bestCut : Int32) (t_tried : Nat → Int32) (p1_size : Int32) (p1_arcs : Nat → Int32) (out : Int32) (hf : f_Se_cutBehind x2 t_tried p1_arcs = some out) :
    Met l yy_Se_cutBehind wq_Se_cutBehind ({ frames := 1, cells := 0, slots := 0, locals := 22 }) (va_Pc ([.ref a_t, .ref a_p1, .int x2] : List Value) (pre_ (dC, dI) cI cZ sz (wd_Se_cutBehind cI cZ a_t a_t_tried a_p1 a_p1_arcs a_t_best a_t_sum a_p1_weight t_bestOver t_bestCut t_tried p1_size p1_arcs))) (va_Qi (fun (r : Int32) (_ : Unit) => r = out) (fun _ => pst (dC, dI) (va_A (wd_Se_cutBehind cI cZ a_t a_t_tried a_p1 a_p1_arcs a_t_best a_t_sum a_p1_weight t_bestOver t_bestCut t_tried p1_size p1_arcs) sz) (wd_Se_cutBehind cI cZ a_t a_t_tried a_p1 a_p1_arcs a_t_best a_t_sum a_p1_weight t_bestOver t_bestCut t_tried p1_size p1_arcs)) (va_A (wd_Se_cutBehind cI cZ a_t a_t_tried a_p1 a_p1_arcs a_t_best a_t_sum a_p1_weight t_bestOver t_bestCut t_tried p1_size p1_arcs) sz)) 0 0 (va_A (wd_Se_cutBehind cI cZ a_t a_t_tried a_p1 a_p1_arcs a_t_best a_t_sum a_p1_weight t_bestOver t_bestCut t_tried p1_size p1_arcs) sz) := by
  refine Met.ofW (cc := cc_Se_cutBehind) (maxL := 5) (ret := (some .int)) (by decide) rfl ?_
  intro p e s m args below meth c s₁ B hml hv
  obtain ⟨rfl, hsz, hP, hK, hD0, hN⟩ := hv
  have hx := B.exec
  have hb := B.bytes
  have hr := B.returns
  have hts := atoms_spec (ws := wq_Se_cutBehind) B.pre
  have hown : s.vm.findClass rr_Se = some m.cls := findClass_of_methodNamed B.named
  have hlocks := B.notSynchronized
  subst hsz
  have hD := hD0.self (sz := s.heap.size)
  generalize hAe : va_A (wd_Se_cutBehind cI cZ a_t a_t_tried a_p1 a_p1_arcs a_t_best a_t_sum a_p1_weight t_bestOver t_bestCut t_tried p1_size p1_arcs) s.heap.size = A at hD ⊢
  have hA : ∀ q : Nat, s.heap.size ≤ q → A q := fun q h => by rw [← hAe]; exact Or.inr h
  obtain ⟨H, hH⟩ : ∃ H : Heap, H = s.heap := ⟨_, rfl⟩
  have hS : va_S A s.heap H [] := by rw [hH]; exact va_S.rf
  have hl := lv_entry (([.ref a_t, .ref a_p1, .int x2] : List Value)) (n := 5) (Nat.le_of_ble_eq_true rfl)
  rw [lg_entry_eq]
  generalize (lg_sl (([.ref a_t, .ref a_p1, .int x2] : List Value)) ++ List.replicate (5 - (lg_sl (([.ref a_t, .ref a_p1, .int x2] : List Value))).length) Slot.unset).toArray = ls at hl ⊢
  have hl : lv_has ls 5 [(0, .ref a_t), (1, .ref a_p1), (2, .int x2)] := hl
  rw [← hH] at hP ⊢
  have hP : va_P (dC, dI) clsL (wd_Se_cutBehind cI cZ a_t a_t_tried a_p1 a_p1_arcs a_t_best a_t_sum a_p1_weight t_bestOver t_bestCut t_tried p1_size p1_arcs) H := hP
  unfold f_Se_cutBehind at hf
  have h5 : ∀ (n5 : Nat) (x3 : Int32) (x4 : Int32) (ls : Array Slot) (H : Heap) (locs : List Loc), L_Se_cutBehind_5 x2 t_tried p1_arcs n5 x3 x4 = some out → lv_has ls 5 [(0, .ref a_t), (1, .ref a_p1), (2, .int x2), (3, .int x3), (4, .int x4)] → va_P (dC, dI) clsL (wd_Se_cutBehind cI cZ a_t a_t_tried a_p1 a_p1_arcs a_t_best a_t_sum a_p1_weight t_bestOver t_bestCut t_tried p1_size p1_arcs) H → va_D A (wd_Se_cutBehind cI cZ a_t a_t_tried a_p1 a_p1_arcs a_t_best a_t_sum a_p1_weight t_bestOver t_bestCut t_tried p1_size p1_arcs) → va_S A s.heap H locs → W p l e (headSpec wq_Se_cutBehind ({ frames := 1, cells := 0, slots := 0, locals := 22 })).room s m ([.ref a_t, .ref a_p1, .int x2] : List Value).toArray below meth c H locs 0 0 (MQ below (va_Qi (fun (r : Int32) (_ : Unit) => r = out) (fun _ => pst (dC, dI) A (wd_Se_cutBehind cI cZ a_t a_t_tried a_p1 a_p1_arcs a_t_best a_t_sum a_p1_weight t_bestOver t_bestCut t_tried p1_size p1_arcs)) A) ([.ref a_t, .ref a_p1, .int x2] : List Value).toArray s 0 0 A) (F0 m 5 ls []) := by
    intro n5
    induction n5 with
    | zero =>
      intro x3 x4 ls H locs hf
      rw [L_Se_cutBehind_5] at hf
      exact absurd hf (fun h => by cases h)
    | succ n5 ih5 =>
      intro x3 x4 ls H locs hf hl hP hD hS
      rw [L_Se_cutBehind_5] at hf
      refine lv_iload hx hb dd_Se_cutBehind_5 (lv_at hl 4 rfl) ?_
      refine lv_iload_n hx hb dd_Se_cutBehind_7 rfl (lv_at hl 2 rfl) ?_
      refine lv_icmp_ge (tgt := 43) hx hb dd_Se_cutBehind_8 (by decide) (fun cc => ?_) (fun cc => ?_)
      · skip
        have hf := if_t cc hf
        refine lv_iload_n hx hb dd_Se_cutBehind_43 rfl (lv_at hl 3 rfl) ?_
        cases hf
        exact W.iret hx hb hr (fun t ht hW => ⟨⟨_, (), rfl, rfl, pst_of ht hP hD⟩, hS.F ht⟩) hS.2.2 dd_Se_cutBehind_44
      · skip
        have hf := if_f cc hf
        refine lv_aload_n hx hb dd_Se_cutBehind_11 rfl (lv_at hl 0 rfl) ?_
        refine va_get (D := (dC, dI)) (ci := 5) (v := .ref a_t_tried) (C := rr_Se) (T := tt_Se) (N := 5) hx hb hts (fun w h => gwc (inn_Se w h)) hown hK hP 0 rfl rfl 0 (by decide) (hts _ (gwc gw_205)) (fun _ h9 => h9) rfl dd_Se_cutBehind_12 ?_
        refine lv_iload hx hb dd_Se_cutBehind_15 (lv_at hl 4 rfl) ?_
        obtain ⟨k17, hf⟩ := ck_some hf
        refine va_iald hx hb hK hP 1 0 rfl rfl (okb_in k17) dd_Se_cutBehind_17 ?_
        refine lv_aload_n hx hb dd_Se_cutBehind_18 rfl (lv_at hl 0 rfl) ?_
        refine va_get (D := (dC, dI)) (ci := 5) (v := .ref a_t_tried) (C := rr_Se) (T := tt_Se) (N := 5) hx hb hts (fun w h => gwc (inn_Se w h)) hown hK hP 0 rfl rfl 0 (by decide) (hts _ (gwc gw_205)) (fun _ h9 => h9) rfl dd_Se_cutBehind_19 ?_
        refine lv_iload_n hx hb dd_Se_cutBehind_22 rfl (lv_at hl 2 rfl) ?_
        obtain ⟨k23, hf⟩ := ck_some hf
        refine va_iald hx hb hK hP 1 0 rfl rfl (okb_in k23) dd_Se_cutBehind_23 ?_
        refine lv_icmp_eq (tgt := 37) hx hb dd_Se_cutBehind_24 (by decide) (fun cc => ?_) (fun cc => ?_)
        · skip
          have hf := if_t cc hf
          refine lv_iinc (v := x4 + 1) (lv' := [(4, .int (x4 + 1)), (0, .ref a_t), (1, .ref a_p1), (2, .int x2), (3, .int x3)]) hx hb dd_Se_cutBehind_37 hl (k := 4) rfl rfl (by decide) rfl (fun ls hl => ?_)
          refine lv_goto (tgt := 5) hx hb dd_Se_cutBehind_40 (by decide) ?_
          exact ih5 x3 (x4 + 1) _ _ _ hf (lv_sub hl [1, 2, 3, 4, 0] rfl) hP hD hS
        · skip
          have hf := if_f cc hf
          refine lv_iload_n hx hb dd_Se_cutBehind_27 rfl (lv_at hl 3 rfl) ?_
          refine lv_aload_n hx hb dd_Se_cutBehind_28 rfl (lv_at hl 1 rfl) ?_
          refine lv_iload_n hx hb dd_Se_cutBehind_29 rfl (lv_at hl 2 rfl) ?_
          refine lv_iload hx hb dd_Se_cutBehind_30 (lv_at hl 4 rfl) ?_
          obtain ⟨r32, hr32, hf⟩ := bind_some hf
          refine xcalli (rest := [.int x3]) (wc := (wd_Gr_arcOf cI cZ a_p1 a_p1_arcs a_p1_weight p1_size p1_arcs)) (w1 := (wd_Gr_arcOf cI cZ a_p1 a_p1_arcs a_p1_weight p1_size p1_arcs)) (wr := [(a_t, .inr (5, [.ref a_t_tried, .ref a_t_best, .ref a_t_sum, .int t_bestOver, .int t_bestCut])), (a_t_tried, .inl (cI, 40, .inl t_tried))]) (ws' := (wd_Se_cutBehind cI cZ a_t a_t_tried a_p1 a_p1_arcs a_t_best a_t_sum a_p1_weight t_bestOver t_bestCut t_tried p1_size p1_arcs)) (va_runV (As := [.int x2, .int x4]) ⟨hx, hb, hml, hown, hts⟩ (c_Gr_arcOf l dC dI cI cZ a_p1 a_p1_arcs a_p1_weight H.size x2 x4 p1_size p1_arcs r32 hr32) (cwV 2 hts (gV gw_519 gw_318 gw_319 gw_54 gw_320) rfl rfl rfl (yd_Gr_arcOf) ⟨Nat.le_of_ble_eq_true rfl, Nat.le_of_ble_eq_true rfl⟩) (mkV hK (hP.sub (ws' := (wd_Gr_arcOf cI cZ a_p1 a_p1_arcs a_p1_weight p1_size p1_arcs)) [2, 3] rfl) (hD.sub (ws' := (wd_Gr_arcOf cI cZ a_p1 a_p1_arcs a_p1_weight p1_size p1_arcs)) [2, 3] (by decide) rfl) hN (va_recv hK hP (ci := 1) (q0 := 2) rfl rfl)) rfl rfl hl.1 rfl (lv_room (Nat.le_of_ble_eq_true rfl)) dd_Se_cutBehind_32 ⟨Nat.zero_le _, Nat.zero_le _⟩) hP hD hS hA [2, 3] [0, 1] [0, 1, 2, 3] rfl rfl (by decide) (by decide) rfl (by decide) rfl (fun H locs hP hD hS => ?_)
          refine lv_iadd hx hb dd_Se_cutBehind_35 ?_
          refine lv_istore_n (lv' := [(3, .int (x3 + r32)), (0, .ref a_t), (1, .ref a_p1), (2, .int x2), (4, .int x4)]) hx hb dd_Se_cutBehind_36 rfl hl (by decide) rfl (fun ls hl => ?_)
          refine lv_iinc (v := x4 + 1) (lv' := [(4, .int (x4 + 1)), (3, .int (x3 + r32)), (0, .ref a_t), (1, .ref a_p1), (2, .int x2)]) hx hb dd_Se_cutBehind_37 hl (k := 4) rfl rfl (by decide) rfl (fun ls hl => ?_)
          refine lv_goto (tgt := 5) hx hb dd_Se_cutBehind_40 (by decide) ?_
          exact ih5 (x3 + r32) (x4 + 1) _ _ _ hf (lv_sub hl [2, 3, 4, 1, 0] rfl) hP hD hS
  refine lv_iconst (v := 0) hx hb dd_Se_cutBehind_0 (by decide) ?_
  refine lv_istore_n (lv' := [(3, .int 0), (0, .ref a_t), (1, .ref a_p1), (2, .int x2)]) hx hb dd_Se_cutBehind_1 rfl hl (by decide) rfl (fun ls hl => ?_)
  refine lv_iconst (v := 0) hx hb dd_Se_cutBehind_2 (by decide) ?_
  refine lv_istore (lv' := [(4, .int 0), (3, .int 0), (0, .ref a_t), (1, .ref a_p1), (2, .int x2)]) hx hb dd_Se_cutBehind_3 hl (by decide) rfl (fun ls hl => ?_)
  exact h5 64 0 0 _ _ _ hf (lv_sub hl [2, 3, 4, 1, 0] rfl) hP hD hS
abbrev wd_Se_tryFrom (cI cZ : ClassId) (a_t a_t_best a_t_sum a_t_tried a_p1 a_p1_bounds a_p1_bounds_least a_p1_bounds_most a_p1_graph a_p1_graph_arcs a_p1_graph_weight a_p1_home a_p1_sum a_p1_link : Nat) (t_bestOver : Int32) (t_bestCut : Int32) (t_best : Nat → Int32) (t_sum : Nat → Int32) (t_tried : Nat → Int32) (p1_cut : Int32) (p1_over : Int32) (p1_bounds_k : Int32) (p1_bounds_least : Nat → Int32) (p1_bounds_most : Nat → Int32) (p1_graph_size : Int32) (p1_graph_arcs : Nat → Int32) (p1_graph_weight : Nat → Int32) : va_W := [(a_t, .inr (5, [.ref a_t_tried, .ref a_t_best, .ref a_t_sum, .int t_bestOver, .int t_bestCut])), (a_t_best, .inl (cI, 40, .inl t_best)), (a_t_sum, .inl (cI, 4, .inl t_sum)), (a_t_tried, .inl (cI, 40, .inl t_tried)), (a_p1, .inr (7, [.ref a_p1_graph, .ref a_p1_bounds, .ref a_p1_home, .ref a_p1_sum, .ref a_p1_link, .int p1_cut, .int p1_over])), (a_p1_bounds, .inr (0, [.int p1_bounds_k, .ref a_p1_bounds_least, .ref a_p1_bounds_most])), (a_p1_bounds_least, .inl (cI, 4, .inl p1_bounds_least)), (a_p1_bounds_most, .inl (cI, 4, .inl p1_bounds_most)), (a_p1_graph, .inr (1, [.int p1_graph_size, .ref a_p1_graph_weight, .ref a_p1_graph_arcs])), (a_p1_graph_arcs, .inl (cI, 1600, .inl p1_graph_arcs)), (a_p1_graph_weight, .inl (cI, 40, .inl p1_graph_weight))]
abbrev rmt_Se_tryFrom (d : Nat) : Room := { frames := 2 + d, cells := 0, slots := 0, locals := 85 + d * 27 }
set_option maxRecDepth 100000 in
set_option maxHeartbeats 4000000 in
theorem c_Se_tryFrom (l : Launch) (dC : Nat → ClassId) (dI : Nat → Nat → Nat) (cI cZ : ClassId) (a_t a_t_best a_t_sum a_t_tried a_p1 a_p1_bounds a_p1_bounds_least a_p1_bounds_most a_p1_graph a_p1_graph_arcs a_p1_graph_weight a_p1_home a_p1_sum a_p1_link : Nat) : ∀ (d sz : Nat) (x2 : Int32) (x3 : Int32) (x4 : Int32) (t_bestOver : Int32) (t_bestCut : Int32) (t_best : Nat → Int32) (t_sum : Nat → Int32) (t_tried : Nat → Int32) (p1_cut : Int32) (p1_over : Int32) (p1_bounds_k : Int32) (p1_bounds_least : Nat → Int32) (p1_bounds_most : Nat → Int32) (p1_graph_size : Int32) (p1_graph_arcs : Nat → Int32) (p1_graph_weight : Nat → Int32) (out : Int32 × Int32 × (Nat → Int32) × (Nat → Int32) × (Nat → Int32)) (hf : f_Se_tryFrom d x2 x3 x4 t_bestOver t_bestCut t_best t_sum t_tried p1_bounds_k p1_bounds_least p1_bounds_most p1_graph_size p1_graph_arcs p1_graph_weight = some out),
    Met l yy_Se_tryFrom wq_Se_tryFrom (rmt_Se_tryFrom d) (va_Pc ([.ref a_t, .ref a_p1, .int x2, .int x3, .int x4] : List Value) (pre_ (dC, dI) cI cZ sz (wd_Se_tryFrom cI cZ a_t a_t_best a_t_sum a_t_tried a_p1 a_p1_bounds a_p1_bounds_least a_p1_bounds_most a_p1_graph a_p1_graph_arcs a_p1_graph_weight a_p1_home a_p1_sum a_p1_link t_bestOver t_bestCut t_best t_sum t_tried p1_cut p1_over p1_bounds_k p1_bounds_least p1_bounds_most p1_graph_size p1_graph_arcs p1_graph_weight))) (va_Qv (fun _ : Unit => True) (fun _ => pst (dC, dI) (va_A (wd_Se_tryFrom cI cZ a_t a_t_best a_t_sum a_t_tried a_p1 a_p1_bounds a_p1_bounds_least a_p1_bounds_most a_p1_graph a_p1_graph_arcs a_p1_graph_weight a_p1_home a_p1_sum a_p1_link t_bestOver t_bestCut t_best t_sum t_tried p1_cut p1_over p1_bounds_k p1_bounds_least p1_bounds_most p1_graph_size p1_graph_arcs p1_graph_weight) sz) (wd_Se_tryFrom cI cZ a_t a_t_best a_t_sum a_t_tried a_p1 a_p1_bounds a_p1_bounds_least a_p1_bounds_most a_p1_graph a_p1_graph_arcs a_p1_graph_weight a_p1_home a_p1_sum a_p1_link out.1 out.2.1 out.2.2.1 out.2.2.2.1 out.2.2.2.2 p1_cut p1_over p1_bounds_k p1_bounds_least p1_bounds_most p1_graph_size p1_graph_arcs p1_graph_weight)) (va_A (wd_Se_tryFrom cI cZ a_t a_t_best a_t_sum a_t_tried a_p1 a_p1_bounds a_p1_bounds_least a_p1_bounds_most a_p1_graph a_p1_graph_arcs a_p1_graph_weight a_p1_home a_p1_sum a_p1_link t_bestOver t_bestCut t_best t_sum t_tried p1_cut p1_over p1_bounds_k p1_bounds_least p1_bounds_most p1_graph_size p1_graph_arcs p1_graph_weight) sz)) 0 0 (va_A (wd_Se_tryFrom cI cZ a_t a_t_best a_t_sum a_t_tried a_p1 a_p1_bounds a_p1_bounds_least a_p1_bounds_most a_p1_graph a_p1_graph_arcs a_p1_graph_weight a_p1_home a_p1_sum a_p1_link t_bestOver t_bestCut t_best t_sum t_tried p1_cut p1_over p1_bounds_k p1_bounds_least p1_bounds_most p1_graph_size p1_graph_arcs p1_graph_weight) sz) := by
  intro d
  induction d with
  | zero =>
    intro sz x2 x3 x4 t_bestOver t_bestCut t_best t_sum t_tried p1_cut p1_over p1_bounds_k p1_bounds_least p1_bounds_most p1_graph_size p1_graph_arcs p1_graph_weight out hf
    rw [f_Se_tryFrom] at hf
    exact absurd hf (fun h => by cases h)
  | succ d ihd =>
  intro sz x2 x3 x4 t_bestOver t_bestCut t_best t_sum t_tried p1_cut p1_over p1_bounds_k p1_bounds_least p1_bounds_most p1_graph_size p1_graph_arcs p1_graph_weight out hf
  refine Met.ofW (cc := cc_Se_tryFrom) (maxL := 8) (ret := none) (by decide) rfl ?_
  intro p e s m args below meth c s₁ B hml hv
  obtain ⟨rfl, hsz, hP, hK, hD0, hN⟩ := hv
  have hx := B.exec
  have hb := B.bytes
  have hr := B.returns
  have hts := atoms_spec (ws := wq_Se_tryFrom) B.pre
  have hown : s.vm.findClass rr_Se = some m.cls := findClass_of_methodNamed B.named
  have hlocks := B.notSynchronized
  subst hsz
  have hD := hD0.self (sz := s.heap.size)
  generalize hAe : va_A (wd_Se_tryFrom cI cZ a_t a_t_best a_t_sum a_t_tried a_p1 a_p1_bounds a_p1_bounds_least a_p1_bounds_most a_p1_graph a_p1_graph_arcs a_p1_graph_weight a_p1_home a_p1_sum a_p1_link t_bestOver t_bestCut t_best t_sum t_tried p1_cut p1_over p1_bounds_k p1_bounds_least p1_bounds_most p1_graph_size p1_graph_arcs p1_graph_weight) s.heap.size = A at hD ⊢
  have hA : ∀ q : Nat, s.heap.size ≤ q → A q := fun q h => by rw [← hAe]; exact Or.inr h
  obtain ⟨H, hH⟩ : ∃ H : Heap, H = s.heap := ⟨_, rfl⟩
  have hS : va_S A s.heap H [] := by rw [hH]; exact va_S.rf
  have hl := lv_entry (([.ref a_t, .ref a_p1, .int x2, .int x3, .int x4] : List Value)) (n := 8) (Nat.le_of_ble_eq_true rfl)
  rw [lg_entry_eq]
  generalize (lg_sl (([.ref a_t, .ref a_p1, .int x2, .int x3, .int x4] : List Value)) ++ List.replicate (8 - (lg_sl (([.ref a_t, .ref a_p1, .int x2, .int x3, .int x4] : List Value))).length) Slot.unset).toArray = ls at hl ⊢
  have hl : lv_has ls 8 [(0, .ref a_t), (1, .ref a_p1), (2, .int x2), (3, .int x3), (4, .int x4)] := hl
  rw [← hH] at hP ⊢
  have hP : va_P (dC, dI) clsL (wd_Se_tryFrom cI cZ a_t a_t_best a_t_sum a_t_tried a_p1 a_p1_bounds a_p1_bounds_least a_p1_bounds_most a_p1_graph a_p1_graph_arcs a_p1_graph_weight a_p1_home a_p1_sum a_p1_link t_bestOver t_bestCut t_best t_sum t_tried p1_cut p1_over p1_bounds_k p1_bounds_least p1_bounds_most p1_graph_size p1_graph_arcs p1_graph_weight) H := hP
  rw [f_Se_tryFrom] at hf
  have h39 : ∀ (x5 : Int32) (ls : Array Slot) (H : Heap) (locs : List Loc), J_Se_tryFrom_39 (f_Se_tryFrom d) x2 x3 x4 t_bestOver t_bestCut t_best t_sum t_tried p1_bounds_k p1_bounds_least p1_bounds_most p1_graph_size p1_graph_arcs p1_graph_weight x5 = some out → lv_has ls 8 [(0, .ref a_t), (1, .ref a_p1), (2, .int x2), (3, .int x3), (4, .int x4), (5, .int x5)] → va_P (dC, dI) clsL (wd_Se_tryFrom cI cZ a_t a_t_best a_t_sum a_t_tried a_p1 a_p1_bounds a_p1_bounds_least a_p1_bounds_most a_p1_graph a_p1_graph_arcs a_p1_graph_weight a_p1_home a_p1_sum a_p1_link t_bestOver t_bestCut t_best t_sum t_tried p1_cut p1_over p1_bounds_k p1_bounds_least p1_bounds_most p1_graph_size p1_graph_arcs p1_graph_weight) H → va_D A (wd_Se_tryFrom cI cZ a_t a_t_best a_t_sum a_t_tried a_p1 a_p1_bounds a_p1_bounds_least a_p1_bounds_most a_p1_graph a_p1_graph_arcs a_p1_graph_weight a_p1_home a_p1_sum a_p1_link t_bestOver t_bestCut t_best t_sum t_tried p1_cut p1_over p1_bounds_k p1_bounds_least p1_bounds_most p1_graph_size p1_graph_arcs p1_graph_weight) → va_S A s.heap H locs → W p l e (headSpec wq_Se_tryFrom (rmt_Se_tryFrom (d + 1))).room s m ([.ref a_t, .ref a_p1, .int x2, .int x3, .int x4] : List Value).toArray below meth c H locs 0 0 (MQ below (va_Qv (fun _ : Unit => True) (fun _ => pst (dC, dI) A (wd_Se_tryFrom cI cZ a_t a_t_best a_t_sum a_t_tried a_p1 a_p1_bounds a_p1_bounds_least a_p1_bounds_most a_p1_graph a_p1_graph_arcs a_p1_graph_weight a_p1_home a_p1_sum a_p1_link out.1 out.2.1 out.2.2.1 out.2.2.2.1 out.2.2.2.2 p1_cut p1_over p1_bounds_k p1_bounds_least p1_bounds_most p1_graph_size p1_graph_arcs p1_graph_weight)) A) ([.ref a_t, .ref a_p1, .int x2, .int x3, .int x4] : List Value).toArray s 0 0 A) (F0 m 39 ls []) := by
    intro x5 ls H locs hf hl hP hD hS
    unfold J_Se_tryFrom_39 at hf
    have h56 : ∀ (x5 : Int32) (ls : Array Slot) (H : Heap) (locs : List Loc), J_Se_tryFrom_56 x3 t_best t_sum t_tried x5 = some out → lv_has ls 8 [(0, .ref a_t), (3, .int x3), (5, .int x5)] → va_P (dC, dI) clsL (wd_Se_tryFrom cI cZ a_t a_t_best a_t_sum a_t_tried a_p1 a_p1_bounds a_p1_bounds_least a_p1_bounds_most a_p1_graph a_p1_graph_arcs a_p1_graph_weight a_p1_home a_p1_sum a_p1_link t_bestOver t_bestCut t_best t_sum t_tried p1_cut p1_over p1_bounds_k p1_bounds_least p1_bounds_most p1_graph_size p1_graph_arcs p1_graph_weight) H → va_D A (wd_Se_tryFrom cI cZ a_t a_t_best a_t_sum a_t_tried a_p1 a_p1_bounds a_p1_bounds_least a_p1_bounds_most a_p1_graph a_p1_graph_arcs a_p1_graph_weight a_p1_home a_p1_sum a_p1_link t_bestOver t_bestCut t_best t_sum t_tried p1_cut p1_over p1_bounds_k p1_bounds_least p1_bounds_most p1_graph_size p1_graph_arcs p1_graph_weight) → va_S A s.heap H locs → W p l e (headSpec wq_Se_tryFrom (rmt_Se_tryFrom (d + 1))).room s m ([.ref a_t, .ref a_p1, .int x2, .int x3, .int x4] : List Value).toArray below meth c H locs 0 0 (MQ below (va_Qv (fun _ : Unit => True) (fun _ => pst (dC, dI) A (wd_Se_tryFrom cI cZ a_t a_t_best a_t_sum a_t_tried a_p1 a_p1_bounds a_p1_bounds_least a_p1_bounds_most a_p1_graph a_p1_graph_arcs a_p1_graph_weight a_p1_home a_p1_sum a_p1_link out.1 out.2.1 out.2.2.1 out.2.2.2.1 out.2.2.2.2 p1_cut p1_over p1_bounds_k p1_bounds_least p1_bounds_most p1_graph_size p1_graph_arcs p1_graph_weight)) A) ([.ref a_t, .ref a_p1, .int x2, .int x3, .int x4] : List Value).toArray s 0 0 A) (F0 m 56 ls []) := by
      intro x5 ls H locs hf hl hP hD hS
      unfold J_Se_tryFrom_56 at hf
      refine lv_aload_n hx hb dd_Se_tryFrom_56 rfl (lv_at hl 0 rfl) ?_
      refine va_get (D := (dC, dI)) (ci := 5) (v := .ref a_t_tried) (C := rr_Se) (T := tt_Se) (N := 5) hx hb hts (fun w h => gwc (inn_Se w h)) hown hK hP 0 rfl rfl 0 (by decide) (hts _ (gwc gw_205)) (fun _ h9 => h9) rfl dd_Se_tryFrom_57 ?_
      refine lv_iconst (v := 0) hx hb dd_Se_tryFrom_60 (by decide) ?_
      refine lv_aload_n hx hb dd_Se_tryFrom_61 rfl (lv_at hl 0 rfl) ?_
      refine va_get (D := (dC, dI)) (ci := 5) (v := .ref a_t_best) (C := rr_Se) (T := tt_Se) (N := 5) hx hb hts (fun w h => gwc (inn_Se w h)) hown hK hP 0 rfl rfl 1 (by decide) (hts _ (gwc gw_206)) (fun _ h9 => h9) rfl dd_Se_tryFrom_62 ?_
      refine lv_iconst (v := 0) hx hb dd_Se_tryFrom_65 (by decide) ?_
      refine lv_bipush (v := 40) hx hb dd_Se_tryFrom_66 (by decide) ?_
      obtain ⟨k68, hf⟩ := ck_some hf
      refine va_copyi hx hb (hml.trans hl.1.symm) hown (hts _ (gwc gw_514)) (hts _ (gwc gw_492)) (hts _ (gwc gw_491)) (hts _ (gwc gw_63)) hK hP hD hS 3 1 0 0 rfl rfl rfl rfl rfl (okc_1 k68) (okc_2 k68) (okc_3 k68) (okc_4 k68) (okc_5 k68) (fun _ _ => rfl) (by show 1 ≤ 2 + (d + 1); omega) (Nat.le_trans (m := 60) (Nat.le_of_ble_eq_true rfl) (by show 60 ≤ 85 + (d + 1) * 27; omega)) dd_Se_tryFrom_68 (fun H locs hP hD hS => ?_)
      have hP : va_P (dC, dI) clsL (wd_Se_tryFrom cI cZ a_t a_t_best a_t_sum a_t_tried a_p1 a_p1_bounds a_p1_bounds_least a_p1_bounds_most a_p1_graph a_p1_graph_arcs a_p1_graph_weight a_p1_home a_p1_sum a_p1_link t_bestOver t_bestCut (va_cpy t_tried t_best (0 : Int32).toNatClampNeg (0 : Int32).toNatClampNeg (40 : Int32).toNatClampNeg) t_sum t_tried p1_cut p1_over p1_bounds_k p1_bounds_least p1_bounds_most p1_graph_size p1_graph_arcs p1_graph_weight) H := hP
      have hD : va_D A (wd_Se_tryFrom cI cZ a_t a_t_best a_t_sum a_t_tried a_p1 a_p1_bounds a_p1_bounds_least a_p1_bounds_most a_p1_graph a_p1_graph_arcs a_p1_graph_weight a_p1_home a_p1_sum a_p1_link t_bestOver t_bestCut (va_cpy t_tried t_best (0 : Int32).toNatClampNeg (0 : Int32).toNatClampNeg (40 : Int32).toNatClampNeg) t_sum t_tried p1_cut p1_over p1_bounds_k p1_bounds_least p1_bounds_most p1_graph_size p1_graph_arcs p1_graph_weight) := hD
      refine lv_aload_n hx hb dd_Se_tryFrom_71 rfl (lv_at hl 0 rfl) ?_
      refine lv_iload hx hb dd_Se_tryFrom_72 (lv_at hl 2 rfl) ?_
      refine va_put (D := (dC, dI)) (ci := 5) (v := .int x5) (ty := .int) (C := rr_Se) (T := tt_Se) (N := 5) hx hb hts (fun w h => gwc (inn_Se w h)) tf_Se to_Se tn_Se hown hK hP hD hS 0 rfl rfl 3 (by decide) (hts _ (gwc gw_208)) (fun _ h9 => h9) rfl (by decide +kernel) rfl rfl (Nat.le_of_ble_eq_true rfl) dd_Se_tryFrom_74 (fun H locs hP hD hS => ?_)
      have hP : va_P (dC, dI) clsL (wd_Se_tryFrom cI cZ a_t a_t_best a_t_sum a_t_tried a_p1 a_p1_bounds a_p1_bounds_least a_p1_bounds_most a_p1_graph a_p1_graph_arcs a_p1_graph_weight a_p1_home a_p1_sum a_p1_link x5 t_bestCut (va_cpy t_tried t_best (0 : Int32).toNatClampNeg (0 : Int32).toNatClampNeg (40 : Int32).toNatClampNeg) t_sum t_tried p1_cut p1_over p1_bounds_k p1_bounds_least p1_bounds_most p1_graph_size p1_graph_arcs p1_graph_weight) H := hP
      have hD : va_D A (wd_Se_tryFrom cI cZ a_t a_t_best a_t_sum a_t_tried a_p1 a_p1_bounds a_p1_bounds_least a_p1_bounds_most a_p1_graph a_p1_graph_arcs a_p1_graph_weight a_p1_home a_p1_sum a_p1_link x5 t_bestCut (va_cpy t_tried t_best (0 : Int32).toNatClampNeg (0 : Int32).toNatClampNeg (40 : Int32).toNatClampNeg) t_sum t_tried p1_cut p1_over p1_bounds_k p1_bounds_least p1_bounds_most p1_graph_size p1_graph_arcs p1_graph_weight) := hD
      refine lv_aload_n hx hb dd_Se_tryFrom_77 rfl (lv_at hl 0 rfl) ?_
      refine lv_iload_n hx hb dd_Se_tryFrom_78 rfl (lv_at hl 1 rfl) ?_
      refine va_put (D := (dC, dI)) (ci := 5) (v := .int x3) (ty := .int) (C := rr_Se) (T := tt_Se) (N := 5) hx hb hts (fun w h => gwc (inn_Se w h)) tf_Se to_Se tn_Se hown hK hP hD hS 0 rfl rfl 4 (by decide) (hts _ (gwc gw_209)) (fun _ h9 => h9) rfl (by decide +kernel) rfl rfl (Nat.le_of_ble_eq_true rfl) dd_Se_tryFrom_79 (fun H locs hP hD hS => ?_)
      have hP : va_P (dC, dI) clsL (wd_Se_tryFrom cI cZ a_t a_t_best a_t_sum a_t_tried a_p1 a_p1_bounds a_p1_bounds_least a_p1_bounds_most a_p1_graph a_p1_graph_arcs a_p1_graph_weight a_p1_home a_p1_sum a_p1_link x5 x3 (va_cpy t_tried t_best (0 : Int32).toNatClampNeg (0 : Int32).toNatClampNeg (40 : Int32).toNatClampNeg) t_sum t_tried p1_cut p1_over p1_bounds_k p1_bounds_least p1_bounds_most p1_graph_size p1_graph_arcs p1_graph_weight) H := hP
      have hD : va_D A (wd_Se_tryFrom cI cZ a_t a_t_best a_t_sum a_t_tried a_p1 a_p1_bounds a_p1_bounds_least a_p1_bounds_most a_p1_graph a_p1_graph_arcs a_p1_graph_weight a_p1_home a_p1_sum a_p1_link x5 x3 (va_cpy t_tried t_best (0 : Int32).toNatClampNeg (0 : Int32).toNatClampNeg (40 : Int32).toNatClampNeg) t_sum t_tried p1_cut p1_over p1_bounds_k p1_bounds_least p1_bounds_most p1_graph_size p1_graph_arcs p1_graph_weight) := hD
      cases hf
      exact W.vret hx hb hr (fun t ht hW => ⟨⟨(), rfl, trivial, pst_of ht hP hD⟩, hS.F ht⟩) hS.2.2 dd_Se_tryFrom_82
    have h97 : ∀ (n97 : Nat) (x6 : Int32) (x7 : Int32) (t_bestOver : Int32) (t_bestCut : Int32) (t_best : Nat → Int32) (t_sum : Nat → Int32) (t_tried : Nat → Int32) (ls : Array Slot) (H : Heap) (locs : List Loc), L_Se_tryFrom_97 (f_Se_tryFrom d) x2 x3 x4 p1_bounds_k p1_bounds_least p1_bounds_most p1_graph_size p1_graph_arcs p1_graph_weight n97 x6 x7 t_bestOver t_bestCut t_best t_sum t_tried = some out → lv_has ls 8 [(0, .ref a_t), (1, .ref a_p1), (2, .int x2), (3, .int x3), (4, .int x4), (6, .int x6), (7, .int x7)] → va_P (dC, dI) clsL (wd_Se_tryFrom cI cZ a_t a_t_best a_t_sum a_t_tried a_p1 a_p1_bounds a_p1_bounds_least a_p1_bounds_most a_p1_graph a_p1_graph_arcs a_p1_graph_weight a_p1_home a_p1_sum a_p1_link t_bestOver t_bestCut t_best t_sum t_tried p1_cut p1_over p1_bounds_k p1_bounds_least p1_bounds_most p1_graph_size p1_graph_arcs p1_graph_weight) H → va_D A (wd_Se_tryFrom cI cZ a_t a_t_best a_t_sum a_t_tried a_p1 a_p1_bounds a_p1_bounds_least a_p1_bounds_most a_p1_graph a_p1_graph_arcs a_p1_graph_weight a_p1_home a_p1_sum a_p1_link t_bestOver t_bestCut t_best t_sum t_tried p1_cut p1_over p1_bounds_k p1_bounds_least p1_bounds_most p1_graph_size p1_graph_arcs p1_graph_weight) → va_S A s.heap H locs → W p l e (headSpec wq_Se_tryFrom (rmt_Se_tryFrom (d + 1))).room s m ([.ref a_t, .ref a_p1, .int x2, .int x3, .int x4] : List Value).toArray below meth c H locs 0 0 (MQ below (va_Qv (fun _ : Unit => True) (fun _ => pst (dC, dI) A (wd_Se_tryFrom cI cZ a_t a_t_best a_t_sum a_t_tried a_p1 a_p1_bounds a_p1_bounds_least a_p1_bounds_most a_p1_graph a_p1_graph_arcs a_p1_graph_weight a_p1_home a_p1_sum a_p1_link out.1 out.2.1 out.2.2.1 out.2.2.2.1 out.2.2.2.2 p1_cut p1_over p1_bounds_k p1_bounds_least p1_bounds_most p1_graph_size p1_graph_arcs p1_graph_weight)) A) ([.ref a_t, .ref a_p1, .int x2, .int x3, .int x4] : List Value).toArray s 0 0 A) (F0 m 97 ls []) := by
      intro n97
      induction n97 with
      | zero =>
        intro x6 x7 t_bestOver t_bestCut t_best t_sum t_tried ls H locs hf
        rw [L_Se_tryFrom_97] at hf
        exact absurd hf (fun h => by cases h)
      | succ n97 ih97 =>
        intro x6 x7 t_bestOver t_bestCut t_best t_sum t_tried ls H locs hf hl hP hD hS
        rw [L_Se_tryFrom_97] at hf
        refine lv_iload hx hb dd_Se_tryFrom_97 (lv_at hl 6 rfl) ?_
        refine lv_aload_n hx hb dd_Se_tryFrom_99 rfl (lv_at hl 1 rfl) ?_
        refine va_get (D := (dC, dI)) (ci := 7) (v := .ref a_p1_bounds) (C := rr_Sp) (T := tt_Sp) (N := 7) hx hb hts (fun w h => gwc (inn_Sp w h)) hown hK hP 4 rfl rfl 1 (by decide) (hts _ (gwc gw_139)) (fun _ h9 => h9) rfl dd_Se_tryFrom_100 ?_
        refine va_get (D := (dC, dI)) (ci := 0) (v := .int p1_bounds_k) (C := rr_Bo) (T := tt_Bo) (N := 3) hx hb hts (fun w h => gwc (inn_Bo w h)) hown hK hP 5 rfl rfl 0 (by decide) (hts _ (gwc gw_116)) (fun _ h9 => h9) rfl dd_Se_tryFrom_103 ?_
        refine lv_icmp_ge (tgt := 171) hx hb dd_Se_tryFrom_106 (by decide) (fun cc => ?_) (fun cc => ?_)
        · skip
          have hf := if_t cc hf
          cases hf
          exact W.vret hx hb hr (fun t ht hW => ⟨⟨(), rfl, trivial, pst_of ht hP hD⟩, hS.F ht⟩) hS.2.2 dd_Se_tryFrom_171
        · skip
          have hf := if_f cc hf
          refine lv_aload_n hx hb dd_Se_tryFrom_109 rfl (lv_at hl 0 rfl) ?_
          refine va_get (D := (dC, dI)) (ci := 5) (v := .ref a_t_tried) (C := rr_Se) (T := tt_Se) (N := 5) hx hb hts (fun w h => gwc (inn_Se w h)) hown hK hP 0 rfl rfl 0 (by decide) (hts _ (gwc gw_205)) (fun _ h9 => h9) rfl dd_Se_tryFrom_110 ?_
          refine lv_iload_n hx hb dd_Se_tryFrom_113 rfl (lv_at hl 2 rfl) ?_
          refine lv_iload hx hb dd_Se_tryFrom_114 (lv_at hl 6 rfl) ?_
          obtain ⟨k116, hf⟩ := ck_some hf
          refine va_iast hx hb hK hP hD hS 3 0 rfl rfl (okb_in k116) dd_Se_tryFrom_116 (fun H locs hP hD hS => ?_)
          have hP : va_P (dC, dI) clsL (wd_Se_tryFrom cI cZ a_t a_t_best a_t_sum a_t_tried a_p1 a_p1_bounds a_p1_bounds_least a_p1_bounds_most a_p1_graph a_p1_graph_arcs a_p1_graph_weight a_p1_home a_p1_sum a_p1_link t_bestOver t_bestCut t_best t_sum (upd t_tried (x2).toNatClampNeg x7) p1_cut p1_over p1_bounds_k p1_bounds_least p1_bounds_most p1_graph_size p1_graph_arcs p1_graph_weight) H := hP
          have hD : va_D A (wd_Se_tryFrom cI cZ a_t a_t_best a_t_sum a_t_tried a_p1 a_p1_bounds a_p1_bounds_least a_p1_bounds_most a_p1_graph a_p1_graph_arcs a_p1_graph_weight a_p1_home a_p1_sum a_p1_link t_bestOver t_bestCut t_best t_sum (upd t_tried (x2).toNatClampNeg x7) p1_cut p1_over p1_bounds_k p1_bounds_least p1_bounds_most p1_graph_size p1_graph_arcs p1_graph_weight) := hD
          refine lv_aload_n hx hb dd_Se_tryFrom_117 rfl (lv_at hl 0 rfl) ?_
          refine va_get (D := (dC, dI)) (ci := 5) (v := .ref a_t_sum) (C := rr_Se) (T := tt_Se) (N := 5) hx hb hts (fun w h => gwc (inn_Se w h)) hown hK hP 0 rfl rfl 2 (by decide) (hts _ (gwc gw_207)) (fun _ h9 => h9) rfl dd_Se_tryFrom_118 ?_
          refine lv_iload hx hb dd_Se_tryFrom_121 (lv_at hl 6 rfl) ?_
          refine lv_dup2_11 hx hb dd_Se_tryFrom_123 rfl rfl ?_
          obtain ⟨k124, hf⟩ := ck_some hf
          refine va_iald hx hb hK hP 2 0 rfl rfl (okb_in k124) dd_Se_tryFrom_124 ?_
          refine lv_iload hx hb dd_Se_tryFrom_125 (lv_at hl 5 rfl) ?_
          refine lv_iadd hx hb dd_Se_tryFrom_127 ?_
          obtain ⟨k128, hf⟩ := ck_some hf
          refine va_iast hx hb hK hP hD hS 2 0 rfl rfl (okb_in k128) dd_Se_tryFrom_128 (fun H locs hP hD hS => ?_)
          have hP : va_P (dC, dI) clsL (wd_Se_tryFrom cI cZ a_t a_t_best a_t_sum a_t_tried a_p1 a_p1_bounds a_p1_bounds_least a_p1_bounds_most a_p1_graph a_p1_graph_arcs a_p1_graph_weight a_p1_home a_p1_sum a_p1_link t_bestOver t_bestCut t_best (upd t_sum (x7).toNatClampNeg ((t_sum (x7).toNatClampNeg) + x6)) (upd t_tried (x2).toNatClampNeg x7) p1_cut p1_over p1_bounds_k p1_bounds_least p1_bounds_most p1_graph_size p1_graph_arcs p1_graph_weight) H := hP
          have hD : va_D A (wd_Se_tryFrom cI cZ a_t a_t_best a_t_sum a_t_tried a_p1 a_p1_bounds a_p1_bounds_least a_p1_bounds_most a_p1_graph a_p1_graph_arcs a_p1_graph_weight a_p1_home a_p1_sum a_p1_link t_bestOver t_bestCut t_best (upd t_sum (x7).toNatClampNeg ((t_sum (x7).toNatClampNeg) + x6)) (upd t_tried (x2).toNatClampNeg x7) p1_cut p1_over p1_bounds_k p1_bounds_least p1_bounds_most p1_graph_size p1_graph_arcs p1_graph_weight) := hD
          refine lv_aload_n hx hb dd_Se_tryFrom_129 rfl (lv_at hl 0 rfl) ?_
          refine lv_aload_n hx hb dd_Se_tryFrom_130 rfl (lv_at hl 1 rfl) ?_
          refine lv_iload_n hx hb dd_Se_tryFrom_131 rfl (lv_at hl 2 rfl) ?_
          refine lv_iconst (v := 1) hx hb dd_Se_tryFrom_132 (by decide) ?_
          refine lv_iadd hx hb dd_Se_tryFrom_133 ?_
          refine lv_iload_n hx hb dd_Se_tryFrom_134 rfl (lv_at hl 3 rfl) ?_
          refine lv_aload_n hx hb dd_Se_tryFrom_135 rfl (lv_at hl 0 rfl) ?_
          refine lv_aload_n hx hb dd_Se_tryFrom_136 rfl (lv_at hl 1 rfl) ?_
          refine va_get (D := (dC, dI)) (ci := 7) (v := .ref a_p1_graph) (C := rr_Sp) (T := tt_Sp) (N := 7) hx hb hts (fun w h => gwc (inn_Sp w h)) hown hK hP 4 rfl rfl 0 (by decide) (hts _ (gwc gw_136)) (fun _ h9 => h9) rfl dd_Se_tryFrom_137 ?_
          refine lv_iload_n hx hb dd_Se_tryFrom_140 rfl (lv_at hl 2 rfl) ?_
          obtain ⟨r141, hr141, hf⟩ := bind_some hf
          refine xcalli (rest := [.int x3, .int (x2 + 1), .ref a_p1, .ref a_t]) (wc := (wd_Se_cutBehind cI cZ a_t a_t_tried a_p1_graph a_p1_graph_arcs a_t_best a_t_sum a_p1_graph_weight t_bestOver t_bestCut (upd t_tried (x2).toNatClampNeg x7) p1_graph_size p1_graph_arcs)) (w1 := (wd_Se_cutBehind cI cZ a_t a_t_tried a_p1_graph a_p1_graph_arcs a_t_best a_t_sum a_p1_graph_weight t_bestOver t_bestCut (upd t_tried (x2).toNatClampNeg x7) p1_graph_size p1_graph_arcs)) (wr := [(a_t_best, .inl (cI, 40, .inl t_best)), (a_t_sum, .inl (cI, 4, .inl (upd t_sum (x7).toNatClampNeg ((t_sum (x7).toNatClampNeg) + x6)))), (a_p1, .inr (7, [.ref a_p1_graph, .ref a_p1_bounds, .ref a_p1_home, .ref a_p1_sum, .ref a_p1_link, .int p1_cut, .int p1_over])), (a_p1_bounds, .inr (0, [.int p1_bounds_k, .ref a_p1_bounds_least, .ref a_p1_bounds_most])), (a_p1_bounds_least, .inl (cI, 4, .inl p1_bounds_least)), (a_p1_bounds_most, .inl (cI, 4, .inl p1_bounds_most)), (a_p1_graph_weight, .inl (cI, 40, .inl p1_graph_weight))]) (ws' := (wd_Se_tryFrom cI cZ a_t a_t_best a_t_sum a_t_tried a_p1 a_p1_bounds a_p1_bounds_least a_p1_bounds_most a_p1_graph a_p1_graph_arcs a_p1_graph_weight a_p1_home a_p1_sum a_p1_link t_bestOver t_bestCut t_best (upd t_sum (x7).toNatClampNeg ((t_sum (x7).toNatClampNeg) + x6)) (upd t_tried (x2).toNatClampNeg x7) p1_cut p1_over p1_bounds_k p1_bounds_least p1_bounds_most p1_graph_size p1_graph_arcs p1_graph_weight)) (va_runV (As := [.ref a_p1_graph, .int x2]) ⟨hx, hb, hml, hown, hts⟩ (c_Se_cutBehind l dC dI cI cZ a_t a_t_tried a_p1_graph a_p1_graph_arcs a_t_best a_t_sum a_p1_graph_weight H.size x2 t_bestOver t_bestCut (upd t_tried (x2).toNatClampNeg x7) p1_graph_size p1_graph_arcs r141 hr141) (cwV 2 hts (gV gw_515 gw_517 gw_10 gw_57 gw_518) rfl rfl rfl (yd_Se_cutBehind) ⟨by show 1 + 1 ≤ 2 + (d + 1); omega, by show 8 + (5 + 11) + 22 ≤ 85 + (d + 1) * 27; omega⟩) (mkV hK (hP.sub (ws' := (wd_Se_cutBehind cI cZ a_t a_t_tried a_p1_graph a_p1_graph_arcs a_t_best a_t_sum a_p1_graph_weight t_bestOver t_bestCut (upd t_tried (x2).toNatClampNeg x7) p1_graph_size p1_graph_arcs)) [0, 3, 8, 9] rfl) (hD.sub (ws' := (wd_Se_cutBehind cI cZ a_t a_t_tried a_p1_graph a_p1_graph_arcs a_t_best a_t_sum a_p1_graph_weight t_bestOver t_bestCut (upd t_tried (x2).toNatClampNeg x7) p1_graph_size p1_graph_arcs)) [0, 3, 8, 9] (by decide) rfl) hN (va_recv hK hP (ci := 5) (q0 := 0) rfl rfl)) rfl rfl hl.1 rfl (lv_room (Nat.le_of_ble_eq_true rfl)) dd_Se_tryFrom_141 ⟨Nat.zero_le _, Nat.zero_le _⟩) hP hD hS hA [0, 3, 8, 9] [1, 2, 4, 5, 6, 7, 10] [7, 0, 1, 8, 2, 3, 4, 5, 9, 10, 6] rfl rfl (by decide) (by decide) rfl (by decide) rfl (fun H locs hP hD hS => ?_)
          refine lv_iadd hx hb dd_Se_tryFrom_144 ?_
          refine lv_iload hx hb dd_Se_tryFrom_145 (lv_at hl 4 rfl) ?_
          refine lv_iload hx hb dd_Se_tryFrom_147 (lv_at hl 5 rfl) ?_
          refine lv_isub hx hb dd_Se_tryFrom_149 ?_
          obtain ⟨r150, hr150, hf⟩ := bind_some hf
          refine xcallv (rest := []) (wc := (wd_Se_tryFrom cI cZ a_t a_t_best a_t_sum a_t_tried a_p1 a_p1_bounds a_p1_bounds_least a_p1_bounds_most a_p1_graph a_p1_graph_arcs a_p1_graph_weight a_p1_home a_p1_sum a_p1_link t_bestOver t_bestCut t_best (upd t_sum (x7).toNatClampNeg ((t_sum (x7).toNatClampNeg) + x6)) (upd t_tried (x2).toNatClampNeg x7) p1_cut p1_over p1_bounds_k p1_bounds_least p1_bounds_most p1_graph_size p1_graph_arcs p1_graph_weight)) (w1 := (wd_Se_tryFrom cI cZ a_t a_t_best a_t_sum a_t_tried a_p1 a_p1_bounds a_p1_bounds_least a_p1_bounds_most a_p1_graph a_p1_graph_arcs a_p1_graph_weight a_p1_home a_p1_sum a_p1_link r150.1 r150.2.1 r150.2.2.1 r150.2.2.2.1 r150.2.2.2.2 p1_cut p1_over p1_bounds_k p1_bounds_least p1_bounds_most p1_graph_size p1_graph_arcs p1_graph_weight)) (wr := []) (ws' := (wd_Se_tryFrom cI cZ a_t a_t_best a_t_sum a_t_tried a_p1 a_p1_bounds a_p1_bounds_least a_p1_bounds_most a_p1_graph a_p1_graph_arcs a_p1_graph_weight a_p1_home a_p1_sum a_p1_link r150.1 r150.2.1 r150.2.2.1 r150.2.2.2.1 r150.2.2.2.2 p1_cut p1_over p1_bounds_k p1_bounds_least p1_bounds_most p1_graph_size p1_graph_arcs p1_graph_weight)) (va_runV (As := [.ref a_p1, .int (x2 + 1), .int (x3 + r141), .int (x4 - x6)]) ⟨hx, hb, hml, hown, hts⟩ (ihd H.size (x2 + 1) (x3 + r141) (x4 - x6) t_bestOver t_bestCut t_best (upd t_sum (x7).toNatClampNeg ((t_sum (x7).toNatClampNeg) + x6)) (upd t_tried (x2).toNatClampNeg x7) p1_cut p1_over p1_bounds_k p1_bounds_least p1_bounds_most p1_graph_size p1_graph_arcs p1_graph_weight r150 hr150) (cwV 4 hts (gV gw_503 gw_505 gw_8 gw_57 gw_506) rfl rfl rfl (yd_Se_tryFrom) ⟨by show (2 + d) + 1 ≤ 2 + (d + 1); omega, by show 8 + (8 + 11) + (85 + d * 27) ≤ 85 + (d + 1) * 27; omega⟩) (mkV hK (hP.sub (ws' := (wd_Se_tryFrom cI cZ a_t a_t_best a_t_sum a_t_tried a_p1 a_p1_bounds a_p1_bounds_least a_p1_bounds_most a_p1_graph a_p1_graph_arcs a_p1_graph_weight a_p1_home a_p1_sum a_p1_link t_bestOver t_bestCut t_best (upd t_sum (x7).toNatClampNeg ((t_sum (x7).toNatClampNeg) + x6)) (upd t_tried (x2).toNatClampNeg x7) p1_cut p1_over p1_bounds_k p1_bounds_least p1_bounds_most p1_graph_size p1_graph_arcs p1_graph_weight)) [0, 1, 2, 3, 4, 5, 6, 7, 8, 9, 10] rfl) (hD.sub (ws' := (wd_Se_tryFrom cI cZ a_t a_t_best a_t_sum a_t_tried a_p1 a_p1_bounds a_p1_bounds_least a_p1_bounds_most a_p1_graph a_p1_graph_arcs a_p1_graph_weight a_p1_home a_p1_sum a_p1_link t_bestOver t_bestCut t_best (upd t_sum (x7).toNatClampNeg ((t_sum (x7).toNatClampNeg) + x6)) (upd t_tried (x2).toNatClampNeg x7) p1_cut p1_over p1_bounds_k p1_bounds_least p1_bounds_most p1_graph_size p1_graph_arcs p1_graph_weight)) [0, 1, 2, 3, 4, 5, 6, 7, 8, 9, 10] (by decide) rfl) hN (va_recv hK hP (ci := 5) (q0 := 0) rfl rfl)) rfl rfl hl.1 rfl (lv_room (Nat.le_of_ble_eq_true rfl)) dd_Se_tryFrom_150 ⟨Nat.zero_le _, Nat.zero_le _⟩) hP hD hS hA [0, 1, 2, 3, 4, 5, 6, 7, 8, 9, 10] [] [0, 1, 2, 3, 4, 5, 6, 7, 8, 9, 10] rfl rfl (by decide) (by decide) rfl (by decide) rfl (fun H locs hP hD hS => ?_)
          refine lv_aload_n hx hb dd_Se_tryFrom_153 rfl (lv_at hl 0 rfl) ?_
          refine va_get (D := (dC, dI)) (ci := 5) (v := .ref a_t_sum) (C := rr_Se) (T := tt_Se) (N := 5) hx hb hts (fun w h => gwc (inn_Se w h)) hown hK hP 0 rfl rfl 2 (by decide) (hts _ (gwc gw_207)) (fun _ h9 => h9) rfl dd_Se_tryFrom_154 ?_
          refine lv_iload hx hb dd_Se_tryFrom_157 (lv_at hl 6 rfl) ?_
          refine lv_dup2_11 hx hb dd_Se_tryFrom_159 rfl rfl ?_
          obtain ⟨k160, hf⟩ := ck_some hf
          refine va_iald hx hb hK hP 2 0 rfl rfl (okb_in k160) dd_Se_tryFrom_160 ?_
          refine lv_iload hx hb dd_Se_tryFrom_161 (lv_at hl 5 rfl) ?_
          refine lv_isub hx hb dd_Se_tryFrom_163 ?_
          obtain ⟨k164, hf⟩ := ck_some hf
          refine va_iast hx hb hK hP hD hS 2 0 rfl rfl (okb_in k164) dd_Se_tryFrom_164 (fun H locs hP hD hS => ?_)
          have hP : va_P (dC, dI) clsL (wd_Se_tryFrom cI cZ a_t a_t_best a_t_sum a_t_tried a_p1 a_p1_bounds a_p1_bounds_least a_p1_bounds_most a_p1_graph a_p1_graph_arcs a_p1_graph_weight a_p1_home a_p1_sum a_p1_link r150.1 r150.2.1 r150.2.2.1 (upd r150.2.2.2.1 (x7).toNatClampNeg ((r150.2.2.2.1 (x7).toNatClampNeg) - x6)) r150.2.2.2.2 p1_cut p1_over p1_bounds_k p1_bounds_least p1_bounds_most p1_graph_size p1_graph_arcs p1_graph_weight) H := hP
          have hD : va_D A (wd_Se_tryFrom cI cZ a_t a_t_best a_t_sum a_t_tried a_p1 a_p1_bounds a_p1_bounds_least a_p1_bounds_most a_p1_graph a_p1_graph_arcs a_p1_graph_weight a_p1_home a_p1_sum a_p1_link r150.1 r150.2.1 r150.2.2.1 (upd r150.2.2.2.1 (x7).toNatClampNeg ((r150.2.2.2.1 (x7).toNatClampNeg) - x6)) r150.2.2.2.2 p1_cut p1_over p1_bounds_k p1_bounds_least p1_bounds_most p1_graph_size p1_graph_arcs p1_graph_weight) := hD
          refine lv_iinc (v := x7 + 1) (lv' := [(7, .int (x7 + 1)), (0, .ref a_t), (1, .ref a_p1), (2, .int x2), (3, .int x3), (4, .int x4), (6, .int x6)]) hx hb dd_Se_tryFrom_165 hl (k := 6) rfl rfl (by decide) rfl (fun ls hl => ?_)
          refine lv_goto (tgt := 97) hx hb dd_Se_tryFrom_168 (by decide) ?_
          exact ih97 x6 (x7 + 1) r150.1 r150.2.1 r150.2.2.1 (upd r150.2.2.2.1 (x7).toNatClampNeg ((r150.2.2.2.1 (x7).toNatClampNeg) - x6)) r150.2.2.2.2 _ _ _ hf (lv_sub hl [1, 2, 3, 4, 5, 6, 0] rfl) hP hD hS
    refine lv_iload_n hx hb dd_Se_tryFrom_39 rfl (lv_at hl 2 rfl) ?_
    refine lv_aload_n hx hb dd_Se_tryFrom_40 rfl (lv_at hl 1 rfl) ?_
    refine va_get (D := (dC, dI)) (ci := 7) (v := .ref a_p1_graph) (C := rr_Sp) (T := tt_Sp) (N := 7) hx hb hts (fun w h => gwc (inn_Sp w h)) hown hK hP 4 rfl rfl 0 (by decide) (hts _ (gwc gw_136)) (fun _ h9 => h9) rfl dd_Se_tryFrom_41 ?_
    refine va_get (D := (dC, dI)) (ci := 1) (v := .int p1_graph_size) (C := rr_Gr) (T := tt_Gr) (N := 3) hx hb hts (fun w h => gwc (inn_Gr w h)) hown hK hP 8 rfl rfl 0 (by decide) (hts _ (gwc gw_89)) (fun _ h9 => h9) rfl dd_Se_tryFrom_44 ?_
    refine lv_icmp_ge (tgt := 56) hx hb dd_Se_tryFrom_47 (by decide) (fun cc => ?_) (fun cc => ?_)
    · skip
      have hf := if_t cc hf
      exact h56 x5 _ _ _ hf (lv_sub hl [0, 3, 5] rfl) hP hD hS
    · skip
      have hf := if_f cc hf
      refine lv_iload_n hx hb dd_Se_tryFrom_50 rfl (lv_at hl 2 rfl) ?_
      refine lv_bipush (v := 16) hx hb dd_Se_tryFrom_51 (by decide) ?_
      refine lv_icmp_lt (tgt := 83) hx hb dd_Se_tryFrom_53 (by decide) (fun cc => ?_) (fun cc => ?_)
      · skip
        have hf := if_t cc hf
        refine lv_aload_n hx hb dd_Se_tryFrom_83 rfl (lv_at hl 1 rfl) ?_
        refine va_get (D := (dC, dI)) (ci := 7) (v := .ref a_p1_graph) (C := rr_Sp) (T := tt_Sp) (N := 7) hx hb hts (fun w h => gwc (inn_Sp w h)) hown hK hP 4 rfl rfl 0 (by decide) (hts _ (gwc gw_136)) (fun _ h9 => h9) rfl dd_Se_tryFrom_84 ?_
        refine va_get (D := (dC, dI)) (ci := 1) (v := .ref a_p1_graph_weight) (C := rr_Gr) (T := tt_Gr) (N := 3) hx hb hts (fun w h => gwc (inn_Gr w h)) hown hK hP 8 rfl rfl 1 (by decide) (hts _ (gwc gw_95)) (fun _ h9 => h9) rfl dd_Se_tryFrom_87 ?_
        refine lv_iload_n hx hb dd_Se_tryFrom_90 rfl (lv_at hl 2 rfl) ?_
        obtain ⟨k91, hf⟩ := ck_some hf
        refine va_iald hx hb hK hP 10 0 rfl rfl (okb_in k91) dd_Se_tryFrom_91 ?_
        refine lv_istore (lv' := [(6, .int (p1_graph_weight (x2).toNatClampNeg)), (0, .ref a_t), (1, .ref a_p1), (2, .int x2), (3, .int x3), (4, .int x4), (5, .int x5)]) hx hb dd_Se_tryFrom_92 hl (by decide) rfl (fun ls hl => ?_)
        refine lv_iconst (v := 0) hx hb dd_Se_tryFrom_94 (by decide) ?_
        refine lv_istore (lv' := [(7, .int 0), (6, .int (p1_graph_weight (x2).toNatClampNeg)), (0, .ref a_t), (1, .ref a_p1), (2, .int x2), (3, .int x3), (4, .int x4), (5, .int x5)]) hx hb dd_Se_tryFrom_95 hl (by decide) rfl (fun ls hl => ?_)
        exact h97 64 (p1_graph_weight (x2).toNatClampNeg) 0 t_bestOver t_bestCut t_best t_sum t_tried _ _ _ hf (lv_sub hl [2, 3, 4, 5, 6, 1, 0] rfl) hP hD hS
      · skip
        have hf := if_f cc hf
        exact h56 x5 _ _ _ hf (lv_sub hl [0, 3, 5] rfl) hP hD hS
  refine lv_aload_n hx hb dd_Se_tryFrom_0 rfl (lv_at hl 0 rfl) ?_
  refine lv_aload_n hx hb dd_Se_tryFrom_1 rfl (lv_at hl 1 rfl) ?_
  refine va_get (D := (dC, dI)) (ci := 7) (v := .ref a_p1_bounds) (C := rr_Sp) (T := tt_Sp) (N := 7) hx hb hts (fun w h => gwc (inn_Sp w h)) hown hK hP 4 rfl rfl 1 (by decide) (hts _ (gwc gw_139)) (fun _ h9 => h9) rfl dd_Se_tryFrom_2 ?_
  refine lv_iload hx hb dd_Se_tryFrom_5 (lv_at hl 4 rfl) ?_
  obtain ⟨r7, hr7, hf⟩ := bind_some hf
  refine xcalli (rest := []) (wc := (wd_Se_leastOver cI cZ a_t a_t_sum a_p1_bounds a_p1_bounds_least a_p1_bounds_most a_t_tried a_t_best t_bestOver t_bestCut t_sum p1_bounds_k p1_bounds_least p1_bounds_most)) (w1 := (wd_Se_leastOver cI cZ a_t a_t_sum a_p1_bounds a_p1_bounds_least a_p1_bounds_most a_t_tried a_t_best t_bestOver t_bestCut t_sum p1_bounds_k p1_bounds_least p1_bounds_most)) (wr := [(a_t_best, .inl (cI, 40, .inl t_best)), (a_t_tried, .inl (cI, 40, .inl t_tried)), (a_p1, .inr (7, [.ref a_p1_graph, .ref a_p1_bounds, .ref a_p1_home, .ref a_p1_sum, .ref a_p1_link, .int p1_cut, .int p1_over])), (a_p1_graph, .inr (1, [.int p1_graph_size, .ref a_p1_graph_weight, .ref a_p1_graph_arcs])), (a_p1_graph_arcs, .inl (cI, 1600, .inl p1_graph_arcs)), (a_p1_graph_weight, .inl (cI, 40, .inl p1_graph_weight))]) (ws' := (wd_Se_tryFrom cI cZ a_t a_t_best a_t_sum a_t_tried a_p1 a_p1_bounds a_p1_bounds_least a_p1_bounds_most a_p1_graph a_p1_graph_arcs a_p1_graph_weight a_p1_home a_p1_sum a_p1_link t_bestOver t_bestCut t_best t_sum t_tried p1_cut p1_over p1_bounds_k p1_bounds_least p1_bounds_most p1_graph_size p1_graph_arcs p1_graph_weight)) (va_runV (As := [.ref a_p1_bounds, .int x4]) ⟨hx, hb, hml, hown, hts⟩ (c_Se_leastOver l dC dI cI cZ a_t a_t_sum a_p1_bounds a_p1_bounds_least a_p1_bounds_most a_t_tried a_t_best H.size x4 t_bestOver t_bestCut t_sum p1_bounds_k p1_bounds_least p1_bounds_most r7 hr7) (cwV 2 hts (gV gw_507 gw_509 gw_9 gw_57 gw_510) rfl rfl rfl (yd_Se_leastOver) ⟨by show 1 + 1 ≤ 2 + (d + 1); omega, by show 8 + (6 + 11) + 60 ≤ 85 + (d + 1) * 27; omega⟩) (mkV hK (hP.sub (ws' := (wd_Se_leastOver cI cZ a_t a_t_sum a_p1_bounds a_p1_bounds_least a_p1_bounds_most a_t_tried a_t_best t_bestOver t_bestCut t_sum p1_bounds_k p1_bounds_least p1_bounds_most)) [0, 2, 5, 6, 7] rfl) (hD.sub (ws' := (wd_Se_leastOver cI cZ a_t a_t_sum a_p1_bounds a_p1_bounds_least a_p1_bounds_most a_t_tried a_t_best t_bestOver t_bestCut t_sum p1_bounds_k p1_bounds_least p1_bounds_most)) [0, 2, 5, 6, 7] (by decide) rfl) hN (va_recv hK hP (ci := 5) (q0 := 0) rfl rfl)) rfl rfl hl.1 rfl (lv_room (Nat.le_of_ble_eq_true rfl)) dd_Se_tryFrom_7 ⟨Nat.zero_le _, Nat.zero_le _⟩) hP hD hS hA [0, 2, 5, 6, 7] [1, 3, 4, 8, 9, 10] [6, 0, 7, 1, 2, 8, 9, 10, 3, 4, 5] rfl rfl (by decide) (by decide) rfl (by decide) rfl (fun H locs hP hD hS => ?_)
  refine lv_istore (lv' := [(5, .int r7), (0, .ref a_t), (1, .ref a_p1), (2, .int x2), (3, .int x3), (4, .int x4)]) hx hb dd_Se_tryFrom_10 hl (by decide) rfl (fun ls hl => ?_)
  refine lv_iload hx hb dd_Se_tryFrom_12 (lv_at hl 0 rfl) ?_
  refine lv_aload_n hx hb dd_Se_tryFrom_14 rfl (lv_at hl 1 rfl) ?_
  refine va_get (D := (dC, dI)) (ci := 5) (v := .int t_bestOver) (C := rr_Se) (T := tt_Se) (N := 5) hx hb hts (fun w h => gwc (inn_Se w h)) hown hK hP 0 rfl rfl 3 (by decide) (hts _ (gwc gw_208)) (fun _ h9 => h9) rfl dd_Se_tryFrom_15 ?_
  refine lv_icmp_gt (tgt := 38) hx hb dd_Se_tryFrom_18 (by decide) (fun cc => ?_) (fun cc => ?_)
  · skip
    have hf := if_t cc hf
    cases hf
    exact W.vret hx hb hr (fun t ht hW => ⟨⟨(), rfl, trivial, pst_of ht hP hD⟩, hS.F ht⟩) hS.2.2 dd_Se_tryFrom_38
  · skip
    have hf := if_f cc hf
    refine lv_iload hx hb dd_Se_tryFrom_21 (lv_at hl 0 rfl) ?_
    refine lv_aload_n hx hb dd_Se_tryFrom_23 rfl (lv_at hl 1 rfl) ?_
    refine va_get (D := (dC, dI)) (ci := 5) (v := .int t_bestOver) (C := rr_Se) (T := tt_Se) (N := 5) hx hb hts (fun w h => gwc (inn_Se w h)) hown hK hP 0 rfl rfl 3 (by decide) (hts _ (gwc gw_208)) (fun _ h9 => h9) rfl dd_Se_tryFrom_24 ?_
    refine lv_icmp_ne (tgt := 39) hx hb dd_Se_tryFrom_27 (by decide) (fun cc => ?_) (fun cc => ?_)
    · skip
      have hf := if_f cc hf
      exact h39 r7 _ _ _ hf (lv_sub hl [1, 2, 3, 4, 5, 0] rfl) hP hD hS
    · skip
      have hf := if_t cc hf
      refine lv_iload_n hx hb dd_Se_tryFrom_30 rfl (lv_at hl 4 rfl) ?_
      refine lv_aload_n hx hb dd_Se_tryFrom_31 rfl (lv_at hl 1 rfl) ?_
      refine va_get (D := (dC, dI)) (ci := 5) (v := .int t_bestCut) (C := rr_Se) (T := tt_Se) (N := 5) hx hb hts (fun w h => gwc (inn_Se w h)) hown hK hP 0 rfl rfl 4 (by decide) (hts _ (gwc gw_209)) (fun _ h9 => h9) rfl dd_Se_tryFrom_32 ?_
      refine lv_icmp_lt (tgt := 39) hx hb dd_Se_tryFrom_35 (by decide) (fun cc => ?_) (fun cc => ?_)
      · skip
        have hf := if_t cc hf
        exact h39 r7 _ _ _ hf (lv_sub hl [1, 2, 3, 4, 5, 0] rfl) hP hD hS
      · skip
        have hf := if_f cc hf
        cases hf
        exact W.vret hx hb hr (fun t ht hW => ⟨⟨(), rfl, trivial, pst_of ht hP hD⟩, hS.F ht⟩) hS.2.2 dd_Se_tryFrom_38
abbrev wd_Se_findBest (cI cZ : ClassId) (a_t a_t_best a_t_sum a_t_tried a_p1 a_p1_bounds a_p1_bounds_least a_p1_bounds_most a_p1_graph a_p1_graph_arcs a_p1_graph_weight a_p1_home a_p1_sum a_p1_link : Nat) (t_bestOver : Int32) (t_bestCut : Int32) (t_best : Nat → Int32) (t_sum : Nat → Int32) (t_tried : Nat → Int32) (p1_cut : Int32) (p1_over : Int32) (p1_bounds_k : Int32) (p1_bounds_least : Nat → Int32) (p1_bounds_most : Nat → Int32) (p1_graph_size : Int32) (p1_graph_arcs : Nat → Int32) (p1_graph_weight : Nat → Int32) (p1_home : Nat → Int32) : va_W := [(a_t, .inr (5, [.ref a_t_tried, .ref a_t_best, .ref a_t_sum, .int t_bestOver, .int t_bestCut])), (a_t_best, .inl (cI, 40, .inl t_best)), (a_t_sum, .inl (cI, 4, .inl t_sum)), (a_t_tried, .inl (cI, 40, .inl t_tried)), (a_p1, .inr (7, [.ref a_p1_graph, .ref a_p1_bounds, .ref a_p1_home, .ref a_p1_sum, .ref a_p1_link, .int p1_cut, .int p1_over])), (a_p1_bounds, .inr (0, [.int p1_bounds_k, .ref a_p1_bounds_least, .ref a_p1_bounds_most])), (a_p1_bounds_least, .inl (cI, 4, .inl p1_bounds_least)), (a_p1_bounds_most, .inl (cI, 4, .inl p1_bounds_most)), (a_p1_graph, .inr (1, [.int p1_graph_size, .ref a_p1_graph_weight, .ref a_p1_graph_arcs])), (a_p1_graph_arcs, .inl (cI, 1600, .inl p1_graph_arcs)), (a_p1_graph_weight, .inl (cI, 40, .inl p1_graph_weight)), (a_p1_home, .inl (cI, 40, .inl p1_home))]
set_option maxRecDepth 100000 in
set_option maxHeartbeats 4000000 in
theorem c_Se_findBest (l : Launch) (dC : Nat → ClassId) (dI : Nat → Nat → Nat) (cI cZ : ClassId) (a_t a_t_best a_t_sum a_t_tried a_p1 a_p1_bounds a_p1_bounds_least a_p1_bounds_most a_p1_graph a_p1_graph_arcs a_p1_graph_weight a_p1_home a_p1_sum a_p1_link sz : Nat) (t_bestOver : Int32) (t_bestCut : Int32) (t_best : Nat → Int32) (t_sum : Nat → Int32) (t_tried : Nat → Int32) (p1_cut : Int32) (p1_over : Int32) (p1_bounds_k : Int32) (p1_bounds_least : Nat → Int32) (p1_bounds_most : Nat → Int32) (p1_graph_size : Int32) (p1_graph_arcs : Nat → Int32) (p1_graph_weight : Nat → Int32) (p1_home : Nat → Int32) (out : Int32 × Int32 × (Nat → Int32) × (Nat → Int32) × (Nat → Int32) × (Nat → Int32)) (hf : f_Se_findBest t_best t_tried p1_bounds_k p1_bounds_least p1_bounds_most p1_graph_size p1_graph_arcs p1_graph_weight p1_home = some out) :
    Met l yy_Se_findBest wq_Se_findBest ({ frames := 23, cells := 0, slots := 0, locals := 652 }) (va_Pc ([.ref a_t, .ref a_p1] : List Value) (pre_ (dC, dI) cI cZ sz (wd_Se_findBest cI cZ a_t a_t_best a_t_sum a_t_tried a_p1 a_p1_bounds a_p1_bounds_least a_p1_bounds_most a_p1_graph a_p1_graph_arcs a_p1_graph_weight a_p1_home a_p1_sum a_p1_link t_bestOver t_bestCut t_best t_sum t_tried p1_cut p1_over p1_bounds_k p1_bounds_least p1_bounds_most p1_graph_size p1_graph_arcs p1_graph_weight p1_home))) (va_Qv (fun _ : Unit => True) (fun _ => pst (dC, dI) (va_A (wd_Se_findBest cI cZ a_t a_t_best a_t_sum a_t_tried a_p1 a_p1_bounds a_p1_bounds_least a_p1_bounds_most a_p1_graph a_p1_graph_arcs a_p1_graph_weight a_p1_home a_p1_sum a_p1_link t_bestOver t_bestCut t_best t_sum t_tried p1_cut p1_over p1_bounds_k p1_bounds_least p1_bounds_most p1_graph_size p1_graph_arcs p1_graph_weight p1_home) sz) (wd_Se_findBest cI cZ a_t a_t_best a_t_sum a_t_tried a_p1 a_p1_bounds a_p1_bounds_least a_p1_bounds_most a_p1_graph a_p1_graph_arcs a_p1_graph_weight a_p1_home a_p1_sum a_p1_link out.1 out.2.1 out.2.2.1 out.2.2.2.1 out.2.2.2.2.1 p1_cut p1_over p1_bounds_k p1_bounds_least p1_bounds_most p1_graph_size p1_graph_arcs p1_graph_weight out.2.2.2.2.2)) (va_A (wd_Se_findBest cI cZ a_t a_t_best a_t_sum a_t_tried a_p1 a_p1_bounds a_p1_bounds_least a_p1_bounds_most a_p1_graph a_p1_graph_arcs a_p1_graph_weight a_p1_home a_p1_sum a_p1_link t_bestOver t_bestCut t_best t_sum t_tried p1_cut p1_over p1_bounds_k p1_bounds_least p1_bounds_most p1_graph_size p1_graph_arcs p1_graph_weight p1_home) sz)) 0 0 (va_A (wd_Se_findBest cI cZ a_t a_t_best a_t_sum a_t_tried a_p1 a_p1_bounds a_p1_bounds_least a_p1_bounds_most a_p1_graph a_p1_graph_arcs a_p1_graph_weight a_p1_home a_p1_sum a_p1_link t_bestOver t_bestCut t_best t_sum t_tried p1_cut p1_over p1_bounds_k p1_bounds_least p1_bounds_most p1_graph_size p1_graph_arcs p1_graph_weight p1_home) sz) := by
  refine Met.ofW (cc := cc_Se_findBest) (maxL := 2) (ret := none) (by decide) rfl ?_
  intro p e s m args below meth c s₁ B hml hv
  obtain ⟨rfl, hsz, hP, hK, hD0, hN⟩ := hv
  have hx := B.exec
  have hb := B.bytes
  have hr := B.returns
  have hts := atoms_spec (ws := wq_Se_findBest) B.pre
  have hown : s.vm.findClass rr_Se = some m.cls := findClass_of_methodNamed B.named
  have hlocks := B.notSynchronized
  subst hsz
  have hD := hD0.self (sz := s.heap.size)
  generalize hAe : va_A (wd_Se_findBest cI cZ a_t a_t_best a_t_sum a_t_tried a_p1 a_p1_bounds a_p1_bounds_least a_p1_bounds_most a_p1_graph a_p1_graph_arcs a_p1_graph_weight a_p1_home a_p1_sum a_p1_link t_bestOver t_bestCut t_best t_sum t_tried p1_cut p1_over p1_bounds_k p1_bounds_least p1_bounds_most p1_graph_size p1_graph_arcs p1_graph_weight p1_home) s.heap.size = A at hD ⊢
  have hA : ∀ q : Nat, s.heap.size ≤ q → A q := fun q h => by rw [← hAe]; exact Or.inr h
  obtain ⟨H, hH⟩ : ∃ H : Heap, H = s.heap := ⟨_, rfl⟩
  have hS : va_S A s.heap H [] := by rw [hH]; exact va_S.rf
  have hl := lv_entry (([.ref a_t, .ref a_p1] : List Value)) (n := 2) (Nat.le_of_ble_eq_true rfl)
  rw [lg_entry_eq]
  generalize (lg_sl (([.ref a_t, .ref a_p1] : List Value)) ++ List.replicate (2 - (lg_sl (([.ref a_t, .ref a_p1] : List Value))).length) Slot.unset).toArray = ls at hl ⊢
  have hl : lv_has ls 2 [(0, .ref a_t), (1, .ref a_p1)] := hl
  rw [← hH] at hP ⊢
  have hP : va_P (dC, dI) clsL (wd_Se_findBest cI cZ a_t a_t_best a_t_sum a_t_tried a_p1 a_p1_bounds a_p1_bounds_least a_p1_bounds_most a_p1_graph a_p1_graph_arcs a_p1_graph_weight a_p1_home a_p1_sum a_p1_link t_bestOver t_bestCut t_best t_sum t_tried p1_cut p1_over p1_bounds_k p1_bounds_least p1_bounds_most p1_graph_size p1_graph_arcs p1_graph_weight p1_home) H := hP
  unfold f_Se_findBest at hf
  refine lv_aload_n hx hb dd_Se_findBest_0 rfl (lv_at hl 0 rfl) ?_
  refine va_get (D := (dC, dI)) (ci := 5) (v := .ref a_t_sum) (C := rr_Se) (T := tt_Se) (N := 5) hx hb hts (fun w h => gwc (inn_Se w h)) hown hK hP 0 rfl rfl 2 (by decide) (hts _ (gwc gw_207)) (fun _ h9 => h9) rfl dd_Se_findBest_1 ?_
  refine lv_iconst (v := 0) hx hb dd_Se_findBest_4 (by decide) ?_
  refine xcallv (rest := []) (wc := [(a_t_sum, .inl (cI, 4, .inl t_sum))]) (w1 := [(a_t_sum, .inl (cI, 4, .inl (fun _ => 0)))]) (wr := [(a_t, .inr (5, [.ref a_t_tried, .ref a_t_best, .ref a_t_sum, .int t_bestOver, .int t_bestCut])), (a_t_best, .inl (cI, 40, .inl t_best)), (a_t_tried, .inl (cI, 40, .inl t_tried)), (a_p1, .inr (7, [.ref a_p1_graph, .ref a_p1_bounds, .ref a_p1_home, .ref a_p1_sum, .ref a_p1_link, .int p1_cut, .int p1_over])), (a_p1_bounds, .inr (0, [.int p1_bounds_k, .ref a_p1_bounds_least, .ref a_p1_bounds_most])), (a_p1_bounds_least, .inl (cI, 4, .inl p1_bounds_least)), (a_p1_bounds_most, .inl (cI, 4, .inl p1_bounds_most)), (a_p1_graph, .inr (1, [.int p1_graph_size, .ref a_p1_graph_weight, .ref a_p1_graph_arcs])), (a_p1_graph_arcs, .inl (cI, 1600, .inl p1_graph_arcs)), (a_p1_graph_weight, .inl (cI, 40, .inl p1_graph_weight)), (a_p1_home, .inl (cI, 40, .inl p1_home))]) (ws' := (wd_Se_findBest cI cZ a_t a_t_best a_t_sum a_t_tried a_p1 a_p1_bounds a_p1_bounds_least a_p1_bounds_most a_p1_graph a_p1_graph_arcs a_p1_graph_weight a_p1_home a_p1_sum a_p1_link t_bestOver t_bestCut t_best (fun _ => 0) t_tried p1_cut p1_over p1_bounds_k p1_bounds_least p1_bounds_most p1_graph_size p1_graph_arcs p1_graph_weight p1_home)) (va_runS (As := [.ref a_t_sum, .int 0]) ⟨hx, hb, hml, hown, hts⟩ (c_fill l dC dI cI cZ a_t_sum H.size 4 (by decide) t_sum 0) (va_cwS 2 hts (gS gw_501 gw_339 gw_62 gw_340) rfl rfl rfl yd_fill ⟨Nat.le_of_ble_eq_true rfl, Nat.le_of_ble_eq_true rfl⟩) (mkS hK (hP.sub (ws' := [(a_t_sum, .inl (cI, 4, .inl t_sum))]) [2] rfl) (hD.sub (ws' := [(a_t_sum, .inl (cI, 4, .inl t_sum))]) [2] (by decide) rfl) hN) rfl rfl hl.1 rfl (lv_room (Nat.le_of_ble_eq_true rfl)) dd_Se_findBest_5 ⟨Nat.zero_le _, Nat.zero_le _⟩) hP hD hS hA [2] [0, 1, 3, 4, 5, 6, 7, 8, 9, 10, 11] [0, 1, 11, 2, 3, 4, 5, 6, 7, 8, 9, 10] rfl rfl (by decide) (by decide) rfl (by decide) rfl (fun H locs hP hD hS => ?_)
  have hP : va_P (dC, dI) clsL (wd_Se_findBest cI cZ a_t a_t_best a_t_sum a_t_tried a_p1 a_p1_bounds a_p1_bounds_least a_p1_bounds_most a_p1_graph a_p1_graph_arcs a_p1_graph_weight a_p1_home a_p1_sum a_p1_link t_bestOver t_bestCut t_best (fun _ => 0) t_tried p1_cut p1_over p1_bounds_k p1_bounds_least p1_bounds_most p1_graph_size p1_graph_arcs p1_graph_weight p1_home) H := hP
  have hD : va_D A (wd_Se_findBest cI cZ a_t a_t_best a_t_sum a_t_tried a_p1 a_p1_bounds a_p1_bounds_least a_p1_bounds_most a_p1_graph a_p1_graph_arcs a_p1_graph_weight a_p1_home a_p1_sum a_p1_link t_bestOver t_bestCut t_best (fun _ => 0) t_tried p1_cut p1_over p1_bounds_k p1_bounds_least p1_bounds_most p1_graph_size p1_graph_arcs p1_graph_weight p1_home) := hD
  refine lv_aload_n hx hb dd_Se_findBest_8 rfl (lv_at hl 0 rfl) ?_
  refine lv_ldc (v := 2000000000) hx hb hown (hts _ (gwc gw_204)) dd_Se_findBest_9 ?_
  refine va_put (D := (dC, dI)) (ci := 5) (v := .int 2000000000) (ty := .int) (C := rr_Se) (T := tt_Se) (N := 5) hx hb hts (fun w h => gwc (inn_Se w h)) tf_Se to_Se tn_Se hown hK hP hD hS 0 rfl rfl 3 (by decide) (hts _ (gwc gw_208)) (fun _ h9 => h9) rfl (by decide +kernel) rfl rfl (Nat.le_of_ble_eq_true rfl) dd_Se_findBest_11 (fun H locs hP hD hS => ?_)
  have hP : va_P (dC, dI) clsL (wd_Se_findBest cI cZ a_t a_t_best a_t_sum a_t_tried a_p1 a_p1_bounds a_p1_bounds_least a_p1_bounds_most a_p1_graph a_p1_graph_arcs a_p1_graph_weight a_p1_home a_p1_sum a_p1_link 2000000000 t_bestCut t_best (fun _ => 0) t_tried p1_cut p1_over p1_bounds_k p1_bounds_least p1_bounds_most p1_graph_size p1_graph_arcs p1_graph_weight p1_home) H := hP
  have hD : va_D A (wd_Se_findBest cI cZ a_t a_t_best a_t_sum a_t_tried a_p1 a_p1_bounds a_p1_bounds_least a_p1_bounds_most a_p1_graph a_p1_graph_arcs a_p1_graph_weight a_p1_home a_p1_sum a_p1_link 2000000000 t_bestCut t_best (fun _ => 0) t_tried p1_cut p1_over p1_bounds_k p1_bounds_least p1_bounds_most p1_graph_size p1_graph_arcs p1_graph_weight p1_home) := hD
  refine lv_aload_n hx hb dd_Se_findBest_14 rfl (lv_at hl 0 rfl) ?_
  refine lv_ldc (v := 2000000000) hx hb hown (hts _ (gwc gw_204)) dd_Se_findBest_15 ?_
  refine va_put (D := (dC, dI)) (ci := 5) (v := .int 2000000000) (ty := .int) (C := rr_Se) (T := tt_Se) (N := 5) hx hb hts (fun w h => gwc (inn_Se w h)) tf_Se to_Se tn_Se hown hK hP hD hS 0 rfl rfl 4 (by decide) (hts _ (gwc gw_209)) (fun _ h9 => h9) rfl (by decide +kernel) rfl rfl (Nat.le_of_ble_eq_true rfl) dd_Se_findBest_17 (fun H locs hP hD hS => ?_)
  have hP : va_P (dC, dI) clsL (wd_Se_findBest cI cZ a_t a_t_best a_t_sum a_t_tried a_p1 a_p1_bounds a_p1_bounds_least a_p1_bounds_most a_p1_graph a_p1_graph_arcs a_p1_graph_weight a_p1_home a_p1_sum a_p1_link 2000000000 2000000000 t_best (fun _ => 0) t_tried p1_cut p1_over p1_bounds_k p1_bounds_least p1_bounds_most p1_graph_size p1_graph_arcs p1_graph_weight p1_home) H := hP
  have hD : va_D A (wd_Se_findBest cI cZ a_t a_t_best a_t_sum a_t_tried a_p1 a_p1_bounds a_p1_bounds_least a_p1_bounds_most a_p1_graph a_p1_graph_arcs a_p1_graph_weight a_p1_home a_p1_sum a_p1_link 2000000000 2000000000 t_best (fun _ => 0) t_tried p1_cut p1_over p1_bounds_k p1_bounds_least p1_bounds_most p1_graph_size p1_graph_arcs p1_graph_weight p1_home) := hD
  refine lv_aload_n hx hb dd_Se_findBest_20 rfl (lv_at hl 0 rfl) ?_
  refine lv_aload_n hx hb dd_Se_findBest_21 rfl (lv_at hl 1 rfl) ?_
  refine lv_iconst (v := 0) hx hb dd_Se_findBest_22 (by decide) ?_
  refine lv_iconst (v := 0) hx hb dd_Se_findBest_23 (by decide) ?_
  refine lv_aload_n hx hb dd_Se_findBest_24 rfl (lv_at hl 1 rfl) ?_
  refine va_get (D := (dC, dI)) (ci := 7) (v := .ref a_p1_graph) (C := rr_Sp) (T := tt_Sp) (N := 7) hx hb hts (fun w h => gwc (inn_Sp w h)) hown hK hP 4 rfl rfl 0 (by decide) (hts _ (gwc gw_136)) (fun _ h9 => h9) rfl dd_Se_findBest_25 ?_
  obtain ⟨r28, hr28, hf⟩ := bind_some hf
  refine xcalli (rest := [.int 0, .int 0, .ref a_p1, .ref a_t]) (wc := (wd_Gr_total cI cZ a_p1_graph a_p1_graph_weight a_p1_graph_arcs p1_graph_size p1_graph_weight)) (w1 := (wd_Gr_total cI cZ a_p1_graph a_p1_graph_weight a_p1_graph_arcs p1_graph_size p1_graph_weight)) (wr := [(a_t, .inr (5, [.ref a_t_tried, .ref a_t_best, .ref a_t_sum, .int 2000000000, .int 2000000000])), (a_t_best, .inl (cI, 40, .inl t_best)), (a_t_sum, .inl (cI, 4, .inl (fun _ => 0))), (a_t_tried, .inl (cI, 40, .inl t_tried)), (a_p1, .inr (7, [.ref a_p1_graph, .ref a_p1_bounds, .ref a_p1_home, .ref a_p1_sum, .ref a_p1_link, .int p1_cut, .int p1_over])), (a_p1_bounds, .inr (0, [.int p1_bounds_k, .ref a_p1_bounds_least, .ref a_p1_bounds_most])), (a_p1_bounds_least, .inl (cI, 4, .inl p1_bounds_least)), (a_p1_bounds_most, .inl (cI, 4, .inl p1_bounds_most)), (a_p1_graph_arcs, .inl (cI, 1600, .inl p1_graph_arcs)), (a_p1_home, .inl (cI, 40, .inl p1_home))]) (ws' := (wd_Se_findBest cI cZ a_t a_t_best a_t_sum a_t_tried a_p1 a_p1_bounds a_p1_bounds_least a_p1_bounds_most a_p1_graph a_p1_graph_arcs a_p1_graph_weight a_p1_home a_p1_sum a_p1_link 2000000000 2000000000 t_best (fun _ => 0) t_tried p1_cut p1_over p1_bounds_k p1_bounds_least p1_bounds_most p1_graph_size p1_graph_arcs p1_graph_weight p1_home)) (va_runV (As := []) ⟨hx, hb, hml, hown, hts⟩ (c_Gr_total l dC dI cI cZ a_p1_graph a_p1_graph_weight a_p1_graph_arcs H.size p1_graph_size p1_graph_weight r28 hr28) (cwV 0 hts (gV gw_502 gw_452 gw_453 gw_54 gw_454) rfl rfl rfl (yd_Gr_total) ⟨Nat.le_of_ble_eq_true rfl, Nat.le_of_ble_eq_true rfl⟩) (mkV hK (hP.sub (ws' := (wd_Gr_total cI cZ a_p1_graph a_p1_graph_weight a_p1_graph_arcs p1_graph_size p1_graph_weight)) [8, 10] rfl) (hD.sub (ws' := (wd_Gr_total cI cZ a_p1_graph a_p1_graph_weight a_p1_graph_arcs p1_graph_size p1_graph_weight)) [8, 10] (by decide) rfl) hN (va_recv hK hP (ci := 1) (q0 := 8) rfl rfl)) rfl rfl hl.1 rfl (lv_room (Nat.le_of_ble_eq_true rfl)) dd_Se_findBest_28 ⟨Nat.zero_le _, Nat.zero_le _⟩) hP hD hS hA [8, 10] [0, 1, 2, 3, 4, 5, 6, 7, 9, 11] [0, 1, 2, 3, 4, 5, 6, 7, 10, 8, 11, 9] rfl rfl (by decide) (by decide) rfl (by decide) rfl (fun H locs hP hD hS => ?_)
  obtain ⟨r31, hr31, hf⟩ := bind_some hf
  refine xcallv (rest := []) (wc := (wd_Se_tryFrom cI cZ a_t a_t_best a_t_sum a_t_tried a_p1 a_p1_bounds a_p1_bounds_least a_p1_bounds_most a_p1_graph a_p1_graph_arcs a_p1_graph_weight a_p1_home a_p1_sum a_p1_link 2000000000 2000000000 t_best (fun _ => 0) t_tried p1_cut p1_over p1_bounds_k p1_bounds_least p1_bounds_most p1_graph_size p1_graph_arcs p1_graph_weight)) (w1 := (wd_Se_tryFrom cI cZ a_t a_t_best a_t_sum a_t_tried a_p1 a_p1_bounds a_p1_bounds_least a_p1_bounds_most a_p1_graph a_p1_graph_arcs a_p1_graph_weight a_p1_home a_p1_sum a_p1_link r31.1 r31.2.1 r31.2.2.1 r31.2.2.2.1 r31.2.2.2.2 p1_cut p1_over p1_bounds_k p1_bounds_least p1_bounds_most p1_graph_size p1_graph_arcs p1_graph_weight)) (wr := [(a_p1_home, .inl (cI, 40, .inl p1_home))]) (ws' := (wd_Se_findBest cI cZ a_t a_t_best a_t_sum a_t_tried a_p1 a_p1_bounds a_p1_bounds_least a_p1_bounds_most a_p1_graph a_p1_graph_arcs a_p1_graph_weight a_p1_home a_p1_sum a_p1_link r31.1 r31.2.1 r31.2.2.1 r31.2.2.2.1 r31.2.2.2.2 p1_cut p1_over p1_bounds_k p1_bounds_least p1_bounds_most p1_graph_size p1_graph_arcs p1_graph_weight p1_home)) (va_runV (As := [.ref a_p1, .int 0, .int 0, .int r28]) ⟨hx, hb, hml, hown, hts⟩ (c_Se_tryFrom l dC dI cI cZ a_t a_t_best a_t_sum a_t_tried a_p1 a_p1_bounds a_p1_bounds_least a_p1_bounds_most a_p1_graph a_p1_graph_arcs a_p1_graph_weight a_p1_home a_p1_sum a_p1_link 20 H.size 0 0 r28 2000000000 2000000000 t_best (fun _ => 0) t_tried p1_cut p1_over p1_bounds_k p1_bounds_least p1_bounds_most p1_graph_size p1_graph_arcs p1_graph_weight r31 hr31) (cwV 4 hts (gV gw_503 gw_505 gw_8 gw_57 gw_506) rfl rfl rfl (yd_Se_tryFrom) ⟨Nat.le_of_ble_eq_true rfl, Nat.le_of_ble_eq_true rfl⟩) (mkV hK (hP.sub (ws' := (wd_Se_tryFrom cI cZ a_t a_t_best a_t_sum a_t_tried a_p1 a_p1_bounds a_p1_bounds_least a_p1_bounds_most a_p1_graph a_p1_graph_arcs a_p1_graph_weight a_p1_home a_p1_sum a_p1_link 2000000000 2000000000 t_best (fun _ => 0) t_tried p1_cut p1_over p1_bounds_k p1_bounds_least p1_bounds_most p1_graph_size p1_graph_arcs p1_graph_weight)) [0, 1, 2, 3, 4, 5, 6, 7, 8, 9, 10] rfl) (hD.sub (ws' := (wd_Se_tryFrom cI cZ a_t a_t_best a_t_sum a_t_tried a_p1 a_p1_bounds a_p1_bounds_least a_p1_bounds_most a_p1_graph a_p1_graph_arcs a_p1_graph_weight a_p1_home a_p1_sum a_p1_link 2000000000 2000000000 t_best (fun _ => 0) t_tried p1_cut p1_over p1_bounds_k p1_bounds_least p1_bounds_most p1_graph_size p1_graph_arcs p1_graph_weight)) [0, 1, 2, 3, 4, 5, 6, 7, 8, 9, 10] (by decide) rfl) hN (va_recv hK hP (ci := 5) (q0 := 0) rfl rfl)) rfl rfl hl.1 rfl (lv_room (Nat.le_of_ble_eq_true rfl)) dd_Se_findBest_31 ⟨Nat.zero_le _, Nat.zero_le _⟩) hP hD hS hA [0, 1, 2, 3, 4, 5, 6, 7, 8, 9, 10] [11] [1, 2, 3, 4, 5, 6, 7, 8, 9, 10, 11, 0] rfl rfl (by decide) (by decide) rfl (by decide) rfl (fun H locs hP hD hS => ?_)
  refine lv_aload_n hx hb dd_Se_findBest_34 rfl (lv_at hl 0 rfl) ?_
  refine va_get (D := (dC, dI)) (ci := 5) (v := .ref a_t_best) (C := rr_Se) (T := tt_Se) (N := 5) hx hb hts (fun w h => gwc (inn_Se w h)) hown hK hP 0 rfl rfl 1 (by decide) (hts _ (gwc gw_206)) (fun _ h9 => h9) rfl dd_Se_findBest_35 ?_
  refine lv_iconst (v := 0) hx hb dd_Se_findBest_38 (by decide) ?_
  refine lv_aload_n hx hb dd_Se_findBest_39 rfl (lv_at hl 1 rfl) ?_
  refine va_get (D := (dC, dI)) (ci := 7) (v := .ref a_p1_home) (C := rr_Sp) (T := tt_Sp) (N := 7) hx hb hts (fun w h => gwc (inn_Sp w h)) hown hK hP 4 rfl rfl 2 (by decide) (hts _ (gwc gw_143)) (fun _ h9 => h9) rfl dd_Se_findBest_40 ?_
  refine lv_iconst (v := 0) hx hb dd_Se_findBest_43 (by decide) ?_
  refine lv_aload_n hx hb dd_Se_findBest_44 rfl (lv_at hl 1 rfl) ?_
  refine va_get (D := (dC, dI)) (ci := 7) (v := .ref a_p1_graph) (C := rr_Sp) (T := tt_Sp) (N := 7) hx hb hts (fun w h => gwc (inn_Sp w h)) hown hK hP 4 rfl rfl 0 (by decide) (hts _ (gwc gw_136)) (fun _ h9 => h9) rfl dd_Se_findBest_45 ?_
  refine va_get (D := (dC, dI)) (ci := 1) (v := .int p1_graph_size) (C := rr_Gr) (T := tt_Gr) (N := 3) hx hb hts (fun w h => gwc (inn_Gr w h)) hown hK hP 8 rfl rfl 0 (by decide) (hts _ (gwc gw_89)) (fun _ h9 => h9) rfl dd_Se_findBest_48 ?_
  obtain ⟨k51, hf⟩ := ck_some hf
  refine va_copyi hx hb (hml.trans hl.1.symm) hown (hts _ (gwc gw_514)) (hts _ (gwc gw_492)) (hts _ (gwc gw_491)) (hts _ (gwc gw_63)) hK hP hD hS 1 11 0 0 rfl rfl rfl rfl rfl (okc_1 k51) (okc_2 k51) (okc_3 k51) (okc_4 k51) (okc_5 k51) (fun _ _ => rfl) (Nat.le_of_ble_eq_true rfl) (Nat.le_of_ble_eq_true rfl) dd_Se_findBest_51 (fun H locs hP hD hS => ?_)
  have hP : va_P (dC, dI) clsL (wd_Se_findBest cI cZ a_t a_t_best a_t_sum a_t_tried a_p1 a_p1_bounds a_p1_bounds_least a_p1_bounds_most a_p1_graph a_p1_graph_arcs a_p1_graph_weight a_p1_home a_p1_sum a_p1_link r31.1 r31.2.1 r31.2.2.1 r31.2.2.2.1 r31.2.2.2.2 p1_cut p1_over p1_bounds_k p1_bounds_least p1_bounds_most p1_graph_size p1_graph_arcs p1_graph_weight (va_cpy r31.2.2.1 p1_home (0 : Int32).toNatClampNeg (0 : Int32).toNatClampNeg p1_graph_size.toNatClampNeg)) H := hP
  have hD : va_D A (wd_Se_findBest cI cZ a_t a_t_best a_t_sum a_t_tried a_p1 a_p1_bounds a_p1_bounds_least a_p1_bounds_most a_p1_graph a_p1_graph_arcs a_p1_graph_weight a_p1_home a_p1_sum a_p1_link r31.1 r31.2.1 r31.2.2.1 r31.2.2.2.1 r31.2.2.2.2 p1_cut p1_over p1_bounds_k p1_bounds_least p1_bounds_most p1_graph_size p1_graph_arcs p1_graph_weight (va_cpy r31.2.2.1 p1_home (0 : Int32).toNatClampNeg (0 : Int32).toNatClampNeg p1_graph_size.toNatClampNeg)) := hD
  cases hf
  exact W.vret hx hb hr (fun t ht hW => ⟨⟨(), rfl, trivial, pst_of ht hP hD⟩, hS.F ht⟩) hS.2.2 dd_Se_findBest_54
set_option maxRecDepth 100000 in
set_option maxHeartbeats 4000000 in
theorem c_Se_new (l : Launch) (dC : Nat → ClassId) (dI : Nat → Nat → Nat) (cI cZ : ClassId) (a_t sz : Nat) : Met l yy_Se_new wq_Se_new ({ frames := 1, cells := 3, slots := 84, locals := 12 }) (va_Pc [.ref a_t] (pre_ (dC, dI) cI cZ sz [(a_t, .inr (5, [.null, .null, .null, .int 0, .int 0]))])) (va_Qv (fun _ : Unit => True) (fun _ t => ∃ q7 q15 q22 : Nat, pst (dC, dI) (va_A [(a_t, .inr (5, [.null, .null, .null, .int 0, .int 0]))] sz) [(a_t, .inr (5, [.ref q7, .ref q15, .ref q22, .int 2000000000, .int 2000000000])), (q7, .inl (cI, 40, .inl (fun _ => 0))), (q15, .inl (cI, 40, .inl (fun _ => 0))), (q22, .inl (cI, 4, .inl (fun _ => 0)))] t) (va_A [(a_t, .inr (5, [.null, .null, .null, .int 0, .int 0]))] sz)) 3 84 (va_A [(a_t, .inr (5, [.null, .null, .null, .int 0, .int 0]))] sz) := by
  refine Met.ofW (cc := cc_Se_new) (maxL := 1) (ret := none) (by decide) rfl ?_
  intro p e s m args below meth c s₁ B hml hv
  obtain ⟨rfl, hsz, hP, hK, hD0, hN⟩ := hv
  have hx := B.exec
  have hb := B.bytes
  have hr := B.returns
  have hts := atoms_spec (ws := wq_Se_new) B.pre
  have hown : s.vm.findClass rr_Se = some m.cls := findClass_of_methodNamed B.named
  have hlocks := B.notSynchronized
  have hin : meth.name = "<init>" := (name_of_methodNamed B.named B.method).1
  subst hsz
  have hD := hD0.self (sz := s.heap.size)
  generalize hAe : va_A [(a_t, .inr (5, [.null, .null, .null, .int 0, .int 0]))] s.heap.size = A at hD ⊢
  have hA : ∀ q : Nat, s.heap.size ≤ q → A q := fun q h => by rw [← hAe]; exact Or.inr h
  have hS : va_S A s.heap s.heap [] := va_S.rf
  have hl := lv_entry ([.ref a_t]) (n := 1) (Nat.le_of_ble_eq_true rfl)
  rw [lg_entry_eq]
  generalize (lg_sl ([.ref a_t]) ++ List.replicate (1 - (lg_sl ([.ref a_t])).length) Slot.unset).toArray = ls at hl ⊢
  have hl : lv_has ls 1 [(0, .ref a_t)] := hl
  refine lv_aload_n hx hb dd_Se_new_0 rfl (lv_at hl 0 rfl) ?_
  refine W.objInit hx hb hown (hts _ (gwc gw_203)) (hts _ (gwc gw_71)) (hts _ (gwc gw_72)) rfl (by rw [hml]; exact hl.1) rfl dd_Se_new_1 (Nat.le_of_ble_eq_true rfl) (Nat.le_of_ble_eq_true rfl) ?_
  refine W.eq (g2 := F0 m 4 ls []) rfl ?_
  refine lv_aload_n hx hb dd_Se_new_4 rfl (lv_at hl 0 rfl) ?_
  refine lv_bipush (v := 40) hx hb dd_Se_new_5 (by decide) ?_
  refine xnewi (N := 40) hx hb (hts _ (gwc gw_106)) hK hP hD hS hA (by decide) (by decide) (by decide) (Nat.le_of_ble_eq_true rfl) (Nat.le_of_ble_eq_true rfl) dd_Se_new_7 (fun q7 H hP hD hS => ?_)
  have hP : va_P (dC, dI) clsL [(a_t, .inr (5, [.null, .null, .null, .int 0, .int 0])), (q7, .inl (cI, 40, .inl (fun _ => 0)))] H := hP
  have hD : va_D A [(a_t, .inr (5, [.null, .null, .null, .int 0, .int 0])), (q7, .inl (cI, 40, .inl (fun _ => 0)))] := hD
  refine W.widen (k := 1) (n := 40) (by decide) (by decide) ?_
  refine va_putF (D := (dC, dI)) (ci := 5) (v := .ref q7) (ty := (.array .int)) (C := rr_Se) (T := tt_Se) (N := 5) hx hb hts (fun w h => gwc (inn_Se w h)) tf_Se to_Se tn_Se hown hK hP hD hS 0 rfl rfl 0 (by decide) (hts _ (gwc gw_205)) (fun _ h9 => h9) rfl hin rfl (by decide +kernel) rfl rfl (Nat.le_of_ble_eq_true rfl) dd_Se_new_9 (fun H locs hP hD hS => ?_)
  have hP : va_P (dC, dI) clsL [(a_t, .inr (5, [.ref q7, .null, .null, .int 0, .int 0])), (q7, .inl (cI, 40, .inl (fun _ => 0)))] H := hP
  have hD : va_D A [(a_t, .inr (5, [.ref q7, .null, .null, .int 0, .int 0])), (q7, .inl (cI, 40, .inl (fun _ => 0)))] := hD
  refine lv_aload_n hx hb dd_Se_new_12 rfl (lv_at hl 0 rfl) ?_
  refine lv_bipush (v := 40) hx hb dd_Se_new_13 (by decide) ?_
  refine xnewi (N := 40) hx hb (hts _ (gwc gw_106)) hK hP hD hS hA (by decide) (by decide) (by decide) (Nat.le_of_ble_eq_true rfl) (Nat.le_of_ble_eq_true rfl) dd_Se_new_15 (fun q15 H hP hD hS => ?_)
  have hP : va_P (dC, dI) clsL [(a_t, .inr (5, [.ref q7, .null, .null, .int 0, .int 0])), (q7, .inl (cI, 40, .inl (fun _ => 0))), (q15, .inl (cI, 40, .inl (fun _ => 0)))] H := hP
  have hD : va_D A [(a_t, .inr (5, [.ref q7, .null, .null, .int 0, .int 0])), (q7, .inl (cI, 40, .inl (fun _ => 0))), (q15, .inl (cI, 40, .inl (fun _ => 0)))] := hD
  refine W.widen (k := 2) (n := 80) (by decide) (by decide) ?_
  refine va_putF (D := (dC, dI)) (ci := 5) (v := .ref q15) (ty := (.array .int)) (C := rr_Se) (T := tt_Se) (N := 5) hx hb hts (fun w h => gwc (inn_Se w h)) tf_Se to_Se tn_Se hown hK hP hD hS 0 rfl rfl 1 (by decide) (hts _ (gwc gw_206)) (fun _ h9 => h9) rfl hin rfl (by decide +kernel) rfl rfl (Nat.le_of_ble_eq_true rfl) dd_Se_new_17 (fun H locs hP hD hS => ?_)
  have hP : va_P (dC, dI) clsL [(a_t, .inr (5, [.ref q7, .ref q15, .null, .int 0, .int 0])), (q7, .inl (cI, 40, .inl (fun _ => 0))), (q15, .inl (cI, 40, .inl (fun _ => 0)))] H := hP
  have hD : va_D A [(a_t, .inr (5, [.ref q7, .ref q15, .null, .int 0, .int 0])), (q7, .inl (cI, 40, .inl (fun _ => 0))), (q15, .inl (cI, 40, .inl (fun _ => 0)))] := hD
  refine lv_aload_n hx hb dd_Se_new_20 rfl (lv_at hl 0 rfl) ?_
  refine lv_iconst (v := 4) hx hb dd_Se_new_21 (by decide) ?_
  refine xnewi (N := 4) hx hb (hts _ (gwc gw_106)) hK hP hD hS hA (by decide) (by decide) (by decide) (Nat.le_of_ble_eq_true rfl) (Nat.le_of_ble_eq_true rfl) dd_Se_new_22 (fun q22 H hP hD hS => ?_)
  have hP : va_P (dC, dI) clsL [(a_t, .inr (5, [.ref q7, .ref q15, .null, .int 0, .int 0])), (q7, .inl (cI, 40, .inl (fun _ => 0))), (q15, .inl (cI, 40, .inl (fun _ => 0))), (q22, .inl (cI, 4, .inl (fun _ => 0)))] H := hP
  have hD : va_D A [(a_t, .inr (5, [.ref q7, .ref q15, .null, .int 0, .int 0])), (q7, .inl (cI, 40, .inl (fun _ => 0))), (q15, .inl (cI, 40, .inl (fun _ => 0))), (q22, .inl (cI, 4, .inl (fun _ => 0)))] := hD
  refine W.widen (k := 3) (n := 84) (by decide) (by decide) ?_
  refine va_putF (D := (dC, dI)) (ci := 5) (v := .ref q22) (ty := (.array .int)) (C := rr_Se) (T := tt_Se) (N := 5) hx hb hts (fun w h => gwc (inn_Se w h)) tf_Se to_Se tn_Se hown hK hP hD hS 0 rfl rfl 2 (by decide) (hts _ (gwc gw_207)) (fun _ h9 => h9) rfl hin rfl (by decide +kernel) rfl rfl (Nat.le_of_ble_eq_true rfl) dd_Se_new_24 (fun H locs hP hD hS => ?_)
  have hP : va_P (dC, dI) clsL [(a_t, .inr (5, [.ref q7, .ref q15, .ref q22, .int 0, .int 0])), (q7, .inl (cI, 40, .inl (fun _ => 0))), (q15, .inl (cI, 40, .inl (fun _ => 0))), (q22, .inl (cI, 4, .inl (fun _ => 0)))] H := hP
  have hD : va_D A [(a_t, .inr (5, [.ref q7, .ref q15, .ref q22, .int 0, .int 0])), (q7, .inl (cI, 40, .inl (fun _ => 0))), (q15, .inl (cI, 40, .inl (fun _ => 0))), (q22, .inl (cI, 4, .inl (fun _ => 0)))] := hD
  refine lv_aload_n hx hb dd_Se_new_27 rfl (lv_at hl 0 rfl) ?_
  refine lv_ldc (v := 2000000000) hx hb hown (hts _ (gwc gw_204)) dd_Se_new_28 ?_
  refine va_put (D := (dC, dI)) (ci := 5) (v := .int 2000000000) (ty := .int) (C := rr_Se) (T := tt_Se) (N := 5) hx hb hts (fun w h => gwc (inn_Se w h)) tf_Se to_Se tn_Se hown hK hP hD hS 0 rfl rfl 3 (by decide) (hts _ (gwc gw_208)) (fun _ h9 => h9) rfl (by decide +kernel) rfl rfl (Nat.le_of_ble_eq_true rfl) dd_Se_new_30 (fun H locs hP hD hS => ?_)
  have hP : va_P (dC, dI) clsL [(a_t, .inr (5, [.ref q7, .ref q15, .ref q22, .int 2000000000, .int 0])), (q7, .inl (cI, 40, .inl (fun _ => 0))), (q15, .inl (cI, 40, .inl (fun _ => 0))), (q22, .inl (cI, 4, .inl (fun _ => 0)))] H := hP
  have hD : va_D A [(a_t, .inr (5, [.ref q7, .ref q15, .ref q22, .int 2000000000, .int 0])), (q7, .inl (cI, 40, .inl (fun _ => 0))), (q15, .inl (cI, 40, .inl (fun _ => 0))), (q22, .inl (cI, 4, .inl (fun _ => 0)))] := hD
  refine lv_aload_n hx hb dd_Se_new_33 rfl (lv_at hl 0 rfl) ?_
  refine lv_ldc (v := 2000000000) hx hb hown (hts _ (gwc gw_204)) dd_Se_new_34 ?_
  refine va_put (D := (dC, dI)) (ci := 5) (v := .int 2000000000) (ty := .int) (C := rr_Se) (T := tt_Se) (N := 5) hx hb hts (fun w h => gwc (inn_Se w h)) tf_Se to_Se tn_Se hown hK hP hD hS 0 rfl rfl 4 (by decide) (hts _ (gwc gw_209)) (fun _ h9 => h9) rfl (by decide +kernel) rfl rfl (Nat.le_of_ble_eq_true rfl) dd_Se_new_36 (fun H locs hP hD hS => ?_)
  have hP : va_P (dC, dI) clsL [(a_t, .inr (5, [.ref q7, .ref q15, .ref q22, .int 2000000000, .int 2000000000])), (q7, .inl (cI, 40, .inl (fun _ => 0))), (q15, .inl (cI, 40, .inl (fun _ => 0))), (q22, .inl (cI, 4, .inl (fun _ => 0)))] H := hP
  have hD : va_D A [(a_t, .inr (5, [.ref q7, .ref q15, .ref q22, .int 2000000000, .int 2000000000])), (q7, .inl (cI, 40, .inl (fun _ => 0))), (q15, .inl (cI, 40, .inl (fun _ => 0))), (q22, .inl (cI, 4, .inl (fun _ => 0)))] := hD
  exact W.vret hx hb hr (fun t ht hW => ⟨⟨(), rfl, trivial, q7, q15, q22, pst_of ht hP hD⟩, hS.F ht⟩) hS.2.2 dd_Se_new_39
