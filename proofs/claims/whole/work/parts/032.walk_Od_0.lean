abbrev wd_Od_draw (cI cZ : ClassId) (a_t a_t_row a_t_waiting : Nat) (t_row : Nat → Int32) (t_waiting : Nat → Int32) : va_W := [(a_t, .inr (4, [.ref a_t_row, .ref a_t_waiting])), (a_t_row, .inl (cI, 40, .inl t_row)), (a_t_waiting, .inl (cI, 40, .inl t_waiting))]
set_option maxRecDepth 100000 in
set_option maxHeartbeats 4000000 in
theorem c_Od_draw (l : Launch) (dC : Nat → ClassId) (dI : Nat → Nat → Nat) (cI cZ : ClassId) (a_t a_t_row a_t_waiting sz : Nat) (x1 : Int32) (x2 : Int32) (t_row : Nat → Int32) (t_waiting : Nat → Int32) (out : (Nat → Int32) × (Nat → Int32)) (hf : f_Od_draw x1 x2 t_row t_waiting = some out) :
    Met l yy_Od_draw wq_Od_draw ({ frames := 1, cells := 0, slots := 0, locals := 60 }) (va_Pc ([.ref a_t, .int x1, .int x2] : List Value) (pre_ (dC, dI) cI cZ sz (wd_Od_draw cI cZ a_t a_t_row a_t_waiting t_row t_waiting))) (va_Qv (fun _ : Unit => True) (fun _ => pst (dC, dI) (va_A (wd_Od_draw cI cZ a_t a_t_row a_t_waiting t_row t_waiting) sz) (wd_Od_draw cI cZ a_t a_t_row a_t_waiting out.1 out.2)) (va_A (wd_Od_draw cI cZ a_t a_t_row a_t_waiting t_row t_waiting) sz)) 0 0 (va_A (wd_Od_draw cI cZ a_t a_t_row a_t_waiting t_row t_waiting) sz) := by
  refine Met.ofW (cc := cc_Od_draw) (maxL := 6) (ret := none) (by decide) rfl ?_
  intro p e s m args below meth c s₁ B hml hv
  obtain ⟨rfl, hsz, hP, hK, hD0, hN⟩ := hv
  have hx := B.exec
  have hb := B.bytes
  have hr := B.returns
  have hts := atoms_spec (ws := wq_Od_draw) B.pre
  have hown : s.vm.findClass rr_Od = some m.cls := findClass_of_methodNamed B.named
  have hlocks := B.notSynchronized
  subst hsz
  have hD := hD0.self (sz := s.heap.size)
  generalize hAe : va_A (wd_Od_draw cI cZ a_t a_t_row a_t_waiting t_row t_waiting) s.heap.size = A at hD ⊢
  have hA : ∀ q : Nat, s.heap.size ≤ q → A q := fun q h => by rw [← hAe]; exact Or.inr h
  obtain ⟨H, hH⟩ : ∃ H : Heap, H = s.heap := ⟨_, rfl⟩
  have hS : va_S A s.heap H [] := by rw [hH]; exact va_S.rf
  have hl := lv_entry (([.ref a_t, .int x1, .int x2] : List Value)) (n := 6) (Nat.le_of_ble_eq_true rfl)
  rw [lg_entry_eq]
  generalize (lg_sl (([.ref a_t, .int x1, .int x2] : List Value)) ++ List.replicate (6 - (lg_sl (([.ref a_t, .int x1, .int x2] : List Value))).length) Slot.unset).toArray = ls at hl ⊢
  have hl : lv_has ls 6 [(0, .ref a_t), (1, .int x1), (2, .int x2)] := hl
  rw [← hH] at hP ⊢
  have hP : va_P (dC, dI) clsL (wd_Od_draw cI cZ a_t a_t_row a_t_waiting t_row t_waiting) H := hP
  unfold f_Od_draw at hf
  have h2 : ∀ (n2 : Nat) (x3 : Int32) (t_waiting : Nat → Int32) (ls : Array Slot) (H : Heap) (locs : List Loc), L_Od_draw_2 x1 x2 t_row n2 x3 t_waiting = some out → lv_has ls 6 [(0, .ref a_t), (1, .int x1), (2, .int x2), (3, .int x3)] → va_P (dC, dI) clsL (wd_Od_draw cI cZ a_t a_t_row a_t_waiting t_row t_waiting) H → va_D A (wd_Od_draw cI cZ a_t a_t_row a_t_waiting t_row t_waiting) → va_S A s.heap H locs → W p l e (headSpec wq_Od_draw ({ frames := 1, cells := 0, slots := 0, locals := 60 })).room s m ([.ref a_t, .int x1, .int x2] : List Value).toArray below meth c H locs 0 0 (MQ below (va_Qv (fun _ : Unit => True) (fun _ => pst (dC, dI) A (wd_Od_draw cI cZ a_t a_t_row a_t_waiting out.1 out.2)) A) ([.ref a_t, .int x1, .int x2] : List Value).toArray s 0 0 A) (F0 m 2 ls []) := by
    intro n2
    induction n2 with
    | zero =>
      intro x3 t_waiting ls H locs hf
      rw [L_Od_draw_2] at hf
      exact absurd hf (fun h => by cases h)
    | succ n2 ih2 =>
      intro x3 t_waiting ls H locs hf hl hP hD hS
      rw [L_Od_draw_2] at hf
      have h25 : ∀ (n25 : Nat) (x3 : Int32) (x4 : Int32) (t_row : Nat → Int32) (t_waiting : Nat → Int32) (ls : Array Slot) (H : Heap) (locs : List Loc), L_Od_draw_25 x2 n25 x3 x4 t_row t_waiting = some out → lv_has ls 6 [(0, .ref a_t), (2, .int x2), (3, .int x3), (4, .int x4)] → va_P (dC, dI) clsL (wd_Od_draw cI cZ a_t a_t_row a_t_waiting t_row t_waiting) H → va_D A (wd_Od_draw cI cZ a_t a_t_row a_t_waiting t_row t_waiting) → va_S A s.heap H locs → W p l e (headSpec wq_Od_draw ({ frames := 1, cells := 0, slots := 0, locals := 60 })).room s m ([.ref a_t, .int x1, .int x2] : List Value).toArray below meth c H locs 0 0 (MQ below (va_Qv (fun _ : Unit => True) (fun _ => pst (dC, dI) A (wd_Od_draw cI cZ a_t a_t_row a_t_waiting out.1 out.2)) A) ([.ref a_t, .int x1, .int x2] : List Value).toArray s 0 0 A) (F0 m 25 ls []) := by
        intro n25
        induction n25 with
        | zero =>
          intro x3 x4 t_row t_waiting ls H locs hf
          rw [L_Od_draw_25] at hf
          exact absurd hf (fun h => by cases h)
        | succ n25 ih25 =>
          intro x3 x4 t_row t_waiting ls H locs hf hl hP hD hS
          rw [L_Od_draw_25] at hf
          refine lv_iload hx hb dd_Od_draw_25 (lv_at hl 3 rfl) ?_
          refine lv_if_le (tgt := 98) hx hb dd_Od_draw_27 (by decide) (fun cc => ?_) (fun cc => ?_)
          · skip
            have hf := if_t cc hf
            cases hf
            exact W.vret hx hb hr (fun t ht hW => ⟨⟨(), rfl, trivial, pst_of ht hP hD⟩, hS.F ht⟩) hS.2.2 dd_Od_draw_98
          · skip
            have hf := if_f cc hf
            refine lv_iload_n hx hb dd_Od_draw_30 rfl (lv_at hl 2 rfl) ?_
            refine lv_ldc (v := 1103515245) hx hb hown (hts _ (gwc gw_605)) dd_Od_draw_31 ?_
            refine lv_imul hx hb dd_Od_draw_33 ?_
            refine lv_sipush (v := 12345) hx hb dd_Od_draw_34 (by decide) ?_
            refine lv_iadd hx hb dd_Od_draw_37 ?_
            refine lv_istore_n (lv' := [(3, .int ((x3 * 1103515245) + 12345)), (0, .ref a_t), (2, .int x2), (4, .int x4)]) hx hb dd_Od_draw_38 rfl hl (by decide) rfl (fun ls hl => ?_)
            refine lv_iload_n hx hb dd_Od_draw_39 rfl (lv_at hl 0 rfl) ?_
            refine lv_bipush (v := 16) hx hb dd_Od_draw_40 (by decide) ?_
            refine lv_iushr (v := ushr ((x3 * 1103515245) + 12345) 16) hx hb dd_Od_draw_42 rfl ?_
            refine lv_sipush (v := 32767) hx hb dd_Od_draw_43 (by decide) ?_
            refine lv_iand hx hb dd_Od_draw_46 ?_
            refine lv_iload hx hb dd_Od_draw_47 (lv_at hl 3 rfl) ?_
            obtain ⟨k49, hf⟩ := ck_some hf
            refine lv_irem hx hb dd_Od_draw_49 (nz_ne k49) ?_
            refine lv_istore (lv' := [(5, .int (((ushr ((x3 * 1103515245) + 12345) 16) &&& 32767) - ((ushr ((x3 * 1103515245) + 12345) 16) &&& 32767) / x4 * x4)), (3, .int ((x3 * 1103515245) + 12345)), (0, .ref a_t), (2, .int x2), (4, .int x4)]) hx hb dd_Od_draw_50 hl (by decide) rfl (fun ls hl => ?_)
            refine lv_aload_n hx hb dd_Od_draw_52 rfl (lv_at hl 2 rfl) ?_
            refine va_get (D := (dC, dI)) (ci := 4) (v := .ref a_t_row) (C := rr_Od) (T := tt_Od) (N := 2) hx hb hts (fun w h => gwc (inn_Od w h)) hown hK hP 0 rfl rfl 0 (by decide) (hts _ (gwc gw_259)) (fun _ h9 => h9) rfl dd_Od_draw_53 ?_
            refine lv_iload_n hx hb dd_Od_draw_56 rfl (lv_at hl 3 rfl) ?_
            refine lv_iload hx hb dd_Od_draw_57 (lv_at hl 4 rfl) ?_
            refine lv_isub hx hb dd_Od_draw_59 ?_
            refine lv_aload_n hx hb dd_Od_draw_60 rfl (lv_at hl 2 rfl) ?_
            refine va_get (D := (dC, dI)) (ci := 4) (v := .ref a_t_waiting) (C := rr_Od) (T := tt_Od) (N := 2) hx hb hts (fun w h => gwc (inn_Od w h)) hown hK hP 0 rfl rfl 1 (by decide) (hts _ (gwc gw_261)) (fun _ h9 => h9) rfl dd_Od_draw_61 ?_
            refine lv_iload hx hb dd_Od_draw_64 (lv_at hl 0 rfl) ?_
            obtain ⟨k66, hf⟩ := ck_some hf
            refine va_iald hx hb hK hP 2 0 rfl rfl (okb_in k66) dd_Od_draw_66 ?_
            obtain ⟨k67, hf⟩ := ck_some hf
            refine va_iast hx hb hK hP hD hS 1 0 rfl rfl (okb_in k67) dd_Od_draw_67 (fun H locs hP hD hS => ?_)
            have hP : va_P (dC, dI) clsL (wd_Od_draw cI cZ a_t a_t_row a_t_waiting (upd t_row (x2 - x4).toNatClampNeg (t_waiting (((ushr ((x3 * 1103515245) + 12345) 16) &&& 32767) - ((ushr ((x3 * 1103515245) + 12345) 16) &&& 32767) / x4 * x4).toNatClampNeg)) t_waiting) H := hP
            have hD : va_D A (wd_Od_draw cI cZ a_t a_t_row a_t_waiting (upd t_row (x2 - x4).toNatClampNeg (t_waiting (((ushr ((x3 * 1103515245) + 12345) 16) &&& 32767) - ((ushr ((x3 * 1103515245) + 12345) 16) &&& 32767) / x4 * x4).toNatClampNeg)) t_waiting) := hD
            refine lv_aload_n hx hb dd_Od_draw_68 rfl (lv_at hl 2 rfl) ?_
            refine va_get (D := (dC, dI)) (ci := 4) (v := .ref a_t_waiting) (C := rr_Od) (T := tt_Od) (N := 2) hx hb hts (fun w h => gwc (inn_Od w h)) hown hK hP 0 rfl rfl 1 (by decide) (hts _ (gwc gw_261)) (fun _ h9 => h9) rfl dd_Od_draw_69 ?_
            refine lv_iload hx hb dd_Od_draw_72 (lv_at hl 0 rfl) ?_
            refine lv_iconst (v := 1) hx hb dd_Od_draw_74 (by decide) ?_
            refine lv_iadd hx hb dd_Od_draw_75 ?_
            refine lv_aload_n hx hb dd_Od_draw_76 rfl (lv_at hl 2 rfl) ?_
            refine va_get (D := (dC, dI)) (ci := 4) (v := .ref a_t_waiting) (C := rr_Od) (T := tt_Od) (N := 2) hx hb hts (fun w h => gwc (inn_Od w h)) hown hK hP 0 rfl rfl 1 (by decide) (hts _ (gwc gw_261)) (fun _ h9 => h9) rfl dd_Od_draw_77 ?_
            refine lv_iload hx hb dd_Od_draw_80 (lv_at hl 0 rfl) ?_
            refine lv_iload hx hb dd_Od_draw_82 (lv_at hl 4 rfl) ?_
            refine lv_iconst (v := 1) hx hb dd_Od_draw_84 (by decide) ?_
            refine lv_isub hx hb dd_Od_draw_85 ?_
            refine lv_iload hx hb dd_Od_draw_86 (lv_at hl 0 rfl) ?_
            refine lv_isub hx hb dd_Od_draw_88 ?_
            obtain ⟨k89, hf⟩ := ck_some hf
            refine va_copyi hx hb (hml.trans hl.1.symm) hown (hts _ (gwc gw_606)) (hts _ (gwc gw_492)) (hts _ (gwc gw_491)) (hts _ (gwc gw_63)) hK hP hD hS 2 2 0 0 rfl rfl rfl rfl rfl (okc_1 k89) (okc_2 k89) (okc_3 k89) (okc_4 k89) (okc_5 k89) (fun _ _ => rfl) (Nat.le_of_ble_eq_true rfl) (Nat.le_of_ble_eq_true rfl) dd_Od_draw_89 (fun H locs hP hD hS => ?_)
            have hP : va_P (dC, dI) clsL (wd_Od_draw cI cZ a_t a_t_row a_t_waiting (upd t_row (x2 - x4).toNatClampNeg (t_waiting (((ushr ((x3 * 1103515245) + 12345) 16) &&& 32767) - ((ushr ((x3 * 1103515245) + 12345) 16) &&& 32767) / x4 * x4).toNatClampNeg)) (va_cpy t_waiting t_waiting ((((ushr ((x3 * 1103515245) + 12345) 16) &&& 32767) - ((ushr ((x3 * 1103515245) + 12345) 16) &&& 32767) / x4 * x4) + 1).toNatClampNeg (((ushr ((x3 * 1103515245) + 12345) 16) &&& 32767) - ((ushr ((x3 * 1103515245) + 12345) 16) &&& 32767) / x4 * x4).toNatClampNeg ((x4 - 1) - (((ushr ((x3 * 1103515245) + 12345) 16) &&& 32767) - ((ushr ((x3 * 1103515245) + 12345) 16) &&& 32767) / x4 * x4)).toNatClampNeg)) H := hP
            have hD : va_D A (wd_Od_draw cI cZ a_t a_t_row a_t_waiting (upd t_row (x2 - x4).toNatClampNeg (t_waiting (((ushr ((x3 * 1103515245) + 12345) 16) &&& 32767) - ((ushr ((x3 * 1103515245) + 12345) 16) &&& 32767) / x4 * x4).toNatClampNeg)) (va_cpy t_waiting t_waiting ((((ushr ((x3 * 1103515245) + 12345) 16) &&& 32767) - ((ushr ((x3 * 1103515245) + 12345) 16) &&& 32767) / x4 * x4) + 1).toNatClampNeg (((ushr ((x3 * 1103515245) + 12345) 16) &&& 32767) - ((ushr ((x3 * 1103515245) + 12345) 16) &&& 32767) / x4 * x4).toNatClampNeg ((x4 - 1) - (((ushr ((x3 * 1103515245) + 12345) 16) &&& 32767) - ((ushr ((x3 * 1103515245) + 12345) 16) &&& 32767) / x4 * x4)).toNatClampNeg)) := hD
            refine lv_iinc (v := x4 + (-1)) (lv' := [(4, .int (x4 + (-1))), (5, .int (((ushr ((x3 * 1103515245) + 12345) 16) &&& 32767) - ((ushr ((x3 * 1103515245) + 12345) 16) &&& 32767) / x4 * x4)), (3, .int ((x3 * 1103515245) + 12345)), (0, .ref a_t), (2, .int x2)]) hx hb dd_Od_draw_92 hl (k := 4) rfl rfl (by decide) rfl (fun ls hl => ?_)
            refine lv_goto (tgt := 25) hx hb dd_Od_draw_95 (by decide) ?_
            exact ih25 ((x3 * 1103515245) + 12345) (x4 + (-1)) (upd t_row (x2 - x4).toNatClampNeg (t_waiting (((ushr ((x3 * 1103515245) + 12345) 16) &&& 32767) - ((ushr ((x3 * 1103515245) + 12345) 16) &&& 32767) / x4 * x4).toNatClampNeg)) (va_cpy t_waiting t_waiting ((((ushr ((x3 * 1103515245) + 12345) 16) &&& 32767) - ((ushr ((x3 * 1103515245) + 12345) 16) &&& 32767) / x4 * x4) + 1).toNatClampNeg (((ushr ((x3 * 1103515245) + 12345) 16) &&& 32767) - ((ushr ((x3 * 1103515245) + 12345) 16) &&& 32767) / x4 * x4).toNatClampNeg ((x4 - 1) - (((ushr ((x3 * 1103515245) + 12345) 16) &&& 32767) - ((ushr ((x3 * 1103515245) + 12345) 16) &&& 32767) / x4 * x4)).toNatClampNeg) _ _ _ hf (lv_sub hl [3, 4, 2, 0] rfl) hP hD hS
      refine lv_iload_n hx hb dd_Od_draw_2 rfl (lv_at hl 3 rfl) ?_
      refine lv_iload_n hx hb dd_Od_draw_3 rfl (lv_at hl 2 rfl) ?_
      refine lv_icmp_ge (tgt := 20) hx hb dd_Od_draw_4 (by decide) (fun cc => ?_) (fun cc => ?_)
      · skip
        have hf := if_t cc hf
        refine lv_iload_n hx hb dd_Od_draw_20 rfl (lv_at hl 1 rfl) ?_
        refine lv_istore_n (lv' := [(3, .int x1), (0, .ref a_t), (1, .int x1), (2, .int x2)]) hx hb dd_Od_draw_21 rfl hl (by decide) rfl (fun ls hl => ?_)
        refine lv_iload_n hx hb dd_Od_draw_22 rfl (lv_at hl 3 rfl) ?_
        refine lv_istore (lv' := [(4, .int x2), (3, .int x1), (0, .ref a_t), (1, .int x1), (2, .int x2)]) hx hb dd_Od_draw_23 hl (by decide) rfl (fun ls hl => ?_)
        exact h25 64 x1 x2 t_row t_waiting _ _ _ hf (lv_sub hl [2, 4, 1, 0] rfl) hP hD hS
      · skip
        have hf := if_f cc hf
        refine lv_aload_n hx hb dd_Od_draw_7 rfl (lv_at hl 0 rfl) ?_
        refine va_get (D := (dC, dI)) (ci := 4) (v := .ref a_t_waiting) (C := rr_Od) (T := tt_Od) (N := 2) hx hb hts (fun w h => gwc (inn_Od w h)) hown hK hP 0 rfl rfl 1 (by decide) (hts _ (gwc gw_261)) (fun _ h9 => h9) rfl dd_Od_draw_8 ?_
        refine lv_iload_n hx hb dd_Od_draw_11 rfl (lv_at hl 3 rfl) ?_
        refine lv_iload_n hx hb dd_Od_draw_12 rfl (lv_at hl 3 rfl) ?_
        obtain ⟨k13, hf⟩ := ck_some hf
        refine va_iast hx hb hK hP hD hS 2 0 rfl rfl (okb_in k13) dd_Od_draw_13 (fun H locs hP hD hS => ?_)
        have hP : va_P (dC, dI) clsL (wd_Od_draw cI cZ a_t a_t_row a_t_waiting t_row (upd t_waiting (x3).toNatClampNeg x3)) H := hP
        have hD : va_D A (wd_Od_draw cI cZ a_t a_t_row a_t_waiting t_row (upd t_waiting (x3).toNatClampNeg x3)) := hD
        refine lv_iinc (v := x3 + 1) (lv' := [(3, .int (x3 + 1)), (0, .ref a_t), (1, .int x1), (2, .int x2)]) hx hb dd_Od_draw_14 hl (k := 3) rfl rfl (by decide) rfl (fun ls hl => ?_)
        refine lv_goto (tgt := 2) hx hb dd_Od_draw_17 (by decide) ?_
        exact ih2 (x3 + 1) (upd t_waiting (x3).toNatClampNeg x3) _ _ _ hf (lv_sub hl [1, 2, 3, 0] rfl) hP hD hS
  refine lv_iconst (v := 0) hx hb dd_Od_draw_0 (by decide) ?_
  refine lv_istore_n (lv' := [(3, .int 0), (0, .ref a_t), (1, .int x1), (2, .int x2)]) hx hb dd_Od_draw_1 rfl hl (by decide) rfl (fun ls hl => ?_)
  exact h2 64 0 t_waiting _ _ _ hf (lv_sub hl [1, 2, 3, 0] rfl) hP hD hS
set_option maxRecDepth 100000 in
set_option maxHeartbeats 4000000 in
theorem c_Od_new (l : Launch) (dC : Nat → ClassId) (dI : Nat → Nat → Nat) (cI cZ : ClassId) (a_t sz : Nat) : Met l yy_Od_new wq_Od_new ({ frames := 1, cells := 2, slots := 80, locals := 12 }) (va_Pc [.ref a_t] (pre_ (dC, dI) cI cZ sz [(a_t, .inr (4, [.null, .null]))])) (va_Qv (fun _ : Unit => True) (fun _ t => ∃ q7 q15 : Nat, pst (dC, dI) (va_A [(a_t, .inr (4, [.null, .null]))] sz) [(a_t, .inr (4, [.ref q7, .ref q15])), (q7, .inl (cI, 40, .inl (fun _ => 0))), (q15, .inl (cI, 40, .inl (fun _ => 0)))] t) (va_A [(a_t, .inr (4, [.null, .null]))] sz)) 2 80 (va_A [(a_t, .inr (4, [.null, .null]))] sz) := by
  refine Met.ofW (cc := cc_Od_new) (maxL := 1) (ret := none) (by decide) rfl ?_
  intro p e s m args below meth c s₁ B hml hv
  obtain ⟨rfl, hsz, hP, hK, hD0, hN⟩ := hv
  have hx := B.exec
  have hb := B.bytes
  have hr := B.returns
  have hts := atoms_spec (ws := wq_Od_new) B.pre
  have hown : s.vm.findClass rr_Od = some m.cls := findClass_of_methodNamed B.named
  have hlocks := B.notSynchronized
  have hin : meth.name = "<init>" := (name_of_methodNamed B.named B.method).1
  subst hsz
  have hD := hD0.self (sz := s.heap.size)
  generalize hAe : va_A [(a_t, .inr (4, [.null, .null]))] s.heap.size = A at hD ⊢
  have hA : ∀ q : Nat, s.heap.size ≤ q → A q := fun q h => by rw [← hAe]; exact Or.inr h
  have hS : va_S A s.heap s.heap [] := va_S.rf
  have hl := lv_entry ([.ref a_t]) (n := 1) (Nat.le_of_ble_eq_true rfl)
  rw [lg_entry_eq]
  generalize (lg_sl ([.ref a_t]) ++ List.replicate (1 - (lg_sl ([.ref a_t])).length) Slot.unset).toArray = ls at hl ⊢
  have hl : lv_has ls 1 [(0, .ref a_t)] := hl
  refine lv_aload_n hx hb dd_Od_new_0 rfl (lv_at hl 0 rfl) ?_
  refine W.objInit hx hb hown (hts _ (gwc gw_258)) (hts _ (gwc gw_71)) (hts _ (gwc gw_72)) rfl (by rw [hml]; exact hl.1) rfl dd_Od_new_1 (Nat.le_of_ble_eq_true rfl) (Nat.le_of_ble_eq_true rfl) ?_
  refine W.eq (g2 := F0 m 4 ls []) rfl ?_
  refine lv_aload_n hx hb dd_Od_new_4 rfl (lv_at hl 0 rfl) ?_
  refine lv_bipush (v := 40) hx hb dd_Od_new_5 (by decide) ?_
  refine xnewi (N := 40) hx hb (hts _ (gwc gw_106)) hK hP hD hS hA (by decide) (by decide) (by decide) (Nat.le_of_ble_eq_true rfl) (Nat.le_of_ble_eq_true rfl) dd_Od_new_7 (fun q7 H hP hD hS => ?_)
  have hP : va_P (dC, dI) clsL [(a_t, .inr (4, [.null, .null])), (q7, .inl (cI, 40, .inl (fun _ => 0)))] H := hP
  have hD : va_D A [(a_t, .inr (4, [.null, .null])), (q7, .inl (cI, 40, .inl (fun _ => 0)))] := hD
  refine W.widen (k := 1) (n := 40) (by decide) (by decide) ?_
  refine va_putF (D := (dC, dI)) (ci := 4) (v := .ref q7) (ty := (.array .int)) (C := rr_Od) (T := tt_Od) (N := 2) hx hb hts (fun w h => gwc (inn_Od w h)) tf_Od to_Od tn_Od hown hK hP hD hS 0 rfl rfl 0 (by decide) (hts _ (gwc gw_259)) (fun _ h9 => h9) rfl hin rfl (by decide +kernel) rfl rfl (Nat.le_of_ble_eq_true rfl) dd_Od_new_9 (fun H locs hP hD hS => ?_)
  have hP : va_P (dC, dI) clsL [(a_t, .inr (4, [.ref q7, .null])), (q7, .inl (cI, 40, .inl (fun _ => 0)))] H := hP
  have hD : va_D A [(a_t, .inr (4, [.ref q7, .null])), (q7, .inl (cI, 40, .inl (fun _ => 0)))] := hD
  refine lv_aload_n hx hb dd_Od_new_12 rfl (lv_at hl 0 rfl) ?_
  refine lv_bipush (v := 40) hx hb dd_Od_new_13 (by decide) ?_
  refine xnewi (N := 40) hx hb (hts _ (gwc gw_106)) hK hP hD hS hA (by decide) (by decide) (by decide) (Nat.le_of_ble_eq_true rfl) (Nat.le_of_ble_eq_true rfl) dd_Od_new_15 (fun q15 H hP hD hS => ?_)
  have hP : va_P (dC, dI) clsL [(a_t, .inr (4, [.ref q7, .null])), (q7, .inl (cI, 40, .inl (fun _ => 0))), (q15, .inl (cI, 40, .inl (fun _ => 0)))] H := hP
  have hD : va_D A [(a_t, .inr (4, [.ref q7, .null])), (q7, .inl (cI, 40, .inl (fun _ => 0))), (q15, .inl (cI, 40, .inl (fun _ => 0)))] := hD
  refine W.widen (k := 2) (n := 80) (by decide) (by decide) ?_
  refine va_putF (D := (dC, dI)) (ci := 4) (v := .ref q15) (ty := (.array .int)) (C := rr_Od) (T := tt_Od) (N := 2) hx hb hts (fun w h => gwc (inn_Od w h)) tf_Od to_Od tn_Od hown hK hP hD hS 0 rfl rfl 1 (by decide) (hts _ (gwc gw_261)) (fun _ h9 => h9) rfl hin rfl (by decide +kernel) rfl rfl (Nat.le_of_ble_eq_true rfl) dd_Od_new_17 (fun H locs hP hD hS => ?_)
  have hP : va_P (dC, dI) clsL [(a_t, .inr (4, [.ref q7, .ref q15])), (q7, .inl (cI, 40, .inl (fun _ => 0))), (q15, .inl (cI, 40, .inl (fun _ => 0)))] H := hP
  have hD : va_D A [(a_t, .inr (4, [.ref q7, .ref q15])), (q7, .inl (cI, 40, .inl (fun _ => 0))), (q15, .inl (cI, 40, .inl (fun _ => 0)))] := hD
  exact W.vret hx hb hr (fun t ht hW => ⟨⟨(), rfl, trivial, q7, q15, pst_of ht hP hD⟩, hS.F ht⟩) hS.2.2 dd_Od_new_20
