abbrev wd_Re_inLevel (cI cZ : ClassId) (a_t a_t_arcs a_t_levelArc a_t_levelIn a_t_levelNodes a_t_levelWeight a_t_weight a_t_split a_t_least a_t_most a_t_row a_t_isFree a_t_best a_t_above a_t_ordered a_t_parts : Nat) (t_nodes : Int32) (t_kinds : Int32) (t_levels : Int32) (t_size : Int32) (t_base : Int32) (t_arcs : Nat → Int32) (t_levelArc : Nat → Int32) (t_levelIn : Nat → Int32) (t_levelNodes : Nat → Int32) (t_levelWeight : Nat → Int32) (t_weight : Nat → Int32) : va_W := [(a_t, .inr (9, [.int t_nodes, .int t_kinds, .ref a_t_weight, .ref a_t_arcs, .ref a_t_split, .ref a_t_least, .ref a_t_most, .int t_levels, .ref a_t_levelNodes, .ref a_t_levelWeight, .ref a_t_levelArc, .ref a_t_levelIn, .int t_size, .int t_base, .ref a_t_row, .ref a_t_isFree, .ref a_t_best, .ref a_t_above, .ref a_t_ordered, .ref a_t_parts])), (a_t_arcs, .inl (cI, 1600, .inl t_arcs)), (a_t_levelArc, .inl (cI, 65600, .inl t_levelArc)), (a_t_levelIn, .inl (cI, 1640, .inl t_levelIn)), (a_t_levelNodes, .inl (cI, 41, .inl t_levelNodes)), (a_t_levelWeight, .inl (cI, 1640, .inl t_levelWeight)), (a_t_weight, .inl (cI, 40, .inl t_weight))]
set_option maxRecDepth 100000 in
set_option maxHeartbeats 4000000 in
theorem c_Re_inLevel (l : Launch) (dC : Nat → ClassId) (dI : Nat → Nat → Nat) (cI cZ : ClassId) (a_t a_t_arcs a_t_levelArc a_t_levelIn a_t_levelNodes a_t_levelWeight a_t_weight a_t_split a_t_least a_t_most a_t_row a_t_isFree a_t_best a_t_above a_t_ordered a_t_parts sz : Nat) (x1 : Int32) (x2 : Int32) (t_nodes : Int32) (t_kinds : Int32) (t_levels : Int32) (t_size : Int32) (t_base : Int32) (t_arcs : Nat → Int32) (t_levelArc : Nat → Int32) (t_levelIn : Nat → Int32) (t_levelNodes : Nat → Int32) (t_levelWeight : Nat → Int32) (t_weight : Nat → Int32) (out : Int32 × Int32 × (Nat → Int32) × (Nat → Int32) × (Nat → Int32) × (Nat → Int32)) (hf : f_Re_inLevel x1 x2 t_nodes t_kinds t_arcs t_levelArc t_levelIn t_levelNodes t_levelWeight t_weight = some out) :
    Met l yy_Re_inLevel wq_Re_inLevel ({ frames := 3, cells := 0, slots := 0, locals := 81 }) (va_Pc ([.ref a_t, .int x1, .int x2] : List Value) (pre_ (dC, dI) cI cZ sz (wd_Re_inLevel cI cZ a_t a_t_arcs a_t_levelArc a_t_levelIn a_t_levelNodes a_t_levelWeight a_t_weight a_t_split a_t_least a_t_most a_t_row a_t_isFree a_t_best a_t_above a_t_ordered a_t_parts t_nodes t_kinds t_levels t_size t_base t_arcs t_levelArc t_levelIn t_levelNodes t_levelWeight t_weight))) (va_Qi (fun (r : Int32) (_ : Unit) => r = out.1) (fun _ => pst (dC, dI) (va_A (wd_Re_inLevel cI cZ a_t a_t_arcs a_t_levelArc a_t_levelIn a_t_levelNodes a_t_levelWeight a_t_weight a_t_split a_t_least a_t_most a_t_row a_t_isFree a_t_best a_t_above a_t_ordered a_t_parts t_nodes t_kinds t_levels t_size t_base t_arcs t_levelArc t_levelIn t_levelNodes t_levelWeight t_weight) sz) (wd_Re_inLevel cI cZ a_t a_t_arcs a_t_levelArc a_t_levelIn a_t_levelNodes a_t_levelWeight a_t_weight a_t_split a_t_least a_t_most a_t_row a_t_isFree a_t_best a_t_above a_t_ordered a_t_parts t_nodes t_kinds out.2.1 t_size t_base t_arcs out.2.2.1 out.2.2.2.1 out.2.2.2.2.1 out.2.2.2.2.2 t_weight)) (va_A (wd_Re_inLevel cI cZ a_t a_t_arcs a_t_levelArc a_t_levelIn a_t_levelNodes a_t_levelWeight a_t_weight a_t_split a_t_least a_t_most a_t_row a_t_isFree a_t_best a_t_above a_t_ordered a_t_parts t_nodes t_kinds t_levels t_size t_base t_arcs t_levelArc t_levelIn t_levelNodes t_levelWeight t_weight) sz)) 0 0 (va_A (wd_Re_inLevel cI cZ a_t a_t_arcs a_t_levelArc a_t_levelIn a_t_levelNodes a_t_levelWeight a_t_weight a_t_split a_t_least a_t_most a_t_row a_t_isFree a_t_best a_t_above a_t_ordered a_t_parts t_nodes t_kinds t_levels t_size t_base t_arcs t_levelArc t_levelIn t_levelNodes t_levelWeight t_weight) sz) := by
  refine Met.ofW (cc := cc_Re_inLevel) (maxL := 5) (ret := (some .int)) (by decide) rfl ?_
  intro p e s m args below meth c s₁ B hml hv
  obtain ⟨rfl, hsz, hP, hK, hD0, hN⟩ := hv
  have hx := B.exec
  have hb := B.bytes
  have hr := B.returns
  have hts := atoms_spec (ws := wq_Re_inLevel) B.pre
  have hown : s.vm.findClass rr_Re = some m.cls := findClass_of_methodNamed B.named
  have hlocks := B.notSynchronized
  subst hsz
  have hD := hD0.self (sz := s.heap.size)
  generalize hAe : va_A (wd_Re_inLevel cI cZ a_t a_t_arcs a_t_levelArc a_t_levelIn a_t_levelNodes a_t_levelWeight a_t_weight a_t_split a_t_least a_t_most a_t_row a_t_isFree a_t_best a_t_above a_t_ordered a_t_parts t_nodes t_kinds t_levels t_size t_base t_arcs t_levelArc t_levelIn t_levelNodes t_levelWeight t_weight) s.heap.size = A at hD ⊢
  have hA : ∀ q : Nat, s.heap.size ≤ q → A q := fun q h => by rw [← hAe]; exact Or.inr h
  obtain ⟨H, hH⟩ : ∃ H : Heap, H = s.heap := ⟨_, rfl⟩
  have hS : va_S A s.heap H [] := by rw [hH]; exact va_S.rf
  have hl := lv_entry (([.ref a_t, .int x1, .int x2] : List Value)) (n := 5) (Nat.le_of_ble_eq_true rfl)
  rw [lg_entry_eq]
  generalize (lg_sl (([.ref a_t, .int x1, .int x2] : List Value)) ++ List.replicate (5 - (lg_sl (([.ref a_t, .int x1, .int x2] : List Value))).length) Slot.unset).toArray = ls at hl ⊢
  have hl : lv_has ls 5 [(0, .ref a_t), (1, .int x1), (2, .int x2)] := hl
  rw [← hH] at hP ⊢
  have hP : va_P (dC, dI) clsL (wd_Re_inLevel cI cZ a_t a_t_arcs a_t_levelArc a_t_levelIn a_t_levelNodes a_t_levelWeight a_t_weight a_t_split a_t_least a_t_most a_t_row a_t_isFree a_t_best a_t_above a_t_ordered a_t_parts t_nodes t_kinds t_levels t_size t_base t_arcs t_levelArc t_levelIn t_levelNodes t_levelWeight t_weight) H := hP
  unfold f_Re_inLevel at hf
  have h35 : ∀ (n35 : Nat) (x3 : Int32) (x4 : Int32) (t_levels : Int32) (t_levelArc : Nat → Int32) (t_levelIn : Nat → Int32) (t_levelNodes : Nat → Int32) (t_levelWeight : Nat → Int32) (ls : Array Slot) (H : Heap) (locs : List Loc), L_Re_inLevel_35 x1 n35 x3 x4 t_levels t_levelArc t_levelIn t_levelNodes t_levelWeight = some out → lv_has ls 5 [(0, .ref a_t), (1, .int x1), (3, .int x3), (4, .int x4)] → va_P (dC, dI) clsL (wd_Re_inLevel cI cZ a_t a_t_arcs a_t_levelArc a_t_levelIn a_t_levelNodes a_t_levelWeight a_t_weight a_t_split a_t_least a_t_most a_t_row a_t_isFree a_t_best a_t_above a_t_ordered a_t_parts t_nodes t_kinds t_levels t_size t_base t_arcs t_levelArc t_levelIn t_levelNodes t_levelWeight t_weight) H → va_D A (wd_Re_inLevel cI cZ a_t a_t_arcs a_t_levelArc a_t_levelIn a_t_levelNodes a_t_levelWeight a_t_weight a_t_split a_t_least a_t_most a_t_row a_t_isFree a_t_best a_t_above a_t_ordered a_t_parts t_nodes t_kinds t_levels t_size t_base t_arcs t_levelArc t_levelIn t_levelNodes t_levelWeight t_weight) → va_S A s.heap H locs → W p l e (headSpec wq_Re_inLevel ({ frames := 3, cells := 0, slots := 0, locals := 81 })).room s m ([.ref a_t, .int x1, .int x2] : List Value).toArray below meth c H locs 0 0 (MQ below (va_Qi (fun (r : Int32) (_ : Unit) => r = out.1) (fun _ => pst (dC, dI) A (wd_Re_inLevel cI cZ a_t a_t_arcs a_t_levelArc a_t_levelIn a_t_levelNodes a_t_levelWeight a_t_weight a_t_split a_t_least a_t_most a_t_row a_t_isFree a_t_best a_t_above a_t_ordered a_t_parts t_nodes t_kinds out.2.1 t_size t_base t_arcs out.2.2.1 out.2.2.2.1 out.2.2.2.2.1 out.2.2.2.2.2 t_weight)) A) ([.ref a_t, .int x1, .int x2] : List Value).toArray s 0 0 A) (F0 m 35 ls []) := by
    intro n35
    induction n35 with
    | zero =>
      intro x3 x4 t_levels t_levelArc t_levelIn t_levelNodes t_levelWeight ls H locs hf
      rw [L_Re_inLevel_35] at hf
      exact absurd hf (fun h => by cases h)
    | succ n35 ih35 =>
      intro x3 x4 t_levels t_levelArc t_levelIn t_levelNodes t_levelWeight ls H locs hf hl hP hD hS
      rw [L_Re_inLevel_35] at hf
      refine lv_iload hx hb dd_Re_inLevel_35 (lv_at hl 3 rfl) ?_
      refine lv_iload_n hx hb dd_Re_inLevel_37 rfl (lv_at hl 1 rfl) ?_
      refine lv_icmp_ge (tgt := 60) hx hb dd_Re_inLevel_38 (by decide) (fun cc => ?_) (fun cc => ?_)
      · skip
        have hf := if_t cc hf
        refine lv_iload_n hx hb dd_Re_inLevel_60 rfl (lv_at hl 2 rfl) ?_
        have hf := Option.some.inj hf
        subst hf
        exact W.iret hx hb hr (fun t ht hW => ⟨⟨_, (), rfl, rfl, pst_of ht hP hD⟩, hS.F ht⟩) hS.2.2 dd_Re_inLevel_61
      · skip
        have hf := if_f cc hf
        refine lv_aload_n hx hb dd_Re_inLevel_41 rfl (lv_at hl 0 rfl) ?_
        refine va_get (D := (dC, dI)) (ci := 9) (v := .ref a_t_levelIn) (C := rr_Re) (T := tt_Re) (N := 20) hx hb hts (fun w h => gwc (inn_Re w h)) hown hK hP 0 rfl rfl 11 (by decide) (hts _ (gwc gw_714)) (fun _ h9 => h9) rfl dd_Re_inLevel_42 ?_
        refine lv_bipush (v := 40) hx hb dd_Re_inLevel_45 (by decide) ?_
        refine lv_iload hx hb dd_Re_inLevel_47 (lv_at hl 3 rfl) ?_
        refine lv_imul hx hb dd_Re_inLevel_49 ?_
        refine lv_iload_n hx hb dd_Re_inLevel_50 rfl (lv_at hl 2 rfl) ?_
        refine lv_iadd hx hb dd_Re_inLevel_51 ?_
        obtain ⟨k52, hf⟩ := ck_some hf
        refine va_iald hx hb hK hP 3 0 rfl rfl (okb_in k52) dd_Re_inLevel_52 ?_
        refine lv_istore_n (lv' := [(3, .int (t_levelIn ((40 * x4) + x3).toNatClampNeg)), (0, .ref a_t), (1, .int x1), (4, .int x4)]) hx hb dd_Re_inLevel_53 rfl hl (by decide) rfl (fun ls hl => ?_)
        refine lv_iinc (v := x4 + 1) (lv' := [(4, .int (x4 + 1)), (3, .int (t_levelIn ((40 * x4) + x3).toNatClampNeg)), (0, .ref a_t), (1, .int x1)]) hx hb dd_Re_inLevel_54 hl (k := 3) rfl rfl (by decide) rfl (fun ls hl => ?_)
        refine lv_goto (tgt := 35) hx hb dd_Re_inLevel_57 (by decide) ?_
        exact ih35 (t_levelIn ((40 * x4) + x3).toNatClampNeg) (x4 + 1) t_levels t_levelArc t_levelIn t_levelNodes t_levelWeight _ _ _ hf (lv_sub hl [2, 3, 1, 0] rfl) hP hD hS
  refine lv_aload_n hx hb dd_Re_inLevel_0 rfl (lv_at hl 0 rfl) ?_
  obtain ⟨r1, hr1, hf⟩ := bind_some hf
  refine xcallv (rest := []) (wc := (wd_Re_makeLevels cI cZ a_t a_t_arcs a_t_levelArc a_t_levelIn a_t_levelNodes a_t_levelWeight a_t_weight a_t_split a_t_least a_t_most a_t_row a_t_isFree a_t_best a_t_above a_t_ordered a_t_parts t_nodes t_kinds t_levels t_size t_base t_arcs t_levelArc t_levelIn t_levelNodes t_levelWeight t_weight)) (w1 := (wd_Re_makeLevels cI cZ a_t a_t_arcs a_t_levelArc a_t_levelIn a_t_levelNodes a_t_levelWeight a_t_weight a_t_split a_t_least a_t_most a_t_row a_t_isFree a_t_best a_t_above a_t_ordered a_t_parts t_nodes t_kinds r1.1 t_size t_base t_arcs r1.2.1 r1.2.2.1 r1.2.2.2.1 r1.2.2.2.2 t_weight)) (wr := []) (ws' := (wd_Re_inLevel cI cZ a_t a_t_arcs a_t_levelArc a_t_levelIn a_t_levelNodes a_t_levelWeight a_t_weight a_t_split a_t_least a_t_most a_t_row a_t_isFree a_t_best a_t_above a_t_ordered a_t_parts t_nodes t_kinds r1.1 t_size t_base t_arcs r1.2.1 r1.2.2.1 r1.2.2.2.1 r1.2.2.2.2 t_weight)) (va_runV (As := []) ⟨hx, hb, hml, hown, hts⟩ (c_Re_makeLevels l dC dI cI cZ a_t a_t_arcs a_t_levelArc a_t_levelIn a_t_levelNodes a_t_levelWeight a_t_weight a_t_split a_t_least a_t_most a_t_row a_t_isFree a_t_best a_t_above a_t_ordered a_t_parts H.size t_nodes t_kinds t_levels t_size t_base t_arcs t_levelArc t_levelIn t_levelNodes t_levelWeight t_weight r1 hr1) (cwV 0 hts (gV gw_796 gw_798 gw_31 gw_61 gw_799) rfl rfl rfl (yd_Re_makeLevels) ⟨Nat.le_of_ble_eq_true rfl, Nat.le_of_ble_eq_true rfl⟩) (mkV hK (hP.sub (ws' := (wd_Re_makeLevels cI cZ a_t a_t_arcs a_t_levelArc a_t_levelIn a_t_levelNodes a_t_levelWeight a_t_weight a_t_split a_t_least a_t_most a_t_row a_t_isFree a_t_best a_t_above a_t_ordered a_t_parts t_nodes t_kinds t_levels t_size t_base t_arcs t_levelArc t_levelIn t_levelNodes t_levelWeight t_weight)) [0, 1, 2, 3, 4, 5, 6] rfl) (hD.sub (ws' := (wd_Re_makeLevels cI cZ a_t a_t_arcs a_t_levelArc a_t_levelIn a_t_levelNodes a_t_levelWeight a_t_weight a_t_split a_t_least a_t_most a_t_row a_t_isFree a_t_best a_t_above a_t_ordered a_t_parts t_nodes t_kinds t_levels t_size t_base t_arcs t_levelArc t_levelIn t_levelNodes t_levelWeight t_weight)) [0, 1, 2, 3, 4, 5, 6] (by decide) rfl) hN (va_recv hK hP (ci := 9) (q0 := 0) rfl rfl)) rfl rfl hl.1 rfl (lv_room (Nat.le_of_ble_eq_true rfl)) dd_Re_inLevel_1 ⟨Nat.zero_le _, Nat.zero_le _⟩) hP hD hS hA [0, 1, 2, 3, 4, 5, 6] [] [0, 1, 2, 3, 4, 5, 6] rfl rfl (by decide) (by decide) rfl (by decide) rfl (fun H locs hP hD hS => ?_)
  refine lv_iload_n hx hb dd_Re_inLevel_4 rfl (lv_at hl 1 rfl) ?_
  refine lv_i2l hx hb dd_Re_inLevel_5 rfl ?_
  refine lv_lconst (v := 0) hx hb dd_Re_inLevel_6 (by decide) ?_
  refine lv_aload_n hx hb dd_Re_inLevel_7 rfl (lv_at hl 0 rfl) ?_
  refine va_get (D := (dC, dI)) (ci := 9) (v := .int r1.1) (C := rr_Re) (T := tt_Re) (N := 20) hx hb hts (fun w h => gwc (inn_Re w h)) hown hK hP 0 rfl rfl 7 (by decide) (hts _ (gwc gw_710)) (fun _ h9 => h9) rfl dd_Re_inLevel_8 ?_
  refine lv_iconst (v := 1) hx hb dd_Re_inLevel_11 (by decide) ?_
  refine lv_isub hx hb dd_Re_inLevel_12 ?_
  refine lv_i2l hx hb dd_Re_inLevel_13 rfl ?_
  obtain ⟨r14, hr14, hf⟩ := bind_some hf
  refine xcalli (rest := []) (wc := (wd_Re_isIn cI cZ)) (w1 := (wd_Re_isIn cI cZ)) (wr := [(a_t, .inr (9, [.int t_nodes, .int t_kinds, .ref a_t_weight, .ref a_t_arcs, .ref a_t_split, .ref a_t_least, .ref a_t_most, .int r1.1, .ref a_t_levelNodes, .ref a_t_levelWeight, .ref a_t_levelArc, .ref a_t_levelIn, .int t_size, .int t_base, .ref a_t_row, .ref a_t_isFree, .ref a_t_best, .ref a_t_above, .ref a_t_ordered, .ref a_t_parts])), (a_t_arcs, .inl (cI, 1600, .inl t_arcs)), (a_t_levelArc, .inl (cI, 65600, .inl r1.2.1)), (a_t_levelIn, .inl (cI, 1640, .inl r1.2.2.1)), (a_t_levelNodes, .inl (cI, 41, .inl r1.2.2.2.1)), (a_t_levelWeight, .inl (cI, 1640, .inl r1.2.2.2.2)), (a_t_weight, .inl (cI, 40, .inl t_weight))]) (ws' := (wd_Re_inLevel cI cZ a_t a_t_arcs a_t_levelArc a_t_levelIn a_t_levelNodes a_t_levelWeight a_t_weight a_t_split a_t_least a_t_most a_t_row a_t_isFree a_t_best a_t_above a_t_ordered a_t_parts t_nodes t_kinds r1.1 t_size t_base t_arcs r1.2.1 r1.2.2.1 r1.2.2.2.1 r1.2.2.2.2 t_weight)) (va_runS (As := [.long x1.toInt64, .long (0 : Int64), .long ((r1.1 - 1).toInt64)]) ⟨hx, hb, hml, hown, hts⟩ (c_Re_isIn l dC dI cI cZ H.size x1.toInt64 (0 : Int64) ((r1.1 - 1).toInt64) r14 hr14) (va_cwS 3 hts (gS gw_699 gw_700 gw_61 gw_701) rfl rfl rfl (yd_Re_isIn).2 ⟨Nat.le_of_ble_eq_true rfl, Nat.le_of_ble_eq_true rfl⟩) (mkS hK (hP.sub (ws' := (wd_Re_isIn cI cZ)) [] rfl) (hD.sub (ws' := (wd_Re_isIn cI cZ)) [] (by decide) rfl) hN) rfl rfl hl.1 rfl (lv_room (Nat.le_of_ble_eq_true rfl)) dd_Re_inLevel_14 ⟨Nat.zero_le _, Nat.zero_le _⟩) hP hD hS hA [] [0, 1, 2, 3, 4, 5, 6] [0, 1, 2, 3, 4, 5, 6] rfl rfl (by decide) (by decide) rfl (by decide) rfl (fun H locs hP hD hS => ?_)
  refine lv_if_eq (tgt := 28) hx hb dd_Re_inLevel_17 (by decide) (fun cc => ?_) (fun cc => ?_)
  · skip
    have hf := if_t cc hf
    refine lv_iconst (v := -1) hx hb dd_Re_inLevel_28 (by decide) ?_
    have hf := Option.some.inj hf
    subst hf
    exact W.iret hx hb hr (fun t ht hW => ⟨⟨_, (), rfl, rfl, pst_of ht hP hD⟩, hS.F ht⟩) hS.2.2 dd_Re_inLevel_29
  · skip
    have hf := if_f cc hf
    refine lv_aload_n hx hb dd_Re_inLevel_20 rfl (lv_at hl 0 rfl) ?_
    refine lv_iload_n hx hb dd_Re_inLevel_21 rfl (lv_at hl 2 rfl) ?_
    obtain ⟨r22, hr22, hf⟩ := bind_some hf
    refine xcalli (rest := []) (wc := (wd_Re_isNode cI cZ a_t a_t_weight a_t_arcs a_t_split a_t_least a_t_most a_t_levelNodes a_t_levelWeight a_t_levelArc a_t_levelIn a_t_row a_t_isFree a_t_best a_t_above a_t_ordered a_t_parts t_nodes t_kinds r1.1 t_size t_base)) (w1 := (wd_Re_isNode cI cZ a_t a_t_weight a_t_arcs a_t_split a_t_least a_t_most a_t_levelNodes a_t_levelWeight a_t_levelArc a_t_levelIn a_t_row a_t_isFree a_t_best a_t_above a_t_ordered a_t_parts t_nodes t_kinds r1.1 t_size t_base)) (wr := [(a_t_arcs, .inl (cI, 1600, .inl t_arcs)), (a_t_levelArc, .inl (cI, 65600, .inl r1.2.1)), (a_t_levelIn, .inl (cI, 1640, .inl r1.2.2.1)), (a_t_levelNodes, .inl (cI, 41, .inl r1.2.2.2.1)), (a_t_levelWeight, .inl (cI, 1640, .inl r1.2.2.2.2)), (a_t_weight, .inl (cI, 40, .inl t_weight))]) (ws' := (wd_Re_inLevel cI cZ a_t a_t_arcs a_t_levelArc a_t_levelIn a_t_levelNodes a_t_levelWeight a_t_weight a_t_split a_t_least a_t_most a_t_row a_t_isFree a_t_best a_t_above a_t_ordered a_t_parts t_nodes t_kinds r1.1 t_size t_base t_arcs r1.2.1 r1.2.2.1 r1.2.2.2.1 r1.2.2.2.2 t_weight)) (va_runV (As := [.int x2]) ⟨hx, hb, hml, hown, hts⟩ (c_Re_isNode l dC dI cI cZ a_t a_t_weight a_t_arcs a_t_split a_t_least a_t_most a_t_levelNodes a_t_levelWeight a_t_levelArc a_t_levelIn a_t_row a_t_isFree a_t_best a_t_above a_t_ordered a_t_parts H.size x2 t_nodes t_kinds r1.1 t_size t_base r22 hr22) (cwV 1 hts (gV gw_773 gw_775 gw_29 gw_61 gw_776) rfl rfl rfl (yd_Re_isNode) ⟨Nat.le_of_ble_eq_true rfl, Nat.le_of_ble_eq_true rfl⟩) (mkV hK (hP.sub (ws' := (wd_Re_isNode cI cZ a_t a_t_weight a_t_arcs a_t_split a_t_least a_t_most a_t_levelNodes a_t_levelWeight a_t_levelArc a_t_levelIn a_t_row a_t_isFree a_t_best a_t_above a_t_ordered a_t_parts t_nodes t_kinds r1.1 t_size t_base)) [0] rfl) (hD.sub (ws' := (wd_Re_isNode cI cZ a_t a_t_weight a_t_arcs a_t_split a_t_least a_t_most a_t_levelNodes a_t_levelWeight a_t_levelArc a_t_levelIn a_t_row a_t_isFree a_t_best a_t_above a_t_ordered a_t_parts t_nodes t_kinds r1.1 t_size t_base)) [0] (by decide) rfl) hN (va_recv hK hP (ci := 9) (q0 := 0) rfl rfl)) rfl rfl hl.1 rfl (lv_room (Nat.le_of_ble_eq_true rfl)) dd_Re_inLevel_22 ⟨Nat.zero_le _, Nat.zero_le _⟩) hP hD hS hA [0] [1, 2, 3, 4, 5, 6] [6, 0, 1, 2, 3, 4, 5] rfl rfl (by decide) (by decide) rfl (by decide) rfl (fun H locs hP hD hS => ?_)
    refine lv_if_ne (tgt := 30) hx hb dd_Re_inLevel_25 (by decide) (fun cc => ?_) (fun cc => ?_)
    · skip
      have hf := if_f cc hf
      refine lv_iload_n hx hb dd_Re_inLevel_30 rfl (lv_at hl 2 rfl) ?_
      refine lv_istore_n (lv' := [(3, .int x2), (0, .ref a_t), (1, .int x1), (2, .int x2)]) hx hb dd_Re_inLevel_31 rfl hl (by decide) rfl (fun ls hl => ?_)
      refine lv_iconst (v := 0) hx hb dd_Re_inLevel_32 (by decide) ?_
      refine lv_istore (lv' := [(4, .int 0), (3, .int x2), (0, .ref a_t), (1, .int x1), (2, .int x2)]) hx hb dd_Re_inLevel_33 hl (by decide) rfl (fun ls hl => ?_)
      exact h35 64 x2 0 r1.1 r1.2.1 r1.2.2.1 r1.2.2.2.1 r1.2.2.2.2 _ _ _ hf (lv_sub hl [2, 3, 1, 0] rfl) hP hD hS
    · skip
      have hf := if_t cc hf
      refine lv_iconst (v := -1) hx hb dd_Re_inLevel_28 (by decide) ?_
      have hf := Option.some.inj hf
      subst hf
      exact W.iret hx hb hr (fun t ht hW => ⟨⟨_, (), rfl, rfl, pst_of ht hP hD⟩, hS.F ht⟩) hS.2.2 dd_Re_inLevel_29
abbrev wd_Re_levelOf (cI cZ : ClassId) (a_t a_t_arcs a_t_levelArc a_t_levelIn a_t_levelNodes a_t_levelWeight a_t_weight a_t_split a_t_least a_t_most a_t_row a_t_isFree a_t_best a_t_above a_t_ordered a_t_parts : Nat) (t_nodes : Int32) (t_kinds : Int32) (t_levels : Int32) (t_size : Int32) (t_base : Int32) (t_arcs : Nat → Int32) (t_levelArc : Nat → Int32) (t_levelIn : Nat → Int32) (t_levelNodes : Nat → Int32) (t_levelWeight : Nat → Int32) (t_weight : Nat → Int32) : va_W := [(a_t, .inr (9, [.int t_nodes, .int t_kinds, .ref a_t_weight, .ref a_t_arcs, .ref a_t_split, .ref a_t_least, .ref a_t_most, .int t_levels, .ref a_t_levelNodes, .ref a_t_levelWeight, .ref a_t_levelArc, .ref a_t_levelIn, .int t_size, .int t_base, .ref a_t_row, .ref a_t_isFree, .ref a_t_best, .ref a_t_above, .ref a_t_ordered, .ref a_t_parts])), (a_t_arcs, .inl (cI, 1600, .inl t_arcs)), (a_t_levelArc, .inl (cI, 65600, .inl t_levelArc)), (a_t_levelIn, .inl (cI, 1640, .inl t_levelIn)), (a_t_levelNodes, .inl (cI, 41, .inl t_levelNodes)), (a_t_levelWeight, .inl (cI, 1640, .inl t_levelWeight)), (a_t_weight, .inl (cI, 40, .inl t_weight))]
set_option maxRecDepth 100000 in
set_option maxHeartbeats 4000000 in
theorem c_Re_levelOf (l : Launch) (dC : Nat → ClassId) (dI : Nat → Nat → Nat) (cI cZ : ClassId) (a_t a_t_arcs a_t_levelArc a_t_levelIn a_t_levelNodes a_t_levelWeight a_t_weight a_t_split a_t_least a_t_most a_t_row a_t_isFree a_t_best a_t_above a_t_ordered a_t_parts sz : Nat) (x1 : Int32) (x2 : Int32) (x3 : Int32) (t_nodes : Int32) (t_kinds : Int32) (t_levels : Int32) (t_size : Int32) (t_base : Int32) (t_arcs : Nat → Int32) (t_levelArc : Nat → Int32) (t_levelIn : Nat → Int32) (t_levelNodes : Nat → Int32) (t_levelWeight : Nat → Int32) (t_weight : Nat → Int32) (out : Int32 × Int32 × (Nat → Int32) × (Nat → Int32) × (Nat → Int32) × (Nat → Int32)) (hf : f_Re_levelOf x1 x2 x3 t_nodes t_kinds t_arcs t_levelArc t_levelIn t_levelNodes t_levelWeight t_weight = some out) :
    Met l yy_Re_levelOf wq_Re_levelOf ({ frames := 3, cells := 0, slots := 0, locals := 81 }) (va_Pc ([.ref a_t, .int x1, .int x2, .int x3] : List Value) (pre_ (dC, dI) cI cZ sz (wd_Re_levelOf cI cZ a_t a_t_arcs a_t_levelArc a_t_levelIn a_t_levelNodes a_t_levelWeight a_t_weight a_t_split a_t_least a_t_most a_t_row a_t_isFree a_t_best a_t_above a_t_ordered a_t_parts t_nodes t_kinds t_levels t_size t_base t_arcs t_levelArc t_levelIn t_levelNodes t_levelWeight t_weight))) (va_Qi (fun (r : Int32) (_ : Unit) => r = out.1) (fun _ => pst (dC, dI) (va_A (wd_Re_levelOf cI cZ a_t a_t_arcs a_t_levelArc a_t_levelIn a_t_levelNodes a_t_levelWeight a_t_weight a_t_split a_t_least a_t_most a_t_row a_t_isFree a_t_best a_t_above a_t_ordered a_t_parts t_nodes t_kinds t_levels t_size t_base t_arcs t_levelArc t_levelIn t_levelNodes t_levelWeight t_weight) sz) (wd_Re_levelOf cI cZ a_t a_t_arcs a_t_levelArc a_t_levelIn a_t_levelNodes a_t_levelWeight a_t_weight a_t_split a_t_least a_t_most a_t_row a_t_isFree a_t_best a_t_above a_t_ordered a_t_parts t_nodes t_kinds out.2.1 t_size t_base t_arcs out.2.2.1 out.2.2.2.1 out.2.2.2.2.1 out.2.2.2.2.2 t_weight)) (va_A (wd_Re_levelOf cI cZ a_t a_t_arcs a_t_levelArc a_t_levelIn a_t_levelNodes a_t_levelWeight a_t_weight a_t_split a_t_least a_t_most a_t_row a_t_isFree a_t_best a_t_above a_t_ordered a_t_parts t_nodes t_kinds t_levels t_size t_base t_arcs t_levelArc t_levelIn t_levelNodes t_levelWeight t_weight) sz)) 0 0 (va_A (wd_Re_levelOf cI cZ a_t a_t_arcs a_t_levelArc a_t_levelIn a_t_levelNodes a_t_levelWeight a_t_weight a_t_split a_t_least a_t_most a_t_row a_t_isFree a_t_best a_t_above a_t_ordered a_t_parts t_nodes t_kinds t_levels t_size t_base t_arcs t_levelArc t_levelIn t_levelNodes t_levelWeight t_weight) sz) := by
  refine Met.ofW (cc := cc_Re_levelOf) (maxL := 4) (ret := (some .int)) (by decide) rfl ?_
  intro p e s m args below meth c s₁ B hml hv
  obtain ⟨rfl, hsz, hP, hK, hD0, hN⟩ := hv
  have hx := B.exec
  have hb := B.bytes
  have hr := B.returns
  have hts := atoms_spec (ws := wq_Re_levelOf) B.pre
  have hown : s.vm.findClass rr_Re = some m.cls := findClass_of_methodNamed B.named
  have hlocks := B.notSynchronized
  subst hsz
  have hD := hD0.self (sz := s.heap.size)
  generalize hAe : va_A (wd_Re_levelOf cI cZ a_t a_t_arcs a_t_levelArc a_t_levelIn a_t_levelNodes a_t_levelWeight a_t_weight a_t_split a_t_least a_t_most a_t_row a_t_isFree a_t_best a_t_above a_t_ordered a_t_parts t_nodes t_kinds t_levels t_size t_base t_arcs t_levelArc t_levelIn t_levelNodes t_levelWeight t_weight) s.heap.size = A at hD ⊢
  have hA : ∀ q : Nat, s.heap.size ≤ q → A q := fun q h => by rw [← hAe]; exact Or.inr h
  obtain ⟨H, hH⟩ : ∃ H : Heap, H = s.heap := ⟨_, rfl⟩
  have hS : va_S A s.heap H [] := by rw [hH]; exact va_S.rf
  have hl := lv_entry (([.ref a_t, .int x1, .int x2, .int x3] : List Value)) (n := 4) (Nat.le_of_ble_eq_true rfl)
  rw [lg_entry_eq]
  generalize (lg_sl (([.ref a_t, .int x1, .int x2, .int x3] : List Value)) ++ List.replicate (4 - (lg_sl (([.ref a_t, .int x1, .int x2, .int x3] : List Value))).length) Slot.unset).toArray = ls at hl ⊢
  have hl : lv_has ls 4 [(0, .ref a_t), (1, .int x1), (2, .int x2), (3, .int x3)] := hl
  rw [← hH] at hP ⊢
  have hP : va_P (dC, dI) clsL (wd_Re_levelOf cI cZ a_t a_t_arcs a_t_levelArc a_t_levelIn a_t_levelNodes a_t_levelWeight a_t_weight a_t_split a_t_least a_t_most a_t_row a_t_isFree a_t_best a_t_above a_t_ordered a_t_parts t_nodes t_kinds t_levels t_size t_base t_arcs t_levelArc t_levelIn t_levelNodes t_levelWeight t_weight) H := hP
  unfold f_Re_levelOf at hf
  refine lv_aload_n hx hb dd_Re_levelOf_0 rfl (lv_at hl 0 rfl) ?_
  obtain ⟨r1, hr1, hf⟩ := bind_some hf
  refine xcallv (rest := []) (wc := (wd_Re_makeLevels cI cZ a_t a_t_arcs a_t_levelArc a_t_levelIn a_t_levelNodes a_t_levelWeight a_t_weight a_t_split a_t_least a_t_most a_t_row a_t_isFree a_t_best a_t_above a_t_ordered a_t_parts t_nodes t_kinds t_levels t_size t_base t_arcs t_levelArc t_levelIn t_levelNodes t_levelWeight t_weight)) (w1 := (wd_Re_makeLevels cI cZ a_t a_t_arcs a_t_levelArc a_t_levelIn a_t_levelNodes a_t_levelWeight a_t_weight a_t_split a_t_least a_t_most a_t_row a_t_isFree a_t_best a_t_above a_t_ordered a_t_parts t_nodes t_kinds r1.1 t_size t_base t_arcs r1.2.1 r1.2.2.1 r1.2.2.2.1 r1.2.2.2.2 t_weight)) (wr := []) (ws' := (wd_Re_levelOf cI cZ a_t a_t_arcs a_t_levelArc a_t_levelIn a_t_levelNodes a_t_levelWeight a_t_weight a_t_split a_t_least a_t_most a_t_row a_t_isFree a_t_best a_t_above a_t_ordered a_t_parts t_nodes t_kinds r1.1 t_size t_base t_arcs r1.2.1 r1.2.2.1 r1.2.2.2.1 r1.2.2.2.2 t_weight)) (va_runV (As := []) ⟨hx, hb, hml, hown, hts⟩ (c_Re_makeLevels l dC dI cI cZ a_t a_t_arcs a_t_levelArc a_t_levelIn a_t_levelNodes a_t_levelWeight a_t_weight a_t_split a_t_least a_t_most a_t_row a_t_isFree a_t_best a_t_above a_t_ordered a_t_parts H.size t_nodes t_kinds t_levels t_size t_base t_arcs t_levelArc t_levelIn t_levelNodes t_levelWeight t_weight r1 hr1) (cwV 0 hts (gV gw_796 gw_798 gw_31 gw_61 gw_799) rfl rfl rfl (yd_Re_makeLevels) ⟨Nat.le_of_ble_eq_true rfl, Nat.le_of_ble_eq_true rfl⟩) (mkV hK (hP.sub (ws' := (wd_Re_makeLevels cI cZ a_t a_t_arcs a_t_levelArc a_t_levelIn a_t_levelNodes a_t_levelWeight a_t_weight a_t_split a_t_least a_t_most a_t_row a_t_isFree a_t_best a_t_above a_t_ordered a_t_parts t_nodes t_kinds t_levels t_size t_base t_arcs t_levelArc t_levelIn t_levelNodes t_levelWeight t_weight)) [0, 1, 2, 3, 4, 5, 6] rfl) (hD.sub (ws' := (wd_Re_makeLevels cI cZ a_t a_t_arcs a_t_levelArc a_t_levelIn a_t_levelNodes a_t_levelWeight a_t_weight a_t_split a_t_least a_t_most a_t_row a_t_isFree a_t_best a_t_above a_t_ordered a_t_parts t_nodes t_kinds t_levels t_size t_base t_arcs t_levelArc t_levelIn t_levelNodes t_levelWeight t_weight)) [0, 1, 2, 3, 4, 5, 6] (by decide) rfl) hN (va_recv hK hP (ci := 9) (q0 := 0) rfl rfl)) rfl rfl hl.1 rfl (lv_room (Nat.le_of_ble_eq_true rfl)) dd_Re_levelOf_1 ⟨Nat.zero_le _, Nat.zero_le _⟩) hP hD hS hA [0, 1, 2, 3, 4, 5, 6] [] [0, 1, 2, 3, 4, 5, 6] rfl rfl (by decide) (by decide) rfl (by decide) rfl (fun H locs hP hD hS => ?_)
  refine lv_iload_n hx hb dd_Re_levelOf_4 rfl (lv_at hl 1 rfl) ?_
  refine lv_i2l hx hb dd_Re_levelOf_5 rfl ?_
  refine lv_lconst (v := 0) hx hb dd_Re_levelOf_6 (by decide) ?_
  refine lv_aload_n hx hb dd_Re_levelOf_7 rfl (lv_at hl 0 rfl) ?_
  refine va_get (D := (dC, dI)) (ci := 9) (v := .int r1.1) (C := rr_Re) (T := tt_Re) (N := 20) hx hb hts (fun w h => gwc (inn_Re w h)) hown hK hP 0 rfl rfl 7 (by decide) (hts _ (gwc gw_710)) (fun _ h9 => h9) rfl dd_Re_levelOf_8 ?_
  refine lv_iconst (v := 1) hx hb dd_Re_levelOf_11 (by decide) ?_
  refine lv_isub hx hb dd_Re_levelOf_12 ?_
  refine lv_i2l hx hb dd_Re_levelOf_13 rfl ?_
  obtain ⟨r14, hr14, hf⟩ := bind_some hf
  refine xcalli (rest := []) (wc := (wd_Re_isIn cI cZ)) (w1 := (wd_Re_isIn cI cZ)) (wr := [(a_t, .inr (9, [.int t_nodes, .int t_kinds, .ref a_t_weight, .ref a_t_arcs, .ref a_t_split, .ref a_t_least, .ref a_t_most, .int r1.1, .ref a_t_levelNodes, .ref a_t_levelWeight, .ref a_t_levelArc, .ref a_t_levelIn, .int t_size, .int t_base, .ref a_t_row, .ref a_t_isFree, .ref a_t_best, .ref a_t_above, .ref a_t_ordered, .ref a_t_parts])), (a_t_arcs, .inl (cI, 1600, .inl t_arcs)), (a_t_levelArc, .inl (cI, 65600, .inl r1.2.1)), (a_t_levelIn, .inl (cI, 1640, .inl r1.2.2.1)), (a_t_levelNodes, .inl (cI, 41, .inl r1.2.2.2.1)), (a_t_levelWeight, .inl (cI, 1640, .inl r1.2.2.2.2)), (a_t_weight, .inl (cI, 40, .inl t_weight))]) (ws' := (wd_Re_levelOf cI cZ a_t a_t_arcs a_t_levelArc a_t_levelIn a_t_levelNodes a_t_levelWeight a_t_weight a_t_split a_t_least a_t_most a_t_row a_t_isFree a_t_best a_t_above a_t_ordered a_t_parts t_nodes t_kinds r1.1 t_size t_base t_arcs r1.2.1 r1.2.2.1 r1.2.2.2.1 r1.2.2.2.2 t_weight)) (va_runS (As := [.long x1.toInt64, .long (0 : Int64), .long ((r1.1 - 1).toInt64)]) ⟨hx, hb, hml, hown, hts⟩ (c_Re_isIn l dC dI cI cZ H.size x1.toInt64 (0 : Int64) ((r1.1 - 1).toInt64) r14 hr14) (va_cwS 3 hts (gS gw_699 gw_700 gw_61 gw_701) rfl rfl rfl (yd_Re_isIn).2 ⟨Nat.le_of_ble_eq_true rfl, Nat.le_of_ble_eq_true rfl⟩) (mkS hK (hP.sub (ws' := (wd_Re_isIn cI cZ)) [] rfl) (hD.sub (ws' := (wd_Re_isIn cI cZ)) [] (by decide) rfl) hN) rfl rfl hl.1 rfl (lv_room (Nat.le_of_ble_eq_true rfl)) dd_Re_levelOf_14 ⟨Nat.zero_le _, Nat.zero_le _⟩) hP hD hS hA [] [0, 1, 2, 3, 4, 5, 6] [0, 1, 2, 3, 4, 5, 6] rfl rfl (by decide) (by decide) rfl (by decide) rfl (fun H locs hP hD hS => ?_)
  refine lv_if_eq (tgt := 58) hx hb dd_Re_levelOf_17 (by decide) (fun cc => ?_) (fun cc => ?_)
  · skip
    have hf := if_t cc hf
    refine lv_iconst (v := -1) hx hb dd_Re_levelOf_58 (by decide) ?_
    have hf := Option.some.inj hf
    subst hf
    exact W.iret hx hb hr (fun t ht hW => ⟨⟨_, (), rfl, rfl, pst_of ht hP hD⟩, hS.F ht⟩) hS.2.2 dd_Re_levelOf_59
  · skip
    have hf := if_f cc hf
    refine lv_iload_n hx hb dd_Re_levelOf_20 rfl (lv_at hl 2 rfl) ?_
    refine lv_i2l hx hb dd_Re_levelOf_21 rfl ?_
    refine lv_lconst (v := 0) hx hb dd_Re_levelOf_22 (by decide) ?_
    refine lv_aload_n hx hb dd_Re_levelOf_23 rfl (lv_at hl 0 rfl) ?_
    refine va_get (D := (dC, dI)) (ci := 9) (v := .ref a_t_levelNodes) (C := rr_Re) (T := tt_Re) (N := 20) hx hb hts (fun w h => gwc (inn_Re w h)) hown hK hP 0 rfl rfl 8 (by decide) (hts _ (gwc gw_711)) (fun _ h9 => h9) rfl dd_Re_levelOf_24 ?_
    refine lv_iload_n hx hb dd_Re_levelOf_27 rfl (lv_at hl 1 rfl) ?_
    obtain ⟨k28, hf⟩ := ck_some hf
    refine va_iald hx hb hK hP 4 0 rfl rfl (okb_in k28) dd_Re_levelOf_28 ?_
    refine lv_iconst (v := 1) hx hb dd_Re_levelOf_29 (by decide) ?_
    refine lv_isub hx hb dd_Re_levelOf_30 ?_
    refine lv_i2l hx hb dd_Re_levelOf_31 rfl ?_
    obtain ⟨r32, hr32, hf⟩ := bind_some hf
    refine xcalli (rest := []) (wc := (wd_Re_isIn cI cZ)) (w1 := (wd_Re_isIn cI cZ)) (wr := [(a_t, .inr (9, [.int t_nodes, .int t_kinds, .ref a_t_weight, .ref a_t_arcs, .ref a_t_split, .ref a_t_least, .ref a_t_most, .int r1.1, .ref a_t_levelNodes, .ref a_t_levelWeight, .ref a_t_levelArc, .ref a_t_levelIn, .int t_size, .int t_base, .ref a_t_row, .ref a_t_isFree, .ref a_t_best, .ref a_t_above, .ref a_t_ordered, .ref a_t_parts])), (a_t_arcs, .inl (cI, 1600, .inl t_arcs)), (a_t_levelArc, .inl (cI, 65600, .inl r1.2.1)), (a_t_levelIn, .inl (cI, 1640, .inl r1.2.2.1)), (a_t_levelNodes, .inl (cI, 41, .inl r1.2.2.2.1)), (a_t_levelWeight, .inl (cI, 1640, .inl r1.2.2.2.2)), (a_t_weight, .inl (cI, 40, .inl t_weight))]) (ws' := (wd_Re_levelOf cI cZ a_t a_t_arcs a_t_levelArc a_t_levelIn a_t_levelNodes a_t_levelWeight a_t_weight a_t_split a_t_least a_t_most a_t_row a_t_isFree a_t_best a_t_above a_t_ordered a_t_parts t_nodes t_kinds r1.1 t_size t_base t_arcs r1.2.1 r1.2.2.1 r1.2.2.2.1 r1.2.2.2.2 t_weight)) (va_runS (As := [.long x2.toInt64, .long (0 : Int64), .long (((r1.2.2.2.1 (x1).toNatClampNeg) - 1).toInt64)]) ⟨hx, hb, hml, hown, hts⟩ (c_Re_isIn l dC dI cI cZ H.size x2.toInt64 (0 : Int64) (((r1.2.2.2.1 (x1).toNatClampNeg) - 1).toInt64) r32 hr32) (va_cwS 3 hts (gS gw_699 gw_700 gw_61 gw_701) rfl rfl rfl (yd_Re_isIn).2 ⟨Nat.le_of_ble_eq_true rfl, Nat.le_of_ble_eq_true rfl⟩) (mkS hK (hP.sub (ws' := (wd_Re_isIn cI cZ)) [] rfl) (hD.sub (ws' := (wd_Re_isIn cI cZ)) [] (by decide) rfl) hN) rfl rfl hl.1 rfl (lv_room (Nat.le_of_ble_eq_true rfl)) dd_Re_levelOf_32 ⟨Nat.zero_le _, Nat.zero_le _⟩) hP hD hS hA [] [0, 1, 2, 3, 4, 5, 6] [0, 1, 2, 3, 4, 5, 6] rfl rfl (by decide) (by decide) rfl (by decide) rfl (fun H locs hP hD hS => ?_)
    refine lv_if_eq (tgt := 58) hx hb dd_Re_levelOf_35 (by decide) (fun cc => ?_) (fun cc => ?_)
    · skip
      have hf := if_t cc hf
      refine lv_iconst (v := -1) hx hb dd_Re_levelOf_58 (by decide) ?_
      have hf := Option.some.inj hf
      subst hf
      exact W.iret hx hb hr (fun t ht hW => ⟨⟨_, (), rfl, rfl, pst_of ht hP hD⟩, hS.F ht⟩) hS.2.2 dd_Re_levelOf_59
    · skip
      have hf := if_f cc hf
      refine lv_iload_n hx hb dd_Re_levelOf_38 rfl (lv_at hl 3 rfl) ?_
      refine lv_i2l hx hb dd_Re_levelOf_39 rfl ?_
      refine lv_ldc2 (v := -1) hx hb hown (hts _ (gwc gw_816)) dd_Re_levelOf_40 ?_
      refine lv_aload_n hx hb dd_Re_levelOf_43 rfl (lv_at hl 0 rfl) ?_
      refine va_get (D := (dC, dI)) (ci := 9) (v := .ref a_t_levelNodes) (C := rr_Re) (T := tt_Re) (N := 20) hx hb hts (fun w h => gwc (inn_Re w h)) hown hK hP 0 rfl rfl 8 (by decide) (hts _ (gwc gw_711)) (fun _ h9 => h9) rfl dd_Re_levelOf_44 ?_
      refine lv_iload_n hx hb dd_Re_levelOf_47 rfl (lv_at hl 1 rfl) ?_
      obtain ⟨k48, hf⟩ := ck_some hf
      refine va_iald hx hb hK hP 4 0 rfl rfl (okb_in k48) dd_Re_levelOf_48 ?_
      refine lv_iconst (v := 1) hx hb dd_Re_levelOf_49 (by decide) ?_
      refine lv_isub hx hb dd_Re_levelOf_50 ?_
      refine lv_i2l hx hb dd_Re_levelOf_51 rfl ?_
      obtain ⟨r52, hr52, hf⟩ := bind_some hf
      refine xcalli (rest := []) (wc := (wd_Re_isIn cI cZ)) (w1 := (wd_Re_isIn cI cZ)) (wr := [(a_t, .inr (9, [.int t_nodes, .int t_kinds, .ref a_t_weight, .ref a_t_arcs, .ref a_t_split, .ref a_t_least, .ref a_t_most, .int r1.1, .ref a_t_levelNodes, .ref a_t_levelWeight, .ref a_t_levelArc, .ref a_t_levelIn, .int t_size, .int t_base, .ref a_t_row, .ref a_t_isFree, .ref a_t_best, .ref a_t_above, .ref a_t_ordered, .ref a_t_parts])), (a_t_arcs, .inl (cI, 1600, .inl t_arcs)), (a_t_levelArc, .inl (cI, 65600, .inl r1.2.1)), (a_t_levelIn, .inl (cI, 1640, .inl r1.2.2.1)), (a_t_levelNodes, .inl (cI, 41, .inl r1.2.2.2.1)), (a_t_levelWeight, .inl (cI, 1640, .inl r1.2.2.2.2)), (a_t_weight, .inl (cI, 40, .inl t_weight))]) (ws' := (wd_Re_levelOf cI cZ a_t a_t_arcs a_t_levelArc a_t_levelIn a_t_levelNodes a_t_levelWeight a_t_weight a_t_split a_t_least a_t_most a_t_row a_t_isFree a_t_best a_t_above a_t_ordered a_t_parts t_nodes t_kinds r1.1 t_size t_base t_arcs r1.2.1 r1.2.2.1 r1.2.2.2.1 r1.2.2.2.2 t_weight)) (va_runS (As := [.long x3.toInt64, .long (-1 : Int64), .long (((r1.2.2.2.1 (x1).toNatClampNeg) - 1).toInt64)]) ⟨hx, hb, hml, hown, hts⟩ (c_Re_isIn l dC dI cI cZ H.size x3.toInt64 (-1 : Int64) (((r1.2.2.2.1 (x1).toNatClampNeg) - 1).toInt64) r52 hr52) (va_cwS 3 hts (gS gw_699 gw_700 gw_61 gw_701) rfl rfl rfl (yd_Re_isIn).2 ⟨Nat.le_of_ble_eq_true rfl, Nat.le_of_ble_eq_true rfl⟩) (mkS hK (hP.sub (ws' := (wd_Re_isIn cI cZ)) [] rfl) (hD.sub (ws' := (wd_Re_isIn cI cZ)) [] (by decide) rfl) hN) rfl rfl hl.1 rfl (lv_room (Nat.le_of_ble_eq_true rfl)) dd_Re_levelOf_52 ⟨Nat.zero_le _, Nat.zero_le _⟩) hP hD hS hA [] [0, 1, 2, 3, 4, 5, 6] [0, 1, 2, 3, 4, 5, 6] rfl rfl (by decide) (by decide) rfl (by decide) rfl (fun H locs hP hD hS => ?_)
      refine lv_if_ne (tgt := 60) hx hb dd_Re_levelOf_55 (by decide) (fun cc => ?_) (fun cc => ?_)
      · skip
        have hf := if_f cc hf
        refine lv_iload_n hx hb dd_Re_levelOf_60 rfl (lv_at hl 3 rfl) ?_
        refine lv_if_ge (tgt := 78) hx hb dd_Re_levelOf_61 (by decide) (fun cc => ?_) (fun cc => ?_)
        · skip
          have hf := if_t cc hf
          refine lv_aload_n hx hb dd_Re_levelOf_78 rfl (lv_at hl 0 rfl) ?_
          refine va_get (D := (dC, dI)) (ci := 9) (v := .ref a_t_levelArc) (C := rr_Re) (T := tt_Re) (N := 20) hx hb hts (fun w h => gwc (inn_Re w h)) hown hK hP 0 rfl rfl 10 (by decide) (hts _ (gwc gw_713)) (fun _ h9 => h9) rfl dd_Re_levelOf_79 ?_
          refine lv_sipush (v := 1600) hx hb dd_Re_levelOf_82 (by decide) ?_
          refine lv_iload_n hx hb dd_Re_levelOf_85 rfl (lv_at hl 1 rfl) ?_
          refine lv_imul hx hb dd_Re_levelOf_86 ?_
          refine lv_bipush (v := 40) hx hb dd_Re_levelOf_87 (by decide) ?_
          refine lv_iload_n hx hb dd_Re_levelOf_89 rfl (lv_at hl 2 rfl) ?_
          refine lv_imul hx hb dd_Re_levelOf_90 ?_
          refine lv_iadd hx hb dd_Re_levelOf_91 ?_
          refine lv_iload_n hx hb dd_Re_levelOf_92 rfl (lv_at hl 3 rfl) ?_
          refine lv_iadd hx hb dd_Re_levelOf_93 ?_
          obtain ⟨k94, hf⟩ := ck_some hf
          refine va_iald hx hb hK hP 2 0 rfl rfl (okb_in k94) dd_Re_levelOf_94 ?_
          have hf := Option.some.inj hf
          subst hf
          exact W.iret hx hb hr (fun t ht hW => ⟨⟨_, (), rfl, rfl, pst_of ht hP hD⟩, hS.F ht⟩) hS.2.2 dd_Re_levelOf_95
        · skip
          have hf := if_f cc hf
          refine lv_aload_n hx hb dd_Re_levelOf_64 rfl (lv_at hl 0 rfl) ?_
          refine va_get (D := (dC, dI)) (ci := 9) (v := .ref a_t_levelWeight) (C := rr_Re) (T := tt_Re) (N := 20) hx hb hts (fun w h => gwc (inn_Re w h)) hown hK hP 0 rfl rfl 9 (by decide) (hts _ (gwc gw_712)) (fun _ h9 => h9) rfl dd_Re_levelOf_65 ?_
          refine lv_bipush (v := 40) hx hb dd_Re_levelOf_68 (by decide) ?_
          refine lv_iload_n hx hb dd_Re_levelOf_70 rfl (lv_at hl 1 rfl) ?_
          refine lv_imul hx hb dd_Re_levelOf_71 ?_
          refine lv_iload_n hx hb dd_Re_levelOf_72 rfl (lv_at hl 2 rfl) ?_
          refine lv_iadd hx hb dd_Re_levelOf_73 ?_
          obtain ⟨k74, hf⟩ := ck_some hf
          refine va_iald hx hb hK hP 5 0 rfl rfl (okb_in k74) dd_Re_levelOf_74 ?_
          refine lv_goto (tgt := 95) hx hb dd_Re_levelOf_75 (by decide) ?_
          have hf := Option.some.inj hf
          subst hf
          exact W.iret hx hb hr (fun t ht hW => ⟨⟨_, (), rfl, rfl, pst_of ht hP hD⟩, hS.F ht⟩) hS.2.2 dd_Re_levelOf_95
      · skip
        have hf := if_t cc hf
        refine lv_iconst (v := -1) hx hb dd_Re_levelOf_58 (by decide) ?_
        have hf := Option.some.inj hf
        subst hf
        exact W.iret hx hb hr (fun t ht hW => ⟨⟨_, (), rfl, rfl, pst_of ht hP hD⟩, hS.F ht⟩) hS.2.2 dd_Re_levelOf_59
abbrev wd_Re_take (cI cZ : ClassId) (a_t a_t_levelNodes a_t_weight a_t_arcs a_t_split a_t_least a_t_most a_t_levelWeight a_t_levelArc a_t_levelIn a_t_row a_t_isFree a_t_best a_t_above a_t_ordered a_t_parts : Nat) (t_nodes : Int32) (t_kinds : Int32) (t_levels : Int32) (t_size : Int32) (t_base : Int32) (t_levelNodes : Nat → Int32) : va_W := [(a_t, .inr (9, [.int t_nodes, .int t_kinds, .ref a_t_weight, .ref a_t_arcs, .ref a_t_split, .ref a_t_least, .ref a_t_most, .int t_levels, .ref a_t_levelNodes, .ref a_t_levelWeight, .ref a_t_levelArc, .ref a_t_levelIn, .int t_size, .int t_base, .ref a_t_row, .ref a_t_isFree, .ref a_t_best, .ref a_t_above, .ref a_t_ordered, .ref a_t_parts])), (a_t_levelNodes, .inl (cI, 41, .inl t_levelNodes))]
set_option maxRecDepth 100000 in
set_option maxHeartbeats 4000000 in
theorem c_Re_take (l : Launch) (dC : Nat → ClassId) (dI : Nat → Nat → Nat) (cI cZ : ClassId) (a_t a_t_levelNodes a_t_weight a_t_arcs a_t_split a_t_least a_t_most a_t_levelWeight a_t_levelArc a_t_levelIn a_t_row a_t_isFree a_t_best a_t_above a_t_ordered a_t_parts sz : Nat) (x1 : Int32) (t_nodes : Int32) (t_kinds : Int32) (t_levels : Int32) (t_size : Int32) (t_base : Int32) (t_levelNodes : Nat → Int32) (out : Int32 × Int32) (hf : f_Re_take x1 t_levelNodes = some out) :
    Met l yy_Re_take wq_Re_take ({ frames := 0, cells := 0, slots := 0, locals := 0 }) (va_Pc ([.ref a_t, .int x1] : List Value) (pre_ (dC, dI) cI cZ sz (wd_Re_take cI cZ a_t a_t_levelNodes a_t_weight a_t_arcs a_t_split a_t_least a_t_most a_t_levelWeight a_t_levelArc a_t_levelIn a_t_row a_t_isFree a_t_best a_t_above a_t_ordered a_t_parts t_nodes t_kinds t_levels t_size t_base t_levelNodes))) (va_Qv (fun _ : Unit => True) (fun _ => pst (dC, dI) (va_A (wd_Re_take cI cZ a_t a_t_levelNodes a_t_weight a_t_arcs a_t_split a_t_least a_t_most a_t_levelWeight a_t_levelArc a_t_levelIn a_t_row a_t_isFree a_t_best a_t_above a_t_ordered a_t_parts t_nodes t_kinds t_levels t_size t_base t_levelNodes) sz) (wd_Re_take cI cZ a_t a_t_levelNodes a_t_weight a_t_arcs a_t_split a_t_least a_t_most a_t_levelWeight a_t_levelArc a_t_levelIn a_t_row a_t_isFree a_t_best a_t_above a_t_ordered a_t_parts t_nodes t_kinds t_levels out.1 out.2 t_levelNodes)) (va_A (wd_Re_take cI cZ a_t a_t_levelNodes a_t_weight a_t_arcs a_t_split a_t_least a_t_most a_t_levelWeight a_t_levelArc a_t_levelIn a_t_row a_t_isFree a_t_best a_t_above a_t_ordered a_t_parts t_nodes t_kinds t_levels t_size t_base t_levelNodes) sz)) 0 0 (va_A (wd_Re_take cI cZ a_t a_t_levelNodes a_t_weight a_t_arcs a_t_split a_t_least a_t_most a_t_levelWeight a_t_levelArc a_t_levelIn a_t_row a_t_isFree a_t_best a_t_above a_t_ordered a_t_parts t_nodes t_kinds t_levels t_size t_base t_levelNodes) sz) := by
  refine Met.ofW (cc := cc_Re_take) (maxL := 2) (ret := none) (by decide) rfl ?_
  intro p e s m args below meth c s₁ B hml hv
  obtain ⟨rfl, hsz, hP, hK, hD0, hN⟩ := hv
  have hx := B.exec
  have hb := B.bytes
  have hr := B.returns
  have hts := atoms_spec (ws := wq_Re_take) B.pre
  have hown : s.vm.findClass rr_Re = some m.cls := findClass_of_methodNamed B.named
  have hlocks := B.notSynchronized
  subst hsz
  have hD := hD0.self (sz := s.heap.size)
  generalize hAe : va_A (wd_Re_take cI cZ a_t a_t_levelNodes a_t_weight a_t_arcs a_t_split a_t_least a_t_most a_t_levelWeight a_t_levelArc a_t_levelIn a_t_row a_t_isFree a_t_best a_t_above a_t_ordered a_t_parts t_nodes t_kinds t_levels t_size t_base t_levelNodes) s.heap.size = A at hD ⊢
  have hA : ∀ q : Nat, s.heap.size ≤ q → A q := fun q h => by rw [← hAe]; exact Or.inr h
  obtain ⟨H, hH⟩ : ∃ H : Heap, H = s.heap := ⟨_, rfl⟩
  have hS : va_S A s.heap H [] := by rw [hH]; exact va_S.rf
  have hl := lv_entry (([.ref a_t, .int x1] : List Value)) (n := 2) (Nat.le_of_ble_eq_true rfl)
  rw [lg_entry_eq]
  generalize (lg_sl (([.ref a_t, .int x1] : List Value)) ++ List.replicate (2 - (lg_sl (([.ref a_t, .int x1] : List Value))).length) Slot.unset).toArray = ls at hl ⊢
  have hl : lv_has ls 2 [(0, .ref a_t), (1, .int x1)] := hl
  rw [← hH] at hP ⊢
  have hP : va_P (dC, dI) clsL (wd_Re_take cI cZ a_t a_t_levelNodes a_t_weight a_t_arcs a_t_split a_t_least a_t_most a_t_levelWeight a_t_levelArc a_t_levelIn a_t_row a_t_isFree a_t_best a_t_above a_t_ordered a_t_parts t_nodes t_kinds t_levels t_size t_base t_levelNodes) H := hP
  unfold f_Re_take at hf
  refine lv_aload_n hx hb dd_Re_take_0 rfl (lv_at hl 0 rfl) ?_
  refine lv_aload_n hx hb dd_Re_take_1 rfl (lv_at hl 0 rfl) ?_
  refine va_get (D := (dC, dI)) (ci := 9) (v := .ref a_t_levelNodes) (C := rr_Re) (T := tt_Re) (N := 20) hx hb hts (fun w h => gwc (inn_Re w h)) hown hK hP 0 rfl rfl 8 (by decide) (hts _ (gwc gw_711)) (fun _ h9 => h9) rfl dd_Re_take_2 ?_
  refine lv_iload_n hx hb dd_Re_take_5 rfl (lv_at hl 1 rfl) ?_
  obtain ⟨k6, hf⟩ := ck_some hf
  refine va_iald hx hb hK hP 1 0 rfl rfl (okb_in k6) dd_Re_take_6 ?_
  refine va_put (D := (dC, dI)) (ci := 9) (v := .int (t_levelNodes (x1).toNatClampNeg)) (ty := .int) (C := rr_Re) (T := tt_Re) (N := 20) hx hb hts (fun w h => gwc (inn_Re w h)) tf_Re to_Re tn_Re hown hK hP hD hS 0 rfl rfl 12 (by decide) (hts _ (gwc gw_715)) (fun _ h9 => h9) rfl (by decide +kernel) rfl rfl (Nat.le_of_ble_eq_true rfl) dd_Re_take_7 (fun H locs hP hD hS => ?_)
  have hP : va_P (dC, dI) clsL (wd_Re_take cI cZ a_t a_t_levelNodes a_t_weight a_t_arcs a_t_split a_t_least a_t_most a_t_levelWeight a_t_levelArc a_t_levelIn a_t_row a_t_isFree a_t_best a_t_above a_t_ordered a_t_parts t_nodes t_kinds t_levels (t_levelNodes (x1).toNatClampNeg) t_base t_levelNodes) H := hP
  have hD : va_D A (wd_Re_take cI cZ a_t a_t_levelNodes a_t_weight a_t_arcs a_t_split a_t_least a_t_most a_t_levelWeight a_t_levelArc a_t_levelIn a_t_row a_t_isFree a_t_best a_t_above a_t_ordered a_t_parts t_nodes t_kinds t_levels (t_levelNodes (x1).toNatClampNeg) t_base t_levelNodes) := hD
  refine lv_aload_n hx hb dd_Re_take_10 rfl (lv_at hl 0 rfl) ?_
  refine lv_iload_n hx hb dd_Re_take_11 rfl (lv_at hl 1 rfl) ?_
  refine va_put (D := (dC, dI)) (ci := 9) (v := .int x1) (ty := .int) (C := rr_Re) (T := tt_Re) (N := 20) hx hb hts (fun w h => gwc (inn_Re w h)) tf_Re to_Re tn_Re hown hK hP hD hS 0 rfl rfl 13 (by decide) (hts _ (gwc gw_716)) (fun _ h9 => h9) rfl (by decide +kernel) rfl rfl (Nat.le_of_ble_eq_true rfl) dd_Re_take_12 (fun H locs hP hD hS => ?_)
  have hP : va_P (dC, dI) clsL (wd_Re_take cI cZ a_t a_t_levelNodes a_t_weight a_t_arcs a_t_split a_t_least a_t_most a_t_levelWeight a_t_levelArc a_t_levelIn a_t_row a_t_isFree a_t_best a_t_above a_t_ordered a_t_parts t_nodes t_kinds t_levels (t_levelNodes (x1).toNatClampNeg) x1 t_levelNodes) H := hP
  have hD : va_D A (wd_Re_take cI cZ a_t a_t_levelNodes a_t_weight a_t_arcs a_t_split a_t_least a_t_most a_t_levelWeight a_t_levelArc a_t_levelIn a_t_row a_t_isFree a_t_best a_t_above a_t_ordered a_t_parts t_nodes t_kinds t_levels (t_levelNodes (x1).toNatClampNeg) x1 t_levelNodes) := hD
  have hf := Option.some.inj hf
  subst hf
  exact W.vret hx hb hr (fun t ht hW => ⟨⟨(), rfl, trivial, pst_of ht hP hD⟩, hS.F ht⟩) hS.2.2 dd_Re_take_15
abbrev wd_Re_weightOf (cI cZ : ClassId) (a_t a_t_levelWeight a_t_weight a_t_arcs a_t_split a_t_least a_t_most a_t_levelNodes a_t_levelArc a_t_levelIn a_t_row a_t_isFree a_t_best a_t_above a_t_ordered a_t_parts : Nat) (t_nodes : Int32) (t_kinds : Int32) (t_levels : Int32) (t_size : Int32) (t_base : Int32) (t_levelWeight : Nat → Int32) : va_W := [(a_t, .inr (9, [.int t_nodes, .int t_kinds, .ref a_t_weight, .ref a_t_arcs, .ref a_t_split, .ref a_t_least, .ref a_t_most, .int t_levels, .ref a_t_levelNodes, .ref a_t_levelWeight, .ref a_t_levelArc, .ref a_t_levelIn, .int t_size, .int t_base, .ref a_t_row, .ref a_t_isFree, .ref a_t_best, .ref a_t_above, .ref a_t_ordered, .ref a_t_parts])), (a_t_levelWeight, .inl (cI, 1640, .inl t_levelWeight))]
set_option maxRecDepth 100000 in
set_option maxHeartbeats 4000000 in
theorem c_Re_weightOf (l : Launch) (dC : Nat → ClassId) (dI : Nat → Nat → Nat) (cI cZ : ClassId) (a_t a_t_levelWeight a_t_weight a_t_arcs a_t_split a_t_least a_t_most a_t_levelNodes a_t_levelArc a_t_levelIn a_t_row a_t_isFree a_t_best a_t_above a_t_ordered a_t_parts sz : Nat) (x1 : Int32) (t_nodes : Int32) (t_kinds : Int32) (t_levels : Int32) (t_size : Int32) (t_base : Int32) (t_levelWeight : Nat → Int32) (out : Int32) (hf : f_Re_weightOf x1 t_base t_levelWeight = some out) :
    Met l yy_Re_weightOf wq_Re_weightOf ({ frames := 0, cells := 0, slots := 0, locals := 0 }) (va_Pc ([.ref a_t, .int x1] : List Value) (pre_ (dC, dI) cI cZ sz (wd_Re_weightOf cI cZ a_t a_t_levelWeight a_t_weight a_t_arcs a_t_split a_t_least a_t_most a_t_levelNodes a_t_levelArc a_t_levelIn a_t_row a_t_isFree a_t_best a_t_above a_t_ordered a_t_parts t_nodes t_kinds t_levels t_size t_base t_levelWeight))) (va_Qi (fun (r : Int32) (_ : Unit) => r = out) (fun _ => pst (dC, dI) (va_A (wd_Re_weightOf cI cZ a_t a_t_levelWeight a_t_weight a_t_arcs a_t_split a_t_least a_t_most a_t_levelNodes a_t_levelArc a_t_levelIn a_t_row a_t_isFree a_t_best a_t_above a_t_ordered a_t_parts t_nodes t_kinds t_levels t_size t_base t_levelWeight) sz) (wd_Re_weightOf cI cZ a_t a_t_levelWeight a_t_weight a_t_arcs a_t_split a_t_least a_t_most a_t_levelNodes a_t_levelArc a_t_levelIn a_t_row a_t_isFree a_t_best a_t_above a_t_ordered a_t_parts t_nodes t_kinds t_levels t_size t_base t_levelWeight)) (va_A (wd_Re_weightOf cI cZ a_t a_t_levelWeight a_t_weight a_t_arcs a_t_split a_t_least a_t_most a_t_levelNodes a_t_levelArc a_t_levelIn a_t_row a_t_isFree a_t_best a_t_above a_t_ordered a_t_parts t_nodes t_kinds t_levels t_size t_base t_levelWeight) sz)) 0 0 (va_A (wd_Re_weightOf cI cZ a_t a_t_levelWeight a_t_weight a_t_arcs a_t_split a_t_least a_t_most a_t_levelNodes a_t_levelArc a_t_levelIn a_t_row a_t_isFree a_t_best a_t_above a_t_ordered a_t_parts t_nodes t_kinds t_levels t_size t_base t_levelWeight) sz) := by
  refine Met.ofW (cc := cc_Re_weightOf) (maxL := 2) (ret := (some .int)) (by decide) rfl ?_
  intro p e s m args below meth c s₁ B hml hv
  obtain ⟨rfl, hsz, hP, hK, hD0, hN⟩ := hv
  have hx := B.exec
  have hb := B.bytes
  have hr := B.returns
  have hts := atoms_spec (ws := wq_Re_weightOf) B.pre
  have hown : s.vm.findClass rr_Re = some m.cls := findClass_of_methodNamed B.named
  have hlocks := B.notSynchronized
  subst hsz
  have hD := hD0.self (sz := s.heap.size)
  generalize hAe : va_A (wd_Re_weightOf cI cZ a_t a_t_levelWeight a_t_weight a_t_arcs a_t_split a_t_least a_t_most a_t_levelNodes a_t_levelArc a_t_levelIn a_t_row a_t_isFree a_t_best a_t_above a_t_ordered a_t_parts t_nodes t_kinds t_levels t_size t_base t_levelWeight) s.heap.size = A at hD ⊢
  have hA : ∀ q : Nat, s.heap.size ≤ q → A q := fun q h => by rw [← hAe]; exact Or.inr h
  obtain ⟨H, hH⟩ : ∃ H : Heap, H = s.heap := ⟨_, rfl⟩
  have hS : va_S A s.heap H [] := by rw [hH]; exact va_S.rf
  have hl := lv_entry (([.ref a_t, .int x1] : List Value)) (n := 2) (Nat.le_of_ble_eq_true rfl)
  rw [lg_entry_eq]
  generalize (lg_sl (([.ref a_t, .int x1] : List Value)) ++ List.replicate (2 - (lg_sl (([.ref a_t, .int x1] : List Value))).length) Slot.unset).toArray = ls at hl ⊢
  have hl : lv_has ls 2 [(0, .ref a_t), (1, .int x1)] := hl
  rw [← hH] at hP ⊢
  have hP : va_P (dC, dI) clsL (wd_Re_weightOf cI cZ a_t a_t_levelWeight a_t_weight a_t_arcs a_t_split a_t_least a_t_most a_t_levelNodes a_t_levelArc a_t_levelIn a_t_row a_t_isFree a_t_best a_t_above a_t_ordered a_t_parts t_nodes t_kinds t_levels t_size t_base t_levelWeight) H := hP
  unfold f_Re_weightOf at hf
  refine lv_aload_n hx hb dd_Re_weightOf_0 rfl (lv_at hl 0 rfl) ?_
  refine va_get (D := (dC, dI)) (ci := 9) (v := .ref a_t_levelWeight) (C := rr_Re) (T := tt_Re) (N := 20) hx hb hts (fun w h => gwc (inn_Re w h)) hown hK hP 0 rfl rfl 9 (by decide) (hts _ (gwc gw_712)) (fun _ h9 => h9) rfl dd_Re_weightOf_1 ?_
  refine lv_bipush (v := 40) hx hb dd_Re_weightOf_4 (by decide) ?_
  refine lv_aload_n hx hb dd_Re_weightOf_6 rfl (lv_at hl 0 rfl) ?_
  refine va_get (D := (dC, dI)) (ci := 9) (v := .int t_base) (C := rr_Re) (T := tt_Re) (N := 20) hx hb hts (fun w h => gwc (inn_Re w h)) hown hK hP 0 rfl rfl 13 (by decide) (hts _ (gwc gw_716)) (fun _ h9 => h9) rfl dd_Re_weightOf_7 ?_
  refine lv_imul hx hb dd_Re_weightOf_10 ?_
  refine lv_iload_n hx hb dd_Re_weightOf_11 rfl (lv_at hl 1 rfl) ?_
  refine lv_iadd hx hb dd_Re_weightOf_12 ?_
  obtain ⟨k13, hf⟩ := ck_some hf
  refine va_iald hx hb hK hP 1 0 rfl rfl (okb_in k13) dd_Re_weightOf_13 ?_
  have hf := Option.some.inj hf
  subst hf
  exact W.iret hx hb hr (fun t ht hW => ⟨⟨_, (), rfl, rfl, pst_of ht hP hD⟩, hS.F ht⟩) hS.2.2 dd_Re_weightOf_14
abbrev wd_Re_arcOf (cI cZ : ClassId) (a_t a_t_levelArc a_t_weight a_t_arcs a_t_split a_t_least a_t_most a_t_levelNodes a_t_levelWeight a_t_levelIn a_t_row a_t_isFree a_t_best a_t_above a_t_ordered a_t_parts : Nat) (t_nodes : Int32) (t_kinds : Int32) (t_levels : Int32) (t_size : Int32) (t_base : Int32) (t_levelArc : Nat → Int32) : va_W := [(a_t, .inr (9, [.int t_nodes, .int t_kinds, .ref a_t_weight, .ref a_t_arcs, .ref a_t_split, .ref a_t_least, .ref a_t_most, .int t_levels, .ref a_t_levelNodes, .ref a_t_levelWeight, .ref a_t_levelArc, .ref a_t_levelIn, .int t_size, .int t_base, .ref a_t_row, .ref a_t_isFree, .ref a_t_best, .ref a_t_above, .ref a_t_ordered, .ref a_t_parts])), (a_t_levelArc, .inl (cI, 65600, .inl t_levelArc))]
set_option maxRecDepth 100000 in
set_option maxHeartbeats 4000000 in
theorem c_Re_arcOf (l : Launch) (dC : Nat → ClassId) (dI : Nat → Nat → Nat) (cI cZ : ClassId) (a_t a_t_levelArc a_t_weight a_t_arcs a_t_split a_t_least a_t_most a_t_levelNodes a_t_levelWeight a_t_levelIn a_t_row a_t_isFree a_t_best a_t_above a_t_ordered a_t_parts sz : Nat) (x1 : Int32) (x2 : Int32) (t_nodes : Int32) (t_kinds : Int32) (t_levels : Int32) (t_size : Int32) (t_base : Int32) (t_levelArc : Nat → Int32) (out : Int32) (hf : f_Re_arcOf x1 x2 t_base t_levelArc = some out) :
    Met l yy_Re_arcOf wq_Re_arcOf ({ frames := 0, cells := 0, slots := 0, locals := 0 }) (va_Pc ([.ref a_t, .int x1, .int x2] : List Value) (pre_ (dC, dI) cI cZ sz (wd_Re_arcOf cI cZ a_t a_t_levelArc a_t_weight a_t_arcs a_t_split a_t_least a_t_most a_t_levelNodes a_t_levelWeight a_t_levelIn a_t_row a_t_isFree a_t_best a_t_above a_t_ordered a_t_parts t_nodes t_kinds t_levels t_size t_base t_levelArc))) (va_Qi (fun (r : Int32) (_ : Unit) => r = out) (fun _ => pst (dC, dI) (va_A (wd_Re_arcOf cI cZ a_t a_t_levelArc a_t_weight a_t_arcs a_t_split a_t_least a_t_most a_t_levelNodes a_t_levelWeight a_t_levelIn a_t_row a_t_isFree a_t_best a_t_above a_t_ordered a_t_parts t_nodes t_kinds t_levels t_size t_base t_levelArc) sz) (wd_Re_arcOf cI cZ a_t a_t_levelArc a_t_weight a_t_arcs a_t_split a_t_least a_t_most a_t_levelNodes a_t_levelWeight a_t_levelIn a_t_row a_t_isFree a_t_best a_t_above a_t_ordered a_t_parts t_nodes t_kinds t_levels t_size t_base t_levelArc)) (va_A (wd_Re_arcOf cI cZ a_t a_t_levelArc a_t_weight a_t_arcs a_t_split a_t_least a_t_most a_t_levelNodes a_t_levelWeight a_t_levelIn a_t_row a_t_isFree a_t_best a_t_above a_t_ordered a_t_parts t_nodes t_kinds t_levels t_size t_base t_levelArc) sz)) 0 0 (va_A (wd_Re_arcOf cI cZ a_t a_t_levelArc a_t_weight a_t_arcs a_t_split a_t_least a_t_most a_t_levelNodes a_t_levelWeight a_t_levelIn a_t_row a_t_isFree a_t_best a_t_above a_t_ordered a_t_parts t_nodes t_kinds t_levels t_size t_base t_levelArc) sz) := by
  refine Met.ofW (cc := cc_Re_arcOf) (maxL := 3) (ret := (some .int)) (by decide) rfl ?_
  intro p e s m args below meth c s₁ B hml hv
  obtain ⟨rfl, hsz, hP, hK, hD0, hN⟩ := hv
  have hx := B.exec
  have hb := B.bytes
  have hr := B.returns
  have hts := atoms_spec (ws := wq_Re_arcOf) B.pre
  have hown : s.vm.findClass rr_Re = some m.cls := findClass_of_methodNamed B.named
  have hlocks := B.notSynchronized
  subst hsz
  have hD := hD0.self (sz := s.heap.size)
  generalize hAe : va_A (wd_Re_arcOf cI cZ a_t a_t_levelArc a_t_weight a_t_arcs a_t_split a_t_least a_t_most a_t_levelNodes a_t_levelWeight a_t_levelIn a_t_row a_t_isFree a_t_best a_t_above a_t_ordered a_t_parts t_nodes t_kinds t_levels t_size t_base t_levelArc) s.heap.size = A at hD ⊢
  have hA : ∀ q : Nat, s.heap.size ≤ q → A q := fun q h => by rw [← hAe]; exact Or.inr h
  obtain ⟨H, hH⟩ : ∃ H : Heap, H = s.heap := ⟨_, rfl⟩
  have hS : va_S A s.heap H [] := by rw [hH]; exact va_S.rf
  have hl := lv_entry (([.ref a_t, .int x1, .int x2] : List Value)) (n := 3) (Nat.le_of_ble_eq_true rfl)
  rw [lg_entry_eq]
  generalize (lg_sl (([.ref a_t, .int x1, .int x2] : List Value)) ++ List.replicate (3 - (lg_sl (([.ref a_t, .int x1, .int x2] : List Value))).length) Slot.unset).toArray = ls at hl ⊢
  have hl : lv_has ls 3 [(0, .ref a_t), (1, .int x1), (2, .int x2)] := hl
  rw [← hH] at hP ⊢
  have hP : va_P (dC, dI) clsL (wd_Re_arcOf cI cZ a_t a_t_levelArc a_t_weight a_t_arcs a_t_split a_t_least a_t_most a_t_levelNodes a_t_levelWeight a_t_levelIn a_t_row a_t_isFree a_t_best a_t_above a_t_ordered a_t_parts t_nodes t_kinds t_levels t_size t_base t_levelArc) H := hP
  unfold f_Re_arcOf at hf
  refine lv_aload_n hx hb dd_Re_arcOf_0 rfl (lv_at hl 0 rfl) ?_
  refine va_get (D := (dC, dI)) (ci := 9) (v := .ref a_t_levelArc) (C := rr_Re) (T := tt_Re) (N := 20) hx hb hts (fun w h => gwc (inn_Re w h)) hown hK hP 0 rfl rfl 10 (by decide) (hts _ (gwc gw_713)) (fun _ h9 => h9) rfl dd_Re_arcOf_1 ?_
  refine lv_sipush (v := 1600) hx hb dd_Re_arcOf_4 (by decide) ?_
  refine lv_aload_n hx hb dd_Re_arcOf_7 rfl (lv_at hl 0 rfl) ?_
  refine va_get (D := (dC, dI)) (ci := 9) (v := .int t_base) (C := rr_Re) (T := tt_Re) (N := 20) hx hb hts (fun w h => gwc (inn_Re w h)) hown hK hP 0 rfl rfl 13 (by decide) (hts _ (gwc gw_716)) (fun _ h9 => h9) rfl dd_Re_arcOf_8 ?_
  refine lv_imul hx hb dd_Re_arcOf_11 ?_
  refine lv_bipush (v := 40) hx hb dd_Re_arcOf_12 (by decide) ?_
  refine lv_iload_n hx hb dd_Re_arcOf_14 rfl (lv_at hl 1 rfl) ?_
  refine lv_imul hx hb dd_Re_arcOf_15 ?_
  refine lv_iadd hx hb dd_Re_arcOf_16 ?_
  refine lv_iload_n hx hb dd_Re_arcOf_17 rfl (lv_at hl 2 rfl) ?_
  refine lv_iadd hx hb dd_Re_arcOf_18 ?_
  obtain ⟨k19, hf⟩ := ck_some hf
  refine va_iald hx hb hK hP 1 0 rfl rfl (okb_in k19) dd_Re_arcOf_19 ?_
  have hf := Option.some.inj hf
  subst hf
  exact W.iret hx hb hr (fun t ht hW => ⟨⟨_, (), rfl, rfl, pst_of ht hP hD⟩, hS.F ht⟩) hS.2.2 dd_Re_arcOf_20
abbrev wd_Re_sumOf (cI cZ : ClassId) (a_t a_t_levelWeight a_t_row a_t_weight a_t_arcs a_t_split a_t_least a_t_most a_t_levelNodes a_t_levelArc a_t_levelIn a_t_isFree a_t_best a_t_above a_t_ordered a_t_parts : Nat) (t_nodes : Int32) (t_kinds : Int32) (t_levels : Int32) (t_size : Int32) (t_base : Int32) (t_levelWeight : Nat → Int32) (t_row : Nat → Int32) : va_W := [(a_t, .inr (9, [.int t_nodes, .int t_kinds, .ref a_t_weight, .ref a_t_arcs, .ref a_t_split, .ref a_t_least, .ref a_t_most, .int t_levels, .ref a_t_levelNodes, .ref a_t_levelWeight, .ref a_t_levelArc, .ref a_t_levelIn, .int t_size, .int t_base, .ref a_t_row, .ref a_t_isFree, .ref a_t_best, .ref a_t_above, .ref a_t_ordered, .ref a_t_parts])), (a_t_levelWeight, .inl (cI, 1640, .inl t_levelWeight)), (a_t_row, .inl (cI, 40, .inl t_row))]
set_option maxRecDepth 100000 in
set_option maxHeartbeats 4000000 in
theorem c_Re_sumOf (l : Launch) (dC : Nat → ClassId) (dI : Nat → Nat → Nat) (cI cZ : ClassId) (a_t a_t_levelWeight a_t_row a_t_weight a_t_arcs a_t_split a_t_least a_t_most a_t_levelNodes a_t_levelArc a_t_levelIn a_t_isFree a_t_best a_t_above a_t_ordered a_t_parts sz : Nat) (x1 : Int32) (t_nodes : Int32) (t_kinds : Int32) (t_levels : Int32) (t_size : Int32) (t_base : Int32) (t_levelWeight : Nat → Int32) (t_row : Nat → Int32) (out : Int64) (hf : f_Re_sumOf x1 t_size t_base t_levelWeight t_row = some out) :
    Met l yy_Re_sumOf wq_Re_sumOf ({ frames := 1, cells := 0, slots := 0, locals := 21 }) (va_Pc ([.ref a_t, .int x1] : List Value) (pre_ (dC, dI) cI cZ sz (wd_Re_sumOf cI cZ a_t a_t_levelWeight a_t_row a_t_weight a_t_arcs a_t_split a_t_least a_t_most a_t_levelNodes a_t_levelArc a_t_levelIn a_t_isFree a_t_best a_t_above a_t_ordered a_t_parts t_nodes t_kinds t_levels t_size t_base t_levelWeight t_row))) (va_Ql (fun (r : Int64) (_ : Unit) => r = out) (fun _ => pst (dC, dI) (va_A (wd_Re_sumOf cI cZ a_t a_t_levelWeight a_t_row a_t_weight a_t_arcs a_t_split a_t_least a_t_most a_t_levelNodes a_t_levelArc a_t_levelIn a_t_isFree a_t_best a_t_above a_t_ordered a_t_parts t_nodes t_kinds t_levels t_size t_base t_levelWeight t_row) sz) (wd_Re_sumOf cI cZ a_t a_t_levelWeight a_t_row a_t_weight a_t_arcs a_t_split a_t_least a_t_most a_t_levelNodes a_t_levelArc a_t_levelIn a_t_isFree a_t_best a_t_above a_t_ordered a_t_parts t_nodes t_kinds t_levels t_size t_base t_levelWeight t_row)) (va_A (wd_Re_sumOf cI cZ a_t a_t_levelWeight a_t_row a_t_weight a_t_arcs a_t_split a_t_least a_t_most a_t_levelNodes a_t_levelArc a_t_levelIn a_t_isFree a_t_best a_t_above a_t_ordered a_t_parts t_nodes t_kinds t_levels t_size t_base t_levelWeight t_row) sz)) 0 0 (va_A (wd_Re_sumOf cI cZ a_t a_t_levelWeight a_t_row a_t_weight a_t_arcs a_t_split a_t_least a_t_most a_t_levelNodes a_t_levelArc a_t_levelIn a_t_isFree a_t_best a_t_above a_t_ordered a_t_parts t_nodes t_kinds t_levels t_size t_base t_levelWeight t_row) sz) := by
  refine Met.ofW (cc := cc_Re_sumOf) (maxL := 5) (ret := (some .long)) (by decide) rfl ?_
  intro p e s m args below meth c s₁ B hml hv
  obtain ⟨rfl, hsz, hP, hK, hD0, hN⟩ := hv
  have hx := B.exec
  have hb := B.bytes
  have hr := B.returns
  have hts := atoms_spec (ws := wq_Re_sumOf) B.pre
  have hown : s.vm.findClass rr_Re = some m.cls := findClass_of_methodNamed B.named
  have hlocks := B.notSynchronized
  subst hsz
  have hD := hD0.self (sz := s.heap.size)
  generalize hAe : va_A (wd_Re_sumOf cI cZ a_t a_t_levelWeight a_t_row a_t_weight a_t_arcs a_t_split a_t_least a_t_most a_t_levelNodes a_t_levelArc a_t_levelIn a_t_isFree a_t_best a_t_above a_t_ordered a_t_parts t_nodes t_kinds t_levels t_size t_base t_levelWeight t_row) s.heap.size = A at hD ⊢
  have hA : ∀ q : Nat, s.heap.size ≤ q → A q := fun q h => by rw [← hAe]; exact Or.inr h
  obtain ⟨H, hH⟩ : ∃ H : Heap, H = s.heap := ⟨_, rfl⟩
  have hS : va_S A s.heap H [] := by rw [hH]; exact va_S.rf
  have hl := lv_entry (([.ref a_t, .int x1] : List Value)) (n := 5) (Nat.le_of_ble_eq_true rfl)
  rw [lg_entry_eq]
  generalize (lg_sl (([.ref a_t, .int x1] : List Value)) ++ List.replicate (5 - (lg_sl (([.ref a_t, .int x1] : List Value))).length) Slot.unset).toArray = ls at hl ⊢
  have hl : lv_has ls 5 [(0, .ref a_t), (1, .int x1)] := hl
  rw [← hH] at hP ⊢
  have hP : va_P (dC, dI) clsL (wd_Re_sumOf cI cZ a_t a_t_levelWeight a_t_row a_t_weight a_t_arcs a_t_split a_t_least a_t_most a_t_levelNodes a_t_levelArc a_t_levelIn a_t_isFree a_t_best a_t_above a_t_ordered a_t_parts t_nodes t_kinds t_levels t_size t_base t_levelWeight t_row) H := hP
  unfold f_Re_sumOf at hf
  have h5 : ∀ (n5 : Nat) (x2 : Int64) (x4 : Int32) (ls : Array Slot) (H : Heap) (locs : List Loc), L_Re_sumOf_5 x1 t_size t_base t_levelWeight t_row n5 x2 x4 = some out → lv_has ls 5 [(0, .ref a_t), (1, .int x1), (2, .long x2), (4, .int x4)] → va_P (dC, dI) clsL (wd_Re_sumOf cI cZ a_t a_t_levelWeight a_t_row a_t_weight a_t_arcs a_t_split a_t_least a_t_most a_t_levelNodes a_t_levelArc a_t_levelIn a_t_isFree a_t_best a_t_above a_t_ordered a_t_parts t_nodes t_kinds t_levels t_size t_base t_levelWeight t_row) H → va_D A (wd_Re_sumOf cI cZ a_t a_t_levelWeight a_t_row a_t_weight a_t_arcs a_t_split a_t_least a_t_most a_t_levelNodes a_t_levelArc a_t_levelIn a_t_isFree a_t_best a_t_above a_t_ordered a_t_parts t_nodes t_kinds t_levels t_size t_base t_levelWeight t_row) → va_S A s.heap H locs → W p l e (headSpec wq_Re_sumOf ({ frames := 1, cells := 0, slots := 0, locals := 21 })).room s m ([.ref a_t, .int x1] : List Value).toArray below meth c H locs 0 0 (MQ below (va_Ql (fun (r : Int64) (_ : Unit) => r = out) (fun _ => pst (dC, dI) A (wd_Re_sumOf cI cZ a_t a_t_levelWeight a_t_row a_t_weight a_t_arcs a_t_split a_t_least a_t_most a_t_levelNodes a_t_levelArc a_t_levelIn a_t_isFree a_t_best a_t_above a_t_ordered a_t_parts t_nodes t_kinds t_levels t_size t_base t_levelWeight t_row)) A) ([.ref a_t, .int x1] : List Value).toArray s 0 0 A) (F0 m 5 ls []) := by
    intro n5
    induction n5 with
    | zero =>
      intro x2 x4 ls H locs hf
      rw [L_Re_sumOf_5] at hf
      exact absurd hf (fun h => by cases h)
    | succ n5 ih5 =>
      intro x2 x4 ls H locs hf hl hP hD hS
      rw [L_Re_sumOf_5] at hf
      refine lv_iload hx hb dd_Re_sumOf_5 (lv_at hl 3 rfl) ?_
      refine lv_aload_n hx hb dd_Re_sumOf_7 rfl (lv_at hl 0 rfl) ?_
      refine va_get (D := (dC, dI)) (ci := 9) (v := .int t_size) (C := rr_Re) (T := tt_Re) (N := 20) hx hb hts (fun w h => gwc (inn_Re w h)) hown hK hP 0 rfl rfl 12 (by decide) (hts _ (gwc gw_715)) (fun _ h9 => h9) rfl dd_Re_sumOf_8 ?_
      refine lv_icmp_ge (tgt := 45) hx hb dd_Re_sumOf_11 (by decide) (fun cc => ?_) (fun cc => ?_)
      · skip
        have hf := if_t cc hf
        refine lv_lload_n hx hb dd_Re_sumOf_45 rfl (lv_at hl 2 rfl) ?_
        have hf := Option.some.inj hf
        subst hf
        exact W.lret hx hb hr (fun t ht hW => ⟨⟨_, (), rfl, rfl, pst_of ht hP hD⟩, hS.F ht⟩) hS.2.2 dd_Re_sumOf_46
      · skip
        have hf := if_f cc hf
        refine lv_lload_n hx hb dd_Re_sumOf_14 rfl (lv_at hl 2 rfl) ?_
        refine lv_aload_n hx hb dd_Re_sumOf_15 rfl (lv_at hl 0 rfl) ?_
        refine va_get (D := (dC, dI)) (ci := 9) (v := .ref a_t_row) (C := rr_Re) (T := tt_Re) (N := 20) hx hb hts (fun w h => gwc (inn_Re w h)) hown hK hP 0 rfl rfl 14 (by decide) (hts _ (gwc gw_717)) (fun _ h9 => h9) rfl dd_Re_sumOf_16 ?_
        refine lv_iload hx hb dd_Re_sumOf_19 (lv_at hl 3 rfl) ?_
        obtain ⟨k21, hf⟩ := ck_some hf
        refine va_iald hx hb hK hP 2 0 rfl rfl (okb_in k21) dd_Re_sumOf_21 ?_
        refine lv_iload_n hx hb dd_Re_sumOf_22 rfl (lv_at hl 1 rfl) ?_
        refine lv_icmp_ne (tgt := 36) hx hb dd_Re_sumOf_23 (by decide) (fun cc => ?_) (fun cc => ?_)
        · skip
          have hf := if_f cc hf
          refine lv_lconst (v := 0) hx hb dd_Re_sumOf_36 (by decide) ?_
          refine lv_ladd hx hb dd_Re_sumOf_37 ?_
          refine lv_lstore_n (lv' := [(2, .long (x2 + (0 : Int64))), (0, .ref a_t), (1, .int x1), (4, .int x4)]) hx hb dd_Re_sumOf_38 rfl hl (by decide) rfl (fun ls hl => ?_)
          refine lv_iinc (v := x4 + 1) (lv' := [(4, .int (x4 + 1)), (2, .long (x2 + (0 : Int64))), (0, .ref a_t), (1, .int x1)]) hx hb dd_Re_sumOf_39 hl (k := 3) rfl rfl (by decide) rfl (fun ls hl => ?_)
          refine lv_goto (tgt := 5) hx hb dd_Re_sumOf_42 (by decide) ?_
          exact ih5 (x2 + (0 : Int64)) (x4 + 1) _ _ _ hf (lv_sub hl [2, 3, 1, 0] rfl) hP hD hS
        · skip
          have hf := if_t cc hf
          refine lv_aload_n hx hb dd_Re_sumOf_26 rfl (lv_at hl 0 rfl) ?_
          refine lv_iload hx hb dd_Re_sumOf_27 (lv_at hl 3 rfl) ?_
          obtain ⟨r29, hr29, hf⟩ := bind_some hf
          refine xcalli (rest := [.long x2]) (wc := (wd_Re_weightOf cI cZ a_t a_t_levelWeight a_t_weight a_t_arcs a_t_split a_t_least a_t_most a_t_levelNodes a_t_levelArc a_t_levelIn a_t_row a_t_isFree a_t_best a_t_above a_t_ordered a_t_parts t_nodes t_kinds t_levels t_size t_base t_levelWeight)) (w1 := (wd_Re_weightOf cI cZ a_t a_t_levelWeight a_t_weight a_t_arcs a_t_split a_t_least a_t_most a_t_levelNodes a_t_levelArc a_t_levelIn a_t_row a_t_isFree a_t_best a_t_above a_t_ordered a_t_parts t_nodes t_kinds t_levels t_size t_base t_levelWeight)) (wr := [(a_t_row, .inl (cI, 40, .inl t_row))]) (ws' := (wd_Re_sumOf cI cZ a_t a_t_levelWeight a_t_row a_t_weight a_t_arcs a_t_split a_t_least a_t_most a_t_levelNodes a_t_levelArc a_t_levelIn a_t_isFree a_t_best a_t_above a_t_ordered a_t_parts t_nodes t_kinds t_levels t_size t_base t_levelWeight t_row)) (va_runV (As := [.int x4]) ⟨hx, hb, hml, hown, hts⟩ (c_Re_weightOf l dC dI cI cZ a_t a_t_levelWeight a_t_weight a_t_arcs a_t_split a_t_least a_t_most a_t_levelNodes a_t_levelArc a_t_levelIn a_t_row a_t_isFree a_t_best a_t_above a_t_ordered a_t_parts H.size x4 t_nodes t_kinds t_levels t_size t_base t_levelWeight r29 hr29) (cwV 1 hts (gV gw_842 gw_844 gw_37 gw_61 gw_845) rfl rfl rfl (yd_Re_weightOf) ⟨Nat.le_of_ble_eq_true rfl, Nat.le_of_ble_eq_true rfl⟩) (mkV hK (hP.sub (ws' := (wd_Re_weightOf cI cZ a_t a_t_levelWeight a_t_weight a_t_arcs a_t_split a_t_least a_t_most a_t_levelNodes a_t_levelArc a_t_levelIn a_t_row a_t_isFree a_t_best a_t_above a_t_ordered a_t_parts t_nodes t_kinds t_levels t_size t_base t_levelWeight)) [0, 1] rfl) (hD.sub (ws' := (wd_Re_weightOf cI cZ a_t a_t_levelWeight a_t_weight a_t_arcs a_t_split a_t_least a_t_most a_t_levelNodes a_t_levelArc a_t_levelIn a_t_row a_t_isFree a_t_best a_t_above a_t_ordered a_t_parts t_nodes t_kinds t_levels t_size t_base t_levelWeight)) [0, 1] (by decide) rfl) hN (va_recv hK hP (ci := 9) (q0 := 0) rfl rfl)) rfl rfl hl.1 rfl (lv_room (Nat.le_of_ble_eq_true rfl)) dd_Re_sumOf_29 ⟨Nat.zero_le _, Nat.zero_le _⟩) hP hD hS hA [0, 1] [2] [1, 2, 0] rfl rfl (by decide) (by decide) rfl (by decide) rfl (fun H locs hP hD hS => ?_)
          refine lv_i2l hx hb dd_Re_sumOf_32 rfl ?_
          refine lv_goto (tgt := 37) hx hb dd_Re_sumOf_33 (by decide) ?_
          refine lv_ladd hx hb dd_Re_sumOf_37 ?_
          refine lv_lstore_n (lv' := [(2, .long (x2 + r29.toInt64)), (0, .ref a_t), (1, .int x1), (4, .int x4)]) hx hb dd_Re_sumOf_38 rfl hl (by decide) rfl (fun ls hl => ?_)
          refine lv_iinc (v := x4 + 1) (lv' := [(4, .int (x4 + 1)), (2, .long (x2 + r29.toInt64)), (0, .ref a_t), (1, .int x1)]) hx hb dd_Re_sumOf_39 hl (k := 3) rfl rfl (by decide) rfl (fun ls hl => ?_)
          refine lv_goto (tgt := 5) hx hb dd_Re_sumOf_42 (by decide) ?_
          exact ih5 (x2 + r29.toInt64) (x4 + 1) _ _ _ hf (lv_sub hl [2, 3, 1, 0] rfl) hP hD hS
  refine lv_lconst (v := 0) hx hb dd_Re_sumOf_0 (by decide) ?_
  refine lv_lstore_n (lv' := [(2, .long (0 : Int64)), (0, .ref a_t), (1, .int x1)]) hx hb dd_Re_sumOf_1 rfl hl (by decide) rfl (fun ls hl => ?_)
  refine lv_iconst (v := 0) hx hb dd_Re_sumOf_2 (by decide) ?_
  refine lv_istore (lv' := [(4, .int 0), (2, .long (0 : Int64)), (0, .ref a_t), (1, .int x1)]) hx hb dd_Re_sumOf_3 hl (by decide) rfl (fun ls hl => ?_)
  exact h5 64 (0 : Int64) 0 _ _ _ hf (lv_sub hl [2, 3, 1, 0] rfl) hP hD hS
abbrev wd_Re_rowOver (cI cZ : ClassId) (a_t a_t_least a_t_levelWeight a_t_most a_t_row a_t_weight a_t_arcs a_t_split a_t_levelNodes a_t_levelArc a_t_levelIn a_t_isFree a_t_best a_t_above a_t_ordered a_t_parts : Nat) (t_nodes : Int32) (t_kinds : Int32) (t_levels : Int32) (t_size : Int32) (t_base : Int32) (t_least : Nat → Int32) (t_levelWeight : Nat → Int32) (t_most : Nat → Int32) (t_row : Nat → Int32) : va_W := [(a_t, .inr (9, [.int t_nodes, .int t_kinds, .ref a_t_weight, .ref a_t_arcs, .ref a_t_split, .ref a_t_least, .ref a_t_most, .int t_levels, .ref a_t_levelNodes, .ref a_t_levelWeight, .ref a_t_levelArc, .ref a_t_levelIn, .int t_size, .int t_base, .ref a_t_row, .ref a_t_isFree, .ref a_t_best, .ref a_t_above, .ref a_t_ordered, .ref a_t_parts])), (a_t_least, .inl (cI, 4, .inl t_least)), (a_t_levelWeight, .inl (cI, 1640, .inl t_levelWeight)), (a_t_most, .inl (cI, 4, .inl t_most)), (a_t_row, .inl (cI, 40, .inl t_row))]
set_option maxRecDepth 100000 in
set_option maxHeartbeats 4000000 in
theorem c_Re_rowOver (l : Launch) (dC : Nat → ClassId) (dI : Nat → Nat → Nat) (cI cZ : ClassId) (a_t a_t_least a_t_levelWeight a_t_most a_t_row a_t_weight a_t_arcs a_t_split a_t_levelNodes a_t_levelArc a_t_levelIn a_t_isFree a_t_best a_t_above a_t_ordered a_t_parts sz : Nat) (t_nodes : Int32) (t_kinds : Int32) (t_levels : Int32) (t_size : Int32) (t_base : Int32) (t_least : Nat → Int32) (t_levelWeight : Nat → Int32) (t_most : Nat → Int32) (t_row : Nat → Int32) (out : Int64) (hf : f_Re_rowOver t_kinds t_size t_base t_least t_levelWeight t_most t_row = some out) :
    Met l yy_Re_rowOver wq_Re_rowOver ({ frames := 2, cells := 0, slots := 0, locals := 45 }) (va_Pc ([.ref a_t] : List Value) (pre_ (dC, dI) cI cZ sz (wd_Re_rowOver cI cZ a_t a_t_least a_t_levelWeight a_t_most a_t_row a_t_weight a_t_arcs a_t_split a_t_levelNodes a_t_levelArc a_t_levelIn a_t_isFree a_t_best a_t_above a_t_ordered a_t_parts t_nodes t_kinds t_levels t_size t_base t_least t_levelWeight t_most t_row))) (va_Ql (fun (r : Int64) (_ : Unit) => r = out) (fun _ => pst (dC, dI) (va_A (wd_Re_rowOver cI cZ a_t a_t_least a_t_levelWeight a_t_most a_t_row a_t_weight a_t_arcs a_t_split a_t_levelNodes a_t_levelArc a_t_levelIn a_t_isFree a_t_best a_t_above a_t_ordered a_t_parts t_nodes t_kinds t_levels t_size t_base t_least t_levelWeight t_most t_row) sz) (wd_Re_rowOver cI cZ a_t a_t_least a_t_levelWeight a_t_most a_t_row a_t_weight a_t_arcs a_t_split a_t_levelNodes a_t_levelArc a_t_levelIn a_t_isFree a_t_best a_t_above a_t_ordered a_t_parts t_nodes t_kinds t_levels t_size t_base t_least t_levelWeight t_most t_row)) (va_A (wd_Re_rowOver cI cZ a_t a_t_least a_t_levelWeight a_t_most a_t_row a_t_weight a_t_arcs a_t_split a_t_levelNodes a_t_levelArc a_t_levelIn a_t_isFree a_t_best a_t_above a_t_ordered a_t_parts t_nodes t_kinds t_levels t_size t_base t_least t_levelWeight t_most t_row) sz)) 0 0 (va_A (wd_Re_rowOver cI cZ a_t a_t_least a_t_levelWeight a_t_most a_t_row a_t_weight a_t_arcs a_t_split a_t_levelNodes a_t_levelArc a_t_levelIn a_t_isFree a_t_best a_t_above a_t_ordered a_t_parts t_nodes t_kinds t_levels t_size t_base t_least t_levelWeight t_most t_row) sz) := by
  refine Met.ofW (cc := cc_Re_rowOver) (maxL := 6) (ret := (some .long)) (by decide) rfl ?_
  intro p e s m args below meth c s₁ B hml hv
  obtain ⟨rfl, hsz, hP, hK, hD0, hN⟩ := hv
  have hx := B.exec
  have hb := B.bytes
  have hr := B.returns
  have hts := atoms_spec (ws := wq_Re_rowOver) B.pre
  have hown : s.vm.findClass rr_Re = some m.cls := findClass_of_methodNamed B.named
  have hlocks := B.notSynchronized
  subst hsz
  have hD := hD0.self (sz := s.heap.size)
  generalize hAe : va_A (wd_Re_rowOver cI cZ a_t a_t_least a_t_levelWeight a_t_most a_t_row a_t_weight a_t_arcs a_t_split a_t_levelNodes a_t_levelArc a_t_levelIn a_t_isFree a_t_best a_t_above a_t_ordered a_t_parts t_nodes t_kinds t_levels t_size t_base t_least t_levelWeight t_most t_row) s.heap.size = A at hD ⊢
  have hA : ∀ q : Nat, s.heap.size ≤ q → A q := fun q h => by rw [← hAe]; exact Or.inr h
  obtain ⟨H, hH⟩ : ∃ H : Heap, H = s.heap := ⟨_, rfl⟩
  have hS : va_S A s.heap H [] := by rw [hH]; exact va_S.rf
  have hl := lv_entry (([.ref a_t] : List Value)) (n := 6) (Nat.le_of_ble_eq_true rfl)
  rw [lg_entry_eq]
  generalize (lg_sl (([.ref a_t] : List Value)) ++ List.replicate (6 - (lg_sl (([.ref a_t] : List Value))).length) Slot.unset).toArray = ls at hl ⊢
  have hl : lv_has ls 6 [(0, .ref a_t)] := hl
  rw [← hH] at hP ⊢
  have hP : va_P (dC, dI) clsL (wd_Re_rowOver cI cZ a_t a_t_least a_t_levelWeight a_t_most a_t_row a_t_weight a_t_arcs a_t_split a_t_levelNodes a_t_levelArc a_t_levelIn a_t_isFree a_t_best a_t_above a_t_ordered a_t_parts t_nodes t_kinds t_levels t_size t_base t_least t_levelWeight t_most t_row) H := hP
  unfold f_Re_rowOver at hf
  have h4 : ∀ (n4 : Nat) (x1 : Int64) (x3 : Int32) (ls : Array Slot) (H : Heap) (locs : List Loc), L_Re_rowOver_4 t_kinds t_size t_base t_least t_levelWeight t_most t_row n4 x1 x3 = some out → lv_has ls 6 [(0, .ref a_t), (1, .long x1), (3, .int x3)] → va_P (dC, dI) clsL (wd_Re_rowOver cI cZ a_t a_t_least a_t_levelWeight a_t_most a_t_row a_t_weight a_t_arcs a_t_split a_t_levelNodes a_t_levelArc a_t_levelIn a_t_isFree a_t_best a_t_above a_t_ordered a_t_parts t_nodes t_kinds t_levels t_size t_base t_least t_levelWeight t_most t_row) H → va_D A (wd_Re_rowOver cI cZ a_t a_t_least a_t_levelWeight a_t_most a_t_row a_t_weight a_t_arcs a_t_split a_t_levelNodes a_t_levelArc a_t_levelIn a_t_isFree a_t_best a_t_above a_t_ordered a_t_parts t_nodes t_kinds t_levels t_size t_base t_least t_levelWeight t_most t_row) → va_S A s.heap H locs → W p l e (headSpec wq_Re_rowOver ({ frames := 2, cells := 0, slots := 0, locals := 45 })).room s m ([.ref a_t] : List Value).toArray below meth c H locs 0 0 (MQ below (va_Ql (fun (r : Int64) (_ : Unit) => r = out) (fun _ => pst (dC, dI) A (wd_Re_rowOver cI cZ a_t a_t_least a_t_levelWeight a_t_most a_t_row a_t_weight a_t_arcs a_t_split a_t_levelNodes a_t_levelArc a_t_levelIn a_t_isFree a_t_best a_t_above a_t_ordered a_t_parts t_nodes t_kinds t_levels t_size t_base t_least t_levelWeight t_most t_row)) A) ([.ref a_t] : List Value).toArray s 0 0 A) (F0 m 4 ls []) := by
    intro n4
    induction n4 with
    | zero =>
      intro x1 x3 ls H locs hf
      rw [L_Re_rowOver_4] at hf
      exact absurd hf (fun h => by cases h)
    | succ n4 ih4 =>
      intro x1 x3 ls H locs hf hl hP hD hS
      rw [L_Re_rowOver_4] at hf
      refine lv_iload_n hx hb dd_Re_rowOver_4 rfl (lv_at hl 2 rfl) ?_
      refine lv_aload_n hx hb dd_Re_rowOver_5 rfl (lv_at hl 0 rfl) ?_
      refine va_get (D := (dC, dI)) (ci := 9) (v := .int t_kinds) (C := rr_Re) (T := tt_Re) (N := 20) hx hb hts (fun w h => gwc (inn_Re w h)) hown hK hP 0 rfl rfl 1 (by decide) (hts _ (gwc gw_704)) (fun _ h9 => h9) rfl dd_Re_rowOver_6 ?_
      refine lv_icmp_ge (tgt := 81) hx hb dd_Re_rowOver_9 (by decide) (fun cc => ?_) (fun cc => ?_)
      · skip
        have hf := if_t cc hf
        refine lv_lload_n hx hb dd_Re_rowOver_81 rfl (lv_at hl 1 rfl) ?_
        have hf := Option.some.inj hf
        subst hf
        exact W.lret hx hb hr (fun t ht hW => ⟨⟨_, (), rfl, rfl, pst_of ht hP hD⟩, hS.F ht⟩) hS.2.2 dd_Re_rowOver_82
      · skip
        have hf := if_f cc hf
        refine lv_aload_n hx hb dd_Re_rowOver_12 rfl (lv_at hl 0 rfl) ?_
        refine lv_iload_n hx hb dd_Re_rowOver_13 rfl (lv_at hl 2 rfl) ?_
        obtain ⟨r14, hr14, hf⟩ := bind_some hf
        refine xcalll (rest := []) (wc := (wd_Re_sumOf cI cZ a_t a_t_levelWeight a_t_row a_t_weight a_t_arcs a_t_split a_t_least a_t_most a_t_levelNodes a_t_levelArc a_t_levelIn a_t_isFree a_t_best a_t_above a_t_ordered a_t_parts t_nodes t_kinds t_levels t_size t_base t_levelWeight t_row)) (w1 := (wd_Re_sumOf cI cZ a_t a_t_levelWeight a_t_row a_t_weight a_t_arcs a_t_split a_t_least a_t_most a_t_levelNodes a_t_levelArc a_t_levelIn a_t_isFree a_t_best a_t_above a_t_ordered a_t_parts t_nodes t_kinds t_levels t_size t_base t_levelWeight t_row)) (wr := [(a_t_least, .inl (cI, 4, .inl t_least)), (a_t_most, .inl (cI, 4, .inl t_most))]) (ws' := (wd_Re_rowOver cI cZ a_t a_t_least a_t_levelWeight a_t_most a_t_row a_t_weight a_t_arcs a_t_split a_t_levelNodes a_t_levelArc a_t_levelIn a_t_isFree a_t_best a_t_above a_t_ordered a_t_parts t_nodes t_kinds t_levels t_size t_base t_least t_levelWeight t_most t_row)) (va_runV (As := [.int x3]) ⟨hx, hb, hml, hown, hts⟩ (c_Re_sumOf l dC dI cI cZ a_t a_t_levelWeight a_t_row a_t_weight a_t_arcs a_t_split a_t_least a_t_most a_t_levelNodes a_t_levelArc a_t_levelIn a_t_isFree a_t_best a_t_above a_t_ordered a_t_parts H.size x3 t_nodes t_kinds t_levels t_size t_base t_levelWeight t_row r14 hr14) (cwV 1 hts (gV gw_838 gw_840 gw_36 gw_61 gw_841) rfl rfl rfl (yd_Re_sumOf) ⟨Nat.le_of_ble_eq_true rfl, Nat.le_of_ble_eq_true rfl⟩) (mkV hK (hP.sub (ws' := (wd_Re_sumOf cI cZ a_t a_t_levelWeight a_t_row a_t_weight a_t_arcs a_t_split a_t_least a_t_most a_t_levelNodes a_t_levelArc a_t_levelIn a_t_isFree a_t_best a_t_above a_t_ordered a_t_parts t_nodes t_kinds t_levels t_size t_base t_levelWeight t_row)) [0, 2, 4] rfl) (hD.sub (ws' := (wd_Re_sumOf cI cZ a_t a_t_levelWeight a_t_row a_t_weight a_t_arcs a_t_split a_t_least a_t_most a_t_levelNodes a_t_levelArc a_t_levelIn a_t_isFree a_t_best a_t_above a_t_ordered a_t_parts t_nodes t_kinds t_levels t_size t_base t_levelWeight t_row)) [0, 2, 4] (by decide) rfl) hN (va_recv hK hP (ci := 9) (q0 := 0) rfl rfl)) rfl rfl hl.1 rfl (lv_room (Nat.le_of_ble_eq_true rfl)) dd_Re_rowOver_14 ⟨Nat.zero_le _, Nat.zero_le _⟩) hP hD hS hA [0, 2, 4] [1, 3] [2, 0, 3, 1, 4] rfl rfl (by decide) (by decide) rfl (by decide) rfl (fun H locs hP hD hS => ?_)
        refine lv_lstore (lv' := [(4, .long r14), (0, .ref a_t), (1, .long x1), (3, .int x3)]) hx hb dd_Re_rowOver_17 hl (by decide) rfl (fun ls hl => ?_)
        refine lv_lload_n hx hb dd_Re_rowOver_19 rfl (lv_at hl 2 rfl) ?_
        refine lv_lload hx hb dd_Re_rowOver_20 (lv_at hl 0 rfl) ?_
        refine lv_aload_n hx hb dd_Re_rowOver_22 rfl (lv_at hl 1 rfl) ?_
        refine va_get (D := (dC, dI)) (ci := 9) (v := .ref a_t_least) (C := rr_Re) (T := tt_Re) (N := 20) hx hb hts (fun w h => gwc (inn_Re w h)) hown hK hP 0 rfl rfl 5 (by decide) (hts _ (gwc gw_708)) (fun _ h9 => h9) rfl dd_Re_rowOver_23 ?_
        refine lv_iload_n hx hb dd_Re_rowOver_26 rfl (lv_at hl 3 rfl) ?_
        obtain ⟨k27, hf⟩ := ck_some hf
        refine va_iald hx hb hK hP 1 0 rfl rfl (okb_in k27) dd_Re_rowOver_27 ?_
        refine lv_i2l hx hb dd_Re_rowOver_28 rfl ?_
        refine W.lcmp hx hb dd_Re_rowOver_29 ?_
        refine lv_if_ge (tgt := 46) hx hb dd_Re_rowOver_30 (by decide) (fun cc => ?_) (fun cc => ?_)
        · skip
          have hf := if_t cc hf
          refine lv_lload hx hb dd_Re_rowOver_46 (lv_at hl 0 rfl) ?_
          refine lv_aload_n hx hb dd_Re_rowOver_48 rfl (lv_at hl 1 rfl) ?_
          refine va_get (D := (dC, dI)) (ci := 9) (v := .ref a_t_most) (C := rr_Re) (T := tt_Re) (N := 20) hx hb hts (fun w h => gwc (inn_Re w h)) hown hK hP 0 rfl rfl 6 (by decide) (hts _ (gwc gw_709)) (fun _ h9 => h9) rfl dd_Re_rowOver_49 ?_
          refine lv_iload_n hx hb dd_Re_rowOver_52 rfl (lv_at hl 3 rfl) ?_
          obtain ⟨k53, hf⟩ := ck_some hf
          refine va_iald hx hb hK hP 3 0 rfl rfl (okb_in k53) dd_Re_rowOver_53 ?_
          refine lv_i2l hx hb dd_Re_rowOver_54 rfl ?_
          refine W.lcmp hx hb dd_Re_rowOver_55 ?_
          refine lv_if_le (tgt := 72) hx hb dd_Re_rowOver_56 (by decide) (fun cc => ?_) (fun cc => ?_)
          · skip
            have hf := if_t cc hf
            refine lv_lconst (v := 0) hx hb dd_Re_rowOver_72 (by decide) ?_
            refine lv_ladd hx hb dd_Re_rowOver_73 ?_
            refine lv_lstore_n (lv' := [(1, .long (x1 + (0 : Int64))), (4, .long r14), (0, .ref a_t), (3, .int x3)]) hx hb dd_Re_rowOver_74 rfl hl (by decide) rfl (fun ls hl => ?_)
            refine lv_iinc (v := x3 + 1) (lv' := [(3, .int (x3 + 1)), (1, .long (x1 + (0 : Int64))), (4, .long r14), (0, .ref a_t)]) hx hb dd_Re_rowOver_75 hl (k := 3) rfl rfl (by decide) rfl (fun ls hl => ?_)
            refine lv_goto (tgt := 4) hx hb dd_Re_rowOver_78 (by decide) ?_
            exact ih4 (x1 + (0 : Int64)) (x3 + 1) _ _ _ hf (lv_sub hl [3, 1, 0] rfl) hP hD hS
          · skip
            have hf := if_f cc hf
            refine lv_lload hx hb dd_Re_rowOver_59 (lv_at hl 0 rfl) ?_
            refine lv_aload_n hx hb dd_Re_rowOver_61 rfl (lv_at hl 1 rfl) ?_
            refine va_get (D := (dC, dI)) (ci := 9) (v := .ref a_t_most) (C := rr_Re) (T := tt_Re) (N := 20) hx hb hts (fun w h => gwc (inn_Re w h)) hown hK hP 0 rfl rfl 6 (by decide) (hts _ (gwc gw_709)) (fun _ h9 => h9) rfl dd_Re_rowOver_62 ?_
            refine lv_iload_n hx hb dd_Re_rowOver_65 rfl (lv_at hl 3 rfl) ?_
            obtain ⟨k66, hf⟩ := ck_some hf
            refine va_iald hx hb hK hP 3 0 rfl rfl (okb_in k66) dd_Re_rowOver_66 ?_
            refine lv_i2l hx hb dd_Re_rowOver_67 rfl ?_
            refine lv_lsub hx hb dd_Re_rowOver_68 ?_
            refine lv_goto (tgt := 73) hx hb dd_Re_rowOver_69 (by decide) ?_
            refine lv_ladd hx hb dd_Re_rowOver_73 ?_
            refine lv_lstore_n (lv' := [(1, .long (x1 + (r14 - ((t_most (x3).toNatClampNeg).toInt64)))), (4, .long r14), (0, .ref a_t), (3, .int x3)]) hx hb dd_Re_rowOver_74 rfl hl (by decide) rfl (fun ls hl => ?_)
            refine lv_iinc (v := x3 + 1) (lv' := [(3, .int (x3 + 1)), (1, .long (x1 + (r14 - ((t_most (x3).toNatClampNeg).toInt64)))), (4, .long r14), (0, .ref a_t)]) hx hb dd_Re_rowOver_75 hl (k := 3) rfl rfl (by decide) rfl (fun ls hl => ?_)
            refine lv_goto (tgt := 4) hx hb dd_Re_rowOver_78 (by decide) ?_
            exact ih4 (x1 + (r14 - ((t_most (x3).toNatClampNeg).toInt64))) (x3 + 1) _ _ _ hf (lv_sub hl [3, 1, 0] rfl) hP hD hS
        · skip
          have hf := if_f cc hf
          refine lv_aload_n hx hb dd_Re_rowOver_33 rfl (lv_at hl 1 rfl) ?_
          refine va_get (D := (dC, dI)) (ci := 9) (v := .ref a_t_least) (C := rr_Re) (T := tt_Re) (N := 20) hx hb hts (fun w h => gwc (inn_Re w h)) hown hK hP 0 rfl rfl 5 (by decide) (hts _ (gwc gw_708)) (fun _ h9 => h9) rfl dd_Re_rowOver_34 ?_
          refine lv_iload_n hx hb dd_Re_rowOver_37 rfl (lv_at hl 3 rfl) ?_
          obtain ⟨k38, hf⟩ := ck_some hf
          refine va_iald hx hb hK hP 1 0 rfl rfl (okb_in k38) dd_Re_rowOver_38 ?_
          refine lv_i2l hx hb dd_Re_rowOver_39 rfl ?_
          refine lv_lload hx hb dd_Re_rowOver_40 (lv_at hl 0 rfl) ?_
          refine lv_lsub hx hb dd_Re_rowOver_42 ?_
          refine lv_goto (tgt := 73) hx hb dd_Re_rowOver_43 (by decide) ?_
          refine lv_ladd hx hb dd_Re_rowOver_73 ?_
          refine lv_lstore_n (lv' := [(1, .long (x1 + (((t_least (x3).toNatClampNeg).toInt64) - r14))), (4, .long r14), (0, .ref a_t), (3, .int x3)]) hx hb dd_Re_rowOver_74 rfl hl (by decide) rfl (fun ls hl => ?_)
          refine lv_iinc (v := x3 + 1) (lv' := [(3, .int (x3 + 1)), (1, .long (x1 + (((t_least (x3).toNatClampNeg).toInt64) - r14))), (4, .long r14), (0, .ref a_t)]) hx hb dd_Re_rowOver_75 hl (k := 3) rfl rfl (by decide) rfl (fun ls hl => ?_)
          refine lv_goto (tgt := 4) hx hb dd_Re_rowOver_78 (by decide) ?_
          exact ih4 (x1 + (((t_least (x3).toNatClampNeg).toInt64) - r14)) (x3 + 1) _ _ _ hf (lv_sub hl [3, 1, 0] rfl) hP hD hS
  refine lv_lconst (v := 0) hx hb dd_Re_rowOver_0 (by decide) ?_
  refine lv_lstore_n (lv' := [(1, .long (0 : Int64)), (0, .ref a_t)]) hx hb dd_Re_rowOver_1 rfl hl (by decide) rfl (fun ls hl => ?_)
  refine lv_iconst (v := 0) hx hb dd_Re_rowOver_2 (by decide) ?_
  refine lv_istore_n (lv' := [(3, .int 0), (1, .long (0 : Int64)), (0, .ref a_t)]) hx hb dd_Re_rowOver_3 rfl hl (by decide) rfl (fun ls hl => ?_)
  exact h4 64 (0 : Int64) 0 _ _ _ hf (lv_sub hl [2, 1, 0] rfl) hP hD hS
abbrev wd_Re_rowCut (cI cZ : ClassId) (a_t a_t_levelArc a_t_row a_t_weight a_t_arcs a_t_split a_t_least a_t_most a_t_levelNodes a_t_levelWeight a_t_levelIn a_t_isFree a_t_best a_t_above a_t_ordered a_t_parts : Nat) (t_nodes : Int32) (t_kinds : Int32) (t_levels : Int32) (t_size : Int32) (t_base : Int32) (t_levelArc : Nat → Int32) (t_row : Nat → Int32) : va_W := [(a_t, .inr (9, [.int t_nodes, .int t_kinds, .ref a_t_weight, .ref a_t_arcs, .ref a_t_split, .ref a_t_least, .ref a_t_most, .int t_levels, .ref a_t_levelNodes, .ref a_t_levelWeight, .ref a_t_levelArc, .ref a_t_levelIn, .int t_size, .int t_base, .ref a_t_row, .ref a_t_isFree, .ref a_t_best, .ref a_t_above, .ref a_t_ordered, .ref a_t_parts])), (a_t_levelArc, .inl (cI, 65600, .inl t_levelArc)), (a_t_row, .inl (cI, 40, .inl t_row))]
set_option maxRecDepth 100000 in
set_option maxHeartbeats 4000000 in
theorem c_Re_rowCut (l : Launch) (dC : Nat → ClassId) (dI : Nat → Nat → Nat) (cI cZ : ClassId) (a_t a_t_levelArc a_t_row a_t_weight a_t_arcs a_t_split a_t_least a_t_most a_t_levelNodes a_t_levelWeight a_t_levelIn a_t_isFree a_t_best a_t_above a_t_ordered a_t_parts sz : Nat) (t_nodes : Int32) (t_kinds : Int32) (t_levels : Int32) (t_size : Int32) (t_base : Int32) (t_levelArc : Nat → Int32) (t_row : Nat → Int32) (out : Int64) (hf : f_Re_rowCut t_size t_base t_levelArc t_row = some out) :
    Met l yy_Re_rowCut wq_Re_rowCut ({ frames := 1, cells := 0, slots := 0, locals := 22 }) (va_Pc ([.ref a_t] : List Value) (pre_ (dC, dI) cI cZ sz (wd_Re_rowCut cI cZ a_t a_t_levelArc a_t_row a_t_weight a_t_arcs a_t_split a_t_least a_t_most a_t_levelNodes a_t_levelWeight a_t_levelIn a_t_isFree a_t_best a_t_above a_t_ordered a_t_parts t_nodes t_kinds t_levels t_size t_base t_levelArc t_row))) (va_Ql (fun (r : Int64) (_ : Unit) => r = out) (fun _ => pst (dC, dI) (va_A (wd_Re_rowCut cI cZ a_t a_t_levelArc a_t_row a_t_weight a_t_arcs a_t_split a_t_least a_t_most a_t_levelNodes a_t_levelWeight a_t_levelIn a_t_isFree a_t_best a_t_above a_t_ordered a_t_parts t_nodes t_kinds t_levels t_size t_base t_levelArc t_row) sz) (wd_Re_rowCut cI cZ a_t a_t_levelArc a_t_row a_t_weight a_t_arcs a_t_split a_t_least a_t_most a_t_levelNodes a_t_levelWeight a_t_levelIn a_t_isFree a_t_best a_t_above a_t_ordered a_t_parts t_nodes t_kinds t_levels t_size t_base t_levelArc t_row)) (va_A (wd_Re_rowCut cI cZ a_t a_t_levelArc a_t_row a_t_weight a_t_arcs a_t_split a_t_least a_t_most a_t_levelNodes a_t_levelWeight a_t_levelIn a_t_isFree a_t_best a_t_above a_t_ordered a_t_parts t_nodes t_kinds t_levels t_size t_base t_levelArc t_row) sz)) 0 0 (va_A (wd_Re_rowCut cI cZ a_t a_t_levelArc a_t_row a_t_weight a_t_arcs a_t_split a_t_least a_t_most a_t_levelNodes a_t_levelWeight a_t_levelIn a_t_isFree a_t_best a_t_above a_t_ordered a_t_parts t_nodes t_kinds t_levels t_size t_base t_levelArc t_row) sz) := by
  refine Met.ofW (cc := cc_Re_rowCut) (maxL := 5) (ret := (some .long)) (by decide) rfl ?_
  intro p e s m args below meth c s₁ B hml hv
  obtain ⟨rfl, hsz, hP, hK, hD0, hN⟩ := hv
  have hx := B.exec
  have hb := B.bytes
  have hr := B.returns
  have hts := atoms_spec (ws := wq_Re_rowCut) B.pre
  have hown : s.vm.findClass rr_Re = some m.cls := findClass_of_methodNamed B.named
  have hlocks := B.notSynchronized
  subst hsz
  have hD := hD0.self (sz := s.heap.size)
  generalize hAe : va_A (wd_Re_rowCut cI cZ a_t a_t_levelArc a_t_row a_t_weight a_t_arcs a_t_split a_t_least a_t_most a_t_levelNodes a_t_levelWeight a_t_levelIn a_t_isFree a_t_best a_t_above a_t_ordered a_t_parts t_nodes t_kinds t_levels t_size t_base t_levelArc t_row) s.heap.size = A at hD ⊢
  have hA : ∀ q : Nat, s.heap.size ≤ q → A q := fun q h => by rw [← hAe]; exact Or.inr h
  obtain ⟨H, hH⟩ : ∃ H : Heap, H = s.heap := ⟨_, rfl⟩
  have hS : va_S A s.heap H [] := by rw [hH]; exact va_S.rf
  have hl := lv_entry (([.ref a_t] : List Value)) (n := 5) (Nat.le_of_ble_eq_true rfl)
  rw [lg_entry_eq]
  generalize (lg_sl (([.ref a_t] : List Value)) ++ List.replicate (5 - (lg_sl (([.ref a_t] : List Value))).length) Slot.unset).toArray = ls at hl ⊢
  have hl : lv_has ls 5 [(0, .ref a_t)] := hl
  rw [← hH] at hP ⊢
  have hP : va_P (dC, dI) clsL (wd_Re_rowCut cI cZ a_t a_t_levelArc a_t_row a_t_weight a_t_arcs a_t_split a_t_least a_t_most a_t_levelNodes a_t_levelWeight a_t_levelIn a_t_isFree a_t_best a_t_above a_t_ordered a_t_parts t_nodes t_kinds t_levels t_size t_base t_levelArc t_row) H := hP
  unfold f_Re_rowCut at hf
  have h4 : ∀ (n4 : Nat) (x1 : Int64) (x3 : Int32) (ls : Array Slot) (H : Heap) (locs : List Loc), L_Re_rowCut_4 t_size t_base t_levelArc t_row n4 x1 x3 = some out → lv_has ls 5 [(0, .ref a_t), (1, .long x1), (3, .int x3)] → va_P (dC, dI) clsL (wd_Re_rowCut cI cZ a_t a_t_levelArc a_t_row a_t_weight a_t_arcs a_t_split a_t_least a_t_most a_t_levelNodes a_t_levelWeight a_t_levelIn a_t_isFree a_t_best a_t_above a_t_ordered a_t_parts t_nodes t_kinds t_levels t_size t_base t_levelArc t_row) H → va_D A (wd_Re_rowCut cI cZ a_t a_t_levelArc a_t_row a_t_weight a_t_arcs a_t_split a_t_least a_t_most a_t_levelNodes a_t_levelWeight a_t_levelIn a_t_isFree a_t_best a_t_above a_t_ordered a_t_parts t_nodes t_kinds t_levels t_size t_base t_levelArc t_row) → va_S A s.heap H locs → W p l e (headSpec wq_Re_rowCut ({ frames := 1, cells := 0, slots := 0, locals := 22 })).room s m ([.ref a_t] : List Value).toArray below meth c H locs 0 0 (MQ below (va_Ql (fun (r : Int64) (_ : Unit) => r = out) (fun _ => pst (dC, dI) A (wd_Re_rowCut cI cZ a_t a_t_levelArc a_t_row a_t_weight a_t_arcs a_t_split a_t_least a_t_most a_t_levelNodes a_t_levelWeight a_t_levelIn a_t_isFree a_t_best a_t_above a_t_ordered a_t_parts t_nodes t_kinds t_levels t_size t_base t_levelArc t_row)) A) ([.ref a_t] : List Value).toArray s 0 0 A) (F0 m 4 ls []) := by
    intro n4
    induction n4 with
    | zero =>
      intro x1 x3 ls H locs hf
      rw [L_Re_rowCut_4] at hf
      exact absurd hf (fun h => by cases h)
    | succ n4 ih4 =>
      intro x1 x3 ls H locs hf hl hP hD hS
      rw [L_Re_rowCut_4] at hf
      have h15 : ∀ (n15 : Nat) (x1 : Int64) (x3 : Int32) (x4 : Int32) (ls : Array Slot) (H : Heap) (locs : List Loc), L_Re_rowCut_15 t_base t_levelArc t_row (L_Re_rowCut_4 t_size t_base t_levelArc t_row n4) n15 x1 x3 x4 = some out → lv_has ls 5 [(0, .ref a_t), (1, .long x1), (3, .int x3), (4, .int x4)] → va_P (dC, dI) clsL (wd_Re_rowCut cI cZ a_t a_t_levelArc a_t_row a_t_weight a_t_arcs a_t_split a_t_least a_t_most a_t_levelNodes a_t_levelWeight a_t_levelIn a_t_isFree a_t_best a_t_above a_t_ordered a_t_parts t_nodes t_kinds t_levels t_size t_base t_levelArc t_row) H → va_D A (wd_Re_rowCut cI cZ a_t a_t_levelArc a_t_row a_t_weight a_t_arcs a_t_split a_t_least a_t_most a_t_levelNodes a_t_levelWeight a_t_levelIn a_t_isFree a_t_best a_t_above a_t_ordered a_t_parts t_nodes t_kinds t_levels t_size t_base t_levelArc t_row) → va_S A s.heap H locs → W p l e (headSpec wq_Re_rowCut ({ frames := 1, cells := 0, slots := 0, locals := 22 })).room s m ([.ref a_t] : List Value).toArray below meth c H locs 0 0 (MQ below (va_Ql (fun (r : Int64) (_ : Unit) => r = out) (fun _ => pst (dC, dI) A (wd_Re_rowCut cI cZ a_t a_t_levelArc a_t_row a_t_weight a_t_arcs a_t_split a_t_least a_t_most a_t_levelNodes a_t_levelWeight a_t_levelIn a_t_isFree a_t_best a_t_above a_t_ordered a_t_parts t_nodes t_kinds t_levels t_size t_base t_levelArc t_row)) A) ([.ref a_t] : List Value).toArray s 0 0 A) (F0 m 15 ls []) := by
        intro n15
        induction n15 with
        | zero =>
          intro x1 x3 x4 ls H locs hf
          rw [L_Re_rowCut_15] at hf
          exact absurd hf (fun h => by cases h)
        | succ n15 ih15 =>
          intro x1 x3 x4 ls H locs hf hl hP hD hS
          rw [L_Re_rowCut_15] at hf
          refine lv_iload hx hb dd_Re_rowCut_15 (lv_at hl 3 rfl) ?_
          refine lv_iload_n hx hb dd_Re_rowCut_17 rfl (lv_at hl 2 rfl) ?_
          refine lv_icmp_ge (tgt := 58) hx hb dd_Re_rowCut_18 (by decide) (fun cc => ?_) (fun cc => ?_)
          · skip
            have hf := if_t cc hf
            refine lv_iinc (v := x3 + 1) (lv' := [(3, .int (x3 + 1)), (0, .ref a_t), (1, .long x1), (4, .int x4)]) hx hb dd_Re_rowCut_58 hl (k := 2) rfl rfl (by decide) rfl (fun ls hl => ?_)
            refine lv_goto (tgt := 4) hx hb dd_Re_rowCut_61 (by decide) ?_
            exact ih4 x1 (x3 + 1) _ _ _ hf (lv_sub hl [1, 2, 0] rfl) hP hD hS
          · skip
            have hf := if_f cc hf
            refine lv_lload_n hx hb dd_Re_rowCut_21 rfl (lv_at hl 1 rfl) ?_
            refine lv_aload_n hx hb dd_Re_rowCut_22 rfl (lv_at hl 0 rfl) ?_
            refine va_get (D := (dC, dI)) (ci := 9) (v := .ref a_t_row) (C := rr_Re) (T := tt_Re) (N := 20) hx hb hts (fun w h => gwc (inn_Re w h)) hown hK hP 0 rfl rfl 14 (by decide) (hts _ (gwc gw_717)) (fun _ h9 => h9) rfl dd_Re_rowCut_23 ?_
            refine lv_iload_n hx hb dd_Re_rowCut_26 rfl (lv_at hl 2 rfl) ?_
            obtain ⟨k27, hf⟩ := ck_some hf
            refine va_iald hx hb hK hP 2 0 rfl rfl (okb_in k27) dd_Re_rowCut_27 ?_
            refine lv_aload_n hx hb dd_Re_rowCut_28 rfl (lv_at hl 0 rfl) ?_
            refine va_get (D := (dC, dI)) (ci := 9) (v := .ref a_t_row) (C := rr_Re) (T := tt_Re) (N := 20) hx hb hts (fun w h => gwc (inn_Re w h)) hown hK hP 0 rfl rfl 14 (by decide) (hts _ (gwc gw_717)) (fun _ h9 => h9) rfl dd_Re_rowCut_29 ?_
            refine lv_iload hx hb dd_Re_rowCut_32 (lv_at hl 3 rfl) ?_
            obtain ⟨k34, hf⟩ := ck_some hf
            refine va_iald hx hb hK hP 2 0 rfl rfl (okb_in k34) dd_Re_rowCut_34 ?_
            refine lv_icmp_eq (tgt := 49) hx hb dd_Re_rowCut_35 (by decide) (fun cc => ?_) (fun cc => ?_)
            · skip
              have hf := if_t cc hf
              refine lv_lconst (v := 0) hx hb dd_Re_rowCut_49 (by decide) ?_
              refine lv_ladd hx hb dd_Re_rowCut_50 ?_
              refine lv_lstore_n (lv' := [(1, .long (x1 + (0 : Int64))), (0, .ref a_t), (3, .int x3), (4, .int x4)]) hx hb dd_Re_rowCut_51 rfl hl (by decide) rfl (fun ls hl => ?_)
              refine lv_iinc (v := x4 + 1) (lv' := [(4, .int (x4 + 1)), (1, .long (x1 + (0 : Int64))), (0, .ref a_t), (3, .int x3)]) hx hb dd_Re_rowCut_52 hl (k := 3) rfl rfl (by decide) rfl (fun ls hl => ?_)
              refine lv_goto (tgt := 15) hx hb dd_Re_rowCut_55 (by decide) ?_
              exact ih15 (x1 + (0 : Int64)) x3 (x4 + 1) _ _ _ hf (lv_sub hl [2, 1, 3, 0] rfl) hP hD hS
            · skip
              have hf := if_f cc hf
              refine lv_aload_n hx hb dd_Re_rowCut_38 rfl (lv_at hl 0 rfl) ?_
              refine lv_iload_n hx hb dd_Re_rowCut_39 rfl (lv_at hl 2 rfl) ?_
              refine lv_iload hx hb dd_Re_rowCut_40 (lv_at hl 3 rfl) ?_
              obtain ⟨r42, hr42, hf⟩ := bind_some hf
              refine xcalli (rest := [.long x1]) (wc := (wd_Re_arcOf cI cZ a_t a_t_levelArc a_t_weight a_t_arcs a_t_split a_t_least a_t_most a_t_levelNodes a_t_levelWeight a_t_levelIn a_t_row a_t_isFree a_t_best a_t_above a_t_ordered a_t_parts t_nodes t_kinds t_levels t_size t_base t_levelArc)) (w1 := (wd_Re_arcOf cI cZ a_t a_t_levelArc a_t_weight a_t_arcs a_t_split a_t_least a_t_most a_t_levelNodes a_t_levelWeight a_t_levelIn a_t_row a_t_isFree a_t_best a_t_above a_t_ordered a_t_parts t_nodes t_kinds t_levels t_size t_base t_levelArc)) (wr := [(a_t_row, .inl (cI, 40, .inl t_row))]) (ws' := (wd_Re_rowCut cI cZ a_t a_t_levelArc a_t_row a_t_weight a_t_arcs a_t_split a_t_least a_t_most a_t_levelNodes a_t_levelWeight a_t_levelIn a_t_isFree a_t_best a_t_above a_t_ordered a_t_parts t_nodes t_kinds t_levels t_size t_base t_levelArc t_row)) (va_runV (As := [.int x3, .int x4]) ⟨hx, hb, hml, hown, hts⟩ (c_Re_arcOf l dC dI cI cZ a_t a_t_levelArc a_t_weight a_t_arcs a_t_split a_t_least a_t_most a_t_levelNodes a_t_levelWeight a_t_levelIn a_t_row a_t_isFree a_t_best a_t_above a_t_ordered a_t_parts H.size x3 x4 t_nodes t_kinds t_levels t_size t_base t_levelArc r42 hr42) (cwV 2 hts (gV gw_854 gw_856 gw_39 gw_61 gw_857) rfl rfl rfl (yd_Re_arcOf) ⟨Nat.le_of_ble_eq_true rfl, Nat.le_of_ble_eq_true rfl⟩) (mkV hK (hP.sub (ws' := (wd_Re_arcOf cI cZ a_t a_t_levelArc a_t_weight a_t_arcs a_t_split a_t_least a_t_most a_t_levelNodes a_t_levelWeight a_t_levelIn a_t_row a_t_isFree a_t_best a_t_above a_t_ordered a_t_parts t_nodes t_kinds t_levels t_size t_base t_levelArc)) [0, 1] rfl) (hD.sub (ws' := (wd_Re_arcOf cI cZ a_t a_t_levelArc a_t_weight a_t_arcs a_t_split a_t_least a_t_most a_t_levelNodes a_t_levelWeight a_t_levelIn a_t_row a_t_isFree a_t_best a_t_above a_t_ordered a_t_parts t_nodes t_kinds t_levels t_size t_base t_levelArc)) [0, 1] (by decide) rfl) hN (va_recv hK hP (ci := 9) (q0 := 0) rfl rfl)) rfl rfl hl.1 rfl (lv_room (Nat.le_of_ble_eq_true rfl)) dd_Re_rowCut_42 ⟨Nat.zero_le _, Nat.zero_le _⟩) hP hD hS hA [0, 1] [2] [1, 2, 0] rfl rfl (by decide) (by decide) rfl (by decide) rfl (fun H locs hP hD hS => ?_)
              refine lv_i2l hx hb dd_Re_rowCut_45 rfl ?_
              refine lv_goto (tgt := 50) hx hb dd_Re_rowCut_46 (by decide) ?_
              refine lv_ladd hx hb dd_Re_rowCut_50 ?_
              refine lv_lstore_n (lv' := [(1, .long (x1 + r42.toInt64)), (0, .ref a_t), (3, .int x3), (4, .int x4)]) hx hb dd_Re_rowCut_51 rfl hl (by decide) rfl (fun ls hl => ?_)
              refine lv_iinc (v := x4 + 1) (lv' := [(4, .int (x4 + 1)), (1, .long (x1 + r42.toInt64)), (0, .ref a_t), (3, .int x3)]) hx hb dd_Re_rowCut_52 hl (k := 3) rfl rfl (by decide) rfl (fun ls hl => ?_)
              refine lv_goto (tgt := 15) hx hb dd_Re_rowCut_55 (by decide) ?_
              exact ih15 (x1 + r42.toInt64) x3 (x4 + 1) _ _ _ hf (lv_sub hl [2, 1, 3, 0] rfl) hP hD hS
      refine lv_iload_n hx hb dd_Re_rowCut_4 rfl (lv_at hl 2 rfl) ?_
      refine lv_aload_n hx hb dd_Re_rowCut_5 rfl (lv_at hl 0 rfl) ?_
      refine va_get (D := (dC, dI)) (ci := 9) (v := .int t_size) (C := rr_Re) (T := tt_Re) (N := 20) hx hb hts (fun w h => gwc (inn_Re w h)) hown hK hP 0 rfl rfl 12 (by decide) (hts _ (gwc gw_715)) (fun _ h9 => h9) rfl dd_Re_rowCut_6 ?_
      refine lv_icmp_ge (tgt := 64) hx hb dd_Re_rowCut_9 (by decide) (fun cc => ?_) (fun cc => ?_)
      · skip
        have hf := if_t cc hf
        refine lv_lload_n hx hb dd_Re_rowCut_64 rfl (lv_at hl 1 rfl) ?_
        have hf := Option.some.inj hf
        subst hf
        exact W.lret hx hb hr (fun t ht hW => ⟨⟨_, (), rfl, rfl, pst_of ht hP hD⟩, hS.F ht⟩) hS.2.2 dd_Re_rowCut_65
      · skip
        have hf := if_f cc hf
        refine lv_iconst (v := 0) hx hb dd_Re_rowCut_12 (by decide) ?_
        refine lv_istore (lv' := [(4, .int 0), (0, .ref a_t), (1, .long x1), (3, .int x3)]) hx hb dd_Re_rowCut_13 hl (by decide) rfl (fun ls hl => ?_)
        exact h15 64 x1 x3 0 _ _ _ hf (lv_sub hl [1, 2, 3, 0] rfl) hP hD hS
  refine lv_lconst (v := 0) hx hb dd_Re_rowCut_0 (by decide) ?_
  refine lv_lstore_n (lv' := [(1, .long (0 : Int64)), (0, .ref a_t)]) hx hb dd_Re_rowCut_1 rfl hl (by decide) rfl (fun ls hl => ?_)
  refine lv_iconst (v := 0) hx hb dd_Re_rowCut_2 (by decide) ?_
  refine lv_istore_n (lv' := [(3, .int 0), (1, .long (0 : Int64)), (0, .ref a_t)]) hx hb dd_Re_rowCut_3 rfl hl (by decide) rfl (fun ls hl => ?_)
  exact h4 64 (0 : Int64) 0 _ _ _ hf (lv_sub hl [2, 1, 0] rfl) hP hD hS
abbrev wd_Re_rowGain (cI cZ : ClassId) (a_t a_t_levelArc a_t_row a_t_weight a_t_arcs a_t_split a_t_least a_t_most a_t_levelNodes a_t_levelWeight a_t_levelIn a_t_isFree a_t_best a_t_above a_t_ordered a_t_parts : Nat) (t_nodes : Int32) (t_kinds : Int32) (t_levels : Int32) (t_size : Int32) (t_base : Int32) (t_levelArc : Nat → Int32) (t_row : Nat → Int32) : va_W := [(a_t, .inr (9, [.int t_nodes, .int t_kinds, .ref a_t_weight, .ref a_t_arcs, .ref a_t_split, .ref a_t_least, .ref a_t_most, .int t_levels, .ref a_t_levelNodes, .ref a_t_levelWeight, .ref a_t_levelArc, .ref a_t_levelIn, .int t_size, .int t_base, .ref a_t_row, .ref a_t_isFree, .ref a_t_best, .ref a_t_above, .ref a_t_ordered, .ref a_t_parts])), (a_t_levelArc, .inl (cI, 65600, .inl t_levelArc)), (a_t_row, .inl (cI, 40, .inl t_row))]
set_option maxRecDepth 100000 in
set_option maxHeartbeats 4000000 in
theorem c_Re_rowGain (l : Launch) (dC : Nat → ClassId) (dI : Nat → Nat → Nat) (cI cZ : ClassId) (a_t a_t_levelArc a_t_row a_t_weight a_t_arcs a_t_split a_t_least a_t_most a_t_levelNodes a_t_levelWeight a_t_levelIn a_t_isFree a_t_best a_t_above a_t_ordered a_t_parts sz : Nat) (x1 : Int32) (x2 : Int32) (t_nodes : Int32) (t_kinds : Int32) (t_levels : Int32) (t_size : Int32) (t_base : Int32) (t_levelArc : Nat → Int32) (t_row : Nat → Int32) (out : Int64) (hf : f_Re_rowGain x1 x2 t_size t_base t_levelArc t_row = some out) :
    Met l yy_Re_rowGain wq_Re_rowGain ({ frames := 1, cells := 0, slots := 0, locals := 22 }) (va_Pc ([.ref a_t, .int x1, .int x2] : List Value) (pre_ (dC, dI) cI cZ sz (wd_Re_rowGain cI cZ a_t a_t_levelArc a_t_row a_t_weight a_t_arcs a_t_split a_t_least a_t_most a_t_levelNodes a_t_levelWeight a_t_levelIn a_t_isFree a_t_best a_t_above a_t_ordered a_t_parts t_nodes t_kinds t_levels t_size t_base t_levelArc t_row))) (va_Ql (fun (r : Int64) (_ : Unit) => r = out) (fun _ => pst (dC, dI) (va_A (wd_Re_rowGain cI cZ a_t a_t_levelArc a_t_row a_t_weight a_t_arcs a_t_split a_t_least a_t_most a_t_levelNodes a_t_levelWeight a_t_levelIn a_t_isFree a_t_best a_t_above a_t_ordered a_t_parts t_nodes t_kinds t_levels t_size t_base t_levelArc t_row) sz) (wd_Re_rowGain cI cZ a_t a_t_levelArc a_t_row a_t_weight a_t_arcs a_t_split a_t_least a_t_most a_t_levelNodes a_t_levelWeight a_t_levelIn a_t_isFree a_t_best a_t_above a_t_ordered a_t_parts t_nodes t_kinds t_levels t_size t_base t_levelArc t_row)) (va_A (wd_Re_rowGain cI cZ a_t a_t_levelArc a_t_row a_t_weight a_t_arcs a_t_split a_t_least a_t_most a_t_levelNodes a_t_levelWeight a_t_levelIn a_t_isFree a_t_best a_t_above a_t_ordered a_t_parts t_nodes t_kinds t_levels t_size t_base t_levelArc t_row) sz)) 0 0 (va_A (wd_Re_rowGain cI cZ a_t a_t_levelArc a_t_row a_t_weight a_t_arcs a_t_split a_t_least a_t_most a_t_levelNodes a_t_levelWeight a_t_levelIn a_t_isFree a_t_best a_t_above a_t_ordered a_t_parts t_nodes t_kinds t_levels t_size t_base t_levelArc t_row) sz) := by
  refine Met.ofW (cc := cc_Re_rowGain) (maxL := 6) (ret := (some .long)) (by decide) rfl ?_
  intro p e s m args below meth c s₁ B hml hv
  obtain ⟨rfl, hsz, hP, hK, hD0, hN⟩ := hv
  have hx := B.exec
  have hb := B.bytes
  have hr := B.returns
  have hts := atoms_spec (ws := wq_Re_rowGain) B.pre
  have hown : s.vm.findClass rr_Re = some m.cls := findClass_of_methodNamed B.named
  have hlocks := B.notSynchronized
  subst hsz
  have hD := hD0.self (sz := s.heap.size)
  generalize hAe : va_A (wd_Re_rowGain cI cZ a_t a_t_levelArc a_t_row a_t_weight a_t_arcs a_t_split a_t_least a_t_most a_t_levelNodes a_t_levelWeight a_t_levelIn a_t_isFree a_t_best a_t_above a_t_ordered a_t_parts t_nodes t_kinds t_levels t_size t_base t_levelArc t_row) s.heap.size = A at hD ⊢
  have hA : ∀ q : Nat, s.heap.size ≤ q → A q := fun q h => by rw [← hAe]; exact Or.inr h
  obtain ⟨H, hH⟩ : ∃ H : Heap, H = s.heap := ⟨_, rfl⟩
  have hS : va_S A s.heap H [] := by rw [hH]; exact va_S.rf
  have hl := lv_entry (([.ref a_t, .int x1, .int x2] : List Value)) (n := 6) (Nat.le_of_ble_eq_true rfl)
  rw [lg_entry_eq]
  generalize (lg_sl (([.ref a_t, .int x1, .int x2] : List Value)) ++ List.replicate (6 - (lg_sl (([.ref a_t, .int x1, .int x2] : List Value))).length) Slot.unset).toArray = ls at hl ⊢
  have hl : lv_has ls 6 [(0, .ref a_t), (1, .int x1), (2, .int x2)] := hl
  rw [← hH] at hP ⊢
  have hP : va_P (dC, dI) clsL (wd_Re_rowGain cI cZ a_t a_t_levelArc a_t_row a_t_weight a_t_arcs a_t_split a_t_least a_t_most a_t_levelNodes a_t_levelWeight a_t_levelIn a_t_isFree a_t_best a_t_above a_t_ordered a_t_parts t_nodes t_kinds t_levels t_size t_base t_levelArc t_row) H := hP
  unfold f_Re_rowGain at hf
  have h5 : ∀ (n5 : Nat) (x3 : Int64) (x5 : Int32) (ls : Array Slot) (H : Heap) (locs : List Loc), L_Re_rowGain_5 x1 x2 t_size t_base t_levelArc t_row n5 x3 x5 = some out → lv_has ls 6 [(0, .ref a_t), (1, .int x1), (2, .int x2), (3, .long x3), (5, .int x5)] → va_P (dC, dI) clsL (wd_Re_rowGain cI cZ a_t a_t_levelArc a_t_row a_t_weight a_t_arcs a_t_split a_t_least a_t_most a_t_levelNodes a_t_levelWeight a_t_levelIn a_t_isFree a_t_best a_t_above a_t_ordered a_t_parts t_nodes t_kinds t_levels t_size t_base t_levelArc t_row) H → va_D A (wd_Re_rowGain cI cZ a_t a_t_levelArc a_t_row a_t_weight a_t_arcs a_t_split a_t_least a_t_most a_t_levelNodes a_t_levelWeight a_t_levelIn a_t_isFree a_t_best a_t_above a_t_ordered a_t_parts t_nodes t_kinds t_levels t_size t_base t_levelArc t_row) → va_S A s.heap H locs → W p l e (headSpec wq_Re_rowGain ({ frames := 1, cells := 0, slots := 0, locals := 22 })).room s m ([.ref a_t, .int x1, .int x2] : List Value).toArray below meth c H locs 0 0 (MQ below (va_Ql (fun (r : Int64) (_ : Unit) => r = out) (fun _ => pst (dC, dI) A (wd_Re_rowGain cI cZ a_t a_t_levelArc a_t_row a_t_weight a_t_arcs a_t_split a_t_least a_t_most a_t_levelNodes a_t_levelWeight a_t_levelIn a_t_isFree a_t_best a_t_above a_t_ordered a_t_parts t_nodes t_kinds t_levels t_size t_base t_levelArc t_row)) A) ([.ref a_t, .int x1, .int x2] : List Value).toArray s 0 0 A) (F0 m 5 ls []) := by
    intro n5
    induction n5 with
    | zero =>
      intro x3 x5 ls H locs hf
      rw [L_Re_rowGain_5] at hf
      exact absurd hf (fun h => by cases h)
    | succ n5 ih5 =>
      intro x3 x5 ls H locs hf hl hP hD hS
      rw [L_Re_rowGain_5] at hf
      have h80 : ∀ (x3 : Int64) (ls : Array Slot) (H : Heap) (locs : List Loc), J_Re_rowGain_80 x1 x2 t_row x3 = some out → lv_has ls 6 [(0, .ref a_t), (1, .int x1), (2, .int x2), (3, .long x3)] → va_P (dC, dI) clsL (wd_Re_rowGain cI cZ a_t a_t_levelArc a_t_row a_t_weight a_t_arcs a_t_split a_t_least a_t_most a_t_levelNodes a_t_levelWeight a_t_levelIn a_t_isFree a_t_best a_t_above a_t_ordered a_t_parts t_nodes t_kinds t_levels t_size t_base t_levelArc t_row) H → va_D A (wd_Re_rowGain cI cZ a_t a_t_levelArc a_t_row a_t_weight a_t_arcs a_t_split a_t_least a_t_most a_t_levelNodes a_t_levelWeight a_t_levelIn a_t_isFree a_t_best a_t_above a_t_ordered a_t_parts t_nodes t_kinds t_levels t_size t_base t_levelArc t_row) → va_S A s.heap H locs → W p l e (headSpec wq_Re_rowGain ({ frames := 1, cells := 0, slots := 0, locals := 22 })).room s m ([.ref a_t, .int x1, .int x2] : List Value).toArray below meth c H locs 0 0 (MQ below (va_Ql (fun (r : Int64) (_ : Unit) => r = out) (fun _ => pst (dC, dI) A (wd_Re_rowGain cI cZ a_t a_t_levelArc a_t_row a_t_weight a_t_arcs a_t_split a_t_least a_t_most a_t_levelNodes a_t_levelWeight a_t_levelIn a_t_isFree a_t_best a_t_above a_t_ordered a_t_parts t_nodes t_kinds t_levels t_size t_base t_levelArc t_row)) A) ([.ref a_t, .int x1, .int x2] : List Value).toArray s 0 0 A) (F0 m 80 ls []) := by
        intro x3 ls H locs hf hl hP hD hS
        unfold J_Re_rowGain_80 at hf
        refine lv_iload_n hx hb dd_Re_rowGain_80 rfl (lv_at hl 2 rfl) ?_
        refine lv_aload_n hx hb dd_Re_rowGain_81 rfl (lv_at hl 0 rfl) ?_
        refine va_get (D := (dC, dI)) (ci := 9) (v := .ref a_t_row) (C := rr_Re) (T := tt_Re) (N := 20) hx hb hts (fun w h => gwc (inn_Re w h)) hown hK hP 0 rfl rfl 14 (by decide) (hts _ (gwc gw_717)) (fun _ h9 => h9) rfl dd_Re_rowGain_82 ?_
        refine lv_iload_n hx hb dd_Re_rowGain_85 rfl (lv_at hl 1 rfl) ?_
        obtain ⟨k86, hf⟩ := ck_some hf
        refine va_iald hx hb hK hP 2 0 rfl rfl (okb_in k86) dd_Re_rowGain_86 ?_
        refine lv_icmp_ne (tgt := 94) hx hb dd_Re_rowGain_87 (by decide) (fun cc => ?_) (fun cc => ?_)
        · skip
          have hf := if_f cc hf
          refine lv_lload_n hx hb dd_Re_rowGain_94 rfl (lv_at hl 3 rfl) ?_
          have hf := Option.some.inj hf
          subst hf
          exact W.lret hx hb hr (fun t ht hW => ⟨⟨_, (), rfl, rfl, pst_of ht hP hD⟩, hS.F ht⟩) hS.2.2 dd_Re_rowGain_95
        · skip
          have hf := if_t cc hf
          refine lv_lconst (v := 0) hx hb dd_Re_rowGain_90 (by decide) ?_
          refine lv_goto (tgt := 95) hx hb dd_Re_rowGain_91 (by decide) ?_
          have hf := Option.some.inj hf
          subst hf
          exact W.lret hx hb hr (fun t ht hW => ⟨⟨_, (), rfl, rfl, pst_of ht hP hD⟩, hS.F ht⟩) hS.2.2 dd_Re_rowGain_95
      refine lv_iload hx hb dd_Re_rowGain_5 (lv_at hl 4 rfl) ?_
      refine lv_aload_n hx hb dd_Re_rowGain_7 rfl (lv_at hl 0 rfl) ?_
      refine va_get (D := (dC, dI)) (ci := 9) (v := .int t_size) (C := rr_Re) (T := tt_Re) (N := 20) hx hb hts (fun w h => gwc (inn_Re w h)) hown hK hP 0 rfl rfl 12 (by decide) (hts _ (gwc gw_715)) (fun _ h9 => h9) rfl dd_Re_rowGain_8 ?_
      refine lv_icmp_ge (tgt := 80) hx hb dd_Re_rowGain_11 (by decide) (fun cc => ?_) (fun cc => ?_)
      · skip
        have hf := if_t cc hf
        exact h80 x3 _ _ _ hf (lv_sub hl [0, 1, 2, 3] rfl) hP hD hS
      · skip
        have hf := if_f cc hf
        refine lv_iload hx hb dd_Re_rowGain_14 (lv_at hl 4 rfl) ?_
        refine lv_iload_n hx hb dd_Re_rowGain_16 rfl (lv_at hl 1 rfl) ?_
        refine lv_icmp_eq (tgt := 74) hx hb dd_Re_rowGain_17 (by decide) (fun cc => ?_) (fun cc => ?_)
        · skip
          have hf := if_t cc hf
          refine lv_iinc (v := x5 + 1) (lv' := [(5, .int (x5 + 1)), (0, .ref a_t), (1, .int x1), (2, .int x2), (3, .long x3)]) hx hb dd_Re_rowGain_74 hl (k := 4) rfl rfl (by decide) rfl (fun ls hl => ?_)
          refine lv_goto (tgt := 5) hx hb dd_Re_rowGain_77 (by decide) ?_
          exact ih5 x3 (x5 + 1) _ _ _ hf (lv_sub hl [1, 2, 3, 4, 0] rfl) hP hD hS
        · skip
          have hf := if_f cc hf
          refine lv_lload_n hx hb dd_Re_rowGain_20 rfl (lv_at hl 3 rfl) ?_
          refine lv_aload_n hx hb dd_Re_rowGain_21 rfl (lv_at hl 0 rfl) ?_
          refine va_get (D := (dC, dI)) (ci := 9) (v := .ref a_t_row) (C := rr_Re) (T := tt_Re) (N := 20) hx hb hts (fun w h => gwc (inn_Re w h)) hown hK hP 0 rfl rfl 14 (by decide) (hts _ (gwc gw_717)) (fun _ h9 => h9) rfl dd_Re_rowGain_22 ?_
          refine lv_iload hx hb dd_Re_rowGain_25 (lv_at hl 4 rfl) ?_
          obtain ⟨k27, hf⟩ := ck_some hf
          refine va_iald hx hb hK hP 2 0 rfl rfl (okb_in k27) dd_Re_rowGain_27 ?_
          refine lv_iload_n hx hb dd_Re_rowGain_28 rfl (lv_at hl 2 rfl) ?_
          refine lv_icmp_ne (tgt := 43) hx hb dd_Re_rowGain_29 (by decide) (fun cc => ?_) (fun cc => ?_)
          · skip
            have hf := if_f cc hf
            refine lv_aload_n hx hb dd_Re_rowGain_43 rfl (lv_at hl 0 rfl) ?_
            refine va_get (D := (dC, dI)) (ci := 9) (v := .ref a_t_row) (C := rr_Re) (T := tt_Re) (N := 20) hx hb hts (fun w h => gwc (inn_Re w h)) hown hK hP 0 rfl rfl 14 (by decide) (hts _ (gwc gw_717)) (fun _ h9 => h9) rfl dd_Re_rowGain_44 ?_
            refine lv_iload hx hb dd_Re_rowGain_47 (lv_at hl 4 rfl) ?_
            obtain ⟨k49, hf⟩ := ck_some hf
            refine va_iald hx hb hK hP 2 0 rfl rfl (okb_in k49) dd_Re_rowGain_49 ?_
            refine lv_aload_n hx hb dd_Re_rowGain_50 rfl (lv_at hl 0 rfl) ?_
            refine va_get (D := (dC, dI)) (ci := 9) (v := .ref a_t_row) (C := rr_Re) (T := tt_Re) (N := 20) hx hb hts (fun w h => gwc (inn_Re w h)) hown hK hP 0 rfl rfl 14 (by decide) (hts _ (gwc gw_717)) (fun _ h9 => h9) rfl dd_Re_rowGain_51 ?_
            refine lv_iload_n hx hb dd_Re_rowGain_54 rfl (lv_at hl 1 rfl) ?_
            obtain ⟨k55, hf⟩ := ck_some hf
            refine va_iald hx hb hK hP 2 0 rfl rfl (okb_in k55) dd_Re_rowGain_55 ?_
            refine lv_icmp_ne (tgt := 71) hx hb dd_Re_rowGain_56 (by decide) (fun cc => ?_) (fun cc => ?_)
            · skip
              have hf := if_f cc hf
              refine lv_lconst (v := 0) hx hb dd_Re_rowGain_71 (by decide) ?_
              refine lv_ladd hx hb dd_Re_rowGain_72 ?_
              refine lv_lstore_n (lv' := [(3, .long (x3 + (0 : Int64))), (0, .ref a_t), (1, .int x1), (2, .int x2), (5, .int x5)]) hx hb dd_Re_rowGain_73 rfl hl (by decide) rfl (fun ls hl => ?_)
              refine lv_iinc (v := x5 + 1) (lv' := [(5, .int (x5 + 1)), (3, .long (x3 + (0 : Int64))), (0, .ref a_t), (1, .int x1), (2, .int x2)]) hx hb dd_Re_rowGain_74 hl (k := 4) rfl rfl (by decide) rfl (fun ls hl => ?_)
              refine lv_goto (tgt := 5) hx hb dd_Re_rowGain_77 (by decide) ?_
              exact ih5 (x3 + (0 : Int64)) (x5 + 1) _ _ _ hf (lv_sub hl [2, 3, 4, 1, 0] rfl) hP hD hS
            · skip
              have hf := if_t cc hf
              refine lv_aload_n hx hb dd_Re_rowGain_59 rfl (lv_at hl 0 rfl) ?_
              refine lv_iload_n hx hb dd_Re_rowGain_60 rfl (lv_at hl 1 rfl) ?_
              refine lv_iload hx hb dd_Re_rowGain_61 (lv_at hl 4 rfl) ?_
              obtain ⟨r63, hr63, hf⟩ := bind_some hf
              refine xcalli (rest := [.long x3]) (wc := (wd_Re_arcOf cI cZ a_t a_t_levelArc a_t_weight a_t_arcs a_t_split a_t_least a_t_most a_t_levelNodes a_t_levelWeight a_t_levelIn a_t_row a_t_isFree a_t_best a_t_above a_t_ordered a_t_parts t_nodes t_kinds t_levels t_size t_base t_levelArc)) (w1 := (wd_Re_arcOf cI cZ a_t a_t_levelArc a_t_weight a_t_arcs a_t_split a_t_least a_t_most a_t_levelNodes a_t_levelWeight a_t_levelIn a_t_row a_t_isFree a_t_best a_t_above a_t_ordered a_t_parts t_nodes t_kinds t_levels t_size t_base t_levelArc)) (wr := [(a_t_row, .inl (cI, 40, .inl t_row))]) (ws' := (wd_Re_rowGain cI cZ a_t a_t_levelArc a_t_row a_t_weight a_t_arcs a_t_split a_t_least a_t_most a_t_levelNodes a_t_levelWeight a_t_levelIn a_t_isFree a_t_best a_t_above a_t_ordered a_t_parts t_nodes t_kinds t_levels t_size t_base t_levelArc t_row)) (va_runV (As := [.int x1, .int x5]) ⟨hx, hb, hml, hown, hts⟩ (c_Re_arcOf l dC dI cI cZ a_t a_t_levelArc a_t_weight a_t_arcs a_t_split a_t_least a_t_most a_t_levelNodes a_t_levelWeight a_t_levelIn a_t_row a_t_isFree a_t_best a_t_above a_t_ordered a_t_parts H.size x1 x5 t_nodes t_kinds t_levels t_size t_base t_levelArc r63 hr63) (cwV 2 hts (gV gw_854 gw_856 gw_39 gw_61 gw_857) rfl rfl rfl (yd_Re_arcOf) ⟨Nat.le_of_ble_eq_true rfl, Nat.le_of_ble_eq_true rfl⟩) (mkV hK (hP.sub (ws' := (wd_Re_arcOf cI cZ a_t a_t_levelArc a_t_weight a_t_arcs a_t_split a_t_least a_t_most a_t_levelNodes a_t_levelWeight a_t_levelIn a_t_row a_t_isFree a_t_best a_t_above a_t_ordered a_t_parts t_nodes t_kinds t_levels t_size t_base t_levelArc)) [0, 1] rfl) (hD.sub (ws' := (wd_Re_arcOf cI cZ a_t a_t_levelArc a_t_weight a_t_arcs a_t_split a_t_least a_t_most a_t_levelNodes a_t_levelWeight a_t_levelIn a_t_row a_t_isFree a_t_best a_t_above a_t_ordered a_t_parts t_nodes t_kinds t_levels t_size t_base t_levelArc)) [0, 1] (by decide) rfl) hN (va_recv hK hP (ci := 9) (q0 := 0) rfl rfl)) rfl rfl hl.1 rfl (lv_room (Nat.le_of_ble_eq_true rfl)) dd_Re_rowGain_63 ⟨Nat.zero_le _, Nat.zero_le _⟩) hP hD hS hA [0, 1] [2] [1, 2, 0] rfl rfl (by decide) (by decide) rfl (by decide) rfl (fun H locs hP hD hS => ?_)
              refine lv_ineg hx hb dd_Re_rowGain_66 ?_
              refine lv_i2l hx hb dd_Re_rowGain_67 rfl ?_
              refine lv_goto (tgt := 72) hx hb dd_Re_rowGain_68 (by decide) ?_
              refine lv_ladd hx hb dd_Re_rowGain_72 ?_
              refine lv_lstore_n (lv' := [(3, .long (x3 + ((-r63).toInt64))), (0, .ref a_t), (1, .int x1), (2, .int x2), (5, .int x5)]) hx hb dd_Re_rowGain_73 rfl hl (by decide) rfl (fun ls hl => ?_)
              refine lv_iinc (v := x5 + 1) (lv' := [(5, .int (x5 + 1)), (3, .long (x3 + ((-r63).toInt64))), (0, .ref a_t), (1, .int x1), (2, .int x2)]) hx hb dd_Re_rowGain_74 hl (k := 4) rfl rfl (by decide) rfl (fun ls hl => ?_)
              refine lv_goto (tgt := 5) hx hb dd_Re_rowGain_77 (by decide) ?_
              exact ih5 (x3 + ((-r63).toInt64)) (x5 + 1) _ _ _ hf (lv_sub hl [2, 3, 4, 1, 0] rfl) hP hD hS
          · skip
            have hf := if_t cc hf
            refine lv_aload_n hx hb dd_Re_rowGain_32 rfl (lv_at hl 0 rfl) ?_
            refine lv_iload_n hx hb dd_Re_rowGain_33 rfl (lv_at hl 1 rfl) ?_
            refine lv_iload hx hb dd_Re_rowGain_34 (lv_at hl 4 rfl) ?_
            obtain ⟨r36, hr36, hf⟩ := bind_some hf
            refine xcalli (rest := [.long x3]) (wc := (wd_Re_arcOf cI cZ a_t a_t_levelArc a_t_weight a_t_arcs a_t_split a_t_least a_t_most a_t_levelNodes a_t_levelWeight a_t_levelIn a_t_row a_t_isFree a_t_best a_t_above a_t_ordered a_t_parts t_nodes t_kinds t_levels t_size t_base t_levelArc)) (w1 := (wd_Re_arcOf cI cZ a_t a_t_levelArc a_t_weight a_t_arcs a_t_split a_t_least a_t_most a_t_levelNodes a_t_levelWeight a_t_levelIn a_t_row a_t_isFree a_t_best a_t_above a_t_ordered a_t_parts t_nodes t_kinds t_levels t_size t_base t_levelArc)) (wr := [(a_t_row, .inl (cI, 40, .inl t_row))]) (ws' := (wd_Re_rowGain cI cZ a_t a_t_levelArc a_t_row a_t_weight a_t_arcs a_t_split a_t_least a_t_most a_t_levelNodes a_t_levelWeight a_t_levelIn a_t_isFree a_t_best a_t_above a_t_ordered a_t_parts t_nodes t_kinds t_levels t_size t_base t_levelArc t_row)) (va_runV (As := [.int x1, .int x5]) ⟨hx, hb, hml, hown, hts⟩ (c_Re_arcOf l dC dI cI cZ a_t a_t_levelArc a_t_weight a_t_arcs a_t_split a_t_least a_t_most a_t_levelNodes a_t_levelWeight a_t_levelIn a_t_row a_t_isFree a_t_best a_t_above a_t_ordered a_t_parts H.size x1 x5 t_nodes t_kinds t_levels t_size t_base t_levelArc r36 hr36) (cwV 2 hts (gV gw_854 gw_856 gw_39 gw_61 gw_857) rfl rfl rfl (yd_Re_arcOf) ⟨Nat.le_of_ble_eq_true rfl, Nat.le_of_ble_eq_true rfl⟩) (mkV hK (hP.sub (ws' := (wd_Re_arcOf cI cZ a_t a_t_levelArc a_t_weight a_t_arcs a_t_split a_t_least a_t_most a_t_levelNodes a_t_levelWeight a_t_levelIn a_t_row a_t_isFree a_t_best a_t_above a_t_ordered a_t_parts t_nodes t_kinds t_levels t_size t_base t_levelArc)) [0, 1] rfl) (hD.sub (ws' := (wd_Re_arcOf cI cZ a_t a_t_levelArc a_t_weight a_t_arcs a_t_split a_t_least a_t_most a_t_levelNodes a_t_levelWeight a_t_levelIn a_t_row a_t_isFree a_t_best a_t_above a_t_ordered a_t_parts t_nodes t_kinds t_levels t_size t_base t_levelArc)) [0, 1] (by decide) rfl) hN (va_recv hK hP (ci := 9) (q0 := 0) rfl rfl)) rfl rfl hl.1 rfl (lv_room (Nat.le_of_ble_eq_true rfl)) dd_Re_rowGain_36 ⟨Nat.zero_le _, Nat.zero_le _⟩) hP hD hS hA [0, 1] [2] [1, 2, 0] rfl rfl (by decide) (by decide) rfl (by decide) rfl (fun H locs hP hD hS => ?_)
            refine lv_i2l hx hb dd_Re_rowGain_39 rfl ?_
            refine lv_goto (tgt := 72) hx hb dd_Re_rowGain_40 (by decide) ?_
            refine lv_ladd hx hb dd_Re_rowGain_72 ?_
            refine lv_lstore_n (lv' := [(3, .long (x3 + r36.toInt64)), (0, .ref a_t), (1, .int x1), (2, .int x2), (5, .int x5)]) hx hb dd_Re_rowGain_73 rfl hl (by decide) rfl (fun ls hl => ?_)
            refine lv_iinc (v := x5 + 1) (lv' := [(5, .int (x5 + 1)), (3, .long (x3 + r36.toInt64)), (0, .ref a_t), (1, .int x1), (2, .int x2)]) hx hb dd_Re_rowGain_74 hl (k := 4) rfl rfl (by decide) rfl (fun ls hl => ?_)
            refine lv_goto (tgt := 5) hx hb dd_Re_rowGain_77 (by decide) ?_
            exact ih5 (x3 + r36.toInt64) (x5 + 1) _ _ _ hf (lv_sub hl [2, 3, 4, 1, 0] rfl) hP hD hS
  refine lv_lconst (v := 0) hx hb dd_Re_rowGain_0 (by decide) ?_
  refine lv_lstore_n (lv' := [(3, .long (0 : Int64)), (0, .ref a_t), (1, .int x1), (2, .int x2)]) hx hb dd_Re_rowGain_1 rfl hl (by decide) rfl (fun ls hl => ?_)
  refine lv_iconst (v := 0) hx hb dd_Re_rowGain_2 (by decide) ?_
  refine lv_istore (lv' := [(5, .int 0), (3, .long (0 : Int64)), (0, .ref a_t), (1, .int x1), (2, .int x2)]) hx hb dd_Re_rowGain_3 hl (by decide) rfl (fun ls hl => ?_)
  exact h5 64 (0 : Int64) 0 _ _ _ hf (lv_sub hl [2, 3, 4, 1, 0] rfl) hP hD hS
abbrev wd_Re_takeSplit (cI cZ : ClassId) (a_t a_t_arcs a_t_levelArc a_t_levelIn a_t_levelNodes a_t_levelWeight a_t_row a_t_split a_t_weight a_t_least a_t_most a_t_isFree a_t_best a_t_above a_t_ordered a_t_parts : Nat) (t_nodes : Int32) (t_kinds : Int32) (t_levels : Int32) (t_size : Int32) (t_base : Int32) (t_arcs : Nat → Int32) (t_levelArc : Nat → Int32) (t_levelIn : Nat → Int32) (t_levelNodes : Nat → Int32) (t_levelWeight : Nat → Int32) (t_row : Nat → Int32) (t_split : Nat → Int32) (t_weight : Nat → Int32) : va_W := [(a_t, .inr (9, [.int t_nodes, .int t_kinds, .ref a_t_weight, .ref a_t_arcs, .ref a_t_split, .ref a_t_least, .ref a_t_most, .int t_levels, .ref a_t_levelNodes, .ref a_t_levelWeight, .ref a_t_levelArc, .ref a_t_levelIn, .int t_size, .int t_base, .ref a_t_row, .ref a_t_isFree, .ref a_t_best, .ref a_t_above, .ref a_t_ordered, .ref a_t_parts])), (a_t_arcs, .inl (cI, 1600, .inl t_arcs)), (a_t_levelArc, .inl (cI, 65600, .inl t_levelArc)), (a_t_levelIn, .inl (cI, 1640, .inl t_levelIn)), (a_t_levelNodes, .inl (cI, 41, .inl t_levelNodes)), (a_t_levelWeight, .inl (cI, 1640, .inl t_levelWeight)), (a_t_row, .inl (cI, 40, .inl t_row)), (a_t_split, .inl (cI, 40, .inl t_split)), (a_t_weight, .inl (cI, 40, .inl t_weight))]
set_option maxRecDepth 100000 in
set_option maxHeartbeats 4000000 in
theorem c_Re_takeSplit (l : Launch) (dC : Nat → ClassId) (dI : Nat → Nat → Nat) (cI cZ : ClassId) (a_t a_t_arcs a_t_levelArc a_t_levelIn a_t_levelNodes a_t_levelWeight a_t_row a_t_split a_t_weight a_t_least a_t_most a_t_isFree a_t_best a_t_above a_t_ordered a_t_parts sz : Nat) (t_nodes : Int32) (t_kinds : Int32) (t_levels : Int32) (t_size : Int32) (t_base : Int32) (t_arcs : Nat → Int32) (t_levelArc : Nat → Int32) (t_levelIn : Nat → Int32) (t_levelNodes : Nat → Int32) (t_levelWeight : Nat → Int32) (t_row : Nat → Int32) (t_split : Nat → Int32) (t_weight : Nat → Int32) (out : Int32 × Int32 × Int32 × (Nat → Int32) × (Nat → Int32) × (Nat → Int32) × (Nat → Int32) × (Nat → Int32)) (hf : f_Re_takeSplit t_nodes t_kinds t_arcs t_levelArc t_levelIn t_levelNodes t_levelWeight t_row t_split t_weight = some out) :
    Met l yy_Re_takeSplit wq_Re_takeSplit ({ frames := 3, cells := 0, slots := 0, locals := 81 }) (va_Pc ([.ref a_t] : List Value) (pre_ (dC, dI) cI cZ sz (wd_Re_takeSplit cI cZ a_t a_t_arcs a_t_levelArc a_t_levelIn a_t_levelNodes a_t_levelWeight a_t_row a_t_split a_t_weight a_t_least a_t_most a_t_isFree a_t_best a_t_above a_t_ordered a_t_parts t_nodes t_kinds t_levels t_size t_base t_arcs t_levelArc t_levelIn t_levelNodes t_levelWeight t_row t_split t_weight))) (va_Qv (fun _ : Unit => True) (fun _ => pst (dC, dI) (va_A (wd_Re_takeSplit cI cZ a_t a_t_arcs a_t_levelArc a_t_levelIn a_t_levelNodes a_t_levelWeight a_t_row a_t_split a_t_weight a_t_least a_t_most a_t_isFree a_t_best a_t_above a_t_ordered a_t_parts t_nodes t_kinds t_levels t_size t_base t_arcs t_levelArc t_levelIn t_levelNodes t_levelWeight t_row t_split t_weight) sz) (wd_Re_takeSplit cI cZ a_t a_t_arcs a_t_levelArc a_t_levelIn a_t_levelNodes a_t_levelWeight a_t_row a_t_split a_t_weight a_t_least a_t_most a_t_isFree a_t_best a_t_above a_t_ordered a_t_parts t_nodes t_kinds out.1 out.2.1 out.2.2.1 t_arcs out.2.2.2.1 out.2.2.2.2.1 out.2.2.2.2.2.1 out.2.2.2.2.2.2.1 out.2.2.2.2.2.2.2 t_split t_weight)) (va_A (wd_Re_takeSplit cI cZ a_t a_t_arcs a_t_levelArc a_t_levelIn a_t_levelNodes a_t_levelWeight a_t_row a_t_split a_t_weight a_t_least a_t_most a_t_isFree a_t_best a_t_above a_t_ordered a_t_parts t_nodes t_kinds t_levels t_size t_base t_arcs t_levelArc t_levelIn t_levelNodes t_levelWeight t_row t_split t_weight) sz)) 0 0 (va_A (wd_Re_takeSplit cI cZ a_t a_t_arcs a_t_levelArc a_t_levelIn a_t_levelNodes a_t_levelWeight a_t_row a_t_split a_t_weight a_t_least a_t_most a_t_isFree a_t_best a_t_above a_t_ordered a_t_parts t_nodes t_kinds t_levels t_size t_base t_arcs t_levelArc t_levelIn t_levelNodes t_levelWeight t_row t_split t_weight) sz) := by
  refine Met.ofW (cc := cc_Re_takeSplit) (maxL := 2) (ret := none) (by decide) rfl ?_
  intro p e s m args below meth c s₁ B hml hv
  obtain ⟨rfl, hsz, hP, hK, hD0, hN⟩ := hv
  have hx := B.exec
  have hb := B.bytes
  have hr := B.returns
  have hts := atoms_spec (ws := wq_Re_takeSplit) B.pre
  have hown : s.vm.findClass rr_Re = some m.cls := findClass_of_methodNamed B.named
  have hlocks := B.notSynchronized
  subst hsz
  have hD := hD0.self (sz := s.heap.size)
  generalize hAe : va_A (wd_Re_takeSplit cI cZ a_t a_t_arcs a_t_levelArc a_t_levelIn a_t_levelNodes a_t_levelWeight a_t_row a_t_split a_t_weight a_t_least a_t_most a_t_isFree a_t_best a_t_above a_t_ordered a_t_parts t_nodes t_kinds t_levels t_size t_base t_arcs t_levelArc t_levelIn t_levelNodes t_levelWeight t_row t_split t_weight) s.heap.size = A at hD ⊢
  have hA : ∀ q : Nat, s.heap.size ≤ q → A q := fun q h => by rw [← hAe]; exact Or.inr h
  obtain ⟨H, hH⟩ : ∃ H : Heap, H = s.heap := ⟨_, rfl⟩
  have hS : va_S A s.heap H [] := by rw [hH]; exact va_S.rf
  have hl := lv_entry (([.ref a_t] : List Value)) (n := 2) (Nat.le_of_ble_eq_true rfl)
  rw [lg_entry_eq]
  generalize (lg_sl (([.ref a_t] : List Value)) ++ List.replicate (2 - (lg_sl (([.ref a_t] : List Value))).length) Slot.unset).toArray = ls at hl ⊢
  have hl : lv_has ls 2 [(0, .ref a_t)] := hl
  rw [← hH] at hP ⊢
  have hP : va_P (dC, dI) clsL (wd_Re_takeSplit cI cZ a_t a_t_arcs a_t_levelArc a_t_levelIn a_t_levelNodes a_t_levelWeight a_t_row a_t_split a_t_weight a_t_least a_t_most a_t_isFree a_t_best a_t_above a_t_ordered a_t_parts t_nodes t_kinds t_levels t_size t_base t_arcs t_levelArc t_levelIn t_levelNodes t_levelWeight t_row t_split t_weight) H := hP
  unfold f_Re_takeSplit at hf
  have h11 : ∀ (n11 : Nat) (x1 : Int32) (t_levels : Int32) (t_size : Int32) (t_base : Int32) (t_levelArc : Nat → Int32) (t_levelIn : Nat → Int32) (t_levelNodes : Nat → Int32) (t_levelWeight : Nat → Int32) (t_row : Nat → Int32) (ls : Array Slot) (H : Heap) (locs : List Loc), L_Re_takeSplit_11 t_nodes t_split n11 x1 t_levels t_size t_base t_levelArc t_levelIn t_levelNodes t_levelWeight t_row = some out → lv_has ls 2 [(0, .ref a_t), (1, .int x1)] → va_P (dC, dI) clsL (wd_Re_takeSplit cI cZ a_t a_t_arcs a_t_levelArc a_t_levelIn a_t_levelNodes a_t_levelWeight a_t_row a_t_split a_t_weight a_t_least a_t_most a_t_isFree a_t_best a_t_above a_t_ordered a_t_parts t_nodes t_kinds t_levels t_size t_base t_arcs t_levelArc t_levelIn t_levelNodes t_levelWeight t_row t_split t_weight) H → va_D A (wd_Re_takeSplit cI cZ a_t a_t_arcs a_t_levelArc a_t_levelIn a_t_levelNodes a_t_levelWeight a_t_row a_t_split a_t_weight a_t_least a_t_most a_t_isFree a_t_best a_t_above a_t_ordered a_t_parts t_nodes t_kinds t_levels t_size t_base t_arcs t_levelArc t_levelIn t_levelNodes t_levelWeight t_row t_split t_weight) → va_S A s.heap H locs → W p l e (headSpec wq_Re_takeSplit ({ frames := 3, cells := 0, slots := 0, locals := 81 })).room s m ([.ref a_t] : List Value).toArray below meth c H locs 0 0 (MQ below (va_Qv (fun _ : Unit => True) (fun _ => pst (dC, dI) A (wd_Re_takeSplit cI cZ a_t a_t_arcs a_t_levelArc a_t_levelIn a_t_levelNodes a_t_levelWeight a_t_row a_t_split a_t_weight a_t_least a_t_most a_t_isFree a_t_best a_t_above a_t_ordered a_t_parts t_nodes t_kinds out.1 out.2.1 out.2.2.1 t_arcs out.2.2.2.1 out.2.2.2.2.1 out.2.2.2.2.2.1 out.2.2.2.2.2.2.1 out.2.2.2.2.2.2.2 t_split t_weight)) A) ([.ref a_t] : List Value).toArray s 0 0 A) (F0 m 11 ls []) := by
    intro n11
    induction n11 with
    | zero =>
      intro x1 t_levels t_size t_base t_levelArc t_levelIn t_levelNodes t_levelWeight t_row ls H locs hf
      rw [L_Re_takeSplit_11] at hf
      exact absurd hf (fun h => by cases h)
    | succ n11 ih11 =>
      intro x1 t_levels t_size t_base t_levelArc t_levelIn t_levelNodes t_levelWeight t_row ls H locs hf hl hP hD hS
      rw [L_Re_takeSplit_11] at hf
      refine lv_iload_n hx hb dd_Re_takeSplit_11 rfl (lv_at hl 1 rfl) ?_
      refine lv_aload_n hx hb dd_Re_takeSplit_12 rfl (lv_at hl 0 rfl) ?_
      refine va_get (D := (dC, dI)) (ci := 9) (v := .int t_nodes) (C := rr_Re) (T := tt_Re) (N := 20) hx hb hts (fun w h => gwc (inn_Re w h)) hown hK hP 0 rfl rfl 0 (by decide) (hts _ (gwc gw_703)) (fun _ h9 => h9) rfl dd_Re_takeSplit_13 ?_
      refine lv_icmp_ge (tgt := 37) hx hb dd_Re_takeSplit_16 (by decide) (fun cc => ?_) (fun cc => ?_)
      · skip
        have hf := if_t cc hf
        have hf := Option.some.inj hf
        subst hf
        exact W.vret hx hb hr (fun t ht hW => ⟨⟨(), rfl, trivial, pst_of ht hP hD⟩, hS.F ht⟩) hS.2.2 dd_Re_takeSplit_37
      · skip
        have hf := if_f cc hf
        refine lv_aload_n hx hb dd_Re_takeSplit_19 rfl (lv_at hl 0 rfl) ?_
        refine va_get (D := (dC, dI)) (ci := 9) (v := .ref a_t_row) (C := rr_Re) (T := tt_Re) (N := 20) hx hb hts (fun w h => gwc (inn_Re w h)) hown hK hP 0 rfl rfl 14 (by decide) (hts _ (gwc gw_717)) (fun _ h9 => h9) rfl dd_Re_takeSplit_20 ?_
        refine lv_iload_n hx hb dd_Re_takeSplit_23 rfl (lv_at hl 1 rfl) ?_
        refine lv_aload_n hx hb dd_Re_takeSplit_24 rfl (lv_at hl 0 rfl) ?_
        refine va_get (D := (dC, dI)) (ci := 9) (v := .ref a_t_split) (C := rr_Re) (T := tt_Re) (N := 20) hx hb hts (fun w h => gwc (inn_Re w h)) hown hK hP 0 rfl rfl 4 (by decide) (hts _ (gwc gw_707)) (fun _ h9 => h9) rfl dd_Re_takeSplit_25 ?_
        refine lv_iload_n hx hb dd_Re_takeSplit_28 rfl (lv_at hl 1 rfl) ?_
        obtain ⟨k29, hf⟩ := ck_some hf
        refine va_iald hx hb hK hP 7 0 rfl rfl (okb_in k29) dd_Re_takeSplit_29 ?_
        obtain ⟨k30, hf⟩ := ck_some hf
        refine va_iast hx hb hK hP hD hS 6 0 rfl rfl (okb_in k30) dd_Re_takeSplit_30 (fun H locs hP hD hS => ?_)
        have hP : va_P (dC, dI) clsL (wd_Re_takeSplit cI cZ a_t a_t_arcs a_t_levelArc a_t_levelIn a_t_levelNodes a_t_levelWeight a_t_row a_t_split a_t_weight a_t_least a_t_most a_t_isFree a_t_best a_t_above a_t_ordered a_t_parts t_nodes t_kinds t_levels t_size t_base t_arcs t_levelArc t_levelIn t_levelNodes t_levelWeight (upd t_row (x1).toNatClampNeg (t_split (x1).toNatClampNeg)) t_split t_weight) H := hP
        have hD : va_D A (wd_Re_takeSplit cI cZ a_t a_t_arcs a_t_levelArc a_t_levelIn a_t_levelNodes a_t_levelWeight a_t_row a_t_split a_t_weight a_t_least a_t_most a_t_isFree a_t_best a_t_above a_t_ordered a_t_parts t_nodes t_kinds t_levels t_size t_base t_arcs t_levelArc t_levelIn t_levelNodes t_levelWeight (upd t_row (x1).toNatClampNeg (t_split (x1).toNatClampNeg)) t_split t_weight) := hD
        refine lv_iinc (v := x1 + 1) (lv' := [(1, .int (x1 + 1)), (0, .ref a_t)]) hx hb dd_Re_takeSplit_31 hl (k := 1) rfl rfl (by decide) rfl (fun ls hl => ?_)
        refine lv_goto (tgt := 11) hx hb dd_Re_takeSplit_34 (by decide) ?_
        exact ih11 (x1 + 1) t_levels t_size t_base t_levelArc t_levelIn t_levelNodes t_levelWeight (upd t_row (x1).toNatClampNeg (t_split (x1).toNatClampNeg)) _ _ _ hf (lv_sub hl [1, 0] rfl) hP hD hS
  refine lv_aload_n hx hb dd_Re_takeSplit_0 rfl (lv_at hl 0 rfl) ?_
  obtain ⟨r1, hr1, hf⟩ := bind_some hf
  refine xcallv (rest := []) (wc := (wd_Re_makeLevels cI cZ a_t a_t_arcs a_t_levelArc a_t_levelIn a_t_levelNodes a_t_levelWeight a_t_weight a_t_split a_t_least a_t_most a_t_row a_t_isFree a_t_best a_t_above a_t_ordered a_t_parts t_nodes t_kinds t_levels t_size t_base t_arcs t_levelArc t_levelIn t_levelNodes t_levelWeight t_weight)) (w1 := (wd_Re_makeLevels cI cZ a_t a_t_arcs a_t_levelArc a_t_levelIn a_t_levelNodes a_t_levelWeight a_t_weight a_t_split a_t_least a_t_most a_t_row a_t_isFree a_t_best a_t_above a_t_ordered a_t_parts t_nodes t_kinds r1.1 t_size t_base t_arcs r1.2.1 r1.2.2.1 r1.2.2.2.1 r1.2.2.2.2 t_weight)) (wr := [(a_t_row, .inl (cI, 40, .inl t_row)), (a_t_split, .inl (cI, 40, .inl t_split))]) (ws' := (wd_Re_takeSplit cI cZ a_t a_t_arcs a_t_levelArc a_t_levelIn a_t_levelNodes a_t_levelWeight a_t_row a_t_split a_t_weight a_t_least a_t_most a_t_isFree a_t_best a_t_above a_t_ordered a_t_parts t_nodes t_kinds r1.1 t_size t_base t_arcs r1.2.1 r1.2.2.1 r1.2.2.2.1 r1.2.2.2.2 t_row t_split t_weight)) (va_runV (As := []) ⟨hx, hb, hml, hown, hts⟩ (c_Re_makeLevels l dC dI cI cZ a_t a_t_arcs a_t_levelArc a_t_levelIn a_t_levelNodes a_t_levelWeight a_t_weight a_t_split a_t_least a_t_most a_t_row a_t_isFree a_t_best a_t_above a_t_ordered a_t_parts H.size t_nodes t_kinds t_levels t_size t_base t_arcs t_levelArc t_levelIn t_levelNodes t_levelWeight t_weight r1 hr1) (cwV 0 hts (gV gw_796 gw_798 gw_31 gw_61 gw_799) rfl rfl rfl (yd_Re_makeLevels) ⟨Nat.le_of_ble_eq_true rfl, Nat.le_of_ble_eq_true rfl⟩) (mkV hK (hP.sub (ws' := (wd_Re_makeLevels cI cZ a_t a_t_arcs a_t_levelArc a_t_levelIn a_t_levelNodes a_t_levelWeight a_t_weight a_t_split a_t_least a_t_most a_t_row a_t_isFree a_t_best a_t_above a_t_ordered a_t_parts t_nodes t_kinds t_levels t_size t_base t_arcs t_levelArc t_levelIn t_levelNodes t_levelWeight t_weight)) [0, 1, 2, 3, 4, 5, 8] rfl) (hD.sub (ws' := (wd_Re_makeLevels cI cZ a_t a_t_arcs a_t_levelArc a_t_levelIn a_t_levelNodes a_t_levelWeight a_t_weight a_t_split a_t_least a_t_most a_t_row a_t_isFree a_t_best a_t_above a_t_ordered a_t_parts t_nodes t_kinds t_levels t_size t_base t_arcs t_levelArc t_levelIn t_levelNodes t_levelWeight t_weight)) [0, 1, 2, 3, 4, 5, 8] (by decide) rfl) hN (va_recv hK hP (ci := 9) (q0 := 0) rfl rfl)) rfl rfl hl.1 rfl (lv_room (Nat.le_of_ble_eq_true rfl)) dd_Re_takeSplit_1 ⟨Nat.zero_le _, Nat.zero_le _⟩) hP hD hS hA [0, 1, 2, 3, 4, 5, 8] [6, 7] [2, 3, 4, 5, 6, 7, 0, 1, 8] rfl rfl (by decide) (by decide) rfl (by decide) rfl (fun H locs hP hD hS => ?_)
  refine lv_aload_n hx hb dd_Re_takeSplit_4 rfl (lv_at hl 0 rfl) ?_
  refine lv_iconst (v := 0) hx hb dd_Re_takeSplit_5 (by decide) ?_
  obtain ⟨r6, hr6, hf⟩ := bind_some hf
  refine xcallv (rest := []) (wc := (wd_Re_take cI cZ a_t a_t_levelNodes a_t_weight a_t_arcs a_t_split a_t_least a_t_most a_t_levelWeight a_t_levelArc a_t_levelIn a_t_row a_t_isFree a_t_best a_t_above a_t_ordered a_t_parts t_nodes t_kinds r1.1 t_size t_base r1.2.2.2.1)) (w1 := (wd_Re_take cI cZ a_t a_t_levelNodes a_t_weight a_t_arcs a_t_split a_t_least a_t_most a_t_levelWeight a_t_levelArc a_t_levelIn a_t_row a_t_isFree a_t_best a_t_above a_t_ordered a_t_parts t_nodes t_kinds r1.1 r6.1 r6.2 r1.2.2.2.1)) (wr := [(a_t_arcs, .inl (cI, 1600, .inl t_arcs)), (a_t_levelArc, .inl (cI, 65600, .inl r1.2.1)), (a_t_levelIn, .inl (cI, 1640, .inl r1.2.2.1)), (a_t_levelWeight, .inl (cI, 1640, .inl r1.2.2.2.2)), (a_t_row, .inl (cI, 40, .inl t_row)), (a_t_split, .inl (cI, 40, .inl t_split)), (a_t_weight, .inl (cI, 40, .inl t_weight))]) (ws' := (wd_Re_takeSplit cI cZ a_t a_t_arcs a_t_levelArc a_t_levelIn a_t_levelNodes a_t_levelWeight a_t_row a_t_split a_t_weight a_t_least a_t_most a_t_isFree a_t_best a_t_above a_t_ordered a_t_parts t_nodes t_kinds r1.1 r6.1 r6.2 t_arcs r1.2.1 r1.2.2.1 r1.2.2.2.1 r1.2.2.2.2 t_row t_split t_weight)) (va_runV (As := [.int 0]) ⟨hx, hb, hml, hown, hts⟩ (c_Re_take l dC dI cI cZ a_t a_t_levelNodes a_t_weight a_t_arcs a_t_split a_t_least a_t_most a_t_levelWeight a_t_levelArc a_t_levelIn a_t_row a_t_isFree a_t_best a_t_above a_t_ordered a_t_parts H.size 0 t_nodes t_kinds r1.1 t_size t_base r1.2.2.2.1 r6 hr6) (cwV 1 hts (gV gw_834 gw_836 gw_35 gw_61 gw_837) rfl rfl rfl (yd_Re_take) ⟨Nat.le_of_ble_eq_true rfl, Nat.le_of_ble_eq_true rfl⟩) (mkV hK (hP.sub (ws' := (wd_Re_take cI cZ a_t a_t_levelNodes a_t_weight a_t_arcs a_t_split a_t_least a_t_most a_t_levelWeight a_t_levelArc a_t_levelIn a_t_row a_t_isFree a_t_best a_t_above a_t_ordered a_t_parts t_nodes t_kinds r1.1 t_size t_base r1.2.2.2.1)) [0, 4] rfl) (hD.sub (ws' := (wd_Re_take cI cZ a_t a_t_levelNodes a_t_weight a_t_arcs a_t_split a_t_least a_t_most a_t_levelWeight a_t_levelArc a_t_levelIn a_t_row a_t_isFree a_t_best a_t_above a_t_ordered a_t_parts t_nodes t_kinds r1.1 t_size t_base r1.2.2.2.1)) [0, 4] (by decide) rfl) hN (va_recv hK hP (ci := 9) (q0 := 0) rfl rfl)) rfl rfl hl.1 rfl (lv_room (Nat.le_of_ble_eq_true rfl)) dd_Re_takeSplit_6 ⟨Nat.zero_le _, Nat.zero_le _⟩) hP hD hS hA [0, 4] [1, 2, 3, 5, 6, 7, 8] [7, 0, 1, 2, 8, 3, 4, 5, 6] rfl rfl (by decide) (by decide) rfl (by decide) rfl (fun H locs hP hD hS => ?_)
  refine lv_iconst (v := 0) hx hb dd_Re_takeSplit_9 (by decide) ?_
  refine lv_istore_n (lv' := [(1, .int 0), (0, .ref a_t)]) hx hb dd_Re_takeSplit_10 rfl hl (by decide) rfl (fun ls hl => ?_)
  exact h11 64 0 r1.1 r6.1 r6.2 r1.2.1 r1.2.2.1 r1.2.2.2.1 r1.2.2.2.2 t_row _ _ _ hf (lv_sub hl [1, 0] rfl) hP hD hS
