abbrev wd_Di_isCut (cI cZ : ClassId) (a_p0 a_p0_graph a_p0_graph_arcs a_p0_home a_p0_bounds a_p0_sum a_p0_link a_p0_graph_weight : Nat) (p0_cut : Int32) (p0_over : Int32) (p0_graph_size : Int32) (p0_graph_arcs : Nat → Int32) (p0_home : Nat → Int32) : va_W := [(a_p0, .inr (7, [.ref a_p0_graph, .ref a_p0_bounds, .ref a_p0_home, .ref a_p0_sum, .ref a_p0_link, .int p0_cut, .int p0_over])), (a_p0_graph, .inr (1, [.int p0_graph_size, .ref a_p0_graph_weight, .ref a_p0_graph_arcs])), (a_p0_graph_arcs, .inl (cI, 1600, .inl p0_graph_arcs)), (a_p0_home, .inl (cI, 40, .inl p0_home))]
set_option maxRecDepth 100000 in
set_option maxHeartbeats 4000000 in
theorem c_Di_isCut (l : Launch) (dC : Nat → ClassId) (dI : Nat → Nat → Nat) (cI cZ : ClassId) (a_p0 a_p0_graph a_p0_graph_arcs a_p0_home a_p0_bounds a_p0_sum a_p0_link a_p0_graph_weight sz : Nat) (x1 : Int32) (x2 : Int32) (p0_cut : Int32) (p0_over : Int32) (p0_graph_size : Int32) (p0_graph_arcs : Nat → Int32) (p0_home : Nat → Int32) (out : Int32) (hf : f_Di_isCut x1 x2 p0_graph_arcs p0_home = some out) :
    Met l yy_Di_isCut wq_Di_isCut ({ frames := 1, cells := 0, slots := 0, locals := 22 }) (va_Pc ([.ref a_p0, .int x1, .int x2] : List Value) (pre_ (dC, dI) cI cZ sz (wd_Di_isCut cI cZ a_p0 a_p0_graph a_p0_graph_arcs a_p0_home a_p0_bounds a_p0_sum a_p0_link a_p0_graph_weight p0_cut p0_over p0_graph_size p0_graph_arcs p0_home))) (va_Qi (fun (r : Int32) (_ : Unit) => r = out) (fun _ => pst (dC, dI) (va_A (wd_Di_isCut cI cZ a_p0 a_p0_graph a_p0_graph_arcs a_p0_home a_p0_bounds a_p0_sum a_p0_link a_p0_graph_weight p0_cut p0_over p0_graph_size p0_graph_arcs p0_home) sz) (wd_Di_isCut cI cZ a_p0 a_p0_graph a_p0_graph_arcs a_p0_home a_p0_bounds a_p0_sum a_p0_link a_p0_graph_weight p0_cut p0_over p0_graph_size p0_graph_arcs p0_home)) (va_A (wd_Di_isCut cI cZ a_p0 a_p0_graph a_p0_graph_arcs a_p0_home a_p0_bounds a_p0_sum a_p0_link a_p0_graph_weight p0_cut p0_over p0_graph_size p0_graph_arcs p0_home) sz)) 0 0 (va_A (wd_Di_isCut cI cZ a_p0 a_p0_graph a_p0_graph_arcs a_p0_home a_p0_bounds a_p0_sum a_p0_link a_p0_graph_weight p0_cut p0_over p0_graph_size p0_graph_arcs p0_home) sz) := by
  refine Met.ofW (cc := cc_Di_isCut) (maxL := 3) (ret := (some .boolean)) (by decide) rfl ?_
  intro p e s m args below meth c s₁ B hml hv
  obtain ⟨rfl, hsz, hP, hK, hD0, hN⟩ := hv
  have hx := B.exec
  have hb := B.bytes
  have hr := B.returns
  have hts := atoms_spec (ws := wq_Di_isCut) B.pre
  have hown : s.vm.findClass rr_Di = some m.cls := findClass_of_methodNamed B.named
  have hlocks := B.notSynchronized
  subst hsz
  have hD := hD0.self (sz := s.heap.size)
  generalize hAe : va_A (wd_Di_isCut cI cZ a_p0 a_p0_graph a_p0_graph_arcs a_p0_home a_p0_bounds a_p0_sum a_p0_link a_p0_graph_weight p0_cut p0_over p0_graph_size p0_graph_arcs p0_home) s.heap.size = A at hD ⊢
  have hA : ∀ q : Nat, s.heap.size ≤ q → A q := fun q h => by rw [← hAe]; exact Or.inr h
  obtain ⟨H, hH⟩ : ∃ H : Heap, H = s.heap := ⟨_, rfl⟩
  have hS : va_S A s.heap H [] := by rw [hH]; exact va_S.rf
  have hl := lv_entry (([.ref a_p0, .int x1, .int x2] : List Value)) (n := 3) (Nat.le_of_ble_eq_true rfl)
  rw [lg_entry_eq]
  generalize (lg_sl (([.ref a_p0, .int x1, .int x2] : List Value)) ++ List.replicate (3 - (lg_sl (([.ref a_p0, .int x1, .int x2] : List Value))).length) Slot.unset).toArray = ls at hl ⊢
  have hl : lv_has ls 3 [(0, .ref a_p0), (1, .int x1), (2, .int x2)] := hl
  rw [← hH] at hP ⊢
  have hP : va_P (dC, dI) clsL (wd_Di_isCut cI cZ a_p0 a_p0_graph a_p0_graph_arcs a_p0_home a_p0_bounds a_p0_sum a_p0_link a_p0_graph_weight p0_cut p0_over p0_graph_size p0_graph_arcs p0_home) H := hP
  unfold f_Di_isCut at hf
  refine lv_aload_n hx hb dd_Di_isCut_0 rfl (lv_at hl 0 rfl) ?_
  refine va_get (D := (dC, dI)) (ci := 7) (v := .ref a_p0_graph) (C := rr_Sp) (T := tt_Sp) (N := 7) hx hb hts (fun w h => gwc (inn_Sp w h)) hown hK hP 0 rfl rfl 0 (by decide) (hts _ (gwc gw_134)) (fun _ h9 => h9) rfl dd_Di_isCut_1 ?_
  refine lv_iload_n hx hb dd_Di_isCut_4 rfl (lv_at hl 1 rfl) ?_
  refine lv_iload_n hx hb dd_Di_isCut_5 rfl (lv_at hl 2 rfl) ?_
  obtain ⟨r6, hr6, hf⟩ := bind_some hf
  refine xcalli (rest := []) (wc := (wd_Gr_arcOf cI cZ a_p0_graph a_p0_graph_arcs a_p0_graph_weight p0_graph_size p0_graph_arcs)) (w1 := (wd_Gr_arcOf cI cZ a_p0_graph a_p0_graph_arcs a_p0_graph_weight p0_graph_size p0_graph_arcs)) (wr := [(a_p0, .inr (7, [.ref a_p0_graph, .ref a_p0_bounds, .ref a_p0_home, .ref a_p0_sum, .ref a_p0_link, .int p0_cut, .int p0_over])), (a_p0_home, .inl (cI, 40, .inl p0_home))]) (ws' := (wd_Di_isCut cI cZ a_p0 a_p0_graph a_p0_graph_arcs a_p0_home a_p0_bounds a_p0_sum a_p0_link a_p0_graph_weight p0_cut p0_over p0_graph_size p0_graph_arcs p0_home)) (va_runV (As := [.int x1, .int x2]) ⟨hx, hb, hml, hown, hts⟩ (c_Gr_arcOf l dC dI cI cZ a_p0_graph a_p0_graph_arcs a_p0_graph_weight H.size x1 x2 p0_graph_size p0_graph_arcs r6 hr6) (cwV 2 hts (gV gw_652 gw_318 gw_319 gw_54 gw_320) rfl rfl rfl (yd_Gr_arcOf) ⟨Nat.le_of_ble_eq_true rfl, Nat.le_of_ble_eq_true rfl⟩) (mkV hK (hP.sub (ws' := (wd_Gr_arcOf cI cZ a_p0_graph a_p0_graph_arcs a_p0_graph_weight p0_graph_size p0_graph_arcs)) [1, 2] rfl) (hD.sub (ws' := (wd_Gr_arcOf cI cZ a_p0_graph a_p0_graph_arcs a_p0_graph_weight p0_graph_size p0_graph_arcs)) [1, 2] (by decide) rfl) hN (va_recv hK hP (ci := 1) (q0 := 1) rfl rfl)) rfl rfl hl.1 rfl (lv_room (Nat.le_of_ble_eq_true rfl)) dd_Di_isCut_6 ⟨Nat.zero_le _, Nat.zero_le _⟩) hP hD hS hA [1, 2] [0, 3] [0, 2, 3, 1] rfl rfl (by decide) (by decide) rfl (by decide) rfl (fun H locs hP hD hS => ?_)
  refine lv_if_le (tgt := 31) hx hb dd_Di_isCut_9 (by decide) (fun cc => ?_) (fun cc => ?_)
  · skip
    have hf := if_t cc hf
    refine lv_iconst (v := 0) hx hb dd_Di_isCut_31 (by decide) ?_
    cases hf
    exact W.zret hx hb hr narrow_b0 (fun t ht hW => ⟨⟨_, (), rfl, rfl, pst_of ht hP hD⟩, hS.F ht⟩) hS.2.2 dd_Di_isCut_32
  · skip
    have hf := if_f cc hf
    refine lv_aload_n hx hb dd_Di_isCut_12 rfl (lv_at hl 0 rfl) ?_
    refine va_get (D := (dC, dI)) (ci := 7) (v := .ref a_p0_home) (C := rr_Sp) (T := tt_Sp) (N := 7) hx hb hts (fun w h => gwc (inn_Sp w h)) hown hK hP 0 rfl rfl 2 (by decide) (hts _ (gwc gw_145)) (fun _ h9 => h9) rfl dd_Di_isCut_13 ?_
    refine lv_iload_n hx hb dd_Di_isCut_16 rfl (lv_at hl 1 rfl) ?_
    obtain ⟨k17, hf⟩ := ck_some hf
    refine va_iald hx hb hK hP 3 0 rfl rfl (okb_in k17) dd_Di_isCut_17 ?_
    refine lv_aload_n hx hb dd_Di_isCut_18 rfl (lv_at hl 0 rfl) ?_
    refine va_get (D := (dC, dI)) (ci := 7) (v := .ref a_p0_home) (C := rr_Sp) (T := tt_Sp) (N := 7) hx hb hts (fun w h => gwc (inn_Sp w h)) hown hK hP 0 rfl rfl 2 (by decide) (hts _ (gwc gw_145)) (fun _ h9 => h9) rfl dd_Di_isCut_19 ?_
    refine lv_iload_n hx hb dd_Di_isCut_22 rfl (lv_at hl 2 rfl) ?_
    obtain ⟨k23, hf⟩ := ck_some hf
    refine va_iald hx hb hK hP 3 0 rfl rfl (okb_in k23) dd_Di_isCut_23 ?_
    refine lv_icmp_eq (tgt := 31) hx hb dd_Di_isCut_24 (by decide) (fun cc => ?_) (fun cc => ?_)
    · skip
      have hf := if_t cc hf
      refine lv_iconst (v := 0) hx hb dd_Di_isCut_31 (by decide) ?_
      cases hf
      exact W.zret hx hb hr narrow_b0 (fun t ht hW => ⟨⟨_, (), rfl, rfl, pst_of ht hP hD⟩, hS.F ht⟩) hS.2.2 dd_Di_isCut_32
    · skip
      have hf := if_f cc hf
      refine lv_iconst (v := 1) hx hb dd_Di_isCut_27 (by decide) ?_
      refine lv_goto (tgt := 32) hx hb dd_Di_isCut_28 (by decide) ?_
      cases hf
      exact W.zret hx hb hr narrow_b1 (fun t ht hW => ⟨⟨_, (), rfl, rfl, pst_of ht hP hD⟩, hS.F ht⟩) hS.2.2 dd_Di_isCut_32
abbrev wd_Di_start (cI cZ : ClassId) (a_t a_t_inside a_t_open a_p1 a_p1_graph a_p1_graph_arcs a_p1_home a_p1_bounds a_p1_sum a_p1_link a_p1_graph_weight : Nat) (t_nodes : Int32) (t_inside : Nat → Int32) (t_open : Nat → Int32) (p1_cut : Int32) (p1_over : Int32) (p1_graph_size : Int32) (p1_graph_arcs : Nat → Int32) (p1_home : Nat → Int32) : va_W := [(a_t, .inr (6, [.ref a_t_inside, .ref a_t_open, .int t_nodes])), (a_t_inside, .inl (cZ, 40, .inl t_inside)), (a_t_open, .inl (cI, 40, .inl t_open)), (a_p1, .inr (7, [.ref a_p1_graph, .ref a_p1_bounds, .ref a_p1_home, .ref a_p1_sum, .ref a_p1_link, .int p1_cut, .int p1_over])), (a_p1_graph, .inr (1, [.int p1_graph_size, .ref a_p1_graph_weight, .ref a_p1_graph_arcs])), (a_p1_graph_arcs, .inl (cI, 1600, .inl p1_graph_arcs)), (a_p1_home, .inl (cI, 40, .inl p1_home))]
set_option maxRecDepth 100000 in
set_option maxHeartbeats 4000000 in
theorem c_Di_start (l : Launch) (dC : Nat → ClassId) (dI : Nat → Nat → Nat) (cI cZ : ClassId) (a_t a_t_inside a_t_open a_p1 a_p1_graph a_p1_graph_arcs a_p1_home a_p1_bounds a_p1_sum a_p1_link a_p1_graph_weight sz : Nat) (t_nodes : Int32) (t_inside : Nat → Int32) (t_open : Nat → Int32) (p1_cut : Int32) (p1_over : Int32) (p1_graph_size : Int32) (p1_graph_arcs : Nat → Int32) (p1_home : Nat → Int32) (out : (Nat → Int32) × (Nat → Int32)) (hf : f_Di_start t_nodes t_inside t_open p1_graph_arcs p1_home = some out) :
    Met l yy_Di_start wq_Di_start ({ frames := 2, cells := 0, slots := 0, locals := 44 }) (va_Pc ([.ref a_t, .ref a_p1] : List Value) (pre_ (dC, dI) cI cZ sz (wd_Di_start cI cZ a_t a_t_inside a_t_open a_p1 a_p1_graph a_p1_graph_arcs a_p1_home a_p1_bounds a_p1_sum a_p1_link a_p1_graph_weight t_nodes t_inside t_open p1_cut p1_over p1_graph_size p1_graph_arcs p1_home))) (va_Qv (fun _ : Unit => True) (fun _ => pst (dC, dI) (va_A (wd_Di_start cI cZ a_t a_t_inside a_t_open a_p1 a_p1_graph a_p1_graph_arcs a_p1_home a_p1_bounds a_p1_sum a_p1_link a_p1_graph_weight t_nodes t_inside t_open p1_cut p1_over p1_graph_size p1_graph_arcs p1_home) sz) (wd_Di_start cI cZ a_t a_t_inside a_t_open a_p1 a_p1_graph a_p1_graph_arcs a_p1_home a_p1_bounds a_p1_sum a_p1_link a_p1_graph_weight t_nodes out.1 out.2 p1_cut p1_over p1_graph_size p1_graph_arcs p1_home)) (va_A (wd_Di_start cI cZ a_t a_t_inside a_t_open a_p1 a_p1_graph a_p1_graph_arcs a_p1_home a_p1_bounds a_p1_sum a_p1_link a_p1_graph_weight t_nodes t_inside t_open p1_cut p1_over p1_graph_size p1_graph_arcs p1_home) sz)) 0 0 (va_A (wd_Di_start cI cZ a_t a_t_inside a_t_open a_p1 a_p1_graph a_p1_graph_arcs a_p1_home a_p1_bounds a_p1_sum a_p1_link a_p1_graph_weight t_nodes t_inside t_open p1_cut p1_over p1_graph_size p1_graph_arcs p1_home) sz) := by
  refine Met.ofW (cc := cc_Di_start) (maxL := 4) (ret := none) (by decide) rfl ?_
  intro p e s m args below meth c s₁ B hml hv
  obtain ⟨rfl, hsz, hP, hK, hD0, hN⟩ := hv
  have hx := B.exec
  have hb := B.bytes
  have hr := B.returns
  have hts := atoms_spec (ws := wq_Di_start) B.pre
  have hown : s.vm.findClass rr_Di = some m.cls := findClass_of_methodNamed B.named
  have hlocks := B.notSynchronized
  subst hsz
  have hD := hD0.self (sz := s.heap.size)
  generalize hAe : va_A (wd_Di_start cI cZ a_t a_t_inside a_t_open a_p1 a_p1_graph a_p1_graph_arcs a_p1_home a_p1_bounds a_p1_sum a_p1_link a_p1_graph_weight t_nodes t_inside t_open p1_cut p1_over p1_graph_size p1_graph_arcs p1_home) s.heap.size = A at hD ⊢
  have hA : ∀ q : Nat, s.heap.size ≤ q → A q := fun q h => by rw [← hAe]; exact Or.inr h
  obtain ⟨H, hH⟩ : ∃ H : Heap, H = s.heap := ⟨_, rfl⟩
  have hS : va_S A s.heap H [] := by rw [hH]; exact va_S.rf
  have hl := lv_entry (([.ref a_t, .ref a_p1] : List Value)) (n := 4) (Nat.le_of_ble_eq_true rfl)
  rw [lg_entry_eq]
  generalize (lg_sl (([.ref a_t, .ref a_p1] : List Value)) ++ List.replicate (4 - (lg_sl (([.ref a_t, .ref a_p1] : List Value))).length) Slot.unset).toArray = ls at hl ⊢
  have hl : lv_has ls 4 [(0, .ref a_t), (1, .ref a_p1)] := hl
  rw [← hH] at hP ⊢
  have hP : va_P (dC, dI) clsL (wd_Di_start cI cZ a_t a_t_inside a_t_open a_p1 a_p1_graph a_p1_graph_arcs a_p1_home a_p1_bounds a_p1_sum a_p1_link a_p1_graph_weight t_nodes t_inside t_open p1_cut p1_over p1_graph_size p1_graph_arcs p1_home) H := hP
  unfold f_Di_start at hf
  have h2 : ∀ (n2 : Nat) (x2 : Int32) (t_inside : Nat → Int32) (t_open : Nat → Int32) (ls : Array Slot) (H : Heap) (locs : List Loc), L_Di_start_2 t_nodes p1_graph_arcs p1_home n2 x2 t_inside t_open = some out → lv_has ls 4 [(0, .ref a_t), (1, .ref a_p1), (2, .int x2)] → va_P (dC, dI) clsL (wd_Di_start cI cZ a_t a_t_inside a_t_open a_p1 a_p1_graph a_p1_graph_arcs a_p1_home a_p1_bounds a_p1_sum a_p1_link a_p1_graph_weight t_nodes t_inside t_open p1_cut p1_over p1_graph_size p1_graph_arcs p1_home) H → va_D A (wd_Di_start cI cZ a_t a_t_inside a_t_open a_p1 a_p1_graph a_p1_graph_arcs a_p1_home a_p1_bounds a_p1_sum a_p1_link a_p1_graph_weight t_nodes t_inside t_open p1_cut p1_over p1_graph_size p1_graph_arcs p1_home) → va_S A s.heap H locs → W p l e (headSpec wq_Di_start ({ frames := 2, cells := 0, slots := 0, locals := 44 })).room s m ([.ref a_t, .ref a_p1] : List Value).toArray below meth c H locs 0 0 (MQ below (va_Qv (fun _ : Unit => True) (fun _ => pst (dC, dI) A (wd_Di_start cI cZ a_t a_t_inside a_t_open a_p1 a_p1_graph a_p1_graph_arcs a_p1_home a_p1_bounds a_p1_sum a_p1_link a_p1_graph_weight t_nodes out.1 out.2 p1_cut p1_over p1_graph_size p1_graph_arcs p1_home)) A) ([.ref a_t, .ref a_p1] : List Value).toArray s 0 0 A) (F0 m 2 ls []) := by
    intro n2
    induction n2 with
    | zero =>
      intro x2 t_inside t_open ls H locs hf
      rw [L_Di_start_2] at hf
      exact absurd hf (fun h => by cases h)
    | succ n2 ih2 =>
      intro x2 t_inside t_open ls H locs hf hl hP hD hS
      rw [L_Di_start_2] at hf
      have h26 : ∀ (n26 : Nat) (x2 : Int32) (x3 : Int32) (t_inside : Nat → Int32) (t_open : Nat → Int32) (ls : Array Slot) (H : Heap) (locs : List Loc), L_Di_start_26 t_nodes p1_graph_arcs p1_home (L_Di_start_2 t_nodes p1_graph_arcs p1_home n2) n26 x2 x3 t_inside t_open = some out → lv_has ls 4 [(0, .ref a_t), (1, .ref a_p1), (2, .int x2), (3, .int x3)] → va_P (dC, dI) clsL (wd_Di_start cI cZ a_t a_t_inside a_t_open a_p1 a_p1_graph a_p1_graph_arcs a_p1_home a_p1_bounds a_p1_sum a_p1_link a_p1_graph_weight t_nodes t_inside t_open p1_cut p1_over p1_graph_size p1_graph_arcs p1_home) H → va_D A (wd_Di_start cI cZ a_t a_t_inside a_t_open a_p1 a_p1_graph a_p1_graph_arcs a_p1_home a_p1_bounds a_p1_sum a_p1_link a_p1_graph_weight t_nodes t_inside t_open p1_cut p1_over p1_graph_size p1_graph_arcs p1_home) → va_S A s.heap H locs → W p l e (headSpec wq_Di_start ({ frames := 2, cells := 0, slots := 0, locals := 44 })).room s m ([.ref a_t, .ref a_p1] : List Value).toArray below meth c H locs 0 0 (MQ below (va_Qv (fun _ : Unit => True) (fun _ => pst (dC, dI) A (wd_Di_start cI cZ a_t a_t_inside a_t_open a_p1 a_p1_graph a_p1_graph_arcs a_p1_home a_p1_bounds a_p1_sum a_p1_link a_p1_graph_weight t_nodes out.1 out.2 p1_cut p1_over p1_graph_size p1_graph_arcs p1_home)) A) ([.ref a_t, .ref a_p1] : List Value).toArray s 0 0 A) (F0 m 26 ls []) := by
        intro n26
        induction n26 with
        | zero =>
          intro x2 x3 t_inside t_open ls H locs hf
          rw [L_Di_start_26] at hf
          exact absurd hf (fun h => by cases h)
        | succ n26 ih26 =>
          intro x2 x3 t_inside t_open ls H locs hf hl hP hD hS
          rw [L_Di_start_26] at hf
          refine lv_iload_n hx hb dd_Di_start_26 rfl (lv_at hl 3 rfl) ?_
          refine lv_aload_n hx hb dd_Di_start_27 rfl (lv_at hl 0 rfl) ?_
          refine va_get (D := (dC, dI)) (ci := 6) (v := .int t_nodes) (C := rr_Di) (T := tt_Di) (N := 3) hx hb hts (fun w h => gwc (inn_Di w h)) hown hK hP 0 rfl rfl 2 (by decide) (hts _ (gwc gw_275)) (fun _ h9 => h9) rfl dd_Di_start_28 ?_
          refine lv_icmp_ge (tgt := 59) hx hb dd_Di_start_31 (by decide) (fun cc => ?_) (fun cc => ?_)
          · skip
            have hf := if_t cc hf
            refine lv_iinc (v := x2 + 1) (lv' := [(2, .int (x2 + 1)), (0, .ref a_t), (1, .ref a_p1), (3, .int x3)]) hx hb dd_Di_start_59 hl (k := 2) rfl rfl (by decide) rfl (fun ls hl => ?_)
            refine lv_goto (tgt := 2) hx hb dd_Di_start_62 (by decide) ?_
            exact ih2 (x2 + 1) t_inside t_open _ _ _ hf (lv_sub hl [1, 2, 0] rfl) hP hD hS
          · skip
            have hf := if_f cc hf
            refine lv_aload_n hx hb dd_Di_start_34 rfl (lv_at hl 1 rfl) ?_
            refine lv_iload_n hx hb dd_Di_start_35 rfl (lv_at hl 2 rfl) ?_
            refine lv_iload_n hx hb dd_Di_start_36 rfl (lv_at hl 3 rfl) ?_
            obtain ⟨r37, hr37, hf⟩ := bind_some hf
            refine xcalli (rest := []) (wc := (wd_Di_isCut cI cZ a_p1 a_p1_graph a_p1_graph_arcs a_p1_home a_p1_bounds a_p1_sum a_p1_link a_p1_graph_weight p1_cut p1_over p1_graph_size p1_graph_arcs p1_home)) (w1 := (wd_Di_isCut cI cZ a_p1 a_p1_graph a_p1_graph_arcs a_p1_home a_p1_bounds a_p1_sum a_p1_link a_p1_graph_weight p1_cut p1_over p1_graph_size p1_graph_arcs p1_home)) (wr := [(a_t, .inr (6, [.ref a_t_inside, .ref a_t_open, .int t_nodes])), (a_t_inside, .inl (cZ, 40, .inl t_inside)), (a_t_open, .inl (cI, 40, .inl t_open))]) (ws' := (wd_Di_start cI cZ a_t a_t_inside a_t_open a_p1 a_p1_graph a_p1_graph_arcs a_p1_home a_p1_bounds a_p1_sum a_p1_link a_p1_graph_weight t_nodes t_inside t_open p1_cut p1_over p1_graph_size p1_graph_arcs p1_home)) (va_runS (As := [.ref a_p1, .int x2, .int x3]) ⟨hx, hb, hml, hown, hts⟩ (c_Di_isCut l dC dI cI cZ a_p1 a_p1_graph a_p1_graph_arcs a_p1_home a_p1_bounds a_p1_sum a_p1_link a_p1_graph_weight H.size x2 x3 p1_cut p1_over p1_graph_size p1_graph_arcs p1_home r37 hr37) (va_cwS 3 hts (gS gw_649 gw_650 gw_60 gw_651) rfl rfl rfl (yd_Di_isCut).2 ⟨Nat.le_of_ble_eq_true rfl, Nat.le_of_ble_eq_true rfl⟩) (mkS hK (hP.sub (ws' := (wd_Di_isCut cI cZ a_p1 a_p1_graph a_p1_graph_arcs a_p1_home a_p1_bounds a_p1_sum a_p1_link a_p1_graph_weight p1_cut p1_over p1_graph_size p1_graph_arcs p1_home)) [3, 4, 5, 6] rfl) (hD.sub (ws' := (wd_Di_isCut cI cZ a_p1 a_p1_graph a_p1_graph_arcs a_p1_home a_p1_bounds a_p1_sum a_p1_link a_p1_graph_weight p1_cut p1_over p1_graph_size p1_graph_arcs p1_home)) [3, 4, 5, 6] (by decide) rfl) hN) rfl rfl hl.1 rfl (lv_room (Nat.le_of_ble_eq_true rfl)) dd_Di_start_37 ⟨Nat.zero_le _, Nat.zero_le _⟩) hP hD hS hA [3, 4, 5, 6] [0, 1, 2] [0, 1, 2, 3, 4, 5, 6] rfl rfl (by decide) (by decide) rfl (by decide) rfl (fun H locs hP hD hS => ?_)
            refine lv_if_eq (tgt := 53) hx hb dd_Di_start_40 (by decide) (fun cc => ?_) (fun cc => ?_)
            · skip
              have hf := if_t cc hf
              refine lv_iinc (v := x3 + 1) (lv' := [(3, .int (x3 + 1)), (0, .ref a_t), (1, .ref a_p1), (2, .int x2)]) hx hb dd_Di_start_53 hl (k := 3) rfl rfl (by decide) rfl (fun ls hl => ?_)
              refine lv_goto (tgt := 26) hx hb dd_Di_start_56 (by decide) ?_
              exact ih26 x2 (x3 + 1) t_inside t_open _ _ _ hf (lv_sub hl [1, 2, 3, 0] rfl) hP hD hS
            · skip
              have hf := if_f cc hf
              refine lv_aload_n hx hb dd_Di_start_43 rfl (lv_at hl 0 rfl) ?_
              refine va_get (D := (dC, dI)) (ci := 6) (v := .ref a_t_open) (C := rr_Di) (T := tt_Di) (N := 3) hx hb hts (fun w h => gwc (inn_Di w h)) hown hK hP 0 rfl rfl 1 (by decide) (hts _ (gwc gw_274)) (fun _ h9 => h9) rfl dd_Di_start_44 ?_
              refine lv_iload_n hx hb dd_Di_start_47 rfl (lv_at hl 2 rfl) ?_
              refine lv_dup2_11 hx hb dd_Di_start_48 rfl rfl ?_
              obtain ⟨k49, hf⟩ := ck_some hf
              refine va_iald hx hb hK hP 2 0 rfl rfl (okb_in k49) dd_Di_start_49 ?_
              refine lv_iconst (v := 1) hx hb dd_Di_start_50 (by decide) ?_
              refine lv_iadd hx hb dd_Di_start_51 ?_
              obtain ⟨k52, hf⟩ := ck_some hf
              refine va_iast hx hb hK hP hD hS 2 0 rfl rfl (okb_in k52) dd_Di_start_52 (fun H locs hP hD hS => ?_)
              have hP : va_P (dC, dI) clsL (wd_Di_start cI cZ a_t a_t_inside a_t_open a_p1 a_p1_graph a_p1_graph_arcs a_p1_home a_p1_bounds a_p1_sum a_p1_link a_p1_graph_weight t_nodes t_inside (upd t_open (x2).toNatClampNeg ((t_open (x2).toNatClampNeg) + 1)) p1_cut p1_over p1_graph_size p1_graph_arcs p1_home) H := hP
              have hD : va_D A (wd_Di_start cI cZ a_t a_t_inside a_t_open a_p1 a_p1_graph a_p1_graph_arcs a_p1_home a_p1_bounds a_p1_sum a_p1_link a_p1_graph_weight t_nodes t_inside (upd t_open (x2).toNatClampNeg ((t_open (x2).toNatClampNeg) + 1)) p1_cut p1_over p1_graph_size p1_graph_arcs p1_home) := hD
              refine lv_iinc (v := x3 + 1) (lv' := [(3, .int (x3 + 1)), (0, .ref a_t), (1, .ref a_p1), (2, .int x2)]) hx hb dd_Di_start_53 hl (k := 3) rfl rfl (by decide) rfl (fun ls hl => ?_)
              refine lv_goto (tgt := 26) hx hb dd_Di_start_56 (by decide) ?_
              exact ih26 x2 (x3 + 1) t_inside (upd t_open (x2).toNatClampNeg ((t_open (x2).toNatClampNeg) + 1)) _ _ _ hf (lv_sub hl [1, 2, 3, 0] rfl) hP hD hS
      refine lv_iload_n hx hb dd_Di_start_2 rfl (lv_at hl 2 rfl) ?_
      refine lv_aload_n hx hb dd_Di_start_3 rfl (lv_at hl 0 rfl) ?_
      refine va_get (D := (dC, dI)) (ci := 6) (v := .int t_nodes) (C := rr_Di) (T := tt_Di) (N := 3) hx hb hts (fun w h => gwc (inn_Di w h)) hown hK hP 0 rfl rfl 2 (by decide) (hts _ (gwc gw_275)) (fun _ h9 => h9) rfl dd_Di_start_4 ?_
      refine lv_icmp_ge (tgt := 65) hx hb dd_Di_start_7 (by decide) (fun cc => ?_) (fun cc => ?_)
      · skip
        have hf := if_t cc hf
        cases hf
        exact W.vret hx hb hr (fun t ht hW => ⟨⟨(), rfl, trivial, pst_of ht hP hD⟩, hS.F ht⟩) hS.2.2 dd_Di_start_65
      · skip
        have hf := if_f cc hf
        refine lv_aload_n hx hb dd_Di_start_10 rfl (lv_at hl 0 rfl) ?_
        refine va_get (D := (dC, dI)) (ci := 6) (v := .ref a_t_inside) (C := rr_Di) (T := tt_Di) (N := 3) hx hb hts (fun w h => gwc (inn_Di w h)) hown hK hP 0 rfl rfl 0 (by decide) (hts _ (gwc gw_273)) (fun _ h9 => h9) rfl dd_Di_start_11 ?_
        refine lv_iload_n hx hb dd_Di_start_14 rfl (lv_at hl 2 rfl) ?_
        refine lv_iconst (v := 0) hx hb dd_Di_start_15 (by decide) ?_
        obtain ⟨k16, hf⟩ := ck_some hf
        refine va_zast hx hb hK hP hD hS 1 1 rfl rfl (okb_in k16) dd_Di_start_16 (fun H locs hP hD hS => ?_)
        have hP : va_P (dC, dI) clsL (wd_Di_start cI cZ a_t a_t_inside a_t_open a_p1 a_p1_graph a_p1_graph_arcs a_p1_home a_p1_bounds a_p1_sum a_p1_link a_p1_graph_weight t_nodes (upd t_inside (x2).toNatClampNeg (vp_nar .boolean 0)) t_open p1_cut p1_over p1_graph_size p1_graph_arcs p1_home) H := hP
        have hD : va_D A (wd_Di_start cI cZ a_t a_t_inside a_t_open a_p1 a_p1_graph a_p1_graph_arcs a_p1_home a_p1_bounds a_p1_sum a_p1_link a_p1_graph_weight t_nodes (upd t_inside (x2).toNatClampNeg (vp_nar .boolean 0)) t_open p1_cut p1_over p1_graph_size p1_graph_arcs p1_home) := hD
        refine lv_aload_n hx hb dd_Di_start_17 rfl (lv_at hl 0 rfl) ?_
        refine va_get (D := (dC, dI)) (ci := 6) (v := .ref a_t_open) (C := rr_Di) (T := tt_Di) (N := 3) hx hb hts (fun w h => gwc (inn_Di w h)) hown hK hP 0 rfl rfl 1 (by decide) (hts _ (gwc gw_274)) (fun _ h9 => h9) rfl dd_Di_start_18 ?_
        refine lv_iload_n hx hb dd_Di_start_21 rfl (lv_at hl 2 rfl) ?_
        refine lv_iconst (v := 0) hx hb dd_Di_start_22 (by decide) ?_
        obtain ⟨k23, hf⟩ := ck_some hf
        refine va_iast hx hb hK hP hD hS 2 0 rfl rfl (okb_in k23) dd_Di_start_23 (fun H locs hP hD hS => ?_)
        have hP : va_P (dC, dI) clsL (wd_Di_start cI cZ a_t a_t_inside a_t_open a_p1 a_p1_graph a_p1_graph_arcs a_p1_home a_p1_bounds a_p1_sum a_p1_link a_p1_graph_weight t_nodes (upd t_inside (x2).toNatClampNeg (vp_nar .boolean 0)) (upd t_open (x2).toNatClampNeg 0) p1_cut p1_over p1_graph_size p1_graph_arcs p1_home) H := hP
        have hD : va_D A (wd_Di_start cI cZ a_t a_t_inside a_t_open a_p1 a_p1_graph a_p1_graph_arcs a_p1_home a_p1_bounds a_p1_sum a_p1_link a_p1_graph_weight t_nodes (upd t_inside (x2).toNatClampNeg (vp_nar .boolean 0)) (upd t_open (x2).toNatClampNeg 0) p1_cut p1_over p1_graph_size p1_graph_arcs p1_home) := hD
        refine lv_iconst (v := 0) hx hb dd_Di_start_24 (by decide) ?_
        refine lv_istore_n (lv' := [(3, .int 0), (0, .ref a_t), (1, .ref a_p1), (2, .int x2)]) hx hb dd_Di_start_25 rfl hl (by decide) rfl (fun ls hl => ?_)
        exact h26 64 x2 0 (upd t_inside (x2).toNatClampNeg (vp_nar .boolean 0)) (upd t_open (x2).toNatClampNeg 0) _ _ _ hf (lv_sub hl [1, 2, 3, 0] rfl) hP hD hS
  refine lv_iconst (v := 0) hx hb dd_Di_start_0 (by decide) ?_
  refine lv_istore_n (lv' := [(2, .int 0), (0, .ref a_t), (1, .ref a_p1)]) hx hb dd_Di_start_1 rfl hl (by decide) rfl (fun ls hl => ?_)
  exact h2 64 0 t_inside t_open _ _ _ hf (lv_sub hl [1, 2, 0] rfl) hP hD hS
abbrev wd_Di_busiest (cI cZ : ClassId) (a_t a_t_open a_p1 a_p1_weight a_t_inside a_p1_arcs : Nat) (t_nodes : Int32) (t_open : Nat → Int32) (p1_size : Int32) (p1_weight : Nat → Int32) : va_W := [(a_t, .inr (6, [.ref a_t_inside, .ref a_t_open, .int t_nodes])), (a_t_open, .inl (cI, 40, .inl t_open)), (a_p1, .inr (1, [.int p1_size, .ref a_p1_weight, .ref a_p1_arcs])), (a_p1_weight, .inl (cI, 40, .inl p1_weight))]
set_option maxRecDepth 100000 in
set_option maxHeartbeats 4000000 in
theorem c_Di_busiest (l : Launch) (dC : Nat → ClassId) (dI : Nat → Nat → Nat) (cI cZ : ClassId) (a_t a_t_open a_p1 a_p1_weight a_t_inside a_p1_arcs sz : Nat) (t_nodes : Int32) (t_open : Nat → Int32) (p1_size : Int32) (p1_weight : Nat → Int32) (out : Int32) (hf : f_Di_busiest t_nodes t_open p1_weight = some out) :
    Met l yy_Di_busiest wq_Di_busiest ({ frames := 0, cells := 0, slots := 0, locals := 0 }) (va_Pc ([.ref a_t, .ref a_p1] : List Value) (pre_ (dC, dI) cI cZ sz (wd_Di_busiest cI cZ a_t a_t_open a_p1 a_p1_weight a_t_inside a_p1_arcs t_nodes t_open p1_size p1_weight))) (va_Qi (fun (r : Int32) (_ : Unit) => r = out) (fun _ => pst (dC, dI) (va_A (wd_Di_busiest cI cZ a_t a_t_open a_p1 a_p1_weight a_t_inside a_p1_arcs t_nodes t_open p1_size p1_weight) sz) (wd_Di_busiest cI cZ a_t a_t_open a_p1 a_p1_weight a_t_inside a_p1_arcs t_nodes t_open p1_size p1_weight)) (va_A (wd_Di_busiest cI cZ a_t a_t_open a_p1 a_p1_weight a_t_inside a_p1_arcs t_nodes t_open p1_size p1_weight) sz)) 0 0 (va_A (wd_Di_busiest cI cZ a_t a_t_open a_p1 a_p1_weight a_t_inside a_p1_arcs t_nodes t_open p1_size p1_weight) sz) := by
  refine Met.ofW (cc := cc_Di_busiest) (maxL := 5) (ret := (some .int)) (by decide) rfl ?_
  intro p e s m args below meth c s₁ B hml hv
  obtain ⟨rfl, hsz, hP, hK, hD0, hN⟩ := hv
  have hx := B.exec
  have hb := B.bytes
  have hr := B.returns
  have hts := atoms_spec (ws := wq_Di_busiest) B.pre
  have hown : s.vm.findClass rr_Di = some m.cls := findClass_of_methodNamed B.named
  have hlocks := B.notSynchronized
  subst hsz
  have hD := hD0.self (sz := s.heap.size)
  generalize hAe : va_A (wd_Di_busiest cI cZ a_t a_t_open a_p1 a_p1_weight a_t_inside a_p1_arcs t_nodes t_open p1_size p1_weight) s.heap.size = A at hD ⊢
  have hA : ∀ q : Nat, s.heap.size ≤ q → A q := fun q h => by rw [← hAe]; exact Or.inr h
  obtain ⟨H, hH⟩ : ∃ H : Heap, H = s.heap := ⟨_, rfl⟩
  have hS : va_S A s.heap H [] := by rw [hH]; exact va_S.rf
  have hl := lv_entry (([.ref a_t, .ref a_p1] : List Value)) (n := 5) (Nat.le_of_ble_eq_true rfl)
  rw [lg_entry_eq]
  generalize (lg_sl (([.ref a_t, .ref a_p1] : List Value)) ++ List.replicate (5 - (lg_sl (([.ref a_t, .ref a_p1] : List Value))).length) Slot.unset).toArray = ls at hl ⊢
  have hl : lv_has ls 5 [(0, .ref a_t), (1, .ref a_p1)] := hl
  rw [← hH] at hP ⊢
  have hP : va_P (dC, dI) clsL (wd_Di_busiest cI cZ a_t a_t_open a_p1 a_p1_weight a_t_inside a_p1_arcs t_nodes t_open p1_size p1_weight) H := hP
  unfold f_Di_busiest at hf
  have h4 : ∀ (n4 : Nat) (x2 : Int32) (x3 : Int32) (ls : Array Slot) (H : Heap) (locs : List Loc), L_Di_busiest_4 t_nodes t_open p1_weight n4 x2 x3 = some out → lv_has ls 5 [(0, .ref a_t), (1, .ref a_p1), (2, .int x2), (3, .int x3)] → va_P (dC, dI) clsL (wd_Di_busiest cI cZ a_t a_t_open a_p1 a_p1_weight a_t_inside a_p1_arcs t_nodes t_open p1_size p1_weight) H → va_D A (wd_Di_busiest cI cZ a_t a_t_open a_p1 a_p1_weight a_t_inside a_p1_arcs t_nodes t_open p1_size p1_weight) → va_S A s.heap H locs → W p l e (headSpec wq_Di_busiest ({ frames := 0, cells := 0, slots := 0, locals := 0 })).room s m ([.ref a_t, .ref a_p1] : List Value).toArray below meth c H locs 0 0 (MQ below (va_Qi (fun (r : Int32) (_ : Unit) => r = out) (fun _ => pst (dC, dI) A (wd_Di_busiest cI cZ a_t a_t_open a_p1 a_p1_weight a_t_inside a_p1_arcs t_nodes t_open p1_size p1_weight)) A) ([.ref a_t, .ref a_p1] : List Value).toArray s 0 0 A) (F0 m 4 ls []) := by
    intro n4
    induction n4 with
    | zero =>
      intro x2 x3 ls H locs hf
      rw [L_Di_busiest_4] at hf
      exact absurd hf (fun h => by cases h)
    | succ n4 ih4 =>
      intro x2 x3 ls H locs hf hl hP hD hS
      rw [L_Di_busiest_4] at hf
      have h32 : ∀ (y0 : Int32) (x2 : Int32) (x3 : Int32) (ls : Array Slot) (H : Heap) (locs : List Loc), J_Di_busiest_32 t_open (L_Di_busiest_4 t_nodes t_open p1_weight n4) y0 x2 x3 = some out → lv_has ls 5 [(0, .ref a_t), (1, .ref a_p1), (2, .int x2), (3, .int x3)] → va_P (dC, dI) clsL (wd_Di_busiest cI cZ a_t a_t_open a_p1 a_p1_weight a_t_inside a_p1_arcs t_nodes t_open p1_size p1_weight) H → va_D A (wd_Di_busiest cI cZ a_t a_t_open a_p1 a_p1_weight a_t_inside a_p1_arcs t_nodes t_open p1_size p1_weight) → va_S A s.heap H locs → W p l e (headSpec wq_Di_busiest ({ frames := 0, cells := 0, slots := 0, locals := 0 })).room s m ([.ref a_t, .ref a_p1] : List Value).toArray below meth c H locs 0 0 (MQ below (va_Qi (fun (r : Int32) (_ : Unit) => r = out) (fun _ => pst (dC, dI) A (wd_Di_busiest cI cZ a_t a_t_open a_p1 a_p1_weight a_t_inside a_p1_arcs t_nodes t_open p1_size p1_weight)) A) ([.ref a_t, .ref a_p1] : List Value).toArray s 0 0 A) (F0 m 32 ls [.int y0]) := by
        intro y0 x2 x3 ls H locs hf hl hP hD hS
        unfold J_Di_busiest_32 at hf
        refine lv_istore (lv' := [(4, .int y0), (0, .ref a_t), (1, .ref a_p1), (2, .int x2), (3, .int x3)]) hx hb dd_Di_busiest_32 hl (by decide) rfl (fun ls hl => ?_)
        refine lv_aload_n hx hb dd_Di_busiest_34 rfl (lv_at hl 1 rfl) ?_
        refine va_get (D := (dC, dI)) (ci := 6) (v := .ref a_t_open) (C := rr_Di) (T := tt_Di) (N := 3) hx hb hts (fun w h => gwc (inn_Di w h)) hown hK hP 0 rfl rfl 1 (by decide) (hts _ (gwc gw_274)) (fun _ h9 => h9) rfl dd_Di_busiest_35 ?_
        refine lv_iload_n hx hb dd_Di_busiest_38 rfl (lv_at hl 4 rfl) ?_
        obtain ⟨k39, hf⟩ := ck_some hf
        refine va_iald hx hb hK hP 1 0 rfl rfl (okb_in k39) dd_Di_busiest_39 ?_
        refine lv_aload_n hx hb dd_Di_busiest_40 rfl (lv_at hl 1 rfl) ?_
        refine va_get (D := (dC, dI)) (ci := 6) (v := .ref a_t_open) (C := rr_Di) (T := tt_Di) (N := 3) hx hb hts (fun w h => gwc (inn_Di w h)) hown hK hP 0 rfl rfl 1 (by decide) (hts _ (gwc gw_274)) (fun _ h9 => h9) rfl dd_Di_busiest_41 ?_
        refine lv_iload_n hx hb dd_Di_busiest_44 rfl (lv_at hl 3 rfl) ?_
        obtain ⟨k45, hf⟩ := ck_some hf
        refine va_iald hx hb hK hP 1 0 rfl rfl (okb_in k45) dd_Di_busiest_45 ?_
        refine lv_icmp_gt (tgt := 69) hx hb dd_Di_busiest_46 (by decide) (fun cc => ?_) (fun cc => ?_)
        · skip
          have hf := if_t cc hf
          refine lv_iload_n hx hb dd_Di_busiest_69 rfl (lv_at hl 4 rfl) ?_
          refine lv_istore_n (lv' := [(2, .int x3), (4, .int y0), (0, .ref a_t), (1, .ref a_p1), (3, .int x3)]) hx hb dd_Di_busiest_70 rfl hl (by decide) rfl (fun ls hl => ?_)
          refine lv_iinc (v := x3 + 1) (lv' := [(3, .int (x3 + 1)), (2, .int x3), (4, .int y0), (0, .ref a_t), (1, .ref a_p1)]) hx hb dd_Di_busiest_71 hl (k := 4) rfl rfl (by decide) rfl (fun ls hl => ?_)
          refine lv_goto (tgt := 4) hx hb dd_Di_busiest_74 (by decide) ?_
          exact ih4 x3 (x3 + 1) _ _ _ hf (lv_sub hl [3, 4, 1, 0] rfl) hP hD hS
        · skip
          have hf := if_f cc hf
          refine lv_aload_n hx hb dd_Di_busiest_49 rfl (lv_at hl 1 rfl) ?_
          refine va_get (D := (dC, dI)) (ci := 6) (v := .ref a_t_open) (C := rr_Di) (T := tt_Di) (N := 3) hx hb hts (fun w h => gwc (inn_Di w h)) hown hK hP 0 rfl rfl 1 (by decide) (hts _ (gwc gw_274)) (fun _ h9 => h9) rfl dd_Di_busiest_50 ?_
          refine lv_iload_n hx hb dd_Di_busiest_53 rfl (lv_at hl 4 rfl) ?_
          obtain ⟨k54, hf⟩ := ck_some hf
          refine va_iald hx hb hK hP 1 0 rfl rfl (okb_in k54) dd_Di_busiest_54 ?_
          refine lv_aload_n hx hb dd_Di_busiest_55 rfl (lv_at hl 1 rfl) ?_
          refine va_get (D := (dC, dI)) (ci := 6) (v := .ref a_t_open) (C := rr_Di) (T := tt_Di) (N := 3) hx hb hts (fun w h => gwc (inn_Di w h)) hown hK hP 0 rfl rfl 1 (by decide) (hts _ (gwc gw_274)) (fun _ h9 => h9) rfl dd_Di_busiest_56 ?_
          refine lv_iload_n hx hb dd_Di_busiest_59 rfl (lv_at hl 3 rfl) ?_
          obtain ⟨k60, hf⟩ := ck_some hf
          refine va_iald hx hb hK hP 1 0 rfl rfl (okb_in k60) dd_Di_busiest_60 ?_
          refine lv_icmp_ne (tgt := 71) hx hb dd_Di_busiest_61 (by decide) (fun cc => ?_) (fun cc => ?_)
          · skip
            have hf := if_f cc hf
            refine lv_iinc (v := x3 + 1) (lv' := [(3, .int (x3 + 1)), (4, .int y0), (0, .ref a_t), (1, .ref a_p1), (2, .int x2)]) hx hb dd_Di_busiest_71 hl (k := 4) rfl rfl (by decide) rfl (fun ls hl => ?_)
            refine lv_goto (tgt := 4) hx hb dd_Di_busiest_74 (by decide) ?_
            exact ih4 x2 (x3 + 1) _ _ _ hf (lv_sub hl [2, 3, 4, 0] rfl) hP hD hS
          · skip
            have hf := if_t cc hf
            refine lv_iload hx hb dd_Di_busiest_64 (lv_at hl 0 rfl) ?_
            refine lv_if_eq (tgt := 71) hx hb dd_Di_busiest_66 (by decide) (fun cc => ?_) (fun cc => ?_)
            · skip
              have hf := if_t cc hf
              refine lv_iinc (v := x3 + 1) (lv' := [(3, .int (x3 + 1)), (4, .int y0), (0, .ref a_t), (1, .ref a_p1), (2, .int x2)]) hx hb dd_Di_busiest_71 hl (k := 4) rfl rfl (by decide) rfl (fun ls hl => ?_)
              refine lv_goto (tgt := 4) hx hb dd_Di_busiest_74 (by decide) ?_
              exact ih4 x2 (x3 + 1) _ _ _ hf (lv_sub hl [2, 3, 4, 0] rfl) hP hD hS
            · skip
              have hf := if_f cc hf
              refine lv_iload_n hx hb dd_Di_busiest_69 rfl (lv_at hl 4 rfl) ?_
              refine lv_istore_n (lv' := [(2, .int x3), (4, .int y0), (0, .ref a_t), (1, .ref a_p1), (3, .int x3)]) hx hb dd_Di_busiest_70 rfl hl (by decide) rfl (fun ls hl => ?_)
              refine lv_iinc (v := x3 + 1) (lv' := [(3, .int (x3 + 1)), (2, .int x3), (4, .int y0), (0, .ref a_t), (1, .ref a_p1)]) hx hb dd_Di_busiest_71 hl (k := 4) rfl rfl (by decide) rfl (fun ls hl => ?_)
              refine lv_goto (tgt := 4) hx hb dd_Di_busiest_74 (by decide) ?_
              exact ih4 x3 (x3 + 1) _ _ _ hf (lv_sub hl [3, 4, 1, 0] rfl) hP hD hS
      refine lv_iload_n hx hb dd_Di_busiest_4 rfl (lv_at hl 3 rfl) ?_
      refine lv_aload_n hx hb dd_Di_busiest_5 rfl (lv_at hl 0 rfl) ?_
      refine va_get (D := (dC, dI)) (ci := 6) (v := .int t_nodes) (C := rr_Di) (T := tt_Di) (N := 3) hx hb hts (fun w h => gwc (inn_Di w h)) hown hK hP 0 rfl rfl 2 (by decide) (hts _ (gwc gw_275)) (fun _ h9 => h9) rfl dd_Di_busiest_6 ?_
      refine lv_icmp_ge (tgt := 77) hx hb dd_Di_busiest_9 (by decide) (fun cc => ?_) (fun cc => ?_)
      · skip
        have hf := if_t cc hf
        refine lv_iload_n hx hb dd_Di_busiest_77 rfl (lv_at hl 2 rfl) ?_
        cases hf
        exact W.iret hx hb hr (fun t ht hW => ⟨⟨_, (), rfl, rfl, pst_of ht hP hD⟩, hS.F ht⟩) hS.2.2 dd_Di_busiest_78
      · skip
        have hf := if_f cc hf
        refine lv_aload_n hx hb dd_Di_busiest_12 rfl (lv_at hl 1 rfl) ?_
        refine va_get (D := (dC, dI)) (ci := 1) (v := .ref a_p1_weight) (C := rr_Gr) (T := tt_Gr) (N := 3) hx hb hts (fun w h => gwc (inn_Gr w h)) hown hK hP 2 rfl rfl 1 (by decide) (hts _ (gwc gw_96)) (fun _ h9 => h9) rfl dd_Di_busiest_13 ?_
        refine lv_iload_n hx hb dd_Di_busiest_16 rfl (lv_at hl 3 rfl) ?_
        obtain ⟨k17, hf⟩ := ck_some hf
        refine va_iald hx hb hK hP 3 0 rfl rfl (okb_in k17) dd_Di_busiest_17 ?_
        refine lv_aload_n hx hb dd_Di_busiest_18 rfl (lv_at hl 1 rfl) ?_
        refine va_get (D := (dC, dI)) (ci := 1) (v := .ref a_p1_weight) (C := rr_Gr) (T := tt_Gr) (N := 3) hx hb hts (fun w h => gwc (inn_Gr w h)) hown hK hP 2 rfl rfl 1 (by decide) (hts _ (gwc gw_96)) (fun _ h9 => h9) rfl dd_Di_busiest_19 ?_
        refine lv_iload_n hx hb dd_Di_busiest_22 rfl (lv_at hl 2 rfl) ?_
        obtain ⟨k23, hf⟩ := ck_some hf
        refine va_iald hx hb hK hP 3 0 rfl rfl (okb_in k23) dd_Di_busiest_23 ?_
        refine lv_icmp_ge (tgt := 31) hx hb dd_Di_busiest_24 (by decide) (fun cc => ?_) (fun cc => ?_)
        · skip
          have hf := if_t cc hf
          refine lv_iconst (v := 0) hx hb dd_Di_busiest_31 (by decide) ?_
          exact h32 0 x2 x3 _ _ _ hf (lv_sub hl [0, 1, 2, 3] rfl) hP hD hS
        · skip
          have hf := if_f cc hf
          refine lv_iconst (v := 1) hx hb dd_Di_busiest_27 (by decide) ?_
          refine lv_goto (tgt := 32) hx hb dd_Di_busiest_28 (by decide) ?_
          exact h32 1 x2 x3 _ _ _ hf (lv_sub hl [0, 1, 2, 3] rfl) hP hD hS
  refine lv_iconst (v := 0) hx hb dd_Di_busiest_0 (by decide) ?_
  refine lv_istore_n (lv' := [(2, .int 0), (0, .ref a_t), (1, .ref a_p1)]) hx hb dd_Di_busiest_1 rfl hl (by decide) rfl (fun ls hl => ?_)
  refine lv_iconst (v := 1) hx hb dd_Di_busiest_2 (by decide) ?_
  refine lv_istore_n (lv' := [(3, .int 1), (2, .int 0), (0, .ref a_t), (1, .ref a_p1)]) hx hb dd_Di_busiest_3 rfl hl (by decide) rfl (fun ls hl => ?_)
  exact h4 64 0 1 _ _ _ hf (lv_sub hl [2, 3, 1, 0] rfl) hP hD hS
abbrev wd_Di_takeIn (cI cZ : ClassId) (a_t a_t_inside a_t_open a_p1 a_p1_graph a_p1_graph_arcs a_p1_home a_p1_bounds a_p1_sum a_p1_link a_p1_graph_weight : Nat) (t_nodes : Int32) (t_inside : Nat → Int32) (t_open : Nat → Int32) (p1_cut : Int32) (p1_over : Int32) (p1_graph_size : Int32) (p1_graph_arcs : Nat → Int32) (p1_home : Nat → Int32) : va_W := [(a_t, .inr (6, [.ref a_t_inside, .ref a_t_open, .int t_nodes])), (a_t_inside, .inl (cZ, 40, .inl t_inside)), (a_t_open, .inl (cI, 40, .inl t_open)), (a_p1, .inr (7, [.ref a_p1_graph, .ref a_p1_bounds, .ref a_p1_home, .ref a_p1_sum, .ref a_p1_link, .int p1_cut, .int p1_over])), (a_p1_graph, .inr (1, [.int p1_graph_size, .ref a_p1_graph_weight, .ref a_p1_graph_arcs])), (a_p1_graph_arcs, .inl (cI, 1600, .inl p1_graph_arcs)), (a_p1_home, .inl (cI, 40, .inl p1_home))]
set_option maxRecDepth 100000 in
set_option maxHeartbeats 4000000 in
theorem c_Di_takeIn (l : Launch) (dC : Nat → ClassId) (dI : Nat → Nat → Nat) (cI cZ : ClassId) (a_t a_t_inside a_t_open a_p1 a_p1_graph a_p1_graph_arcs a_p1_home a_p1_bounds a_p1_sum a_p1_link a_p1_graph_weight sz : Nat) (x2 : Int32) (t_nodes : Int32) (t_inside : Nat → Int32) (t_open : Nat → Int32) (p1_cut : Int32) (p1_over : Int32) (p1_graph_size : Int32) (p1_graph_arcs : Nat → Int32) (p1_home : Nat → Int32) (out : (Nat → Int32) × (Nat → Int32)) (hf : f_Di_takeIn x2 t_nodes t_inside t_open p1_graph_arcs p1_home = some out) :
    Met l yy_Di_takeIn wq_Di_takeIn ({ frames := 2, cells := 0, slots := 0, locals := 44 }) (va_Pc ([.ref a_t, .ref a_p1, .int x2] : List Value) (pre_ (dC, dI) cI cZ sz (wd_Di_takeIn cI cZ a_t a_t_inside a_t_open a_p1 a_p1_graph a_p1_graph_arcs a_p1_home a_p1_bounds a_p1_sum a_p1_link a_p1_graph_weight t_nodes t_inside t_open p1_cut p1_over p1_graph_size p1_graph_arcs p1_home))) (va_Qv (fun _ : Unit => True) (fun _ => pst (dC, dI) (va_A (wd_Di_takeIn cI cZ a_t a_t_inside a_t_open a_p1 a_p1_graph a_p1_graph_arcs a_p1_home a_p1_bounds a_p1_sum a_p1_link a_p1_graph_weight t_nodes t_inside t_open p1_cut p1_over p1_graph_size p1_graph_arcs p1_home) sz) (wd_Di_takeIn cI cZ a_t a_t_inside a_t_open a_p1 a_p1_graph a_p1_graph_arcs a_p1_home a_p1_bounds a_p1_sum a_p1_link a_p1_graph_weight t_nodes out.1 out.2 p1_cut p1_over p1_graph_size p1_graph_arcs p1_home)) (va_A (wd_Di_takeIn cI cZ a_t a_t_inside a_t_open a_p1 a_p1_graph a_p1_graph_arcs a_p1_home a_p1_bounds a_p1_sum a_p1_link a_p1_graph_weight t_nodes t_inside t_open p1_cut p1_over p1_graph_size p1_graph_arcs p1_home) sz)) 0 0 (va_A (wd_Di_takeIn cI cZ a_t a_t_inside a_t_open a_p1 a_p1_graph a_p1_graph_arcs a_p1_home a_p1_bounds a_p1_sum a_p1_link a_p1_graph_weight t_nodes t_inside t_open p1_cut p1_over p1_graph_size p1_graph_arcs p1_home) sz) := by
  refine Met.ofW (cc := cc_Di_takeIn) (maxL := 4) (ret := none) (by decide) rfl ?_
  intro p e s m args below meth c s₁ B hml hv
  obtain ⟨rfl, hsz, hP, hK, hD0, hN⟩ := hv
  have hx := B.exec
  have hb := B.bytes
  have hr := B.returns
  have hts := atoms_spec (ws := wq_Di_takeIn) B.pre
  have hown : s.vm.findClass rr_Di = some m.cls := findClass_of_methodNamed B.named
  have hlocks := B.notSynchronized
  subst hsz
  have hD := hD0.self (sz := s.heap.size)
  generalize hAe : va_A (wd_Di_takeIn cI cZ a_t a_t_inside a_t_open a_p1 a_p1_graph a_p1_graph_arcs a_p1_home a_p1_bounds a_p1_sum a_p1_link a_p1_graph_weight t_nodes t_inside t_open p1_cut p1_over p1_graph_size p1_graph_arcs p1_home) s.heap.size = A at hD ⊢
  have hA : ∀ q : Nat, s.heap.size ≤ q → A q := fun q h => by rw [← hAe]; exact Or.inr h
  obtain ⟨H, hH⟩ : ∃ H : Heap, H = s.heap := ⟨_, rfl⟩
  have hS : va_S A s.heap H [] := by rw [hH]; exact va_S.rf
  have hl := lv_entry (([.ref a_t, .ref a_p1, .int x2] : List Value)) (n := 4) (Nat.le_of_ble_eq_true rfl)
  rw [lg_entry_eq]
  generalize (lg_sl (([.ref a_t, .ref a_p1, .int x2] : List Value)) ++ List.replicate (4 - (lg_sl (([.ref a_t, .ref a_p1, .int x2] : List Value))).length) Slot.unset).toArray = ls at hl ⊢
  have hl : lv_has ls 4 [(0, .ref a_t), (1, .ref a_p1), (2, .int x2)] := hl
  rw [← hH] at hP ⊢
  have hP : va_P (dC, dI) clsL (wd_Di_takeIn cI cZ a_t a_t_inside a_t_open a_p1 a_p1_graph a_p1_graph_arcs a_p1_home a_p1_bounds a_p1_sum a_p1_link a_p1_graph_weight t_nodes t_inside t_open p1_cut p1_over p1_graph_size p1_graph_arcs p1_home) H := hP
  unfold f_Di_takeIn at hf
  have h16 : ∀ (n16 : Nat) (x3 : Int32) (t_inside : Nat → Int32) (t_open : Nat → Int32) (ls : Array Slot) (H : Heap) (locs : List Loc), L_Di_takeIn_16 x2 t_nodes p1_graph_arcs p1_home n16 x3 t_inside t_open = some out → lv_has ls 4 [(0, .ref a_t), (1, .ref a_p1), (2, .int x2), (3, .int x3)] → va_P (dC, dI) clsL (wd_Di_takeIn cI cZ a_t a_t_inside a_t_open a_p1 a_p1_graph a_p1_graph_arcs a_p1_home a_p1_bounds a_p1_sum a_p1_link a_p1_graph_weight t_nodes t_inside t_open p1_cut p1_over p1_graph_size p1_graph_arcs p1_home) H → va_D A (wd_Di_takeIn cI cZ a_t a_t_inside a_t_open a_p1 a_p1_graph a_p1_graph_arcs a_p1_home a_p1_bounds a_p1_sum a_p1_link a_p1_graph_weight t_nodes t_inside t_open p1_cut p1_over p1_graph_size p1_graph_arcs p1_home) → va_S A s.heap H locs → W p l e (headSpec wq_Di_takeIn ({ frames := 2, cells := 0, slots := 0, locals := 44 })).room s m ([.ref a_t, .ref a_p1, .int x2] : List Value).toArray below meth c H locs 0 0 (MQ below (va_Qv (fun _ : Unit => True) (fun _ => pst (dC, dI) A (wd_Di_takeIn cI cZ a_t a_t_inside a_t_open a_p1 a_p1_graph a_p1_graph_arcs a_p1_home a_p1_bounds a_p1_sum a_p1_link a_p1_graph_weight t_nodes out.1 out.2 p1_cut p1_over p1_graph_size p1_graph_arcs p1_home)) A) ([.ref a_t, .ref a_p1, .int x2] : List Value).toArray s 0 0 A) (F0 m 16 ls []) := by
    intro n16
    induction n16 with
    | zero =>
      intro x3 t_inside t_open ls H locs hf
      rw [L_Di_takeIn_16] at hf
      exact absurd hf (fun h => by cases h)
    | succ n16 ih16 =>
      intro x3 t_inside t_open ls H locs hf hl hP hD hS
      rw [L_Di_takeIn_16] at hf
      refine lv_iload_n hx hb dd_Di_takeIn_16 rfl (lv_at hl 3 rfl) ?_
      refine lv_aload_n hx hb dd_Di_takeIn_17 rfl (lv_at hl 0 rfl) ?_
      refine va_get (D := (dC, dI)) (ci := 6) (v := .int t_nodes) (C := rr_Di) (T := tt_Di) (N := 3) hx hb hts (fun w h => gwc (inn_Di w h)) hown hK hP 0 rfl rfl 2 (by decide) (hts _ (gwc gw_275)) (fun _ h9 => h9) rfl dd_Di_takeIn_18 ?_
      refine lv_icmp_ge (tgt := 58) hx hb dd_Di_takeIn_21 (by decide) (fun cc => ?_) (fun cc => ?_)
      · skip
        have hf := if_t cc hf
        cases hf
        exact W.vret hx hb hr (fun t ht hW => ⟨⟨(), rfl, trivial, pst_of ht hP hD⟩, hS.F ht⟩) hS.2.2 dd_Di_takeIn_58
      · skip
        have hf := if_f cc hf
        refine lv_aload_n hx hb dd_Di_takeIn_24 rfl (lv_at hl 0 rfl) ?_
        refine va_get (D := (dC, dI)) (ci := 6) (v := .ref a_t_inside) (C := rr_Di) (T := tt_Di) (N := 3) hx hb hts (fun w h => gwc (inn_Di w h)) hown hK hP 0 rfl rfl 0 (by decide) (hts _ (gwc gw_273)) (fun _ h9 => h9) rfl dd_Di_takeIn_25 ?_
        refine lv_iload_n hx hb dd_Di_takeIn_28 rfl (lv_at hl 3 rfl) ?_
        obtain ⟨k29, hf⟩ := ck_some hf
        refine va_zald hx hb hK hP 1 1 rfl rfl (okb_in k29) dd_Di_takeIn_29 ?_
        refine lv_if_ne (tgt := 52) hx hb dd_Di_takeIn_30 (by decide) (fun cc => ?_) (fun cc => ?_)
        · skip
          have hf := if_f cc hf
          refine lv_iinc (v := x3 + 1) (lv' := [(3, .int (x3 + 1)), (0, .ref a_t), (1, .ref a_p1), (2, .int x2)]) hx hb dd_Di_takeIn_52 hl (k := 3) rfl rfl (by decide) rfl (fun ls hl => ?_)
          refine lv_goto (tgt := 16) hx hb dd_Di_takeIn_55 (by decide) ?_
          exact ih16 (x3 + 1) t_inside t_open _ _ _ hf (lv_sub hl [1, 2, 3, 0] rfl) hP hD hS
        · skip
          have hf := if_t cc hf
          refine lv_aload_n hx hb dd_Di_takeIn_33 rfl (lv_at hl 1 rfl) ?_
          refine lv_iload_n hx hb dd_Di_takeIn_34 rfl (lv_at hl 2 rfl) ?_
          refine lv_iload_n hx hb dd_Di_takeIn_35 rfl (lv_at hl 3 rfl) ?_
          obtain ⟨r36, hr36, hf⟩ := bind_some hf
          refine xcalli (rest := []) (wc := (wd_Di_isCut cI cZ a_p1 a_p1_graph a_p1_graph_arcs a_p1_home a_p1_bounds a_p1_sum a_p1_link a_p1_graph_weight p1_cut p1_over p1_graph_size p1_graph_arcs p1_home)) (w1 := (wd_Di_isCut cI cZ a_p1 a_p1_graph a_p1_graph_arcs a_p1_home a_p1_bounds a_p1_sum a_p1_link a_p1_graph_weight p1_cut p1_over p1_graph_size p1_graph_arcs p1_home)) (wr := [(a_t, .inr (6, [.ref a_t_inside, .ref a_t_open, .int t_nodes])), (a_t_inside, .inl (cZ, 40, .inl t_inside)), (a_t_open, .inl (cI, 40, .inl t_open))]) (ws' := (wd_Di_takeIn cI cZ a_t a_t_inside a_t_open a_p1 a_p1_graph a_p1_graph_arcs a_p1_home a_p1_bounds a_p1_sum a_p1_link a_p1_graph_weight t_nodes t_inside t_open p1_cut p1_over p1_graph_size p1_graph_arcs p1_home)) (va_runS (As := [.ref a_p1, .int x2, .int x3]) ⟨hx, hb, hml, hown, hts⟩ (c_Di_isCut l dC dI cI cZ a_p1 a_p1_graph a_p1_graph_arcs a_p1_home a_p1_bounds a_p1_sum a_p1_link a_p1_graph_weight H.size x2 x3 p1_cut p1_over p1_graph_size p1_graph_arcs p1_home r36 hr36) (va_cwS 3 hts (gS gw_649 gw_650 gw_60 gw_651) rfl rfl rfl (yd_Di_isCut).2 ⟨Nat.le_of_ble_eq_true rfl, Nat.le_of_ble_eq_true rfl⟩) (mkS hK (hP.sub (ws' := (wd_Di_isCut cI cZ a_p1 a_p1_graph a_p1_graph_arcs a_p1_home a_p1_bounds a_p1_sum a_p1_link a_p1_graph_weight p1_cut p1_over p1_graph_size p1_graph_arcs p1_home)) [3, 4, 5, 6] rfl) (hD.sub (ws' := (wd_Di_isCut cI cZ a_p1 a_p1_graph a_p1_graph_arcs a_p1_home a_p1_bounds a_p1_sum a_p1_link a_p1_graph_weight p1_cut p1_over p1_graph_size p1_graph_arcs p1_home)) [3, 4, 5, 6] (by decide) rfl) hN) rfl rfl hl.1 rfl (lv_room (Nat.le_of_ble_eq_true rfl)) dd_Di_takeIn_36 ⟨Nat.zero_le _, Nat.zero_le _⟩) hP hD hS hA [3, 4, 5, 6] [0, 1, 2] [0, 1, 2, 3, 4, 5, 6] rfl rfl (by decide) (by decide) rfl (by decide) rfl (fun H locs hP hD hS => ?_)
          refine lv_if_eq (tgt := 52) hx hb dd_Di_takeIn_39 (by decide) (fun cc => ?_) (fun cc => ?_)
          · skip
            have hf := if_t cc hf
            refine lv_iinc (v := x3 + 1) (lv' := [(3, .int (x3 + 1)), (0, .ref a_t), (1, .ref a_p1), (2, .int x2)]) hx hb dd_Di_takeIn_52 hl (k := 3) rfl rfl (by decide) rfl (fun ls hl => ?_)
            refine lv_goto (tgt := 16) hx hb dd_Di_takeIn_55 (by decide) ?_
            exact ih16 (x3 + 1) t_inside t_open _ _ _ hf (lv_sub hl [1, 2, 3, 0] rfl) hP hD hS
          · skip
            have hf := if_f cc hf
            refine lv_aload_n hx hb dd_Di_takeIn_42 rfl (lv_at hl 0 rfl) ?_
            refine va_get (D := (dC, dI)) (ci := 6) (v := .ref a_t_open) (C := rr_Di) (T := tt_Di) (N := 3) hx hb hts (fun w h => gwc (inn_Di w h)) hown hK hP 0 rfl rfl 1 (by decide) (hts _ (gwc gw_274)) (fun _ h9 => h9) rfl dd_Di_takeIn_43 ?_
            refine lv_iload_n hx hb dd_Di_takeIn_46 rfl (lv_at hl 3 rfl) ?_
            refine lv_dup2_11 hx hb dd_Di_takeIn_47 rfl rfl ?_
            obtain ⟨k48, hf⟩ := ck_some hf
            refine va_iald hx hb hK hP 2 0 rfl rfl (okb_in k48) dd_Di_takeIn_48 ?_
            refine lv_iconst (v := 1) hx hb dd_Di_takeIn_49 (by decide) ?_
            refine lv_isub hx hb dd_Di_takeIn_50 ?_
            obtain ⟨k51, hf⟩ := ck_some hf
            refine va_iast hx hb hK hP hD hS 2 0 rfl rfl (okb_in k51) dd_Di_takeIn_51 (fun H locs hP hD hS => ?_)
            have hP : va_P (dC, dI) clsL (wd_Di_takeIn cI cZ a_t a_t_inside a_t_open a_p1 a_p1_graph a_p1_graph_arcs a_p1_home a_p1_bounds a_p1_sum a_p1_link a_p1_graph_weight t_nodes t_inside (upd t_open (x3).toNatClampNeg ((t_open (x3).toNatClampNeg) - 1)) p1_cut p1_over p1_graph_size p1_graph_arcs p1_home) H := hP
            have hD : va_D A (wd_Di_takeIn cI cZ a_t a_t_inside a_t_open a_p1 a_p1_graph a_p1_graph_arcs a_p1_home a_p1_bounds a_p1_sum a_p1_link a_p1_graph_weight t_nodes t_inside (upd t_open (x3).toNatClampNeg ((t_open (x3).toNatClampNeg) - 1)) p1_cut p1_over p1_graph_size p1_graph_arcs p1_home) := hD
            refine lv_iinc (v := x3 + 1) (lv' := [(3, .int (x3 + 1)), (0, .ref a_t), (1, .ref a_p1), (2, .int x2)]) hx hb dd_Di_takeIn_52 hl (k := 3) rfl rfl (by decide) rfl (fun ls hl => ?_)
            refine lv_goto (tgt := 16) hx hb dd_Di_takeIn_55 (by decide) ?_
            exact ih16 (x3 + 1) t_inside (upd t_open (x3).toNatClampNeg ((t_open (x3).toNatClampNeg) - 1)) _ _ _ hf (lv_sub hl [1, 2, 3, 0] rfl) hP hD hS
  refine lv_aload_n hx hb dd_Di_takeIn_0 rfl (lv_at hl 0 rfl) ?_
  refine va_get (D := (dC, dI)) (ci := 6) (v := .ref a_t_inside) (C := rr_Di) (T := tt_Di) (N := 3) hx hb hts (fun w h => gwc (inn_Di w h)) hown hK hP 0 rfl rfl 0 (by decide) (hts _ (gwc gw_273)) (fun _ h9 => h9) rfl dd_Di_takeIn_1 ?_
  refine lv_iload_n hx hb dd_Di_takeIn_4 rfl (lv_at hl 2 rfl) ?_
  refine lv_iconst (v := 1) hx hb dd_Di_takeIn_5 (by decide) ?_
  obtain ⟨k6, hf⟩ := ck_some hf
  refine va_zast hx hb hK hP hD hS 1 1 rfl rfl (okb_in k6) dd_Di_takeIn_6 (fun H locs hP hD hS => ?_)
  have hP : va_P (dC, dI) clsL (wd_Di_takeIn cI cZ a_t a_t_inside a_t_open a_p1 a_p1_graph a_p1_graph_arcs a_p1_home a_p1_bounds a_p1_sum a_p1_link a_p1_graph_weight t_nodes (upd t_inside (x2).toNatClampNeg (vp_nar .boolean 1)) t_open p1_cut p1_over p1_graph_size p1_graph_arcs p1_home) H := hP
  have hD : va_D A (wd_Di_takeIn cI cZ a_t a_t_inside a_t_open a_p1 a_p1_graph a_p1_graph_arcs a_p1_home a_p1_bounds a_p1_sum a_p1_link a_p1_graph_weight t_nodes (upd t_inside (x2).toNatClampNeg (vp_nar .boolean 1)) t_open p1_cut p1_over p1_graph_size p1_graph_arcs p1_home) := hD
  refine lv_aload_n hx hb dd_Di_takeIn_7 rfl (lv_at hl 0 rfl) ?_
  refine va_get (D := (dC, dI)) (ci := 6) (v := .ref a_t_open) (C := rr_Di) (T := tt_Di) (N := 3) hx hb hts (fun w h => gwc (inn_Di w h)) hown hK hP 0 rfl rfl 1 (by decide) (hts _ (gwc gw_274)) (fun _ h9 => h9) rfl dd_Di_takeIn_8 ?_
  refine lv_iload_n hx hb dd_Di_takeIn_11 rfl (lv_at hl 2 rfl) ?_
  refine lv_iconst (v := 0) hx hb dd_Di_takeIn_12 (by decide) ?_
  obtain ⟨k13, hf⟩ := ck_some hf
  refine va_iast hx hb hK hP hD hS 2 0 rfl rfl (okb_in k13) dd_Di_takeIn_13 (fun H locs hP hD hS => ?_)
  have hP : va_P (dC, dI) clsL (wd_Di_takeIn cI cZ a_t a_t_inside a_t_open a_p1 a_p1_graph a_p1_graph_arcs a_p1_home a_p1_bounds a_p1_sum a_p1_link a_p1_graph_weight t_nodes (upd t_inside (x2).toNatClampNeg (vp_nar .boolean 1)) (upd t_open (x2).toNatClampNeg 0) p1_cut p1_over p1_graph_size p1_graph_arcs p1_home) H := hP
  have hD : va_D A (wd_Di_takeIn cI cZ a_t a_t_inside a_t_open a_p1 a_p1_graph a_p1_graph_arcs a_p1_home a_p1_bounds a_p1_sum a_p1_link a_p1_graph_weight t_nodes (upd t_inside (x2).toNatClampNeg (vp_nar .boolean 1)) (upd t_open (x2).toNatClampNeg 0) p1_cut p1_over p1_graph_size p1_graph_arcs p1_home) := hD
  refine lv_iconst (v := 0) hx hb dd_Di_takeIn_14 (by decide) ?_
  refine lv_istore_n (lv' := [(3, .int 0), (0, .ref a_t), (1, .ref a_p1), (2, .int x2)]) hx hb dd_Di_takeIn_15 rfl hl (by decide) rfl (fun ls hl => ?_)
  exact h16 64 0 (upd t_inside (x2).toNatClampNeg (vp_nar .boolean 1)) (upd t_open (x2).toNatClampNeg 0) _ _ _ hf (lv_sub hl [1, 2, 3, 0] rfl) hP hD hS
abbrev wd_Di_isNeeded (cI cZ : ClassId) (a_t a_t_inside a_p1 a_p1_graph a_p1_graph_arcs a_p1_home a_t_open a_p1_bounds a_p1_sum a_p1_link a_p1_graph_weight : Nat) (t_nodes : Int32) (t_inside : Nat → Int32) (p1_cut : Int32) (p1_over : Int32) (p1_graph_size : Int32) (p1_graph_arcs : Nat → Int32) (p1_home : Nat → Int32) : va_W := [(a_t, .inr (6, [.ref a_t_inside, .ref a_t_open, .int t_nodes])), (a_t_inside, .inl (cZ, 40, .inl t_inside)), (a_p1, .inr (7, [.ref a_p1_graph, .ref a_p1_bounds, .ref a_p1_home, .ref a_p1_sum, .ref a_p1_link, .int p1_cut, .int p1_over])), (a_p1_graph, .inr (1, [.int p1_graph_size, .ref a_p1_graph_weight, .ref a_p1_graph_arcs])), (a_p1_graph_arcs, .inl (cI, 1600, .inl p1_graph_arcs)), (a_p1_home, .inl (cI, 40, .inl p1_home))]
set_option maxRecDepth 100000 in
set_option maxHeartbeats 4000000 in
theorem c_Di_isNeeded (l : Launch) (dC : Nat → ClassId) (dI : Nat → Nat → Nat) (cI cZ : ClassId) (a_t a_t_inside a_p1 a_p1_graph a_p1_graph_arcs a_p1_home a_t_open a_p1_bounds a_p1_sum a_p1_link a_p1_graph_weight sz : Nat) (x2 : Int32) (t_nodes : Int32) (t_inside : Nat → Int32) (p1_cut : Int32) (p1_over : Int32) (p1_graph_size : Int32) (p1_graph_arcs : Nat → Int32) (p1_home : Nat → Int32) (out : Int32) (hf : f_Di_isNeeded x2 t_nodes t_inside p1_graph_arcs p1_home = some out) :
    Met l yy_Di_isNeeded wq_Di_isNeeded ({ frames := 2, cells := 0, slots := 0, locals := 44 }) (va_Pc ([.ref a_t, .ref a_p1, .int x2] : List Value) (pre_ (dC, dI) cI cZ sz (wd_Di_isNeeded cI cZ a_t a_t_inside a_p1 a_p1_graph a_p1_graph_arcs a_p1_home a_t_open a_p1_bounds a_p1_sum a_p1_link a_p1_graph_weight t_nodes t_inside p1_cut p1_over p1_graph_size p1_graph_arcs p1_home))) (va_Qi (fun (r : Int32) (_ : Unit) => r = out) (fun _ => pst (dC, dI) (va_A (wd_Di_isNeeded cI cZ a_t a_t_inside a_p1 a_p1_graph a_p1_graph_arcs a_p1_home a_t_open a_p1_bounds a_p1_sum a_p1_link a_p1_graph_weight t_nodes t_inside p1_cut p1_over p1_graph_size p1_graph_arcs p1_home) sz) (wd_Di_isNeeded cI cZ a_t a_t_inside a_p1 a_p1_graph a_p1_graph_arcs a_p1_home a_t_open a_p1_bounds a_p1_sum a_p1_link a_p1_graph_weight t_nodes t_inside p1_cut p1_over p1_graph_size p1_graph_arcs p1_home)) (va_A (wd_Di_isNeeded cI cZ a_t a_t_inside a_p1 a_p1_graph a_p1_graph_arcs a_p1_home a_t_open a_p1_bounds a_p1_sum a_p1_link a_p1_graph_weight t_nodes t_inside p1_cut p1_over p1_graph_size p1_graph_arcs p1_home) sz)) 0 0 (va_A (wd_Di_isNeeded cI cZ a_t a_t_inside a_p1 a_p1_graph a_p1_graph_arcs a_p1_home a_t_open a_p1_bounds a_p1_sum a_p1_link a_p1_graph_weight t_nodes t_inside p1_cut p1_over p1_graph_size p1_graph_arcs p1_home) sz) := by
  refine Met.ofW (cc := cc_Di_isNeeded) (maxL := 4) (ret := (some .boolean)) (by decide) rfl ?_
  intro p e s m args below meth c s₁ B hml hv
  obtain ⟨rfl, hsz, hP, hK, hD0, hN⟩ := hv
  have hx := B.exec
  have hb := B.bytes
  have hr := B.returns
  have hts := atoms_spec (ws := wq_Di_isNeeded) B.pre
  have hown : s.vm.findClass rr_Di = some m.cls := findClass_of_methodNamed B.named
  have hlocks := B.notSynchronized
  subst hsz
  have hD := hD0.self (sz := s.heap.size)
  generalize hAe : va_A (wd_Di_isNeeded cI cZ a_t a_t_inside a_p1 a_p1_graph a_p1_graph_arcs a_p1_home a_t_open a_p1_bounds a_p1_sum a_p1_link a_p1_graph_weight t_nodes t_inside p1_cut p1_over p1_graph_size p1_graph_arcs p1_home) s.heap.size = A at hD ⊢
  have hA : ∀ q : Nat, s.heap.size ≤ q → A q := fun q h => by rw [← hAe]; exact Or.inr h
  obtain ⟨H, hH⟩ : ∃ H : Heap, H = s.heap := ⟨_, rfl⟩
  have hS : va_S A s.heap H [] := by rw [hH]; exact va_S.rf
  have hl := lv_entry (([.ref a_t, .ref a_p1, .int x2] : List Value)) (n := 4) (Nat.le_of_ble_eq_true rfl)
  rw [lg_entry_eq]
  generalize (lg_sl (([.ref a_t, .ref a_p1, .int x2] : List Value)) ++ List.replicate (4 - (lg_sl (([.ref a_t, .ref a_p1, .int x2] : List Value))).length) Slot.unset).toArray = ls at hl ⊢
  have hl : lv_has ls 4 [(0, .ref a_t), (1, .ref a_p1), (2, .int x2)] := hl
  rw [← hH] at hP ⊢
  have hP : va_P (dC, dI) clsL (wd_Di_isNeeded cI cZ a_t a_t_inside a_p1 a_p1_graph a_p1_graph_arcs a_p1_home a_t_open a_p1_bounds a_p1_sum a_p1_link a_p1_graph_weight t_nodes t_inside p1_cut p1_over p1_graph_size p1_graph_arcs p1_home) H := hP
  unfold f_Di_isNeeded at hf
  have h2 : ∀ (n2 : Nat) (x3 : Int32) (ls : Array Slot) (H : Heap) (locs : List Loc), L_Di_isNeeded_2 x2 t_nodes t_inside p1_graph_arcs p1_home n2 x3 = some out → lv_has ls 4 [(0, .ref a_t), (1, .ref a_p1), (2, .int x2), (3, .int x3)] → va_P (dC, dI) clsL (wd_Di_isNeeded cI cZ a_t a_t_inside a_p1 a_p1_graph a_p1_graph_arcs a_p1_home a_t_open a_p1_bounds a_p1_sum a_p1_link a_p1_graph_weight t_nodes t_inside p1_cut p1_over p1_graph_size p1_graph_arcs p1_home) H → va_D A (wd_Di_isNeeded cI cZ a_t a_t_inside a_p1 a_p1_graph a_p1_graph_arcs a_p1_home a_t_open a_p1_bounds a_p1_sum a_p1_link a_p1_graph_weight t_nodes t_inside p1_cut p1_over p1_graph_size p1_graph_arcs p1_home) → va_S A s.heap H locs → W p l e (headSpec wq_Di_isNeeded ({ frames := 2, cells := 0, slots := 0, locals := 44 })).room s m ([.ref a_t, .ref a_p1, .int x2] : List Value).toArray below meth c H locs 0 0 (MQ below (va_Qi (fun (r : Int32) (_ : Unit) => r = out) (fun _ => pst (dC, dI) A (wd_Di_isNeeded cI cZ a_t a_t_inside a_p1 a_p1_graph a_p1_graph_arcs a_p1_home a_t_open a_p1_bounds a_p1_sum a_p1_link a_p1_graph_weight t_nodes t_inside p1_cut p1_over p1_graph_size p1_graph_arcs p1_home)) A) ([.ref a_t, .ref a_p1, .int x2] : List Value).toArray s 0 0 A) (F0 m 2 ls []) := by
    intro n2
    induction n2 with
    | zero =>
      intro x3 ls H locs hf
      rw [L_Di_isNeeded_2] at hf
      exact absurd hf (fun h => by cases h)
    | succ n2 ih2 =>
      intro x3 ls H locs hf hl hP hD hS
      rw [L_Di_isNeeded_2] at hf
      refine lv_iload_n hx hb dd_Di_isNeeded_2 rfl (lv_at hl 3 rfl) ?_
      refine lv_aload_n hx hb dd_Di_isNeeded_3 rfl (lv_at hl 0 rfl) ?_
      refine va_get (D := (dC, dI)) (ci := 6) (v := .int t_nodes) (C := rr_Di) (T := tt_Di) (N := 3) hx hb hts (fun w h => gwc (inn_Di w h)) hown hK hP 0 rfl rfl 2 (by decide) (hts _ (gwc gw_275)) (fun _ h9 => h9) rfl dd_Di_isNeeded_4 ?_
      refine lv_icmp_ge (tgt := 36) hx hb dd_Di_isNeeded_7 (by decide) (fun cc => ?_) (fun cc => ?_)
      · skip
        have hf := if_t cc hf
        refine lv_iconst (v := 0) hx hb dd_Di_isNeeded_36 (by decide) ?_
        cases hf
        exact W.zret hx hb hr narrow_b0 (fun t ht hW => ⟨⟨_, (), rfl, rfl, pst_of ht hP hD⟩, hS.F ht⟩) hS.2.2 dd_Di_isNeeded_37
      · skip
        have hf := if_f cc hf
        refine lv_aload_n hx hb dd_Di_isNeeded_10 rfl (lv_at hl 0 rfl) ?_
        refine va_get (D := (dC, dI)) (ci := 6) (v := .ref a_t_inside) (C := rr_Di) (T := tt_Di) (N := 3) hx hb hts (fun w h => gwc (inn_Di w h)) hown hK hP 0 rfl rfl 0 (by decide) (hts _ (gwc gw_273)) (fun _ h9 => h9) rfl dd_Di_isNeeded_11 ?_
        refine lv_iload_n hx hb dd_Di_isNeeded_14 rfl (lv_at hl 3 rfl) ?_
        obtain ⟨k15, hf⟩ := ck_some hf
        refine va_zald hx hb hK hP 1 1 rfl rfl (okb_in k15) dd_Di_isNeeded_15 ?_
        refine lv_if_ne (tgt := 30) hx hb dd_Di_isNeeded_16 (by decide) (fun cc => ?_) (fun cc => ?_)
        · skip
          have hf := if_f cc hf
          refine lv_iinc (v := x3 + 1) (lv' := [(3, .int (x3 + 1)), (0, .ref a_t), (1, .ref a_p1), (2, .int x2)]) hx hb dd_Di_isNeeded_30 hl (k := 3) rfl rfl (by decide) rfl (fun ls hl => ?_)
          refine lv_goto (tgt := 2) hx hb dd_Di_isNeeded_33 (by decide) ?_
          exact ih2 (x3 + 1) _ _ _ hf (lv_sub hl [1, 2, 3, 0] rfl) hP hD hS
        · skip
          have hf := if_t cc hf
          refine lv_aload_n hx hb dd_Di_isNeeded_19 rfl (lv_at hl 1 rfl) ?_
          refine lv_iload_n hx hb dd_Di_isNeeded_20 rfl (lv_at hl 2 rfl) ?_
          refine lv_iload_n hx hb dd_Di_isNeeded_21 rfl (lv_at hl 3 rfl) ?_
          obtain ⟨r22, hr22, hf⟩ := bind_some hf
          refine xcalli (rest := []) (wc := (wd_Di_isCut cI cZ a_p1 a_p1_graph a_p1_graph_arcs a_p1_home a_p1_bounds a_p1_sum a_p1_link a_p1_graph_weight p1_cut p1_over p1_graph_size p1_graph_arcs p1_home)) (w1 := (wd_Di_isCut cI cZ a_p1 a_p1_graph a_p1_graph_arcs a_p1_home a_p1_bounds a_p1_sum a_p1_link a_p1_graph_weight p1_cut p1_over p1_graph_size p1_graph_arcs p1_home)) (wr := [(a_t, .inr (6, [.ref a_t_inside, .ref a_t_open, .int t_nodes])), (a_t_inside, .inl (cZ, 40, .inl t_inside))]) (ws' := (wd_Di_isNeeded cI cZ a_t a_t_inside a_p1 a_p1_graph a_p1_graph_arcs a_p1_home a_t_open a_p1_bounds a_p1_sum a_p1_link a_p1_graph_weight t_nodes t_inside p1_cut p1_over p1_graph_size p1_graph_arcs p1_home)) (va_runS (As := [.ref a_p1, .int x2, .int x3]) ⟨hx, hb, hml, hown, hts⟩ (c_Di_isCut l dC dI cI cZ a_p1 a_p1_graph a_p1_graph_arcs a_p1_home a_p1_bounds a_p1_sum a_p1_link a_p1_graph_weight H.size x2 x3 p1_cut p1_over p1_graph_size p1_graph_arcs p1_home r22 hr22) (va_cwS 3 hts (gS gw_649 gw_650 gw_60 gw_651) rfl rfl rfl (yd_Di_isCut).2 ⟨Nat.le_of_ble_eq_true rfl, Nat.le_of_ble_eq_true rfl⟩) (mkS hK (hP.sub (ws' := (wd_Di_isCut cI cZ a_p1 a_p1_graph a_p1_graph_arcs a_p1_home a_p1_bounds a_p1_sum a_p1_link a_p1_graph_weight p1_cut p1_over p1_graph_size p1_graph_arcs p1_home)) [2, 3, 4, 5] rfl) (hD.sub (ws' := (wd_Di_isCut cI cZ a_p1 a_p1_graph a_p1_graph_arcs a_p1_home a_p1_bounds a_p1_sum a_p1_link a_p1_graph_weight p1_cut p1_over p1_graph_size p1_graph_arcs p1_home)) [2, 3, 4, 5] (by decide) rfl) hN) rfl rfl hl.1 rfl (lv_room (Nat.le_of_ble_eq_true rfl)) dd_Di_isNeeded_22 ⟨Nat.zero_le _, Nat.zero_le _⟩) hP hD hS hA [2, 3, 4, 5] [0, 1] [0, 1, 2, 3, 4, 5] rfl rfl (by decide) (by decide) rfl (by decide) rfl (fun H locs hP hD hS => ?_)
          refine lv_if_eq (tgt := 30) hx hb dd_Di_isNeeded_25 (by decide) (fun cc => ?_) (fun cc => ?_)
          · skip
            have hf := if_t cc hf
            refine lv_iinc (v := x3 + 1) (lv' := [(3, .int (x3 + 1)), (0, .ref a_t), (1, .ref a_p1), (2, .int x2)]) hx hb dd_Di_isNeeded_30 hl (k := 3) rfl rfl (by decide) rfl (fun ls hl => ?_)
            refine lv_goto (tgt := 2) hx hb dd_Di_isNeeded_33 (by decide) ?_
            exact ih2 (x3 + 1) _ _ _ hf (lv_sub hl [1, 2, 3, 0] rfl) hP hD hS
          · skip
            have hf := if_f cc hf
            refine lv_iconst (v := 1) hx hb dd_Di_isNeeded_28 (by decide) ?_
            cases hf
            exact W.zret hx hb hr narrow_b1 (fun t ht hW => ⟨⟨_, (), rfl, rfl, pst_of ht hP hD⟩, hS.F ht⟩) hS.2.2 dd_Di_isNeeded_29
  refine lv_iconst (v := 0) hx hb dd_Di_isNeeded_0 (by decide) ?_
  refine lv_istore_n (lv' := [(3, .int 0), (0, .ref a_t), (1, .ref a_p1), (2, .int x2)]) hx hb dd_Di_isNeeded_1 rfl hl (by decide) rfl (fun ls hl => ?_)
  exact h2 64 0 _ _ _ hf (lv_sub hl [1, 2, 3, 0] rfl) hP hD hS
abbrev wd_Di_find (cI cZ : ClassId) (a_t a_t_inside a_t_open a_p1 a_p1_graph a_p1_graph_arcs a_p1_graph_weight a_p1_home a_p1_bounds a_p1_sum a_p1_link : Nat) (t_nodes : Int32) (t_inside : Nat → Int32) (t_open : Nat → Int32) (p1_cut : Int32) (p1_over : Int32) (p1_graph_size : Int32) (p1_graph_arcs : Nat → Int32) (p1_graph_weight : Nat → Int32) (p1_home : Nat → Int32) : va_W := [(a_t, .inr (6, [.ref a_t_inside, .ref a_t_open, .int t_nodes])), (a_t_inside, .inl (cZ, 40, .inl t_inside)), (a_t_open, .inl (cI, 40, .inl t_open)), (a_p1, .inr (7, [.ref a_p1_graph, .ref a_p1_bounds, .ref a_p1_home, .ref a_p1_sum, .ref a_p1_link, .int p1_cut, .int p1_over])), (a_p1_graph, .inr (1, [.int p1_graph_size, .ref a_p1_graph_weight, .ref a_p1_graph_arcs])), (a_p1_graph_arcs, .inl (cI, 1600, .inl p1_graph_arcs)), (a_p1_graph_weight, .inl (cI, 40, .inl p1_graph_weight)), (a_p1_home, .inl (cI, 40, .inl p1_home))]
set_option maxRecDepth 100000 in
set_option maxHeartbeats 4000000 in
theorem c_Di_find (l : Launch) (dC : Nat → ClassId) (dI : Nat → Nat → Nat) (cI cZ : ClassId) (a_t a_t_inside a_t_open a_p1 a_p1_graph a_p1_graph_arcs a_p1_graph_weight a_p1_home a_p1_bounds a_p1_sum a_p1_link sz : Nat) (t_nodes : Int32) (t_inside : Nat → Int32) (t_open : Nat → Int32) (p1_cut : Int32) (p1_over : Int32) (p1_graph_size : Int32) (p1_graph_arcs : Nat → Int32) (p1_graph_weight : Nat → Int32) (p1_home : Nat → Int32) (out : Int32 × (Nat → Int32) × (Nat → Int32)) (hf : f_Di_find t_inside t_open p1_graph_size p1_graph_arcs p1_graph_weight p1_home = some out) :
    Met l yy_Di_find wq_Di_find ({ frames := 3, cells := 0, slots := 0, locals := 67 }) (va_Pc ([.ref a_t, .ref a_p1] : List Value) (pre_ (dC, dI) cI cZ sz (wd_Di_find cI cZ a_t a_t_inside a_t_open a_p1 a_p1_graph a_p1_graph_arcs a_p1_graph_weight a_p1_home a_p1_bounds a_p1_sum a_p1_link t_nodes t_inside t_open p1_cut p1_over p1_graph_size p1_graph_arcs p1_graph_weight p1_home))) (va_Qv (fun _ : Unit => True) (fun _ => pst (dC, dI) (va_A (wd_Di_find cI cZ a_t a_t_inside a_t_open a_p1 a_p1_graph a_p1_graph_arcs a_p1_graph_weight a_p1_home a_p1_bounds a_p1_sum a_p1_link t_nodes t_inside t_open p1_cut p1_over p1_graph_size p1_graph_arcs p1_graph_weight p1_home) sz) (wd_Di_find cI cZ a_t a_t_inside a_t_open a_p1 a_p1_graph a_p1_graph_arcs a_p1_graph_weight a_p1_home a_p1_bounds a_p1_sum a_p1_link out.1 out.2.1 out.2.2 p1_cut p1_over p1_graph_size p1_graph_arcs p1_graph_weight p1_home)) (va_A (wd_Di_find cI cZ a_t a_t_inside a_t_open a_p1 a_p1_graph a_p1_graph_arcs a_p1_graph_weight a_p1_home a_p1_bounds a_p1_sum a_p1_link t_nodes t_inside t_open p1_cut p1_over p1_graph_size p1_graph_arcs p1_graph_weight p1_home) sz)) 0 0 (va_A (wd_Di_find cI cZ a_t a_t_inside a_t_open a_p1 a_p1_graph a_p1_graph_arcs a_p1_graph_weight a_p1_home a_p1_bounds a_p1_sum a_p1_link t_nodes t_inside t_open p1_cut p1_over p1_graph_size p1_graph_arcs p1_graph_weight p1_home) sz) := by
  refine Met.ofW (cc := cc_Di_find) (maxL := 4) (ret := none) (by decide) rfl ?_
  intro p e s m args below meth c s₁ B hml hv
  obtain ⟨rfl, hsz, hP, hK, hD0, hN⟩ := hv
  have hx := B.exec
  have hb := B.bytes
  have hr := B.returns
  have hts := atoms_spec (ws := wq_Di_find) B.pre
  have hown : s.vm.findClass rr_Di = some m.cls := findClass_of_methodNamed B.named
  have hlocks := B.notSynchronized
  subst hsz
  have hD := hD0.self (sz := s.heap.size)
  generalize hAe : va_A (wd_Di_find cI cZ a_t a_t_inside a_t_open a_p1 a_p1_graph a_p1_graph_arcs a_p1_graph_weight a_p1_home a_p1_bounds a_p1_sum a_p1_link t_nodes t_inside t_open p1_cut p1_over p1_graph_size p1_graph_arcs p1_graph_weight p1_home) s.heap.size = A at hD ⊢
  have hA : ∀ q : Nat, s.heap.size ≤ q → A q := fun q h => by rw [← hAe]; exact Or.inr h
  obtain ⟨H, hH⟩ : ∃ H : Heap, H = s.heap := ⟨_, rfl⟩
  have hS : va_S A s.heap H [] := by rw [hH]; exact va_S.rf
  have hl := lv_entry (([.ref a_t, .ref a_p1] : List Value)) (n := 4) (Nat.le_of_ble_eq_true rfl)
  rw [lg_entry_eq]
  generalize (lg_sl (([.ref a_t, .ref a_p1] : List Value)) ++ List.replicate (4 - (lg_sl (([.ref a_t, .ref a_p1] : List Value))).length) Slot.unset).toArray = ls at hl ⊢
  have hl : lv_has ls 4 [(0, .ref a_t), (1, .ref a_p1)] := hl
  rw [← hH] at hP ⊢
  have hP : va_P (dC, dI) clsL (wd_Di_find cI cZ a_t a_t_inside a_t_open a_p1 a_p1_graph a_p1_graph_arcs a_p1_graph_weight a_p1_home a_p1_bounds a_p1_sum a_p1_link t_nodes t_inside t_open p1_cut p1_over p1_graph_size p1_graph_arcs p1_graph_weight p1_home) H := hP
  unfold f_Di_find at hf
  have h18 : ∀ (n18 : Nat) (x2 : Int32) (t_nodes : Int32) (t_inside : Nat → Int32) (t_open : Nat → Int32) (ls : Array Slot) (H : Heap) (locs : List Loc), L_Di_find_18 p1_graph_arcs p1_graph_weight p1_home n18 x2 t_nodes t_inside t_open = some out → lv_has ls 4 [(0, .ref a_t), (1, .ref a_p1), (2, .int x2)] → va_P (dC, dI) clsL (wd_Di_find cI cZ a_t a_t_inside a_t_open a_p1 a_p1_graph a_p1_graph_arcs a_p1_graph_weight a_p1_home a_p1_bounds a_p1_sum a_p1_link t_nodes t_inside t_open p1_cut p1_over p1_graph_size p1_graph_arcs p1_graph_weight p1_home) H → va_D A (wd_Di_find cI cZ a_t a_t_inside a_t_open a_p1 a_p1_graph a_p1_graph_arcs a_p1_graph_weight a_p1_home a_p1_bounds a_p1_sum a_p1_link t_nodes t_inside t_open p1_cut p1_over p1_graph_size p1_graph_arcs p1_graph_weight p1_home) → va_S A s.heap H locs → W p l e (headSpec wq_Di_find ({ frames := 3, cells := 0, slots := 0, locals := 67 })).room s m ([.ref a_t, .ref a_p1] : List Value).toArray below meth c H locs 0 0 (MQ below (va_Qv (fun _ : Unit => True) (fun _ => pst (dC, dI) A (wd_Di_find cI cZ a_t a_t_inside a_t_open a_p1 a_p1_graph a_p1_graph_arcs a_p1_graph_weight a_p1_home a_p1_bounds a_p1_sum a_p1_link out.1 out.2.1 out.2.2 p1_cut p1_over p1_graph_size p1_graph_arcs p1_graph_weight p1_home)) A) ([.ref a_t, .ref a_p1] : List Value).toArray s 0 0 A) (F0 m 18 ls []) := by
    intro n18
    induction n18 with
    | zero =>
      intro x2 t_nodes t_inside t_open ls H locs hf
      rw [L_Di_find_18] at hf
      exact absurd hf (fun h => by cases h)
    | succ n18 ih18 =>
      intro x2 t_nodes t_inside t_open ls H locs hf hl hP hD hS
      rw [L_Di_find_18] at hf
      have h63 : ∀ (n63 : Nat) (x2 : Int32) (t_nodes : Int32) (t_inside : Nat → Int32) (t_open : Nat → Int32) (ls : Array Slot) (H : Heap) (locs : List Loc), L_Di_find_63 p1_graph_arcs p1_home n63 x2 t_nodes t_inside t_open = some out → lv_has ls 4 [(0, .ref a_t), (1, .ref a_p1), (2, .int x2)] → va_P (dC, dI) clsL (wd_Di_find cI cZ a_t a_t_inside a_t_open a_p1 a_p1_graph a_p1_graph_arcs a_p1_graph_weight a_p1_home a_p1_bounds a_p1_sum a_p1_link t_nodes t_inside t_open p1_cut p1_over p1_graph_size p1_graph_arcs p1_graph_weight p1_home) H → va_D A (wd_Di_find cI cZ a_t a_t_inside a_t_open a_p1 a_p1_graph a_p1_graph_arcs a_p1_graph_weight a_p1_home a_p1_bounds a_p1_sum a_p1_link t_nodes t_inside t_open p1_cut p1_over p1_graph_size p1_graph_arcs p1_graph_weight p1_home) → va_S A s.heap H locs → W p l e (headSpec wq_Di_find ({ frames := 3, cells := 0, slots := 0, locals := 67 })).room s m ([.ref a_t, .ref a_p1] : List Value).toArray below meth c H locs 0 0 (MQ below (va_Qv (fun _ : Unit => True) (fun _ => pst (dC, dI) A (wd_Di_find cI cZ a_t a_t_inside a_t_open a_p1 a_p1_graph a_p1_graph_arcs a_p1_graph_weight a_p1_home a_p1_bounds a_p1_sum a_p1_link out.1 out.2.1 out.2.2 p1_cut p1_over p1_graph_size p1_graph_arcs p1_graph_weight p1_home)) A) ([.ref a_t, .ref a_p1] : List Value).toArray s 0 0 A) (F0 m 63 ls []) := by
        intro n63
        induction n63 with
        | zero =>
          intro x2 t_nodes t_inside t_open ls H locs hf
          rw [L_Di_find_63] at hf
          exact absurd hf (fun h => by cases h)
        | succ n63 ih63 =>
          intro x2 t_nodes t_inside t_open ls H locs hf hl hP hD hS
          rw [L_Di_find_63] at hf
          refine lv_iload_n hx hb dd_Di_find_63 rfl (lv_at hl 2 rfl) ?_
          refine lv_if_lt (tgt := 102) hx hb dd_Di_find_64 (by decide) (fun cc => ?_) (fun cc => ?_)
          · skip
            have hf := if_t cc hf
            cases hf
            exact W.vret hx hb hr (fun t ht hW => ⟨⟨(), rfl, trivial, pst_of ht hP hD⟩, hS.F ht⟩) hS.2.2 dd_Di_find_102
          · skip
            have hf := if_f cc hf
            refine lv_aload_n hx hb dd_Di_find_67 rfl (lv_at hl 0 rfl) ?_
            refine va_get (D := (dC, dI)) (ci := 6) (v := .ref a_t_inside) (C := rr_Di) (T := tt_Di) (N := 3) hx hb hts (fun w h => gwc (inn_Di w h)) hown hK hP 0 rfl rfl 0 (by decide) (hts _ (gwc gw_273)) (fun _ h9 => h9) rfl dd_Di_find_68 ?_
            refine lv_iload_n hx hb dd_Di_find_71 rfl (lv_at hl 2 rfl) ?_
            refine lv_aload_n hx hb dd_Di_find_72 rfl (lv_at hl 0 rfl) ?_
            refine va_get (D := (dC, dI)) (ci := 6) (v := .ref a_t_inside) (C := rr_Di) (T := tt_Di) (N := 3) hx hb hts (fun w h => gwc (inn_Di w h)) hown hK hP 0 rfl rfl 0 (by decide) (hts _ (gwc gw_273)) (fun _ h9 => h9) rfl dd_Di_find_73 ?_
            refine lv_iload_n hx hb dd_Di_find_76 rfl (lv_at hl 2 rfl) ?_
            obtain ⟨k77, hf⟩ := ck_some hf
            refine va_zald hx hb hK hP 1 1 rfl rfl (okb_in k77) dd_Di_find_77 ?_
            refine lv_if_eq (tgt := 94) hx hb dd_Di_find_78 (by decide) (fun cc => ?_) (fun cc => ?_)
            · skip
              have hf := if_t cc hf
              refine lv_iconst (v := 0) hx hb dd_Di_find_94 (by decide) ?_
              obtain ⟨k95, hf⟩ := ck_some hf
              refine va_zast hx hb hK hP hD hS 1 1 rfl rfl (okb_in k95) dd_Di_find_95 (fun H locs hP hD hS => ?_)
              have hP : va_P (dC, dI) clsL (wd_Di_find cI cZ a_t a_t_inside a_t_open a_p1 a_p1_graph a_p1_graph_arcs a_p1_graph_weight a_p1_home a_p1_bounds a_p1_sum a_p1_link t_nodes (upd t_inside (x2).toNatClampNeg (vp_nar .boolean 0)) t_open p1_cut p1_over p1_graph_size p1_graph_arcs p1_graph_weight p1_home) H := hP
              have hD : va_D A (wd_Di_find cI cZ a_t a_t_inside a_t_open a_p1 a_p1_graph a_p1_graph_arcs a_p1_graph_weight a_p1_home a_p1_bounds a_p1_sum a_p1_link t_nodes (upd t_inside (x2).toNatClampNeg (vp_nar .boolean 0)) t_open p1_cut p1_over p1_graph_size p1_graph_arcs p1_graph_weight p1_home) := hD
              refine lv_iinc (v := x2 + (-1)) (lv' := [(2, .int (x2 + (-1))), (0, .ref a_t), (1, .ref a_p1)]) hx hb dd_Di_find_96 hl (k := 2) rfl rfl (by decide) rfl (fun ls hl => ?_)
              refine lv_goto (tgt := 63) hx hb dd_Di_find_99 (by decide) ?_
              exact ih63 (x2 + (-1)) t_nodes (upd t_inside (x2).toNatClampNeg (vp_nar .boolean 0)) t_open _ _ _ hf (lv_sub hl [1, 2, 0] rfl) hP hD hS
            · skip
              have hf := if_f cc hf
              refine lv_aload_n hx hb dd_Di_find_81 rfl (lv_at hl 0 rfl) ?_
              refine lv_aload_n hx hb dd_Di_find_82 rfl (lv_at hl 1 rfl) ?_
              refine lv_iload_n hx hb dd_Di_find_83 rfl (lv_at hl 2 rfl) ?_
              obtain ⟨r84, hr84, hf⟩ := bind_some hf
              refine xcalli (rest := [.int x2, .ref a_t_inside]) (wc := (wd_Di_isNeeded cI cZ a_t a_t_inside a_p1 a_p1_graph a_p1_graph_arcs a_p1_home a_t_open a_p1_bounds a_p1_sum a_p1_link a_p1_graph_weight t_nodes t_inside p1_cut p1_over p1_graph_size p1_graph_arcs p1_home)) (w1 := (wd_Di_isNeeded cI cZ a_t a_t_inside a_p1 a_p1_graph a_p1_graph_arcs a_p1_home a_t_open a_p1_bounds a_p1_sum a_p1_link a_p1_graph_weight t_nodes t_inside p1_cut p1_over p1_graph_size p1_graph_arcs p1_home)) (wr := [(a_t_open, .inl (cI, 40, .inl t_open)), (a_p1_graph_weight, .inl (cI, 40, .inl p1_graph_weight))]) (ws' := (wd_Di_find cI cZ a_t a_t_inside a_t_open a_p1 a_p1_graph a_p1_graph_arcs a_p1_graph_weight a_p1_home a_p1_bounds a_p1_sum a_p1_link t_nodes t_inside t_open p1_cut p1_over p1_graph_size p1_graph_arcs p1_graph_weight p1_home)) (va_runV (As := [.ref a_p1, .int x2]) ⟨hx, hb, hml, hown, hts⟩ (c_Di_isNeeded l dC dI cI cZ a_t a_t_inside a_p1 a_p1_graph a_p1_graph_arcs a_p1_home a_t_open a_p1_bounds a_p1_sum a_p1_link a_p1_graph_weight H.size x2 t_nodes t_inside p1_cut p1_over p1_graph_size p1_graph_arcs p1_home r84 hr84) (cwV 2 hts (gV gw_661 gw_663 gw_28 gw_60 gw_664) rfl rfl rfl (yd_Di_isNeeded) ⟨Nat.le_of_ble_eq_true rfl, Nat.le_of_ble_eq_true rfl⟩) (mkV hK (hP.sub (ws' := (wd_Di_isNeeded cI cZ a_t a_t_inside a_p1 a_p1_graph a_p1_graph_arcs a_p1_home a_t_open a_p1_bounds a_p1_sum a_p1_link a_p1_graph_weight t_nodes t_inside p1_cut p1_over p1_graph_size p1_graph_arcs p1_home)) [0, 1, 3, 4, 5, 7] rfl) (hD.sub (ws' := (wd_Di_isNeeded cI cZ a_t a_t_inside a_p1 a_p1_graph a_p1_graph_arcs a_p1_home a_t_open a_p1_bounds a_p1_sum a_p1_link a_p1_graph_weight t_nodes t_inside p1_cut p1_over p1_graph_size p1_graph_arcs p1_home)) [0, 1, 3, 4, 5, 7] (by decide) rfl) hN (va_recv hK hP (ci := 6) (q0 := 0) rfl rfl)) rfl rfl hl.1 rfl (lv_room (Nat.le_of_ble_eq_true rfl)) dd_Di_find_84 ⟨Nat.zero_le _, Nat.zero_le _⟩) hP hD hS hA [0, 1, 3, 4, 5, 7] [2, 6] [2, 3, 0, 4, 5, 6, 1, 7] rfl rfl (by decide) (by decide) rfl (by decide) rfl (fun H locs hP hD hS => ?_)
              refine lv_if_eq (tgt := 94) hx hb dd_Di_find_87 (by decide) (fun cc => ?_) (fun cc => ?_)
              · skip
                have hf := if_t cc hf
                refine lv_iconst (v := 0) hx hb dd_Di_find_94 (by decide) ?_
                obtain ⟨k95, hf⟩ := ck_some hf
                refine va_zast hx hb hK hP hD hS 1 1 rfl rfl (okb_in k95) dd_Di_find_95 (fun H locs hP hD hS => ?_)
                have hP : va_P (dC, dI) clsL (wd_Di_find cI cZ a_t a_t_inside a_t_open a_p1 a_p1_graph a_p1_graph_arcs a_p1_graph_weight a_p1_home a_p1_bounds a_p1_sum a_p1_link t_nodes (upd t_inside (x2).toNatClampNeg (vp_nar .boolean 0)) t_open p1_cut p1_over p1_graph_size p1_graph_arcs p1_graph_weight p1_home) H := hP
                have hD : va_D A (wd_Di_find cI cZ a_t a_t_inside a_t_open a_p1 a_p1_graph a_p1_graph_arcs a_p1_graph_weight a_p1_home a_p1_bounds a_p1_sum a_p1_link t_nodes (upd t_inside (x2).toNatClampNeg (vp_nar .boolean 0)) t_open p1_cut p1_over p1_graph_size p1_graph_arcs p1_graph_weight p1_home) := hD
                refine lv_iinc (v := x2 + (-1)) (lv' := [(2, .int (x2 + (-1))), (0, .ref a_t), (1, .ref a_p1)]) hx hb dd_Di_find_96 hl (k := 2) rfl rfl (by decide) rfl (fun ls hl => ?_)
                refine lv_goto (tgt := 63) hx hb dd_Di_find_99 (by decide) ?_
                exact ih63 (x2 + (-1)) t_nodes (upd t_inside (x2).toNatClampNeg (vp_nar .boolean 0)) t_open _ _ _ hf (lv_sub hl [1, 2, 0] rfl) hP hD hS
              · skip
                have hf := if_f cc hf
                refine lv_iconst (v := 1) hx hb dd_Di_find_90 (by decide) ?_
                refine lv_goto (tgt := 95) hx hb dd_Di_find_91 (by decide) ?_
                obtain ⟨k95, hf⟩ := ck_some hf
                refine va_zast hx hb hK hP hD hS 1 1 rfl rfl (okb_in k95) dd_Di_find_95 (fun H locs hP hD hS => ?_)
                have hP : va_P (dC, dI) clsL (wd_Di_find cI cZ a_t a_t_inside a_t_open a_p1 a_p1_graph a_p1_graph_arcs a_p1_graph_weight a_p1_home a_p1_bounds a_p1_sum a_p1_link t_nodes (upd t_inside (x2).toNatClampNeg (vp_nar .boolean 1)) t_open p1_cut p1_over p1_graph_size p1_graph_arcs p1_graph_weight p1_home) H := hP
                have hD : va_D A (wd_Di_find cI cZ a_t a_t_inside a_t_open a_p1 a_p1_graph a_p1_graph_arcs a_p1_graph_weight a_p1_home a_p1_bounds a_p1_sum a_p1_link t_nodes (upd t_inside (x2).toNatClampNeg (vp_nar .boolean 1)) t_open p1_cut p1_over p1_graph_size p1_graph_arcs p1_graph_weight p1_home) := hD
                refine lv_iinc (v := x2 + (-1)) (lv' := [(2, .int (x2 + (-1))), (0, .ref a_t), (1, .ref a_p1)]) hx hb dd_Di_find_96 hl (k := 2) rfl rfl (by decide) rfl (fun ls hl => ?_)
                refine lv_goto (tgt := 63) hx hb dd_Di_find_99 (by decide) ?_
                exact ih63 (x2 + (-1)) t_nodes (upd t_inside (x2).toNatClampNeg (vp_nar .boolean 1)) t_open _ _ _ hf (lv_sub hl [1, 2, 0] rfl) hP hD hS
      refine lv_iload_n hx hb dd_Di_find_18 rfl (lv_at hl 2 rfl) ?_
      refine lv_aload_n hx hb dd_Di_find_19 rfl (lv_at hl 0 rfl) ?_
      refine va_get (D := (dC, dI)) (ci := 6) (v := .int t_nodes) (C := rr_Di) (T := tt_Di) (N := 3) hx hb hts (fun w h => gwc (inn_Di w h)) hown hK hP 0 rfl rfl 2 (by decide) (hts _ (gwc gw_275)) (fun _ h9 => h9) rfl dd_Di_find_20 ?_
      refine lv_icmp_ge (tgt := 56) hx hb dd_Di_find_23 (by decide) (fun cc => ?_) (fun cc => ?_)
      · skip
        have hf := if_t cc hf
        refine lv_aload_n hx hb dd_Di_find_56 rfl (lv_at hl 0 rfl) ?_
        refine va_get (D := (dC, dI)) (ci := 6) (v := .int t_nodes) (C := rr_Di) (T := tt_Di) (N := 3) hx hb hts (fun w h => gwc (inn_Di w h)) hown hK hP 0 rfl rfl 2 (by decide) (hts _ (gwc gw_275)) (fun _ h9 => h9) rfl dd_Di_find_57 ?_
        refine lv_iconst (v := 1) hx hb dd_Di_find_60 (by decide) ?_
        refine lv_isub hx hb dd_Di_find_61 ?_
        refine lv_istore_n (lv' := [(2, .int (t_nodes - 1)), (0, .ref a_t), (1, .ref a_p1)]) hx hb dd_Di_find_62 rfl hl (by decide) rfl (fun ls hl => ?_)
        exact h63 64 (t_nodes - 1) t_nodes t_inside t_open _ _ _ hf (lv_sub hl [1, 2, 0] rfl) hP hD hS
      · skip
        have hf := if_f cc hf
        refine lv_aload_n hx hb dd_Di_find_26 rfl (lv_at hl 0 rfl) ?_
        refine lv_aload_n hx hb dd_Di_find_27 rfl (lv_at hl 1 rfl) ?_
        refine va_get (D := (dC, dI)) (ci := 7) (v := .ref a_p1_graph) (C := rr_Sp) (T := tt_Sp) (N := 7) hx hb hts (fun w h => gwc (inn_Sp w h)) hown hK hP 3 rfl rfl 0 (by decide) (hts _ (gwc gw_134)) (fun _ h9 => h9) rfl dd_Di_find_28 ?_
        obtain ⟨r31, hr31, hf⟩ := bind_some hf
        refine xcalli (rest := []) (wc := (wd_Di_busiest cI cZ a_t a_t_open a_p1_graph a_p1_graph_weight a_t_inside a_p1_graph_arcs t_nodes t_open p1_graph_size p1_graph_weight)) (w1 := (wd_Di_busiest cI cZ a_t a_t_open a_p1_graph a_p1_graph_weight a_t_inside a_p1_graph_arcs t_nodes t_open p1_graph_size p1_graph_weight)) (wr := [(a_t_inside, .inl (cZ, 40, .inl t_inside)), (a_p1, .inr (7, [.ref a_p1_graph, .ref a_p1_bounds, .ref a_p1_home, .ref a_p1_sum, .ref a_p1_link, .int p1_cut, .int p1_over])), (a_p1_graph_arcs, .inl (cI, 1600, .inl p1_graph_arcs)), (a_p1_home, .inl (cI, 40, .inl p1_home))]) (ws' := (wd_Di_find cI cZ a_t a_t_inside a_t_open a_p1 a_p1_graph a_p1_graph_arcs a_p1_graph_weight a_p1_home a_p1_bounds a_p1_sum a_p1_link t_nodes t_inside t_open p1_cut p1_over p1_graph_size p1_graph_arcs p1_graph_weight p1_home)) (va_runV (As := [.ref a_p1_graph]) ⟨hx, hb, hml, hown, hts⟩ (c_Di_busiest l dC dI cI cZ a_t a_t_open a_p1_graph a_p1_graph_weight a_t_inside a_p1_graph_arcs H.size t_nodes t_open p1_graph_size p1_graph_weight r31 hr31) (cwV 1 hts (gV gw_653 gw_655 gw_26 gw_60 gw_656) rfl rfl rfl (yd_Di_busiest) ⟨Nat.le_of_ble_eq_true rfl, Nat.le_of_ble_eq_true rfl⟩) (mkV hK (hP.sub (ws' := (wd_Di_busiest cI cZ a_t a_t_open a_p1_graph a_p1_graph_weight a_t_inside a_p1_graph_arcs t_nodes t_open p1_graph_size p1_graph_weight)) [0, 2, 4, 6] rfl) (hD.sub (ws' := (wd_Di_busiest cI cZ a_t a_t_open a_p1_graph a_p1_graph_weight a_t_inside a_p1_graph_arcs t_nodes t_open p1_graph_size p1_graph_weight)) [0, 2, 4, 6] (by decide) rfl) hN (va_recv hK hP (ci := 6) (q0 := 0) rfl rfl)) rfl rfl hl.1 rfl (lv_room (Nat.le_of_ble_eq_true rfl)) dd_Di_find_31 ⟨Nat.zero_le _, Nat.zero_le _⟩) hP hD hS hA [0, 2, 4, 6] [1, 3, 5, 7] [4, 0, 5, 1, 6, 2, 7, 3] rfl rfl (by decide) (by decide) rfl (by decide) rfl (fun H locs hP hD hS => ?_)
        refine lv_istore_n (lv' := [(3, .int r31), (0, .ref a_t), (1, .ref a_p1), (2, .int x2)]) hx hb dd_Di_find_34 rfl hl (by decide) rfl (fun ls hl => ?_)
        refine lv_aload_n hx hb dd_Di_find_35 rfl (lv_at hl 1 rfl) ?_
        refine va_get (D := (dC, dI)) (ci := 6) (v := .ref a_t_open) (C := rr_Di) (T := tt_Di) (N := 3) hx hb hts (fun w h => gwc (inn_Di w h)) hown hK hP 0 rfl rfl 1 (by decide) (hts _ (gwc gw_274)) (fun _ h9 => h9) rfl dd_Di_find_36 ?_
        refine lv_iload_n hx hb dd_Di_find_39 rfl (lv_at hl 0 rfl) ?_
        obtain ⟨k40, hf⟩ := ck_some hf
        refine va_iald hx hb hK hP 2 0 rfl rfl (okb_in k40) dd_Di_find_40 ?_
        refine lv_if_le (tgt := 50) hx hb dd_Di_find_41 (by decide) (fun cc => ?_) (fun cc => ?_)
        · skip
          have hf := if_t cc hf
          refine lv_iinc (v := x2 + 1) (lv' := [(2, .int (x2 + 1)), (3, .int r31), (0, .ref a_t), (1, .ref a_p1)]) hx hb dd_Di_find_50 hl (k := 3) rfl rfl (by decide) rfl (fun ls hl => ?_)
          refine lv_goto (tgt := 18) hx hb dd_Di_find_53 (by decide) ?_
          exact ih18 (x2 + 1) t_nodes t_inside t_open _ _ _ hf (lv_sub hl [2, 3, 0] rfl) hP hD hS
        · skip
          have hf := if_f cc hf
          refine lv_aload_n hx hb dd_Di_find_44 rfl (lv_at hl 1 rfl) ?_
          refine lv_aload_n hx hb dd_Di_find_45 rfl (lv_at hl 2 rfl) ?_
          refine lv_iload_n hx hb dd_Di_find_46 rfl (lv_at hl 0 rfl) ?_
          obtain ⟨r47, hr47, hf⟩ := bind_some hf
          refine xcallv (rest := []) (wc := (wd_Di_takeIn cI cZ a_t a_t_inside a_t_open a_p1 a_p1_graph a_p1_graph_arcs a_p1_home a_p1_bounds a_p1_sum a_p1_link a_p1_graph_weight t_nodes t_inside t_open p1_cut p1_over p1_graph_size p1_graph_arcs p1_home)) (w1 := (wd_Di_takeIn cI cZ a_t a_t_inside a_t_open a_p1 a_p1_graph a_p1_graph_arcs a_p1_home a_p1_bounds a_p1_sum a_p1_link a_p1_graph_weight t_nodes r47.1 r47.2 p1_cut p1_over p1_graph_size p1_graph_arcs p1_home)) (wr := [(a_p1_graph_weight, .inl (cI, 40, .inl p1_graph_weight))]) (ws' := (wd_Di_find cI cZ a_t a_t_inside a_t_open a_p1 a_p1_graph a_p1_graph_arcs a_p1_graph_weight a_p1_home a_p1_bounds a_p1_sum a_p1_link t_nodes r47.1 r47.2 p1_cut p1_over p1_graph_size p1_graph_arcs p1_graph_weight p1_home)) (va_runV (As := [.ref a_p1, .int r31]) ⟨hx, hb, hml, hown, hts⟩ (c_Di_takeIn l dC dI cI cZ a_t a_t_inside a_t_open a_p1 a_p1_graph a_p1_graph_arcs a_p1_home a_p1_bounds a_p1_sum a_p1_link a_p1_graph_weight H.size r31 t_nodes t_inside t_open p1_cut p1_over p1_graph_size p1_graph_arcs p1_home r47 hr47) (cwV 2 hts (gV gw_657 gw_659 gw_27 gw_60 gw_660) rfl rfl rfl (yd_Di_takeIn) ⟨Nat.le_of_ble_eq_true rfl, Nat.le_of_ble_eq_true rfl⟩) (mkV hK (hP.sub (ws' := (wd_Di_takeIn cI cZ a_t a_t_inside a_t_open a_p1 a_p1_graph a_p1_graph_arcs a_p1_home a_p1_bounds a_p1_sum a_p1_link a_p1_graph_weight t_nodes t_inside t_open p1_cut p1_over p1_graph_size p1_graph_arcs p1_home)) [0, 1, 2, 3, 4, 5, 7] rfl) (hD.sub (ws' := (wd_Di_takeIn cI cZ a_t a_t_inside a_t_open a_p1 a_p1_graph a_p1_graph_arcs a_p1_home a_p1_bounds a_p1_sum a_p1_link a_p1_graph_weight t_nodes t_inside t_open p1_cut p1_over p1_graph_size p1_graph_arcs p1_home)) [0, 1, 2, 3, 4, 5, 7] (by decide) rfl) hN (va_recv hK hP (ci := 6) (q0 := 0) rfl rfl)) rfl rfl hl.1 rfl (lv_room (Nat.le_of_ble_eq_true rfl)) dd_Di_find_47 ⟨Nat.zero_le _, Nat.zero_le _⟩) hP hD hS hA [0, 1, 2, 3, 4, 5, 7] [6] [1, 2, 3, 4, 5, 6, 0, 7] rfl rfl (by decide) (by decide) rfl (by decide) rfl (fun H locs hP hD hS => ?_)
          refine lv_iinc (v := x2 + 1) (lv' := [(2, .int (x2 + 1)), (3, .int r31), (0, .ref a_t), (1, .ref a_p1)]) hx hb dd_Di_find_50 hl (k := 3) rfl rfl (by decide) rfl (fun ls hl => ?_)
          refine lv_goto (tgt := 18) hx hb dd_Di_find_53 (by decide) ?_
          exact ih18 (x2 + 1) t_nodes r47.1 r47.2 _ _ _ hf (lv_sub hl [2, 3, 0] rfl) hP hD hS
  refine lv_aload_n hx hb dd_Di_find_0 rfl (lv_at hl 0 rfl) ?_
  refine lv_aload_n hx hb dd_Di_find_1 rfl (lv_at hl 1 rfl) ?_
  refine va_get (D := (dC, dI)) (ci := 7) (v := .ref a_p1_graph) (C := rr_Sp) (T := tt_Sp) (N := 7) hx hb hts (fun w h => gwc (inn_Sp w h)) hown hK hP 3 rfl rfl 0 (by decide) (hts _ (gwc gw_134)) (fun _ h9 => h9) rfl dd_Di_find_2 ?_
  refine va_get (D := (dC, dI)) (ci := 1) (v := .int p1_graph_size) (C := rr_Gr) (T := tt_Gr) (N := 3) hx hb hts (fun w h => gwc (inn_Gr w h)) hown hK hP 4 rfl rfl 0 (by decide) (hts _ (gwc gw_86)) (fun _ h9 => h9) rfl dd_Di_find_5 ?_
  refine va_put (D := (dC, dI)) (ci := 6) (v := .int p1_graph_size) (ty := .int) (C := rr_Di) (T := tt_Di) (N := 3) hx hb hts (fun w h => gwc (inn_Di w h)) tf_Di to_Di tn_Di hown hK hP hD hS 0 rfl rfl 2 (by decide) (hts _ (gwc gw_275)) (fun _ h9 => h9) rfl (by decide +kernel) rfl rfl (Nat.le_of_ble_eq_true rfl) dd_Di_find_8 (fun H locs hP hD hS => ?_)
  have hP : va_P (dC, dI) clsL (wd_Di_find cI cZ a_t a_t_inside a_t_open a_p1 a_p1_graph a_p1_graph_arcs a_p1_graph_weight a_p1_home a_p1_bounds a_p1_sum a_p1_link p1_graph_size t_inside t_open p1_cut p1_over p1_graph_size p1_graph_arcs p1_graph_weight p1_home) H := hP
  have hD : va_D A (wd_Di_find cI cZ a_t a_t_inside a_t_open a_p1 a_p1_graph a_p1_graph_arcs a_p1_graph_weight a_p1_home a_p1_bounds a_p1_sum a_p1_link p1_graph_size t_inside t_open p1_cut p1_over p1_graph_size p1_graph_arcs p1_graph_weight p1_home) := hD
  refine lv_aload_n hx hb dd_Di_find_11 rfl (lv_at hl 0 rfl) ?_
  refine lv_aload_n hx hb dd_Di_find_12 rfl (lv_at hl 1 rfl) ?_
  obtain ⟨r13, hr13, hf⟩ := bind_some hf
  refine xcallv (rest := []) (wc := (wd_Di_start cI cZ a_t a_t_inside a_t_open a_p1 a_p1_graph a_p1_graph_arcs a_p1_home a_p1_bounds a_p1_sum a_p1_link a_p1_graph_weight p1_graph_size t_inside t_open p1_cut p1_over p1_graph_size p1_graph_arcs p1_home)) (w1 := (wd_Di_start cI cZ a_t a_t_inside a_t_open a_p1 a_p1_graph a_p1_graph_arcs a_p1_home a_p1_bounds a_p1_sum a_p1_link a_p1_graph_weight p1_graph_size r13.1 r13.2 p1_cut p1_over p1_graph_size p1_graph_arcs p1_home)) (wr := [(a_p1_graph_weight, .inl (cI, 40, .inl p1_graph_weight))]) (ws' := (wd_Di_find cI cZ a_t a_t_inside a_t_open a_p1 a_p1_graph a_p1_graph_arcs a_p1_graph_weight a_p1_home a_p1_bounds a_p1_sum a_p1_link p1_graph_size r13.1 r13.2 p1_cut p1_over p1_graph_size p1_graph_arcs p1_graph_weight p1_home)) (va_runV (As := [.ref a_p1]) ⟨hx, hb, hml, hown, hts⟩ (c_Di_start l dC dI cI cZ a_t a_t_inside a_t_open a_p1 a_p1_graph a_p1_graph_arcs a_p1_home a_p1_bounds a_p1_sum a_p1_link a_p1_graph_weight H.size p1_graph_size t_inside t_open p1_cut p1_over p1_graph_size p1_graph_arcs p1_home r13 hr13) (cwV 1 hts (gV gw_645 gw_647 gw_25 gw_60 gw_648) rfl rfl rfl (yd_Di_start) ⟨Nat.le_of_ble_eq_true rfl, Nat.le_of_ble_eq_true rfl⟩) (mkV hK (hP.sub (ws' := (wd_Di_start cI cZ a_t a_t_inside a_t_open a_p1 a_p1_graph a_p1_graph_arcs a_p1_home a_p1_bounds a_p1_sum a_p1_link a_p1_graph_weight p1_graph_size t_inside t_open p1_cut p1_over p1_graph_size p1_graph_arcs p1_home)) [0, 1, 2, 3, 4, 5, 7] rfl) (hD.sub (ws' := (wd_Di_start cI cZ a_t a_t_inside a_t_open a_p1 a_p1_graph a_p1_graph_arcs a_p1_home a_p1_bounds a_p1_sum a_p1_link a_p1_graph_weight p1_graph_size t_inside t_open p1_cut p1_over p1_graph_size p1_graph_arcs p1_home)) [0, 1, 2, 3, 4, 5, 7] (by decide) rfl) hN (va_recv hK hP (ci := 6) (q0 := 0) rfl rfl)) rfl rfl hl.1 rfl (lv_room (Nat.le_of_ble_eq_true rfl)) dd_Di_find_13 ⟨Nat.zero_le _, Nat.zero_le _⟩) hP hD hS hA [0, 1, 2, 3, 4, 5, 7] [6] [1, 2, 3, 4, 5, 6, 0, 7] rfl rfl (by decide) (by decide) rfl (by decide) rfl (fun H locs hP hD hS => ?_)
  refine lv_iconst (v := 0) hx hb dd_Di_find_16 (by decide) ?_
  refine lv_istore_n (lv' := [(2, .int 0), (0, .ref a_t), (1, .ref a_p1)]) hx hb dd_Di_find_17 rfl hl (by decide) rfl (fun ls hl => ?_)
  exact h18 64 0 p1_graph_size r13.1 r13.2 _ _ _ hf (lv_sub hl [1, 2, 0] rfl) hP hD hS
abbrev wd_Di_held (cI cZ : ClassId) (a_t a_t_inside a_t_open : Nat) (t_nodes : Int32) (t_inside : Nat → Int32) : va_W := [(a_t, .inr (6, [.ref a_t_inside, .ref a_t_open, .int t_nodes])), (a_t_inside, .inl (cZ, 40, .inl t_inside))]
set_option maxRecDepth 100000 in
set_option maxHeartbeats 4000000 in
theorem c_Di_held (l : Launch) (dC : Nat → ClassId) (dI : Nat → Nat → Nat) (cI cZ : ClassId) (a_t a_t_inside a_t_open sz : Nat) (t_nodes : Int32) (t_inside : Nat → Int32) (out : Int32) (hf : f_Di_held t_nodes t_inside = some out) :
    Met l yy_Di_held wq_Di_held ({ frames := 0, cells := 0, slots := 0, locals := 0 }) (va_Pc ([.ref a_t] : List Value) (pre_ (dC, dI) cI cZ sz (wd_Di_held cI cZ a_t a_t_inside a_t_open t_nodes t_inside))) (va_Qi (fun (r : Int32) (_ : Unit) => r = out) (fun _ => pst (dC, dI) (va_A (wd_Di_held cI cZ a_t a_t_inside a_t_open t_nodes t_inside) sz) (wd_Di_held cI cZ a_t a_t_inside a_t_open t_nodes t_inside)) (va_A (wd_Di_held cI cZ a_t a_t_inside a_t_open t_nodes t_inside) sz)) 0 0 (va_A (wd_Di_held cI cZ a_t a_t_inside a_t_open t_nodes t_inside) sz) := by
  refine Met.ofW (cc := cc_Di_held) (maxL := 3) (ret := (some .int)) (by decide) rfl ?_
  intro p e s m args below meth c s₁ B hml hv
  obtain ⟨rfl, hsz, hP, hK, hD0, hN⟩ := hv
  have hx := B.exec
  have hb := B.bytes
  have hr := B.returns
  have hts := atoms_spec (ws := wq_Di_held) B.pre
  have hown : s.vm.findClass rr_Di = some m.cls := findClass_of_methodNamed B.named
  have hlocks := B.notSynchronized
  subst hsz
  have hD := hD0.self (sz := s.heap.size)
  generalize hAe : va_A (wd_Di_held cI cZ a_t a_t_inside a_t_open t_nodes t_inside) s.heap.size = A at hD ⊢
  have hA : ∀ q : Nat, s.heap.size ≤ q → A q := fun q h => by rw [← hAe]; exact Or.inr h
  obtain ⟨H, hH⟩ : ∃ H : Heap, H = s.heap := ⟨_, rfl⟩
  have hS : va_S A s.heap H [] := by rw [hH]; exact va_S.rf
  have hl := lv_entry (([.ref a_t] : List Value)) (n := 3) (Nat.le_of_ble_eq_true rfl)
  rw [lg_entry_eq]
  generalize (lg_sl (([.ref a_t] : List Value)) ++ List.replicate (3 - (lg_sl (([.ref a_t] : List Value))).length) Slot.unset).toArray = ls at hl ⊢
  have hl : lv_has ls 3 [(0, .ref a_t)] := hl
  rw [← hH] at hP ⊢
  have hP : va_P (dC, dI) clsL (wd_Di_held cI cZ a_t a_t_inside a_t_open t_nodes t_inside) H := hP
  unfold f_Di_held at hf
  have h4 : ∀ (n4 : Nat) (x1 : Int32) (x2 : Int32) (ls : Array Slot) (H : Heap) (locs : List Loc), L_Di_held_4 t_nodes t_inside n4 x1 x2 = some out → lv_has ls 3 [(0, .ref a_t), (1, .int x1), (2, .int x2)] → va_P (dC, dI) clsL (wd_Di_held cI cZ a_t a_t_inside a_t_open t_nodes t_inside) H → va_D A (wd_Di_held cI cZ a_t a_t_inside a_t_open t_nodes t_inside) → va_S A s.heap H locs → W p l e (headSpec wq_Di_held ({ frames := 0, cells := 0, slots := 0, locals := 0 })).room s m ([.ref a_t] : List Value).toArray below meth c H locs 0 0 (MQ below (va_Qi (fun (r : Int32) (_ : Unit) => r = out) (fun _ => pst (dC, dI) A (wd_Di_held cI cZ a_t a_t_inside a_t_open t_nodes t_inside)) A) ([.ref a_t] : List Value).toArray s 0 0 A) (F0 m 4 ls []) := by
    intro n4
    induction n4 with
    | zero =>
      intro x1 x2 ls H locs hf
      rw [L_Di_held_4] at hf
      exact absurd hf (fun h => by cases h)
    | succ n4 ih4 =>
      intro x1 x2 ls H locs hf hl hP hD hS
      rw [L_Di_held_4] at hf
      refine lv_iload_n hx hb dd_Di_held_4 rfl (lv_at hl 2 rfl) ?_
      refine lv_aload_n hx hb dd_Di_held_5 rfl (lv_at hl 0 rfl) ?_
      refine va_get (D := (dC, dI)) (ci := 6) (v := .int t_nodes) (C := rr_Di) (T := tt_Di) (N := 3) hx hb hts (fun w h => gwc (inn_Di w h)) hown hK hP 0 rfl rfl 2 (by decide) (hts _ (gwc gw_275)) (fun _ h9 => h9) rfl dd_Di_held_6 ?_
      refine lv_icmp_ge (tgt := 35) hx hb dd_Di_held_9 (by decide) (fun cc => ?_) (fun cc => ?_)
      · skip
        have hf := if_t cc hf
        refine lv_iload_n hx hb dd_Di_held_35 rfl (lv_at hl 1 rfl) ?_
        cases hf
        exact W.iret hx hb hr (fun t ht hW => ⟨⟨_, (), rfl, rfl, pst_of ht hP hD⟩, hS.F ht⟩) hS.2.2 dd_Di_held_36
      · skip
        have hf := if_f cc hf
        refine lv_iload_n hx hb dd_Di_held_12 rfl (lv_at hl 1 rfl) ?_
        refine lv_aload_n hx hb dd_Di_held_13 rfl (lv_at hl 0 rfl) ?_
        refine va_get (D := (dC, dI)) (ci := 6) (v := .ref a_t_inside) (C := rr_Di) (T := tt_Di) (N := 3) hx hb hts (fun w h => gwc (inn_Di w h)) hown hK hP 0 rfl rfl 0 (by decide) (hts _ (gwc gw_273)) (fun _ h9 => h9) rfl dd_Di_held_14 ?_
        refine lv_iload_n hx hb dd_Di_held_17 rfl (lv_at hl 2 rfl) ?_
        obtain ⟨k18, hf⟩ := ck_some hf
        refine va_zald hx hb hK hP 1 1 rfl rfl (okb_in k18) dd_Di_held_18 ?_
        refine lv_if_eq (tgt := 26) hx hb dd_Di_held_19 (by decide) (fun cc => ?_) (fun cc => ?_)
        · skip
          have hf := if_t cc hf
          refine lv_iconst (v := 0) hx hb dd_Di_held_26 (by decide) ?_
          refine lv_iadd hx hb dd_Di_held_27 ?_
          refine lv_istore_n (lv' := [(1, .int (x1 + 0)), (0, .ref a_t), (2, .int x2)]) hx hb dd_Di_held_28 rfl hl (by decide) rfl (fun ls hl => ?_)
          refine lv_iinc (v := x2 + 1) (lv' := [(2, .int (x2 + 1)), (1, .int (x1 + 0)), (0, .ref a_t)]) hx hb dd_Di_held_29 hl (k := 2) rfl rfl (by decide) rfl (fun ls hl => ?_)
          refine lv_goto (tgt := 4) hx hb dd_Di_held_32 (by decide) ?_
          exact ih4 (x1 + 0) (x2 + 1) _ _ _ hf (lv_sub hl [2, 1, 0] rfl) hP hD hS
        · skip
          have hf := if_f cc hf
          refine lv_iconst (v := 1) hx hb dd_Di_held_22 (by decide) ?_
          refine lv_goto (tgt := 27) hx hb dd_Di_held_23 (by decide) ?_
          refine lv_iadd hx hb dd_Di_held_27 ?_
          refine lv_istore_n (lv' := [(1, .int (x1 + 1)), (0, .ref a_t), (2, .int x2)]) hx hb dd_Di_held_28 rfl hl (by decide) rfl (fun ls hl => ?_)
          refine lv_iinc (v := x2 + 1) (lv' := [(2, .int (x2 + 1)), (1, .int (x1 + 1)), (0, .ref a_t)]) hx hb dd_Di_held_29 hl (k := 2) rfl rfl (by decide) rfl (fun ls hl => ?_)
          refine lv_goto (tgt := 4) hx hb dd_Di_held_32 (by decide) ?_
          exact ih4 (x1 + 1) (x2 + 1) _ _ _ hf (lv_sub hl [2, 1, 0] rfl) hP hD hS
  refine lv_iconst (v := 0) hx hb dd_Di_held_0 (by decide) ?_
  refine lv_istore_n (lv' := [(1, .int 0), (0, .ref a_t)]) hx hb dd_Di_held_1 rfl hl (by decide) rfl (fun ls hl => ?_)
  refine lv_iconst (v := 0) hx hb dd_Di_held_2 (by decide) ?_
  refine lv_istore_n (lv' := [(2, .int 0), (1, .int 0), (0, .ref a_t)]) hx hb dd_Di_held_3 rfl hl (by decide) rfl (fun ls hl => ?_)
  exact h4 64 0 0 _ _ _ hf (lv_sub hl [2, 1, 0] rfl) hP hD hS
abbrev wd_Di_nodeAt (cI cZ : ClassId) (a_t a_t_inside a_t_open : Nat) (t_nodes : Int32) (t_inside : Nat → Int32) : va_W := [(a_t, .inr (6, [.ref a_t_inside, .ref a_t_open, .int t_nodes])), (a_t_inside, .inl (cZ, 40, .inl t_inside))]
set_option maxRecDepth 100000 in
set_option maxHeartbeats 4000000 in
theorem c_Di_nodeAt (l : Launch) (dC : Nat → ClassId) (dI : Nat → Nat → Nat) (cI cZ : ClassId) (a_t a_t_inside a_t_open sz : Nat) (x1 : Int32) (t_nodes : Int32) (t_inside : Nat → Int32) (out : Int32) (hf : f_Di_nodeAt x1 t_nodes t_inside = some out) :
    Met l yy_Di_nodeAt wq_Di_nodeAt ({ frames := 0, cells := 0, slots := 0, locals := 0 }) (va_Pc ([.ref a_t, .int x1] : List Value) (pre_ (dC, dI) cI cZ sz (wd_Di_nodeAt cI cZ a_t a_t_inside a_t_open t_nodes t_inside))) (va_Qi (fun (r : Int32) (_ : Unit) => r = out) (fun _ => pst (dC, dI) (va_A (wd_Di_nodeAt cI cZ a_t a_t_inside a_t_open t_nodes t_inside) sz) (wd_Di_nodeAt cI cZ a_t a_t_inside a_t_open t_nodes t_inside)) (va_A (wd_Di_nodeAt cI cZ a_t a_t_inside a_t_open t_nodes t_inside) sz)) 0 0 (va_A (wd_Di_nodeAt cI cZ a_t a_t_inside a_t_open t_nodes t_inside) sz) := by
  refine Met.ofW (cc := cc_Di_nodeAt) (maxL := 4) (ret := (some .int)) (by decide) rfl ?_
  intro p e s m args below meth c s₁ B hml hv
  obtain ⟨rfl, hsz, hP, hK, hD0, hN⟩ := hv
  have hx := B.exec
  have hb := B.bytes
  have hr := B.returns
  have hts := atoms_spec (ws := wq_Di_nodeAt) B.pre
  have hown : s.vm.findClass rr_Di = some m.cls := findClass_of_methodNamed B.named
  have hlocks := B.notSynchronized
  subst hsz
  have hD := hD0.self (sz := s.heap.size)
  generalize hAe : va_A (wd_Di_nodeAt cI cZ a_t a_t_inside a_t_open t_nodes t_inside) s.heap.size = A at hD ⊢
  have hA : ∀ q : Nat, s.heap.size ≤ q → A q := fun q h => by rw [← hAe]; exact Or.inr h
  obtain ⟨H, hH⟩ : ∃ H : Heap, H = s.heap := ⟨_, rfl⟩
  have hS : va_S A s.heap H [] := by rw [hH]; exact va_S.rf
  have hl := lv_entry (([.ref a_t, .int x1] : List Value)) (n := 4) (Nat.le_of_ble_eq_true rfl)
  rw [lg_entry_eq]
  generalize (lg_sl (([.ref a_t, .int x1] : List Value)) ++ List.replicate (4 - (lg_sl (([.ref a_t, .int x1] : List Value))).length) Slot.unset).toArray = ls at hl ⊢
  have hl : lv_has ls 4 [(0, .ref a_t), (1, .int x1)] := hl
  rw [← hH] at hP ⊢
  have hP : va_P (dC, dI) clsL (wd_Di_nodeAt cI cZ a_t a_t_inside a_t_open t_nodes t_inside) H := hP
  unfold f_Di_nodeAt at hf
  have h4 : ∀ (n4 : Nat) (x2 : Int32) (x3 : Int32) (ls : Array Slot) (H : Heap) (locs : List Loc), L_Di_nodeAt_4 x1 t_nodes t_inside n4 x2 x3 = some out → lv_has ls 4 [(0, .ref a_t), (1, .int x1), (2, .int x2), (3, .int x3)] → va_P (dC, dI) clsL (wd_Di_nodeAt cI cZ a_t a_t_inside a_t_open t_nodes t_inside) H → va_D A (wd_Di_nodeAt cI cZ a_t a_t_inside a_t_open t_nodes t_inside) → va_S A s.heap H locs → W p l e (headSpec wq_Di_nodeAt ({ frames := 0, cells := 0, slots := 0, locals := 0 })).room s m ([.ref a_t, .int x1] : List Value).toArray below meth c H locs 0 0 (MQ below (va_Qi (fun (r : Int32) (_ : Unit) => r = out) (fun _ => pst (dC, dI) A (wd_Di_nodeAt cI cZ a_t a_t_inside a_t_open t_nodes t_inside)) A) ([.ref a_t, .int x1] : List Value).toArray s 0 0 A) (F0 m 4 ls []) := by
    intro n4
    induction n4 with
    | zero =>
      intro x2 x3 ls H locs hf
      rw [L_Di_nodeAt_4] at hf
      exact absurd hf (fun h => by cases h)
    | succ n4 ih4 =>
      intro x2 x3 ls H locs hf hl hP hD hS
      rw [L_Di_nodeAt_4] at hf
      refine lv_iload_n hx hb dd_Di_nodeAt_4 rfl (lv_at hl 3 rfl) ?_
      refine lv_aload_n hx hb dd_Di_nodeAt_5 rfl (lv_at hl 0 rfl) ?_
      refine va_get (D := (dC, dI)) (ci := 6) (v := .int t_nodes) (C := rr_Di) (T := tt_Di) (N := 3) hx hb hts (fun w h => gwc (inn_Di w h)) hown hK hP 0 rfl rfl 2 (by decide) (hts _ (gwc gw_275)) (fun _ h9 => h9) rfl dd_Di_nodeAt_6 ?_
      refine lv_icmp_ge (tgt := 37) hx hb dd_Di_nodeAt_9 (by decide) (fun cc => ?_) (fun cc => ?_)
      · skip
        have hf := if_t cc hf
        refine lv_bipush (v := -2) hx hb dd_Di_nodeAt_37 (by decide) ?_
        cases hf
        exact W.iret hx hb hr (fun t ht hW => ⟨⟨_, (), rfl, rfl, pst_of ht hP hD⟩, hS.F ht⟩) hS.2.2 dd_Di_nodeAt_39
      · skip
        have hf := if_f cc hf
        refine lv_aload_n hx hb dd_Di_nodeAt_12 rfl (lv_at hl 0 rfl) ?_
        refine va_get (D := (dC, dI)) (ci := 6) (v := .ref a_t_inside) (C := rr_Di) (T := tt_Di) (N := 3) hx hb hts (fun w h => gwc (inn_Di w h)) hown hK hP 0 rfl rfl 0 (by decide) (hts _ (gwc gw_273)) (fun _ h9 => h9) rfl dd_Di_nodeAt_13 ?_
        refine lv_iload_n hx hb dd_Di_nodeAt_16 rfl (lv_at hl 3 rfl) ?_
        obtain ⟨k17, hf⟩ := ck_some hf
        refine va_zald hx hb hK hP 1 1 rfl rfl (okb_in k17) dd_Di_nodeAt_17 ?_
        refine lv_if_eq (tgt := 31) hx hb dd_Di_nodeAt_18 (by decide) (fun cc => ?_) (fun cc => ?_)
        · skip
          have hf := if_t cc hf
          refine lv_iinc (v := x3 + 1) (lv' := [(3, .int (x3 + 1)), (0, .ref a_t), (1, .int x1), (2, .int x2)]) hx hb dd_Di_nodeAt_31 hl (k := 3) rfl rfl (by decide) rfl (fun ls hl => ?_)
          refine lv_goto (tgt := 4) hx hb dd_Di_nodeAt_34 (by decide) ?_
          exact ih4 x2 (x3 + 1) _ _ _ hf (lv_sub hl [1, 2, 3, 0] rfl) hP hD hS
        · skip
          have hf := if_f cc hf
          refine lv_iload_n hx hb dd_Di_nodeAt_21 rfl (lv_at hl 2 rfl) ?_
          refine lv_iload_n hx hb dd_Di_nodeAt_22 rfl (lv_at hl 1 rfl) ?_
          refine lv_icmp_ne (tgt := 28) hx hb dd_Di_nodeAt_23 (by decide) (fun cc => ?_) (fun cc => ?_)
          · skip
            have hf := if_f cc hf
            refine lv_iinc (v := x2 + 1) (lv' := [(2, .int (x2 + 1)), (0, .ref a_t), (1, .int x1), (3, .int x3)]) hx hb dd_Di_nodeAt_28 hl (k := 2) rfl rfl (by decide) rfl (fun ls hl => ?_)
            refine lv_iinc (v := x3 + 1) (lv' := [(3, .int (x3 + 1)), (2, .int (x2 + 1)), (0, .ref a_t), (1, .int x1)]) hx hb dd_Di_nodeAt_31 hl (k := 3) rfl rfl (by decide) rfl (fun ls hl => ?_)
            refine lv_goto (tgt := 4) hx hb dd_Di_nodeAt_34 (by decide) ?_
            exact ih4 (x2 + 1) (x3 + 1) _ _ _ hf (lv_sub hl [2, 3, 1, 0] rfl) hP hD hS
          · skip
            have hf := if_t cc hf
            refine lv_iload_n hx hb dd_Di_nodeAt_26 rfl (lv_at hl 3 rfl) ?_
            cases hf
            exact W.iret hx hb hr (fun t ht hW => ⟨⟨_, (), rfl, rfl, pst_of ht hP hD⟩, hS.F ht⟩) hS.2.2 dd_Di_nodeAt_27
  refine lv_iconst (v := 0) hx hb dd_Di_nodeAt_0 (by decide) ?_
  refine lv_istore_n (lv' := [(2, .int 0), (0, .ref a_t), (1, .int x1)]) hx hb dd_Di_nodeAt_1 rfl hl (by decide) rfl (fun ls hl => ?_)
  refine lv_iconst (v := 0) hx hb dd_Di_nodeAt_2 (by decide) ?_
  refine lv_istore_n (lv' := [(3, .int 0), (2, .int 0), (0, .ref a_t), (1, .int x1)]) hx hb dd_Di_nodeAt_3 rfl hl (by decide) rfl (fun ls hl => ?_)
  exact h4 64 0 0 _ _ _ hf (lv_sub hl [2, 3, 1, 0] rfl) hP hD hS
set_option maxRecDepth 100000 in
set_option maxHeartbeats 4000000 in
theorem c_Di_new (l : Launch) (dC : Nat → ClassId) (dI : Nat → Nat → Nat) (cI cZ : ClassId) (a_t sz : Nat) : Met l yy_Di_new wq_Di_new ({ frames := 1, cells := 2, slots := 80, locals := 12 }) (va_Pc [.ref a_t] (pre_ (dC, dI) cI cZ sz [(a_t, .inr (6, [.null, .null, .int 0]))])) (va_Qv (fun _ : Unit => True) (fun _ t => ∃ q7 q15 : Nat, pst (dC, dI) (va_A [(a_t, .inr (6, [.null, .null, .int 0]))] sz) [(a_t, .inr (6, [.ref q7, .ref q15, .int 0])), (q7, .inl (cZ, 40, .inl (fun _ => 0))), (q15, .inl (cI, 40, .inl (fun _ => 0)))] t) (va_A [(a_t, .inr (6, [.null, .null, .int 0]))] sz)) 2 80 (va_A [(a_t, .inr (6, [.null, .null, .int 0]))] sz) := by
  refine Met.ofW (cc := cc_Di_new) (maxL := 1) (ret := none) (by decide) rfl ?_
  intro p e s m args below meth c s₁ B hml hv
  obtain ⟨rfl, hsz, hP, hK, hD0, hN⟩ := hv
  have hx := B.exec
  have hb := B.bytes
  have hr := B.returns
  have hts := atoms_spec (ws := wq_Di_new) B.pre
  have hown : s.vm.findClass rr_Di = some m.cls := findClass_of_methodNamed B.named
  have hlocks := B.notSynchronized
  have hin : meth.name = "<init>" := (name_of_methodNamed B.named B.method).1
  subst hsz
  have hD := hD0.self (sz := s.heap.size)
  generalize hAe : va_A [(a_t, .inr (6, [.null, .null, .int 0]))] s.heap.size = A at hD ⊢
  have hA : ∀ q : Nat, s.heap.size ≤ q → A q := fun q h => by rw [← hAe]; exact Or.inr h
  have hS : va_S A s.heap s.heap [] := va_S.rf
  have hl := lv_entry ([.ref a_t]) (n := 1) (Nat.le_of_ble_eq_true rfl)
  rw [lg_entry_eq]
  generalize (lg_sl ([.ref a_t]) ++ List.replicate (1 - (lg_sl ([.ref a_t])).length) Slot.unset).toArray = ls at hl ⊢
  have hl : lv_has ls 1 [(0, .ref a_t)] := hl
  refine lv_aload_n hx hb dd_Di_new_0 rfl (lv_at hl 0 rfl) ?_
  refine W.objInit hx hb hown (hts _ (gwc gw_272)) (hts _ (gwc gw_71)) (hts _ (gwc gw_72)) rfl (by rw [hml]; exact hl.1) rfl dd_Di_new_1 (Nat.le_of_ble_eq_true rfl) (Nat.le_of_ble_eq_true rfl) ?_
  refine W.eq (g2 := F0 m 4 ls []) rfl ?_
  refine lv_aload_n hx hb dd_Di_new_4 rfl (lv_at hl 0 rfl) ?_
  refine lv_bipush (v := 40) hx hb dd_Di_new_5 (by decide) ?_
  refine xnewz (N := 40) hx hb (hts _ (gwc gw_252)) hK hP hD hS hA (by decide) (by decide) (by decide) (Nat.le_of_ble_eq_true rfl) (Nat.le_of_ble_eq_true rfl) dd_Di_new_7 (fun q7 H hP hD hS => ?_)
  have hP : va_P (dC, dI) clsL [(a_t, .inr (6, [.null, .null, .int 0])), (q7, .inl (cZ, 40, .inl (fun _ => 0)))] H := hP
  have hD : va_D A [(a_t, .inr (6, [.null, .null, .int 0])), (q7, .inl (cZ, 40, .inl (fun _ => 0)))] := hD
  refine W.widen (k := 1) (n := 40) (by decide) (by decide) ?_
  refine va_putF (D := (dC, dI)) (ci := 6) (v := .ref q7) (ty := (.array .boolean)) (C := rr_Di) (T := tt_Di) (N := 3) hx hb hts (fun w h => gwc (inn_Di w h)) tf_Di to_Di tn_Di hown hK hP hD hS 0 rfl rfl 0 (by decide) (hts _ (gwc gw_273)) (fun _ h9 => h9) rfl hin rfl (by decide +kernel) rfl rfl (Nat.le_of_ble_eq_true rfl) dd_Di_new_9 (fun H locs hP hD hS => ?_)
  have hP : va_P (dC, dI) clsL [(a_t, .inr (6, [.ref q7, .null, .int 0])), (q7, .inl (cZ, 40, .inl (fun _ => 0)))] H := hP
  have hD : va_D A [(a_t, .inr (6, [.ref q7, .null, .int 0])), (q7, .inl (cZ, 40, .inl (fun _ => 0)))] := hD
  refine lv_aload_n hx hb dd_Di_new_12 rfl (lv_at hl 0 rfl) ?_
  refine lv_bipush (v := 40) hx hb dd_Di_new_13 (by decide) ?_
  refine xnewi (N := 40) hx hb (hts _ (gwc gw_106)) hK hP hD hS hA (by decide) (by decide) (by decide) (Nat.le_of_ble_eq_true rfl) (Nat.le_of_ble_eq_true rfl) dd_Di_new_15 (fun q15 H hP hD hS => ?_)
  have hP : va_P (dC, dI) clsL [(a_t, .inr (6, [.ref q7, .null, .int 0])), (q7, .inl (cZ, 40, .inl (fun _ => 0))), (q15, .inl (cI, 40, .inl (fun _ => 0)))] H := hP
  have hD : va_D A [(a_t, .inr (6, [.ref q7, .null, .int 0])), (q7, .inl (cZ, 40, .inl (fun _ => 0))), (q15, .inl (cI, 40, .inl (fun _ => 0)))] := hD
  refine W.widen (k := 2) (n := 80) (by decide) (by decide) ?_
  refine va_putF (D := (dC, dI)) (ci := 6) (v := .ref q15) (ty := (.array .int)) (C := rr_Di) (T := tt_Di) (N := 3) hx hb hts (fun w h => gwc (inn_Di w h)) tf_Di to_Di tn_Di hown hK hP hD hS 0 rfl rfl 1 (by decide) (hts _ (gwc gw_274)) (fun _ h9 => h9) rfl hin rfl (by decide +kernel) rfl rfl (Nat.le_of_ble_eq_true rfl) dd_Di_new_17 (fun H locs hP hD hS => ?_)
  have hP : va_P (dC, dI) clsL [(a_t, .inr (6, [.ref q7, .ref q15, .int 0])), (q7, .inl (cZ, 40, .inl (fun _ => 0))), (q15, .inl (cI, 40, .inl (fun _ => 0)))] H := hP
  have hD : va_D A [(a_t, .inr (6, [.ref q7, .ref q15, .int 0])), (q7, .inl (cZ, 40, .inl (fun _ => 0))), (q15, .inl (cI, 40, .inl (fun _ => 0)))] := hD
  refine lv_aload_n hx hb dd_Di_new_20 rfl (lv_at hl 0 rfl) ?_
  refine lv_iconst (v := 0) hx hb dd_Di_new_21 (by decide) ?_
  refine va_put (D := (dC, dI)) (ci := 6) (v := .int 0) (ty := .int) (C := rr_Di) (T := tt_Di) (N := 3) hx hb hts (fun w h => gwc (inn_Di w h)) tf_Di to_Di tn_Di hown hK hP hD hS 0 rfl rfl 2 (by decide) (hts _ (gwc gw_275)) (fun _ h9 => h9) rfl (by decide +kernel) rfl rfl (Nat.le_of_ble_eq_true rfl) dd_Di_new_22 (fun H locs hP hD hS => ?_)
  have hP : va_P (dC, dI) clsL [(a_t, .inr (6, [.ref q7, .ref q15, .int 0])), (q7, .inl (cZ, 40, .inl (fun _ => 0))), (q15, .inl (cI, 40, .inl (fun _ => 0)))] H := hP
  have hD : va_D A [(a_t, .inr (6, [.ref q7, .ref q15, .int 0])), (q7, .inl (cZ, 40, .inl (fun _ => 0))), (q15, .inl (cI, 40, .inl (fun _ => 0)))] := hD
  exact W.vret hx hb hr (fun t ht hW => ⟨⟨(), rfl, trivial, q7, q15, pst_of ht hP hD⟩, hS.F ht⟩) hS.2.2 dd_Di_new_25
