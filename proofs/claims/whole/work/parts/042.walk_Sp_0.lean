abbrev wd_Sp_recountLinks (cI cZ : ClassId) (a_t a_t_graph a_t_graph_arcs a_t_home a_t_link a_t_bounds a_t_sum a_t_graph_weight : Nat) (t_cut : Int32) (t_over : Int32) (t_graph_size : Int32) (t_graph_arcs : Nat → Int32) (t_home : Nat → Int32) (t_link : Nat → Int32) : va_W := [(a_t, .inr (7, [.ref a_t_graph, .ref a_t_bounds, .ref a_t_home, .ref a_t_sum, .ref a_t_link, .int t_cut, .int t_over])), (a_t_graph, .inr (1, [.int t_graph_size, .ref a_t_graph_weight, .ref a_t_graph_arcs])), (a_t_graph_arcs, .inl (cI, 1600, .inl t_graph_arcs)), (a_t_home, .inl (cI, 40, .inl t_home)), (a_t_link, .inl (cI, 160, .inl t_link))]
set_option maxRecDepth 100000 in
set_option maxHeartbeats 4000000 in
theorem c_Sp_recountLinks (l : Launch) (dC : Nat → ClassId) (dI : Nat → Nat → Nat) (cI cZ : ClassId) (a_t a_t_graph a_t_graph_arcs a_t_home a_t_link a_t_bounds a_t_sum a_t_graph_weight sz : Nat) (x1 : Int32) (t_cut : Int32) (t_over : Int32) (t_graph_size : Int32) (t_graph_arcs : Nat → Int32) (t_home : Nat → Int32) (t_link : Nat → Int32) (out : Int32 × (Nat → Int32)) (hf : f_Sp_recountLinks x1 t_cut t_graph_size t_graph_arcs t_home t_link = some out) :
    Met l yy_Sp_recountLinks wq_Sp_recountLinks ({ frames := 1, cells := 0, slots := 0, locals := 22 }) (va_Pc ([.ref a_t, .int x1] : List Value) (pre_ (dC, dI) cI cZ sz (wd_Sp_recountLinks cI cZ a_t a_t_graph a_t_graph_arcs a_t_home a_t_link a_t_bounds a_t_sum a_t_graph_weight t_cut t_over t_graph_size t_graph_arcs t_home t_link))) (va_Qv (fun _ : Unit => True) (fun _ => pst (dC, dI) (va_A (wd_Sp_recountLinks cI cZ a_t a_t_graph a_t_graph_arcs a_t_home a_t_link a_t_bounds a_t_sum a_t_graph_weight t_cut t_over t_graph_size t_graph_arcs t_home t_link) sz) (wd_Sp_recountLinks cI cZ a_t a_t_graph a_t_graph_arcs a_t_home a_t_link a_t_bounds a_t_sum a_t_graph_weight out.1 t_over t_graph_size t_graph_arcs t_home out.2)) (va_A (wd_Sp_recountLinks cI cZ a_t a_t_graph a_t_graph_arcs a_t_home a_t_link a_t_bounds a_t_sum a_t_graph_weight t_cut t_over t_graph_size t_graph_arcs t_home t_link) sz)) 0 0 (va_A (wd_Sp_recountLinks cI cZ a_t a_t_graph a_t_graph_arcs a_t_home a_t_link a_t_bounds a_t_sum a_t_graph_weight t_cut t_over t_graph_size t_graph_arcs t_home t_link) sz) := by
  refine Met.ofW (cc := cc_Sp_recountLinks) (maxL := 4) (ret := none) (by decide) rfl ?_
  intro p e s m args below meth c s₁ B hml hv
  obtain ⟨rfl, hsz, hP, hK, hD0, hN⟩ := hv
  have hx := B.exec
  have hb := B.bytes
  have hr := B.returns
  have hts := atoms_spec (ws := wq_Sp_recountLinks) B.pre
  have hown : s.vm.findClass rr_Sp = some m.cls := findClass_of_methodNamed B.named
  have hlocks := B.notSynchronized
  subst hsz
  have hD := hD0.self (sz := s.heap.size)
  generalize hAe : va_A (wd_Sp_recountLinks cI cZ a_t a_t_graph a_t_graph_arcs a_t_home a_t_link a_t_bounds a_t_sum a_t_graph_weight t_cut t_over t_graph_size t_graph_arcs t_home t_link) s.heap.size = A at hD ⊢
  have hA : ∀ q : Nat, s.heap.size ≤ q → A q := fun q h => by rw [← hAe]; exact Or.inr h
  obtain ⟨H, hH⟩ : ∃ H : Heap, H = s.heap := ⟨_, rfl⟩
  have hS : va_S A s.heap H [] := by rw [hH]; exact va_S.rf
  have hl := lv_entry (([.ref a_t, .int x1] : List Value)) (n := 4) (Nat.le_of_ble_eq_true rfl)
  rw [lg_entry_eq]
  generalize (lg_sl (([.ref a_t, .int x1] : List Value)) ++ List.replicate (4 - (lg_sl (([.ref a_t, .int x1] : List Value))).length) Slot.unset).toArray = ls at hl ⊢
  have hl : lv_has ls 4 [(0, .ref a_t), (1, .int x1)] := hl
  rw [← hH] at hP ⊢
  have hP : va_P (dC, dI) clsL (wd_Sp_recountLinks cI cZ a_t a_t_graph a_t_graph_arcs a_t_home a_t_link a_t_bounds a_t_sum a_t_graph_weight t_cut t_over t_graph_size t_graph_arcs t_home t_link) H := hP
  unfold f_Sp_recountLinks at hf
  have h2 : ∀ (n2 : Nat) (x2 : Int32) (t_cut : Int32) (t_link : Nat → Int32) (ls : Array Slot) (H : Heap) (locs : List Loc), L_Sp_recountLinks_2 x1 t_graph_size t_graph_arcs t_home n2 x2 t_cut t_link = some out → lv_has ls 4 [(0, .ref a_t), (1, .int x1), (2, .int x2)] → va_P (dC, dI) clsL (wd_Sp_recountLinks cI cZ a_t a_t_graph a_t_graph_arcs a_t_home a_t_link a_t_bounds a_t_sum a_t_graph_weight t_cut t_over t_graph_size t_graph_arcs t_home t_link) H → va_D A (wd_Sp_recountLinks cI cZ a_t a_t_graph a_t_graph_arcs a_t_home a_t_link a_t_bounds a_t_sum a_t_graph_weight t_cut t_over t_graph_size t_graph_arcs t_home t_link) → va_S A s.heap H locs → W p l e (headSpec wq_Sp_recountLinks ({ frames := 1, cells := 0, slots := 0, locals := 22 })).room s m ([.ref a_t, .int x1] : List Value).toArray below meth c H locs 0 0 (MQ below (va_Qv (fun _ : Unit => True) (fun _ => pst (dC, dI) A (wd_Sp_recountLinks cI cZ a_t a_t_graph a_t_graph_arcs a_t_home a_t_link a_t_bounds a_t_sum a_t_graph_weight out.1 t_over t_graph_size t_graph_arcs t_home out.2)) A) ([.ref a_t, .int x1] : List Value).toArray s 0 0 A) (F0 m 2 ls []) := by
    intro n2
    induction n2 with
    | zero =>
      intro x2 t_cut t_link ls H locs hf
      rw [L_Sp_recountLinks_2] at hf
      exact absurd hf (fun h => by cases h)
    | succ n2 ih2 =>
      intro x2 t_cut t_link ls H locs hf hl hP hD hS
      rw [L_Sp_recountLinks_2] at hf
      refine lv_iload_n hx hb dd_Sp_recountLinks_2 rfl (lv_at hl 2 rfl) ?_
      refine lv_aload_n hx hb dd_Sp_recountLinks_3 rfl (lv_at hl 0 rfl) ?_
      refine va_get (D := (dC, dI)) (ci := 7) (v := .ref a_t_graph) (C := rr_Sp) (T := tt_Sp) (N := 7) hx hb hts (fun w h => gwc (inn_Sp w h)) hown hK hP 0 rfl rfl 0 (by decide) (hts _ (gwc gw_133)) (fun _ h9 => h9) rfl dd_Sp_recountLinks_4 ?_
      refine va_get (D := (dC, dI)) (ci := 1) (v := .int t_graph_size) (C := rr_Gr) (T := tt_Gr) (N := 3) hx hb hts (fun w h => gwc (inn_Gr w h)) hown hK hP 1 rfl rfl 0 (by decide) (hts _ (gwc gw_88)) (fun _ h9 => h9) rfl dd_Sp_recountLinks_7 ?_
      refine lv_icmp_ge (tgt := 78) hx hb dd_Sp_recountLinks_10 (by decide) (fun cc => ?_) (fun cc => ?_)
      · skip
        have hf := if_t cc hf
        cases hf
        exact W.vret hx hb hr (fun t ht hW => ⟨⟨(), rfl, trivial, pst_of ht hP hD⟩, hS.F ht⟩) hS.2.2 dd_Sp_recountLinks_78
      · skip
        have hf := if_f cc hf
        refine lv_aload_n hx hb dd_Sp_recountLinks_13 rfl (lv_at hl 0 rfl) ?_
        refine va_get (D := (dC, dI)) (ci := 7) (v := .ref a_t_graph) (C := rr_Sp) (T := tt_Sp) (N := 7) hx hb hts (fun w h => gwc (inn_Sp w h)) hown hK hP 0 rfl rfl 0 (by decide) (hts _ (gwc gw_133)) (fun _ h9 => h9) rfl dd_Sp_recountLinks_14 ?_
        refine lv_iload_n hx hb dd_Sp_recountLinks_17 rfl (lv_at hl 1 rfl) ?_
        refine lv_iload_n hx hb dd_Sp_recountLinks_18 rfl (lv_at hl 2 rfl) ?_
        obtain ⟨r19, hr19, hf⟩ := bind_some hf
        refine xcalli (rest := []) (wc := (wd_Gr_arcOf cI cZ a_t_graph a_t_graph_arcs a_t_graph_weight t_graph_size t_graph_arcs)) (w1 := (wd_Gr_arcOf cI cZ a_t_graph a_t_graph_arcs a_t_graph_weight t_graph_size t_graph_arcs)) (wr := [(a_t, .inr (7, [.ref a_t_graph, .ref a_t_bounds, .ref a_t_home, .ref a_t_sum, .ref a_t_link, .int t_cut, .int t_over])), (a_t_home, .inl (cI, 40, .inl t_home)), (a_t_link, .inl (cI, 160, .inl t_link))]) (ws' := (wd_Sp_recountLinks cI cZ a_t a_t_graph a_t_graph_arcs a_t_home a_t_link a_t_bounds a_t_sum a_t_graph_weight t_cut t_over t_graph_size t_graph_arcs t_home t_link)) (va_runV (As := [.int x1, .int x2]) ⟨hx, hb, hml, hown, hts⟩ (c_Gr_arcOf l dC dI cI cZ a_t_graph a_t_graph_arcs a_t_graph_weight H.size x1 x2 t_graph_size t_graph_arcs r19 hr19) (cwV 2 hts (gV gw_376 gw_318 gw_319 gw_54 gw_320) rfl rfl rfl (yd_Gr_arcOf) ⟨Nat.le_of_ble_eq_true rfl, Nat.le_of_ble_eq_true rfl⟩) (mkV hK (hP.sub (ws' := (wd_Gr_arcOf cI cZ a_t_graph a_t_graph_arcs a_t_graph_weight t_graph_size t_graph_arcs)) [1, 2] rfl) (hD.sub (ws' := (wd_Gr_arcOf cI cZ a_t_graph a_t_graph_arcs a_t_graph_weight t_graph_size t_graph_arcs)) [1, 2] (by decide) rfl) hN (va_recv hK hP (ci := 1) (q0 := 1) rfl rfl)) rfl rfl hl.1 rfl (lv_room (Nat.le_of_ble_eq_true rfl)) dd_Sp_recountLinks_19 ⟨Nat.zero_le _, Nat.zero_le _⟩) hP hD hS hA [1, 2] [0, 3, 4] [0, 3, 4, 1, 2] rfl rfl (by decide) (by decide) rfl (by decide) rfl (fun H locs hP hD hS => ?_)
        refine lv_istore_n (lv' := [(3, .int r19), (0, .ref a_t), (1, .int x1), (2, .int x2)]) hx hb dd_Sp_recountLinks_22 rfl hl (by decide) rfl (fun ls hl => ?_)
        refine lv_aload_n hx hb dd_Sp_recountLinks_23 rfl (lv_at hl 1 rfl) ?_
        refine va_get (D := (dC, dI)) (ci := 7) (v := .ref a_t_link) (C := rr_Sp) (T := tt_Sp) (N := 7) hx hb hts (fun w h => gwc (inn_Sp w h)) hown hK hP 0 rfl rfl 4 (by decide) (hts _ (gwc gw_149)) (fun _ h9 => h9) rfl dd_Sp_recountLinks_24 ?_
        refine lv_iload_n hx hb dd_Sp_recountLinks_27 rfl (lv_at hl 2 rfl) ?_
        refine lv_iconst (v := 4) hx hb dd_Sp_recountLinks_28 (by decide) ?_
        refine lv_imul hx hb dd_Sp_recountLinks_29 ?_
        refine lv_aload_n hx hb dd_Sp_recountLinks_30 rfl (lv_at hl 1 rfl) ?_
        refine va_get (D := (dC, dI)) (ci := 7) (v := .ref a_t_home) (C := rr_Sp) (T := tt_Sp) (N := 7) hx hb hts (fun w h => gwc (inn_Sp w h)) hown hK hP 0 rfl rfl 2 (by decide) (hts _ (gwc gw_142)) (fun _ h9 => h9) rfl dd_Sp_recountLinks_31 ?_
        refine lv_iload_n hx hb dd_Sp_recountLinks_34 rfl (lv_at hl 3 rfl) ?_
        obtain ⟨k35, hf⟩ := ck_some hf
        refine va_iald hx hb hK hP 3 0 rfl rfl (okb_in k35) dd_Sp_recountLinks_35 ?_
        refine lv_iadd hx hb dd_Sp_recountLinks_36 ?_
        refine lv_dup2_11 hx hb dd_Sp_recountLinks_37 rfl rfl ?_
        obtain ⟨k38, hf⟩ := ck_some hf
        refine va_iald hx hb hK hP 4 0 rfl rfl (okb_in k38) dd_Sp_recountLinks_38 ?_
        refine lv_iload_n hx hb dd_Sp_recountLinks_39 rfl (lv_at hl 0 rfl) ?_
        refine lv_iadd hx hb dd_Sp_recountLinks_40 ?_
        obtain ⟨k41, hf⟩ := ck_some hf
        refine va_iast hx hb hK hP hD hS 4 0 rfl rfl (okb_in k41) dd_Sp_recountLinks_41 (fun H locs hP hD hS => ?_)
        have hP : va_P (dC, dI) clsL (wd_Sp_recountLinks cI cZ a_t a_t_graph a_t_graph_arcs a_t_home a_t_link a_t_bounds a_t_sum a_t_graph_weight t_cut t_over t_graph_size t_graph_arcs t_home (upd t_link ((x1 * 4) + (t_home (x2).toNatClampNeg)).toNatClampNeg ((t_link ((x1 * 4) + (t_home (x2).toNatClampNeg)).toNatClampNeg) + r19))) H := hP
        have hD : va_D A (wd_Sp_recountLinks cI cZ a_t a_t_graph a_t_graph_arcs a_t_home a_t_link a_t_bounds a_t_sum a_t_graph_weight t_cut t_over t_graph_size t_graph_arcs t_home (upd t_link ((x1 * 4) + (t_home (x2).toNatClampNeg)).toNatClampNeg ((t_link ((x1 * 4) + (t_home (x2).toNatClampNeg)).toNatClampNeg) + r19))) := hD
        refine lv_iload_n hx hb dd_Sp_recountLinks_42 rfl (lv_at hl 3 rfl) ?_
        refine lv_iload_n hx hb dd_Sp_recountLinks_43 rfl (lv_at hl 2 rfl) ?_
        refine lv_icmp_ge (tgt := 72) hx hb dd_Sp_recountLinks_44 (by decide) (fun cc => ?_) (fun cc => ?_)
        · skip
          have hf := if_t cc hf
          refine lv_iinc (v := x2 + 1) (lv' := [(2, .int (x2 + 1)), (3, .int r19), (0, .ref a_t), (1, .int x1)]) hx hb dd_Sp_recountLinks_72 hl (k := 3) rfl rfl (by decide) rfl (fun ls hl => ?_)
          refine lv_goto (tgt := 2) hx hb dd_Sp_recountLinks_75 (by decide) ?_
          exact ih2 (x2 + 1) t_cut (upd t_link ((x1 * 4) + (t_home (x2).toNatClampNeg)).toNatClampNeg ((t_link ((x1 * 4) + (t_home (x2).toNatClampNeg)).toNatClampNeg) + r19)) _ _ _ hf (lv_sub hl [2, 3, 0] rfl) hP hD hS
        · skip
          have hf := if_f cc hf
          refine lv_aload_n hx hb dd_Sp_recountLinks_47 rfl (lv_at hl 1 rfl) ?_
          refine va_get (D := (dC, dI)) (ci := 7) (v := .ref a_t_home) (C := rr_Sp) (T := tt_Sp) (N := 7) hx hb hts (fun w h => gwc (inn_Sp w h)) hown hK hP 0 rfl rfl 2 (by decide) (hts _ (gwc gw_142)) (fun _ h9 => h9) rfl dd_Sp_recountLinks_48 ?_
          refine lv_iload_n hx hb dd_Sp_recountLinks_51 rfl (lv_at hl 3 rfl) ?_
          obtain ⟨k52, hf⟩ := ck_some hf
          refine va_iald hx hb hK hP 3 0 rfl rfl (okb_in k52) dd_Sp_recountLinks_52 ?_
          refine lv_aload_n hx hb dd_Sp_recountLinks_53 rfl (lv_at hl 1 rfl) ?_
          refine va_get (D := (dC, dI)) (ci := 7) (v := .ref a_t_home) (C := rr_Sp) (T := tt_Sp) (N := 7) hx hb hts (fun w h => gwc (inn_Sp w h)) hown hK hP 0 rfl rfl 2 (by decide) (hts _ (gwc gw_142)) (fun _ h9 => h9) rfl dd_Sp_recountLinks_54 ?_
          refine lv_iload_n hx hb dd_Sp_recountLinks_57 rfl (lv_at hl 2 rfl) ?_
          obtain ⟨k58, hf⟩ := ck_some hf
          refine va_iald hx hb hK hP 3 0 rfl rfl (okb_in k58) dd_Sp_recountLinks_58 ?_
          refine lv_icmp_eq (tgt := 72) hx hb dd_Sp_recountLinks_59 (by decide) (fun cc => ?_) (fun cc => ?_)
          · skip
            have hf := if_t cc hf
            refine lv_iinc (v := x2 + 1) (lv' := [(2, .int (x2 + 1)), (3, .int r19), (0, .ref a_t), (1, .int x1)]) hx hb dd_Sp_recountLinks_72 hl (k := 3) rfl rfl (by decide) rfl (fun ls hl => ?_)
            refine lv_goto (tgt := 2) hx hb dd_Sp_recountLinks_75 (by decide) ?_
            exact ih2 (x2 + 1) t_cut (upd t_link ((x1 * 4) + (t_home (x2).toNatClampNeg)).toNatClampNeg ((t_link ((x1 * 4) + (t_home (x2).toNatClampNeg)).toNatClampNeg) + r19)) _ _ _ hf (lv_sub hl [2, 3, 0] rfl) hP hD hS
          · skip
            have hf := if_f cc hf
            refine lv_aload_n hx hb dd_Sp_recountLinks_62 rfl (lv_at hl 1 rfl) ?_
            refine lv_dup hx hb dd_Sp_recountLinks_63 rfl ?_
            refine va_get (D := (dC, dI)) (ci := 7) (v := .int t_cut) (C := rr_Sp) (T := tt_Sp) (N := 7) hx hb hts (fun w h => gwc (inn_Sp w h)) hown hK hP 0 rfl rfl 5 (by decide) (hts _ (gwc gw_150)) (fun _ h9 => h9) rfl dd_Sp_recountLinks_64 ?_
            refine lv_iload_n hx hb dd_Sp_recountLinks_67 rfl (lv_at hl 0 rfl) ?_
            refine lv_iadd hx hb dd_Sp_recountLinks_68 ?_
            refine va_put (D := (dC, dI)) (ci := 7) (v := .int (t_cut + r19)) (ty := .int) (C := rr_Sp) (T := tt_Sp) (N := 7) hx hb hts (fun w h => gwc (inn_Sp w h)) tf_Sp to_Sp tn_Sp hown hK hP hD hS 0 rfl rfl 5 (by decide) (hts _ (gwc gw_150)) (fun _ h9 => h9) rfl (by decide +kernel) rfl rfl (Nat.le_of_ble_eq_true rfl) dd_Sp_recountLinks_69 (fun H locs hP hD hS => ?_)
            have hP : va_P (dC, dI) clsL (wd_Sp_recountLinks cI cZ a_t a_t_graph a_t_graph_arcs a_t_home a_t_link a_t_bounds a_t_sum a_t_graph_weight (t_cut + r19) t_over t_graph_size t_graph_arcs t_home (upd t_link ((x1 * 4) + (t_home (x2).toNatClampNeg)).toNatClampNeg ((t_link ((x1 * 4) + (t_home (x2).toNatClampNeg)).toNatClampNeg) + r19))) H := hP
            have hD : va_D A (wd_Sp_recountLinks cI cZ a_t a_t_graph a_t_graph_arcs a_t_home a_t_link a_t_bounds a_t_sum a_t_graph_weight (t_cut + r19) t_over t_graph_size t_graph_arcs t_home (upd t_link ((x1 * 4) + (t_home (x2).toNatClampNeg)).toNatClampNeg ((t_link ((x1 * 4) + (t_home (x2).toNatClampNeg)).toNatClampNeg) + r19))) := hD
            refine lv_iinc (v := x2 + 1) (lv' := [(2, .int (x2 + 1)), (3, .int r19), (0, .ref a_t), (1, .int x1)]) hx hb dd_Sp_recountLinks_72 hl (k := 3) rfl rfl (by decide) rfl (fun ls hl => ?_)
            refine lv_goto (tgt := 2) hx hb dd_Sp_recountLinks_75 (by decide) ?_
            exact ih2 (x2 + 1) (t_cut + r19) (upd t_link ((x1 * 4) + (t_home (x2).toNatClampNeg)).toNatClampNeg ((t_link ((x1 * 4) + (t_home (x2).toNatClampNeg)).toNatClampNeg) + r19)) _ _ _ hf (lv_sub hl [2, 3, 0] rfl) hP hD hS
  refine lv_iconst (v := 0) hx hb dd_Sp_recountLinks_0 (by decide) ?_
  refine lv_istore_n (lv' := [(2, .int 0), (0, .ref a_t), (1, .int x1)]) hx hb dd_Sp_recountLinks_1 rfl hl (by decide) rfl (fun ls hl => ?_)
  exact h2 64 0 t_cut t_link _ _ _ hf (lv_sub hl [1, 2, 0] rfl) hP hD hS
abbrev wd_Sp_recount (cI cZ : ClassId) (a_t a_t_bounds a_t_bounds_least a_t_bounds_most a_t_graph a_t_graph_arcs a_t_graph_weight a_t_home a_t_link a_t_sum : Nat) (t_cut : Int32) (t_over : Int32) (t_bounds_k : Int32) (t_bounds_least : Nat → Int32) (t_bounds_most : Nat → Int32) (t_graph_size : Int32) (t_graph_arcs : Nat → Int32) (t_graph_weight : Nat → Int32) (t_home : Nat → Int32) (t_link : Nat → Int32) (t_sum : Nat → Int32) : va_W := [(a_t, .inr (7, [.ref a_t_graph, .ref a_t_bounds, .ref a_t_home, .ref a_t_sum, .ref a_t_link, .int t_cut, .int t_over])), (a_t_bounds, .inr (0, [.int t_bounds_k, .ref a_t_bounds_least, .ref a_t_bounds_most])), (a_t_bounds_least, .inl (cI, 4, .inl t_bounds_least)), (a_t_bounds_most, .inl (cI, 4, .inl t_bounds_most)), (a_t_graph, .inr (1, [.int t_graph_size, .ref a_t_graph_weight, .ref a_t_graph_arcs])), (a_t_graph_arcs, .inl (cI, 1600, .inl t_graph_arcs)), (a_t_graph_weight, .inl (cI, 40, .inl t_graph_weight)), (a_t_home, .inl (cI, 40, .inl t_home)), (a_t_link, .inl (cI, 160, .inl t_link)), (a_t_sum, .inl (cI, 4, .inl t_sum))]
set_option maxRecDepth 100000 in
set_option maxHeartbeats 4000000 in
theorem c_Sp_recount (l : Launch) (dC : Nat → ClassId) (dI : Nat → Nat → Nat) (cI cZ : ClassId) (a_t a_t_bounds a_t_bounds_least a_t_bounds_most a_t_graph a_t_graph_arcs a_t_graph_weight a_t_home a_t_link a_t_sum sz : Nat) (t_cut : Int32) (t_over : Int32) (t_bounds_k : Int32) (t_bounds_least : Nat → Int32) (t_bounds_most : Nat → Int32) (t_graph_size : Int32) (t_graph_arcs : Nat → Int32) (t_graph_weight : Nat → Int32) (t_home : Nat → Int32) (t_link : Nat → Int32) (t_sum : Nat → Int32) (out : Int32 × Int32 × (Nat → Int32) × (Nat → Int32)) (hf : f_Sp_recount t_bounds_k t_bounds_least t_bounds_most t_graph_size t_graph_arcs t_graph_weight t_home = some out) :
    Met l yy_Sp_recount wq_Sp_recount ({ frames := 2, cells := 0, slots := 0, locals := 45 }) (va_Pc ([.ref a_t] : List Value) (pre_ (dC, dI) cI cZ sz (wd_Sp_recount cI cZ a_t a_t_bounds a_t_bounds_least a_t_bounds_most a_t_graph a_t_graph_arcs a_t_graph_weight a_t_home a_t_link a_t_sum t_cut t_over t_bounds_k t_bounds_least t_bounds_most t_graph_size t_graph_arcs t_graph_weight t_home t_link t_sum))) (va_Qv (fun _ : Unit => True) (fun _ => pst (dC, dI) (va_A (wd_Sp_recount cI cZ a_t a_t_bounds a_t_bounds_least a_t_bounds_most a_t_graph a_t_graph_arcs a_t_graph_weight a_t_home a_t_link a_t_sum t_cut t_over t_bounds_k t_bounds_least t_bounds_most t_graph_size t_graph_arcs t_graph_weight t_home t_link t_sum) sz) (wd_Sp_recount cI cZ a_t a_t_bounds a_t_bounds_least a_t_bounds_most a_t_graph a_t_graph_arcs a_t_graph_weight a_t_home a_t_link a_t_sum out.1 out.2.1 t_bounds_k t_bounds_least t_bounds_most t_graph_size t_graph_arcs t_graph_weight t_home out.2.2.1 out.2.2.2)) (va_A (wd_Sp_recount cI cZ a_t a_t_bounds a_t_bounds_least a_t_bounds_most a_t_graph a_t_graph_arcs a_t_graph_weight a_t_home a_t_link a_t_sum t_cut t_over t_bounds_k t_bounds_least t_bounds_most t_graph_size t_graph_arcs t_graph_weight t_home t_link t_sum) sz)) 0 0 (va_A (wd_Sp_recount cI cZ a_t a_t_bounds a_t_bounds_least a_t_bounds_most a_t_graph a_t_graph_arcs a_t_graph_weight a_t_home a_t_link a_t_sum t_cut t_over t_bounds_k t_bounds_least t_bounds_most t_graph_size t_graph_arcs t_graph_weight t_home t_link t_sum) sz) := by
  refine Met.ofW (cc := cc_Sp_recount) (maxL := 2) (ret := none) (by decide) rfl ?_
  intro p e s m args below meth c s₁ B hml hv
  obtain ⟨rfl, hsz, hP, hK, hD0, hN⟩ := hv
  have hx := B.exec
  have hb := B.bytes
  have hr := B.returns
  have hts := atoms_spec (ws := wq_Sp_recount) B.pre
  have hown : s.vm.findClass rr_Sp = some m.cls := findClass_of_methodNamed B.named
  have hlocks := B.notSynchronized
  subst hsz
  have hD := hD0.self (sz := s.heap.size)
  generalize hAe : va_A (wd_Sp_recount cI cZ a_t a_t_bounds a_t_bounds_least a_t_bounds_most a_t_graph a_t_graph_arcs a_t_graph_weight a_t_home a_t_link a_t_sum t_cut t_over t_bounds_k t_bounds_least t_bounds_most t_graph_size t_graph_arcs t_graph_weight t_home t_link t_sum) s.heap.size = A at hD ⊢
  have hA : ∀ q : Nat, s.heap.size ≤ q → A q := fun q h => by rw [← hAe]; exact Or.inr h
  obtain ⟨H, hH⟩ : ∃ H : Heap, H = s.heap := ⟨_, rfl⟩
  have hS : va_S A s.heap H [] := by rw [hH]; exact va_S.rf
  have hl := lv_entry (([.ref a_t] : List Value)) (n := 2) (Nat.le_of_ble_eq_true rfl)
  rw [lg_entry_eq]
  generalize (lg_sl (([.ref a_t] : List Value)) ++ List.replicate (2 - (lg_sl (([.ref a_t] : List Value))).length) Slot.unset).toArray = ls at hl ⊢
  have hl : lv_has ls 2 [(0, .ref a_t)] := hl
  rw [← hH] at hP ⊢
  have hP : va_P (dC, dI) clsL (wd_Sp_recount cI cZ a_t a_t_bounds a_t_bounds_least a_t_bounds_most a_t_graph a_t_graph_arcs a_t_graph_weight a_t_home a_t_link a_t_sum t_cut t_over t_bounds_k t_bounds_least t_bounds_most t_graph_size t_graph_arcs t_graph_weight t_home t_link t_sum) H := hP
  unfold f_Sp_recount at hf
  have h23 : ∀ (n23 : Nat) (x1 : Int32) (t_cut : Int32) (t_link : Nat → Int32) (t_sum : Nat → Int32) (ls : Array Slot) (H : Heap) (locs : List Loc), L_Sp_recount_23 t_bounds_k t_bounds_least t_bounds_most t_graph_size t_graph_arcs t_graph_weight t_home n23 x1 t_cut t_link t_sum = some out → lv_has ls 2 [(0, .ref a_t), (1, .int x1)] → va_P (dC, dI) clsL (wd_Sp_recount cI cZ a_t a_t_bounds a_t_bounds_least a_t_bounds_most a_t_graph a_t_graph_arcs a_t_graph_weight a_t_home a_t_link a_t_sum t_cut t_over t_bounds_k t_bounds_least t_bounds_most t_graph_size t_graph_arcs t_graph_weight t_home t_link t_sum) H → va_D A (wd_Sp_recount cI cZ a_t a_t_bounds a_t_bounds_least a_t_bounds_most a_t_graph a_t_graph_arcs a_t_graph_weight a_t_home a_t_link a_t_sum t_cut t_over t_bounds_k t_bounds_least t_bounds_most t_graph_size t_graph_arcs t_graph_weight t_home t_link t_sum) → va_S A s.heap H locs → W p l e (headSpec wq_Sp_recount ({ frames := 2, cells := 0, slots := 0, locals := 45 })).room s m ([.ref a_t] : List Value).toArray below meth c H locs 0 0 (MQ below (va_Qv (fun _ : Unit => True) (fun _ => pst (dC, dI) A (wd_Sp_recount cI cZ a_t a_t_bounds a_t_bounds_least a_t_bounds_most a_t_graph a_t_graph_arcs a_t_graph_weight a_t_home a_t_link a_t_sum out.1 out.2.1 t_bounds_k t_bounds_least t_bounds_most t_graph_size t_graph_arcs t_graph_weight t_home out.2.2.1 out.2.2.2)) A) ([.ref a_t] : List Value).toArray s 0 0 A) (F0 m 23 ls []) := by
    intro n23
    induction n23 with
    | zero =>
      intro x1 t_cut t_link t_sum ls H locs hf
      rw [L_Sp_recount_23] at hf
      exact absurd hf (fun h => by cases h)
    | succ n23 ih23 =>
      intro x1 t_cut t_link t_sum ls H locs hf hl hP hD hS
      rw [L_Sp_recount_23] at hf
      have h75 : ∀ (n75 : Nat) (x1 : Int32) (t_cut : Int32) (t_over : Int32) (t_link : Nat → Int32) (t_sum : Nat → Int32) (ls : Array Slot) (H : Heap) (locs : List Loc), L_Sp_recount_75 t_bounds_k t_bounds_least t_bounds_most n75 x1 t_cut t_over t_link t_sum = some out → lv_has ls 2 [(0, .ref a_t), (1, .int x1)] → va_P (dC, dI) clsL (wd_Sp_recount cI cZ a_t a_t_bounds a_t_bounds_least a_t_bounds_most a_t_graph a_t_graph_arcs a_t_graph_weight a_t_home a_t_link a_t_sum t_cut t_over t_bounds_k t_bounds_least t_bounds_most t_graph_size t_graph_arcs t_graph_weight t_home t_link t_sum) H → va_D A (wd_Sp_recount cI cZ a_t a_t_bounds a_t_bounds_least a_t_bounds_most a_t_graph a_t_graph_arcs a_t_graph_weight a_t_home a_t_link a_t_sum t_cut t_over t_bounds_k t_bounds_least t_bounds_most t_graph_size t_graph_arcs t_graph_weight t_home t_link t_sum) → va_S A s.heap H locs → W p l e (headSpec wq_Sp_recount ({ frames := 2, cells := 0, slots := 0, locals := 45 })).room s m ([.ref a_t] : List Value).toArray below meth c H locs 0 0 (MQ below (va_Qv (fun _ : Unit => True) (fun _ => pst (dC, dI) A (wd_Sp_recount cI cZ a_t a_t_bounds a_t_bounds_least a_t_bounds_most a_t_graph a_t_graph_arcs a_t_graph_weight a_t_home a_t_link a_t_sum out.1 out.2.1 t_bounds_k t_bounds_least t_bounds_most t_graph_size t_graph_arcs t_graph_weight t_home out.2.2.1 out.2.2.2)) A) ([.ref a_t] : List Value).toArray s 0 0 A) (F0 m 75 ls []) := by
        intro n75
        induction n75 with
        | zero =>
          intro x1 t_cut t_over t_link t_sum ls H locs hf
          rw [L_Sp_recount_75] at hf
          exact absurd hf (fun h => by cases h)
        | succ n75 ih75 =>
          intro x1 t_cut t_over t_link t_sum ls H locs hf hl hP hD hS
          rw [L_Sp_recount_75] at hf
          refine lv_iload_n hx hb dd_Sp_recount_75 rfl (lv_at hl 1 rfl) ?_
          refine lv_aload_n hx hb dd_Sp_recount_76 rfl (lv_at hl 0 rfl) ?_
          refine va_get (D := (dC, dI)) (ci := 7) (v := .ref a_t_bounds) (C := rr_Sp) (T := tt_Sp) (N := 7) hx hb hts (fun w h => gwc (inn_Sp w h)) hown hK hP 0 rfl rfl 1 (by decide) (hts _ (gwc gw_138)) (fun _ h9 => h9) rfl dd_Sp_recount_77 ?_
          refine va_get (D := (dC, dI)) (ci := 0) (v := .int t_bounds_k) (C := rr_Bo) (T := tt_Bo) (N := 3) hx hb hts (fun w h => gwc (inn_Bo w h)) hown hK hP 1 rfl rfl 0 (by decide) (hts _ (gwc gw_115)) (fun _ h9 => h9) rfl dd_Sp_recount_80 ?_
          refine lv_icmp_ge (tgt := 115) hx hb dd_Sp_recount_83 (by decide) (fun cc => ?_) (fun cc => ?_)
          · skip
            have hf := if_t cc hf
            cases hf
            exact W.vret hx hb hr (fun t ht hW => ⟨⟨(), rfl, trivial, pst_of ht hP hD⟩, hS.F ht⟩) hS.2.2 dd_Sp_recount_115
          · skip
            have hf := if_f cc hf
            refine lv_aload_n hx hb dd_Sp_recount_86 rfl (lv_at hl 0 rfl) ?_
            refine lv_dup hx hb dd_Sp_recount_87 rfl ?_
            refine va_get (D := (dC, dI)) (ci := 7) (v := .int t_over) (C := rr_Sp) (T := tt_Sp) (N := 7) hx hb hts (fun w h => gwc (inn_Sp w h)) hown hK hP 0 rfl rfl 6 (by decide) (hts _ (gwc gw_153)) (fun _ h9 => h9) rfl dd_Sp_recount_88 ?_
            refine lv_aload_n hx hb dd_Sp_recount_91 rfl (lv_at hl 0 rfl) ?_
            refine va_get (D := (dC, dI)) (ci := 7) (v := .ref a_t_bounds) (C := rr_Sp) (T := tt_Sp) (N := 7) hx hb hts (fun w h => gwc (inn_Sp w h)) hown hK hP 0 rfl rfl 1 (by decide) (hts _ (gwc gw_138)) (fun _ h9 => h9) rfl dd_Sp_recount_92 ?_
            refine lv_iload_n hx hb dd_Sp_recount_95 rfl (lv_at hl 1 rfl) ?_
            refine lv_aload_n hx hb dd_Sp_recount_96 rfl (lv_at hl 0 rfl) ?_
            refine va_get (D := (dC, dI)) (ci := 7) (v := .ref a_t_sum) (C := rr_Sp) (T := tt_Sp) (N := 7) hx hb hts (fun w h => gwc (inn_Sp w h)) hown hK hP 0 rfl rfl 3 (by decide) (hts _ (gwc gw_147)) (fun _ h9 => h9) rfl dd_Sp_recount_97 ?_
            refine lv_iload_n hx hb dd_Sp_recount_100 rfl (lv_at hl 1 rfl) ?_
            obtain ⟨k101, hf⟩ := ck_some hf
            refine va_iald hx hb hK hP 9 0 rfl rfl (okb_in k101) dd_Sp_recount_101 ?_
            obtain ⟨r102, hr102, hf⟩ := bind_some hf
            refine xcalli (rest := [.int t_over, .ref a_t]) (wc := (wd_Bo_miss cI cZ a_t_bounds a_t_bounds_least a_t_bounds_most t_bounds_k t_bounds_least t_bounds_most)) (w1 := (wd_Bo_miss cI cZ a_t_bounds a_t_bounds_least a_t_bounds_most t_bounds_k t_bounds_least t_bounds_most)) (wr := [(a_t, .inr (7, [.ref a_t_graph, .ref a_t_bounds, .ref a_t_home, .ref a_t_sum, .ref a_t_link, .int t_cut, .int t_over])), (a_t_graph, .inr (1, [.int t_graph_size, .ref a_t_graph_weight, .ref a_t_graph_arcs])), (a_t_graph_arcs, .inl (cI, 1600, .inl t_graph_arcs)), (a_t_graph_weight, .inl (cI, 40, .inl t_graph_weight)), (a_t_home, .inl (cI, 40, .inl t_home)), (a_t_link, .inl (cI, 160, .inl t_link)), (a_t_sum, .inl (cI, 4, .inl t_sum))]) (ws' := (wd_Sp_recount cI cZ a_t a_t_bounds a_t_bounds_least a_t_bounds_most a_t_graph a_t_graph_arcs a_t_graph_weight a_t_home a_t_link a_t_sum t_cut t_over t_bounds_k t_bounds_least t_bounds_most t_graph_size t_graph_arcs t_graph_weight t_home t_link t_sum)) (va_runV (As := [.int x1, .int (t_sum (x1).toNatClampNeg)]) ⟨hx, hb, hml, hown, hts⟩ (c_Bo_miss l dC dI cI cZ a_t_bounds a_t_bounds_least a_t_bounds_most H.size x1 (t_sum (x1).toNatClampNeg) t_bounds_k t_bounds_least t_bounds_most r102 hr102) (cwV 2 hts (gV gw_377 gw_378 gw_379 gw_55 gw_380) rfl rfl rfl (yd_Bo_miss) ⟨Nat.le_of_ble_eq_true rfl, Nat.le_of_ble_eq_true rfl⟩) (mkV hK (hP.sub (ws' := (wd_Bo_miss cI cZ a_t_bounds a_t_bounds_least a_t_bounds_most t_bounds_k t_bounds_least t_bounds_most)) [1, 2, 3] rfl) (hD.sub (ws' := (wd_Bo_miss cI cZ a_t_bounds a_t_bounds_least a_t_bounds_most t_bounds_k t_bounds_least t_bounds_most)) [1, 2, 3] (by decide) rfl) hN (va_recv hK hP (ci := 0) (q0 := 1) rfl rfl)) rfl rfl hl.1 rfl (lv_room (Nat.le_of_ble_eq_true rfl)) dd_Sp_recount_102 ⟨Nat.zero_le _, Nat.zero_le _⟩) hP hD hS hA [1, 2, 3] [0, 4, 5, 6, 7, 8, 9] [0, 7, 8, 9, 1, 2, 3, 4, 5, 6] rfl rfl (by decide) (by decide) rfl (by decide) rfl (fun H locs hP hD hS => ?_)
            refine lv_iadd hx hb dd_Sp_recount_105 ?_
            refine va_put (D := (dC, dI)) (ci := 7) (v := .int (t_over + r102)) (ty := .int) (C := rr_Sp) (T := tt_Sp) (N := 7) hx hb hts (fun w h => gwc (inn_Sp w h)) tf_Sp to_Sp tn_Sp hown hK hP hD hS 0 rfl rfl 6 (by decide) (hts _ (gwc gw_153)) (fun _ h9 => h9) rfl (by decide +kernel) rfl rfl (Nat.le_of_ble_eq_true rfl) dd_Sp_recount_106 (fun H locs hP hD hS => ?_)
            have hP : va_P (dC, dI) clsL (wd_Sp_recount cI cZ a_t a_t_bounds a_t_bounds_least a_t_bounds_most a_t_graph a_t_graph_arcs a_t_graph_weight a_t_home a_t_link a_t_sum t_cut (t_over + r102) t_bounds_k t_bounds_least t_bounds_most t_graph_size t_graph_arcs t_graph_weight t_home t_link t_sum) H := hP
            have hD : va_D A (wd_Sp_recount cI cZ a_t a_t_bounds a_t_bounds_least a_t_bounds_most a_t_graph a_t_graph_arcs a_t_graph_weight a_t_home a_t_link a_t_sum t_cut (t_over + r102) t_bounds_k t_bounds_least t_bounds_most t_graph_size t_graph_arcs t_graph_weight t_home t_link t_sum) := hD
            refine lv_iinc (v := x1 + 1) (lv' := [(1, .int (x1 + 1)), (0, .ref a_t)]) hx hb dd_Sp_recount_109 hl (k := 1) rfl rfl (by decide) rfl (fun ls hl => ?_)
            refine lv_goto (tgt := 75) hx hb dd_Sp_recount_112 (by decide) ?_
            exact ih75 (x1 + 1) t_cut (t_over + r102) t_link t_sum _ _ _ hf (lv_sub hl [1, 0] rfl) hP hD hS
      refine lv_iload_n hx hb dd_Sp_recount_23 rfl (lv_at hl 1 rfl) ?_
      refine lv_aload_n hx hb dd_Sp_recount_24 rfl (lv_at hl 0 rfl) ?_
      refine va_get (D := (dC, dI)) (ci := 7) (v := .ref a_t_graph) (C := rr_Sp) (T := tt_Sp) (N := 7) hx hb hts (fun w h => gwc (inn_Sp w h)) hown hK hP 0 rfl rfl 0 (by decide) (hts _ (gwc gw_133)) (fun _ h9 => h9) rfl dd_Sp_recount_25 ?_
      refine va_get (D := (dC, dI)) (ci := 1) (v := .int t_graph_size) (C := rr_Gr) (T := tt_Gr) (N := 3) hx hb hts (fun w h => gwc (inn_Gr w h)) hown hK hP 4 rfl rfl 0 (by decide) (hts _ (gwc gw_88)) (fun _ h9 => h9) rfl dd_Sp_recount_28 ?_
      refine lv_icmp_ge (tgt := 68) hx hb dd_Sp_recount_31 (by decide) (fun cc => ?_) (fun cc => ?_)
      · skip
        have hf := if_t cc hf
        refine lv_aload_n hx hb dd_Sp_recount_68 rfl (lv_at hl 0 rfl) ?_
        refine lv_iconst (v := 0) hx hb dd_Sp_recount_69 (by decide) ?_
        refine va_put (D := (dC, dI)) (ci := 7) (v := .int 0) (ty := .int) (C := rr_Sp) (T := tt_Sp) (N := 7) hx hb hts (fun w h => gwc (inn_Sp w h)) tf_Sp to_Sp tn_Sp hown hK hP hD hS 0 rfl rfl 6 (by decide) (hts _ (gwc gw_153)) (fun _ h9 => h9) rfl (by decide +kernel) rfl rfl (Nat.le_of_ble_eq_true rfl) dd_Sp_recount_70 (fun H locs hP hD hS => ?_)
        have hP : va_P (dC, dI) clsL (wd_Sp_recount cI cZ a_t a_t_bounds a_t_bounds_least a_t_bounds_most a_t_graph a_t_graph_arcs a_t_graph_weight a_t_home a_t_link a_t_sum t_cut 0 t_bounds_k t_bounds_least t_bounds_most t_graph_size t_graph_arcs t_graph_weight t_home t_link t_sum) H := hP
        have hD : va_D A (wd_Sp_recount cI cZ a_t a_t_bounds a_t_bounds_least a_t_bounds_most a_t_graph a_t_graph_arcs a_t_graph_weight a_t_home a_t_link a_t_sum t_cut 0 t_bounds_k t_bounds_least t_bounds_most t_graph_size t_graph_arcs t_graph_weight t_home t_link t_sum) := hD
        refine lv_iconst (v := 0) hx hb dd_Sp_recount_73 (by decide) ?_
        refine lv_istore_n (lv' := [(1, .int 0), (0, .ref a_t)]) hx hb dd_Sp_recount_74 rfl hl (by decide) rfl (fun ls hl => ?_)
        exact h75 64 0 t_cut 0 t_link t_sum _ _ _ hf (lv_sub hl [1, 0] rfl) hP hD hS
      · skip
        have hf := if_f cc hf
        refine lv_aload_n hx hb dd_Sp_recount_34 rfl (lv_at hl 0 rfl) ?_
        refine va_get (D := (dC, dI)) (ci := 7) (v := .ref a_t_sum) (C := rr_Sp) (T := tt_Sp) (N := 7) hx hb hts (fun w h => gwc (inn_Sp w h)) hown hK hP 0 rfl rfl 3 (by decide) (hts _ (gwc gw_147)) (fun _ h9 => h9) rfl dd_Sp_recount_35 ?_
        refine lv_aload_n hx hb dd_Sp_recount_38 rfl (lv_at hl 0 rfl) ?_
        refine va_get (D := (dC, dI)) (ci := 7) (v := .ref a_t_home) (C := rr_Sp) (T := tt_Sp) (N := 7) hx hb hts (fun w h => gwc (inn_Sp w h)) hown hK hP 0 rfl rfl 2 (by decide) (hts _ (gwc gw_142)) (fun _ h9 => h9) rfl dd_Sp_recount_39 ?_
        refine lv_iload_n hx hb dd_Sp_recount_42 rfl (lv_at hl 1 rfl) ?_
        obtain ⟨k43, hf⟩ := ck_some hf
        refine va_iald hx hb hK hP 7 0 rfl rfl (okb_in k43) dd_Sp_recount_43 ?_
        refine lv_dup2_11 hx hb dd_Sp_recount_44 rfl rfl ?_
        obtain ⟨k45, hf⟩ := ck_some hf
        refine va_iald hx hb hK hP 9 0 rfl rfl (okb_in k45) dd_Sp_recount_45 ?_
        refine lv_aload_n hx hb dd_Sp_recount_46 rfl (lv_at hl 0 rfl) ?_
        refine va_get (D := (dC, dI)) (ci := 7) (v := .ref a_t_graph) (C := rr_Sp) (T := tt_Sp) (N := 7) hx hb hts (fun w h => gwc (inn_Sp w h)) hown hK hP 0 rfl rfl 0 (by decide) (hts _ (gwc gw_133)) (fun _ h9 => h9) rfl dd_Sp_recount_47 ?_
        refine va_get (D := (dC, dI)) (ci := 1) (v := .ref a_t_graph_weight) (C := rr_Gr) (T := tt_Gr) (N := 3) hx hb hts (fun w h => gwc (inn_Gr w h)) hown hK hP 4 rfl rfl 1 (by decide) (hts _ (gwc gw_94)) (fun _ h9 => h9) rfl dd_Sp_recount_50 ?_
        refine lv_iload_n hx hb dd_Sp_recount_53 rfl (lv_at hl 1 rfl) ?_
        obtain ⟨k54, hf⟩ := ck_some hf
        refine va_iald hx hb hK hP 6 0 rfl rfl (okb_in k54) dd_Sp_recount_54 ?_
        refine lv_iadd hx hb dd_Sp_recount_55 ?_
        obtain ⟨k56, hf⟩ := ck_some hf
        refine va_iast hx hb hK hP hD hS 9 0 rfl rfl (okb_in k56) dd_Sp_recount_56 (fun H locs hP hD hS => ?_)
        have hP : va_P (dC, dI) clsL (wd_Sp_recount cI cZ a_t a_t_bounds a_t_bounds_least a_t_bounds_most a_t_graph a_t_graph_arcs a_t_graph_weight a_t_home a_t_link a_t_sum t_cut t_over t_bounds_k t_bounds_least t_bounds_most t_graph_size t_graph_arcs t_graph_weight t_home t_link (upd t_sum (t_home (x1).toNatClampNeg).toNatClampNeg ((t_sum (t_home (x1).toNatClampNeg).toNatClampNeg) + (t_graph_weight (x1).toNatClampNeg)))) H := hP
        have hD : va_D A (wd_Sp_recount cI cZ a_t a_t_bounds a_t_bounds_least a_t_bounds_most a_t_graph a_t_graph_arcs a_t_graph_weight a_t_home a_t_link a_t_sum t_cut t_over t_bounds_k t_bounds_least t_bounds_most t_graph_size t_graph_arcs t_graph_weight t_home t_link (upd t_sum (t_home (x1).toNatClampNeg).toNatClampNeg ((t_sum (t_home (x1).toNatClampNeg).toNatClampNeg) + (t_graph_weight (x1).toNatClampNeg)))) := hD
        refine lv_aload_n hx hb dd_Sp_recount_57 rfl (lv_at hl 0 rfl) ?_
        refine lv_iload_n hx hb dd_Sp_recount_58 rfl (lv_at hl 1 rfl) ?_
        obtain ⟨r59, hr59, hf⟩ := bind_some hf
        refine xcallv (rest := []) (wc := (wd_Sp_recountLinks cI cZ a_t a_t_graph a_t_graph_arcs a_t_home a_t_link a_t_bounds a_t_sum a_t_graph_weight t_cut t_over t_graph_size t_graph_arcs t_home t_link)) (w1 := (wd_Sp_recountLinks cI cZ a_t a_t_graph a_t_graph_arcs a_t_home a_t_link a_t_bounds a_t_sum a_t_graph_weight r59.1 t_over t_graph_size t_graph_arcs t_home r59.2)) (wr := [(a_t_bounds, .inr (0, [.int t_bounds_k, .ref a_t_bounds_least, .ref a_t_bounds_most])), (a_t_bounds_least, .inl (cI, 4, .inl t_bounds_least)), (a_t_bounds_most, .inl (cI, 4, .inl t_bounds_most)), (a_t_graph_weight, .inl (cI, 40, .inl t_graph_weight)), (a_t_sum, .inl (cI, 4, .inl (upd t_sum (t_home (x1).toNatClampNeg).toNatClampNeg ((t_sum (t_home (x1).toNatClampNeg).toNatClampNeg) + (t_graph_weight (x1).toNatClampNeg)))))]) (ws' := (wd_Sp_recount cI cZ a_t a_t_bounds a_t_bounds_least a_t_bounds_most a_t_graph a_t_graph_arcs a_t_graph_weight a_t_home a_t_link a_t_sum r59.1 t_over t_bounds_k t_bounds_least t_bounds_most t_graph_size t_graph_arcs t_graph_weight t_home r59.2 (upd t_sum (t_home (x1).toNatClampNeg).toNatClampNeg ((t_sum (t_home (x1).toNatClampNeg).toNatClampNeg) + (t_graph_weight (x1).toNatClampNeg))))) (va_runV (As := [.int x1]) ⟨hx, hb, hml, hown, hts⟩ (c_Sp_recountLinks l dC dI cI cZ a_t a_t_graph a_t_graph_arcs a_t_home a_t_link a_t_bounds a_t_sum a_t_graph_weight H.size x1 t_cut t_over t_graph_size t_graph_arcs t_home t_link r59 hr59) (cwV 1 hts (gV gw_372 gw_374 gw_1 gw_53 gw_375) rfl rfl rfl (yd_Sp_recountLinks) ⟨Nat.le_of_ble_eq_true rfl, Nat.le_of_ble_eq_true rfl⟩) (mkV hK (hP.sub (ws' := (wd_Sp_recountLinks cI cZ a_t a_t_graph a_t_graph_arcs a_t_home a_t_link a_t_bounds a_t_sum a_t_graph_weight t_cut t_over t_graph_size t_graph_arcs t_home t_link)) [0, 4, 5, 7, 8] rfl) (hD.sub (ws' := (wd_Sp_recountLinks cI cZ a_t a_t_graph a_t_graph_arcs a_t_home a_t_link a_t_bounds a_t_sum a_t_graph_weight t_cut t_over t_graph_size t_graph_arcs t_home t_link)) [0, 4, 5, 7, 8] (by decide) rfl) hN (va_recv hK hP (ci := 7) (q0 := 0) rfl rfl)) rfl rfl hl.1 rfl (lv_room (Nat.le_of_ble_eq_true rfl)) dd_Sp_recount_59 ⟨Nat.zero_le _, Nat.zero_le _⟩) hP hD hS hA [0, 4, 5, 7, 8] [1, 2, 3, 6, 9] [5, 0, 1, 2, 6, 7, 3, 8, 9, 4] rfl rfl (by decide) (by decide) rfl (by decide) rfl (fun H locs hP hD hS => ?_)
        refine lv_iinc (v := x1 + 1) (lv' := [(1, .int (x1 + 1)), (0, .ref a_t)]) hx hb dd_Sp_recount_62 hl (k := 1) rfl rfl (by decide) rfl (fun ls hl => ?_)
        refine lv_goto (tgt := 23) hx hb dd_Sp_recount_65 (by decide) ?_
        exact ih23 (x1 + 1) r59.1 r59.2 (upd t_sum (t_home (x1).toNatClampNeg).toNatClampNeg ((t_sum (t_home (x1).toNatClampNeg).toNatClampNeg) + (t_graph_weight (x1).toNatClampNeg))) _ _ _ hf (lv_sub hl [1, 0] rfl) hP hD hS
  refine lv_aload_n hx hb dd_Sp_recount_0 rfl (lv_at hl 0 rfl) ?_
  refine va_get (D := (dC, dI)) (ci := 7) (v := .ref a_t_sum) (C := rr_Sp) (T := tt_Sp) (N := 7) hx hb hts (fun w h => gwc (inn_Sp w h)) hown hK hP 0 rfl rfl 3 (by decide) (hts _ (gwc gw_147)) (fun _ h9 => h9) rfl dd_Sp_recount_1 ?_
  refine lv_iconst (v := 0) hx hb dd_Sp_recount_4 (by decide) ?_
  refine xcallv (rest := []) (wc := [(a_t_sum, .inl (cI, 4, .inl t_sum))]) (w1 := [(a_t_sum, .inl (cI, 4, .inl (fun _ => 0)))]) (wr := [(a_t, .inr (7, [.ref a_t_graph, .ref a_t_bounds, .ref a_t_home, .ref a_t_sum, .ref a_t_link, .int t_cut, .int t_over])), (a_t_bounds, .inr (0, [.int t_bounds_k, .ref a_t_bounds_least, .ref a_t_bounds_most])), (a_t_bounds_least, .inl (cI, 4, .inl t_bounds_least)), (a_t_bounds_most, .inl (cI, 4, .inl t_bounds_most)), (a_t_graph, .inr (1, [.int t_graph_size, .ref a_t_graph_weight, .ref a_t_graph_arcs])), (a_t_graph_arcs, .inl (cI, 1600, .inl t_graph_arcs)), (a_t_graph_weight, .inl (cI, 40, .inl t_graph_weight)), (a_t_home, .inl (cI, 40, .inl t_home)), (a_t_link, .inl (cI, 160, .inl t_link))]) (ws' := (wd_Sp_recount cI cZ a_t a_t_bounds a_t_bounds_least a_t_bounds_most a_t_graph a_t_graph_arcs a_t_graph_weight a_t_home a_t_link a_t_sum t_cut t_over t_bounds_k t_bounds_least t_bounds_most t_graph_size t_graph_arcs t_graph_weight t_home t_link (fun _ => 0))) (va_runS (As := [.ref a_t_sum, .int 0]) ⟨hx, hb, hml, hown, hts⟩ (c_fill l dC dI cI cZ a_t_sum H.size 4 (by decide) t_sum 0) (va_cwS 2 hts (gS gw_371 gw_339 gw_62 gw_340) rfl rfl rfl yd_fill ⟨Nat.le_of_ble_eq_true rfl, Nat.le_of_ble_eq_true rfl⟩) (mkS hK (hP.sub (ws' := [(a_t_sum, .inl (cI, 4, .inl t_sum))]) [9] rfl) (hD.sub (ws' := [(a_t_sum, .inl (cI, 4, .inl t_sum))]) [9] (by decide) rfl) hN) rfl rfl hl.1 rfl (lv_room (Nat.le_of_ble_eq_true rfl)) dd_Sp_recount_5 ⟨Nat.zero_le _, Nat.zero_le _⟩) hP hD hS hA [9] [0, 1, 2, 3, 4, 5, 6, 7, 8] [0, 1, 2, 3, 4, 5, 6, 7, 8, 9] rfl rfl (by decide) (by decide) rfl (by decide) rfl (fun H locs hP hD hS => ?_)
  have hP : va_P (dC, dI) clsL (wd_Sp_recount cI cZ a_t a_t_bounds a_t_bounds_least a_t_bounds_most a_t_graph a_t_graph_arcs a_t_graph_weight a_t_home a_t_link a_t_sum t_cut t_over t_bounds_k t_bounds_least t_bounds_most t_graph_size t_graph_arcs t_graph_weight t_home t_link (fun _ => 0)) H := hP
  have hD : va_D A (wd_Sp_recount cI cZ a_t a_t_bounds a_t_bounds_least a_t_bounds_most a_t_graph a_t_graph_arcs a_t_graph_weight a_t_home a_t_link a_t_sum t_cut t_over t_bounds_k t_bounds_least t_bounds_most t_graph_size t_graph_arcs t_graph_weight t_home t_link (fun _ => 0)) := hD
  refine lv_aload_n hx hb dd_Sp_recount_8 rfl (lv_at hl 0 rfl) ?_
  refine va_get (D := (dC, dI)) (ci := 7) (v := .ref a_t_link) (C := rr_Sp) (T := tt_Sp) (N := 7) hx hb hts (fun w h => gwc (inn_Sp w h)) hown hK hP 0 rfl rfl 4 (by decide) (hts _ (gwc gw_149)) (fun _ h9 => h9) rfl dd_Sp_recount_9 ?_
  refine lv_iconst (v := 0) hx hb dd_Sp_recount_12 (by decide) ?_
  refine xcallv (rest := []) (wc := [(a_t_link, .inl (cI, 160, .inl t_link))]) (w1 := [(a_t_link, .inl (cI, 160, .inl (fun _ => 0)))]) (wr := [(a_t, .inr (7, [.ref a_t_graph, .ref a_t_bounds, .ref a_t_home, .ref a_t_sum, .ref a_t_link, .int t_cut, .int t_over])), (a_t_bounds, .inr (0, [.int t_bounds_k, .ref a_t_bounds_least, .ref a_t_bounds_most])), (a_t_bounds_least, .inl (cI, 4, .inl t_bounds_least)), (a_t_bounds_most, .inl (cI, 4, .inl t_bounds_most)), (a_t_graph, .inr (1, [.int t_graph_size, .ref a_t_graph_weight, .ref a_t_graph_arcs])), (a_t_graph_arcs, .inl (cI, 1600, .inl t_graph_arcs)), (a_t_graph_weight, .inl (cI, 40, .inl t_graph_weight)), (a_t_home, .inl (cI, 40, .inl t_home)), (a_t_sum, .inl (cI, 4, .inl (fun _ => 0)))]) (ws' := (wd_Sp_recount cI cZ a_t a_t_bounds a_t_bounds_least a_t_bounds_most a_t_graph a_t_graph_arcs a_t_graph_weight a_t_home a_t_link a_t_sum t_cut t_over t_bounds_k t_bounds_least t_bounds_most t_graph_size t_graph_arcs t_graph_weight t_home (fun _ => 0) (fun _ => 0))) (va_runS (As := [.ref a_t_link, .int 0]) ⟨hx, hb, hml, hown, hts⟩ (c_fill l dC dI cI cZ a_t_link H.size 160 (by decide) t_link 0) (va_cwS 2 hts (gS gw_371 gw_339 gw_62 gw_340) rfl rfl rfl yd_fill ⟨Nat.le_of_ble_eq_true rfl, Nat.le_of_ble_eq_true rfl⟩) (mkS hK (hP.sub (ws' := [(a_t_link, .inl (cI, 160, .inl t_link))]) [8] rfl) (hD.sub (ws' := [(a_t_link, .inl (cI, 160, .inl t_link))]) [8] (by decide) rfl) hN) rfl rfl hl.1 rfl (lv_room (Nat.le_of_ble_eq_true rfl)) dd_Sp_recount_13 ⟨Nat.zero_le _, Nat.zero_le _⟩) hP hD hS hA [8] [0, 1, 2, 3, 4, 5, 6, 7, 9] [0, 1, 2, 3, 4, 5, 6, 7, 9, 8] rfl rfl (by decide) (by decide) rfl (by decide) rfl (fun H locs hP hD hS => ?_)
  have hP : va_P (dC, dI) clsL (wd_Sp_recount cI cZ a_t a_t_bounds a_t_bounds_least a_t_bounds_most a_t_graph a_t_graph_arcs a_t_graph_weight a_t_home a_t_link a_t_sum t_cut t_over t_bounds_k t_bounds_least t_bounds_most t_graph_size t_graph_arcs t_graph_weight t_home (fun _ => 0) (fun _ => 0)) H := hP
  have hD : va_D A (wd_Sp_recount cI cZ a_t a_t_bounds a_t_bounds_least a_t_bounds_most a_t_graph a_t_graph_arcs a_t_graph_weight a_t_home a_t_link a_t_sum t_cut t_over t_bounds_k t_bounds_least t_bounds_most t_graph_size t_graph_arcs t_graph_weight t_home (fun _ => 0) (fun _ => 0)) := hD
  refine lv_aload_n hx hb dd_Sp_recount_16 rfl (lv_at hl 0 rfl) ?_
  refine lv_iconst (v := 0) hx hb dd_Sp_recount_17 (by decide) ?_
  refine va_put (D := (dC, dI)) (ci := 7) (v := .int 0) (ty := .int) (C := rr_Sp) (T := tt_Sp) (N := 7) hx hb hts (fun w h => gwc (inn_Sp w h)) tf_Sp to_Sp tn_Sp hown hK hP hD hS 0 rfl rfl 5 (by decide) (hts _ (gwc gw_150)) (fun _ h9 => h9) rfl (by decide +kernel) rfl rfl (Nat.le_of_ble_eq_true rfl) dd_Sp_recount_18 (fun H locs hP hD hS => ?_)
  have hP : va_P (dC, dI) clsL (wd_Sp_recount cI cZ a_t a_t_bounds a_t_bounds_least a_t_bounds_most a_t_graph a_t_graph_arcs a_t_graph_weight a_t_home a_t_link a_t_sum 0 t_over t_bounds_k t_bounds_least t_bounds_most t_graph_size t_graph_arcs t_graph_weight t_home (fun _ => 0) (fun _ => 0)) H := hP
  have hD : va_D A (wd_Sp_recount cI cZ a_t a_t_bounds a_t_bounds_least a_t_bounds_most a_t_graph a_t_graph_arcs a_t_graph_weight a_t_home a_t_link a_t_sum 0 t_over t_bounds_k t_bounds_least t_bounds_most t_graph_size t_graph_arcs t_graph_weight t_home (fun _ => 0) (fun _ => 0)) := hD
  refine lv_iconst (v := 0) hx hb dd_Sp_recount_21 (by decide) ?_
  refine lv_istore_n (lv' := [(1, .int 0), (0, .ref a_t)]) hx hb dd_Sp_recount_22 rfl hl (by decide) rfl (fun ls hl => ?_)
  exact h23 64 0 0 (fun _ => 0) (fun _ => 0) _ _ _ hf (lv_sub hl [1, 0] rfl) hP hD hS
abbrev wd_Sp_overBehind (cI cZ : ClassId) (a_t a_t_bounds a_t_bounds_least a_t_bounds_most a_t_graph a_t_graph_weight a_t_home a_t_sum a_t_link a_t_graph_arcs : Nat) (t_cut : Int32) (t_over : Int32) (t_bounds_k : Int32) (t_bounds_least : Nat → Int32) (t_bounds_most : Nat → Int32) (t_graph_size : Int32) (t_graph_weight : Nat → Int32) (t_home : Nat → Int32) (t_sum : Nat → Int32) : va_W := [(a_t, .inr (7, [.ref a_t_graph, .ref a_t_bounds, .ref a_t_home, .ref a_t_sum, .ref a_t_link, .int t_cut, .int t_over])), (a_t_bounds, .inr (0, [.int t_bounds_k, .ref a_t_bounds_least, .ref a_t_bounds_most])), (a_t_bounds_least, .inl (cI, 4, .inl t_bounds_least)), (a_t_bounds_most, .inl (cI, 4, .inl t_bounds_most)), (a_t_graph, .inr (1, [.int t_graph_size, .ref a_t_graph_weight, .ref a_t_graph_arcs])), (a_t_graph_weight, .inl (cI, 40, .inl t_graph_weight)), (a_t_home, .inl (cI, 40, .inl t_home)), (a_t_sum, .inl (cI, 4, .inl t_sum))]
set_option maxRecDepth 100000 in
set_option maxHeartbeats 4000000 in
theorem c_Sp_overBehind (l : Launch) (dC : Nat → ClassId) (dI : Nat → Nat → Nat) (cI cZ : ClassId) (a_t a_t_bounds a_t_bounds_least a_t_bounds_most a_t_graph a_t_graph_weight a_t_home a_t_sum a_t_link a_t_graph_arcs sz : Nat) (x1 : Int32) (x2 : Int32) (t_cut : Int32) (t_over : Int32) (t_bounds_k : Int32) (t_bounds_least : Nat → Int32) (t_bounds_most : Nat → Int32) (t_graph_size : Int32) (t_graph_weight : Nat → Int32) (t_home : Nat → Int32) (t_sum : Nat → Int32) (out : Int32) (hf : f_Sp_overBehind x1 x2 t_over t_bounds_least t_bounds_most t_graph_weight t_home t_sum = some out) :
    Met l yy_Sp_overBehind wq_Sp_overBehind ({ frames := 1, cells := 0, slots := 0, locals := 22 }) (va_Pc ([.ref a_t, .int x1, .int x2] : List Value) (pre_ (dC, dI) cI cZ sz (wd_Sp_overBehind cI cZ a_t a_t_bounds a_t_bounds_least a_t_bounds_most a_t_graph a_t_graph_weight a_t_home a_t_sum a_t_link a_t_graph_arcs t_cut t_over t_bounds_k t_bounds_least t_bounds_most t_graph_size t_graph_weight t_home t_sum))) (va_Qi (fun (r : Int32) (_ : Unit) => r = out) (fun _ => pst (dC, dI) (va_A (wd_Sp_overBehind cI cZ a_t a_t_bounds a_t_bounds_least a_t_bounds_most a_t_graph a_t_graph_weight a_t_home a_t_sum a_t_link a_t_graph_arcs t_cut t_over t_bounds_k t_bounds_least t_bounds_most t_graph_size t_graph_weight t_home t_sum) sz) (wd_Sp_overBehind cI cZ a_t a_t_bounds a_t_bounds_least a_t_bounds_most a_t_graph a_t_graph_weight a_t_home a_t_sum a_t_link a_t_graph_arcs t_cut t_over t_bounds_k t_bounds_least t_bounds_most t_graph_size t_graph_weight t_home t_sum)) (va_A (wd_Sp_overBehind cI cZ a_t a_t_bounds a_t_bounds_least a_t_bounds_most a_t_graph a_t_graph_weight a_t_home a_t_sum a_t_link a_t_graph_arcs t_cut t_over t_bounds_k t_bounds_least t_bounds_most t_graph_size t_graph_weight t_home t_sum) sz)) 0 0 (va_A (wd_Sp_overBehind cI cZ a_t a_t_bounds a_t_bounds_least a_t_bounds_most a_t_graph a_t_graph_weight a_t_home a_t_sum a_t_link a_t_graph_arcs t_cut t_over t_bounds_k t_bounds_least t_bounds_most t_graph_size t_graph_weight t_home t_sum) sz) := by
  refine Met.ofW (cc := cc_Sp_overBehind) (maxL := 5) (ret := (some .int)) (by decide) rfl ?_
  intro p e s m args below meth c s₁ B hml hv
  obtain ⟨rfl, hsz, hP, hK, hD0, hN⟩ := hv
  have hx := B.exec
  have hb := B.bytes
  have hr := B.returns
  have hts := atoms_spec (ws := wq_Sp_overBehind) B.pre
  have hown : s.vm.findClass rr_Sp = some m.cls := findClass_of_methodNamed B.named
  have hlocks := B.notSynchronized
  subst hsz
  have hD := hD0.self (sz := s.heap.size)
  generalize hAe : va_A (wd_Sp_overBehind cI cZ a_t a_t_bounds a_t_bounds_least a_t_bounds_most a_t_graph a_t_graph_weight a_t_home a_t_sum a_t_link a_t_graph_arcs t_cut t_over t_bounds_k t_bounds_least t_bounds_most t_graph_size t_graph_weight t_home t_sum) s.heap.size = A at hD ⊢
  have hA : ∀ q : Nat, s.heap.size ≤ q → A q := fun q h => by rw [← hAe]; exact Or.inr h
  obtain ⟨H, hH⟩ : ∃ H : Heap, H = s.heap := ⟨_, rfl⟩
  have hS : va_S A s.heap H [] := by rw [hH]; exact va_S.rf
  have hl := lv_entry (([.ref a_t, .int x1, .int x2] : List Value)) (n := 5) (Nat.le_of_ble_eq_true rfl)
  rw [lg_entry_eq]
  generalize (lg_sl (([.ref a_t, .int x1, .int x2] : List Value)) ++ List.replicate (5 - (lg_sl (([.ref a_t, .int x1, .int x2] : List Value))).length) Slot.unset).toArray = ls at hl ⊢
  have hl : lv_has ls 5 [(0, .ref a_t), (1, .int x1), (2, .int x2)] := hl
  rw [← hH] at hP ⊢
  have hP : va_P (dC, dI) clsL (wd_Sp_overBehind cI cZ a_t a_t_bounds a_t_bounds_least a_t_bounds_most a_t_graph a_t_graph_weight a_t_home a_t_sum a_t_link a_t_graph_arcs t_cut t_over t_bounds_k t_bounds_least t_bounds_most t_graph_size t_graph_weight t_home t_sum) H := hP
  unfold f_Sp_overBehind at hf
  refine lv_aload_n hx hb dd_Sp_overBehind_0 rfl (lv_at hl 0 rfl) ?_
  refine va_get (D := (dC, dI)) (ci := 7) (v := .ref a_t_home) (C := rr_Sp) (T := tt_Sp) (N := 7) hx hb hts (fun w h => gwc (inn_Sp w h)) hown hK hP 0 rfl rfl 2 (by decide) (hts _ (gwc gw_142)) (fun _ h9 => h9) rfl dd_Sp_overBehind_1 ?_
  refine lv_iload_n hx hb dd_Sp_overBehind_4 rfl (lv_at hl 1 rfl) ?_
  obtain ⟨k5, hf⟩ := ck_some hf
  refine va_iald hx hb hK hP 6 0 rfl rfl (okb_in k5) dd_Sp_overBehind_5 ?_
  refine lv_istore_n (lv' := [(3, .int (t_home (x1).toNatClampNeg)), (0, .ref a_t), (1, .int x1), (2, .int x2)]) hx hb dd_Sp_overBehind_6 rfl hl (by decide) rfl (fun ls hl => ?_)
  refine lv_iload_n hx hb dd_Sp_overBehind_7 rfl (lv_at hl 0 rfl) ?_
  refine lv_iload_n hx hb dd_Sp_overBehind_8 rfl (lv_at hl 3 rfl) ?_
  refine lv_icmp_ne (tgt := 17) hx hb dd_Sp_overBehind_9 (by decide) (fun cc => ?_) (fun cc => ?_)
  · skip
    have hf := if_f cc hf
    refine lv_aload_n hx hb dd_Sp_overBehind_17 rfl (lv_at hl 1 rfl) ?_
    refine va_get (D := (dC, dI)) (ci := 7) (v := .ref a_t_graph) (C := rr_Sp) (T := tt_Sp) (N := 7) hx hb hts (fun w h => gwc (inn_Sp w h)) hown hK hP 0 rfl rfl 0 (by decide) (hts _ (gwc gw_133)) (fun _ h9 => h9) rfl dd_Sp_overBehind_18 ?_
    refine va_get (D := (dC, dI)) (ci := 1) (v := .ref a_t_graph_weight) (C := rr_Gr) (T := tt_Gr) (N := 3) hx hb hts (fun w h => gwc (inn_Gr w h)) hown hK hP 4 rfl rfl 1 (by decide) (hts _ (gwc gw_94)) (fun _ h9 => h9) rfl dd_Sp_overBehind_21 ?_
    refine lv_iload_n hx hb dd_Sp_overBehind_24 rfl (lv_at hl 2 rfl) ?_
    obtain ⟨k25, hf⟩ := ck_some hf
    refine va_iald hx hb hK hP 5 0 rfl rfl (okb_in k25) dd_Sp_overBehind_25 ?_
    refine lv_istore (lv' := [(4, .int (t_graph_weight (x1).toNatClampNeg)), (3, .int (t_home (x1).toNatClampNeg)), (0, .ref a_t), (1, .int x1), (2, .int x2)]) hx hb dd_Sp_overBehind_26 hl (by decide) rfl (fun ls hl => ?_)
    refine lv_aload_n hx hb dd_Sp_overBehind_28 rfl (lv_at hl 2 rfl) ?_
    refine va_get (D := (dC, dI)) (ci := 7) (v := .int t_over) (C := rr_Sp) (T := tt_Sp) (N := 7) hx hb hts (fun w h => gwc (inn_Sp w h)) hown hK hP 0 rfl rfl 6 (by decide) (hts _ (gwc gw_153)) (fun _ h9 => h9) rfl dd_Sp_overBehind_29 ?_
    refine lv_aload_n hx hb dd_Sp_overBehind_32 rfl (lv_at hl 2 rfl) ?_
    refine va_get (D := (dC, dI)) (ci := 7) (v := .ref a_t_bounds) (C := rr_Sp) (T := tt_Sp) (N := 7) hx hb hts (fun w h => gwc (inn_Sp w h)) hown hK hP 0 rfl rfl 1 (by decide) (hts _ (gwc gw_138)) (fun _ h9 => h9) rfl dd_Sp_overBehind_33 ?_
    refine lv_iload_n hx hb dd_Sp_overBehind_36 rfl (lv_at hl 1 rfl) ?_
    refine lv_aload_n hx hb dd_Sp_overBehind_37 rfl (lv_at hl 2 rfl) ?_
    refine va_get (D := (dC, dI)) (ci := 7) (v := .ref a_t_sum) (C := rr_Sp) (T := tt_Sp) (N := 7) hx hb hts (fun w h => gwc (inn_Sp w h)) hown hK hP 0 rfl rfl 3 (by decide) (hts _ (gwc gw_147)) (fun _ h9 => h9) rfl dd_Sp_overBehind_38 ?_
    refine lv_iload_n hx hb dd_Sp_overBehind_41 rfl (lv_at hl 1 rfl) ?_
    obtain ⟨k42, hf⟩ := ck_some hf
    refine va_iald hx hb hK hP 7 0 rfl rfl (okb_in k42) dd_Sp_overBehind_42 ?_
    obtain ⟨r43, hr43, hf⟩ := bind_some hf
    refine xcalli (rest := [.int t_over]) (wc := (wd_Bo_miss cI cZ a_t_bounds a_t_bounds_least a_t_bounds_most t_bounds_k t_bounds_least t_bounds_most)) (w1 := (wd_Bo_miss cI cZ a_t_bounds a_t_bounds_least a_t_bounds_most t_bounds_k t_bounds_least t_bounds_most)) (wr := [(a_t, .inr (7, [.ref a_t_graph, .ref a_t_bounds, .ref a_t_home, .ref a_t_sum, .ref a_t_link, .int t_cut, .int t_over])), (a_t_graph, .inr (1, [.int t_graph_size, .ref a_t_graph_weight, .ref a_t_graph_arcs])), (a_t_graph_weight, .inl (cI, 40, .inl t_graph_weight)), (a_t_home, .inl (cI, 40, .inl t_home)), (a_t_sum, .inl (cI, 4, .inl t_sum))]) (ws' := (wd_Sp_overBehind cI cZ a_t a_t_bounds a_t_bounds_least a_t_bounds_most a_t_graph a_t_graph_weight a_t_home a_t_sum a_t_link a_t_graph_arcs t_cut t_over t_bounds_k t_bounds_least t_bounds_most t_graph_size t_graph_weight t_home t_sum)) (va_runV (As := [.int (t_home (x1).toNatClampNeg), .int (t_sum (t_home (x1).toNatClampNeg).toNatClampNeg)]) ⟨hx, hb, hml, hown, hts⟩ (c_Bo_miss l dC dI cI cZ a_t_bounds a_t_bounds_least a_t_bounds_most H.size (t_home (x1).toNatClampNeg) (t_sum (t_home (x1).toNatClampNeg).toNatClampNeg) t_bounds_k t_bounds_least t_bounds_most r43 hr43) (cwV 2 hts (gV gw_377 gw_378 gw_379 gw_55 gw_380) rfl rfl rfl (yd_Bo_miss) ⟨Nat.le_of_ble_eq_true rfl, Nat.le_of_ble_eq_true rfl⟩) (mkV hK (hP.sub (ws' := (wd_Bo_miss cI cZ a_t_bounds a_t_bounds_least a_t_bounds_most t_bounds_k t_bounds_least t_bounds_most)) [1, 2, 3] rfl) (hD.sub (ws' := (wd_Bo_miss cI cZ a_t_bounds a_t_bounds_least a_t_bounds_most t_bounds_k t_bounds_least t_bounds_most)) [1, 2, 3] (by decide) rfl) hN (va_recv hK hP (ci := 0) (q0 := 1) rfl rfl)) rfl rfl hl.1 rfl (lv_room (Nat.le_of_ble_eq_true rfl)) dd_Sp_overBehind_43 ⟨Nat.zero_le _, Nat.zero_le _⟩) hP hD hS hA [1, 2, 3] [0, 4, 5, 6, 7] [0, 5, 6, 7, 1, 2, 3, 4] rfl rfl (by decide) (by decide) rfl (by decide) rfl (fun H locs hP hD hS => ?_)
    refine lv_isub hx hb dd_Sp_overBehind_46 ?_
    refine lv_aload_n hx hb dd_Sp_overBehind_47 rfl (lv_at hl 2 rfl) ?_
    refine va_get (D := (dC, dI)) (ci := 7) (v := .ref a_t_bounds) (C := rr_Sp) (T := tt_Sp) (N := 7) hx hb hts (fun w h => gwc (inn_Sp w h)) hown hK hP 0 rfl rfl 1 (by decide) (hts _ (gwc gw_138)) (fun _ h9 => h9) rfl dd_Sp_overBehind_48 ?_
    refine lv_iload_n hx hb dd_Sp_overBehind_51 rfl (lv_at hl 4 rfl) ?_
    refine lv_aload_n hx hb dd_Sp_overBehind_52 rfl (lv_at hl 2 rfl) ?_
    refine va_get (D := (dC, dI)) (ci := 7) (v := .ref a_t_sum) (C := rr_Sp) (T := tt_Sp) (N := 7) hx hb hts (fun w h => gwc (inn_Sp w h)) hown hK hP 0 rfl rfl 3 (by decide) (hts _ (gwc gw_147)) (fun _ h9 => h9) rfl dd_Sp_overBehind_53 ?_
    refine lv_iload_n hx hb dd_Sp_overBehind_56 rfl (lv_at hl 4 rfl) ?_
    obtain ⟨k57, hf⟩ := ck_some hf
    refine va_iald hx hb hK hP 7 0 rfl rfl (okb_in k57) dd_Sp_overBehind_57 ?_
    obtain ⟨r58, hr58, hf⟩ := bind_some hf
    refine xcalli (rest := [.int (t_over - r43)]) (wc := (wd_Bo_miss cI cZ a_t_bounds a_t_bounds_least a_t_bounds_most t_bounds_k t_bounds_least t_bounds_most)) (w1 := (wd_Bo_miss cI cZ a_t_bounds a_t_bounds_least a_t_bounds_most t_bounds_k t_bounds_least t_bounds_most)) (wr := [(a_t, .inr (7, [.ref a_t_graph, .ref a_t_bounds, .ref a_t_home, .ref a_t_sum, .ref a_t_link, .int t_cut, .int t_over])), (a_t_graph, .inr (1, [.int t_graph_size, .ref a_t_graph_weight, .ref a_t_graph_arcs])), (a_t_graph_weight, .inl (cI, 40, .inl t_graph_weight)), (a_t_home, .inl (cI, 40, .inl t_home)), (a_t_sum, .inl (cI, 4, .inl t_sum))]) (ws' := (wd_Sp_overBehind cI cZ a_t a_t_bounds a_t_bounds_least a_t_bounds_most a_t_graph a_t_graph_weight a_t_home a_t_sum a_t_link a_t_graph_arcs t_cut t_over t_bounds_k t_bounds_least t_bounds_most t_graph_size t_graph_weight t_home t_sum)) (va_runV (As := [.int x2, .int (t_sum (x2).toNatClampNeg)]) ⟨hx, hb, hml, hown, hts⟩ (c_Bo_miss l dC dI cI cZ a_t_bounds a_t_bounds_least a_t_bounds_most H.size x2 (t_sum (x2).toNatClampNeg) t_bounds_k t_bounds_least t_bounds_most r58 hr58) (cwV 2 hts (gV gw_377 gw_378 gw_379 gw_55 gw_380) rfl rfl rfl (yd_Bo_miss) ⟨Nat.le_of_ble_eq_true rfl, Nat.le_of_ble_eq_true rfl⟩) (mkV hK (hP.sub (ws' := (wd_Bo_miss cI cZ a_t_bounds a_t_bounds_least a_t_bounds_most t_bounds_k t_bounds_least t_bounds_most)) [1, 2, 3] rfl) (hD.sub (ws' := (wd_Bo_miss cI cZ a_t_bounds a_t_bounds_least a_t_bounds_most t_bounds_k t_bounds_least t_bounds_most)) [1, 2, 3] (by decide) rfl) hN (va_recv hK hP (ci := 0) (q0 := 1) rfl rfl)) rfl rfl hl.1 rfl (lv_room (Nat.le_of_ble_eq_true rfl)) dd_Sp_overBehind_58 ⟨Nat.zero_le _, Nat.zero_le _⟩) hP hD hS hA [1, 2, 3] [0, 4, 5, 6, 7] [0, 5, 6, 7, 1, 2, 3, 4] rfl rfl (by decide) (by decide) rfl (by decide) rfl (fun H locs hP hD hS => ?_)
    refine lv_isub hx hb dd_Sp_overBehind_61 ?_
    refine lv_aload_n hx hb dd_Sp_overBehind_62 rfl (lv_at hl 2 rfl) ?_
    refine va_get (D := (dC, dI)) (ci := 7) (v := .ref a_t_bounds) (C := rr_Sp) (T := tt_Sp) (N := 7) hx hb hts (fun w h => gwc (inn_Sp w h)) hown hK hP 0 rfl rfl 1 (by decide) (hts _ (gwc gw_138)) (fun _ h9 => h9) rfl dd_Sp_overBehind_63 ?_
    refine lv_iload_n hx hb dd_Sp_overBehind_66 rfl (lv_at hl 1 rfl) ?_
    refine lv_aload_n hx hb dd_Sp_overBehind_67 rfl (lv_at hl 2 rfl) ?_
    refine va_get (D := (dC, dI)) (ci := 7) (v := .ref a_t_sum) (C := rr_Sp) (T := tt_Sp) (N := 7) hx hb hts (fun w h => gwc (inn_Sp w h)) hown hK hP 0 rfl rfl 3 (by decide) (hts _ (gwc gw_147)) (fun _ h9 => h9) rfl dd_Sp_overBehind_68 ?_
    refine lv_iload_n hx hb dd_Sp_overBehind_71 rfl (lv_at hl 1 rfl) ?_
    obtain ⟨k72, hf⟩ := ck_some hf
    refine va_iald hx hb hK hP 7 0 rfl rfl (okb_in k72) dd_Sp_overBehind_72 ?_
    refine lv_iload hx hb dd_Sp_overBehind_73 (lv_at hl 0 rfl) ?_
    refine lv_isub hx hb dd_Sp_overBehind_75 ?_
    obtain ⟨r76, hr76, hf⟩ := bind_some hf
    refine xcalli (rest := [.int ((t_over - r43) - r58)]) (wc := (wd_Bo_miss cI cZ a_t_bounds a_t_bounds_least a_t_bounds_most t_bounds_k t_bounds_least t_bounds_most)) (w1 := (wd_Bo_miss cI cZ a_t_bounds a_t_bounds_least a_t_bounds_most t_bounds_k t_bounds_least t_bounds_most)) (wr := [(a_t, .inr (7, [.ref a_t_graph, .ref a_t_bounds, .ref a_t_home, .ref a_t_sum, .ref a_t_link, .int t_cut, .int t_over])), (a_t_graph, .inr (1, [.int t_graph_size, .ref a_t_graph_weight, .ref a_t_graph_arcs])), (a_t_graph_weight, .inl (cI, 40, .inl t_graph_weight)), (a_t_home, .inl (cI, 40, .inl t_home)), (a_t_sum, .inl (cI, 4, .inl t_sum))]) (ws' := (wd_Sp_overBehind cI cZ a_t a_t_bounds a_t_bounds_least a_t_bounds_most a_t_graph a_t_graph_weight a_t_home a_t_sum a_t_link a_t_graph_arcs t_cut t_over t_bounds_k t_bounds_least t_bounds_most t_graph_size t_graph_weight t_home t_sum)) (va_runV (As := [.int (t_home (x1).toNatClampNeg), .int ((t_sum (t_home (x1).toNatClampNeg).toNatClampNeg) - (t_graph_weight (x1).toNatClampNeg))]) ⟨hx, hb, hml, hown, hts⟩ (c_Bo_miss l dC dI cI cZ a_t_bounds a_t_bounds_least a_t_bounds_most H.size (t_home (x1).toNatClampNeg) ((t_sum (t_home (x1).toNatClampNeg).toNatClampNeg) - (t_graph_weight (x1).toNatClampNeg)) t_bounds_k t_bounds_least t_bounds_most r76 hr76) (cwV 2 hts (gV gw_377 gw_378 gw_379 gw_55 gw_380) rfl rfl rfl (yd_Bo_miss) ⟨Nat.le_of_ble_eq_true rfl, Nat.le_of_ble_eq_true rfl⟩) (mkV hK (hP.sub (ws' := (wd_Bo_miss cI cZ a_t_bounds a_t_bounds_least a_t_bounds_most t_bounds_k t_bounds_least t_bounds_most)) [1, 2, 3] rfl) (hD.sub (ws' := (wd_Bo_miss cI cZ a_t_bounds a_t_bounds_least a_t_bounds_most t_bounds_k t_bounds_least t_bounds_most)) [1, 2, 3] (by decide) rfl) hN (va_recv hK hP (ci := 0) (q0 := 1) rfl rfl)) rfl rfl hl.1 rfl (lv_room (Nat.le_of_ble_eq_true rfl)) dd_Sp_overBehind_76 ⟨Nat.zero_le _, Nat.zero_le _⟩) hP hD hS hA [1, 2, 3] [0, 4, 5, 6, 7] [0, 5, 6, 7, 1, 2, 3, 4] rfl rfl (by decide) (by decide) rfl (by decide) rfl (fun H locs hP hD hS => ?_)
    refine lv_iadd hx hb dd_Sp_overBehind_79 ?_
    refine lv_aload_n hx hb dd_Sp_overBehind_80 rfl (lv_at hl 2 rfl) ?_
    refine va_get (D := (dC, dI)) (ci := 7) (v := .ref a_t_bounds) (C := rr_Sp) (T := tt_Sp) (N := 7) hx hb hts (fun w h => gwc (inn_Sp w h)) hown hK hP 0 rfl rfl 1 (by decide) (hts _ (gwc gw_138)) (fun _ h9 => h9) rfl dd_Sp_overBehind_81 ?_
    refine lv_iload_n hx hb dd_Sp_overBehind_84 rfl (lv_at hl 4 rfl) ?_
    refine lv_aload_n hx hb dd_Sp_overBehind_85 rfl (lv_at hl 2 rfl) ?_
    refine va_get (D := (dC, dI)) (ci := 7) (v := .ref a_t_sum) (C := rr_Sp) (T := tt_Sp) (N := 7) hx hb hts (fun w h => gwc (inn_Sp w h)) hown hK hP 0 rfl rfl 3 (by decide) (hts _ (gwc gw_147)) (fun _ h9 => h9) rfl dd_Sp_overBehind_86 ?_
    refine lv_iload_n hx hb dd_Sp_overBehind_89 rfl (lv_at hl 4 rfl) ?_
    obtain ⟨k90, hf⟩ := ck_some hf
    refine va_iald hx hb hK hP 7 0 rfl rfl (okb_in k90) dd_Sp_overBehind_90 ?_
    refine lv_iload hx hb dd_Sp_overBehind_91 (lv_at hl 0 rfl) ?_
    refine lv_iadd hx hb dd_Sp_overBehind_93 ?_
    obtain ⟨r94, hr94, hf⟩ := bind_some hf
    refine xcalli (rest := [.int (((t_over - r43) - r58) + r76)]) (wc := (wd_Bo_miss cI cZ a_t_bounds a_t_bounds_least a_t_bounds_most t_bounds_k t_bounds_least t_bounds_most)) (w1 := (wd_Bo_miss cI cZ a_t_bounds a_t_bounds_least a_t_bounds_most t_bounds_k t_bounds_least t_bounds_most)) (wr := [(a_t, .inr (7, [.ref a_t_graph, .ref a_t_bounds, .ref a_t_home, .ref a_t_sum, .ref a_t_link, .int t_cut, .int t_over])), (a_t_graph, .inr (1, [.int t_graph_size, .ref a_t_graph_weight, .ref a_t_graph_arcs])), (a_t_graph_weight, .inl (cI, 40, .inl t_graph_weight)), (a_t_home, .inl (cI, 40, .inl t_home)), (a_t_sum, .inl (cI, 4, .inl t_sum))]) (ws' := (wd_Sp_overBehind cI cZ a_t a_t_bounds a_t_bounds_least a_t_bounds_most a_t_graph a_t_graph_weight a_t_home a_t_sum a_t_link a_t_graph_arcs t_cut t_over t_bounds_k t_bounds_least t_bounds_most t_graph_size t_graph_weight t_home t_sum)) (va_runV (As := [.int x2, .int ((t_sum (x2).toNatClampNeg) + (t_graph_weight (x1).toNatClampNeg))]) ⟨hx, hb, hml, hown, hts⟩ (c_Bo_miss l dC dI cI cZ a_t_bounds a_t_bounds_least a_t_bounds_most H.size x2 ((t_sum (x2).toNatClampNeg) + (t_graph_weight (x1).toNatClampNeg)) t_bounds_k t_bounds_least t_bounds_most r94 hr94) (cwV 2 hts (gV gw_377 gw_378 gw_379 gw_55 gw_380) rfl rfl rfl (yd_Bo_miss) ⟨Nat.le_of_ble_eq_true rfl, Nat.le_of_ble_eq_true rfl⟩) (mkV hK (hP.sub (ws' := (wd_Bo_miss cI cZ a_t_bounds a_t_bounds_least a_t_bounds_most t_bounds_k t_bounds_least t_bounds_most)) [1, 2, 3] rfl) (hD.sub (ws' := (wd_Bo_miss cI cZ a_t_bounds a_t_bounds_least a_t_bounds_most t_bounds_k t_bounds_least t_bounds_most)) [1, 2, 3] (by decide) rfl) hN (va_recv hK hP (ci := 0) (q0 := 1) rfl rfl)) rfl rfl hl.1 rfl (lv_room (Nat.le_of_ble_eq_true rfl)) dd_Sp_overBehind_94 ⟨Nat.zero_le _, Nat.zero_le _⟩) hP hD hS hA [1, 2, 3] [0, 4, 5, 6, 7] [0, 5, 6, 7, 1, 2, 3, 4] rfl rfl (by decide) (by decide) rfl (by decide) rfl (fun H locs hP hD hS => ?_)
    refine lv_iadd hx hb dd_Sp_overBehind_97 ?_
    cases hf
    exact W.iret hx hb hr (fun t ht hW => ⟨⟨_, (), rfl, rfl, pst_of ht hP hD⟩, hS.F ht⟩) hS.2.2 dd_Sp_overBehind_98
  · skip
    have hf := if_t cc hf
    refine lv_aload_n hx hb dd_Sp_overBehind_12 rfl (lv_at hl 1 rfl) ?_
    refine va_get (D := (dC, dI)) (ci := 7) (v := .int t_over) (C := rr_Sp) (T := tt_Sp) (N := 7) hx hb hts (fun w h => gwc (inn_Sp w h)) hown hK hP 0 rfl rfl 6 (by decide) (hts _ (gwc gw_153)) (fun _ h9 => h9) rfl dd_Sp_overBehind_13 ?_
    cases hf
    exact W.iret hx hb hr (fun t ht hW => ⟨⟨_, (), rfl, rfl, pst_of ht hP hD⟩, hS.F ht⟩) hS.2.2 dd_Sp_overBehind_16
abbrev wd_Sp_gainOf (cI cZ : ClassId) (a_t a_t_home a_t_link a_t_graph a_t_bounds a_t_sum : Nat) (t_cut : Int32) (t_over : Int32) (t_home : Nat → Int32) (t_link : Nat → Int32) : va_W := [(a_t, .inr (7, [.ref a_t_graph, .ref a_t_bounds, .ref a_t_home, .ref a_t_sum, .ref a_t_link, .int t_cut, .int t_over])), (a_t_home, .inl (cI, 40, .inl t_home)), (a_t_link, .inl (cI, 160, .inl t_link))]
set_option maxRecDepth 100000 in
set_option maxHeartbeats 4000000 in
theorem c_Sp_gainOf (l : Launch) (dC : Nat → ClassId) (dI : Nat → Nat → Nat) (cI cZ : ClassId) (a_t a_t_home a_t_link a_t_graph a_t_bounds a_t_sum sz : Nat) (x1 : Int32) (x2 : Int32) (t_cut : Int32) (t_over : Int32) (t_home : Nat → Int32) (t_link : Nat → Int32) (out : Int32) (hf : f_Sp_gainOf x1 x2 t_home t_link = some out) :
    Met l yy_Sp_gainOf wq_Sp_gainOf ({ frames := 0, cells := 0, slots := 0, locals := 0 }) (va_Pc ([.ref a_t, .int x1, .int x2] : List Value) (pre_ (dC, dI) cI cZ sz (wd_Sp_gainOf cI cZ a_t a_t_home a_t_link a_t_graph a_t_bounds a_t_sum t_cut t_over t_home t_link))) (va_Qi (fun (r : Int32) (_ : Unit) => r = out) (fun _ => pst (dC, dI) (va_A (wd_Sp_gainOf cI cZ a_t a_t_home a_t_link a_t_graph a_t_bounds a_t_sum t_cut t_over t_home t_link) sz) (wd_Sp_gainOf cI cZ a_t a_t_home a_t_link a_t_graph a_t_bounds a_t_sum t_cut t_over t_home t_link)) (va_A (wd_Sp_gainOf cI cZ a_t a_t_home a_t_link a_t_graph a_t_bounds a_t_sum t_cut t_over t_home t_link) sz)) 0 0 (va_A (wd_Sp_gainOf cI cZ a_t a_t_home a_t_link a_t_graph a_t_bounds a_t_sum t_cut t_over t_home t_link) sz) := by
  refine Met.ofW (cc := cc_Sp_gainOf) (maxL := 3) (ret := (some .int)) (by decide) rfl ?_
  intro p e s m args below meth c s₁ B hml hv
  obtain ⟨rfl, hsz, hP, hK, hD0, hN⟩ := hv
  have hx := B.exec
  have hb := B.bytes
  have hr := B.returns
  have hts := atoms_spec (ws := wq_Sp_gainOf) B.pre
  have hown : s.vm.findClass rr_Sp = some m.cls := findClass_of_methodNamed B.named
  have hlocks := B.notSynchronized
  subst hsz
  have hD := hD0.self (sz := s.heap.size)
  generalize hAe : va_A (wd_Sp_gainOf cI cZ a_t a_t_home a_t_link a_t_graph a_t_bounds a_t_sum t_cut t_over t_home t_link) s.heap.size = A at hD ⊢
  have hA : ∀ q : Nat, s.heap.size ≤ q → A q := fun q h => by rw [← hAe]; exact Or.inr h
  obtain ⟨H, hH⟩ : ∃ H : Heap, H = s.heap := ⟨_, rfl⟩
  have hS : va_S A s.heap H [] := by rw [hH]; exact va_S.rf
  have hl := lv_entry (([.ref a_t, .int x1, .int x2] : List Value)) (n := 3) (Nat.le_of_ble_eq_true rfl)
  rw [lg_entry_eq]
  generalize (lg_sl (([.ref a_t, .int x1, .int x2] : List Value)) ++ List.replicate (3 - (lg_sl (([.ref a_t, .int x1, .int x2] : List Value))).length) Slot.unset).toArray = ls at hl ⊢
  have hl : lv_has ls 3 [(0, .ref a_t), (1, .int x1), (2, .int x2)] := hl
  rw [← hH] at hP ⊢
  have hP : va_P (dC, dI) clsL (wd_Sp_gainOf cI cZ a_t a_t_home a_t_link a_t_graph a_t_bounds a_t_sum t_cut t_over t_home t_link) H := hP
  unfold f_Sp_gainOf at hf
  refine lv_aload_n hx hb dd_Sp_gainOf_0 rfl (lv_at hl 0 rfl) ?_
  refine va_get (D := (dC, dI)) (ci := 7) (v := .ref a_t_link) (C := rr_Sp) (T := tt_Sp) (N := 7) hx hb hts (fun w h => gwc (inn_Sp w h)) hown hK hP 0 rfl rfl 4 (by decide) (hts _ (gwc gw_149)) (fun _ h9 => h9) rfl dd_Sp_gainOf_1 ?_
  refine lv_iload_n hx hb dd_Sp_gainOf_4 rfl (lv_at hl 1 rfl) ?_
  refine lv_iconst (v := 4) hx hb dd_Sp_gainOf_5 (by decide) ?_
  refine lv_imul hx hb dd_Sp_gainOf_6 ?_
  refine lv_iload_n hx hb dd_Sp_gainOf_7 rfl (lv_at hl 2 rfl) ?_
  refine lv_iadd hx hb dd_Sp_gainOf_8 ?_
  obtain ⟨k9, hf⟩ := ck_some hf
  refine va_iald hx hb hK hP 2 0 rfl rfl (okb_in k9) dd_Sp_gainOf_9 ?_
  refine lv_aload_n hx hb dd_Sp_gainOf_10 rfl (lv_at hl 0 rfl) ?_
  refine va_get (D := (dC, dI)) (ci := 7) (v := .ref a_t_link) (C := rr_Sp) (T := tt_Sp) (N := 7) hx hb hts (fun w h => gwc (inn_Sp w h)) hown hK hP 0 rfl rfl 4 (by decide) (hts _ (gwc gw_149)) (fun _ h9 => h9) rfl dd_Sp_gainOf_11 ?_
  refine lv_iload_n hx hb dd_Sp_gainOf_14 rfl (lv_at hl 1 rfl) ?_
  refine lv_iconst (v := 4) hx hb dd_Sp_gainOf_15 (by decide) ?_
  refine lv_imul hx hb dd_Sp_gainOf_16 ?_
  refine lv_aload_n hx hb dd_Sp_gainOf_17 rfl (lv_at hl 0 rfl) ?_
  refine va_get (D := (dC, dI)) (ci := 7) (v := .ref a_t_home) (C := rr_Sp) (T := tt_Sp) (N := 7) hx hb hts (fun w h => gwc (inn_Sp w h)) hown hK hP 0 rfl rfl 2 (by decide) (hts _ (gwc gw_142)) (fun _ h9 => h9) rfl dd_Sp_gainOf_18 ?_
  refine lv_iload_n hx hb dd_Sp_gainOf_21 rfl (lv_at hl 1 rfl) ?_
  obtain ⟨k22, hf⟩ := ck_some hf
  refine va_iald hx hb hK hP 1 0 rfl rfl (okb_in k22) dd_Sp_gainOf_22 ?_
  refine lv_iadd hx hb dd_Sp_gainOf_23 ?_
  obtain ⟨k24, hf⟩ := ck_some hf
  refine va_iald hx hb hK hP 2 0 rfl rfl (okb_in k24) dd_Sp_gainOf_24 ?_
  refine lv_isub hx hb dd_Sp_gainOf_25 ?_
  cases hf
  exact W.iret hx hb hr (fun t ht hW => ⟨⟨_, (), rfl, rfl, pst_of ht hP hD⟩, hS.F ht⟩) hS.2.2 dd_Sp_gainOf_26
abbrev wd_Sp_shift (cI cZ : ClassId) (a_t a_t_bounds a_t_bounds_least a_t_bounds_most a_t_graph a_t_graph_arcs a_t_graph_weight a_t_home a_t_link a_t_sum : Nat) (t_cut : Int32) (t_over : Int32) (t_bounds_k : Int32) (t_bounds_least : Nat → Int32) (t_bounds_most : Nat → Int32) (t_graph_size : Int32) (t_graph_arcs : Nat → Int32) (t_graph_weight : Nat → Int32) (t_home : Nat → Int32) (t_link : Nat → Int32) (t_sum : Nat → Int32) : va_W := [(a_t, .inr (7, [.ref a_t_graph, .ref a_t_bounds, .ref a_t_home, .ref a_t_sum, .ref a_t_link, .int t_cut, .int t_over])), (a_t_bounds, .inr (0, [.int t_bounds_k, .ref a_t_bounds_least, .ref a_t_bounds_most])), (a_t_bounds_least, .inl (cI, 4, .inl t_bounds_least)), (a_t_bounds_most, .inl (cI, 4, .inl t_bounds_most)), (a_t_graph, .inr (1, [.int t_graph_size, .ref a_t_graph_weight, .ref a_t_graph_arcs])), (a_t_graph_arcs, .inl (cI, 1600, .inl t_graph_arcs)), (a_t_graph_weight, .inl (cI, 40, .inl t_graph_weight)), (a_t_home, .inl (cI, 40, .inl t_home)), (a_t_link, .inl (cI, 160, .inl t_link)), (a_t_sum, .inl (cI, 4, .inl t_sum))]
set_option maxRecDepth 100000 in
set_option maxHeartbeats 4000000 in
theorem c_Sp_shift (l : Launch) (dC : Nat → ClassId) (dI : Nat → Nat → Nat) (cI cZ : ClassId) (a_t a_t_bounds a_t_bounds_least a_t_bounds_most a_t_graph a_t_graph_arcs a_t_graph_weight a_t_home a_t_link a_t_sum sz : Nat) (x1 : Int32) (x2 : Int32) (t_cut : Int32) (t_over : Int32) (t_bounds_k : Int32) (t_bounds_least : Nat → Int32) (t_bounds_most : Nat → Int32) (t_graph_size : Int32) (t_graph_arcs : Nat → Int32) (t_graph_weight : Nat → Int32) (t_home : Nat → Int32) (t_link : Nat → Int32) (t_sum : Nat → Int32) (out : Int32 × Int32 × (Nat → Int32) × (Nat → Int32) × (Nat → Int32)) (hf : f_Sp_shift x1 x2 t_cut t_over t_bounds_least t_bounds_most t_graph_size t_graph_arcs t_graph_weight t_home t_link t_sum = some out) :
    Met l yy_Sp_shift wq_Sp_shift ({ frames := 2, cells := 0, slots := 0, locals := 46 }) (va_Pc ([.ref a_t, .int x1, .int x2] : List Value) (pre_ (dC, dI) cI cZ sz (wd_Sp_shift cI cZ a_t a_t_bounds a_t_bounds_least a_t_bounds_most a_t_graph a_t_graph_arcs a_t_graph_weight a_t_home a_t_link a_t_sum t_cut t_over t_bounds_k t_bounds_least t_bounds_most t_graph_size t_graph_arcs t_graph_weight t_home t_link t_sum))) (va_Qv (fun _ : Unit => True) (fun _ => pst (dC, dI) (va_A (wd_Sp_shift cI cZ a_t a_t_bounds a_t_bounds_least a_t_bounds_most a_t_graph a_t_graph_arcs a_t_graph_weight a_t_home a_t_link a_t_sum t_cut t_over t_bounds_k t_bounds_least t_bounds_most t_graph_size t_graph_arcs t_graph_weight t_home t_link t_sum) sz) (wd_Sp_shift cI cZ a_t a_t_bounds a_t_bounds_least a_t_bounds_most a_t_graph a_t_graph_arcs a_t_graph_weight a_t_home a_t_link a_t_sum out.1 out.2.1 t_bounds_k t_bounds_least t_bounds_most t_graph_size t_graph_arcs t_graph_weight out.2.2.1 out.2.2.2.1 out.2.2.2.2)) (va_A (wd_Sp_shift cI cZ a_t a_t_bounds a_t_bounds_least a_t_bounds_most a_t_graph a_t_graph_arcs a_t_graph_weight a_t_home a_t_link a_t_sum t_cut t_over t_bounds_k t_bounds_least t_bounds_most t_graph_size t_graph_arcs t_graph_weight t_home t_link t_sum) sz)) 0 0 (va_A (wd_Sp_shift cI cZ a_t a_t_bounds a_t_bounds_least a_t_bounds_most a_t_graph a_t_graph_arcs a_t_graph_weight a_t_home a_t_link a_t_sum t_cut t_over t_bounds_k t_bounds_least t_bounds_most t_graph_size t_graph_arcs t_graph_weight t_home t_link t_sum) sz) := by
  refine Met.ofW (cc := cc_Sp_shift) (maxL := 6) (ret := none) (by decide) rfl ?_
  intro p e s m args below meth c s₁ B hml hv
  obtain ⟨rfl, hsz, hP, hK, hD0, hN⟩ := hv
  have hx := B.exec
  have hb := B.bytes
  have hr := B.returns
  have hts := atoms_spec (ws := wq_Sp_shift) B.pre
  have hown : s.vm.findClass rr_Sp = some m.cls := findClass_of_methodNamed B.named
  have hlocks := B.notSynchronized
  subst hsz
  have hD := hD0.self (sz := s.heap.size)
  generalize hAe : va_A (wd_Sp_shift cI cZ a_t a_t_bounds a_t_bounds_least a_t_bounds_most a_t_graph a_t_graph_arcs a_t_graph_weight a_t_home a_t_link a_t_sum t_cut t_over t_bounds_k t_bounds_least t_bounds_most t_graph_size t_graph_arcs t_graph_weight t_home t_link t_sum) s.heap.size = A at hD ⊢
  have hA : ∀ q : Nat, s.heap.size ≤ q → A q := fun q h => by rw [← hAe]; exact Or.inr h
  obtain ⟨H, hH⟩ : ∃ H : Heap, H = s.heap := ⟨_, rfl⟩
  have hS : va_S A s.heap H [] := by rw [hH]; exact va_S.rf
  have hl := lv_entry (([.ref a_t, .int x1, .int x2] : List Value)) (n := 6) (Nat.le_of_ble_eq_true rfl)
  rw [lg_entry_eq]
  generalize (lg_sl (([.ref a_t, .int x1, .int x2] : List Value)) ++ List.replicate (6 - (lg_sl (([.ref a_t, .int x1, .int x2] : List Value))).length) Slot.unset).toArray = ls at hl ⊢
  have hl : lv_has ls 6 [(0, .ref a_t), (1, .int x1), (2, .int x2)] := hl
  rw [← hH] at hP ⊢
  have hP : va_P (dC, dI) clsL (wd_Sp_shift cI cZ a_t a_t_bounds a_t_bounds_least a_t_bounds_most a_t_graph a_t_graph_arcs a_t_graph_weight a_t_home a_t_link a_t_sum t_cut t_over t_bounds_k t_bounds_least t_bounds_most t_graph_size t_graph_arcs t_graph_weight t_home t_link t_sum) H := hP
  unfold f_Sp_shift at hf
  have h71 : ∀ (n71 : Nat) (x3 : Int32) (x4 : Int32) (t_cut : Int32) (t_over : Int32) (t_link : Nat → Int32) (t_sum : Nat → Int32) (ls : Array Slot) (H : Heap) (locs : List Loc), L_Sp_shift_71 x1 x2 t_graph_size t_graph_arcs t_home n71 x3 x4 t_cut t_over t_link t_sum = some out → lv_has ls 6 [(0, .ref a_t), (1, .int x1), (2, .int x2), (3, .int x3), (4, .int x4)] → va_P (dC, dI) clsL (wd_Sp_shift cI cZ a_t a_t_bounds a_t_bounds_least a_t_bounds_most a_t_graph a_t_graph_arcs a_t_graph_weight a_t_home a_t_link a_t_sum t_cut t_over t_bounds_k t_bounds_least t_bounds_most t_graph_size t_graph_arcs t_graph_weight t_home t_link t_sum) H → va_D A (wd_Sp_shift cI cZ a_t a_t_bounds a_t_bounds_least a_t_bounds_most a_t_graph a_t_graph_arcs a_t_graph_weight a_t_home a_t_link a_t_sum t_cut t_over t_bounds_k t_bounds_least t_bounds_most t_graph_size t_graph_arcs t_graph_weight t_home t_link t_sum) → va_S A s.heap H locs → W p l e (headSpec wq_Sp_shift ({ frames := 2, cells := 0, slots := 0, locals := 46 })).room s m ([.ref a_t, .int x1, .int x2] : List Value).toArray below meth c H locs 0 0 (MQ below (va_Qv (fun _ : Unit => True) (fun _ => pst (dC, dI) A (wd_Sp_shift cI cZ a_t a_t_bounds a_t_bounds_least a_t_bounds_most a_t_graph a_t_graph_arcs a_t_graph_weight a_t_home a_t_link a_t_sum out.1 out.2.1 t_bounds_k t_bounds_least t_bounds_most t_graph_size t_graph_arcs t_graph_weight out.2.2.1 out.2.2.2.1 out.2.2.2.2)) A) ([.ref a_t, .int x1, .int x2] : List Value).toArray s 0 0 A) (F0 m 71 ls []) := by
    intro n71
    induction n71 with
    | zero =>
      intro x3 x4 t_cut t_over t_link t_sum ls H locs hf
      rw [L_Sp_shift_71] at hf
      exact absurd hf (fun h => by cases h)
    | succ n71 ih71 =>
      intro x3 x4 t_cut t_over t_link t_sum ls H locs hf hl hP hD hS
      rw [L_Sp_shift_71] at hf
      refine lv_iload hx hb dd_Sp_shift_71 (lv_at hl 4 rfl) ?_
      refine lv_aload_n hx hb dd_Sp_shift_73 rfl (lv_at hl 0 rfl) ?_
      refine va_get (D := (dC, dI)) (ci := 7) (v := .ref a_t_graph) (C := rr_Sp) (T := tt_Sp) (N := 7) hx hb hts (fun w h => gwc (inn_Sp w h)) hown hK hP 0 rfl rfl 0 (by decide) (hts _ (gwc gw_133)) (fun _ h9 => h9) rfl dd_Sp_shift_74 ?_
      refine va_get (D := (dC, dI)) (ci := 1) (v := .int t_graph_size) (C := rr_Gr) (T := tt_Gr) (N := 3) hx hb hts (fun w h => gwc (inn_Gr w h)) hown hK hP 4 rfl rfl 0 (by decide) (hts _ (gwc gw_88)) (fun _ h9 => h9) rfl dd_Sp_shift_77 ?_
      refine lv_icmp_ge (tgt := 133) hx hb dd_Sp_shift_80 (by decide) (fun cc => ?_) (fun cc => ?_)
      · skip
        have hf := if_t cc hf
        refine lv_aload_n hx hb dd_Sp_shift_133 rfl (lv_at hl 0 rfl) ?_
        refine va_get (D := (dC, dI)) (ci := 7) (v := .ref a_t_home) (C := rr_Sp) (T := tt_Sp) (N := 7) hx hb hts (fun w h => gwc (inn_Sp w h)) hown hK hP 0 rfl rfl 2 (by decide) (hts _ (gwc gw_142)) (fun _ h9 => h9) rfl dd_Sp_shift_134 ?_
        refine lv_iload_n hx hb dd_Sp_shift_137 rfl (lv_at hl 1 rfl) ?_
        refine lv_iload_n hx hb dd_Sp_shift_138 rfl (lv_at hl 2 rfl) ?_
        obtain ⟨k139, hf⟩ := ck_some hf
        refine va_iast hx hb hK hP hD hS 7 0 rfl rfl (okb_in k139) dd_Sp_shift_139 (fun H locs hP hD hS => ?_)
        have hP : va_P (dC, dI) clsL (wd_Sp_shift cI cZ a_t a_t_bounds a_t_bounds_least a_t_bounds_most a_t_graph a_t_graph_arcs a_t_graph_weight a_t_home a_t_link a_t_sum t_cut t_over t_bounds_k t_bounds_least t_bounds_most t_graph_size t_graph_arcs t_graph_weight (upd t_home (x1).toNatClampNeg x2) t_link t_sum) H := hP
        have hD : va_D A (wd_Sp_shift cI cZ a_t a_t_bounds a_t_bounds_least a_t_bounds_most a_t_graph a_t_graph_arcs a_t_graph_weight a_t_home a_t_link a_t_sum t_cut t_over t_bounds_k t_bounds_least t_bounds_most t_graph_size t_graph_arcs t_graph_weight (upd t_home (x1).toNatClampNeg x2) t_link t_sum) := hD
        cases hf
        exact W.vret hx hb hr (fun t ht hW => ⟨⟨(), rfl, trivial, pst_of ht hP hD⟩, hS.F ht⟩) hS.2.2 dd_Sp_shift_140
      · skip
        have hf := if_f cc hf
        refine lv_aload_n hx hb dd_Sp_shift_83 rfl (lv_at hl 0 rfl) ?_
        refine va_get (D := (dC, dI)) (ci := 7) (v := .ref a_t_graph) (C := rr_Sp) (T := tt_Sp) (N := 7) hx hb hts (fun w h => gwc (inn_Sp w h)) hown hK hP 0 rfl rfl 0 (by decide) (hts _ (gwc gw_133)) (fun _ h9 => h9) rfl dd_Sp_shift_84 ?_
        refine lv_iload_n hx hb dd_Sp_shift_87 rfl (lv_at hl 1 rfl) ?_
        refine lv_iload hx hb dd_Sp_shift_88 (lv_at hl 4 rfl) ?_
        obtain ⟨r90, hr90, hf⟩ := bind_some hf
        refine xcalli (rest := []) (wc := (wd_Gr_arcOf cI cZ a_t_graph a_t_graph_arcs a_t_graph_weight t_graph_size t_graph_arcs)) (w1 := (wd_Gr_arcOf cI cZ a_t_graph a_t_graph_arcs a_t_graph_weight t_graph_size t_graph_arcs)) (wr := [(a_t, .inr (7, [.ref a_t_graph, .ref a_t_bounds, .ref a_t_home, .ref a_t_sum, .ref a_t_link, .int t_cut, .int t_over])), (a_t_bounds, .inr (0, [.int t_bounds_k, .ref a_t_bounds_least, .ref a_t_bounds_most])), (a_t_bounds_least, .inl (cI, 4, .inl t_bounds_least)), (a_t_bounds_most, .inl (cI, 4, .inl t_bounds_most)), (a_t_graph_weight, .inl (cI, 40, .inl t_graph_weight)), (a_t_home, .inl (cI, 40, .inl t_home)), (a_t_link, .inl (cI, 160, .inl t_link)), (a_t_sum, .inl (cI, 4, .inl t_sum))]) (ws' := (wd_Sp_shift cI cZ a_t a_t_bounds a_t_bounds_least a_t_bounds_most a_t_graph a_t_graph_arcs a_t_graph_weight a_t_home a_t_link a_t_sum t_cut t_over t_bounds_k t_bounds_least t_bounds_most t_graph_size t_graph_arcs t_graph_weight t_home t_link t_sum)) (va_runV (As := [.int x1, .int x4]) ⟨hx, hb, hml, hown, hts⟩ (c_Gr_arcOf l dC dI cI cZ a_t_graph a_t_graph_arcs a_t_graph_weight H.size x1 x4 t_graph_size t_graph_arcs r90 hr90) (cwV 2 hts (gV gw_376 gw_318 gw_319 gw_54 gw_320) rfl rfl rfl (yd_Gr_arcOf) ⟨Nat.le_of_ble_eq_true rfl, Nat.le_of_ble_eq_true rfl⟩) (mkV hK (hP.sub (ws' := (wd_Gr_arcOf cI cZ a_t_graph a_t_graph_arcs a_t_graph_weight t_graph_size t_graph_arcs)) [4, 5] rfl) (hD.sub (ws' := (wd_Gr_arcOf cI cZ a_t_graph a_t_graph_arcs a_t_graph_weight t_graph_size t_graph_arcs)) [4, 5] (by decide) rfl) hN (va_recv hK hP (ci := 1) (q0 := 4) rfl rfl)) rfl rfl hl.1 rfl (lv_room (Nat.le_of_ble_eq_true rfl)) dd_Sp_shift_90 ⟨Nat.zero_le _, Nat.zero_le _⟩) hP hD hS hA [4, 5] [0, 1, 2, 3, 6, 7, 8, 9] [0, 1, 2, 3, 8, 9, 4, 5, 6, 7] rfl rfl (by decide) (by decide) rfl (by decide) rfl (fun H locs hP hD hS => ?_)
        refine lv_istore (lv' := [(5, .int r90), (0, .ref a_t), (1, .int x1), (2, .int x2), (3, .int x3), (4, .int x4)]) hx hb dd_Sp_shift_93 hl (by decide) rfl (fun ls hl => ?_)
        refine lv_aload_n hx hb dd_Sp_shift_95 rfl (lv_at hl 1 rfl) ?_
        refine va_get (D := (dC, dI)) (ci := 7) (v := .ref a_t_link) (C := rr_Sp) (T := tt_Sp) (N := 7) hx hb hts (fun w h => gwc (inn_Sp w h)) hown hK hP 0 rfl rfl 4 (by decide) (hts _ (gwc gw_149)) (fun _ h9 => h9) rfl dd_Sp_shift_96 ?_
        refine lv_iload hx hb dd_Sp_shift_99 (lv_at hl 5 rfl) ?_
        refine lv_iconst (v := 4) hx hb dd_Sp_shift_101 (by decide) ?_
        refine lv_imul hx hb dd_Sp_shift_102 ?_
        refine lv_iload_n hx hb dd_Sp_shift_103 rfl (lv_at hl 4 rfl) ?_
        refine lv_iadd hx hb dd_Sp_shift_104 ?_
        refine lv_dup2_11 hx hb dd_Sp_shift_105 rfl rfl ?_
        obtain ⟨k106, hf⟩ := ck_some hf
        refine va_iald hx hb hK hP 8 0 rfl rfl (okb_in k106) dd_Sp_shift_106 ?_
        refine lv_iload hx hb dd_Sp_shift_107 (lv_at hl 0 rfl) ?_
        refine lv_isub hx hb dd_Sp_shift_109 ?_
        obtain ⟨k110, hf⟩ := ck_some hf
        refine va_iast hx hb hK hP hD hS 8 0 rfl rfl (okb_in k110) dd_Sp_shift_110 (fun H locs hP hD hS => ?_)
        have hP : va_P (dC, dI) clsL (wd_Sp_shift cI cZ a_t a_t_bounds a_t_bounds_least a_t_bounds_most a_t_graph a_t_graph_arcs a_t_graph_weight a_t_home a_t_link a_t_sum t_cut t_over t_bounds_k t_bounds_least t_bounds_most t_graph_size t_graph_arcs t_graph_weight t_home (upd t_link ((x4 * 4) + x3).toNatClampNeg ((t_link ((x4 * 4) + x3).toNatClampNeg) - r90)) t_sum) H := hP
        have hD : va_D A (wd_Sp_shift cI cZ a_t a_t_bounds a_t_bounds_least a_t_bounds_most a_t_graph a_t_graph_arcs a_t_graph_weight a_t_home a_t_link a_t_sum t_cut t_over t_bounds_k t_bounds_least t_bounds_most t_graph_size t_graph_arcs t_graph_weight t_home (upd t_link ((x4 * 4) + x3).toNatClampNeg ((t_link ((x4 * 4) + x3).toNatClampNeg) - r90)) t_sum) := hD
        refine lv_aload_n hx hb dd_Sp_shift_111 rfl (lv_at hl 1 rfl) ?_
        refine va_get (D := (dC, dI)) (ci := 7) (v := .ref a_t_link) (C := rr_Sp) (T := tt_Sp) (N := 7) hx hb hts (fun w h => gwc (inn_Sp w h)) hown hK hP 0 rfl rfl 4 (by decide) (hts _ (gwc gw_149)) (fun _ h9 => h9) rfl dd_Sp_shift_112 ?_
        refine lv_iload hx hb dd_Sp_shift_115 (lv_at hl 5 rfl) ?_
        refine lv_iconst (v := 4) hx hb dd_Sp_shift_117 (by decide) ?_
        refine lv_imul hx hb dd_Sp_shift_118 ?_
        refine lv_iload_n hx hb dd_Sp_shift_119 rfl (lv_at hl 3 rfl) ?_
        refine lv_iadd hx hb dd_Sp_shift_120 ?_
        refine lv_dup2_11 hx hb dd_Sp_shift_121 rfl rfl ?_
        obtain ⟨k122, hf⟩ := ck_some hf
        refine va_iald hx hb hK hP 8 0 rfl rfl (okb_in k122) dd_Sp_shift_122 ?_
        refine lv_iload hx hb dd_Sp_shift_123 (lv_at hl 0 rfl) ?_
        refine lv_iadd hx hb dd_Sp_shift_125 ?_
        obtain ⟨k126, hf⟩ := ck_some hf
        refine va_iast hx hb hK hP hD hS 8 0 rfl rfl (okb_in k126) dd_Sp_shift_126 (fun H locs hP hD hS => ?_)
        have hP : va_P (dC, dI) clsL (wd_Sp_shift cI cZ a_t a_t_bounds a_t_bounds_least a_t_bounds_most a_t_graph a_t_graph_arcs a_t_graph_weight a_t_home a_t_link a_t_sum t_cut t_over t_bounds_k t_bounds_least t_bounds_most t_graph_size t_graph_arcs t_graph_weight t_home (upd (upd t_link ((x4 * 4) + x3).toNatClampNeg ((t_link ((x4 * 4) + x3).toNatClampNeg) - r90)) ((x4 * 4) + x2).toNatClampNeg (((upd t_link ((x4 * 4) + x3).toNatClampNeg ((t_link ((x4 * 4) + x3).toNatClampNeg) - r90)) ((x4 * 4) + x2).toNatClampNeg) + r90)) t_sum) H := hP
        have hD : va_D A (wd_Sp_shift cI cZ a_t a_t_bounds a_t_bounds_least a_t_bounds_most a_t_graph a_t_graph_arcs a_t_graph_weight a_t_home a_t_link a_t_sum t_cut t_over t_bounds_k t_bounds_least t_bounds_most t_graph_size t_graph_arcs t_graph_weight t_home (upd (upd t_link ((x4 * 4) + x3).toNatClampNeg ((t_link ((x4 * 4) + x3).toNatClampNeg) - r90)) ((x4 * 4) + x2).toNatClampNeg (((upd t_link ((x4 * 4) + x3).toNatClampNeg ((t_link ((x4 * 4) + x3).toNatClampNeg) - r90)) ((x4 * 4) + x2).toNatClampNeg) + r90)) t_sum) := hD
        refine lv_iinc (v := x4 + 1) (lv' := [(4, .int (x4 + 1)), (5, .int r90), (0, .ref a_t), (1, .int x1), (2, .int x2), (3, .int x3)]) hx hb dd_Sp_shift_127 hl (k := 5) rfl rfl (by decide) rfl (fun ls hl => ?_)
        refine lv_goto (tgt := 71) hx hb dd_Sp_shift_130 (by decide) ?_
        exact ih71 x3 (x4 + 1) t_cut t_over (upd (upd t_link ((x4 * 4) + x3).toNatClampNeg ((t_link ((x4 * 4) + x3).toNatClampNeg) - r90)) ((x4 * 4) + x2).toNatClampNeg (((upd t_link ((x4 * 4) + x3).toNatClampNeg ((t_link ((x4 * 4) + x3).toNatClampNeg) - r90)) ((x4 * 4) + x2).toNatClampNeg) + r90)) t_sum _ _ _ hf (lv_sub hl [2, 3, 4, 5, 0] rfl) hP hD hS
  refine lv_aload_n hx hb dd_Sp_shift_0 rfl (lv_at hl 0 rfl) ?_
  refine va_get (D := (dC, dI)) (ci := 7) (v := .ref a_t_home) (C := rr_Sp) (T := tt_Sp) (N := 7) hx hb hts (fun w h => gwc (inn_Sp w h)) hown hK hP 0 rfl rfl 2 (by decide) (hts _ (gwc gw_142)) (fun _ h9 => h9) rfl dd_Sp_shift_1 ?_
  refine lv_iload_n hx hb dd_Sp_shift_4 rfl (lv_at hl 1 rfl) ?_
  obtain ⟨k5, hf⟩ := ck_some hf
  refine va_iald hx hb hK hP 7 0 rfl rfl (okb_in k5) dd_Sp_shift_5 ?_
  refine lv_istore_n (lv' := [(3, .int (t_home (x1).toNatClampNeg)), (0, .ref a_t), (1, .int x1), (2, .int x2)]) hx hb dd_Sp_shift_6 rfl hl (by decide) rfl (fun ls hl => ?_)
  refine lv_aload_n hx hb dd_Sp_shift_7 rfl (lv_at hl 1 rfl) ?_
  refine lv_aload_n hx hb dd_Sp_shift_8 rfl (lv_at hl 1 rfl) ?_
  refine lv_iload_n hx hb dd_Sp_shift_9 rfl (lv_at hl 2 rfl) ?_
  refine lv_iload_n hx hb dd_Sp_shift_10 rfl (lv_at hl 3 rfl) ?_
  obtain ⟨r11, hr11, hf⟩ := bind_some hf
  refine xcalli (rest := [.ref a_t]) (wc := (wd_Sp_overBehind cI cZ a_t a_t_bounds a_t_bounds_least a_t_bounds_most a_t_graph a_t_graph_weight a_t_home a_t_sum a_t_link a_t_graph_arcs t_cut t_over t_bounds_k t_bounds_least t_bounds_most t_graph_size t_graph_weight t_home t_sum)) (w1 := (wd_Sp_overBehind cI cZ a_t a_t_bounds a_t_bounds_least a_t_bounds_most a_t_graph a_t_graph_weight a_t_home a_t_sum a_t_link a_t_graph_arcs t_cut t_over t_bounds_k t_bounds_least t_bounds_most t_graph_size t_graph_weight t_home t_sum)) (wr := [(a_t_graph_arcs, .inl (cI, 1600, .inl t_graph_arcs)), (a_t_link, .inl (cI, 160, .inl t_link))]) (ws' := (wd_Sp_shift cI cZ a_t a_t_bounds a_t_bounds_least a_t_bounds_most a_t_graph a_t_graph_arcs a_t_graph_weight a_t_home a_t_link a_t_sum t_cut t_over t_bounds_k t_bounds_least t_bounds_most t_graph_size t_graph_arcs t_graph_weight t_home t_link t_sum)) (va_runV (As := [.int x1, .int x2]) ⟨hx, hb, hml, hown, hts⟩ (c_Sp_overBehind l dC dI cI cZ a_t a_t_bounds a_t_bounds_least a_t_bounds_most a_t_graph a_t_graph_weight a_t_home a_t_sum a_t_link a_t_graph_arcs H.size x1 x2 t_cut t_over t_bounds_k t_bounds_least t_bounds_most t_graph_size t_graph_weight t_home t_sum r11 hr11) (cwV 2 hts (gV gw_575 gw_567 gw_568 gw_53 gw_569) rfl rfl rfl (yd_Sp_overBehind) ⟨Nat.le_of_ble_eq_true rfl, Nat.le_of_ble_eq_true rfl⟩) (mkV hK (hP.sub (ws' := (wd_Sp_overBehind cI cZ a_t a_t_bounds a_t_bounds_least a_t_bounds_most a_t_graph a_t_graph_weight a_t_home a_t_sum a_t_link a_t_graph_arcs t_cut t_over t_bounds_k t_bounds_least t_bounds_most t_graph_size t_graph_weight t_home t_sum)) [0, 1, 2, 3, 4, 6, 7, 9] rfl) (hD.sub (ws' := (wd_Sp_overBehind cI cZ a_t a_t_bounds a_t_bounds_least a_t_bounds_most a_t_graph a_t_graph_weight a_t_home a_t_sum a_t_link a_t_graph_arcs t_cut t_over t_bounds_k t_bounds_least t_bounds_most t_graph_size t_graph_weight t_home t_sum)) [0, 1, 2, 3, 4, 6, 7, 9] (by decide) rfl) hN (va_recv hK hP (ci := 7) (q0 := 0) rfl rfl)) rfl rfl hl.1 rfl (lv_room (Nat.le_of_ble_eq_true rfl)) dd_Sp_shift_11 ⟨Nat.zero_le _, Nat.zero_le _⟩) hP hD hS hA [0, 1, 2, 3, 4, 6, 7, 9] [5, 8] [2, 3, 4, 5, 6, 0, 7, 8, 1, 9] rfl rfl (by decide) (by decide) rfl (by decide) rfl (fun H locs hP hD hS => ?_)
  refine va_put (D := (dC, dI)) (ci := 7) (v := .int r11) (ty := .int) (C := rr_Sp) (T := tt_Sp) (N := 7) hx hb hts (fun w h => gwc (inn_Sp w h)) tf_Sp to_Sp tn_Sp hown hK hP hD hS 0 rfl rfl 6 (by decide) (hts _ (gwc gw_153)) (fun _ h9 => h9) rfl (by decide +kernel) rfl rfl (Nat.le_of_ble_eq_true rfl) dd_Sp_shift_14 (fun H locs hP hD hS => ?_)
  have hP : va_P (dC, dI) clsL (wd_Sp_shift cI cZ a_t a_t_bounds a_t_bounds_least a_t_bounds_most a_t_graph a_t_graph_arcs a_t_graph_weight a_t_home a_t_link a_t_sum t_cut r11 t_bounds_k t_bounds_least t_bounds_most t_graph_size t_graph_arcs t_graph_weight t_home t_link t_sum) H := hP
  have hD : va_D A (wd_Sp_shift cI cZ a_t a_t_bounds a_t_bounds_least a_t_bounds_most a_t_graph a_t_graph_arcs a_t_graph_weight a_t_home a_t_link a_t_sum t_cut r11 t_bounds_k t_bounds_least t_bounds_most t_graph_size t_graph_arcs t_graph_weight t_home t_link t_sum) := hD
  refine lv_aload_n hx hb dd_Sp_shift_17 rfl (lv_at hl 1 rfl) ?_
  refine lv_dup hx hb dd_Sp_shift_18 rfl ?_
  refine va_get (D := (dC, dI)) (ci := 7) (v := .int t_cut) (C := rr_Sp) (T := tt_Sp) (N := 7) hx hb hts (fun w h => gwc (inn_Sp w h)) hown hK hP 0 rfl rfl 5 (by decide) (hts _ (gwc gw_150)) (fun _ h9 => h9) rfl dd_Sp_shift_19 ?_
  refine lv_aload_n hx hb dd_Sp_shift_22 rfl (lv_at hl 1 rfl) ?_
  refine lv_iload_n hx hb dd_Sp_shift_23 rfl (lv_at hl 2 rfl) ?_
  refine lv_iload_n hx hb dd_Sp_shift_24 rfl (lv_at hl 3 rfl) ?_
  obtain ⟨r25, hr25, hf⟩ := bind_some hf
  refine xcalli (rest := [.int t_cut, .ref a_t]) (wc := (wd_Sp_gainOf cI cZ a_t a_t_home a_t_link a_t_graph a_t_bounds a_t_sum t_cut r11 t_home t_link)) (w1 := (wd_Sp_gainOf cI cZ a_t a_t_home a_t_link a_t_graph a_t_bounds a_t_sum t_cut r11 t_home t_link)) (wr := [(a_t_bounds, .inr (0, [.int t_bounds_k, .ref a_t_bounds_least, .ref a_t_bounds_most])), (a_t_bounds_least, .inl (cI, 4, .inl t_bounds_least)), (a_t_bounds_most, .inl (cI, 4, .inl t_bounds_most)), (a_t_graph, .inr (1, [.int t_graph_size, .ref a_t_graph_weight, .ref a_t_graph_arcs])), (a_t_graph_arcs, .inl (cI, 1600, .inl t_graph_arcs)), (a_t_graph_weight, .inl (cI, 40, .inl t_graph_weight)), (a_t_sum, .inl (cI, 4, .inl t_sum))]) (ws' := (wd_Sp_shift cI cZ a_t a_t_bounds a_t_bounds_least a_t_bounds_most a_t_graph a_t_graph_arcs a_t_graph_weight a_t_home a_t_link a_t_sum t_cut r11 t_bounds_k t_bounds_least t_bounds_most t_graph_size t_graph_arcs t_graph_weight t_home t_link t_sum)) (va_runV (As := [.int x1, .int x2]) ⟨hx, hb, hml, hown, hts⟩ (c_Sp_gainOf l dC dI cI cZ a_t a_t_home a_t_link a_t_graph a_t_bounds a_t_sum H.size x1 x2 t_cut r11 t_home t_link r25 hr25) (cwV 2 hts (gV gw_576 gw_416 gw_417 gw_53 gw_418) rfl rfl rfl (yd_Sp_gainOf) ⟨Nat.le_of_ble_eq_true rfl, Nat.le_of_ble_eq_true rfl⟩) (mkV hK (hP.sub (ws' := (wd_Sp_gainOf cI cZ a_t a_t_home a_t_link a_t_graph a_t_bounds a_t_sum t_cut r11 t_home t_link)) [0, 7, 8] rfl) (hD.sub (ws' := (wd_Sp_gainOf cI cZ a_t a_t_home a_t_link a_t_graph a_t_bounds a_t_sum t_cut r11 t_home t_link)) [0, 7, 8] (by decide) rfl) hN (va_recv hK hP (ci := 7) (q0 := 0) rfl rfl)) rfl rfl hl.1 rfl (lv_room (Nat.le_of_ble_eq_true rfl)) dd_Sp_shift_25 ⟨Nat.zero_le _, Nat.zero_le _⟩) hP hD hS hA [0, 7, 8] [1, 2, 3, 4, 5, 6, 9] [7, 0, 1, 2, 3, 4, 5, 8, 9, 6] rfl rfl (by decide) (by decide) rfl (by decide) rfl (fun H locs hP hD hS => ?_)
  refine lv_isub hx hb dd_Sp_shift_28 ?_
  refine va_put (D := (dC, dI)) (ci := 7) (v := .int (t_cut - r25)) (ty := .int) (C := rr_Sp) (T := tt_Sp) (N := 7) hx hb hts (fun w h => gwc (inn_Sp w h)) tf_Sp to_Sp tn_Sp hown hK hP hD hS 0 rfl rfl 5 (by decide) (hts _ (gwc gw_150)) (fun _ h9 => h9) rfl (by decide +kernel) rfl rfl (Nat.le_of_ble_eq_true rfl) dd_Sp_shift_29 (fun H locs hP hD hS => ?_)
  have hP : va_P (dC, dI) clsL (wd_Sp_shift cI cZ a_t a_t_bounds a_t_bounds_least a_t_bounds_most a_t_graph a_t_graph_arcs a_t_graph_weight a_t_home a_t_link a_t_sum (t_cut - r25) r11 t_bounds_k t_bounds_least t_bounds_most t_graph_size t_graph_arcs t_graph_weight t_home t_link t_sum) H := hP
  have hD : va_D A (wd_Sp_shift cI cZ a_t a_t_bounds a_t_bounds_least a_t_bounds_most a_t_graph a_t_graph_arcs a_t_graph_weight a_t_home a_t_link a_t_sum (t_cut - r25) r11 t_bounds_k t_bounds_least t_bounds_most t_graph_size t_graph_arcs t_graph_weight t_home t_link t_sum) := hD
  refine lv_aload_n hx hb dd_Sp_shift_32 rfl (lv_at hl 1 rfl) ?_
  refine va_get (D := (dC, dI)) (ci := 7) (v := .ref a_t_sum) (C := rr_Sp) (T := tt_Sp) (N := 7) hx hb hts (fun w h => gwc (inn_Sp w h)) hown hK hP 0 rfl rfl 3 (by decide) (hts _ (gwc gw_147)) (fun _ h9 => h9) rfl dd_Sp_shift_33 ?_
  refine lv_iload_n hx hb dd_Sp_shift_36 rfl (lv_at hl 0 rfl) ?_
  refine lv_dup2_11 hx hb dd_Sp_shift_37 rfl rfl ?_
  obtain ⟨k38, hf⟩ := ck_some hf
  refine va_iald hx hb hK hP 9 0 rfl rfl (okb_in k38) dd_Sp_shift_38 ?_
  refine lv_aload_n hx hb dd_Sp_shift_39 rfl (lv_at hl 1 rfl) ?_
  refine va_get (D := (dC, dI)) (ci := 7) (v := .ref a_t_graph) (C := rr_Sp) (T := tt_Sp) (N := 7) hx hb hts (fun w h => gwc (inn_Sp w h)) hown hK hP 0 rfl rfl 0 (by decide) (hts _ (gwc gw_133)) (fun _ h9 => h9) rfl dd_Sp_shift_40 ?_
  refine va_get (D := (dC, dI)) (ci := 1) (v := .ref a_t_graph_weight) (C := rr_Gr) (T := tt_Gr) (N := 3) hx hb hts (fun w h => gwc (inn_Gr w h)) hown hK hP 4 rfl rfl 1 (by decide) (hts _ (gwc gw_94)) (fun _ h9 => h9) rfl dd_Sp_shift_43 ?_
  refine lv_iload_n hx hb dd_Sp_shift_46 rfl (lv_at hl 2 rfl) ?_
  obtain ⟨k47, hf⟩ := ck_some hf
  refine va_iald hx hb hK hP 6 0 rfl rfl (okb_in k47) dd_Sp_shift_47 ?_
  refine lv_isub hx hb dd_Sp_shift_48 ?_
  obtain ⟨k49, hf⟩ := ck_some hf
  refine va_iast hx hb hK hP hD hS 9 0 rfl rfl (okb_in k49) dd_Sp_shift_49 (fun H locs hP hD hS => ?_)
  have hP : va_P (dC, dI) clsL (wd_Sp_shift cI cZ a_t a_t_bounds a_t_bounds_least a_t_bounds_most a_t_graph a_t_graph_arcs a_t_graph_weight a_t_home a_t_link a_t_sum (t_cut - r25) r11 t_bounds_k t_bounds_least t_bounds_most t_graph_size t_graph_arcs t_graph_weight t_home t_link (upd t_sum (t_home (x1).toNatClampNeg).toNatClampNeg ((t_sum (t_home (x1).toNatClampNeg).toNatClampNeg) - (t_graph_weight (x1).toNatClampNeg)))) H := hP
  have hD : va_D A (wd_Sp_shift cI cZ a_t a_t_bounds a_t_bounds_least a_t_bounds_most a_t_graph a_t_graph_arcs a_t_graph_weight a_t_home a_t_link a_t_sum (t_cut - r25) r11 t_bounds_k t_bounds_least t_bounds_most t_graph_size t_graph_arcs t_graph_weight t_home t_link (upd t_sum (t_home (x1).toNatClampNeg).toNatClampNeg ((t_sum (t_home (x1).toNatClampNeg).toNatClampNeg) - (t_graph_weight (x1).toNatClampNeg)))) := hD
  refine lv_aload_n hx hb dd_Sp_shift_50 rfl (lv_at hl 1 rfl) ?_
  refine va_get (D := (dC, dI)) (ci := 7) (v := .ref a_t_sum) (C := rr_Sp) (T := tt_Sp) (N := 7) hx hb hts (fun w h => gwc (inn_Sp w h)) hown hK hP 0 rfl rfl 3 (by decide) (hts _ (gwc gw_147)) (fun _ h9 => h9) rfl dd_Sp_shift_51 ?_
  refine lv_iload_n hx hb dd_Sp_shift_54 rfl (lv_at hl 3 rfl) ?_
  refine lv_dup2_11 hx hb dd_Sp_shift_55 rfl rfl ?_
  obtain ⟨k56, hf⟩ := ck_some hf
  refine va_iald hx hb hK hP 9 0 rfl rfl (okb_in k56) dd_Sp_shift_56 ?_
  refine lv_aload_n hx hb dd_Sp_shift_57 rfl (lv_at hl 1 rfl) ?_
  refine va_get (D := (dC, dI)) (ci := 7) (v := .ref a_t_graph) (C := rr_Sp) (T := tt_Sp) (N := 7) hx hb hts (fun w h => gwc (inn_Sp w h)) hown hK hP 0 rfl rfl 0 (by decide) (hts _ (gwc gw_133)) (fun _ h9 => h9) rfl dd_Sp_shift_58 ?_
  refine va_get (D := (dC, dI)) (ci := 1) (v := .ref a_t_graph_weight) (C := rr_Gr) (T := tt_Gr) (N := 3) hx hb hts (fun w h => gwc (inn_Gr w h)) hown hK hP 4 rfl rfl 1 (by decide) (hts _ (gwc gw_94)) (fun _ h9 => h9) rfl dd_Sp_shift_61 ?_
  refine lv_iload_n hx hb dd_Sp_shift_64 rfl (lv_at hl 2 rfl) ?_
  obtain ⟨k65, hf⟩ := ck_some hf
  refine va_iald hx hb hK hP 6 0 rfl rfl (okb_in k65) dd_Sp_shift_65 ?_
  refine lv_iadd hx hb dd_Sp_shift_66 ?_
  obtain ⟨k67, hf⟩ := ck_some hf
  refine va_iast hx hb hK hP hD hS 9 0 rfl rfl (okb_in k67) dd_Sp_shift_67 (fun H locs hP hD hS => ?_)
  have hP : va_P (dC, dI) clsL (wd_Sp_shift cI cZ a_t a_t_bounds a_t_bounds_least a_t_bounds_most a_t_graph a_t_graph_arcs a_t_graph_weight a_t_home a_t_link a_t_sum (t_cut - r25) r11 t_bounds_k t_bounds_least t_bounds_most t_graph_size t_graph_arcs t_graph_weight t_home t_link (upd (upd t_sum (t_home (x1).toNatClampNeg).toNatClampNeg ((t_sum (t_home (x1).toNatClampNeg).toNatClampNeg) - (t_graph_weight (x1).toNatClampNeg))) (x2).toNatClampNeg (((upd t_sum (t_home (x1).toNatClampNeg).toNatClampNeg ((t_sum (t_home (x1).toNatClampNeg).toNatClampNeg) - (t_graph_weight (x1).toNatClampNeg))) (x2).toNatClampNeg) + (t_graph_weight (x1).toNatClampNeg)))) H := hP
  have hD : va_D A (wd_Sp_shift cI cZ a_t a_t_bounds a_t_bounds_least a_t_bounds_most a_t_graph a_t_graph_arcs a_t_graph_weight a_t_home a_t_link a_t_sum (t_cut - r25) r11 t_bounds_k t_bounds_least t_bounds_most t_graph_size t_graph_arcs t_graph_weight t_home t_link (upd (upd t_sum (t_home (x1).toNatClampNeg).toNatClampNeg ((t_sum (t_home (x1).toNatClampNeg).toNatClampNeg) - (t_graph_weight (x1).toNatClampNeg))) (x2).toNatClampNeg (((upd t_sum (t_home (x1).toNatClampNeg).toNatClampNeg ((t_sum (t_home (x1).toNatClampNeg).toNatClampNeg) - (t_graph_weight (x1).toNatClampNeg))) (x2).toNatClampNeg) + (t_graph_weight (x1).toNatClampNeg)))) := hD
  refine lv_iconst (v := 0) hx hb dd_Sp_shift_68 (by decide) ?_
  refine lv_istore (lv' := [(4, .int 0), (3, .int (t_home (x1).toNatClampNeg)), (0, .ref a_t), (1, .int x1), (2, .int x2)]) hx hb dd_Sp_shift_69 hl (by decide) rfl (fun ls hl => ?_)
  exact h71 64 (t_home (x1).toNatClampNeg) 0 (t_cut - r25) r11 t_link (upd (upd t_sum (t_home (x1).toNatClampNeg).toNatClampNeg ((t_sum (t_home (x1).toNatClampNeg).toNatClampNeg) - (t_graph_weight (x1).toNatClampNeg))) (x2).toNatClampNeg (((upd t_sum (t_home (x1).toNatClampNeg).toNatClampNeg ((t_sum (t_home (x1).toNatClampNeg).toNatClampNeg) - (t_graph_weight (x1).toNatClampNeg))) (x2).toNatClampNeg) + (t_graph_weight (x1).toNatClampNeg))) _ _ _ hf (lv_sub hl [2, 3, 4, 1, 0] rfl) hP hD hS
abbrev wd_Sp_nodesIn (cI cZ : ClassId) (a_t a_t_graph a_t_home a_t_bounds a_t_sum a_t_link a_t_graph_weight a_t_graph_arcs : Nat) (t_cut : Int32) (t_over : Int32) (t_graph_size : Int32) (t_home : Nat → Int32) : va_W := [(a_t, .inr (7, [.ref a_t_graph, .ref a_t_bounds, .ref a_t_home, .ref a_t_sum, .ref a_t_link, .int t_cut, .int t_over])), (a_t_graph, .inr (1, [.int t_graph_size, .ref a_t_graph_weight, .ref a_t_graph_arcs])), (a_t_home, .inl (cI, 40, .inl t_home))]
set_option maxRecDepth 100000 in
set_option maxHeartbeats 4000000 in
theorem c_Sp_nodesIn (l : Launch) (dC : Nat → ClassId) (dI : Nat → Nat → Nat) (cI cZ : ClassId) (a_t a_t_graph a_t_home a_t_bounds a_t_sum a_t_link a_t_graph_weight a_t_graph_arcs sz : Nat) (x1 : Int32) (t_cut : Int32) (t_over : Int32) (t_graph_size : Int32) (t_home : Nat → Int32) (out : Int32) (hf : f_Sp_nodesIn x1 t_graph_size t_home = some out) :
    Met l yy_Sp_nodesIn wq_Sp_nodesIn ({ frames := 0, cells := 0, slots := 0, locals := 0 }) (va_Pc ([.ref a_t, .int x1] : List Value) (pre_ (dC, dI) cI cZ sz (wd_Sp_nodesIn cI cZ a_t a_t_graph a_t_home a_t_bounds a_t_sum a_t_link a_t_graph_weight a_t_graph_arcs t_cut t_over t_graph_size t_home))) (va_Qi (fun (r : Int32) (_ : Unit) => r = out) (fun _ => pst (dC, dI) (va_A (wd_Sp_nodesIn cI cZ a_t a_t_graph a_t_home a_t_bounds a_t_sum a_t_link a_t_graph_weight a_t_graph_arcs t_cut t_over t_graph_size t_home) sz) (wd_Sp_nodesIn cI cZ a_t a_t_graph a_t_home a_t_bounds a_t_sum a_t_link a_t_graph_weight a_t_graph_arcs t_cut t_over t_graph_size t_home)) (va_A (wd_Sp_nodesIn cI cZ a_t a_t_graph a_t_home a_t_bounds a_t_sum a_t_link a_t_graph_weight a_t_graph_arcs t_cut t_over t_graph_size t_home) sz)) 0 0 (va_A (wd_Sp_nodesIn cI cZ a_t a_t_graph a_t_home a_t_bounds a_t_sum a_t_link a_t_graph_weight a_t_graph_arcs t_cut t_over t_graph_size t_home) sz) := by
  refine Met.ofW (cc := cc_Sp_nodesIn) (maxL := 4) (ret := (some .int)) (by decide) rfl ?_
  intro p e s m args below meth c s₁ B hml hv
  obtain ⟨rfl, hsz, hP, hK, hD0, hN⟩ := hv
  have hx := B.exec
  have hb := B.bytes
  have hr := B.returns
  have hts := atoms_spec (ws := wq_Sp_nodesIn) B.pre
  have hown : s.vm.findClass rr_Sp = some m.cls := findClass_of_methodNamed B.named
  have hlocks := B.notSynchronized
  subst hsz
  have hD := hD0.self (sz := s.heap.size)
  generalize hAe : va_A (wd_Sp_nodesIn cI cZ a_t a_t_graph a_t_home a_t_bounds a_t_sum a_t_link a_t_graph_weight a_t_graph_arcs t_cut t_over t_graph_size t_home) s.heap.size = A at hD ⊢
  have hA : ∀ q : Nat, s.heap.size ≤ q → A q := fun q h => by rw [← hAe]; exact Or.inr h
  obtain ⟨H, hH⟩ : ∃ H : Heap, H = s.heap := ⟨_, rfl⟩
  have hS : va_S A s.heap H [] := by rw [hH]; exact va_S.rf
  have hl := lv_entry (([.ref a_t, .int x1] : List Value)) (n := 4) (Nat.le_of_ble_eq_true rfl)
  rw [lg_entry_eq]
  generalize (lg_sl (([.ref a_t, .int x1] : List Value)) ++ List.replicate (4 - (lg_sl (([.ref a_t, .int x1] : List Value))).length) Slot.unset).toArray = ls at hl ⊢
  have hl : lv_has ls 4 [(0, .ref a_t), (1, .int x1)] := hl
  rw [← hH] at hP ⊢
  have hP : va_P (dC, dI) clsL (wd_Sp_nodesIn cI cZ a_t a_t_graph a_t_home a_t_bounds a_t_sum a_t_link a_t_graph_weight a_t_graph_arcs t_cut t_over t_graph_size t_home) H := hP
  unfold f_Sp_nodesIn at hf
  have h4 : ∀ (n4 : Nat) (x2 : Int32) (x3 : Int32) (ls : Array Slot) (H : Heap) (locs : List Loc), L_Sp_nodesIn_4 x1 t_graph_size t_home n4 x2 x3 = some out → lv_has ls 4 [(0, .ref a_t), (1, .int x1), (2, .int x2), (3, .int x3)] → va_P (dC, dI) clsL (wd_Sp_nodesIn cI cZ a_t a_t_graph a_t_home a_t_bounds a_t_sum a_t_link a_t_graph_weight a_t_graph_arcs t_cut t_over t_graph_size t_home) H → va_D A (wd_Sp_nodesIn cI cZ a_t a_t_graph a_t_home a_t_bounds a_t_sum a_t_link a_t_graph_weight a_t_graph_arcs t_cut t_over t_graph_size t_home) → va_S A s.heap H locs → W p l e (headSpec wq_Sp_nodesIn ({ frames := 0, cells := 0, slots := 0, locals := 0 })).room s m ([.ref a_t, .int x1] : List Value).toArray below meth c H locs 0 0 (MQ below (va_Qi (fun (r : Int32) (_ : Unit) => r = out) (fun _ => pst (dC, dI) A (wd_Sp_nodesIn cI cZ a_t a_t_graph a_t_home a_t_bounds a_t_sum a_t_link a_t_graph_weight a_t_graph_arcs t_cut t_over t_graph_size t_home)) A) ([.ref a_t, .int x1] : List Value).toArray s 0 0 A) (F0 m 4 ls []) := by
    intro n4
    induction n4 with
    | zero =>
      intro x2 x3 ls H locs hf
      rw [L_Sp_nodesIn_4] at hf
      exact absurd hf (fun h => by cases h)
    | succ n4 ih4 =>
      intro x2 x3 ls H locs hf hl hP hD hS
      rw [L_Sp_nodesIn_4] at hf
      refine lv_iload_n hx hb dd_Sp_nodesIn_4 rfl (lv_at hl 3 rfl) ?_
      refine lv_aload_n hx hb dd_Sp_nodesIn_5 rfl (lv_at hl 0 rfl) ?_
      refine va_get (D := (dC, dI)) (ci := 7) (v := .ref a_t_graph) (C := rr_Sp) (T := tt_Sp) (N := 7) hx hb hts (fun w h => gwc (inn_Sp w h)) hown hK hP 0 rfl rfl 0 (by decide) (hts _ (gwc gw_133)) (fun _ h9 => h9) rfl dd_Sp_nodesIn_6 ?_
      refine va_get (D := (dC, dI)) (ci := 1) (v := .int t_graph_size) (C := rr_Gr) (T := tt_Gr) (N := 3) hx hb hts (fun w h => gwc (inn_Gr w h)) hown hK hP 1 rfl rfl 0 (by decide) (hts _ (gwc gw_88)) (fun _ h9 => h9) rfl dd_Sp_nodesIn_9 ?_
      refine lv_icmp_ge (tgt := 34) hx hb dd_Sp_nodesIn_12 (by decide) (fun cc => ?_) (fun cc => ?_)
      · skip
        have hf := if_t cc hf
        refine lv_iload_n hx hb dd_Sp_nodesIn_34 rfl (lv_at hl 2 rfl) ?_
        cases hf
        exact W.iret hx hb hr (fun t ht hW => ⟨⟨_, (), rfl, rfl, pst_of ht hP hD⟩, hS.F ht⟩) hS.2.2 dd_Sp_nodesIn_35
      · skip
        have hf := if_f cc hf
        refine lv_aload_n hx hb dd_Sp_nodesIn_15 rfl (lv_at hl 0 rfl) ?_
        refine va_get (D := (dC, dI)) (ci := 7) (v := .ref a_t_home) (C := rr_Sp) (T := tt_Sp) (N := 7) hx hb hts (fun w h => gwc (inn_Sp w h)) hown hK hP 0 rfl rfl 2 (by decide) (hts _ (gwc gw_142)) (fun _ h9 => h9) rfl dd_Sp_nodesIn_16 ?_
        refine lv_iload_n hx hb dd_Sp_nodesIn_19 rfl (lv_at hl 3 rfl) ?_
        obtain ⟨k20, hf⟩ := ck_some hf
        refine va_iald hx hb hK hP 2 0 rfl rfl (okb_in k20) dd_Sp_nodesIn_20 ?_
        refine lv_iload_n hx hb dd_Sp_nodesIn_21 rfl (lv_at hl 1 rfl) ?_
        refine lv_icmp_ne (tgt := 28) hx hb dd_Sp_nodesIn_22 (by decide) (fun cc => ?_) (fun cc => ?_)
        · skip
          have hf := if_f cc hf
          refine lv_iinc (v := x3 + 1) (lv' := [(3, .int (x3 + 1)), (0, .ref a_t), (1, .int x1), (2, .int x2)]) hx hb dd_Sp_nodesIn_28 hl (k := 3) rfl rfl (by decide) rfl (fun ls hl => ?_)
          refine lv_goto (tgt := 4) hx hb dd_Sp_nodesIn_31 (by decide) ?_
          exact ih4 x2 (x3 + 1) _ _ _ hf (lv_sub hl [1, 2, 3, 0] rfl) hP hD hS
        · skip
          have hf := if_t cc hf
          refine lv_iinc (v := x2 + 1) (lv' := [(2, .int (x2 + 1)), (0, .ref a_t), (1, .int x1), (3, .int x3)]) hx hb dd_Sp_nodesIn_25 hl (k := 2) rfl rfl (by decide) rfl (fun ls hl => ?_)
          refine lv_iinc (v := x3 + 1) (lv' := [(3, .int (x3 + 1)), (2, .int (x2 + 1)), (0, .ref a_t), (1, .int x1)]) hx hb dd_Sp_nodesIn_28 hl (k := 3) rfl rfl (by decide) rfl (fun ls hl => ?_)
          refine lv_goto (tgt := 4) hx hb dd_Sp_nodesIn_31 (by decide) ?_
          exact ih4 (x2 + 1) (x3 + 1) _ _ _ hf (lv_sub hl [2, 3, 1, 0] rfl) hP hD hS
  refine lv_iconst (v := 0) hx hb dd_Sp_nodesIn_0 (by decide) ?_
  refine lv_istore_n (lv' := [(2, .int 0), (0, .ref a_t), (1, .int x1)]) hx hb dd_Sp_nodesIn_1 rfl hl (by decide) rfl (fun ls hl => ?_)
  refine lv_iconst (v := 0) hx hb dd_Sp_nodesIn_2 (by decide) ?_
  refine lv_istore_n (lv' := [(3, .int 0), (2, .int 0), (0, .ref a_t), (1, .int x1)]) hx hb dd_Sp_nodesIn_3 rfl hl (by decide) rfl (fun ls hl => ?_)
  exact h4 64 0 0 _ _ _ hf (lv_sub hl [2, 3, 1, 0] rfl) hP hD hS
abbrev wd_Sp_volume (cI cZ : ClassId) (a_t a_t_bounds a_t_home a_t_link a_t_graph a_t_sum a_t_bounds_least a_t_bounds_most : Nat) (t_cut : Int32) (t_over : Int32) (t_bounds_k : Int32) (t_home : Nat → Int32) (t_link : Nat → Int32) : va_W := [(a_t, .inr (7, [.ref a_t_graph, .ref a_t_bounds, .ref a_t_home, .ref a_t_sum, .ref a_t_link, .int t_cut, .int t_over])), (a_t_bounds, .inr (0, [.int t_bounds_k, .ref a_t_bounds_least, .ref a_t_bounds_most])), (a_t_home, .inl (cI, 40, .inl t_home)), (a_t_link, .inl (cI, 160, .inl t_link))]
set_option maxRecDepth 100000 in
set_option maxHeartbeats 4000000 in
theorem c_Sp_volume (l : Launch) (dC : Nat → ClassId) (dI : Nat → Nat → Nat) (cI cZ : ClassId) (a_t a_t_bounds a_t_home a_t_link a_t_graph a_t_sum a_t_bounds_least a_t_bounds_most sz : Nat) (x1 : Int32) (t_cut : Int32) (t_over : Int32) (t_bounds_k : Int32) (t_home : Nat → Int32) (t_link : Nat → Int32) (out : Int32) (hf : f_Sp_volume x1 t_bounds_k t_home t_link = some out) :
    Met l yy_Sp_volume wq_Sp_volume ({ frames := 0, cells := 0, slots := 0, locals := 0 }) (va_Pc ([.ref a_t, .int x1] : List Value) (pre_ (dC, dI) cI cZ sz (wd_Sp_volume cI cZ a_t a_t_bounds a_t_home a_t_link a_t_graph a_t_sum a_t_bounds_least a_t_bounds_most t_cut t_over t_bounds_k t_home t_link))) (va_Qi (fun (r : Int32) (_ : Unit) => r = out) (fun _ => pst (dC, dI) (va_A (wd_Sp_volume cI cZ a_t a_t_bounds a_t_home a_t_link a_t_graph a_t_sum a_t_bounds_least a_t_bounds_most t_cut t_over t_bounds_k t_home t_link) sz) (wd_Sp_volume cI cZ a_t a_t_bounds a_t_home a_t_link a_t_graph a_t_sum a_t_bounds_least a_t_bounds_most t_cut t_over t_bounds_k t_home t_link)) (va_A (wd_Sp_volume cI cZ a_t a_t_bounds a_t_home a_t_link a_t_graph a_t_sum a_t_bounds_least a_t_bounds_most t_cut t_over t_bounds_k t_home t_link) sz)) 0 0 (va_A (wd_Sp_volume cI cZ a_t a_t_bounds a_t_home a_t_link a_t_graph a_t_sum a_t_bounds_least a_t_bounds_most t_cut t_over t_bounds_k t_home t_link) sz) := by
  refine Met.ofW (cc := cc_Sp_volume) (maxL := 4) (ret := (some .int)) (by decide) rfl ?_
  intro p e s m args below meth c s₁ B hml hv
  obtain ⟨rfl, hsz, hP, hK, hD0, hN⟩ := hv
  have hx := B.exec
  have hb := B.bytes
  have hr := B.returns
  have hts := atoms_spec (ws := wq_Sp_volume) B.pre
  have hown : s.vm.findClass rr_Sp = some m.cls := findClass_of_methodNamed B.named
  have hlocks := B.notSynchronized
  subst hsz
  have hD := hD0.self (sz := s.heap.size)
  generalize hAe : va_A (wd_Sp_volume cI cZ a_t a_t_bounds a_t_home a_t_link a_t_graph a_t_sum a_t_bounds_least a_t_bounds_most t_cut t_over t_bounds_k t_home t_link) s.heap.size = A at hD ⊢
  have hA : ∀ q : Nat, s.heap.size ≤ q → A q := fun q h => by rw [← hAe]; exact Or.inr h
  obtain ⟨H, hH⟩ : ∃ H : Heap, H = s.heap := ⟨_, rfl⟩
  have hS : va_S A s.heap H [] := by rw [hH]; exact va_S.rf
  have hl := lv_entry (([.ref a_t, .int x1] : List Value)) (n := 4) (Nat.le_of_ble_eq_true rfl)
  rw [lg_entry_eq]
  generalize (lg_sl (([.ref a_t, .int x1] : List Value)) ++ List.replicate (4 - (lg_sl (([.ref a_t, .int x1] : List Value))).length) Slot.unset).toArray = ls at hl ⊢
  have hl : lv_has ls 4 [(0, .ref a_t), (1, .int x1)] := hl
  rw [← hH] at hP ⊢
  have hP : va_P (dC, dI) clsL (wd_Sp_volume cI cZ a_t a_t_bounds a_t_home a_t_link a_t_graph a_t_sum a_t_bounds_least a_t_bounds_most t_cut t_over t_bounds_k t_home t_link) H := hP
  unfold f_Sp_volume at hf
  have h4 : ∀ (n4 : Nat) (x2 : Int32) (x3 : Int32) (ls : Array Slot) (H : Heap) (locs : List Loc), L_Sp_volume_4 x1 t_bounds_k t_home t_link n4 x2 x3 = some out → lv_has ls 4 [(0, .ref a_t), (1, .int x1), (2, .int x2), (3, .int x3)] → va_P (dC, dI) clsL (wd_Sp_volume cI cZ a_t a_t_bounds a_t_home a_t_link a_t_graph a_t_sum a_t_bounds_least a_t_bounds_most t_cut t_over t_bounds_k t_home t_link) H → va_D A (wd_Sp_volume cI cZ a_t a_t_bounds a_t_home a_t_link a_t_graph a_t_sum a_t_bounds_least a_t_bounds_most t_cut t_over t_bounds_k t_home t_link) → va_S A s.heap H locs → W p l e (headSpec wq_Sp_volume ({ frames := 0, cells := 0, slots := 0, locals := 0 })).room s m ([.ref a_t, .int x1] : List Value).toArray below meth c H locs 0 0 (MQ below (va_Qi (fun (r : Int32) (_ : Unit) => r = out) (fun _ => pst (dC, dI) A (wd_Sp_volume cI cZ a_t a_t_bounds a_t_home a_t_link a_t_graph a_t_sum a_t_bounds_least a_t_bounds_most t_cut t_over t_bounds_k t_home t_link)) A) ([.ref a_t, .int x1] : List Value).toArray s 0 0 A) (F0 m 4 ls []) := by
    intro n4
    induction n4 with
    | zero =>
      intro x2 x3 ls H locs hf
      rw [L_Sp_volume_4] at hf
      exact absurd hf (fun h => by cases h)
    | succ n4 ih4 =>
      intro x2 x3 ls H locs hf hl hP hD hS
      rw [L_Sp_volume_4] at hf
      refine lv_iload_n hx hb dd_Sp_volume_4 rfl (lv_at hl 3 rfl) ?_
      refine lv_aload_n hx hb dd_Sp_volume_5 rfl (lv_at hl 0 rfl) ?_
      refine va_get (D := (dC, dI)) (ci := 7) (v := .ref a_t_bounds) (C := rr_Sp) (T := tt_Sp) (N := 7) hx hb hts (fun w h => gwc (inn_Sp w h)) hown hK hP 0 rfl rfl 1 (by decide) (hts _ (gwc gw_138)) (fun _ h9 => h9) rfl dd_Sp_volume_6 ?_
      refine va_get (D := (dC, dI)) (ci := 0) (v := .int t_bounds_k) (C := rr_Bo) (T := tt_Bo) (N := 3) hx hb hts (fun w h => gwc (inn_Bo w h)) hown hK hP 1 rfl rfl 0 (by decide) (hts _ (gwc gw_115)) (fun _ h9 => h9) rfl dd_Sp_volume_9 ?_
      refine lv_icmp_ge (tgt := 47) hx hb dd_Sp_volume_12 (by decide) (fun cc => ?_) (fun cc => ?_)
      · skip
        have hf := if_t cc hf
        refine lv_iload_n hx hb dd_Sp_volume_47 rfl (lv_at hl 2 rfl) ?_
        cases hf
        exact W.iret hx hb hr (fun t ht hW => ⟨⟨_, (), rfl, rfl, pst_of ht hP hD⟩, hS.F ht⟩) hS.2.2 dd_Sp_volume_48
      · skip
        have hf := if_f cc hf
        refine lv_iload_n hx hb dd_Sp_volume_15 rfl (lv_at hl 3 rfl) ?_
        refine lv_aload_n hx hb dd_Sp_volume_16 rfl (lv_at hl 0 rfl) ?_
        refine va_get (D := (dC, dI)) (ci := 7) (v := .ref a_t_home) (C := rr_Sp) (T := tt_Sp) (N := 7) hx hb hts (fun w h => gwc (inn_Sp w h)) hown hK hP 0 rfl rfl 2 (by decide) (hts _ (gwc gw_142)) (fun _ h9 => h9) rfl dd_Sp_volume_17 ?_
        refine lv_iload_n hx hb dd_Sp_volume_20 rfl (lv_at hl 1 rfl) ?_
        obtain ⟨k21, hf⟩ := ck_some hf
        refine va_iald hx hb hK hP 2 0 rfl rfl (okb_in k21) dd_Sp_volume_21 ?_
        refine lv_icmp_eq (tgt := 41) hx hb dd_Sp_volume_22 (by decide) (fun cc => ?_) (fun cc => ?_)
        · skip
          have hf := if_t cc hf
          refine lv_iinc (v := x3 + 1) (lv' := [(3, .int (x3 + 1)), (0, .ref a_t), (1, .int x1), (2, .int x2)]) hx hb dd_Sp_volume_41 hl (k := 3) rfl rfl (by decide) rfl (fun ls hl => ?_)
          refine lv_goto (tgt := 4) hx hb dd_Sp_volume_44 (by decide) ?_
          exact ih4 x2 (x3 + 1) _ _ _ hf (lv_sub hl [1, 2, 3, 0] rfl) hP hD hS
        · skip
          have hf := if_f cc hf
          refine lv_aload_n hx hb dd_Sp_volume_25 rfl (lv_at hl 0 rfl) ?_
          refine va_get (D := (dC, dI)) (ci := 7) (v := .ref a_t_link) (C := rr_Sp) (T := tt_Sp) (N := 7) hx hb hts (fun w h => gwc (inn_Sp w h)) hown hK hP 0 rfl rfl 4 (by decide) (hts _ (gwc gw_149)) (fun _ h9 => h9) rfl dd_Sp_volume_26 ?_
          refine lv_iload_n hx hb dd_Sp_volume_29 rfl (lv_at hl 1 rfl) ?_
          refine lv_iconst (v := 4) hx hb dd_Sp_volume_30 (by decide) ?_
          refine lv_imul hx hb dd_Sp_volume_31 ?_
          refine lv_iload_n hx hb dd_Sp_volume_32 rfl (lv_at hl 3 rfl) ?_
          refine lv_iadd hx hb dd_Sp_volume_33 ?_
          obtain ⟨k34, hf⟩ := ck_some hf
          refine va_iald hx hb hK hP 3 0 rfl rfl (okb_in k34) dd_Sp_volume_34 ?_
          refine lv_if_le (tgt := 41) hx hb dd_Sp_volume_35 (by decide) (fun cc => ?_) (fun cc => ?_)
          · skip
            have hf := if_t cc hf
            refine lv_iinc (v := x3 + 1) (lv' := [(3, .int (x3 + 1)), (0, .ref a_t), (1, .int x1), (2, .int x2)]) hx hb dd_Sp_volume_41 hl (k := 3) rfl rfl (by decide) rfl (fun ls hl => ?_)
            refine lv_goto (tgt := 4) hx hb dd_Sp_volume_44 (by decide) ?_
            exact ih4 x2 (x3 + 1) _ _ _ hf (lv_sub hl [1, 2, 3, 0] rfl) hP hD hS
          · skip
            have hf := if_f cc hf
            refine lv_iinc (v := x2 + 1) (lv' := [(2, .int (x2 + 1)), (0, .ref a_t), (1, .int x1), (3, .int x3)]) hx hb dd_Sp_volume_38 hl (k := 2) rfl rfl (by decide) rfl (fun ls hl => ?_)
            refine lv_iinc (v := x3 + 1) (lv' := [(3, .int (x3 + 1)), (2, .int (x2 + 1)), (0, .ref a_t), (1, .int x1)]) hx hb dd_Sp_volume_41 hl (k := 3) rfl rfl (by decide) rfl (fun ls hl => ?_)
            refine lv_goto (tgt := 4) hx hb dd_Sp_volume_44 (by decide) ?_
            exact ih4 (x2 + 1) (x3 + 1) _ _ _ hf (lv_sub hl [2, 3, 1, 0] rfl) hP hD hS
  refine lv_iconst (v := 0) hx hb dd_Sp_volume_0 (by decide) ?_
  refine lv_istore_n (lv' := [(2, .int 0), (0, .ref a_t), (1, .int x1)]) hx hb dd_Sp_volume_1 rfl hl (by decide) rfl (fun ls hl => ?_)
  refine lv_iconst (v := 0) hx hb dd_Sp_volume_2 (by decide) ?_
  refine lv_istore_n (lv' := [(3, .int 0), (2, .int 0), (0, .ref a_t), (1, .int x1)]) hx hb dd_Sp_volume_3 rfl hl (by decide) rfl (fun ls hl => ?_)
  exact h4 64 0 0 _ _ _ hf (lv_sub hl [2, 3, 1, 0] rfl) hP hD hS
abbrev wd_Sp_volumes (cI cZ : ClassId) (a_t a_t_bounds a_t_graph a_t_home a_t_link a_t_sum a_t_bounds_least a_t_bounds_most a_t_graph_weight a_t_graph_arcs : Nat) (t_cut : Int32) (t_over : Int32) (t_bounds_k : Int32) (t_graph_size : Int32) (t_home : Nat → Int32) (t_link : Nat → Int32) : va_W := [(a_t, .inr (7, [.ref a_t_graph, .ref a_t_bounds, .ref a_t_home, .ref a_t_sum, .ref a_t_link, .int t_cut, .int t_over])), (a_t_bounds, .inr (0, [.int t_bounds_k, .ref a_t_bounds_least, .ref a_t_bounds_most])), (a_t_graph, .inr (1, [.int t_graph_size, .ref a_t_graph_weight, .ref a_t_graph_arcs])), (a_t_home, .inl (cI, 40, .inl t_home)), (a_t_link, .inl (cI, 160, .inl t_link))]
set_option maxRecDepth 100000 in
set_option maxHeartbeats 4000000 in
theorem c_Sp_volumes (l : Launch) (dC : Nat → ClassId) (dI : Nat → Nat → Nat) (cI cZ : ClassId) (a_t a_t_bounds a_t_graph a_t_home a_t_link a_t_sum a_t_bounds_least a_t_bounds_most a_t_graph_weight a_t_graph_arcs sz : Nat) (t_cut : Int32) (t_over : Int32) (t_bounds_k : Int32) (t_graph_size : Int32) (t_home : Nat → Int32) (t_link : Nat → Int32) (out : Int32) (hf : f_Sp_volumes t_bounds_k t_graph_size t_home t_link = some out) :
    Met l yy_Sp_volumes wq_Sp_volumes ({ frames := 1, cells := 0, slots := 0, locals := 23 }) (va_Pc ([.ref a_t] : List Value) (pre_ (dC, dI) cI cZ sz (wd_Sp_volumes cI cZ a_t a_t_bounds a_t_graph a_t_home a_t_link a_t_sum a_t_bounds_least a_t_bounds_most a_t_graph_weight a_t_graph_arcs t_cut t_over t_bounds_k t_graph_size t_home t_link))) (va_Qi (fun (r : Int32) (_ : Unit) => r = out) (fun _ => pst (dC, dI) (va_A (wd_Sp_volumes cI cZ a_t a_t_bounds a_t_graph a_t_home a_t_link a_t_sum a_t_bounds_least a_t_bounds_most a_t_graph_weight a_t_graph_arcs t_cut t_over t_bounds_k t_graph_size t_home t_link) sz) (wd_Sp_volumes cI cZ a_t a_t_bounds a_t_graph a_t_home a_t_link a_t_sum a_t_bounds_least a_t_bounds_most a_t_graph_weight a_t_graph_arcs t_cut t_over t_bounds_k t_graph_size t_home t_link)) (va_A (wd_Sp_volumes cI cZ a_t a_t_bounds a_t_graph a_t_home a_t_link a_t_sum a_t_bounds_least a_t_bounds_most a_t_graph_weight a_t_graph_arcs t_cut t_over t_bounds_k t_graph_size t_home t_link) sz)) 0 0 (va_A (wd_Sp_volumes cI cZ a_t a_t_bounds a_t_graph a_t_home a_t_link a_t_sum a_t_bounds_least a_t_bounds_most a_t_graph_weight a_t_graph_arcs t_cut t_over t_bounds_k t_graph_size t_home t_link) sz) := by
  refine Met.ofW (cc := cc_Sp_volumes) (maxL := 3) (ret := (some .int)) (by decide) rfl ?_
  intro p e s m args below meth c s₁ B hml hv
  obtain ⟨rfl, hsz, hP, hK, hD0, hN⟩ := hv
  have hx := B.exec
  have hb := B.bytes
  have hr := B.returns
  have hts := atoms_spec (ws := wq_Sp_volumes) B.pre
  have hown : s.vm.findClass rr_Sp = some m.cls := findClass_of_methodNamed B.named
  have hlocks := B.notSynchronized
  subst hsz
  have hD := hD0.self (sz := s.heap.size)
  generalize hAe : va_A (wd_Sp_volumes cI cZ a_t a_t_bounds a_t_graph a_t_home a_t_link a_t_sum a_t_bounds_least a_t_bounds_most a_t_graph_weight a_t_graph_arcs t_cut t_over t_bounds_k t_graph_size t_home t_link) s.heap.size = A at hD ⊢
  have hA : ∀ q : Nat, s.heap.size ≤ q → A q := fun q h => by rw [← hAe]; exact Or.inr h
  obtain ⟨H, hH⟩ : ∃ H : Heap, H = s.heap := ⟨_, rfl⟩
  have hS : va_S A s.heap H [] := by rw [hH]; exact va_S.rf
  have hl := lv_entry (([.ref a_t] : List Value)) (n := 3) (Nat.le_of_ble_eq_true rfl)
  rw [lg_entry_eq]
  generalize (lg_sl (([.ref a_t] : List Value)) ++ List.replicate (3 - (lg_sl (([.ref a_t] : List Value))).length) Slot.unset).toArray = ls at hl ⊢
  have hl : lv_has ls 3 [(0, .ref a_t)] := hl
  rw [← hH] at hP ⊢
  have hP : va_P (dC, dI) clsL (wd_Sp_volumes cI cZ a_t a_t_bounds a_t_graph a_t_home a_t_link a_t_sum a_t_bounds_least a_t_bounds_most a_t_graph_weight a_t_graph_arcs t_cut t_over t_bounds_k t_graph_size t_home t_link) H := hP
  unfold f_Sp_volumes at hf
  have h4 : ∀ (n4 : Nat) (x1 : Int32) (x2 : Int32) (ls : Array Slot) (H : Heap) (locs : List Loc), L_Sp_volumes_4 t_bounds_k t_graph_size t_home t_link n4 x1 x2 = some out → lv_has ls 3 [(0, .ref a_t), (1, .int x1), (2, .int x2)] → va_P (dC, dI) clsL (wd_Sp_volumes cI cZ a_t a_t_bounds a_t_graph a_t_home a_t_link a_t_sum a_t_bounds_least a_t_bounds_most a_t_graph_weight a_t_graph_arcs t_cut t_over t_bounds_k t_graph_size t_home t_link) H → va_D A (wd_Sp_volumes cI cZ a_t a_t_bounds a_t_graph a_t_home a_t_link a_t_sum a_t_bounds_least a_t_bounds_most a_t_graph_weight a_t_graph_arcs t_cut t_over t_bounds_k t_graph_size t_home t_link) → va_S A s.heap H locs → W p l e (headSpec wq_Sp_volumes ({ frames := 1, cells := 0, slots := 0, locals := 23 })).room s m ([.ref a_t] : List Value).toArray below meth c H locs 0 0 (MQ below (va_Qi (fun (r : Int32) (_ : Unit) => r = out) (fun _ => pst (dC, dI) A (wd_Sp_volumes cI cZ a_t a_t_bounds a_t_graph a_t_home a_t_link a_t_sum a_t_bounds_least a_t_bounds_most a_t_graph_weight a_t_graph_arcs t_cut t_over t_bounds_k t_graph_size t_home t_link)) A) ([.ref a_t] : List Value).toArray s 0 0 A) (F0 m 4 ls []) := by
    intro n4
    induction n4 with
    | zero =>
      intro x1 x2 ls H locs hf
      rw [L_Sp_volumes_4] at hf
      exact absurd hf (fun h => by cases h)
    | succ n4 ih4 =>
      intro x1 x2 ls H locs hf hl hP hD hS
      rw [L_Sp_volumes_4] at hf
      refine lv_iload_n hx hb dd_Sp_volumes_4 rfl (lv_at hl 2 rfl) ?_
      refine lv_aload_n hx hb dd_Sp_volumes_5 rfl (lv_at hl 0 rfl) ?_
      refine va_get (D := (dC, dI)) (ci := 7) (v := .ref a_t_graph) (C := rr_Sp) (T := tt_Sp) (N := 7) hx hb hts (fun w h => gwc (inn_Sp w h)) hown hK hP 0 rfl rfl 0 (by decide) (hts _ (gwc gw_133)) (fun _ h9 => h9) rfl dd_Sp_volumes_6 ?_
      refine va_get (D := (dC, dI)) (ci := 1) (v := .int t_graph_size) (C := rr_Gr) (T := tt_Gr) (N := 3) hx hb hts (fun w h => gwc (inn_Gr w h)) hown hK hP 2 rfl rfl 0 (by decide) (hts _ (gwc gw_88)) (fun _ h9 => h9) rfl dd_Sp_volumes_9 ?_
      refine lv_icmp_ge (tgt := 29) hx hb dd_Sp_volumes_12 (by decide) (fun cc => ?_) (fun cc => ?_)
      · skip
        have hf := if_t cc hf
        refine lv_iload_n hx hb dd_Sp_volumes_29 rfl (lv_at hl 1 rfl) ?_
        cases hf
        exact W.iret hx hb hr (fun t ht hW => ⟨⟨_, (), rfl, rfl, pst_of ht hP hD⟩, hS.F ht⟩) hS.2.2 dd_Sp_volumes_30
      · skip
        have hf := if_f cc hf
        refine lv_iload_n hx hb dd_Sp_volumes_15 rfl (lv_at hl 1 rfl) ?_
        refine lv_aload_n hx hb dd_Sp_volumes_16 rfl (lv_at hl 0 rfl) ?_
        refine lv_iload_n hx hb dd_Sp_volumes_17 rfl (lv_at hl 2 rfl) ?_
        obtain ⟨r18, hr18, hf⟩ := bind_some hf
        refine xcalli (rest := [.int x1]) (wc := (wd_Sp_volume cI cZ a_t a_t_bounds a_t_home a_t_link a_t_graph a_t_sum a_t_bounds_least a_t_bounds_most t_cut t_over t_bounds_k t_home t_link)) (w1 := (wd_Sp_volume cI cZ a_t a_t_bounds a_t_home a_t_link a_t_graph a_t_sum a_t_bounds_least a_t_bounds_most t_cut t_over t_bounds_k t_home t_link)) (wr := [(a_t_graph, .inr (1, [.int t_graph_size, .ref a_t_graph_weight, .ref a_t_graph_arcs]))]) (ws' := (wd_Sp_volumes cI cZ a_t a_t_bounds a_t_graph a_t_home a_t_link a_t_sum a_t_bounds_least a_t_bounds_most a_t_graph_weight a_t_graph_arcs t_cut t_over t_bounds_k t_graph_size t_home t_link)) (va_runV (As := [.int x2]) ⟨hx, hb, hml, hown, hts⟩ (c_Sp_volume l dC dI cI cZ a_t a_t_bounds a_t_home a_t_link a_t_graph a_t_sum a_t_bounds_least a_t_bounds_most H.size x2 t_cut t_over t_bounds_k t_home t_link r18 hr18) (cwV 1 hts (gV gw_681 gw_382 gw_383 gw_53 gw_384) rfl rfl rfl (yd_Sp_volume) ⟨Nat.le_of_ble_eq_true rfl, Nat.le_of_ble_eq_true rfl⟩) (mkV hK (hP.sub (ws' := (wd_Sp_volume cI cZ a_t a_t_bounds a_t_home a_t_link a_t_graph a_t_sum a_t_bounds_least a_t_bounds_most t_cut t_over t_bounds_k t_home t_link)) [0, 1, 3, 4] rfl) (hD.sub (ws' := (wd_Sp_volume cI cZ a_t a_t_bounds a_t_home a_t_link a_t_graph a_t_sum a_t_bounds_least a_t_bounds_most t_cut t_over t_bounds_k t_home t_link)) [0, 1, 3, 4] (by decide) rfl) hN (va_recv hK hP (ci := 7) (q0 := 0) rfl rfl)) rfl rfl hl.1 rfl (lv_room (Nat.le_of_ble_eq_true rfl)) dd_Sp_volumes_18 ⟨Nat.zero_le _, Nat.zero_le _⟩) hP hD hS hA [0, 1, 3, 4] [2] [1, 2, 0, 3, 4] rfl rfl (by decide) (by decide) rfl (by decide) rfl (fun H locs hP hD hS => ?_)
        refine lv_iadd hx hb dd_Sp_volumes_21 ?_
        refine lv_istore_n (lv' := [(1, .int (x1 + r18)), (0, .ref a_t), (2, .int x2)]) hx hb dd_Sp_volumes_22 rfl hl (by decide) rfl (fun ls hl => ?_)
        refine lv_iinc (v := x2 + 1) (lv' := [(2, .int (x2 + 1)), (1, .int (x1 + r18)), (0, .ref a_t)]) hx hb dd_Sp_volumes_23 hl (k := 2) rfl rfl (by decide) rfl (fun ls hl => ?_)
        refine lv_goto (tgt := 4) hx hb dd_Sp_volumes_26 (by decide) ?_
        exact ih4 (x1 + r18) (x2 + 1) _ _ _ hf (lv_sub hl [2, 1, 0] rfl) hP hD hS
  refine lv_iconst (v := 0) hx hb dd_Sp_volumes_0 (by decide) ?_
  refine lv_istore_n (lv' := [(1, .int 0), (0, .ref a_t)]) hx hb dd_Sp_volumes_1 rfl hl (by decide) rfl (fun ls hl => ?_)
  refine lv_iconst (v := 0) hx hb dd_Sp_volumes_2 (by decide) ?_
  refine lv_istore_n (lv' := [(2, .int 0), (1, .int 0), (0, .ref a_t)]) hx hb dd_Sp_volumes_3 rfl hl (by decide) rfl (fun ls hl => ?_)
  exact h4 64 0 0 _ _ _ hf (lv_sub hl [2, 1, 0] rfl) hP hD hS
