abbrev wd_Ba_node (cI cZ : ClassId) (a_t a_t_levels a_t_top a_t_top_graph a_t_top_graph_weight a_t_top_home a_t_low a_t_search a_t_mover a_t_orders a_t_divider a_t_levels_size a_t_levels_holders a_t_levels_mate a_t_levels_number a_t_top_bounds a_t_top_sum a_t_top_link a_t_top_graph_arcs : Nat) (t_levels_fresh : Int32) (t_levels_count : Int32) (t_top_cut : Int32) (t_top_over : Int32) (t_top_graph_size : Int32) (t_top_graph_weight : Nat → Int32) (t_top_home : Nat → Int32) : va_W := [(a_t, .inr (8, [.ref a_t_top, .ref a_t_low, .ref a_t_levels, .ref a_t_search, .ref a_t_mover, .ref a_t_orders, .ref a_t_divider])), (a_t_levels, .inr (2, [.int t_levels_fresh, .int t_levels_count, .ref a_t_levels_size, .ref a_t_levels_holders, .ref a_t_levels_mate, .ref a_t_levels_number])), (a_t_top, .inr (7, [.ref a_t_top_graph, .ref a_t_top_bounds, .ref a_t_top_home, .ref a_t_top_sum, .ref a_t_top_link, .int t_top_cut, .int t_top_over])), (a_t_top_graph, .inr (1, [.int t_top_graph_size, .ref a_t_top_graph_weight, .ref a_t_top_graph_arcs])), (a_t_top_graph_weight, .inl (cI, 40, .inl t_top_graph_weight)), (a_t_top_home, .inl (cI, 40, .inl t_top_home))]
set_option maxRecDepth 100000 in
set_option maxHeartbeats 4000000 in
theorem c_Ba_node (l : Launch) (dC : Nat → ClassId) (dI : Nat → Nat → Nat) (cI cZ : ClassId) (a_t a_t_levels a_t_top a_t_top_graph a_t_top_graph_weight a_t_top_home a_t_low a_t_search a_t_mover a_t_orders a_t_divider a_t_levels_size a_t_levels_holders a_t_levels_mate a_t_levels_number a_t_top_bounds a_t_top_sum a_t_top_link a_t_top_graph_arcs sz : Nat) (x1 : Int32) (t_levels_fresh : Int32) (t_levels_count : Int32) (t_top_cut : Int32) (t_top_over : Int32) (t_top_graph_size : Int32) (t_top_graph_weight : Nat → Int32) (t_top_home : Nat → Int32) (out : Int32 × Int32 × Int32 × (Nat → Int32) × (Nat → Int32)) (hf : f_Ba_node x1 t_levels_fresh t_top_graph_size t_top_graph_weight t_top_home = some out) :
    Met l yy_Ba_node wq_Ba_node ({ frames := 0, cells := 0, slots := 0, locals := 0 }) (va_Pc ([.ref a_t, .int x1] : List Value) (pre_ (dC, dI) cI cZ sz (wd_Ba_node cI cZ a_t a_t_levels a_t_top a_t_top_graph a_t_top_graph_weight a_t_top_home a_t_low a_t_search a_t_mover a_t_orders a_t_divider a_t_levels_size a_t_levels_holders a_t_levels_mate a_t_levels_number a_t_top_bounds a_t_top_sum a_t_top_link a_t_top_graph_arcs t_levels_fresh t_levels_count t_top_cut t_top_over t_top_graph_size t_top_graph_weight t_top_home))) (va_Qi (fun (r : Int32) (_ : Unit) => r = out.1) (fun _ => pst (dC, dI) (va_A (wd_Ba_node cI cZ a_t a_t_levels a_t_top a_t_top_graph a_t_top_graph_weight a_t_top_home a_t_low a_t_search a_t_mover a_t_orders a_t_divider a_t_levels_size a_t_levels_holders a_t_levels_mate a_t_levels_number a_t_top_bounds a_t_top_sum a_t_top_link a_t_top_graph_arcs t_levels_fresh t_levels_count t_top_cut t_top_over t_top_graph_size t_top_graph_weight t_top_home) sz) (wd_Ba_node cI cZ a_t a_t_levels a_t_top a_t_top_graph a_t_top_graph_weight a_t_top_home a_t_low a_t_search a_t_mover a_t_orders a_t_divider a_t_levels_size a_t_levels_holders a_t_levels_mate a_t_levels_number a_t_top_bounds a_t_top_sum a_t_top_link a_t_top_graph_arcs out.2.1 t_levels_count t_top_cut t_top_over out.2.2.1 out.2.2.2.1 out.2.2.2.2)) (va_A (wd_Ba_node cI cZ a_t a_t_levels a_t_top a_t_top_graph a_t_top_graph_weight a_t_top_home a_t_low a_t_search a_t_mover a_t_orders a_t_divider a_t_levels_size a_t_levels_holders a_t_levels_mate a_t_levels_number a_t_top_bounds a_t_top_sum a_t_top_link a_t_top_graph_arcs t_levels_fresh t_levels_count t_top_cut t_top_over t_top_graph_size t_top_graph_weight t_top_home) sz)) 0 0 (va_A (wd_Ba_node cI cZ a_t a_t_levels a_t_top a_t_top_graph a_t_top_graph_weight a_t_top_home a_t_low a_t_search a_t_mover a_t_orders a_t_divider a_t_levels_size a_t_levels_holders a_t_levels_mate a_t_levels_number a_t_top_bounds a_t_top_sum a_t_top_link a_t_top_graph_arcs t_levels_fresh t_levels_count t_top_cut t_top_over t_top_graph_size t_top_graph_weight t_top_home) sz) := by
  refine Met.ofW (cc := cc_Ba_node) (maxL := 4) (ret := (some .int)) (by decide) rfl ?_
  intro p e s m args below meth c s₁ B hml hv
  obtain ⟨rfl, hsz, hP, hK, hD0, hN⟩ := hv
  have hx := B.exec
  have hb := B.bytes
  have hr := B.returns
  have hts := atoms_spec (ws := wq_Ba_node) B.pre
  have hown : s.vm.findClass rr_Ba = some m.cls := findClass_of_methodNamed B.named
  have hlocks := B.notSynchronized
  subst hsz
  have hD := hD0.self (sz := s.heap.size)
  generalize hAe : va_A (wd_Ba_node cI cZ a_t a_t_levels a_t_top a_t_top_graph a_t_top_graph_weight a_t_top_home a_t_low a_t_search a_t_mover a_t_orders a_t_divider a_t_levels_size a_t_levels_holders a_t_levels_mate a_t_levels_number a_t_top_bounds a_t_top_sum a_t_top_link a_t_top_graph_arcs t_levels_fresh t_levels_count t_top_cut t_top_over t_top_graph_size t_top_graph_weight t_top_home) s.heap.size = A at hD ⊢
  have hA : ∀ q : Nat, s.heap.size ≤ q → A q := fun q h => by rw [← hAe]; exact Or.inr h
  obtain ⟨H, hH⟩ : ∃ H : Heap, H = s.heap := ⟨_, rfl⟩
  have hS : va_S A s.heap H [] := by rw [hH]; exact va_S.rf
  have hl := lv_entry (([.ref a_t, .int x1] : List Value)) (n := 4) (Nat.le_of_ble_eq_true rfl)
  rw [lg_entry_eq]
  generalize (lg_sl (([.ref a_t, .int x1] : List Value)) ++ List.replicate (4 - (lg_sl (([.ref a_t, .int x1] : List Value))).length) Slot.unset).toArray = ls at hl ⊢
  have hl : lv_has ls 4 [(0, .ref a_t), (1, .int x1)] := hl
  rw [← hH] at hP ⊢
  have hP : va_P (dC, dI) clsL (wd_Ba_node cI cZ a_t a_t_levels a_t_top a_t_top_graph a_t_top_graph_weight a_t_top_home a_t_low a_t_search a_t_mover a_t_orders a_t_divider a_t_levels_size a_t_levels_holders a_t_levels_mate a_t_levels_number a_t_top_bounds a_t_top_sum a_t_top_link a_t_top_graph_arcs t_levels_fresh t_levels_count t_top_cut t_top_over t_top_graph_size t_top_graph_weight t_top_home) H := hP
  unfold f_Ba_node at hf
  refine lv_iload_n hx hb dd_Ba_node_0 rfl (lv_at hl 1 rfl) ?_
  refine lv_iconst (v := 1) hx hb dd_Ba_node_1 (by decide) ?_
  refine lv_icmp_lt (tgt := 12) hx hb dd_Ba_node_2 (by decide) (fun cc => ?_) (fun cc => ?_)
  · skip
    have hf := if_t cc hf
    refine lv_iconst (v := -1) hx hb dd_Ba_node_12 (by decide) ?_
    have hf := Option.some.inj hf
    subst hf
    exact W.iret hx hb hr (fun t ht hW => ⟨⟨_, (), rfl, rfl, pst_of ht hP hD⟩, hS.F ht⟩) hS.2.2 dd_Ba_node_13
  · skip
    have hf := if_f cc hf
    refine lv_iload_n hx hb dd_Ba_node_5 rfl (lv_at hl 1 rfl) ?_
    refine lv_sipush (v := 1000) hx hb dd_Ba_node_6 (by decide) ?_
    refine lv_icmp_le (tgt := 14) hx hb dd_Ba_node_9 (by decide) (fun cc => ?_) (fun cc => ?_)
    · skip
      have hf := if_t cc hf
      refine lv_aload_n hx hb dd_Ba_node_14 rfl (lv_at hl 0 rfl) ?_
      refine va_get (D := (dC, dI)) (ci := 8) (v := .ref a_t_top) (C := rr_Ba) (T := tt_Ba) (N := 7) hx hb hts (fun w h => gwc (inn_Ba w h)) hown hK hP 0 rfl rfl 0 (by decide) (hts _ (gwc gw_283)) (fun _ h9 => h9) rfl dd_Ba_node_15 ?_
      refine va_get (D := (dC, dI)) (ci := 7) (v := .ref a_t_top_graph) (C := rr_Sp) (T := tt_Sp) (N := 7) hx hb hts (fun w h => gwc (inn_Sp w h)) hown hK hP 2 rfl rfl 0 (by decide) (hts _ (gwc gw_135)) (fun _ h9 => h9) rfl dd_Ba_node_18 ?_
      refine lv_astore_n (lv' := [(2, .ref a_t_top_graph), (0, .ref a_t), (1, .int x1)]) hx hb dd_Ba_node_21 rfl hl (by decide) rfl (fun ls hl => ?_)
      refine lv_aload_n hx hb dd_Ba_node_22 rfl (lv_at hl 0 rfl) ?_
      refine va_get (D := (dC, dI)) (ci := 1) (v := .int t_top_graph_size) (C := rr_Gr) (T := tt_Gr) (N := 3) hx hb hts (fun w h => gwc (inn_Gr w h)) hown hK hP 3 rfl rfl 0 (by decide) (hts _ (gwc gw_87)) (fun _ h9 => h9) rfl dd_Ba_node_23 ?_
      refine lv_bipush (v := 40) hx hb dd_Ba_node_26 (by decide) ?_
      refine lv_icmp_lt (tgt := 34) hx hb dd_Ba_node_28 (by decide) (fun cc => ?_) (fun cc => ?_)
      · skip
        have hf := if_t cc hf
        refine lv_aload_n hx hb dd_Ba_node_34 rfl (lv_at hl 0 rfl) ?_
        refine va_get (D := (dC, dI)) (ci := 1) (v := .int t_top_graph_size) (C := rr_Gr) (T := tt_Gr) (N := 3) hx hb hts (fun w h => gwc (inn_Gr w h)) hown hK hP 3 rfl rfl 0 (by decide) (hts _ (gwc gw_87)) (fun _ h9 => h9) rfl dd_Ba_node_35 ?_
        refine lv_istore_n (lv' := [(3, .int t_top_graph_size), (2, .ref a_t_top_graph), (0, .ref a_t), (1, .int x1)]) hx hb dd_Ba_node_38 rfl hl (by decide) rfl (fun ls hl => ?_)
        refine lv_aload_n hx hb dd_Ba_node_39 rfl (lv_at hl 1 rfl) ?_
        refine va_get (D := (dC, dI)) (ci := 1) (v := .ref a_t_top_graph_weight) (C := rr_Gr) (T := tt_Gr) (N := 3) hx hb hts (fun w h => gwc (inn_Gr w h)) hown hK hP 3 rfl rfl 1 (by decide) (hts _ (gwc gw_93)) (fun _ h9 => h9) rfl dd_Ba_node_40 ?_
        refine lv_iload_n hx hb dd_Ba_node_43 rfl (lv_at hl 0 rfl) ?_
        refine lv_iload_n hx hb dd_Ba_node_44 rfl (lv_at hl 3 rfl) ?_
        obtain ⟨k45, hf⟩ := ck_some hf
        refine va_iast hx hb hK hP hD hS 4 0 rfl rfl (okb_in k45) dd_Ba_node_45 (fun H locs hP hD hS => ?_)
        have hP : va_P (dC, dI) clsL (wd_Ba_node cI cZ a_t a_t_levels a_t_top a_t_top_graph a_t_top_graph_weight a_t_top_home a_t_low a_t_search a_t_mover a_t_orders a_t_divider a_t_levels_size a_t_levels_holders a_t_levels_mate a_t_levels_number a_t_top_bounds a_t_top_sum a_t_top_link a_t_top_graph_arcs t_levels_fresh t_levels_count t_top_cut t_top_over t_top_graph_size (upd t_top_graph_weight (t_top_graph_size).toNatClampNeg x1) t_top_home) H := hP
        have hD : va_D A (wd_Ba_node cI cZ a_t a_t_levels a_t_top a_t_top_graph a_t_top_graph_weight a_t_top_home a_t_low a_t_search a_t_mover a_t_orders a_t_divider a_t_levels_size a_t_levels_holders a_t_levels_mate a_t_levels_number a_t_top_bounds a_t_top_sum a_t_top_link a_t_top_graph_arcs t_levels_fresh t_levels_count t_top_cut t_top_over t_top_graph_size (upd t_top_graph_weight (t_top_graph_size).toNatClampNeg x1) t_top_home) := hD
        refine lv_aload_n hx hb dd_Ba_node_46 rfl (lv_at hl 1 rfl) ?_
        refine lv_iload_n hx hb dd_Ba_node_47 rfl (lv_at hl 0 rfl) ?_
        refine lv_iconst (v := 1) hx hb dd_Ba_node_48 (by decide) ?_
        refine lv_iadd hx hb dd_Ba_node_49 ?_
        refine va_put (D := (dC, dI)) (ci := 1) (v := .int (t_top_graph_size + 1)) (ty := .int) (C := rr_Gr) (T := tt_Gr) (N := 3) hx hb hts (fun w h => gwc (inn_Gr w h)) tf_Gr to_Gr tn_Gr hown hK hP hD hS 3 rfl rfl 0 (by decide) (hts _ (gwc gw_87)) (fun _ h9 => h9) rfl (by decide +kernel) rfl rfl (Nat.le_of_ble_eq_true rfl) dd_Ba_node_50 (fun H locs hP hD hS => ?_)
        have hP : va_P (dC, dI) clsL (wd_Ba_node cI cZ a_t a_t_levels a_t_top a_t_top_graph a_t_top_graph_weight a_t_top_home a_t_low a_t_search a_t_mover a_t_orders a_t_divider a_t_levels_size a_t_levels_holders a_t_levels_mate a_t_levels_number a_t_top_bounds a_t_top_sum a_t_top_link a_t_top_graph_arcs t_levels_fresh t_levels_count t_top_cut t_top_over (t_top_graph_size + 1) (upd t_top_graph_weight (t_top_graph_size).toNatClampNeg x1) t_top_home) H := hP
        have hD : va_D A (wd_Ba_node cI cZ a_t a_t_levels a_t_top a_t_top_graph a_t_top_graph_weight a_t_top_home a_t_low a_t_search a_t_mover a_t_orders a_t_divider a_t_levels_size a_t_levels_holders a_t_levels_mate a_t_levels_number a_t_top_bounds a_t_top_sum a_t_top_link a_t_top_graph_arcs t_levels_fresh t_levels_count t_top_cut t_top_over (t_top_graph_size + 1) (upd t_top_graph_weight (t_top_graph_size).toNatClampNeg x1) t_top_home) := hD
        refine lv_aload_n hx hb dd_Ba_node_53 rfl (lv_at hl 2 rfl) ?_
        refine va_get (D := (dC, dI)) (ci := 8) (v := .ref a_t_top) (C := rr_Ba) (T := tt_Ba) (N := 7) hx hb hts (fun w h => gwc (inn_Ba w h)) hown hK hP 0 rfl rfl 0 (by decide) (hts _ (gwc gw_283)) (fun _ h9 => h9) rfl dd_Ba_node_54 ?_
        refine va_get (D := (dC, dI)) (ci := 7) (v := .ref a_t_top_home) (C := rr_Sp) (T := tt_Sp) (N := 7) hx hb hts (fun w h => gwc (inn_Sp w h)) hown hK hP 2 rfl rfl 2 (by decide) (hts _ (gwc gw_144)) (fun _ h9 => h9) rfl dd_Ba_node_57 ?_
        refine lv_iload_n hx hb dd_Ba_node_60 rfl (lv_at hl 0 rfl) ?_
        refine lv_iconst (v := 0) hx hb dd_Ba_node_61 (by decide) ?_
        obtain ⟨k62, hf⟩ := ck_some hf
        refine va_iast hx hb hK hP hD hS 5 0 rfl rfl (okb_in k62) dd_Ba_node_62 (fun H locs hP hD hS => ?_)
        have hP : va_P (dC, dI) clsL (wd_Ba_node cI cZ a_t a_t_levels a_t_top a_t_top_graph a_t_top_graph_weight a_t_top_home a_t_low a_t_search a_t_mover a_t_orders a_t_divider a_t_levels_size a_t_levels_holders a_t_levels_mate a_t_levels_number a_t_top_bounds a_t_top_sum a_t_top_link a_t_top_graph_arcs t_levels_fresh t_levels_count t_top_cut t_top_over (t_top_graph_size + 1) (upd t_top_graph_weight (t_top_graph_size).toNatClampNeg x1) (upd t_top_home (t_top_graph_size).toNatClampNeg 0)) H := hP
        have hD : va_D A (wd_Ba_node cI cZ a_t a_t_levels a_t_top a_t_top_graph a_t_top_graph_weight a_t_top_home a_t_low a_t_search a_t_mover a_t_orders a_t_divider a_t_levels_size a_t_levels_holders a_t_levels_mate a_t_levels_number a_t_top_bounds a_t_top_sum a_t_top_link a_t_top_graph_arcs t_levels_fresh t_levels_count t_top_cut t_top_over (t_top_graph_size + 1) (upd t_top_graph_weight (t_top_graph_size).toNatClampNeg x1) (upd t_top_home (t_top_graph_size).toNatClampNeg 0)) := hD
        refine lv_aload_n hx hb dd_Ba_node_63 rfl (lv_at hl 2 rfl) ?_
        refine va_get (D := (dC, dI)) (ci := 8) (v := .ref a_t_levels) (C := rr_Ba) (T := tt_Ba) (N := 7) hx hb hts (fun w h => gwc (inn_Ba w h)) hown hK hP 0 rfl rfl 2 (by decide) (hts _ (gwc gw_285)) (fun _ h9 => h9) rfl dd_Ba_node_64 ?_
        refine lv_iconst (v := 0) hx hb dd_Ba_node_67 (by decide) ?_
        refine va_put (D := (dC, dI)) (ci := 2) (v := .int 0) (ty := .boolean) (C := rr_Le) (T := tt_Le) (N := 6) hx hb hts (fun w h => gwc (inn_Le w h)) tf_Le to_Le tn_Le hown hK hP hD hS 1 rfl rfl 0 (by decide) (hts _ (gwc gw_178)) (fun _ h9 => h9) rfl (by decide +kernel) narrow_b0 rfl (Nat.le_of_ble_eq_true rfl) dd_Ba_node_68 (fun H locs hP hD hS => ?_)
        have hP : va_P (dC, dI) clsL (wd_Ba_node cI cZ a_t a_t_levels a_t_top a_t_top_graph a_t_top_graph_weight a_t_top_home a_t_low a_t_search a_t_mover a_t_orders a_t_divider a_t_levels_size a_t_levels_holders a_t_levels_mate a_t_levels_number a_t_top_bounds a_t_top_sum a_t_top_link a_t_top_graph_arcs 0 t_levels_count t_top_cut t_top_over (t_top_graph_size + 1) (upd t_top_graph_weight (t_top_graph_size).toNatClampNeg x1) (upd t_top_home (t_top_graph_size).toNatClampNeg 0)) H := hP
        have hD : va_D A (wd_Ba_node cI cZ a_t a_t_levels a_t_top a_t_top_graph a_t_top_graph_weight a_t_top_home a_t_low a_t_search a_t_mover a_t_orders a_t_divider a_t_levels_size a_t_levels_holders a_t_levels_mate a_t_levels_number a_t_top_bounds a_t_top_sum a_t_top_link a_t_top_graph_arcs 0 t_levels_count t_top_cut t_top_over (t_top_graph_size + 1) (upd t_top_graph_weight (t_top_graph_size).toNatClampNeg x1) (upd t_top_home (t_top_graph_size).toNatClampNeg 0)) := hD
        refine lv_iload_n hx hb dd_Ba_node_71 rfl (lv_at hl 0 rfl) ?_
        have hf := Option.some.inj hf
        subst hf
        exact W.iret hx hb hr (fun t ht hW => ⟨⟨_, (), rfl, rfl, pst_of ht hP hD⟩, hS.F ht⟩) hS.2.2 dd_Ba_node_72
      · skip
        have hf := if_f cc hf
        refine lv_bipush (v := -3) hx hb dd_Ba_node_31 (by decide) ?_
        have hf := Option.some.inj hf
        subst hf
        exact W.iret hx hb hr (fun t ht hW => ⟨⟨_, (), rfl, rfl, pst_of ht hP hD⟩, hS.F ht⟩) hS.2.2 dd_Ba_node_33
    · skip
      have hf := if_f cc hf
      refine lv_iconst (v := -1) hx hb dd_Ba_node_12 (by decide) ?_
      have hf := Option.some.inj hf
      subst hf
      exact W.iret hx hb hr (fun t ht hW => ⟨⟨_, (), rfl, rfl, pst_of ht hP hD⟩, hS.F ht⟩) hS.2.2 dd_Ba_node_13
abbrev wd_Ba_arc (cI cZ : ClassId) (a_t a_t_levels a_t_top a_t_top_graph a_t_top_graph_arcs a_t_low a_t_search a_t_mover a_t_orders a_t_divider a_t_levels_size a_t_levels_holders a_t_levels_mate a_t_levels_number a_t_top_bounds a_t_top_home a_t_top_sum a_t_top_link a_t_top_graph_weight : Nat) (t_levels_fresh : Int32) (t_levels_count : Int32) (t_top_cut : Int32) (t_top_over : Int32) (t_top_graph_size : Int32) (t_top_graph_arcs : Nat → Int32) : va_W := [(a_t, .inr (8, [.ref a_t_top, .ref a_t_low, .ref a_t_levels, .ref a_t_search, .ref a_t_mover, .ref a_t_orders, .ref a_t_divider])), (a_t_levels, .inr (2, [.int t_levels_fresh, .int t_levels_count, .ref a_t_levels_size, .ref a_t_levels_holders, .ref a_t_levels_mate, .ref a_t_levels_number])), (a_t_top, .inr (7, [.ref a_t_top_graph, .ref a_t_top_bounds, .ref a_t_top_home, .ref a_t_top_sum, .ref a_t_top_link, .int t_top_cut, .int t_top_over])), (a_t_top_graph, .inr (1, [.int t_top_graph_size, .ref a_t_top_graph_weight, .ref a_t_top_graph_arcs])), (a_t_top_graph_arcs, .inl (cI, 1600, .inl t_top_graph_arcs))]
set_option maxRecDepth 100000 in
set_option maxHeartbeats 4000000 in
theorem c_Ba_arc (l : Launch) (dC : Nat → ClassId) (dI : Nat → Nat → Nat) (cI cZ : ClassId) (a_t a_t_levels a_t_top a_t_top_graph a_t_top_graph_arcs a_t_low a_t_search a_t_mover a_t_orders a_t_divider a_t_levels_size a_t_levels_holders a_t_levels_mate a_t_levels_number a_t_top_bounds a_t_top_home a_t_top_sum a_t_top_link a_t_top_graph_weight sz : Nat) (x1 : Int32) (x2 : Int32) (x3 : Int32) (t_levels_fresh : Int32) (t_levels_count : Int32) (t_top_cut : Int32) (t_top_over : Int32) (t_top_graph_size : Int32) (t_top_graph_arcs : Nat → Int32) (out : Int32 × Int32 × (Nat → Int32)) (hf : f_Ba_arc x1 x2 x3 t_levels_fresh t_top_graph_size t_top_graph_arcs = some out) :
    Met l yy_Ba_arc wq_Ba_arc ({ frames := 1, cells := 0, slots := 0, locals := 23 }) (va_Pc ([.ref a_t, .int x1, .int x2, .int x3] : List Value) (pre_ (dC, dI) cI cZ sz (wd_Ba_arc cI cZ a_t a_t_levels a_t_top a_t_top_graph a_t_top_graph_arcs a_t_low a_t_search a_t_mover a_t_orders a_t_divider a_t_levels_size a_t_levels_holders a_t_levels_mate a_t_levels_number a_t_top_bounds a_t_top_home a_t_top_sum a_t_top_link a_t_top_graph_weight t_levels_fresh t_levels_count t_top_cut t_top_over t_top_graph_size t_top_graph_arcs))) (va_Qi (fun (r : Int32) (_ : Unit) => r = out.1) (fun _ => pst (dC, dI) (va_A (wd_Ba_arc cI cZ a_t a_t_levels a_t_top a_t_top_graph a_t_top_graph_arcs a_t_low a_t_search a_t_mover a_t_orders a_t_divider a_t_levels_size a_t_levels_holders a_t_levels_mate a_t_levels_number a_t_top_bounds a_t_top_home a_t_top_sum a_t_top_link a_t_top_graph_weight t_levels_fresh t_levels_count t_top_cut t_top_over t_top_graph_size t_top_graph_arcs) sz) (wd_Ba_arc cI cZ a_t a_t_levels a_t_top a_t_top_graph a_t_top_graph_arcs a_t_low a_t_search a_t_mover a_t_orders a_t_divider a_t_levels_size a_t_levels_holders a_t_levels_mate a_t_levels_number a_t_top_bounds a_t_top_home a_t_top_sum a_t_top_link a_t_top_graph_weight out.2.1 t_levels_count t_top_cut t_top_over t_top_graph_size out.2.2)) (va_A (wd_Ba_arc cI cZ a_t a_t_levels a_t_top a_t_top_graph a_t_top_graph_arcs a_t_low a_t_search a_t_mover a_t_orders a_t_divider a_t_levels_size a_t_levels_holders a_t_levels_mate a_t_levels_number a_t_top_bounds a_t_top_home a_t_top_sum a_t_top_link a_t_top_graph_weight t_levels_fresh t_levels_count t_top_cut t_top_over t_top_graph_size t_top_graph_arcs) sz)) 0 0 (va_A (wd_Ba_arc cI cZ a_t a_t_levels a_t_top a_t_top_graph a_t_top_graph_arcs a_t_low a_t_search a_t_mover a_t_orders a_t_divider a_t_levels_size a_t_levels_holders a_t_levels_mate a_t_levels_number a_t_top_bounds a_t_top_home a_t_top_sum a_t_top_link a_t_top_graph_weight t_levels_fresh t_levels_count t_top_cut t_top_over t_top_graph_size t_top_graph_arcs) sz) := by
  refine Met.ofW (cc := cc_Ba_arc) (maxL := 6) (ret := (some .int)) (by decide) rfl ?_
  intro p e s m args below meth c s₁ B hml hv
  obtain ⟨rfl, hsz, hP, hK, hD0, hN⟩ := hv
  have hx := B.exec
  have hb := B.bytes
  have hr := B.returns
  have hts := atoms_spec (ws := wq_Ba_arc) B.pre
  have hown : s.vm.findClass rr_Ba = some m.cls := findClass_of_methodNamed B.named
  have hlocks := B.notSynchronized
  subst hsz
  have hD := hD0.self (sz := s.heap.size)
  generalize hAe : va_A (wd_Ba_arc cI cZ a_t a_t_levels a_t_top a_t_top_graph a_t_top_graph_arcs a_t_low a_t_search a_t_mover a_t_orders a_t_divider a_t_levels_size a_t_levels_holders a_t_levels_mate a_t_levels_number a_t_top_bounds a_t_top_home a_t_top_sum a_t_top_link a_t_top_graph_weight t_levels_fresh t_levels_count t_top_cut t_top_over t_top_graph_size t_top_graph_arcs) s.heap.size = A at hD ⊢
  have hA : ∀ q : Nat, s.heap.size ≤ q → A q := fun q h => by rw [← hAe]; exact Or.inr h
  obtain ⟨H, hH⟩ : ∃ H : Heap, H = s.heap := ⟨_, rfl⟩
  have hS : va_S A s.heap H [] := by rw [hH]; exact va_S.rf
  have hl := lv_entry (([.ref a_t, .int x1, .int x2, .int x3] : List Value)) (n := 6) (Nat.le_of_ble_eq_true rfl)
  rw [lg_entry_eq]
  generalize (lg_sl (([.ref a_t, .int x1, .int x2, .int x3] : List Value)) ++ List.replicate (6 - (lg_sl (([.ref a_t, .int x1, .int x2, .int x3] : List Value))).length) Slot.unset).toArray = ls at hl ⊢
  have hl : lv_has ls 6 [(0, .ref a_t), (1, .int x1), (2, .int x2), (3, .int x3)] := hl
  rw [← hH] at hP ⊢
  have hP : va_P (dC, dI) clsL (wd_Ba_arc cI cZ a_t a_t_levels a_t_top a_t_top_graph a_t_top_graph_arcs a_t_low a_t_search a_t_mover a_t_orders a_t_divider a_t_levels_size a_t_levels_holders a_t_levels_mate a_t_levels_number a_t_top_bounds a_t_top_home a_t_top_sum a_t_top_link a_t_top_graph_weight t_levels_fresh t_levels_count t_top_cut t_top_over t_top_graph_size t_top_graph_arcs) H := hP
  unfold f_Ba_arc at hf
  refine lv_aload_n hx hb dd_Ba_arc_0 rfl (lv_at hl 0 rfl) ?_
  refine va_get (D := (dC, dI)) (ci := 8) (v := .ref a_t_top) (C := rr_Ba) (T := tt_Ba) (N := 7) hx hb hts (fun w h => gwc (inn_Ba w h)) hown hK hP 0 rfl rfl 0 (by decide) (hts _ (gwc gw_283)) (fun _ h9 => h9) rfl dd_Ba_arc_1 ?_
  refine va_get (D := (dC, dI)) (ci := 7) (v := .ref a_t_top_graph) (C := rr_Sp) (T := tt_Sp) (N := 7) hx hb hts (fun w h => gwc (inn_Sp w h)) hown hK hP 2 rfl rfl 0 (by decide) (hts _ (gwc gw_135)) (fun _ h9 => h9) rfl dd_Ba_arc_4 ?_
  refine lv_astore (lv' := [(4, .ref a_t_top_graph), (0, .ref a_t), (1, .int x1), (2, .int x2), (3, .int x3)]) hx hb dd_Ba_arc_7 hl (by decide) rfl (fun ls hl => ?_)
  refine lv_aload hx hb dd_Ba_arc_9 (lv_at hl 0 rfl) ?_
  refine lv_iload_n hx hb dd_Ba_arc_11 rfl (lv_at hl 2 rfl) ?_
  obtain ⟨r12, hr12, hf⟩ := bind_some hf
  refine xcalli (rest := []) (wc := (wd_Gr_has cI cZ a_t_top_graph a_t_top_graph_weight a_t_top_graph_arcs t_top_graph_size)) (w1 := (wd_Gr_has cI cZ a_t_top_graph a_t_top_graph_weight a_t_top_graph_arcs t_top_graph_size)) (wr := [(a_t, .inr (8, [.ref a_t_top, .ref a_t_low, .ref a_t_levels, .ref a_t_search, .ref a_t_mover, .ref a_t_orders, .ref a_t_divider])), (a_t_levels, .inr (2, [.int t_levels_fresh, .int t_levels_count, .ref a_t_levels_size, .ref a_t_levels_holders, .ref a_t_levels_mate, .ref a_t_levels_number])), (a_t_top, .inr (7, [.ref a_t_top_graph, .ref a_t_top_bounds, .ref a_t_top_home, .ref a_t_top_sum, .ref a_t_top_link, .int t_top_cut, .int t_top_over])), (a_t_top_graph_arcs, .inl (cI, 1600, .inl t_top_graph_arcs))]) (ws' := (wd_Ba_arc cI cZ a_t a_t_levels a_t_top a_t_top_graph a_t_top_graph_arcs a_t_low a_t_search a_t_mover a_t_orders a_t_divider a_t_levels_size a_t_levels_holders a_t_levels_mate a_t_levels_number a_t_top_bounds a_t_top_home a_t_top_sum a_t_top_link a_t_top_graph_weight t_levels_fresh t_levels_count t_top_cut t_top_over t_top_graph_size t_top_graph_arcs)) (va_runV (As := [.int x1]) ⟨hx, hb, hml, hown, hts⟩ (c_Gr_has l dC dI cI cZ a_t_top_graph a_t_top_graph_weight a_t_top_graph_arcs H.size x1 t_top_graph_size r12 hr12) (cwV 1 hts (gV gw_313 gw_314 gw_315 gw_54 gw_316) rfl rfl rfl (yd_Gr_has) ⟨Nat.le_of_ble_eq_true rfl, Nat.le_of_ble_eq_true rfl⟩) (mkV hK (hP.sub (ws' := (wd_Gr_has cI cZ a_t_top_graph a_t_top_graph_weight a_t_top_graph_arcs t_top_graph_size)) [3] rfl) (hD.sub (ws' := (wd_Gr_has cI cZ a_t_top_graph a_t_top_graph_weight a_t_top_graph_arcs t_top_graph_size)) [3] (by decide) rfl) hN (va_recv hK hP (ci := 1) (q0 := 3) rfl rfl)) rfl rfl hl.1 rfl (lv_room (Nat.le_of_ble_eq_true rfl)) dd_Ba_arc_12 ⟨Nat.zero_le _, Nat.zero_le _⟩) hP hD hS hA [3] [0, 1, 2, 4] [0, 1, 2, 4, 3] rfl rfl (by decide) (by decide) rfl (by decide) rfl (fun H locs hP hD hS => ?_)
  refine lv_if_eq (tgt := 44) hx hb dd_Ba_arc_15 (by decide) (fun cc => ?_) (fun cc => ?_)
  · skip
    have hf := if_t cc hf
    refine lv_iconst (v := -1) hx hb dd_Ba_arc_44 (by decide) ?_
    have hf := Option.some.inj hf
    subst hf
    exact W.iret hx hb hr (fun t ht hW => ⟨⟨_, (), rfl, rfl, pst_of ht hP hD⟩, hS.F ht⟩) hS.2.2 dd_Ba_arc_45
  · skip
    have hf := if_f cc hf
    refine lv_aload hx hb dd_Ba_arc_18 (lv_at hl 0 rfl) ?_
    refine lv_iload_n hx hb dd_Ba_arc_20 rfl (lv_at hl 3 rfl) ?_
    obtain ⟨r21, hr21, hf⟩ := bind_some hf
    refine xcalli (rest := []) (wc := (wd_Gr_has cI cZ a_t_top_graph a_t_top_graph_weight a_t_top_graph_arcs t_top_graph_size)) (w1 := (wd_Gr_has cI cZ a_t_top_graph a_t_top_graph_weight a_t_top_graph_arcs t_top_graph_size)) (wr := [(a_t, .inr (8, [.ref a_t_top, .ref a_t_low, .ref a_t_levels, .ref a_t_search, .ref a_t_mover, .ref a_t_orders, .ref a_t_divider])), (a_t_levels, .inr (2, [.int t_levels_fresh, .int t_levels_count, .ref a_t_levels_size, .ref a_t_levels_holders, .ref a_t_levels_mate, .ref a_t_levels_number])), (a_t_top, .inr (7, [.ref a_t_top_graph, .ref a_t_top_bounds, .ref a_t_top_home, .ref a_t_top_sum, .ref a_t_top_link, .int t_top_cut, .int t_top_over])), (a_t_top_graph_arcs, .inl (cI, 1600, .inl t_top_graph_arcs))]) (ws' := (wd_Ba_arc cI cZ a_t a_t_levels a_t_top a_t_top_graph a_t_top_graph_arcs a_t_low a_t_search a_t_mover a_t_orders a_t_divider a_t_levels_size a_t_levels_holders a_t_levels_mate a_t_levels_number a_t_top_bounds a_t_top_home a_t_top_sum a_t_top_link a_t_top_graph_weight t_levels_fresh t_levels_count t_top_cut t_top_over t_top_graph_size t_top_graph_arcs)) (va_runV (As := [.int x2]) ⟨hx, hb, hml, hown, hts⟩ (c_Gr_has l dC dI cI cZ a_t_top_graph a_t_top_graph_weight a_t_top_graph_arcs H.size x2 t_top_graph_size r21 hr21) (cwV 1 hts (gV gw_313 gw_314 gw_315 gw_54 gw_316) rfl rfl rfl (yd_Gr_has) ⟨Nat.le_of_ble_eq_true rfl, Nat.le_of_ble_eq_true rfl⟩) (mkV hK (hP.sub (ws' := (wd_Gr_has cI cZ a_t_top_graph a_t_top_graph_weight a_t_top_graph_arcs t_top_graph_size)) [3] rfl) (hD.sub (ws' := (wd_Gr_has cI cZ a_t_top_graph a_t_top_graph_weight a_t_top_graph_arcs t_top_graph_size)) [3] (by decide) rfl) hN (va_recv hK hP (ci := 1) (q0 := 3) rfl rfl)) rfl rfl hl.1 rfl (lv_room (Nat.le_of_ble_eq_true rfl)) dd_Ba_arc_21 ⟨Nat.zero_le _, Nat.zero_le _⟩) hP hD hS hA [3] [0, 1, 2, 4] [0, 1, 2, 4, 3] rfl rfl (by decide) (by decide) rfl (by decide) rfl (fun H locs hP hD hS => ?_)
    refine lv_if_eq (tgt := 44) hx hb dd_Ba_arc_24 (by decide) (fun cc => ?_) (fun cc => ?_)
    · skip
      have hf := if_t cc hf
      refine lv_iconst (v := -1) hx hb dd_Ba_arc_44 (by decide) ?_
      have hf := Option.some.inj hf
      subst hf
      exact W.iret hx hb hr (fun t ht hW => ⟨⟨_, (), rfl, rfl, pst_of ht hP hD⟩, hS.F ht⟩) hS.2.2 dd_Ba_arc_45
    · skip
      have hf := if_f cc hf
      refine lv_iload_n hx hb dd_Ba_arc_27 rfl (lv_at hl 2 rfl) ?_
      refine lv_iload_n hx hb dd_Ba_arc_28 rfl (lv_at hl 3 rfl) ?_
      refine lv_icmp_eq (tgt := 44) hx hb dd_Ba_arc_29 (by decide) (fun cc => ?_) (fun cc => ?_)
      · skip
        have hf := if_t cc hf
        refine lv_iconst (v := -1) hx hb dd_Ba_arc_44 (by decide) ?_
        have hf := Option.some.inj hf
        subst hf
        exact W.iret hx hb hr (fun t ht hW => ⟨⟨_, (), rfl, rfl, pst_of ht hP hD⟩, hS.F ht⟩) hS.2.2 dd_Ba_arc_45
      · skip
        have hf := if_f cc hf
        refine lv_iload_n hx hb dd_Ba_arc_32 rfl (lv_at hl 4 rfl) ?_
        refine lv_iconst (v := 1) hx hb dd_Ba_arc_33 (by decide) ?_
        refine lv_icmp_lt (tgt := 44) hx hb dd_Ba_arc_34 (by decide) (fun cc => ?_) (fun cc => ?_)
        · skip
          have hf := if_t cc hf
          refine lv_iconst (v := -1) hx hb dd_Ba_arc_44 (by decide) ?_
          have hf := Option.some.inj hf
          subst hf
          exact W.iret hx hb hr (fun t ht hW => ⟨⟨_, (), rfl, rfl, pst_of ht hP hD⟩, hS.F ht⟩) hS.2.2 dd_Ba_arc_45
        · skip
          have hf := if_f cc hf
          refine lv_iload_n hx hb dd_Ba_arc_37 rfl (lv_at hl 4 rfl) ?_
          refine lv_sipush (v := 1000) hx hb dd_Ba_arc_38 (by decide) ?_
          refine lv_icmp_le (tgt := 46) hx hb dd_Ba_arc_41 (by decide) (fun cc => ?_) (fun cc => ?_)
          · skip
            have hf := if_t cc hf
            refine lv_aload hx hb dd_Ba_arc_46 (lv_at hl 0 rfl) ?_
            refine lv_iload_n hx hb dd_Ba_arc_48 rfl (lv_at hl 2 rfl) ?_
            refine lv_iload_n hx hb dd_Ba_arc_49 rfl (lv_at hl 3 rfl) ?_
            obtain ⟨r50, hr50, hf⟩ := bind_some hf
            refine xcalli (rest := []) (wc := (wd_Gr_arcOf cI cZ a_t_top_graph a_t_top_graph_arcs a_t_top_graph_weight t_top_graph_size t_top_graph_arcs)) (w1 := (wd_Gr_arcOf cI cZ a_t_top_graph a_t_top_graph_arcs a_t_top_graph_weight t_top_graph_size t_top_graph_arcs)) (wr := [(a_t, .inr (8, [.ref a_t_top, .ref a_t_low, .ref a_t_levels, .ref a_t_search, .ref a_t_mover, .ref a_t_orders, .ref a_t_divider])), (a_t_levels, .inr (2, [.int t_levels_fresh, .int t_levels_count, .ref a_t_levels_size, .ref a_t_levels_holders, .ref a_t_levels_mate, .ref a_t_levels_number])), (a_t_top, .inr (7, [.ref a_t_top_graph, .ref a_t_top_bounds, .ref a_t_top_home, .ref a_t_top_sum, .ref a_t_top_link, .int t_top_cut, .int t_top_over]))]) (ws' := (wd_Ba_arc cI cZ a_t a_t_levels a_t_top a_t_top_graph a_t_top_graph_arcs a_t_low a_t_search a_t_mover a_t_orders a_t_divider a_t_levels_size a_t_levels_holders a_t_levels_mate a_t_levels_number a_t_top_bounds a_t_top_home a_t_top_sum a_t_top_link a_t_top_graph_weight t_levels_fresh t_levels_count t_top_cut t_top_over t_top_graph_size t_top_graph_arcs)) (va_runV (As := [.int x1, .int x2]) ⟨hx, hb, hml, hown, hts⟩ (c_Gr_arcOf l dC dI cI cZ a_t_top_graph a_t_top_graph_arcs a_t_top_graph_weight H.size x1 x2 t_top_graph_size t_top_graph_arcs r50 hr50) (cwV 2 hts (gV gw_317 gw_318 gw_319 gw_54 gw_320) rfl rfl rfl (yd_Gr_arcOf) ⟨Nat.le_of_ble_eq_true rfl, Nat.le_of_ble_eq_true rfl⟩) (mkV hK (hP.sub (ws' := (wd_Gr_arcOf cI cZ a_t_top_graph a_t_top_graph_arcs a_t_top_graph_weight t_top_graph_size t_top_graph_arcs)) [3, 4] rfl) (hD.sub (ws' := (wd_Gr_arcOf cI cZ a_t_top_graph a_t_top_graph_arcs a_t_top_graph_weight t_top_graph_size t_top_graph_arcs)) [3, 4] (by decide) rfl) hN (va_recv hK hP (ci := 1) (q0 := 3) rfl rfl)) rfl rfl hl.1 rfl (lv_room (Nat.le_of_ble_eq_true rfl)) dd_Ba_arc_50 ⟨Nat.zero_le _, Nat.zero_le _⟩) hP hD hS hA [3, 4] [0, 1, 2] [0, 1, 2, 3, 4] rfl rfl (by decide) (by decide) rfl (by decide) rfl (fun H locs hP hD hS => ?_)
            refine lv_iload_n hx hb dd_Ba_arc_53 rfl (lv_at hl 4 rfl) ?_
            refine lv_iadd hx hb dd_Ba_arc_54 ?_
            refine lv_istore (lv' := [(5, .int (r50 + x3)), (4, .ref a_t_top_graph), (0, .ref a_t), (1, .int x1), (2, .int x2), (3, .int x3)]) hx hb dd_Ba_arc_55 hl (by decide) rfl (fun ls hl => ?_)
            refine lv_iload hx hb dd_Ba_arc_57 (lv_at hl 0 rfl) ?_
            refine lv_ldc (v := 1000000) hx hb hown (hts _ (gwc gw_321)) dd_Ba_arc_59 ?_
            refine lv_icmp_le (tgt := 67) hx hb dd_Ba_arc_61 (by decide) (fun cc => ?_) (fun cc => ?_)
            · skip
              have hf := if_t cc hf
              refine lv_aload hx hb dd_Ba_arc_67 (lv_at hl 1 rfl) ?_
              refine lv_iload_n hx hb dd_Ba_arc_69 rfl (lv_at hl 3 rfl) ?_
              refine lv_iload_n hx hb dd_Ba_arc_70 rfl (lv_at hl 4 rfl) ?_
              refine lv_iload_n hx hb dd_Ba_arc_71 rfl (lv_at hl 5 rfl) ?_
              obtain ⟨r72, hr72, hf⟩ := bind_some hf
              refine xcallv (rest := []) (wc := (wd_Gr_addArc cI cZ a_t_top_graph a_t_top_graph_arcs a_t_top_graph_weight t_top_graph_size t_top_graph_arcs)) (w1 := (wd_Gr_addArc cI cZ a_t_top_graph a_t_top_graph_arcs a_t_top_graph_weight t_top_graph_size r72)) (wr := [(a_t, .inr (8, [.ref a_t_top, .ref a_t_low, .ref a_t_levels, .ref a_t_search, .ref a_t_mover, .ref a_t_orders, .ref a_t_divider])), (a_t_levels, .inr (2, [.int t_levels_fresh, .int t_levels_count, .ref a_t_levels_size, .ref a_t_levels_holders, .ref a_t_levels_mate, .ref a_t_levels_number])), (a_t_top, .inr (7, [.ref a_t_top_graph, .ref a_t_top_bounds, .ref a_t_top_home, .ref a_t_top_sum, .ref a_t_top_link, .int t_top_cut, .int t_top_over]))]) (ws' := (wd_Ba_arc cI cZ a_t a_t_levels a_t_top a_t_top_graph a_t_top_graph_arcs a_t_low a_t_search a_t_mover a_t_orders a_t_divider a_t_levels_size a_t_levels_holders a_t_levels_mate a_t_levels_number a_t_top_bounds a_t_top_home a_t_top_sum a_t_top_link a_t_top_graph_weight t_levels_fresh t_levels_count t_top_cut t_top_over t_top_graph_size r72)) (va_runV (As := [.int x1, .int x2, .int x3]) ⟨hx, hb, hml, hown, hts⟩ (c_Gr_addArc l dC dI cI cZ a_t_top_graph a_t_top_graph_arcs a_t_top_graph_weight H.size x1 x2 x3 t_top_graph_size t_top_graph_arcs r72 hr72) (cwV 3 hts (gV gw_322 gw_323 gw_324 gw_54 gw_325) rfl rfl rfl (yd_Gr_addArc) ⟨Nat.le_of_ble_eq_true rfl, Nat.le_of_ble_eq_true rfl⟩) (mkV hK (hP.sub (ws' := (wd_Gr_addArc cI cZ a_t_top_graph a_t_top_graph_arcs a_t_top_graph_weight t_top_graph_size t_top_graph_arcs)) [3, 4] rfl) (hD.sub (ws' := (wd_Gr_addArc cI cZ a_t_top_graph a_t_top_graph_arcs a_t_top_graph_weight t_top_graph_size t_top_graph_arcs)) [3, 4] (by decide) rfl) hN (va_recv hK hP (ci := 1) (q0 := 3) rfl rfl)) rfl rfl hl.1 rfl (lv_room (Nat.le_of_ble_eq_true rfl)) dd_Ba_arc_72 ⟨Nat.zero_le _, Nat.zero_le _⟩) hP hD hS hA [3, 4] [0, 1, 2] [0, 1, 2, 3, 4] rfl rfl (by decide) (by decide) rfl (by decide) rfl (fun H locs hP hD hS => ?_)
              refine lv_aload_n hx hb dd_Ba_arc_75 rfl (lv_at hl 2 rfl) ?_
              refine va_get (D := (dC, dI)) (ci := 8) (v := .ref a_t_levels) (C := rr_Ba) (T := tt_Ba) (N := 7) hx hb hts (fun w h => gwc (inn_Ba w h)) hown hK hP 0 rfl rfl 2 (by decide) (hts _ (gwc gw_285)) (fun _ h9 => h9) rfl dd_Ba_arc_76 ?_
              refine lv_iconst (v := 0) hx hb dd_Ba_arc_79 (by decide) ?_
              refine va_put (D := (dC, dI)) (ci := 2) (v := .int 0) (ty := .boolean) (C := rr_Le) (T := tt_Le) (N := 6) hx hb hts (fun w h => gwc (inn_Le w h)) tf_Le to_Le tn_Le hown hK hP hD hS 1 rfl rfl 0 (by decide) (hts _ (gwc gw_178)) (fun _ h9 => h9) rfl (by decide +kernel) narrow_b0 rfl (Nat.le_of_ble_eq_true rfl) dd_Ba_arc_80 (fun H locs hP hD hS => ?_)
              have hP : va_P (dC, dI) clsL (wd_Ba_arc cI cZ a_t a_t_levels a_t_top a_t_top_graph a_t_top_graph_arcs a_t_low a_t_search a_t_mover a_t_orders a_t_divider a_t_levels_size a_t_levels_holders a_t_levels_mate a_t_levels_number a_t_top_bounds a_t_top_home a_t_top_sum a_t_top_link a_t_top_graph_weight 0 t_levels_count t_top_cut t_top_over t_top_graph_size r72) H := hP
              have hD : va_D A (wd_Ba_arc cI cZ a_t a_t_levels a_t_top a_t_top_graph a_t_top_graph_arcs a_t_low a_t_search a_t_mover a_t_orders a_t_divider a_t_levels_size a_t_levels_holders a_t_levels_mate a_t_levels_number a_t_top_bounds a_t_top_home a_t_top_sum a_t_top_link a_t_top_graph_weight 0 t_levels_count t_top_cut t_top_over t_top_graph_size r72) := hD
              refine lv_iload hx hb dd_Ba_arc_83 (lv_at hl 0 rfl) ?_
              have hf := Option.some.inj hf
              subst hf
              exact W.iret hx hb hr (fun t ht hW => ⟨⟨_, (), rfl, rfl, pst_of ht hP hD⟩, hS.F ht⟩) hS.2.2 dd_Ba_arc_85
            · skip
              have hf := if_f cc hf
              refine lv_bipush (v := -3) hx hb dd_Ba_arc_64 (by decide) ?_
              have hf := Option.some.inj hf
              subst hf
              exact W.iret hx hb hr (fun t ht hW => ⟨⟨_, (), rfl, rfl, pst_of ht hP hD⟩, hS.F ht⟩) hS.2.2 dd_Ba_arc_66
          · skip
            have hf := if_f cc hf
            refine lv_iconst (v := -1) hx hb dd_Ba_arc_44 (by decide) ?_
            have hf := Option.some.inj hf
            subst hf
            exact W.iret hx hb hr (fun t ht hW => ⟨⟨_, (), rfl, rfl, pst_of ht hP hD⟩, hS.F ht⟩) hS.2.2 dd_Ba_arc_45
abbrev wd_Ba_startParts (cI cZ : ClassId) (a_t a_t_levels a_t_top a_t_top_bounds a_t_top_bounds_least a_t_top_bounds_most a_t_top_home a_t_low a_t_search a_t_mover a_t_orders a_t_divider a_t_levels_size a_t_levels_holders a_t_levels_mate a_t_levels_number a_t_top_graph a_t_top_sum a_t_top_link : Nat) (t_levels_fresh : Int32) (t_levels_count : Int32) (t_top_cut : Int32) (t_top_over : Int32) (t_top_bounds_k : Int32) (t_top_bounds_least : Nat → Int32) (t_top_bounds_most : Nat → Int32) (t_top_home : Nat → Int32) : va_W := [(a_t, .inr (8, [.ref a_t_top, .ref a_t_low, .ref a_t_levels, .ref a_t_search, .ref a_t_mover, .ref a_t_orders, .ref a_t_divider])), (a_t_levels, .inr (2, [.int t_levels_fresh, .int t_levels_count, .ref a_t_levels_size, .ref a_t_levels_holders, .ref a_t_levels_mate, .ref a_t_levels_number])), (a_t_top, .inr (7, [.ref a_t_top_graph, .ref a_t_top_bounds, .ref a_t_top_home, .ref a_t_top_sum, .ref a_t_top_link, .int t_top_cut, .int t_top_over])), (a_t_top_bounds, .inr (0, [.int t_top_bounds_k, .ref a_t_top_bounds_least, .ref a_t_top_bounds_most])), (a_t_top_bounds_least, .inl (cI, 4, .inl t_top_bounds_least)), (a_t_top_bounds_most, .inl (cI, 4, .inl t_top_bounds_most)), (a_t_top_home, .inl (cI, 40, .inl t_top_home))]
set_option maxRecDepth 100000 in
set_option maxHeartbeats 4000000 in
theorem c_Ba_startParts (l : Launch) (dC : Nat → ClassId) (dI : Nat → Nat → Nat) (cI cZ : ClassId) (a_t a_t_levels a_t_top a_t_top_bounds a_t_top_bounds_least a_t_top_bounds_most a_t_top_home a_t_low a_t_search a_t_mover a_t_orders a_t_divider a_t_levels_size a_t_levels_holders a_t_levels_mate a_t_levels_number a_t_top_graph a_t_top_sum a_t_top_link sz : Nat) (x1 : Int32) (t_levels_fresh : Int32) (t_levels_count : Int32) (t_top_cut : Int32) (t_top_over : Int32) (t_top_bounds_k : Int32) (t_top_bounds_least : Nat → Int32) (t_top_bounds_most : Nat → Int32) (t_top_home : Nat → Int32) (out : Int32 × Int32 × (Nat → Int32) × (Nat → Int32) × (Nat → Int32)) (hf : f_Ba_startParts x1 = some out) :
    Met l yy_Ba_startParts wq_Ba_startParts ({ frames := 2, cells := 0, slots := 0, locals := 44 }) (va_Pc ([.ref a_t, .int x1] : List Value) (pre_ (dC, dI) cI cZ sz (wd_Ba_startParts cI cZ a_t a_t_levels a_t_top a_t_top_bounds a_t_top_bounds_least a_t_top_bounds_most a_t_top_home a_t_low a_t_search a_t_mover a_t_orders a_t_divider a_t_levels_size a_t_levels_holders a_t_levels_mate a_t_levels_number a_t_top_graph a_t_top_sum a_t_top_link t_levels_fresh t_levels_count t_top_cut t_top_over t_top_bounds_k t_top_bounds_least t_top_bounds_most t_top_home))) (va_Qv (fun _ : Unit => True) (fun _ => pst (dC, dI) (va_A (wd_Ba_startParts cI cZ a_t a_t_levels a_t_top a_t_top_bounds a_t_top_bounds_least a_t_top_bounds_most a_t_top_home a_t_low a_t_search a_t_mover a_t_orders a_t_divider a_t_levels_size a_t_levels_holders a_t_levels_mate a_t_levels_number a_t_top_graph a_t_top_sum a_t_top_link t_levels_fresh t_levels_count t_top_cut t_top_over t_top_bounds_k t_top_bounds_least t_top_bounds_most t_top_home) sz) (wd_Ba_startParts cI cZ a_t a_t_levels a_t_top a_t_top_bounds a_t_top_bounds_least a_t_top_bounds_most a_t_top_home a_t_low a_t_search a_t_mover a_t_orders a_t_divider a_t_levels_size a_t_levels_holders a_t_levels_mate a_t_levels_number a_t_top_graph a_t_top_sum a_t_top_link out.1 t_levels_count t_top_cut t_top_over out.2.1 out.2.2.1 out.2.2.2.1 out.2.2.2.2)) (va_A (wd_Ba_startParts cI cZ a_t a_t_levels a_t_top a_t_top_bounds a_t_top_bounds_least a_t_top_bounds_most a_t_top_home a_t_low a_t_search a_t_mover a_t_orders a_t_divider a_t_levels_size a_t_levels_holders a_t_levels_mate a_t_levels_number a_t_top_graph a_t_top_sum a_t_top_link t_levels_fresh t_levels_count t_top_cut t_top_over t_top_bounds_k t_top_bounds_least t_top_bounds_most t_top_home) sz)) 0 0 (va_A (wd_Ba_startParts cI cZ a_t a_t_levels a_t_top a_t_top_bounds a_t_top_bounds_least a_t_top_bounds_most a_t_top_home a_t_low a_t_search a_t_mover a_t_orders a_t_divider a_t_levels_size a_t_levels_holders a_t_levels_mate a_t_levels_number a_t_top_graph a_t_top_sum a_t_top_link t_levels_fresh t_levels_count t_top_cut t_top_over t_top_bounds_k t_top_bounds_least t_top_bounds_most t_top_home) sz) := by
  refine Met.ofW (cc := cc_Ba_startParts) (maxL := 2) (ret := none) (by decide) rfl ?_
  intro p e s m args below meth c s₁ B hml hv
  obtain ⟨rfl, hsz, hP, hK, hD0, hN⟩ := hv
  have hx := B.exec
  have hb := B.bytes
  have hr := B.returns
  have hts := atoms_spec (ws := wq_Ba_startParts) B.pre
  have hown : s.vm.findClass rr_Ba = some m.cls := findClass_of_methodNamed B.named
  have hlocks := B.notSynchronized
  subst hsz
  have hD := hD0.self (sz := s.heap.size)
  generalize hAe : va_A (wd_Ba_startParts cI cZ a_t a_t_levels a_t_top a_t_top_bounds a_t_top_bounds_least a_t_top_bounds_most a_t_top_home a_t_low a_t_search a_t_mover a_t_orders a_t_divider a_t_levels_size a_t_levels_holders a_t_levels_mate a_t_levels_number a_t_top_graph a_t_top_sum a_t_top_link t_levels_fresh t_levels_count t_top_cut t_top_over t_top_bounds_k t_top_bounds_least t_top_bounds_most t_top_home) s.heap.size = A at hD ⊢
  have hA : ∀ q : Nat, s.heap.size ≤ q → A q := fun q h => by rw [← hAe]; exact Or.inr h
  obtain ⟨H, hH⟩ : ∃ H : Heap, H = s.heap := ⟨_, rfl⟩
  have hS : va_S A s.heap H [] := by rw [hH]; exact va_S.rf
  have hl := lv_entry (([.ref a_t, .int x1] : List Value)) (n := 2) (Nat.le_of_ble_eq_true rfl)
  rw [lg_entry_eq]
  generalize (lg_sl (([.ref a_t, .int x1] : List Value)) ++ List.replicate (2 - (lg_sl (([.ref a_t, .int x1] : List Value))).length) Slot.unset).toArray = ls at hl ⊢
  have hl : lv_has ls 2 [(0, .ref a_t), (1, .int x1)] := hl
  rw [← hH] at hP ⊢
  have hP : va_P (dC, dI) clsL (wd_Ba_startParts cI cZ a_t a_t_levels a_t_top a_t_top_bounds a_t_top_bounds_least a_t_top_bounds_most a_t_top_home a_t_low a_t_search a_t_mover a_t_orders a_t_divider a_t_levels_size a_t_levels_holders a_t_levels_mate a_t_levels_number a_t_top_graph a_t_top_sum a_t_top_link t_levels_fresh t_levels_count t_top_cut t_top_over t_top_bounds_k t_top_bounds_least t_top_bounds_most t_top_home) H := hP
  unfold f_Ba_startParts at hf
  refine lv_aload_n hx hb dd_Ba_startParts_0 rfl (lv_at hl 0 rfl) ?_
  refine va_get (D := (dC, dI)) (ci := 8) (v := .ref a_t_top) (C := rr_Ba) (T := tt_Ba) (N := 7) hx hb hts (fun w h => gwc (inn_Ba w h)) hown hK hP 0 rfl rfl 0 (by decide) (hts _ (gwc gw_283)) (fun _ h9 => h9) rfl dd_Ba_startParts_1 ?_
  refine va_get (D := (dC, dI)) (ci := 7) (v := .ref a_t_top_bounds) (C := rr_Sp) (T := tt_Sp) (N := 7) hx hb hts (fun w h => gwc (inn_Sp w h)) hown hK hP 2 rfl rfl 1 (by decide) (hts _ (gwc gw_140)) (fun _ h9 => h9) rfl dd_Ba_startParts_4 ?_
  refine lv_iload_n hx hb dd_Ba_startParts_7 rfl (lv_at hl 1 rfl) ?_
  obtain ⟨r8, hr8, hf⟩ := bind_some hf
  refine xcallv (rest := []) (wc := (wd_Bo_start cI cZ a_t_top_bounds a_t_top_bounds_least a_t_top_bounds_most t_top_bounds_k t_top_bounds_least t_top_bounds_most)) (w1 := (wd_Bo_start cI cZ a_t_top_bounds a_t_top_bounds_least a_t_top_bounds_most r8.1 r8.2.1 r8.2.2)) (wr := [(a_t, .inr (8, [.ref a_t_top, .ref a_t_low, .ref a_t_levels, .ref a_t_search, .ref a_t_mover, .ref a_t_orders, .ref a_t_divider])), (a_t_levels, .inr (2, [.int t_levels_fresh, .int t_levels_count, .ref a_t_levels_size, .ref a_t_levels_holders, .ref a_t_levels_mate, .ref a_t_levels_number])), (a_t_top, .inr (7, [.ref a_t_top_graph, .ref a_t_top_bounds, .ref a_t_top_home, .ref a_t_top_sum, .ref a_t_top_link, .int t_top_cut, .int t_top_over])), (a_t_top_home, .inl (cI, 40, .inl t_top_home))]) (ws' := (wd_Ba_startParts cI cZ a_t a_t_levels a_t_top a_t_top_bounds a_t_top_bounds_least a_t_top_bounds_most a_t_top_home a_t_low a_t_search a_t_mover a_t_orders a_t_divider a_t_levels_size a_t_levels_holders a_t_levels_mate a_t_levels_number a_t_top_graph a_t_top_sum a_t_top_link t_levels_fresh t_levels_count t_top_cut t_top_over r8.1 r8.2.1 r8.2.2 t_top_home)) (va_runV (As := [.int x1]) ⟨hx, hb, hml, hown, hts⟩ (c_Bo_start l dC dI cI cZ a_t_top_bounds a_t_top_bounds_least a_t_top_bounds_most H.size x1 t_top_bounds_k t_top_bounds_least t_top_bounds_most r8 hr8) (cwV 1 hts (gV gw_334 gw_335 gw_336 gw_55 gw_337) rfl rfl rfl (yd_Bo_start) ⟨Nat.le_of_ble_eq_true rfl, Nat.le_of_ble_eq_true rfl⟩) (mkV hK (hP.sub (ws' := (wd_Bo_start cI cZ a_t_top_bounds a_t_top_bounds_least a_t_top_bounds_most t_top_bounds_k t_top_bounds_least t_top_bounds_most)) [3, 4, 5] rfl) (hD.sub (ws' := (wd_Bo_start cI cZ a_t_top_bounds a_t_top_bounds_least a_t_top_bounds_most t_top_bounds_k t_top_bounds_least t_top_bounds_most)) [3, 4, 5] (by decide) rfl) hN (va_recv hK hP (ci := 0) (q0 := 3) rfl rfl)) rfl rfl hl.1 rfl (lv_room (Nat.le_of_ble_eq_true rfl)) dd_Ba_startParts_8 ⟨Nat.zero_le _, Nat.zero_le _⟩) hP hD hS hA [3, 4, 5] [0, 1, 2, 6] [0, 1, 2, 4, 5, 6, 3] rfl rfl (by decide) (by decide) rfl (by decide) rfl (fun H locs hP hD hS => ?_)
  refine lv_aload_n hx hb dd_Ba_startParts_11 rfl (lv_at hl 0 rfl) ?_
  refine va_get (D := (dC, dI)) (ci := 8) (v := .ref a_t_top) (C := rr_Ba) (T := tt_Ba) (N := 7) hx hb hts (fun w h => gwc (inn_Ba w h)) hown hK hP 0 rfl rfl 0 (by decide) (hts _ (gwc gw_283)) (fun _ h9 => h9) rfl dd_Ba_startParts_12 ?_
  refine va_get (D := (dC, dI)) (ci := 7) (v := .ref a_t_top_home) (C := rr_Sp) (T := tt_Sp) (N := 7) hx hb hts (fun w h => gwc (inn_Sp w h)) hown hK hP 2 rfl rfl 2 (by decide) (hts _ (gwc gw_144)) (fun _ h9 => h9) rfl dd_Ba_startParts_15 ?_
  refine lv_iconst (v := 0) hx hb dd_Ba_startParts_18 (by decide) ?_
  refine xcallv (rest := []) (wc := [(a_t_top_home, .inl (cI, 40, .inl t_top_home))]) (w1 := [(a_t_top_home, .inl (cI, 40, .inl (fun _ => 0)))]) (wr := [(a_t, .inr (8, [.ref a_t_top, .ref a_t_low, .ref a_t_levels, .ref a_t_search, .ref a_t_mover, .ref a_t_orders, .ref a_t_divider])), (a_t_levels, .inr (2, [.int t_levels_fresh, .int t_levels_count, .ref a_t_levels_size, .ref a_t_levels_holders, .ref a_t_levels_mate, .ref a_t_levels_number])), (a_t_top, .inr (7, [.ref a_t_top_graph, .ref a_t_top_bounds, .ref a_t_top_home, .ref a_t_top_sum, .ref a_t_top_link, .int t_top_cut, .int t_top_over])), (a_t_top_bounds, .inr (0, [.int r8.1, .ref a_t_top_bounds_least, .ref a_t_top_bounds_most])), (a_t_top_bounds_least, .inl (cI, 4, .inl r8.2.1)), (a_t_top_bounds_most, .inl (cI, 4, .inl r8.2.2))]) (ws' := (wd_Ba_startParts cI cZ a_t a_t_levels a_t_top a_t_top_bounds a_t_top_bounds_least a_t_top_bounds_most a_t_top_home a_t_low a_t_search a_t_mover a_t_orders a_t_divider a_t_levels_size a_t_levels_holders a_t_levels_mate a_t_levels_number a_t_top_graph a_t_top_sum a_t_top_link t_levels_fresh t_levels_count t_top_cut t_top_over r8.1 r8.2.1 r8.2.2 (fun _ => 0))) (va_runS (As := [.ref a_t_top_home, .int 0]) ⟨hx, hb, hml, hown, hts⟩ (c_fill l dC dI cI cZ a_t_top_home H.size 40 (by decide) t_top_home 0) (va_cwS 2 hts (gS gw_341 gw_339 gw_62 gw_340) rfl rfl rfl yd_fill ⟨Nat.le_of_ble_eq_true rfl, Nat.le_of_ble_eq_true rfl⟩) (mkS hK (hP.sub (ws' := [(a_t_top_home, .inl (cI, 40, .inl t_top_home))]) [6] rfl) (hD.sub (ws' := [(a_t_top_home, .inl (cI, 40, .inl t_top_home))]) [6] (by decide) rfl) hN) rfl rfl hl.1 rfl (lv_room (Nat.le_of_ble_eq_true rfl)) dd_Ba_startParts_19 ⟨Nat.zero_le _, Nat.zero_le _⟩) hP hD hS hA [6] [0, 1, 2, 3, 4, 5] [0, 1, 2, 3, 4, 5, 6] rfl rfl (by decide) (by decide) rfl (by decide) rfl (fun H locs hP hD hS => ?_)
  have hP : va_P (dC, dI) clsL (wd_Ba_startParts cI cZ a_t a_t_levels a_t_top a_t_top_bounds a_t_top_bounds_least a_t_top_bounds_most a_t_top_home a_t_low a_t_search a_t_mover a_t_orders a_t_divider a_t_levels_size a_t_levels_holders a_t_levels_mate a_t_levels_number a_t_top_graph a_t_top_sum a_t_top_link t_levels_fresh t_levels_count t_top_cut t_top_over r8.1 r8.2.1 r8.2.2 (fun _ => 0)) H := hP
  have hD : va_D A (wd_Ba_startParts cI cZ a_t a_t_levels a_t_top a_t_top_bounds a_t_top_bounds_least a_t_top_bounds_most a_t_top_home a_t_low a_t_search a_t_mover a_t_orders a_t_divider a_t_levels_size a_t_levels_holders a_t_levels_mate a_t_levels_number a_t_top_graph a_t_top_sum a_t_top_link t_levels_fresh t_levels_count t_top_cut t_top_over r8.1 r8.2.1 r8.2.2 (fun _ => 0)) := hD
  refine lv_aload_n hx hb dd_Ba_startParts_22 rfl (lv_at hl 0 rfl) ?_
  refine va_get (D := (dC, dI)) (ci := 8) (v := .ref a_t_levels) (C := rr_Ba) (T := tt_Ba) (N := 7) hx hb hts (fun w h => gwc (inn_Ba w h)) hown hK hP 0 rfl rfl 2 (by decide) (hts _ (gwc gw_285)) (fun _ h9 => h9) rfl dd_Ba_startParts_23 ?_
  refine lv_iconst (v := 0) hx hb dd_Ba_startParts_26 (by decide) ?_
  refine va_put (D := (dC, dI)) (ci := 2) (v := .int 0) (ty := .boolean) (C := rr_Le) (T := tt_Le) (N := 6) hx hb hts (fun w h => gwc (inn_Le w h)) tf_Le to_Le tn_Le hown hK hP hD hS 1 rfl rfl 0 (by decide) (hts _ (gwc gw_178)) (fun _ h9 => h9) rfl (by decide +kernel) narrow_b0 rfl (Nat.le_of_ble_eq_true rfl) dd_Ba_startParts_27 (fun H locs hP hD hS => ?_)
  have hP : va_P (dC, dI) clsL (wd_Ba_startParts cI cZ a_t a_t_levels a_t_top a_t_top_bounds a_t_top_bounds_least a_t_top_bounds_most a_t_top_home a_t_low a_t_search a_t_mover a_t_orders a_t_divider a_t_levels_size a_t_levels_holders a_t_levels_mate a_t_levels_number a_t_top_graph a_t_top_sum a_t_top_link 0 t_levels_count t_top_cut t_top_over r8.1 r8.2.1 r8.2.2 (fun _ => 0)) H := hP
  have hD : va_D A (wd_Ba_startParts cI cZ a_t a_t_levels a_t_top a_t_top_bounds a_t_top_bounds_least a_t_top_bounds_most a_t_top_home a_t_low a_t_search a_t_mover a_t_orders a_t_divider a_t_levels_size a_t_levels_holders a_t_levels_mate a_t_levels_number a_t_top_graph a_t_top_sum a_t_top_link 0 t_levels_count t_top_cut t_top_over r8.1 r8.2.1 r8.2.2 (fun _ => 0)) := hD
  have hf := Option.some.inj hf
  subst hf
  exact W.vret hx hb hr (fun t ht hW => ⟨⟨(), rfl, trivial, pst_of ht hP hD⟩, hS.F ht⟩) hS.2.2 dd_Ba_startParts_30
abbrev wd_Ba_parts (cI cZ : ClassId) (a_t a_t_levels a_t_top a_t_top_bounds a_t_top_bounds_least a_t_top_bounds_most a_t_top_home a_t_low a_t_search a_t_mover a_t_orders a_t_divider a_t_levels_size a_t_levels_holders a_t_levels_mate a_t_levels_number a_t_top_graph a_t_top_sum a_t_top_link : Nat) (t_levels_fresh : Int32) (t_levels_count : Int32) (t_top_cut : Int32) (t_top_over : Int32) (t_top_bounds_k : Int32) (t_top_bounds_least : Nat → Int32) (t_top_bounds_most : Nat → Int32) (t_top_home : Nat → Int32) : va_W := [(a_t, .inr (8, [.ref a_t_top, .ref a_t_low, .ref a_t_levels, .ref a_t_search, .ref a_t_mover, .ref a_t_orders, .ref a_t_divider])), (a_t_levels, .inr (2, [.int t_levels_fresh, .int t_levels_count, .ref a_t_levels_size, .ref a_t_levels_holders, .ref a_t_levels_mate, .ref a_t_levels_number])), (a_t_top, .inr (7, [.ref a_t_top_graph, .ref a_t_top_bounds, .ref a_t_top_home, .ref a_t_top_sum, .ref a_t_top_link, .int t_top_cut, .int t_top_over])), (a_t_top_bounds, .inr (0, [.int t_top_bounds_k, .ref a_t_top_bounds_least, .ref a_t_top_bounds_most])), (a_t_top_bounds_least, .inl (cI, 4, .inl t_top_bounds_least)), (a_t_top_bounds_most, .inl (cI, 4, .inl t_top_bounds_most)), (a_t_top_home, .inl (cI, 40, .inl t_top_home))]
set_option maxRecDepth 100000 in
set_option maxHeartbeats 4000000 in
theorem c_Ba_parts (l : Launch) (dC : Nat → ClassId) (dI : Nat → Nat → Nat) (cI cZ : ClassId) (a_t a_t_levels a_t_top a_t_top_bounds a_t_top_bounds_least a_t_top_bounds_most a_t_top_home a_t_low a_t_search a_t_mover a_t_orders a_t_divider a_t_levels_size a_t_levels_holders a_t_levels_mate a_t_levels_number a_t_top_graph a_t_top_sum a_t_top_link sz : Nat) (x1 : Int32) (t_levels_fresh : Int32) (t_levels_count : Int32) (t_top_cut : Int32) (t_top_over : Int32) (t_top_bounds_k : Int32) (t_top_bounds_least : Nat → Int32) (t_top_bounds_most : Nat → Int32) (t_top_home : Nat → Int32) (out : Int32 × Int32 × Int32 × (Nat → Int32) × (Nat → Int32) × (Nat → Int32)) (hf : f_Ba_parts x1 t_levels_fresh t_top_bounds_k t_top_bounds_least t_top_bounds_most t_top_home = some out) :
    Met l yy_Ba_parts wq_Ba_parts ({ frames := 3, cells := 0, slots := 0, locals := 65 }) (va_Pc ([.ref a_t, .int x1] : List Value) (pre_ (dC, dI) cI cZ sz (wd_Ba_parts cI cZ a_t a_t_levels a_t_top a_t_top_bounds a_t_top_bounds_least a_t_top_bounds_most a_t_top_home a_t_low a_t_search a_t_mover a_t_orders a_t_divider a_t_levels_size a_t_levels_holders a_t_levels_mate a_t_levels_number a_t_top_graph a_t_top_sum a_t_top_link t_levels_fresh t_levels_count t_top_cut t_top_over t_top_bounds_k t_top_bounds_least t_top_bounds_most t_top_home))) (va_Qi (fun (r : Int32) (_ : Unit) => r = out.1) (fun _ => pst (dC, dI) (va_A (wd_Ba_parts cI cZ a_t a_t_levels a_t_top a_t_top_bounds a_t_top_bounds_least a_t_top_bounds_most a_t_top_home a_t_low a_t_search a_t_mover a_t_orders a_t_divider a_t_levels_size a_t_levels_holders a_t_levels_mate a_t_levels_number a_t_top_graph a_t_top_sum a_t_top_link t_levels_fresh t_levels_count t_top_cut t_top_over t_top_bounds_k t_top_bounds_least t_top_bounds_most t_top_home) sz) (wd_Ba_parts cI cZ a_t a_t_levels a_t_top a_t_top_bounds a_t_top_bounds_least a_t_top_bounds_most a_t_top_home a_t_low a_t_search a_t_mover a_t_orders a_t_divider a_t_levels_size a_t_levels_holders a_t_levels_mate a_t_levels_number a_t_top_graph a_t_top_sum a_t_top_link out.2.1 t_levels_count t_top_cut t_top_over out.2.2.1 out.2.2.2.1 out.2.2.2.2.1 out.2.2.2.2.2)) (va_A (wd_Ba_parts cI cZ a_t a_t_levels a_t_top a_t_top_bounds a_t_top_bounds_least a_t_top_bounds_most a_t_top_home a_t_low a_t_search a_t_mover a_t_orders a_t_divider a_t_levels_size a_t_levels_holders a_t_levels_mate a_t_levels_number a_t_top_graph a_t_top_sum a_t_top_link t_levels_fresh t_levels_count t_top_cut t_top_over t_top_bounds_k t_top_bounds_least t_top_bounds_most t_top_home) sz)) 0 0 (va_A (wd_Ba_parts cI cZ a_t a_t_levels a_t_top a_t_top_bounds a_t_top_bounds_least a_t_top_bounds_most a_t_top_home a_t_low a_t_search a_t_mover a_t_orders a_t_divider a_t_levels_size a_t_levels_holders a_t_levels_mate a_t_levels_number a_t_top_graph a_t_top_sum a_t_top_link t_levels_fresh t_levels_count t_top_cut t_top_over t_top_bounds_k t_top_bounds_least t_top_bounds_most t_top_home) sz) := by
  refine Met.ofW (cc := cc_Ba_parts) (maxL := 3) (ret := (some .int)) (by decide) rfl ?_
  intro p e s m args below meth c s₁ B hml hv
  obtain ⟨rfl, hsz, hP, hK, hD0, hN⟩ := hv
  have hx := B.exec
  have hb := B.bytes
  have hr := B.returns
  have hts := atoms_spec (ws := wq_Ba_parts) B.pre
  have hown : s.vm.findClass rr_Ba = some m.cls := findClass_of_methodNamed B.named
  have hlocks := B.notSynchronized
  subst hsz
  have hD := hD0.self (sz := s.heap.size)
  generalize hAe : va_A (wd_Ba_parts cI cZ a_t a_t_levels a_t_top a_t_top_bounds a_t_top_bounds_least a_t_top_bounds_most a_t_top_home a_t_low a_t_search a_t_mover a_t_orders a_t_divider a_t_levels_size a_t_levels_holders a_t_levels_mate a_t_levels_number a_t_top_graph a_t_top_sum a_t_top_link t_levels_fresh t_levels_count t_top_cut t_top_over t_top_bounds_k t_top_bounds_least t_top_bounds_most t_top_home) s.heap.size = A at hD ⊢
  have hA : ∀ q : Nat, s.heap.size ≤ q → A q := fun q h => by rw [← hAe]; exact Or.inr h
  obtain ⟨H, hH⟩ : ∃ H : Heap, H = s.heap := ⟨_, rfl⟩
  have hS : va_S A s.heap H [] := by rw [hH]; exact va_S.rf
  have hl := lv_entry (([.ref a_t, .int x1] : List Value)) (n := 3) (Nat.le_of_ble_eq_true rfl)
  rw [lg_entry_eq]
  generalize (lg_sl (([.ref a_t, .int x1] : List Value)) ++ List.replicate (3 - (lg_sl (([.ref a_t, .int x1] : List Value))).length) Slot.unset).toArray = ls at hl ⊢
  have hl : lv_has ls 3 [(0, .ref a_t), (1, .int x1)] := hl
  rw [← hH] at hP ⊢
  have hP : va_P (dC, dI) clsL (wd_Ba_parts cI cZ a_t a_t_levels a_t_top a_t_top_bounds a_t_top_bounds_least a_t_top_bounds_most a_t_top_home a_t_low a_t_search a_t_mover a_t_orders a_t_divider a_t_levels_size a_t_levels_holders a_t_levels_mate a_t_levels_number a_t_top_graph a_t_top_sum a_t_top_link t_levels_fresh t_levels_count t_top_cut t_top_over t_top_bounds_k t_top_bounds_least t_top_bounds_most t_top_home) H := hP
  unfold f_Ba_parts at hf
  refine lv_iload_n hx hb dd_Ba_parts_0 rfl (lv_at hl 1 rfl) ?_
  refine lv_iconst (v := 2) hx hb dd_Ba_parts_1 (by decide) ?_
  refine lv_icmp_lt (tgt := 10) hx hb dd_Ba_parts_2 (by decide) (fun cc => ?_) (fun cc => ?_)
  · skip
    have hf := if_t cc hf
    refine lv_iconst (v := -1) hx hb dd_Ba_parts_10 (by decide) ?_
    have hf := Option.some.inj hf
    subst hf
    exact W.iret hx hb hr (fun t ht hW => ⟨⟨_, (), rfl, rfl, pst_of ht hP hD⟩, hS.F ht⟩) hS.2.2 dd_Ba_parts_11
  · skip
    have hf := if_f cc hf
    refine lv_iload_n hx hb dd_Ba_parts_5 rfl (lv_at hl 1 rfl) ?_
    refine lv_iconst (v := 4) hx hb dd_Ba_parts_6 (by decide) ?_
    refine lv_icmp_le (tgt := 12) hx hb dd_Ba_parts_7 (by decide) (fun cc => ?_) (fun cc => ?_)
    · skip
      have hf := if_t cc hf
      refine lv_aload_n hx hb dd_Ba_parts_12 rfl (lv_at hl 0 rfl) ?_
      refine va_get (D := (dC, dI)) (ci := 8) (v := .ref a_t_top) (C := rr_Ba) (T := tt_Ba) (N := 7) hx hb hts (fun w h => gwc (inn_Ba w h)) hown hK hP 0 rfl rfl 0 (by decide) (hts _ (gwc gw_283)) (fun _ h9 => h9) rfl dd_Ba_parts_13 ?_
      refine va_get (D := (dC, dI)) (ci := 7) (v := .ref a_t_top_bounds) (C := rr_Sp) (T := tt_Sp) (N := 7) hx hb hts (fun w h => gwc (inn_Sp w h)) hown hK hP 2 rfl rfl 1 (by decide) (hts _ (gwc gw_140)) (fun _ h9 => h9) rfl dd_Ba_parts_16 ?_
      refine va_get (D := (dC, dI)) (ci := 0) (v := .int t_top_bounds_k) (C := rr_Bo) (T := tt_Bo) (N := 3) hx hb hts (fun w h => gwc (inn_Bo w h)) hown hK hP 3 rfl rfl 0 (by decide) (hts _ (gwc gw_117)) (fun _ h9 => h9) rfl dd_Ba_parts_19 ?_
      refine lv_istore_n (lv' := [(2, .int t_top_bounds_k), (0, .ref a_t), (1, .int x1)]) hx hb dd_Ba_parts_22 rfl hl (by decide) rfl (fun ls hl => ?_)
      refine lv_aload_n hx hb dd_Ba_parts_23 rfl (lv_at hl 1 rfl) ?_
      refine lv_iload_n hx hb dd_Ba_parts_24 rfl (lv_at hl 2 rfl) ?_
      obtain ⟨r25, hr25, hf⟩ := bind_some hf
      refine xcallv (rest := []) (wc := (wd_Ba_startParts cI cZ a_t a_t_levels a_t_top a_t_top_bounds a_t_top_bounds_least a_t_top_bounds_most a_t_top_home a_t_low a_t_search a_t_mover a_t_orders a_t_divider a_t_levels_size a_t_levels_holders a_t_levels_mate a_t_levels_number a_t_top_graph a_t_top_sum a_t_top_link t_levels_fresh t_levels_count t_top_cut t_top_over t_top_bounds_k t_top_bounds_least t_top_bounds_most t_top_home)) (w1 := (wd_Ba_startParts cI cZ a_t a_t_levels a_t_top a_t_top_bounds a_t_top_bounds_least a_t_top_bounds_most a_t_top_home a_t_low a_t_search a_t_mover a_t_orders a_t_divider a_t_levels_size a_t_levels_holders a_t_levels_mate a_t_levels_number a_t_top_graph a_t_top_sum a_t_top_link r25.1 t_levels_count t_top_cut t_top_over r25.2.1 r25.2.2.1 r25.2.2.2.1 r25.2.2.2.2)) (wr := []) (ws' := (wd_Ba_parts cI cZ a_t a_t_levels a_t_top a_t_top_bounds a_t_top_bounds_least a_t_top_bounds_most a_t_top_home a_t_low a_t_search a_t_mover a_t_orders a_t_divider a_t_levels_size a_t_levels_holders a_t_levels_mate a_t_levels_number a_t_top_graph a_t_top_sum a_t_top_link r25.1 t_levels_count t_top_cut t_top_over r25.2.1 r25.2.2.1 r25.2.2.2.1 r25.2.2.2.2)) (va_runV (As := [.int x1]) ⟨hx, hb, hml, hown, hts⟩ (c_Ba_startParts l dC dI cI cZ a_t a_t_levels a_t_top a_t_top_bounds a_t_top_bounds_least a_t_top_bounds_most a_t_top_home a_t_low a_t_search a_t_mover a_t_orders a_t_divider a_t_levels_size a_t_levels_holders a_t_levels_mate a_t_levels_number a_t_top_graph a_t_top_sum a_t_top_link H.size x1 t_levels_fresh t_levels_count t_top_cut t_top_over t_top_bounds_k t_top_bounds_least t_top_bounds_most t_top_home r25 hr25) (cwV 1 hts (gV gw_330 gw_332 gw_0 gw_52 gw_333) rfl rfl rfl (yd_Ba_startParts) ⟨Nat.le_of_ble_eq_true rfl, Nat.le_of_ble_eq_true rfl⟩) (mkV hK (hP.sub (ws' := (wd_Ba_startParts cI cZ a_t a_t_levels a_t_top a_t_top_bounds a_t_top_bounds_least a_t_top_bounds_most a_t_top_home a_t_low a_t_search a_t_mover a_t_orders a_t_divider a_t_levels_size a_t_levels_holders a_t_levels_mate a_t_levels_number a_t_top_graph a_t_top_sum a_t_top_link t_levels_fresh t_levels_count t_top_cut t_top_over t_top_bounds_k t_top_bounds_least t_top_bounds_most t_top_home)) [0, 1, 2, 3, 4, 5, 6] rfl) (hD.sub (ws' := (wd_Ba_startParts cI cZ a_t a_t_levels a_t_top a_t_top_bounds a_t_top_bounds_least a_t_top_bounds_most a_t_top_home a_t_low a_t_search a_t_mover a_t_orders a_t_divider a_t_levels_size a_t_levels_holders a_t_levels_mate a_t_levels_number a_t_top_graph a_t_top_sum a_t_top_link t_levels_fresh t_levels_count t_top_cut t_top_over t_top_bounds_k t_top_bounds_least t_top_bounds_most t_top_home)) [0, 1, 2, 3, 4, 5, 6] (by decide) rfl) hN (va_recv hK hP (ci := 8) (q0 := 0) rfl rfl)) rfl rfl hl.1 rfl (lv_room (Nat.le_of_ble_eq_true rfl)) dd_Ba_parts_25 ⟨Nat.zero_le _, Nat.zero_le _⟩) hP hD hS hA [0, 1, 2, 3, 4, 5, 6] [] [0, 1, 2, 3, 4, 5, 6] rfl rfl (by decide) (by decide) rfl (by decide) rfl (fun H locs hP hD hS => ?_)
      refine lv_iload_n hx hb dd_Ba_parts_28 rfl (lv_at hl 0 rfl) ?_
      have hf := Option.some.inj hf
      subst hf
      exact W.iret hx hb hr (fun t ht hW => ⟨⟨_, (), rfl, rfl, pst_of ht hP hD⟩, hS.F ht⟩) hS.2.2 dd_Ba_parts_29
    · skip
      have hf := if_f cc hf
      refine lv_iconst (v := -1) hx hb dd_Ba_parts_10 (by decide) ?_
      have hf := Option.some.inj hf
      subst hf
      exact W.iret hx hb hr (fun t ht hW => ⟨⟨_, (), rfl, rfl, pst_of ht hP hD⟩, hS.F ht⟩) hS.2.2 dd_Ba_parts_11
abbrev wd_Ba_bound (cI cZ : ClassId) (a_t a_t_top a_t_top_bounds a_t_top_bounds_least a_t_top_bounds_most a_t_low a_t_levels a_t_search a_t_mover a_t_orders a_t_divider a_t_top_graph a_t_top_home a_t_top_sum a_t_top_link : Nat) (t_top_cut : Int32) (t_top_over : Int32) (t_top_bounds_k : Int32) (t_top_bounds_least : Nat → Int32) (t_top_bounds_most : Nat → Int32) : va_W := [(a_t, .inr (8, [.ref a_t_top, .ref a_t_low, .ref a_t_levels, .ref a_t_search, .ref a_t_mover, .ref a_t_orders, .ref a_t_divider])), (a_t_top, .inr (7, [.ref a_t_top_graph, .ref a_t_top_bounds, .ref a_t_top_home, .ref a_t_top_sum, .ref a_t_top_link, .int t_top_cut, .int t_top_over])), (a_t_top_bounds, .inr (0, [.int t_top_bounds_k, .ref a_t_top_bounds_least, .ref a_t_top_bounds_most])), (a_t_top_bounds_least, .inl (cI, 4, .inl t_top_bounds_least)), (a_t_top_bounds_most, .inl (cI, 4, .inl t_top_bounds_most))]
set_option maxRecDepth 100000 in
set_option maxHeartbeats 4000000 in
theorem c_Ba_bound (l : Launch) (dC : Nat → ClassId) (dI : Nat → Nat → Nat) (cI cZ : ClassId) (a_t a_t_top a_t_top_bounds a_t_top_bounds_least a_t_top_bounds_most a_t_low a_t_levels a_t_search a_t_mover a_t_orders a_t_divider a_t_top_graph a_t_top_home a_t_top_sum a_t_top_link sz : Nat) (x1 : Int32) (x2 : Int32) (x3 : Int32) (t_top_cut : Int32) (t_top_over : Int32) (t_top_bounds_k : Int32) (t_top_bounds_least : Nat → Int32) (t_top_bounds_most : Nat → Int32) (out : Int32 × (Nat → Int32) × (Nat → Int32)) (hf : f_Ba_bound x1 x2 x3 t_top_bounds_k t_top_bounds_least t_top_bounds_most = some out) :
    Met l yy_Ba_bound wq_Ba_bound ({ frames := 1, cells := 0, slots := 0, locals := 21 }) (va_Pc ([.ref a_t, .int x1, .int x2, .int x3] : List Value) (pre_ (dC, dI) cI cZ sz (wd_Ba_bound cI cZ a_t a_t_top a_t_top_bounds a_t_top_bounds_least a_t_top_bounds_most a_t_low a_t_levels a_t_search a_t_mover a_t_orders a_t_divider a_t_top_graph a_t_top_home a_t_top_sum a_t_top_link t_top_cut t_top_over t_top_bounds_k t_top_bounds_least t_top_bounds_most))) (va_Qi (fun (r : Int32) (_ : Unit) => r = out.1) (fun _ => pst (dC, dI) (va_A (wd_Ba_bound cI cZ a_t a_t_top a_t_top_bounds a_t_top_bounds_least a_t_top_bounds_most a_t_low a_t_levels a_t_search a_t_mover a_t_orders a_t_divider a_t_top_graph a_t_top_home a_t_top_sum a_t_top_link t_top_cut t_top_over t_top_bounds_k t_top_bounds_least t_top_bounds_most) sz) (wd_Ba_bound cI cZ a_t a_t_top a_t_top_bounds a_t_top_bounds_least a_t_top_bounds_most a_t_low a_t_levels a_t_search a_t_mover a_t_orders a_t_divider a_t_top_graph a_t_top_home a_t_top_sum a_t_top_link t_top_cut t_top_over t_top_bounds_k out.2.1 out.2.2)) (va_A (wd_Ba_bound cI cZ a_t a_t_top a_t_top_bounds a_t_top_bounds_least a_t_top_bounds_most a_t_low a_t_levels a_t_search a_t_mover a_t_orders a_t_divider a_t_top_graph a_t_top_home a_t_top_sum a_t_top_link t_top_cut t_top_over t_top_bounds_k t_top_bounds_least t_top_bounds_most) sz)) 0 0 (va_A (wd_Ba_bound cI cZ a_t a_t_top a_t_top_bounds a_t_top_bounds_least a_t_top_bounds_most a_t_low a_t_levels a_t_search a_t_mover a_t_orders a_t_divider a_t_top_graph a_t_top_home a_t_top_sum a_t_top_link t_top_cut t_top_over t_top_bounds_k t_top_bounds_least t_top_bounds_most) sz) := by
  refine Met.ofW (cc := cc_Ba_bound) (maxL := 4) (ret := (some .int)) (by decide) rfl ?_
  intro p e s m args below meth c s₁ B hml hv
  obtain ⟨rfl, hsz, hP, hK, hD0, hN⟩ := hv
  have hx := B.exec
  have hb := B.bytes
  have hr := B.returns
  have hts := atoms_spec (ws := wq_Ba_bound) B.pre
  have hown : s.vm.findClass rr_Ba = some m.cls := findClass_of_methodNamed B.named
  have hlocks := B.notSynchronized
  subst hsz
  have hD := hD0.self (sz := s.heap.size)
  generalize hAe : va_A (wd_Ba_bound cI cZ a_t a_t_top a_t_top_bounds a_t_top_bounds_least a_t_top_bounds_most a_t_low a_t_levels a_t_search a_t_mover a_t_orders a_t_divider a_t_top_graph a_t_top_home a_t_top_sum a_t_top_link t_top_cut t_top_over t_top_bounds_k t_top_bounds_least t_top_bounds_most) s.heap.size = A at hD ⊢
  have hA : ∀ q : Nat, s.heap.size ≤ q → A q := fun q h => by rw [← hAe]; exact Or.inr h
  obtain ⟨H, hH⟩ : ∃ H : Heap, H = s.heap := ⟨_, rfl⟩
  have hS : va_S A s.heap H [] := by rw [hH]; exact va_S.rf
  have hl := lv_entry (([.ref a_t, .int x1, .int x2, .int x3] : List Value)) (n := 4) (Nat.le_of_ble_eq_true rfl)
  rw [lg_entry_eq]
  generalize (lg_sl (([.ref a_t, .int x1, .int x2, .int x3] : List Value)) ++ List.replicate (4 - (lg_sl (([.ref a_t, .int x1, .int x2, .int x3] : List Value))).length) Slot.unset).toArray = ls at hl ⊢
  have hl : lv_has ls 4 [(0, .ref a_t), (1, .int x1), (2, .int x2), (3, .int x3)] := hl
  rw [← hH] at hP ⊢
  have hP : va_P (dC, dI) clsL (wd_Ba_bound cI cZ a_t a_t_top a_t_top_bounds a_t_top_bounds_least a_t_top_bounds_most a_t_low a_t_levels a_t_search a_t_mover a_t_orders a_t_divider a_t_top_graph a_t_top_home a_t_top_sum a_t_top_link t_top_cut t_top_over t_top_bounds_k t_top_bounds_least t_top_bounds_most) H := hP
  unfold f_Ba_bound at hf
  refine lv_aload_n hx hb dd_Ba_bound_0 rfl (lv_at hl 0 rfl) ?_
  refine va_get (D := (dC, dI)) (ci := 8) (v := .ref a_t_top) (C := rr_Ba) (T := tt_Ba) (N := 7) hx hb hts (fun w h => gwc (inn_Ba w h)) hown hK hP 0 rfl rfl 0 (by decide) (hts _ (gwc gw_283)) (fun _ h9 => h9) rfl dd_Ba_bound_1 ?_
  refine va_get (D := (dC, dI)) (ci := 7) (v := .ref a_t_top_bounds) (C := rr_Sp) (T := tt_Sp) (N := 7) hx hb hts (fun w h => gwc (inn_Sp w h)) hown hK hP 1 rfl rfl 1 (by decide) (hts _ (gwc gw_140)) (fun _ h9 => h9) rfl dd_Ba_bound_4 ?_
  refine lv_iload_n hx hb dd_Ba_bound_7 rfl (lv_at hl 1 rfl) ?_
  obtain ⟨r8, hr8, hf⟩ := bind_some hf
  refine xcalli (rest := []) (wc := (wd_Bo_has cI cZ a_t_top_bounds a_t_top_bounds_least a_t_top_bounds_most t_top_bounds_k)) (w1 := (wd_Bo_has cI cZ a_t_top_bounds a_t_top_bounds_least a_t_top_bounds_most t_top_bounds_k)) (wr := [(a_t, .inr (8, [.ref a_t_top, .ref a_t_low, .ref a_t_levels, .ref a_t_search, .ref a_t_mover, .ref a_t_orders, .ref a_t_divider])), (a_t_top, .inr (7, [.ref a_t_top_graph, .ref a_t_top_bounds, .ref a_t_top_home, .ref a_t_top_sum, .ref a_t_top_link, .int t_top_cut, .int t_top_over])), (a_t_top_bounds_least, .inl (cI, 4, .inl t_top_bounds_least)), (a_t_top_bounds_most, .inl (cI, 4, .inl t_top_bounds_most))]) (ws' := (wd_Ba_bound cI cZ a_t a_t_top a_t_top_bounds a_t_top_bounds_least a_t_top_bounds_most a_t_low a_t_levels a_t_search a_t_mover a_t_orders a_t_divider a_t_top_graph a_t_top_home a_t_top_sum a_t_top_link t_top_cut t_top_over t_top_bounds_k t_top_bounds_least t_top_bounds_most)) (va_runV (As := [.int x1]) ⟨hx, hb, hml, hown, hts⟩ (c_Bo_has l dC dI cI cZ a_t_top_bounds a_t_top_bounds_least a_t_top_bounds_most H.size x1 t_top_bounds_k r8 hr8) (cwV 1 hts (gV gw_346 gw_347 gw_348 gw_55 gw_349) rfl rfl rfl (yd_Bo_has) ⟨Nat.le_of_ble_eq_true rfl, Nat.le_of_ble_eq_true rfl⟩) (mkV hK (hP.sub (ws' := (wd_Bo_has cI cZ a_t_top_bounds a_t_top_bounds_least a_t_top_bounds_most t_top_bounds_k)) [2] rfl) (hD.sub (ws' := (wd_Bo_has cI cZ a_t_top_bounds a_t_top_bounds_least a_t_top_bounds_most t_top_bounds_k)) [2] (by decide) rfl) hN (va_recv hK hP (ci := 0) (q0 := 2) rfl rfl)) rfl rfl hl.1 rfl (lv_room (Nat.le_of_ble_eq_true rfl)) dd_Ba_bound_8 ⟨Nat.zero_le _, Nat.zero_le _⟩) hP hD hS hA [2] [0, 1, 3, 4] [0, 1, 4, 2, 3] rfl rfl (by decide) (by decide) rfl (by decide) rfl (fun H locs hP hD hS => ?_)
  refine lv_if_eq (tgt := 29) hx hb dd_Ba_bound_11 (by decide) (fun cc => ?_) (fun cc => ?_)
  · skip
    have hf := if_t cc hf
    refine lv_iconst (v := -1) hx hb dd_Ba_bound_29 (by decide) ?_
    have hf := Option.some.inj hf
    subst hf
    exact W.iret hx hb hr (fun t ht hW => ⟨⟨_, (), rfl, rfl, pst_of ht hP hD⟩, hS.F ht⟩) hS.2.2 dd_Ba_bound_30
  · skip
    have hf := if_f cc hf
    refine lv_iload_n hx hb dd_Ba_bound_14 rfl (lv_at hl 2 rfl) ?_
    refine lv_if_lt (tgt := 29) hx hb dd_Ba_bound_15 (by decide) (fun cc => ?_) (fun cc => ?_)
    · skip
      have hf := if_t cc hf
      refine lv_iconst (v := -1) hx hb dd_Ba_bound_29 (by decide) ?_
      have hf := Option.some.inj hf
      subst hf
      exact W.iret hx hb hr (fun t ht hW => ⟨⟨_, (), rfl, rfl, pst_of ht hP hD⟩, hS.F ht⟩) hS.2.2 dd_Ba_bound_30
    · skip
      have hf := if_f cc hf
      refine lv_iload_n hx hb dd_Ba_bound_18 rfl (lv_at hl 3 rfl) ?_
      refine lv_ldc (v := 1000000) hx hb hown (hts _ (gwc gw_321)) dd_Ba_bound_19 ?_
      refine lv_icmp_gt (tgt := 29) hx hb dd_Ba_bound_21 (by decide) (fun cc => ?_) (fun cc => ?_)
      · skip
        have hf := if_t cc hf
        refine lv_iconst (v := -1) hx hb dd_Ba_bound_29 (by decide) ?_
        have hf := Option.some.inj hf
        subst hf
        exact W.iret hx hb hr (fun t ht hW => ⟨⟨_, (), rfl, rfl, pst_of ht hP hD⟩, hS.F ht⟩) hS.2.2 dd_Ba_bound_30
      · skip
        have hf := if_f cc hf
        refine lv_iload_n hx hb dd_Ba_bound_24 rfl (lv_at hl 2 rfl) ?_
        refine lv_iload_n hx hb dd_Ba_bound_25 rfl (lv_at hl 3 rfl) ?_
        refine lv_icmp_le (tgt := 31) hx hb dd_Ba_bound_26 (by decide) (fun cc => ?_) (fun cc => ?_)
        · skip
          have hf := if_t cc hf
          refine lv_aload_n hx hb dd_Ba_bound_31 rfl (lv_at hl 0 rfl) ?_
          refine va_get (D := (dC, dI)) (ci := 8) (v := .ref a_t_top) (C := rr_Ba) (T := tt_Ba) (N := 7) hx hb hts (fun w h => gwc (inn_Ba w h)) hown hK hP 0 rfl rfl 0 (by decide) (hts _ (gwc gw_283)) (fun _ h9 => h9) rfl dd_Ba_bound_32 ?_
          refine va_get (D := (dC, dI)) (ci := 7) (v := .ref a_t_top_bounds) (C := rr_Sp) (T := tt_Sp) (N := 7) hx hb hts (fun w h => gwc (inn_Sp w h)) hown hK hP 1 rfl rfl 1 (by decide) (hts _ (gwc gw_140)) (fun _ h9 => h9) rfl dd_Ba_bound_35 ?_
          refine va_get (D := (dC, dI)) (ci := 0) (v := .ref a_t_top_bounds_least) (C := rr_Bo) (T := tt_Bo) (N := 3) hx hb hts (fun w h => gwc (inn_Bo w h)) hown hK hP 2 rfl rfl 1 (by decide) (hts _ (gwc gw_121)) (fun _ h9 => h9) rfl dd_Ba_bound_38 ?_
          refine lv_iload_n hx hb dd_Ba_bound_41 rfl (lv_at hl 1 rfl) ?_
          refine lv_iload_n hx hb dd_Ba_bound_42 rfl (lv_at hl 2 rfl) ?_
          obtain ⟨k43, hf⟩ := ck_some hf
          refine va_iast hx hb hK hP hD hS 3 0 rfl rfl (okb_in k43) dd_Ba_bound_43 (fun H locs hP hD hS => ?_)
          have hP : va_P (dC, dI) clsL (wd_Ba_bound cI cZ a_t a_t_top a_t_top_bounds a_t_top_bounds_least a_t_top_bounds_most a_t_low a_t_levels a_t_search a_t_mover a_t_orders a_t_divider a_t_top_graph a_t_top_home a_t_top_sum a_t_top_link t_top_cut t_top_over t_top_bounds_k (upd t_top_bounds_least (x1).toNatClampNeg x2) t_top_bounds_most) H := hP
          have hD : va_D A (wd_Ba_bound cI cZ a_t a_t_top a_t_top_bounds a_t_top_bounds_least a_t_top_bounds_most a_t_low a_t_levels a_t_search a_t_mover a_t_orders a_t_divider a_t_top_graph a_t_top_home a_t_top_sum a_t_top_link t_top_cut t_top_over t_top_bounds_k (upd t_top_bounds_least (x1).toNatClampNeg x2) t_top_bounds_most) := hD
          refine lv_aload_n hx hb dd_Ba_bound_44 rfl (lv_at hl 0 rfl) ?_
          refine va_get (D := (dC, dI)) (ci := 8) (v := .ref a_t_top) (C := rr_Ba) (T := tt_Ba) (N := 7) hx hb hts (fun w h => gwc (inn_Ba w h)) hown hK hP 0 rfl rfl 0 (by decide) (hts _ (gwc gw_283)) (fun _ h9 => h9) rfl dd_Ba_bound_45 ?_
          refine va_get (D := (dC, dI)) (ci := 7) (v := .ref a_t_top_bounds) (C := rr_Sp) (T := tt_Sp) (N := 7) hx hb hts (fun w h => gwc (inn_Sp w h)) hown hK hP 1 rfl rfl 1 (by decide) (hts _ (gwc gw_140)) (fun _ h9 => h9) rfl dd_Ba_bound_48 ?_
          refine va_get (D := (dC, dI)) (ci := 0) (v := .ref a_t_top_bounds_most) (C := rr_Bo) (T := tt_Bo) (N := 3) hx hb hts (fun w h => gwc (inn_Bo w h)) hown hK hP 2 rfl rfl 2 (by decide) (hts _ (gwc gw_124)) (fun _ h9 => h9) rfl dd_Ba_bound_51 ?_
          refine lv_iload_n hx hb dd_Ba_bound_54 rfl (lv_at hl 1 rfl) ?_
          refine lv_iload_n hx hb dd_Ba_bound_55 rfl (lv_at hl 3 rfl) ?_
          obtain ⟨k56, hf⟩ := ck_some hf
          refine va_iast hx hb hK hP hD hS 4 0 rfl rfl (okb_in k56) dd_Ba_bound_56 (fun H locs hP hD hS => ?_)
          have hP : va_P (dC, dI) clsL (wd_Ba_bound cI cZ a_t a_t_top a_t_top_bounds a_t_top_bounds_least a_t_top_bounds_most a_t_low a_t_levels a_t_search a_t_mover a_t_orders a_t_divider a_t_top_graph a_t_top_home a_t_top_sum a_t_top_link t_top_cut t_top_over t_top_bounds_k (upd t_top_bounds_least (x1).toNatClampNeg x2) (upd t_top_bounds_most (x1).toNatClampNeg x3)) H := hP
          have hD : va_D A (wd_Ba_bound cI cZ a_t a_t_top a_t_top_bounds a_t_top_bounds_least a_t_top_bounds_most a_t_low a_t_levels a_t_search a_t_mover a_t_orders a_t_divider a_t_top_graph a_t_top_home a_t_top_sum a_t_top_link t_top_cut t_top_over t_top_bounds_k (upd t_top_bounds_least (x1).toNatClampNeg x2) (upd t_top_bounds_most (x1).toNatClampNeg x3)) := hD
          refine lv_iconst (v := 0) hx hb dd_Ba_bound_57 (by decide) ?_
          have hf := Option.some.inj hf
          subst hf
          exact W.iret hx hb hr (fun t ht hW => ⟨⟨_, (), rfl, rfl, pst_of ht hP hD⟩, hS.F ht⟩) hS.2.2 dd_Ba_bound_58
        · skip
          have hf := if_f cc hf
          refine lv_iconst (v := -1) hx hb dd_Ba_bound_29 (by decide) ?_
          have hf := Option.some.inj hf
          subst hf
          exact W.iret hx hb hr (fun t ht hW => ⟨⟨_, (), rfl, rfl, pst_of ht hP hD⟩, hS.F ht⟩) hS.2.2 dd_Ba_bound_30
abbrev wd_Ba_put (cI cZ : ClassId) (a_t a_t_top a_t_top_bounds a_t_top_graph a_t_top_home a_t_low a_t_levels a_t_search a_t_mover a_t_orders a_t_divider a_t_top_sum a_t_top_link a_t_top_bounds_least a_t_top_bounds_most a_t_top_graph_weight a_t_top_graph_arcs : Nat) (t_top_cut : Int32) (t_top_over : Int32) (t_top_bounds_k : Int32) (t_top_graph_size : Int32) (t_top_home : Nat → Int32) : va_W := [(a_t, .inr (8, [.ref a_t_top, .ref a_t_low, .ref a_t_levels, .ref a_t_search, .ref a_t_mover, .ref a_t_orders, .ref a_t_divider])), (a_t_top, .inr (7, [.ref a_t_top_graph, .ref a_t_top_bounds, .ref a_t_top_home, .ref a_t_top_sum, .ref a_t_top_link, .int t_top_cut, .int t_top_over])), (a_t_top_bounds, .inr (0, [.int t_top_bounds_k, .ref a_t_top_bounds_least, .ref a_t_top_bounds_most])), (a_t_top_graph, .inr (1, [.int t_top_graph_size, .ref a_t_top_graph_weight, .ref a_t_top_graph_arcs])), (a_t_top_home, .inl (cI, 40, .inl t_top_home))]
set_option maxRecDepth 100000 in
set_option maxHeartbeats 4000000 in
theorem c_Ba_put (l : Launch) (dC : Nat → ClassId) (dI : Nat → Nat → Nat) (cI cZ : ClassId) (a_t a_t_top a_t_top_bounds a_t_top_graph a_t_top_home a_t_low a_t_levels a_t_search a_t_mover a_t_orders a_t_divider a_t_top_sum a_t_top_link a_t_top_bounds_least a_t_top_bounds_most a_t_top_graph_weight a_t_top_graph_arcs sz : Nat) (x1 : Int32) (x2 : Int32) (t_top_cut : Int32) (t_top_over : Int32) (t_top_bounds_k : Int32) (t_top_graph_size : Int32) (t_top_home : Nat → Int32) (out : Int32 × (Nat → Int32)) (hf : f_Ba_put x1 x2 t_top_bounds_k t_top_graph_size t_top_home = some out) :
    Met l yy_Ba_put wq_Ba_put ({ frames := 1, cells := 0, slots := 0, locals := 21 }) (va_Pc ([.ref a_t, .int x1, .int x2] : List Value) (pre_ (dC, dI) cI cZ sz (wd_Ba_put cI cZ a_t a_t_top a_t_top_bounds a_t_top_graph a_t_top_home a_t_low a_t_levels a_t_search a_t_mover a_t_orders a_t_divider a_t_top_sum a_t_top_link a_t_top_bounds_least a_t_top_bounds_most a_t_top_graph_weight a_t_top_graph_arcs t_top_cut t_top_over t_top_bounds_k t_top_graph_size t_top_home))) (va_Qi (fun (r : Int32) (_ : Unit) => r = out.1) (fun _ => pst (dC, dI) (va_A (wd_Ba_put cI cZ a_t a_t_top a_t_top_bounds a_t_top_graph a_t_top_home a_t_low a_t_levels a_t_search a_t_mover a_t_orders a_t_divider a_t_top_sum a_t_top_link a_t_top_bounds_least a_t_top_bounds_most a_t_top_graph_weight a_t_top_graph_arcs t_top_cut t_top_over t_top_bounds_k t_top_graph_size t_top_home) sz) (wd_Ba_put cI cZ a_t a_t_top a_t_top_bounds a_t_top_graph a_t_top_home a_t_low a_t_levels a_t_search a_t_mover a_t_orders a_t_divider a_t_top_sum a_t_top_link a_t_top_bounds_least a_t_top_bounds_most a_t_top_graph_weight a_t_top_graph_arcs t_top_cut t_top_over t_top_bounds_k t_top_graph_size out.2)) (va_A (wd_Ba_put cI cZ a_t a_t_top a_t_top_bounds a_t_top_graph a_t_top_home a_t_low a_t_levels a_t_search a_t_mover a_t_orders a_t_divider a_t_top_sum a_t_top_link a_t_top_bounds_least a_t_top_bounds_most a_t_top_graph_weight a_t_top_graph_arcs t_top_cut t_top_over t_top_bounds_k t_top_graph_size t_top_home) sz)) 0 0 (va_A (wd_Ba_put cI cZ a_t a_t_top a_t_top_bounds a_t_top_graph a_t_top_home a_t_low a_t_levels a_t_search a_t_mover a_t_orders a_t_divider a_t_top_sum a_t_top_link a_t_top_bounds_least a_t_top_bounds_most a_t_top_graph_weight a_t_top_graph_arcs t_top_cut t_top_over t_top_bounds_k t_top_graph_size t_top_home) sz) := by
  refine Met.ofW (cc := cc_Ba_put) (maxL := 4) (ret := (some .int)) (by decide) rfl ?_
  intro p e s m args below meth c s₁ B hml hv
  obtain ⟨rfl, hsz, hP, hK, hD0, hN⟩ := hv
  have hx := B.exec
  have hb := B.bytes
  have hr := B.returns
  have hts := atoms_spec (ws := wq_Ba_put) B.pre
  have hown : s.vm.findClass rr_Ba = some m.cls := findClass_of_methodNamed B.named
  have hlocks := B.notSynchronized
  subst hsz
  have hD := hD0.self (sz := s.heap.size)
  generalize hAe : va_A (wd_Ba_put cI cZ a_t a_t_top a_t_top_bounds a_t_top_graph a_t_top_home a_t_low a_t_levels a_t_search a_t_mover a_t_orders a_t_divider a_t_top_sum a_t_top_link a_t_top_bounds_least a_t_top_bounds_most a_t_top_graph_weight a_t_top_graph_arcs t_top_cut t_top_over t_top_bounds_k t_top_graph_size t_top_home) s.heap.size = A at hD ⊢
  have hA : ∀ q : Nat, s.heap.size ≤ q → A q := fun q h => by rw [← hAe]; exact Or.inr h
  obtain ⟨H, hH⟩ : ∃ H : Heap, H = s.heap := ⟨_, rfl⟩
  have hS : va_S A s.heap H [] := by rw [hH]; exact va_S.rf
  have hl := lv_entry (([.ref a_t, .int x1, .int x2] : List Value)) (n := 4) (Nat.le_of_ble_eq_true rfl)
  rw [lg_entry_eq]
  generalize (lg_sl (([.ref a_t, .int x1, .int x2] : List Value)) ++ List.replicate (4 - (lg_sl (([.ref a_t, .int x1, .int x2] : List Value))).length) Slot.unset).toArray = ls at hl ⊢
  have hl : lv_has ls 4 [(0, .ref a_t), (1, .int x1), (2, .int x2)] := hl
  rw [← hH] at hP ⊢
  have hP : va_P (dC, dI) clsL (wd_Ba_put cI cZ a_t a_t_top a_t_top_bounds a_t_top_graph a_t_top_home a_t_low a_t_levels a_t_search a_t_mover a_t_orders a_t_divider a_t_top_sum a_t_top_link a_t_top_bounds_least a_t_top_bounds_most a_t_top_graph_weight a_t_top_graph_arcs t_top_cut t_top_over t_top_bounds_k t_top_graph_size t_top_home) H := hP
  unfold f_Ba_put at hf
  refine lv_aload_n hx hb dd_Ba_put_0 rfl (lv_at hl 0 rfl) ?_
  refine va_get (D := (dC, dI)) (ci := 8) (v := .ref a_t_top) (C := rr_Ba) (T := tt_Ba) (N := 7) hx hb hts (fun w h => gwc (inn_Ba w h)) hown hK hP 0 rfl rfl 0 (by decide) (hts _ (gwc gw_283)) (fun _ h9 => h9) rfl dd_Ba_put_1 ?_
  refine va_get (D := (dC, dI)) (ci := 7) (v := .ref a_t_top_graph) (C := rr_Sp) (T := tt_Sp) (N := 7) hx hb hts (fun w h => gwc (inn_Sp w h)) hown hK hP 1 rfl rfl 0 (by decide) (hts _ (gwc gw_135)) (fun _ h9 => h9) rfl dd_Ba_put_4 ?_
  refine lv_iload_n hx hb dd_Ba_put_7 rfl (lv_at hl 1 rfl) ?_
  obtain ⟨r8, hr8, hf⟩ := bind_some hf
  refine xcalli (rest := []) (wc := (wd_Gr_has cI cZ a_t_top_graph a_t_top_graph_weight a_t_top_graph_arcs t_top_graph_size)) (w1 := (wd_Gr_has cI cZ a_t_top_graph a_t_top_graph_weight a_t_top_graph_arcs t_top_graph_size)) (wr := [(a_t, .inr (8, [.ref a_t_top, .ref a_t_low, .ref a_t_levels, .ref a_t_search, .ref a_t_mover, .ref a_t_orders, .ref a_t_divider])), (a_t_top, .inr (7, [.ref a_t_top_graph, .ref a_t_top_bounds, .ref a_t_top_home, .ref a_t_top_sum, .ref a_t_top_link, .int t_top_cut, .int t_top_over])), (a_t_top_bounds, .inr (0, [.int t_top_bounds_k, .ref a_t_top_bounds_least, .ref a_t_top_bounds_most])), (a_t_top_home, .inl (cI, 40, .inl t_top_home))]) (ws' := (wd_Ba_put cI cZ a_t a_t_top a_t_top_bounds a_t_top_graph a_t_top_home a_t_low a_t_levels a_t_search a_t_mover a_t_orders a_t_divider a_t_top_sum a_t_top_link a_t_top_bounds_least a_t_top_bounds_most a_t_top_graph_weight a_t_top_graph_arcs t_top_cut t_top_over t_top_bounds_k t_top_graph_size t_top_home)) (va_runV (As := [.int x1]) ⟨hx, hb, hml, hown, hts⟩ (c_Gr_has l dC dI cI cZ a_t_top_graph a_t_top_graph_weight a_t_top_graph_arcs H.size x1 t_top_graph_size r8 hr8) (cwV 1 hts (gV gw_313 gw_314 gw_315 gw_54 gw_316) rfl rfl rfl (yd_Gr_has) ⟨Nat.le_of_ble_eq_true rfl, Nat.le_of_ble_eq_true rfl⟩) (mkV hK (hP.sub (ws' := (wd_Gr_has cI cZ a_t_top_graph a_t_top_graph_weight a_t_top_graph_arcs t_top_graph_size)) [3] rfl) (hD.sub (ws' := (wd_Gr_has cI cZ a_t_top_graph a_t_top_graph_weight a_t_top_graph_arcs t_top_graph_size)) [3] (by decide) rfl) hN (va_recv hK hP (ci := 1) (q0 := 3) rfl rfl)) rfl rfl hl.1 rfl (lv_room (Nat.le_of_ble_eq_true rfl)) dd_Ba_put_8 ⟨Nat.zero_le _, Nat.zero_le _⟩) hP hD hS hA [3] [0, 1, 2, 4] [0, 1, 2, 4, 3] rfl rfl (by decide) (by decide) rfl (by decide) rfl (fun H locs hP hD hS => ?_)
  refine lv_if_eq (tgt := 28) hx hb dd_Ba_put_11 (by decide) (fun cc => ?_) (fun cc => ?_)
  · skip
    have hf := if_t cc hf
    refine lv_iconst (v := -1) hx hb dd_Ba_put_28 (by decide) ?_
    have hf := Option.some.inj hf
    subst hf
    exact W.iret hx hb hr (fun t ht hW => ⟨⟨_, (), rfl, rfl, pst_of ht hP hD⟩, hS.F ht⟩) hS.2.2 dd_Ba_put_29
  · skip
    have hf := if_f cc hf
    refine lv_aload_n hx hb dd_Ba_put_14 rfl (lv_at hl 0 rfl) ?_
    refine va_get (D := (dC, dI)) (ci := 8) (v := .ref a_t_top) (C := rr_Ba) (T := tt_Ba) (N := 7) hx hb hts (fun w h => gwc (inn_Ba w h)) hown hK hP 0 rfl rfl 0 (by decide) (hts _ (gwc gw_283)) (fun _ h9 => h9) rfl dd_Ba_put_15 ?_
    refine va_get (D := (dC, dI)) (ci := 7) (v := .ref a_t_top_bounds) (C := rr_Sp) (T := tt_Sp) (N := 7) hx hb hts (fun w h => gwc (inn_Sp w h)) hown hK hP 1 rfl rfl 1 (by decide) (hts _ (gwc gw_140)) (fun _ h9 => h9) rfl dd_Ba_put_18 ?_
    refine lv_iload_n hx hb dd_Ba_put_21 rfl (lv_at hl 2 rfl) ?_
    obtain ⟨r22, hr22, hf⟩ := bind_some hf
    refine xcalli (rest := []) (wc := (wd_Bo_has cI cZ a_t_top_bounds a_t_top_bounds_least a_t_top_bounds_most t_top_bounds_k)) (w1 := (wd_Bo_has cI cZ a_t_top_bounds a_t_top_bounds_least a_t_top_bounds_most t_top_bounds_k)) (wr := [(a_t, .inr (8, [.ref a_t_top, .ref a_t_low, .ref a_t_levels, .ref a_t_search, .ref a_t_mover, .ref a_t_orders, .ref a_t_divider])), (a_t_top, .inr (7, [.ref a_t_top_graph, .ref a_t_top_bounds, .ref a_t_top_home, .ref a_t_top_sum, .ref a_t_top_link, .int t_top_cut, .int t_top_over])), (a_t_top_graph, .inr (1, [.int t_top_graph_size, .ref a_t_top_graph_weight, .ref a_t_top_graph_arcs])), (a_t_top_home, .inl (cI, 40, .inl t_top_home))]) (ws' := (wd_Ba_put cI cZ a_t a_t_top a_t_top_bounds a_t_top_graph a_t_top_home a_t_low a_t_levels a_t_search a_t_mover a_t_orders a_t_divider a_t_top_sum a_t_top_link a_t_top_bounds_least a_t_top_bounds_most a_t_top_graph_weight a_t_top_graph_arcs t_top_cut t_top_over t_top_bounds_k t_top_graph_size t_top_home)) (va_runV (As := [.int x2]) ⟨hx, hb, hml, hown, hts⟩ (c_Bo_has l dC dI cI cZ a_t_top_bounds a_t_top_bounds_least a_t_top_bounds_most H.size x2 t_top_bounds_k r22 hr22) (cwV 1 hts (gV gw_346 gw_347 gw_348 gw_55 gw_349) rfl rfl rfl (yd_Bo_has) ⟨Nat.le_of_ble_eq_true rfl, Nat.le_of_ble_eq_true rfl⟩) (mkV hK (hP.sub (ws' := (wd_Bo_has cI cZ a_t_top_bounds a_t_top_bounds_least a_t_top_bounds_most t_top_bounds_k)) [2] rfl) (hD.sub (ws' := (wd_Bo_has cI cZ a_t_top_bounds a_t_top_bounds_least a_t_top_bounds_most t_top_bounds_k)) [2] (by decide) rfl) hN (va_recv hK hP (ci := 0) (q0 := 2) rfl rfl)) rfl rfl hl.1 rfl (lv_room (Nat.le_of_ble_eq_true rfl)) dd_Ba_put_22 ⟨Nat.zero_le _, Nat.zero_le _⟩) hP hD hS hA [2] [0, 1, 3, 4] [0, 1, 4, 2, 3] rfl rfl (by decide) (by decide) rfl (by decide) rfl (fun H locs hP hD hS => ?_)
    refine lv_if_ne (tgt := 30) hx hb dd_Ba_put_25 (by decide) (fun cc => ?_) (fun cc => ?_)
    · skip
      have hf := if_f cc hf
      refine lv_aload_n hx hb dd_Ba_put_30 rfl (lv_at hl 0 rfl) ?_
      refine va_get (D := (dC, dI)) (ci := 8) (v := .ref a_t_top) (C := rr_Ba) (T := tt_Ba) (N := 7) hx hb hts (fun w h => gwc (inn_Ba w h)) hown hK hP 0 rfl rfl 0 (by decide) (hts _ (gwc gw_283)) (fun _ h9 => h9) rfl dd_Ba_put_31 ?_
      refine va_get (D := (dC, dI)) (ci := 7) (v := .ref a_t_top_home) (C := rr_Sp) (T := tt_Sp) (N := 7) hx hb hts (fun w h => gwc (inn_Sp w h)) hown hK hP 1 rfl rfl 2 (by decide) (hts _ (gwc gw_144)) (fun _ h9 => h9) rfl dd_Ba_put_34 ?_
      refine lv_iload_n hx hb dd_Ba_put_37 rfl (lv_at hl 1 rfl) ?_
      obtain ⟨k38, hf⟩ := ck_some hf
      refine va_iald hx hb hK hP 4 0 rfl rfl (okb_in k38) dd_Ba_put_38 ?_
      refine lv_istore_n (lv' := [(3, .int (t_top_home (x1).toNatClampNeg)), (0, .ref a_t), (1, .int x1), (2, .int x2)]) hx hb dd_Ba_put_39 rfl hl (by decide) rfl (fun ls hl => ?_)
      refine lv_aload_n hx hb dd_Ba_put_40 rfl (lv_at hl 1 rfl) ?_
      refine va_get (D := (dC, dI)) (ci := 8) (v := .ref a_t_top) (C := rr_Ba) (T := tt_Ba) (N := 7) hx hb hts (fun w h => gwc (inn_Ba w h)) hown hK hP 0 rfl rfl 0 (by decide) (hts _ (gwc gw_283)) (fun _ h9 => h9) rfl dd_Ba_put_41 ?_
      refine va_get (D := (dC, dI)) (ci := 7) (v := .ref a_t_top_home) (C := rr_Sp) (T := tt_Sp) (N := 7) hx hb hts (fun w h => gwc (inn_Sp w h)) hown hK hP 1 rfl rfl 2 (by decide) (hts _ (gwc gw_144)) (fun _ h9 => h9) rfl dd_Ba_put_44 ?_
      refine lv_iload_n hx hb dd_Ba_put_47 rfl (lv_at hl 2 rfl) ?_
      refine lv_iload_n hx hb dd_Ba_put_48 rfl (lv_at hl 3 rfl) ?_
      obtain ⟨k49, hf⟩ := ck_some hf
      refine va_iast hx hb hK hP hD hS 4 0 rfl rfl (okb_in k49) dd_Ba_put_49 (fun H locs hP hD hS => ?_)
      have hP : va_P (dC, dI) clsL (wd_Ba_put cI cZ a_t a_t_top a_t_top_bounds a_t_top_graph a_t_top_home a_t_low a_t_levels a_t_search a_t_mover a_t_orders a_t_divider a_t_top_sum a_t_top_link a_t_top_bounds_least a_t_top_bounds_most a_t_top_graph_weight a_t_top_graph_arcs t_top_cut t_top_over t_top_bounds_k t_top_graph_size (upd t_top_home (x1).toNatClampNeg x2)) H := hP
      have hD : va_D A (wd_Ba_put cI cZ a_t a_t_top a_t_top_bounds a_t_top_graph a_t_top_home a_t_low a_t_levels a_t_search a_t_mover a_t_orders a_t_divider a_t_top_sum a_t_top_link a_t_top_bounds_least a_t_top_bounds_most a_t_top_graph_weight a_t_top_graph_arcs t_top_cut t_top_over t_top_bounds_k t_top_graph_size (upd t_top_home (x1).toNatClampNeg x2)) := hD
      refine lv_iload_n hx hb dd_Ba_put_50 rfl (lv_at hl 0 rfl) ?_
      have hf := Option.some.inj hf
      subst hf
      exact W.iret hx hb hr (fun t ht hW => ⟨⟨_, (), rfl, rfl, pst_of ht hP hD⟩, hS.F ht⟩) hS.2.2 dd_Ba_put_51
    · skip
      have hf := if_t cc hf
      refine lv_iconst (v := -1) hx hb dd_Ba_put_28 (by decide) ?_
      have hf := Option.some.inj hf
      subst hf
      exact W.iret hx hb hr (fun t ht hW => ⟨⟨_, (), rfl, rfl, pst_of ht hP hD⟩, hS.F ht⟩) hS.2.2 dd_Ba_put_29
abbrev wd_Ba_clear (cI cZ : ClassId) (a_t a_t_levels a_t_top a_t_top_bounds a_t_top_bounds_least a_t_top_bounds_most a_t_top_graph a_t_top_graph_arcs a_t_top_graph_weight a_t_top_home a_t_low a_t_search a_t_mover a_t_orders a_t_divider a_t_levels_size a_t_levels_holders a_t_levels_mate a_t_levels_number a_t_top_sum a_t_top_link : Nat) (t_levels_fresh : Int32) (t_levels_count : Int32) (t_top_cut : Int32) (t_top_over : Int32) (t_top_bounds_k : Int32) (t_top_bounds_least : Nat → Int32) (t_top_bounds_most : Nat → Int32) (t_top_graph_size : Int32) (t_top_graph_arcs : Nat → Int32) (t_top_graph_weight : Nat → Int32) (t_top_home : Nat → Int32) : va_W := [(a_t, .inr (8, [.ref a_t_top, .ref a_t_low, .ref a_t_levels, .ref a_t_search, .ref a_t_mover, .ref a_t_orders, .ref a_t_divider])), (a_t_levels, .inr (2, [.int t_levels_fresh, .int t_levels_count, .ref a_t_levels_size, .ref a_t_levels_holders, .ref a_t_levels_mate, .ref a_t_levels_number])), (a_t_top, .inr (7, [.ref a_t_top_graph, .ref a_t_top_bounds, .ref a_t_top_home, .ref a_t_top_sum, .ref a_t_top_link, .int t_top_cut, .int t_top_over])), (a_t_top_bounds, .inr (0, [.int t_top_bounds_k, .ref a_t_top_bounds_least, .ref a_t_top_bounds_most])), (a_t_top_bounds_least, .inl (cI, 4, .inl t_top_bounds_least)), (a_t_top_bounds_most, .inl (cI, 4, .inl t_top_bounds_most)), (a_t_top_graph, .inr (1, [.int t_top_graph_size, .ref a_t_top_graph_weight, .ref a_t_top_graph_arcs])), (a_t_top_graph_arcs, .inl (cI, 1600, .inl t_top_graph_arcs)), (a_t_top_graph_weight, .inl (cI, 40, .inl t_top_graph_weight)), (a_t_top_home, .inl (cI, 40, .inl t_top_home))]
set_option maxRecDepth 100000 in
set_option maxHeartbeats 4000000 in
theorem c_Ba_clear (l : Launch) (dC : Nat → ClassId) (dI : Nat → Nat → Nat) (cI cZ : ClassId) (a_t a_t_levels a_t_top a_t_top_bounds a_t_top_bounds_least a_t_top_bounds_most a_t_top_graph a_t_top_graph_arcs a_t_top_graph_weight a_t_top_home a_t_low a_t_search a_t_mover a_t_orders a_t_divider a_t_levels_size a_t_levels_holders a_t_levels_mate a_t_levels_number a_t_top_sum a_t_top_link sz : Nat) (t_levels_fresh : Int32) (t_levels_count : Int32) (t_top_cut : Int32) (t_top_over : Int32) (t_top_bounds_k : Int32) (t_top_bounds_least : Nat → Int32) (t_top_bounds_most : Nat → Int32) (t_top_graph_size : Int32) (t_top_graph_arcs : Nat → Int32) (t_top_graph_weight : Nat → Int32) (t_top_home : Nat → Int32) (out : Int32 × Int32 × Int32 × (Nat → Int32) × (Nat → Int32) × Int32 × (Nat → Int32) × (Nat → Int32) × (Nat → Int32)) (hf : f_Ba_clear t_top_graph_size = some out) :
    Met l yy_Ba_clear wq_Ba_clear ({ frames := 3, cells := 0, slots := 0, locals := 65 }) (va_Pc ([.ref a_t] : List Value) (pre_ (dC, dI) cI cZ sz (wd_Ba_clear cI cZ a_t a_t_levels a_t_top a_t_top_bounds a_t_top_bounds_least a_t_top_bounds_most a_t_top_graph a_t_top_graph_arcs a_t_top_graph_weight a_t_top_home a_t_low a_t_search a_t_mover a_t_orders a_t_divider a_t_levels_size a_t_levels_holders a_t_levels_mate a_t_levels_number a_t_top_sum a_t_top_link t_levels_fresh t_levels_count t_top_cut t_top_over t_top_bounds_k t_top_bounds_least t_top_bounds_most t_top_graph_size t_top_graph_arcs t_top_graph_weight t_top_home))) (va_Qi (fun (r : Int32) (_ : Unit) => r = out.1) (fun _ => pst (dC, dI) (va_A (wd_Ba_clear cI cZ a_t a_t_levels a_t_top a_t_top_bounds a_t_top_bounds_least a_t_top_bounds_most a_t_top_graph a_t_top_graph_arcs a_t_top_graph_weight a_t_top_home a_t_low a_t_search a_t_mover a_t_orders a_t_divider a_t_levels_size a_t_levels_holders a_t_levels_mate a_t_levels_number a_t_top_sum a_t_top_link t_levels_fresh t_levels_count t_top_cut t_top_over t_top_bounds_k t_top_bounds_least t_top_bounds_most t_top_graph_size t_top_graph_arcs t_top_graph_weight t_top_home) sz) (wd_Ba_clear cI cZ a_t a_t_levels a_t_top a_t_top_bounds a_t_top_bounds_least a_t_top_bounds_most a_t_top_graph a_t_top_graph_arcs a_t_top_graph_weight a_t_top_home a_t_low a_t_search a_t_mover a_t_orders a_t_divider a_t_levels_size a_t_levels_holders a_t_levels_mate a_t_levels_number a_t_top_sum a_t_top_link out.2.1 t_levels_count t_top_cut t_top_over out.2.2.1 out.2.2.2.1 out.2.2.2.2.1 out.2.2.2.2.2.1 out.2.2.2.2.2.2.1 out.2.2.2.2.2.2.2.1 out.2.2.2.2.2.2.2.2)) (va_A (wd_Ba_clear cI cZ a_t a_t_levels a_t_top a_t_top_bounds a_t_top_bounds_least a_t_top_bounds_most a_t_top_graph a_t_top_graph_arcs a_t_top_graph_weight a_t_top_home a_t_low a_t_search a_t_mover a_t_orders a_t_divider a_t_levels_size a_t_levels_holders a_t_levels_mate a_t_levels_number a_t_top_sum a_t_top_link t_levels_fresh t_levels_count t_top_cut t_top_over t_top_bounds_k t_top_bounds_least t_top_bounds_most t_top_graph_size t_top_graph_arcs t_top_graph_weight t_top_home) sz)) 0 0 (va_A (wd_Ba_clear cI cZ a_t a_t_levels a_t_top a_t_top_bounds a_t_top_bounds_least a_t_top_bounds_most a_t_top_graph a_t_top_graph_arcs a_t_top_graph_weight a_t_top_home a_t_low a_t_search a_t_mover a_t_orders a_t_divider a_t_levels_size a_t_levels_holders a_t_levels_mate a_t_levels_number a_t_top_sum a_t_top_link t_levels_fresh t_levels_count t_top_cut t_top_over t_top_bounds_k t_top_bounds_least t_top_bounds_most t_top_graph_size t_top_graph_arcs t_top_graph_weight t_top_home) sz) := by
  refine Met.ofW (cc := cc_Ba_clear) (maxL := 2) (ret := (some .int)) (by decide) rfl ?_
  intro p e s m args below meth c s₁ B hml hv
  obtain ⟨rfl, hsz, hP, hK, hD0, hN⟩ := hv
  have hx := B.exec
  have hb := B.bytes
  have hr := B.returns
  have hts := atoms_spec (ws := wq_Ba_clear) B.pre
  have hown : s.vm.findClass rr_Ba = some m.cls := findClass_of_methodNamed B.named
  have hlocks := B.notSynchronized
  subst hsz
  have hD := hD0.self (sz := s.heap.size)
  generalize hAe : va_A (wd_Ba_clear cI cZ a_t a_t_levels a_t_top a_t_top_bounds a_t_top_bounds_least a_t_top_bounds_most a_t_top_graph a_t_top_graph_arcs a_t_top_graph_weight a_t_top_home a_t_low a_t_search a_t_mover a_t_orders a_t_divider a_t_levels_size a_t_levels_holders a_t_levels_mate a_t_levels_number a_t_top_sum a_t_top_link t_levels_fresh t_levels_count t_top_cut t_top_over t_top_bounds_k t_top_bounds_least t_top_bounds_most t_top_graph_size t_top_graph_arcs t_top_graph_weight t_top_home) s.heap.size = A at hD ⊢
  have hA : ∀ q : Nat, s.heap.size ≤ q → A q := fun q h => by rw [← hAe]; exact Or.inr h
  obtain ⟨H, hH⟩ : ∃ H : Heap, H = s.heap := ⟨_, rfl⟩
  have hS : va_S A s.heap H [] := by rw [hH]; exact va_S.rf
  have hl := lv_entry (([.ref a_t] : List Value)) (n := 2) (Nat.le_of_ble_eq_true rfl)
  rw [lg_entry_eq]
  generalize (lg_sl (([.ref a_t] : List Value)) ++ List.replicate (2 - (lg_sl (([.ref a_t] : List Value))).length) Slot.unset).toArray = ls at hl ⊢
  have hl : lv_has ls 2 [(0, .ref a_t)] := hl
  rw [← hH] at hP ⊢
  have hP : va_P (dC, dI) clsL (wd_Ba_clear cI cZ a_t a_t_levels a_t_top a_t_top_bounds a_t_top_bounds_least a_t_top_bounds_most a_t_top_graph a_t_top_graph_arcs a_t_top_graph_weight a_t_top_home a_t_low a_t_search a_t_mover a_t_orders a_t_divider a_t_levels_size a_t_levels_holders a_t_levels_mate a_t_levels_number a_t_top_sum a_t_top_link t_levels_fresh t_levels_count t_top_cut t_top_over t_top_bounds_k t_top_bounds_least t_top_bounds_most t_top_graph_size t_top_graph_arcs t_top_graph_weight t_top_home) H := hP
  unfold f_Ba_clear at hf
  refine lv_aload_n hx hb dd_Ba_clear_0 rfl (lv_at hl 0 rfl) ?_
  refine va_get (D := (dC, dI)) (ci := 8) (v := .ref a_t_top) (C := rr_Ba) (T := tt_Ba) (N := 7) hx hb hts (fun w h => gwc (inn_Ba w h)) hown hK hP 0 rfl rfl 0 (by decide) (hts _ (gwc gw_283)) (fun _ h9 => h9) rfl dd_Ba_clear_1 ?_
  refine va_get (D := (dC, dI)) (ci := 7) (v := .ref a_t_top_graph) (C := rr_Sp) (T := tt_Sp) (N := 7) hx hb hts (fun w h => gwc (inn_Sp w h)) hown hK hP 2 rfl rfl 0 (by decide) (hts _ (gwc gw_135)) (fun _ h9 => h9) rfl dd_Ba_clear_4 ?_
  refine va_get (D := (dC, dI)) (ci := 1) (v := .int t_top_graph_size) (C := rr_Gr) (T := tt_Gr) (N := 3) hx hb hts (fun w h => gwc (inn_Gr w h)) hown hK hP 6 rfl rfl 0 (by decide) (hts _ (gwc gw_87)) (fun _ h9 => h9) rfl dd_Ba_clear_7 ?_
  refine lv_istore_n (lv' := [(1, .int t_top_graph_size), (0, .ref a_t)]) hx hb dd_Ba_clear_10 rfl hl (by decide) rfl (fun ls hl => ?_)
  refine lv_aload_n hx hb dd_Ba_clear_11 rfl (lv_at hl 1 rfl) ?_
  refine va_get (D := (dC, dI)) (ci := 8) (v := .ref a_t_top) (C := rr_Ba) (T := tt_Ba) (N := 7) hx hb hts (fun w h => gwc (inn_Ba w h)) hown hK hP 0 rfl rfl 0 (by decide) (hts _ (gwc gw_283)) (fun _ h9 => h9) rfl dd_Ba_clear_12 ?_
  refine va_get (D := (dC, dI)) (ci := 7) (v := .ref a_t_top_graph) (C := rr_Sp) (T := tt_Sp) (N := 7) hx hb hts (fun w h => gwc (inn_Sp w h)) hown hK hP 2 rfl rfl 0 (by decide) (hts _ (gwc gw_135)) (fun _ h9 => h9) rfl dd_Ba_clear_15 ?_
  refine lv_iconst (v := 0) hx hb dd_Ba_clear_18 (by decide) ?_
  obtain ⟨r19, hr19, hf⟩ := bind_some hf
  refine xcallv (rest := []) (wc := (wd_Gr_empty cI cZ a_t_top_graph a_t_top_graph_arcs a_t_top_graph_weight t_top_graph_size t_top_graph_arcs t_top_graph_weight)) (w1 := (wd_Gr_empty cI cZ a_t_top_graph a_t_top_graph_arcs a_t_top_graph_weight r19.1 r19.2.1 r19.2.2)) (wr := [(a_t, .inr (8, [.ref a_t_top, .ref a_t_low, .ref a_t_levels, .ref a_t_search, .ref a_t_mover, .ref a_t_orders, .ref a_t_divider])), (a_t_levels, .inr (2, [.int t_levels_fresh, .int t_levels_count, .ref a_t_levels_size, .ref a_t_levels_holders, .ref a_t_levels_mate, .ref a_t_levels_number])), (a_t_top, .inr (7, [.ref a_t_top_graph, .ref a_t_top_bounds, .ref a_t_top_home, .ref a_t_top_sum, .ref a_t_top_link, .int t_top_cut, .int t_top_over])), (a_t_top_bounds, .inr (0, [.int t_top_bounds_k, .ref a_t_top_bounds_least, .ref a_t_top_bounds_most])), (a_t_top_bounds_least, .inl (cI, 4, .inl t_top_bounds_least)), (a_t_top_bounds_most, .inl (cI, 4, .inl t_top_bounds_most)), (a_t_top_home, .inl (cI, 40, .inl t_top_home))]) (ws' := (wd_Ba_clear cI cZ a_t a_t_levels a_t_top a_t_top_bounds a_t_top_bounds_least a_t_top_bounds_most a_t_top_graph a_t_top_graph_arcs a_t_top_graph_weight a_t_top_home a_t_low a_t_search a_t_mover a_t_orders a_t_divider a_t_levels_size a_t_levels_holders a_t_levels_mate a_t_levels_number a_t_top_sum a_t_top_link t_levels_fresh t_levels_count t_top_cut t_top_over t_top_bounds_k t_top_bounds_least t_top_bounds_most r19.1 r19.2.1 r19.2.2 t_top_home)) (va_runV (As := [.int 0]) ⟨hx, hb, hml, hown, hts⟩ (c_Gr_empty l dC dI cI cZ a_t_top_graph a_t_top_graph_arcs a_t_top_graph_weight H.size 0 t_top_graph_size t_top_graph_arcs t_top_graph_weight r19 hr19) (cwV 1 hts (gV gw_358 gw_359 gw_360 gw_54 gw_361) rfl rfl rfl (yd_Gr_empty) ⟨Nat.le_of_ble_eq_true rfl, Nat.le_of_ble_eq_true rfl⟩) (mkV hK (hP.sub (ws' := (wd_Gr_empty cI cZ a_t_top_graph a_t_top_graph_arcs a_t_top_graph_weight t_top_graph_size t_top_graph_arcs t_top_graph_weight)) [6, 7, 8] rfl) (hD.sub (ws' := (wd_Gr_empty cI cZ a_t_top_graph a_t_top_graph_arcs a_t_top_graph_weight t_top_graph_size t_top_graph_arcs t_top_graph_weight)) [6, 7, 8] (by decide) rfl) hN (va_recv hK hP (ci := 1) (q0 := 6) rfl rfl)) rfl rfl hl.1 rfl (lv_room (Nat.le_of_ble_eq_true rfl)) dd_Ba_clear_19 ⟨Nat.zero_le _, Nat.zero_le _⟩) hP hD hS hA [6, 7, 8] [0, 1, 2, 3, 4, 5, 9] [0, 1, 2, 3, 4, 5, 7, 8, 9, 6] rfl rfl (by decide) (by decide) rfl (by decide) rfl (fun H locs hP hD hS => ?_)
  refine lv_aload_n hx hb dd_Ba_clear_22 rfl (lv_at hl 1 rfl) ?_
  refine lv_iconst (v := 2) hx hb dd_Ba_clear_23 (by decide) ?_
  obtain ⟨r24, hr24, hf⟩ := bind_some hf
  refine xcallv (rest := []) (wc := (wd_Ba_startParts cI cZ a_t a_t_levels a_t_top a_t_top_bounds a_t_top_bounds_least a_t_top_bounds_most a_t_top_home a_t_low a_t_search a_t_mover a_t_orders a_t_divider a_t_levels_size a_t_levels_holders a_t_levels_mate a_t_levels_number a_t_top_graph a_t_top_sum a_t_top_link t_levels_fresh t_levels_count t_top_cut t_top_over t_top_bounds_k t_top_bounds_least t_top_bounds_most t_top_home)) (w1 := (wd_Ba_startParts cI cZ a_t a_t_levels a_t_top a_t_top_bounds a_t_top_bounds_least a_t_top_bounds_most a_t_top_home a_t_low a_t_search a_t_mover a_t_orders a_t_divider a_t_levels_size a_t_levels_holders a_t_levels_mate a_t_levels_number a_t_top_graph a_t_top_sum a_t_top_link r24.1 t_levels_count t_top_cut t_top_over r24.2.1 r24.2.2.1 r24.2.2.2.1 r24.2.2.2.2)) (wr := [(a_t_top_graph, .inr (1, [.int r19.1, .ref a_t_top_graph_weight, .ref a_t_top_graph_arcs])), (a_t_top_graph_arcs, .inl (cI, 1600, .inl r19.2.1)), (a_t_top_graph_weight, .inl (cI, 40, .inl r19.2.2))]) (ws' := (wd_Ba_clear cI cZ a_t a_t_levels a_t_top a_t_top_bounds a_t_top_bounds_least a_t_top_bounds_most a_t_top_graph a_t_top_graph_arcs a_t_top_graph_weight a_t_top_home a_t_low a_t_search a_t_mover a_t_orders a_t_divider a_t_levels_size a_t_levels_holders a_t_levels_mate a_t_levels_number a_t_top_sum a_t_top_link r24.1 t_levels_count t_top_cut t_top_over r24.2.1 r24.2.2.1 r24.2.2.2.1 r19.1 r19.2.1 r19.2.2 r24.2.2.2.2)) (va_runV (As := [.int 2]) ⟨hx, hb, hml, hown, hts⟩ (c_Ba_startParts l dC dI cI cZ a_t a_t_levels a_t_top a_t_top_bounds a_t_top_bounds_least a_t_top_bounds_most a_t_top_home a_t_low a_t_search a_t_mover a_t_orders a_t_divider a_t_levels_size a_t_levels_holders a_t_levels_mate a_t_levels_number a_t_top_graph a_t_top_sum a_t_top_link H.size 2 t_levels_fresh t_levels_count t_top_cut t_top_over t_top_bounds_k t_top_bounds_least t_top_bounds_most t_top_home r24 hr24) (cwV 1 hts (gV gw_330 gw_332 gw_0 gw_52 gw_333) rfl rfl rfl (yd_Ba_startParts) ⟨Nat.le_of_ble_eq_true rfl, Nat.le_of_ble_eq_true rfl⟩) (mkV hK (hP.sub (ws' := (wd_Ba_startParts cI cZ a_t a_t_levels a_t_top a_t_top_bounds a_t_top_bounds_least a_t_top_bounds_most a_t_top_home a_t_low a_t_search a_t_mover a_t_orders a_t_divider a_t_levels_size a_t_levels_holders a_t_levels_mate a_t_levels_number a_t_top_graph a_t_top_sum a_t_top_link t_levels_fresh t_levels_count t_top_cut t_top_over t_top_bounds_k t_top_bounds_least t_top_bounds_most t_top_home)) [0, 1, 2, 3, 4, 5, 9] rfl) (hD.sub (ws' := (wd_Ba_startParts cI cZ a_t a_t_levels a_t_top a_t_top_bounds a_t_top_bounds_least a_t_top_bounds_most a_t_top_home a_t_low a_t_search a_t_mover a_t_orders a_t_divider a_t_levels_size a_t_levels_holders a_t_levels_mate a_t_levels_number a_t_top_graph a_t_top_sum a_t_top_link t_levels_fresh t_levels_count t_top_cut t_top_over t_top_bounds_k t_top_bounds_least t_top_bounds_most t_top_home)) [0, 1, 2, 3, 4, 5, 9] (by decide) rfl) hN (va_recv hK hP (ci := 8) (q0 := 0) rfl rfl)) rfl rfl hl.1 rfl (lv_room (Nat.le_of_ble_eq_true rfl)) dd_Ba_clear_24 ⟨Nat.zero_le _, Nat.zero_le _⟩) hP hD hS hA [0, 1, 2, 3, 4, 5, 9] [6, 7, 8] [3, 4, 5, 6, 7, 8, 0, 1, 2, 9] rfl rfl (by decide) (by decide) rfl (by decide) rfl (fun H locs hP hD hS => ?_)
  refine lv_iload_n hx hb dd_Ba_clear_27 rfl (lv_at hl 0 rfl) ?_
  have hf := Option.some.inj hf
  subst hf
  exact W.iret hx hb hr (fun t ht hW => ⟨⟨_, (), rfl, rfl, pst_of ht hP hD⟩, hS.F ht⟩) hS.2.2 dd_Ba_clear_28
abbrev wd_Ba_of (cI cZ : ClassId) (a_t a_t_top a_t_top_bounds a_t_top_bounds_least a_t_top_bounds_most a_t_top_graph a_t_top_graph_arcs a_t_top_graph_weight a_t_top_home a_t_top_link a_t_top_sum a_t_low a_t_levels a_t_search a_t_mover a_t_orders a_t_divider : Nat) (t_top_cut : Int32) (t_top_over : Int32) (t_top_bounds_k : Int32) (t_top_bounds_least : Nat → Int32) (t_top_bounds_most : Nat → Int32) (t_top_graph_size : Int32) (t_top_graph_arcs : Nat → Int32) (t_top_graph_weight : Nat → Int32) (t_top_home : Nat → Int32) (t_top_link : Nat → Int32) (t_top_sum : Nat → Int32) : va_W := [(a_t, .inr (8, [.ref a_t_top, .ref a_t_low, .ref a_t_levels, .ref a_t_search, .ref a_t_mover, .ref a_t_orders, .ref a_t_divider])), (a_t_top, .inr (7, [.ref a_t_top_graph, .ref a_t_top_bounds, .ref a_t_top_home, .ref a_t_top_sum, .ref a_t_top_link, .int t_top_cut, .int t_top_over])), (a_t_top_bounds, .inr (0, [.int t_top_bounds_k, .ref a_t_top_bounds_least, .ref a_t_top_bounds_most])), (a_t_top_bounds_least, .inl (cI, 4, .inl t_top_bounds_least)), (a_t_top_bounds_most, .inl (cI, 4, .inl t_top_bounds_most)), (a_t_top_graph, .inr (1, [.int t_top_graph_size, .ref a_t_top_graph_weight, .ref a_t_top_graph_arcs])), (a_t_top_graph_arcs, .inl (cI, 1600, .inl t_top_graph_arcs)), (a_t_top_graph_weight, .inl (cI, 40, .inl t_top_graph_weight)), (a_t_top_home, .inl (cI, 40, .inl t_top_home)), (a_t_top_link, .inl (cI, 160, .inl t_top_link)), (a_t_top_sum, .inl (cI, 4, .inl t_top_sum))]
set_option maxRecDepth 100000 in
set_option maxHeartbeats 4000000 in
theorem c_Ba_of (l : Launch) (dC : Nat → ClassId) (dI : Nat → Nat → Nat) (cI cZ : ClassId) (a_t a_t_top a_t_top_bounds a_t_top_bounds_least a_t_top_bounds_most a_t_top_graph a_t_top_graph_arcs a_t_top_graph_weight a_t_top_home a_t_top_link a_t_top_sum a_t_low a_t_levels a_t_search a_t_mover a_t_orders a_t_divider sz : Nat) (x1 : Int32) (x2 : Int32) (t_top_cut : Int32) (t_top_over : Int32) (t_top_bounds_k : Int32) (t_top_bounds_least : Nat → Int32) (t_top_bounds_most : Nat → Int32) (t_top_graph_size : Int32) (t_top_graph_arcs : Nat → Int32) (t_top_graph_weight : Nat → Int32) (t_top_home : Nat → Int32) (t_top_link : Nat → Int32) (t_top_sum : Nat → Int32) (out : Int32 × Int32 × Int32 × (Nat → Int32) × (Nat → Int32)) (hf : f_Ba_of x1 x2 t_top_cut t_top_over t_top_bounds_k t_top_bounds_least t_top_bounds_most t_top_graph_size t_top_graph_arcs t_top_graph_weight t_top_home t_top_link t_top_sum = some out) :
    Met l yy_Ba_of wq_Ba_of ({ frames := 3, cells := 0, slots := 0, locals := 66 }) (va_Pc ([.ref a_t, .int x1, .int x2] : List Value) (pre_ (dC, dI) cI cZ sz (wd_Ba_of cI cZ a_t a_t_top a_t_top_bounds a_t_top_bounds_least a_t_top_bounds_most a_t_top_graph a_t_top_graph_arcs a_t_top_graph_weight a_t_top_home a_t_top_link a_t_top_sum a_t_low a_t_levels a_t_search a_t_mover a_t_orders a_t_divider t_top_cut t_top_over t_top_bounds_k t_top_bounds_least t_top_bounds_most t_top_graph_size t_top_graph_arcs t_top_graph_weight t_top_home t_top_link t_top_sum))) (va_Qi (fun (r : Int32) (_ : Unit) => r = out.1) (fun _ => pst (dC, dI) (va_A (wd_Ba_of cI cZ a_t a_t_top a_t_top_bounds a_t_top_bounds_least a_t_top_bounds_most a_t_top_graph a_t_top_graph_arcs a_t_top_graph_weight a_t_top_home a_t_top_link a_t_top_sum a_t_low a_t_levels a_t_search a_t_mover a_t_orders a_t_divider t_top_cut t_top_over t_top_bounds_k t_top_bounds_least t_top_bounds_most t_top_graph_size t_top_graph_arcs t_top_graph_weight t_top_home t_top_link t_top_sum) sz) (wd_Ba_of cI cZ a_t a_t_top a_t_top_bounds a_t_top_bounds_least a_t_top_bounds_most a_t_top_graph a_t_top_graph_arcs a_t_top_graph_weight a_t_top_home a_t_top_link a_t_top_sum a_t_low a_t_levels a_t_search a_t_mover a_t_orders a_t_divider out.2.1 out.2.2.1 t_top_bounds_k t_top_bounds_least t_top_bounds_most t_top_graph_size t_top_graph_arcs t_top_graph_weight t_top_home out.2.2.2.1 out.2.2.2.2)) (va_A (wd_Ba_of cI cZ a_t a_t_top a_t_top_bounds a_t_top_bounds_least a_t_top_bounds_most a_t_top_graph a_t_top_graph_arcs a_t_top_graph_weight a_t_top_home a_t_top_link a_t_top_sum a_t_low a_t_levels a_t_search a_t_mover a_t_orders a_t_divider t_top_cut t_top_over t_top_bounds_k t_top_bounds_least t_top_bounds_most t_top_graph_size t_top_graph_arcs t_top_graph_weight t_top_home t_top_link t_top_sum) sz)) 0 0 (va_A (wd_Ba_of cI cZ a_t a_t_top a_t_top_bounds a_t_top_bounds_least a_t_top_bounds_most a_t_top_graph a_t_top_graph_arcs a_t_top_graph_weight a_t_top_home a_t_top_link a_t_top_sum a_t_low a_t_levels a_t_search a_t_mover a_t_orders a_t_divider t_top_cut t_top_over t_top_bounds_k t_top_bounds_least t_top_bounds_most t_top_graph_size t_top_graph_arcs t_top_graph_weight t_top_home t_top_link t_top_sum) sz) := by
  refine Met.ofW (cc := cc_Ba_of) (maxL := 3) (ret := (some .int)) (by decide) rfl ?_
  intro p e s m args below meth c s₁ B hml hv
  obtain ⟨rfl, hsz, hP, hK, hD0, hN⟩ := hv
  have hx := B.exec
  have hb := B.bytes
  have hr := B.returns
  have hts := atoms_spec (ws := wq_Ba_of) B.pre
  have hown : s.vm.findClass rr_Ba = some m.cls := findClass_of_methodNamed B.named
  have hlocks := B.notSynchronized
  subst hsz
  have hD := hD0.self (sz := s.heap.size)
  generalize hAe : va_A (wd_Ba_of cI cZ a_t a_t_top a_t_top_bounds a_t_top_bounds_least a_t_top_bounds_most a_t_top_graph a_t_top_graph_arcs a_t_top_graph_weight a_t_top_home a_t_top_link a_t_top_sum a_t_low a_t_levels a_t_search a_t_mover a_t_orders a_t_divider t_top_cut t_top_over t_top_bounds_k t_top_bounds_least t_top_bounds_most t_top_graph_size t_top_graph_arcs t_top_graph_weight t_top_home t_top_link t_top_sum) s.heap.size = A at hD ⊢
  have hA : ∀ q : Nat, s.heap.size ≤ q → A q := fun q h => by rw [← hAe]; exact Or.inr h
  obtain ⟨H, hH⟩ : ∃ H : Heap, H = s.heap := ⟨_, rfl⟩
  have hS : va_S A s.heap H [] := by rw [hH]; exact va_S.rf
  have hl := lv_entry (([.ref a_t, .int x1, .int x2] : List Value)) (n := 3) (Nat.le_of_ble_eq_true rfl)
  rw [lg_entry_eq]
  generalize (lg_sl (([.ref a_t, .int x1, .int x2] : List Value)) ++ List.replicate (3 - (lg_sl (([.ref a_t, .int x1, .int x2] : List Value))).length) Slot.unset).toArray = ls at hl ⊢
  have hl : lv_has ls 3 [(0, .ref a_t), (1, .int x1), (2, .int x2)] := hl
  rw [← hH] at hP ⊢
  have hP : va_P (dC, dI) clsL (wd_Ba_of cI cZ a_t a_t_top a_t_top_bounds a_t_top_bounds_least a_t_top_bounds_most a_t_top_graph a_t_top_graph_arcs a_t_top_graph_weight a_t_top_home a_t_top_link a_t_top_sum a_t_low a_t_levels a_t_search a_t_mover a_t_orders a_t_divider t_top_cut t_top_over t_top_bounds_k t_top_bounds_least t_top_bounds_most t_top_graph_size t_top_graph_arcs t_top_graph_weight t_top_home t_top_link t_top_sum) H := hP
  unfold f_Ba_of at hf
  refine lv_aload_n hx hb dd_Ba_of_0 rfl (lv_at hl 0 rfl) ?_
  refine va_get (D := (dC, dI)) (ci := 8) (v := .ref a_t_top) (C := rr_Ba) (T := tt_Ba) (N := 7) hx hb hts (fun w h => gwc (inn_Ba w h)) hown hK hP 0 rfl rfl 0 (by decide) (hts _ (gwc gw_283)) (fun _ h9 => h9) rfl dd_Ba_of_1 ?_
  refine va_get (D := (dC, dI)) (ci := 7) (v := .ref a_t_top_graph) (C := rr_Sp) (T := tt_Sp) (N := 7) hx hb hts (fun w h => gwc (inn_Sp w h)) hown hK hP 1 rfl rfl 0 (by decide) (hts _ (gwc gw_135)) (fun _ h9 => h9) rfl dd_Ba_of_4 ?_
  refine lv_iload_n hx hb dd_Ba_of_7 rfl (lv_at hl 1 rfl) ?_
  obtain ⟨r8, hr8, hf⟩ := bind_some hf
  refine xcalli (rest := []) (wc := (wd_Gr_has cI cZ a_t_top_graph a_t_top_graph_weight a_t_top_graph_arcs t_top_graph_size)) (w1 := (wd_Gr_has cI cZ a_t_top_graph a_t_top_graph_weight a_t_top_graph_arcs t_top_graph_size)) (wr := [(a_t, .inr (8, [.ref a_t_top, .ref a_t_low, .ref a_t_levels, .ref a_t_search, .ref a_t_mover, .ref a_t_orders, .ref a_t_divider])), (a_t_top, .inr (7, [.ref a_t_top_graph, .ref a_t_top_bounds, .ref a_t_top_home, .ref a_t_top_sum, .ref a_t_top_link, .int t_top_cut, .int t_top_over])), (a_t_top_bounds, .inr (0, [.int t_top_bounds_k, .ref a_t_top_bounds_least, .ref a_t_top_bounds_most])), (a_t_top_bounds_least, .inl (cI, 4, .inl t_top_bounds_least)), (a_t_top_bounds_most, .inl (cI, 4, .inl t_top_bounds_most)), (a_t_top_graph_arcs, .inl (cI, 1600, .inl t_top_graph_arcs)), (a_t_top_graph_weight, .inl (cI, 40, .inl t_top_graph_weight)), (a_t_top_home, .inl (cI, 40, .inl t_top_home)), (a_t_top_link, .inl (cI, 160, .inl t_top_link)), (a_t_top_sum, .inl (cI, 4, .inl t_top_sum))]) (ws' := (wd_Ba_of cI cZ a_t a_t_top a_t_top_bounds a_t_top_bounds_least a_t_top_bounds_most a_t_top_graph a_t_top_graph_arcs a_t_top_graph_weight a_t_top_home a_t_top_link a_t_top_sum a_t_low a_t_levels a_t_search a_t_mover a_t_orders a_t_divider t_top_cut t_top_over t_top_bounds_k t_top_bounds_least t_top_bounds_most t_top_graph_size t_top_graph_arcs t_top_graph_weight t_top_home t_top_link t_top_sum)) (va_runV (As := [.int x1]) ⟨hx, hb, hml, hown, hts⟩ (c_Gr_has l dC dI cI cZ a_t_top_graph a_t_top_graph_weight a_t_top_graph_arcs H.size x1 t_top_graph_size r8 hr8) (cwV 1 hts (gV gw_313 gw_314 gw_315 gw_54 gw_316) rfl rfl rfl (yd_Gr_has) ⟨Nat.le_of_ble_eq_true rfl, Nat.le_of_ble_eq_true rfl⟩) (mkV hK (hP.sub (ws' := (wd_Gr_has cI cZ a_t_top_graph a_t_top_graph_weight a_t_top_graph_arcs t_top_graph_size)) [5] rfl) (hD.sub (ws' := (wd_Gr_has cI cZ a_t_top_graph a_t_top_graph_weight a_t_top_graph_arcs t_top_graph_size)) [5] (by decide) rfl) hN (va_recv hK hP (ci := 1) (q0 := 5) rfl rfl)) rfl rfl hl.1 rfl (lv_room (Nat.le_of_ble_eq_true rfl)) dd_Ba_of_8 ⟨Nat.zero_le _, Nat.zero_le _⟩) hP hD hS hA [5] [0, 1, 2, 3, 4, 6, 7, 8, 9, 10] [0, 1, 2, 3, 4, 10, 5, 6, 7, 8, 9] rfl rfl (by decide) (by decide) rfl (by decide) rfl (fun H locs hP hD hS => ?_)
  refine lv_if_ne (tgt := 16) hx hb dd_Ba_of_11 (by decide) (fun cc => ?_) (fun cc => ?_)
  · skip
    have hf := if_f cc hf
    refine lv_iload_n hx hb dd_Ba_of_16 rfl (lv_at hl 2 rfl) ?_
    by_cases c17_0 : x2 = 0
    · skip
      refine lv_tableIn (tgt := 48) hx hb dd_Ba_of_17 (by rw [c17_0]; decide) (by rw [c17_0]; decide) (by rw [c17_0]; rfl) (by decide) ?_
      have hf := if_t c17_0 hf
      refine lv_aload_n hx hb dd_Ba_of_48 rfl (lv_at hl 0 rfl) ?_
      refine va_get (D := (dC, dI)) (ci := 8) (v := .ref a_t_top) (C := rr_Ba) (T := tt_Ba) (N := 7) hx hb hts (fun w h => gwc (inn_Ba w h)) hown hK hP 0 rfl rfl 0 (by decide) (hts _ (gwc gw_283)) (fun _ h9 => h9) rfl dd_Ba_of_49 ?_
      refine va_get (D := (dC, dI)) (ci := 7) (v := .ref a_t_top_graph) (C := rr_Sp) (T := tt_Sp) (N := 7) hx hb hts (fun w h => gwc (inn_Sp w h)) hown hK hP 1 rfl rfl 0 (by decide) (hts _ (gwc gw_135)) (fun _ h9 => h9) rfl dd_Ba_of_52 ?_
      refine va_get (D := (dC, dI)) (ci := 1) (v := .ref a_t_top_graph_weight) (C := rr_Gr) (T := tt_Gr) (N := 3) hx hb hts (fun w h => gwc (inn_Gr w h)) hown hK hP 5 rfl rfl 1 (by decide) (hts _ (gwc gw_93)) (fun _ h9 => h9) rfl dd_Ba_of_55 ?_
      refine lv_iload_n hx hb dd_Ba_of_58 rfl (lv_at hl 1 rfl) ?_
      obtain ⟨k59, hf⟩ := ck_some hf
      refine va_iald hx hb hK hP 7 0 rfl rfl (okb_in k59) dd_Ba_of_59 ?_
      have hf := Option.some.inj hf
      subst hf
      exact W.iret hx hb hr (fun t ht hW => ⟨⟨_, (), rfl, rfl, pst_of ht hP hD⟩, hS.F ht⟩) hS.2.2 dd_Ba_of_60
    · skip
      have hf := if_f c17_0 hf
      by_cases c17_1 : x2 = 1
      · skip
        refine lv_tableIn (tgt := 61) hx hb dd_Ba_of_17 (by rw [c17_1]; decide) (by rw [c17_1]; decide) (by rw [c17_1]; rfl) (by decide) ?_
        have hf := if_t c17_1 hf
        refine lv_aload_n hx hb dd_Ba_of_61 rfl (lv_at hl 0 rfl) ?_
        refine va_get (D := (dC, dI)) (ci := 8) (v := .ref a_t_top) (C := rr_Ba) (T := tt_Ba) (N := 7) hx hb hts (fun w h => gwc (inn_Ba w h)) hown hK hP 0 rfl rfl 0 (by decide) (hts _ (gwc gw_283)) (fun _ h9 => h9) rfl dd_Ba_of_62 ?_
        refine va_get (D := (dC, dI)) (ci := 7) (v := .ref a_t_top_home) (C := rr_Sp) (T := tt_Sp) (N := 7) hx hb hts (fun w h => gwc (inn_Sp w h)) hown hK hP 1 rfl rfl 2 (by decide) (hts _ (gwc gw_144)) (fun _ h9 => h9) rfl dd_Ba_of_65 ?_
        refine lv_iload_n hx hb dd_Ba_of_68 rfl (lv_at hl 1 rfl) ?_
        obtain ⟨k69, hf⟩ := ck_some hf
        refine va_iald hx hb hK hP 8 0 rfl rfl (okb_in k69) dd_Ba_of_69 ?_
        have hf := Option.some.inj hf
        subst hf
        exact W.iret hx hb hr (fun t ht hW => ⟨⟨_, (), rfl, rfl, pst_of ht hP hD⟩, hS.F ht⟩) hS.2.2 dd_Ba_of_70
      · skip
        have hf := if_f c17_1 hf
        by_cases c17_2 : x2 = 2
        · skip
          refine lv_tableIn (tgt := 71) hx hb dd_Ba_of_17 (by rw [c17_2]; decide) (by rw [c17_2]; decide) (by rw [c17_2]; rfl) (by decide) ?_
          have hf := if_t c17_2 hf
          refine lv_aload_n hx hb dd_Ba_of_71 rfl (lv_at hl 0 rfl) ?_
          refine va_get (D := (dC, dI)) (ci := 8) (v := .ref a_t_top) (C := rr_Ba) (T := tt_Ba) (N := 7) hx hb hts (fun w h => gwc (inn_Ba w h)) hown hK hP 0 rfl rfl 0 (by decide) (hts _ (gwc gw_283)) (fun _ h9 => h9) rfl dd_Ba_of_72 ?_
          obtain ⟨r75, hr75, hf⟩ := bind_some hf
          refine xcallv (rest := []) (wc := (wd_Sp_recount cI cZ a_t_top a_t_top_bounds a_t_top_bounds_least a_t_top_bounds_most a_t_top_graph a_t_top_graph_arcs a_t_top_graph_weight a_t_top_home a_t_top_link a_t_top_sum t_top_cut t_top_over t_top_bounds_k t_top_bounds_least t_top_bounds_most t_top_graph_size t_top_graph_arcs t_top_graph_weight t_top_home t_top_link t_top_sum)) (w1 := (wd_Sp_recount cI cZ a_t_top a_t_top_bounds a_t_top_bounds_least a_t_top_bounds_most a_t_top_graph a_t_top_graph_arcs a_t_top_graph_weight a_t_top_home a_t_top_link a_t_top_sum r75.1 r75.2.1 t_top_bounds_k t_top_bounds_least t_top_bounds_most t_top_graph_size t_top_graph_arcs t_top_graph_weight t_top_home r75.2.2.1 r75.2.2.2)) (wr := [(a_t, .inr (8, [.ref a_t_top, .ref a_t_low, .ref a_t_levels, .ref a_t_search, .ref a_t_mover, .ref a_t_orders, .ref a_t_divider]))]) (ws' := (wd_Ba_of cI cZ a_t a_t_top a_t_top_bounds a_t_top_bounds_least a_t_top_bounds_most a_t_top_graph a_t_top_graph_arcs a_t_top_graph_weight a_t_top_home a_t_top_link a_t_top_sum a_t_low a_t_levels a_t_search a_t_mover a_t_orders a_t_divider r75.1 r75.2.1 t_top_bounds_k t_top_bounds_least t_top_bounds_most t_top_graph_size t_top_graph_arcs t_top_graph_weight t_top_home r75.2.2.1 r75.2.2.2)) (va_runV (As := []) ⟨hx, hb, hml, hown, hts⟩ (c_Sp_recount l dC dI cI cZ a_t_top a_t_top_bounds a_t_top_bounds_least a_t_top_bounds_most a_t_top_graph a_t_top_graph_arcs a_t_top_graph_weight a_t_top_home a_t_top_link a_t_top_sum H.size t_top_cut t_top_over t_top_bounds_k t_top_bounds_least t_top_bounds_most t_top_graph_size t_top_graph_arcs t_top_graph_weight t_top_home t_top_link t_top_sum r75 hr75) (cwV 0 hts (gV gw_367 gw_368 gw_369 gw_53 gw_370) rfl rfl rfl (yd_Sp_recount) ⟨Nat.le_of_ble_eq_true rfl, Nat.le_of_ble_eq_true rfl⟩) (mkV hK (hP.sub (ws' := (wd_Sp_recount cI cZ a_t_top a_t_top_bounds a_t_top_bounds_least a_t_top_bounds_most a_t_top_graph a_t_top_graph_arcs a_t_top_graph_weight a_t_top_home a_t_top_link a_t_top_sum t_top_cut t_top_over t_top_bounds_k t_top_bounds_least t_top_bounds_most t_top_graph_size t_top_graph_arcs t_top_graph_weight t_top_home t_top_link t_top_sum)) [1, 2, 3, 4, 5, 6, 7, 8, 9, 10] rfl) (hD.sub (ws' := (wd_Sp_recount cI cZ a_t_top a_t_top_bounds a_t_top_bounds_least a_t_top_bounds_most a_t_top_graph a_t_top_graph_arcs a_t_top_graph_weight a_t_top_home a_t_top_link a_t_top_sum t_top_cut t_top_over t_top_bounds_k t_top_bounds_least t_top_bounds_most t_top_graph_size t_top_graph_arcs t_top_graph_weight t_top_home t_top_link t_top_sum)) [1, 2, 3, 4, 5, 6, 7, 8, 9, 10] (by decide) rfl) hN (va_recv hK hP (ci := 7) (q0 := 1) rfl rfl)) rfl rfl hl.1 rfl (lv_room (Nat.le_of_ble_eq_true rfl)) dd_Ba_of_75 ⟨Nat.zero_le _, Nat.zero_le _⟩) hP hD hS hA [1, 2, 3, 4, 5, 6, 7, 8, 9, 10] [0] [0, 1, 2, 3, 4, 5, 6, 7, 8, 9, 10] rfl rfl (by decide) (by decide) rfl (by decide) rfl (fun H locs hP hD hS => ?_)
          refine lv_aload_n hx hb dd_Ba_of_78 rfl (lv_at hl 0 rfl) ?_
          refine va_get (D := (dC, dI)) (ci := 8) (v := .ref a_t_top) (C := rr_Ba) (T := tt_Ba) (N := 7) hx hb hts (fun w h => gwc (inn_Ba w h)) hown hK hP 0 rfl rfl 0 (by decide) (hts _ (gwc gw_283)) (fun _ h9 => h9) rfl dd_Ba_of_79 ?_
          refine lv_iload_n hx hb dd_Ba_of_82 rfl (lv_at hl 1 rfl) ?_
          obtain ⟨r83, hr83, hf⟩ := bind_some hf
          refine xcalli (rest := []) (wc := (wd_Sp_volume cI cZ a_t_top a_t_top_bounds a_t_top_home a_t_top_link a_t_top_graph a_t_top_sum a_t_top_bounds_least a_t_top_bounds_most r75.1 r75.2.1 t_top_bounds_k t_top_home r75.2.2.1)) (w1 := (wd_Sp_volume cI cZ a_t_top a_t_top_bounds a_t_top_home a_t_top_link a_t_top_graph a_t_top_sum a_t_top_bounds_least a_t_top_bounds_most r75.1 r75.2.1 t_top_bounds_k t_top_home r75.2.2.1)) (wr := [(a_t, .inr (8, [.ref a_t_top, .ref a_t_low, .ref a_t_levels, .ref a_t_search, .ref a_t_mover, .ref a_t_orders, .ref a_t_divider])), (a_t_top_bounds_least, .inl (cI, 4, .inl t_top_bounds_least)), (a_t_top_bounds_most, .inl (cI, 4, .inl t_top_bounds_most)), (a_t_top_graph, .inr (1, [.int t_top_graph_size, .ref a_t_top_graph_weight, .ref a_t_top_graph_arcs])), (a_t_top_graph_arcs, .inl (cI, 1600, .inl t_top_graph_arcs)), (a_t_top_graph_weight, .inl (cI, 40, .inl t_top_graph_weight)), (a_t_top_sum, .inl (cI, 4, .inl r75.2.2.2))]) (ws' := (wd_Ba_of cI cZ a_t a_t_top a_t_top_bounds a_t_top_bounds_least a_t_top_bounds_most a_t_top_graph a_t_top_graph_arcs a_t_top_graph_weight a_t_top_home a_t_top_link a_t_top_sum a_t_low a_t_levels a_t_search a_t_mover a_t_orders a_t_divider r75.1 r75.2.1 t_top_bounds_k t_top_bounds_least t_top_bounds_most t_top_graph_size t_top_graph_arcs t_top_graph_weight t_top_home r75.2.2.1 r75.2.2.2)) (va_runV (As := [.int x1]) ⟨hx, hb, hml, hown, hts⟩ (c_Sp_volume l dC dI cI cZ a_t_top a_t_top_bounds a_t_top_home a_t_top_link a_t_top_graph a_t_top_sum a_t_top_bounds_least a_t_top_bounds_most H.size x1 r75.1 r75.2.1 t_top_bounds_k t_top_home r75.2.2.1 r83 hr83) (cwV 1 hts (gV gw_381 gw_382 gw_383 gw_53 gw_384) rfl rfl rfl (yd_Sp_volume) ⟨Nat.le_of_ble_eq_true rfl, Nat.le_of_ble_eq_true rfl⟩) (mkV hK (hP.sub (ws' := (wd_Sp_volume cI cZ a_t_top a_t_top_bounds a_t_top_home a_t_top_link a_t_top_graph a_t_top_sum a_t_top_bounds_least a_t_top_bounds_most r75.1 r75.2.1 t_top_bounds_k t_top_home r75.2.2.1)) [1, 2, 8, 9] rfl) (hD.sub (ws' := (wd_Sp_volume cI cZ a_t_top a_t_top_bounds a_t_top_home a_t_top_link a_t_top_graph a_t_top_sum a_t_top_bounds_least a_t_top_bounds_most r75.1 r75.2.1 t_top_bounds_k t_top_home r75.2.2.1)) [1, 2, 8, 9] (by decide) rfl) hN (va_recv hK hP (ci := 7) (q0 := 1) rfl rfl)) rfl rfl hl.1 rfl (lv_room (Nat.le_of_ble_eq_true rfl)) dd_Ba_of_83 ⟨Nat.zero_le _, Nat.zero_le _⟩) hP hD hS hA [1, 2, 8, 9] [0, 3, 4, 5, 6, 7, 10] [0, 7, 8, 1, 2, 3, 4, 5, 9, 10, 6] rfl rfl (by decide) (by decide) rfl (by decide) rfl (fun H locs hP hD hS => ?_)
          have hf := Option.some.inj hf
          subst hf
          exact W.iret hx hb hr (fun t ht hW => ⟨⟨_, (), rfl, rfl, pst_of ht hP hD⟩, hS.F ht⟩) hS.2.2 dd_Ba_of_86
        · skip
          have hf := if_f c17_2 hf
          by_cases c17_3 : x2 = 3
          · skip
            refine lv_tableIn (tgt := 87) hx hb dd_Ba_of_17 (by rw [c17_3]; decide) (by rw [c17_3]; decide) (by rw [c17_3]; rfl) (by decide) ?_
            have hf := if_t c17_3 hf
            refine lv_aload_n hx hb dd_Ba_of_87 rfl (lv_at hl 0 rfl) ?_
            refine va_get (D := (dC, dI)) (ci := 8) (v := .ref a_t_top) (C := rr_Ba) (T := tt_Ba) (N := 7) hx hb hts (fun w h => gwc (inn_Ba w h)) hown hK hP 0 rfl rfl 0 (by decide) (hts _ (gwc gw_283)) (fun _ h9 => h9) rfl dd_Ba_of_88 ?_
            refine va_get (D := (dC, dI)) (ci := 7) (v := .ref a_t_top_graph) (C := rr_Sp) (T := tt_Sp) (N := 7) hx hb hts (fun w h => gwc (inn_Sp w h)) hown hK hP 1 rfl rfl 0 (by decide) (hts _ (gwc gw_135)) (fun _ h9 => h9) rfl dd_Ba_of_91 ?_
            refine lv_iload_n hx hb dd_Ba_of_94 rfl (lv_at hl 1 rfl) ?_
            obtain ⟨r95, hr95, hf⟩ := bind_some hf
            refine xcalli (rest := []) (wc := (wd_Gr_neighbours cI cZ a_t_top_graph a_t_top_graph_arcs a_t_top_graph_weight t_top_graph_size t_top_graph_arcs)) (w1 := (wd_Gr_neighbours cI cZ a_t_top_graph a_t_top_graph_arcs a_t_top_graph_weight t_top_graph_size t_top_graph_arcs)) (wr := [(a_t, .inr (8, [.ref a_t_top, .ref a_t_low, .ref a_t_levels, .ref a_t_search, .ref a_t_mover, .ref a_t_orders, .ref a_t_divider])), (a_t_top, .inr (7, [.ref a_t_top_graph, .ref a_t_top_bounds, .ref a_t_top_home, .ref a_t_top_sum, .ref a_t_top_link, .int t_top_cut, .int t_top_over])), (a_t_top_bounds, .inr (0, [.int t_top_bounds_k, .ref a_t_top_bounds_least, .ref a_t_top_bounds_most])), (a_t_top_bounds_least, .inl (cI, 4, .inl t_top_bounds_least)), (a_t_top_bounds_most, .inl (cI, 4, .inl t_top_bounds_most)), (a_t_top_graph_weight, .inl (cI, 40, .inl t_top_graph_weight)), (a_t_top_home, .inl (cI, 40, .inl t_top_home)), (a_t_top_link, .inl (cI, 160, .inl t_top_link)), (a_t_top_sum, .inl (cI, 4, .inl t_top_sum))]) (ws' := (wd_Ba_of cI cZ a_t a_t_top a_t_top_bounds a_t_top_bounds_least a_t_top_bounds_most a_t_top_graph a_t_top_graph_arcs a_t_top_graph_weight a_t_top_home a_t_top_link a_t_top_sum a_t_low a_t_levels a_t_search a_t_mover a_t_orders a_t_divider t_top_cut t_top_over t_top_bounds_k t_top_bounds_least t_top_bounds_most t_top_graph_size t_top_graph_arcs t_top_graph_weight t_top_home t_top_link t_top_sum)) (va_runV (As := [.int x1]) ⟨hx, hb, hml, hown, hts⟩ (c_Gr_neighbours l dC dI cI cZ a_t_top_graph a_t_top_graph_arcs a_t_top_graph_weight H.size x1 t_top_graph_size t_top_graph_arcs r95 hr95) (cwV 1 hts (gV gw_385 gw_386 gw_387 gw_54 gw_388) rfl rfl rfl (yd_Gr_neighbours) ⟨Nat.le_of_ble_eq_true rfl, Nat.le_of_ble_eq_true rfl⟩) (mkV hK (hP.sub (ws' := (wd_Gr_neighbours cI cZ a_t_top_graph a_t_top_graph_arcs a_t_top_graph_weight t_top_graph_size t_top_graph_arcs)) [5, 6] rfl) (hD.sub (ws' := (wd_Gr_neighbours cI cZ a_t_top_graph a_t_top_graph_arcs a_t_top_graph_weight t_top_graph_size t_top_graph_arcs)) [5, 6] (by decide) rfl) hN (va_recv hK hP (ci := 1) (q0 := 5) rfl rfl)) rfl rfl hl.1 rfl (lv_room (Nat.le_of_ble_eq_true rfl)) dd_Ba_of_95 ⟨Nat.zero_le _, Nat.zero_le _⟩) hP hD hS hA [5, 6] [0, 1, 2, 3, 4, 7, 8, 9, 10] [0, 1, 2, 3, 4, 9, 10, 5, 6, 7, 8] rfl rfl (by decide) (by decide) rfl (by decide) rfl (fun H locs hP hD hS => ?_)
            have hf := Option.some.inj hf
            subst hf
            exact W.iret hx hb hr (fun t ht hW => ⟨⟨_, (), rfl, rfl, pst_of ht hP hD⟩, hS.F ht⟩) hS.2.2 dd_Ba_of_98
          · skip
            have hf := if_f c17_3 hf
            refine lv_tableOut (tgt := 99) hx hb dd_Ba_of_17 (sw_out4 c17_0 c17_1 c17_2 c17_3) (by decide) ?_
            refine lv_iconst (v := -1) hx hb dd_Ba_of_99 (by decide) ?_
            have hf := Option.some.inj hf
            subst hf
            exact W.iret hx hb hr (fun t ht hW => ⟨⟨_, (), rfl, rfl, pst_of ht hP hD⟩, hS.F ht⟩) hS.2.2 dd_Ba_of_100
  · skip
    have hf := if_t cc hf
    refine lv_iconst (v := -1) hx hb dd_Ba_of_14 (by decide) ?_
    have hf := Option.some.inj hf
    subst hf
    exact W.iret hx hb hr (fun t ht hW => ⟨⟨_, (), rfl, rfl, pst_of ht hP hD⟩, hS.F ht⟩) hS.2.2 dd_Ba_of_15
