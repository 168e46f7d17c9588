abbrev wd_Re_isIn (cI cZ : ClassId) : va_W := []
set_option maxRecDepth 100000 in
set_option maxHeartbeats 4000000 in
theorem c_Re_isIn (l : Launch) (dC : Nat → ClassId) (dI : Nat → Nat → Nat) (cI cZ : ClassId) ( sz : Nat) (x0 : Int64) (x2 : Int64) (x4 : Int64) (out : Int32) (hf : f_Re_isIn x0 x2 x4 = some out) :
    Met l yy_Re_isIn wq_Re_isIn ({ frames := 0, cells := 0, slots := 0, locals := 0 }) (va_Pc ([.long x0, .long x2, .long x4] : List Value) (pre_ (dC, dI) cI cZ sz (wd_Re_isIn cI cZ))) (va_Qi (fun (r : Int32) (_ : Unit) => r = out) (fun _ => pst (dC, dI) (va_A (wd_Re_isIn cI cZ) sz) (wd_Re_isIn cI cZ)) (va_A (wd_Re_isIn cI cZ) sz)) 0 0 (va_A (wd_Re_isIn cI cZ) sz) := by
  refine Met.ofW (cc := cc_Re_isIn) (maxL := 6) (ret := (some .boolean)) (by decide) rfl ?_
  intro p e s m args below meth c s₁ B hml hv
  obtain ⟨rfl, hsz, hP, hK, hD0, hN⟩ := hv
  have hx := B.exec
  have hb := B.bytes
  have hr := B.returns
  have hts := atoms_spec (ws := wq_Re_isIn) B.pre
  have hown : s.vm.findClass rr_Re = some m.cls := findClass_of_methodNamed B.named
  have hlocks := B.notSynchronized
  subst hsz
  have hD := hD0.self (sz := s.heap.size)
  generalize hAe : va_A (wd_Re_isIn cI cZ) s.heap.size = A at hD ⊢
  have hA : ∀ q : Nat, s.heap.size ≤ q → A q := fun q h => by rw [← hAe]; exact Or.inr h
  obtain ⟨H, hH⟩ : ∃ H : Heap, H = s.heap := ⟨_, rfl⟩
  have hS : va_S A s.heap H [] := by rw [hH]; exact va_S.rf
  have hl := lv_entry (([.long x0, .long x2, .long x4] : List Value)) (n := 6) (Nat.le_of_ble_eq_true rfl)
  rw [lg_entry_eq]
  generalize (lg_sl (([.long x0, .long x2, .long x4] : List Value)) ++ List.replicate (6 - (lg_sl (([.long x0, .long x2, .long x4] : List Value))).length) Slot.unset).toArray = ls at hl ⊢
  have hl : lv_has ls 6 [(0, .long x0), (2, .long x2), (4, .long x4)] := hl
  rw [← hH] at hP ⊢
  have hP : va_P (dC, dI) clsL (wd_Re_isIn cI cZ) H := hP
  unfold f_Re_isIn at hf
  refine lv_lload_n hx hb dd_Re_isIn_0 rfl (lv_at hl 0 rfl) ?_
  refine lv_lload_n hx hb dd_Re_isIn_1 rfl (lv_at hl 1 rfl) ?_
  refine W.lcmp hx hb dd_Re_isIn_2 ?_
  refine lv_if_lt (tgt := 17) hx hb dd_Re_isIn_3 (by decide) (fun cc => ?_) (fun cc => ?_)
  · skip
    have hf := if_t cc hf
    refine lv_iconst (v := 0) hx hb dd_Re_isIn_17 (by decide) ?_
    have hf := Option.some.inj hf
    subst hf
    exact W.zret hx hb hr narrow_b0 (fun t ht hW => ⟨⟨_, (), rfl, rfl, pst_of ht hP hD⟩, hS.F ht⟩) hS.2.2 dd_Re_isIn_18
  · skip
    have hf := if_f cc hf
    refine lv_lload_n hx hb dd_Re_isIn_6 rfl (lv_at hl 0 rfl) ?_
    refine lv_lload hx hb dd_Re_isIn_7 (lv_at hl 2 rfl) ?_
    refine W.lcmp hx hb dd_Re_isIn_9 ?_
    refine lv_if_gt (tgt := 17) hx hb dd_Re_isIn_10 (by decide) (fun cc => ?_) (fun cc => ?_)
    · skip
      have hf := if_t cc hf
      refine lv_iconst (v := 0) hx hb dd_Re_isIn_17 (by decide) ?_
      have hf := Option.some.inj hf
      subst hf
      exact W.zret hx hb hr narrow_b0 (fun t ht hW => ⟨⟨_, (), rfl, rfl, pst_of ht hP hD⟩, hS.F ht⟩) hS.2.2 dd_Re_isIn_18
    · skip
      have hf := if_f cc hf
      refine lv_iconst (v := 1) hx hb dd_Re_isIn_13 (by decide) ?_
      refine lv_goto (tgt := 18) hx hb dd_Re_isIn_14 (by decide) ?_
      have hf := Option.some.inj hf
      subst hf
      exact W.zret hx hb hr narrow_b1 (fun t ht hW => ⟨⟨_, (), rfl, rfl, pst_of ht hP hD⟩, hS.F ht⟩) hS.2.2 dd_Re_isIn_18
abbrev wd_Re_node (cI cZ : ClassId) (a_t a_t_arcs a_t_split a_t_weight a_t_least a_t_most a_t_levelNodes a_t_levelWeight a_t_levelArc a_t_levelIn a_t_row a_t_isFree a_t_best a_t_above a_t_ordered a_t_parts : Nat) (t_nodes : Int32) (t_kinds : Int32) (t_levels : Int32) (t_size : Int32) (t_base : Int32) (t_arcs : Nat → Int32) (t_split : Nat → Int32) (t_weight : Nat → Int32) : va_W := [(a_t, .inr (9, [.int t_nodes, .int t_kinds, .ref a_t_weight, .ref a_t_arcs, .ref a_t_split, .ref a_t_least, .ref a_t_most, .int t_levels, .ref a_t_levelNodes, .ref a_t_levelWeight, .ref a_t_levelArc, .ref a_t_levelIn, .int t_size, .int t_base, .ref a_t_row, .ref a_t_isFree, .ref a_t_best, .ref a_t_above, .ref a_t_ordered, .ref a_t_parts])), (a_t_arcs, .inl (cI, 1600, .inl t_arcs)), (a_t_split, .inl (cI, 40, .inl t_split)), (a_t_weight, .inl (cI, 40, .inl t_weight))]
set_option maxRecDepth 100000 in
set_option maxHeartbeats 4000000 in
theorem c_Re_node (l : Launch) (dC : Nat → ClassId) (dI : Nat → Nat → Nat) (cI cZ : ClassId) (a_t a_t_arcs a_t_split a_t_weight a_t_least a_t_most a_t_levelNodes a_t_levelWeight a_t_levelArc a_t_levelIn a_t_row a_t_isFree a_t_best a_t_above a_t_ordered a_t_parts sz : Nat) (x1 : Int32) (t_nodes : Int32) (t_kinds : Int32) (t_levels : Int32) (t_size : Int32) (t_base : Int32) (t_arcs : Nat → Int32) (t_split : Nat → Int32) (t_weight : Nat → Int32) (out : Int32 × Int32 × (Nat → Int32) × (Nat → Int32) × (Nat → Int32)) (hf : f_Re_node x1 t_nodes t_arcs t_split t_weight = some out) :
    Met l yy_Re_node wq_Re_node ({ frames := 1, cells := 0, slots := 0, locals := 25 }) (va_Pc ([.ref a_t, .int x1] : List Value) (pre_ (dC, dI) cI cZ sz (wd_Re_node cI cZ a_t a_t_arcs a_t_split a_t_weight a_t_least a_t_most a_t_levelNodes a_t_levelWeight a_t_levelArc a_t_levelIn a_t_row a_t_isFree a_t_best a_t_above a_t_ordered a_t_parts t_nodes t_kinds t_levels t_size t_base t_arcs t_split t_weight))) (va_Qi (fun (r : Int32) (_ : Unit) => r = out.1) (fun _ => pst (dC, dI) (va_A (wd_Re_node cI cZ a_t a_t_arcs a_t_split a_t_weight a_t_least a_t_most a_t_levelNodes a_t_levelWeight a_t_levelArc a_t_levelIn a_t_row a_t_isFree a_t_best a_t_above a_t_ordered a_t_parts t_nodes t_kinds t_levels t_size t_base t_arcs t_split t_weight) sz) (wd_Re_node cI cZ a_t a_t_arcs a_t_split a_t_weight a_t_least a_t_most a_t_levelNodes a_t_levelWeight a_t_levelArc a_t_levelIn a_t_row a_t_isFree a_t_best a_t_above a_t_ordered a_t_parts out.2.1 t_kinds t_levels t_size t_base out.2.2.1 out.2.2.2.1 out.2.2.2.2)) (va_A (wd_Re_node cI cZ a_t a_t_arcs a_t_split a_t_weight a_t_least a_t_most a_t_levelNodes a_t_levelWeight a_t_levelArc a_t_levelIn a_t_row a_t_isFree a_t_best a_t_above a_t_ordered a_t_parts t_nodes t_kinds t_levels t_size t_base t_arcs t_split t_weight) sz)) 0 0 (va_A (wd_Re_node cI cZ a_t a_t_arcs a_t_split a_t_weight a_t_least a_t_most a_t_levelNodes a_t_levelWeight a_t_levelArc a_t_levelIn a_t_row a_t_isFree a_t_best a_t_above a_t_ordered a_t_parts t_nodes t_kinds t_levels t_size t_base t_arcs t_split t_weight) sz) := by
  refine Met.ofW (cc := cc_Re_node) (maxL := 3) (ret := (some .int)) (by decide) rfl ?_
  intro p e s m args below meth c s₁ B hml hv
  obtain ⟨rfl, hsz, hP, hK, hD0, hN⟩ := hv
  have hx := B.exec
  have hb := B.bytes
  have hr := B.returns
  have hts := atoms_spec (ws := wq_Re_node) B.pre
  have hown : s.vm.findClass rr_Re = some m.cls := findClass_of_methodNamed B.named
  have hlocks := B.notSynchronized
  subst hsz
  have hD := hD0.self (sz := s.heap.size)
  generalize hAe : va_A (wd_Re_node cI cZ a_t a_t_arcs a_t_split a_t_weight a_t_least a_t_most a_t_levelNodes a_t_levelWeight a_t_levelArc a_t_levelIn a_t_row a_t_isFree a_t_best a_t_above a_t_ordered a_t_parts t_nodes t_kinds t_levels t_size t_base t_arcs t_split t_weight) s.heap.size = A at hD ⊢
  have hA : ∀ q : Nat, s.heap.size ≤ q → A q := fun q h => by rw [← hAe]; exact Or.inr h
  obtain ⟨H, hH⟩ : ∃ H : Heap, H = s.heap := ⟨_, rfl⟩
  have hS : va_S A s.heap H [] := by rw [hH]; exact va_S.rf
  have hl := lv_entry (([.ref a_t, .int x1] : List Value)) (n := 3) (Nat.le_of_ble_eq_true rfl)
  rw [lg_entry_eq]
  generalize (lg_sl (([.ref a_t, .int x1] : List Value)) ++ List.replicate (3 - (lg_sl (([.ref a_t, .int x1] : List Value))).length) Slot.unset).toArray = ls at hl ⊢
  have hl : lv_has ls 3 [(0, .ref a_t), (1, .int x1)] := hl
  rw [← hH] at hP ⊢
  have hP : va_P (dC, dI) clsL (wd_Re_node cI cZ a_t a_t_arcs a_t_split a_t_weight a_t_least a_t_most a_t_levelNodes a_t_levelWeight a_t_levelArc a_t_levelIn a_t_row a_t_isFree a_t_best a_t_above a_t_ordered a_t_parts t_nodes t_kinds t_levels t_size t_base t_arcs t_split t_weight) H := hP
  unfold f_Re_node at hf
  have h48 : ∀ (n48 : Nat) (x2 : Int32) (t_arcs : Nat → Int32) (t_split : Nat → Int32) (t_weight : Nat → Int32) (ls : Array Slot) (H : Heap) (locs : List Loc), L_Re_node_48 t_nodes n48 x2 t_arcs t_split t_weight = some out → lv_has ls 3 [(0, .ref a_t), (2, .int x2)] → va_P (dC, dI) clsL (wd_Re_node cI cZ a_t a_t_arcs a_t_split a_t_weight a_t_least a_t_most a_t_levelNodes a_t_levelWeight a_t_levelArc a_t_levelIn a_t_row a_t_isFree a_t_best a_t_above a_t_ordered a_t_parts t_nodes t_kinds t_levels t_size t_base t_arcs t_split t_weight) H → va_D A (wd_Re_node cI cZ a_t a_t_arcs a_t_split a_t_weight a_t_least a_t_most a_t_levelNodes a_t_levelWeight a_t_levelArc a_t_levelIn a_t_row a_t_isFree a_t_best a_t_above a_t_ordered a_t_parts t_nodes t_kinds t_levels t_size t_base t_arcs t_split t_weight) → va_S A s.heap H locs → W p l e (headSpec wq_Re_node ({ frames := 1, cells := 0, slots := 0, locals := 25 })).room s m ([.ref a_t, .int x1] : List Value).toArray below meth c H locs 0 0 (MQ below (va_Qi (fun (r : Int32) (_ : Unit) => r = out.1) (fun _ => pst (dC, dI) A (wd_Re_node cI cZ a_t a_t_arcs a_t_split a_t_weight a_t_least a_t_most a_t_levelNodes a_t_levelWeight a_t_levelArc a_t_levelIn a_t_row a_t_isFree a_t_best a_t_above a_t_ordered a_t_parts out.2.1 t_kinds t_levels t_size t_base out.2.2.1 out.2.2.2.1 out.2.2.2.2)) A) ([.ref a_t, .int x1] : List Value).toArray s 0 0 A) (F0 m 48 ls []) := by
    intro n48
    induction n48 with
    | zero =>
      intro x2 t_arcs t_split t_weight ls H locs hf
      rw [L_Re_node_48] at hf
      exact absurd hf (fun h => by cases h)
    | succ n48 ih48 =>
      intro x2 t_arcs t_split t_weight ls H locs hf hl hP hD hS
      rw [L_Re_node_48] at hf
      have h92 : ∀ (t_arcs : Nat → Int32) (t_split : Nat → Int32) (t_weight : Nat → Int32) (ls : Array Slot) (H : Heap) (locs : List Loc), J_Re_node_92 t_nodes t_arcs t_split t_weight = some out → lv_has ls 3 [(0, .ref a_t)] → va_P (dC, dI) clsL (wd_Re_node cI cZ a_t a_t_arcs a_t_split a_t_weight a_t_least a_t_most a_t_levelNodes a_t_levelWeight a_t_levelArc a_t_levelIn a_t_row a_t_isFree a_t_best a_t_above a_t_ordered a_t_parts t_nodes t_kinds t_levels t_size t_base t_arcs t_split t_weight) H → va_D A (wd_Re_node cI cZ a_t a_t_arcs a_t_split a_t_weight a_t_least a_t_most a_t_levelNodes a_t_levelWeight a_t_levelArc a_t_levelIn a_t_row a_t_isFree a_t_best a_t_above a_t_ordered a_t_parts t_nodes t_kinds t_levels t_size t_base t_arcs t_split t_weight) → va_S A s.heap H locs → W p l e (headSpec wq_Re_node ({ frames := 1, cells := 0, slots := 0, locals := 25 })).room s m ([.ref a_t, .int x1] : List Value).toArray below meth c H locs 0 0 (MQ below (va_Qi (fun (r : Int32) (_ : Unit) => r = out.1) (fun _ => pst (dC, dI) A (wd_Re_node cI cZ a_t a_t_arcs a_t_split a_t_weight a_t_least a_t_most a_t_levelNodes a_t_levelWeight a_t_levelArc a_t_levelIn a_t_row a_t_isFree a_t_best a_t_above a_t_ordered a_t_parts out.2.1 t_kinds t_levels t_size t_base out.2.2.1 out.2.2.2.1 out.2.2.2.2)) A) ([.ref a_t, .int x1] : List Value).toArray s 0 0 A) (F0 m 92 ls []) := by
        intro t_arcs t_split t_weight ls H locs hf hl hP hD hS
        unfold J_Re_node_92 at hf
        refine lv_aload_n hx hb dd_Re_node_92 rfl (lv_at hl 0 rfl) ?_
        refine lv_dup hx hb dd_Re_node_93 rfl ?_
        refine va_get (D := (dC, dI)) (ci := 9) (v := .int t_nodes) (C := rr_Re) (T := tt_Re) (N := 20) hx hb hts (fun w h => gwc (inn_Re w h)) hown hK hP 0 rfl rfl 0 (by decide) (hts _ (gwc gw_703)) (fun _ h9 => h9) rfl dd_Re_node_94 ?_
        refine lv_dup_x1 hx hb dd_Re_node_97 rfl rfl ?_
        refine lv_iconst (v := 1) hx hb dd_Re_node_98 (by decide) ?_
        refine lv_iadd hx hb dd_Re_node_99 ?_
        refine va_put (D := (dC, dI)) (ci := 9) (v := .int (t_nodes + 1)) (ty := .int) (C := rr_Re) (T := tt_Re) (N := 20) hx hb hts (fun w h => gwc (inn_Re w h)) tf_Re to_Re tn_Re hown hK hP hD hS 0 rfl rfl 0 (by decide) (hts _ (gwc gw_703)) (fun _ h9 => h9) rfl (by decide +kernel) rfl rfl (Nat.le_of_ble_eq_true rfl) dd_Re_node_100 (fun H locs hP hD hS => ?_)
        have hP : va_P (dC, dI) clsL (wd_Re_node cI cZ a_t a_t_arcs a_t_split a_t_weight a_t_least a_t_most a_t_levelNodes a_t_levelWeight a_t_levelArc a_t_levelIn a_t_row a_t_isFree a_t_best a_t_above a_t_ordered a_t_parts (t_nodes + 1) t_kinds t_levels t_size t_base t_arcs t_split t_weight) H := hP
        have hD : va_D A (wd_Re_node cI cZ a_t a_t_arcs a_t_split a_t_weight a_t_least a_t_most a_t_levelNodes a_t_levelWeight a_t_levelArc a_t_levelIn a_t_row a_t_isFree a_t_best a_t_above a_t_ordered a_t_parts (t_nodes + 1) t_kinds t_levels t_size t_base t_arcs t_split t_weight) := hD
        have hf := Option.some.inj hf
        subst hf
        exact W.iret hx hb hr (fun t ht hW => ⟨⟨_, (), rfl, rfl, pst_of ht hP hD⟩, hS.F ht⟩) hS.2.2 dd_Re_node_103
      refine lv_iload_n hx hb dd_Re_node_48 rfl (lv_at hl 1 rfl) ?_
      refine lv_aload_n hx hb dd_Re_node_49 rfl (lv_at hl 0 rfl) ?_
      refine va_get (D := (dC, dI)) (ci := 9) (v := .int t_nodes) (C := rr_Re) (T := tt_Re) (N := 20) hx hb hts (fun w h => gwc (inn_Re w h)) hown hK hP 0 rfl rfl 0 (by decide) (hts _ (gwc gw_703)) (fun _ h9 => h9) rfl dd_Re_node_50 ?_
      refine lv_icmp_gt (tgt := 92) hx hb dd_Re_node_53 (by decide) (fun cc => ?_) (fun cc => ?_)
      · skip
        have hf := if_t cc hf
        exact h92 t_arcs t_split t_weight _ _ _ hf (lv_sub hl [0] rfl) hP hD hS
      · skip
        have hf := if_f cc hf
        refine lv_aload_n hx hb dd_Re_node_56 rfl (lv_at hl 0 rfl) ?_
        refine va_get (D := (dC, dI)) (ci := 9) (v := .ref a_t_arcs) (C := rr_Re) (T := tt_Re) (N := 20) hx hb hts (fun w h => gwc (inn_Re w h)) hown hK hP 0 rfl rfl 3 (by decide) (hts _ (gwc gw_706)) (fun _ h9 => h9) rfl dd_Re_node_57 ?_
        refine lv_bipush (v := 40) hx hb dd_Re_node_60 (by decide) ?_
        refine lv_aload_n hx hb dd_Re_node_62 rfl (lv_at hl 0 rfl) ?_
        refine va_get (D := (dC, dI)) (ci := 9) (v := .int t_nodes) (C := rr_Re) (T := tt_Re) (N := 20) hx hb hts (fun w h => gwc (inn_Re w h)) hown hK hP 0 rfl rfl 0 (by decide) (hts _ (gwc gw_703)) (fun _ h9 => h9) rfl dd_Re_node_63 ?_
        refine lv_imul hx hb dd_Re_node_66 ?_
        refine lv_iload_n hx hb dd_Re_node_67 rfl (lv_at hl 1 rfl) ?_
        refine lv_iadd hx hb dd_Re_node_68 ?_
        refine lv_iconst (v := 0) hx hb dd_Re_node_69 (by decide) ?_
        obtain ⟨k70, hf⟩ := ck_some hf
        refine va_iast hx hb hK hP hD hS 1 0 rfl rfl (okb_in k70) dd_Re_node_70 (fun H locs hP hD hS => ?_)
        have hP : va_P (dC, dI) clsL (wd_Re_node cI cZ a_t a_t_arcs a_t_split a_t_weight a_t_least a_t_most a_t_levelNodes a_t_levelWeight a_t_levelArc a_t_levelIn a_t_row a_t_isFree a_t_best a_t_above a_t_ordered a_t_parts t_nodes t_kinds t_levels t_size t_base (upd t_arcs ((40 * t_nodes) + x2).toNatClampNeg 0) t_split t_weight) H := hP
        have hD : va_D A (wd_Re_node cI cZ a_t a_t_arcs a_t_split a_t_weight a_t_least a_t_most a_t_levelNodes a_t_levelWeight a_t_levelArc a_t_levelIn a_t_row a_t_isFree a_t_best a_t_above a_t_ordered a_t_parts t_nodes t_kinds t_levels t_size t_base (upd t_arcs ((40 * t_nodes) + x2).toNatClampNeg 0) t_split t_weight) := hD
        refine lv_aload_n hx hb dd_Re_node_71 rfl (lv_at hl 0 rfl) ?_
        refine va_get (D := (dC, dI)) (ci := 9) (v := .ref a_t_arcs) (C := rr_Re) (T := tt_Re) (N := 20) hx hb hts (fun w h => gwc (inn_Re w h)) hown hK hP 0 rfl rfl 3 (by decide) (hts _ (gwc gw_706)) (fun _ h9 => h9) rfl dd_Re_node_72 ?_
        refine lv_bipush (v := 40) hx hb dd_Re_node_75 (by decide) ?_
        refine lv_iload_n hx hb dd_Re_node_77 rfl (lv_at hl 1 rfl) ?_
        refine lv_imul hx hb dd_Re_node_78 ?_
        refine lv_aload_n hx hb dd_Re_node_79 rfl (lv_at hl 0 rfl) ?_
        refine va_get (D := (dC, dI)) (ci := 9) (v := .int t_nodes) (C := rr_Re) (T := tt_Re) (N := 20) hx hb hts (fun w h => gwc (inn_Re w h)) hown hK hP 0 rfl rfl 0 (by decide) (hts _ (gwc gw_703)) (fun _ h9 => h9) rfl dd_Re_node_80 ?_
        refine lv_iadd hx hb dd_Re_node_83 ?_
        refine lv_iconst (v := 0) hx hb dd_Re_node_84 (by decide) ?_
        obtain ⟨k85, hf⟩ := ck_some hf
        refine va_iast hx hb hK hP hD hS 1 0 rfl rfl (okb_in k85) dd_Re_node_85 (fun H locs hP hD hS => ?_)
        have hP : va_P (dC, dI) clsL (wd_Re_node cI cZ a_t a_t_arcs a_t_split a_t_weight a_t_least a_t_most a_t_levelNodes a_t_levelWeight a_t_levelArc a_t_levelIn a_t_row a_t_isFree a_t_best a_t_above a_t_ordered a_t_parts t_nodes t_kinds t_levels t_size t_base (upd (upd t_arcs ((40 * t_nodes) + x2).toNatClampNeg 0) ((40 * x2) + t_nodes).toNatClampNeg 0) t_split t_weight) H := hP
        have hD : va_D A (wd_Re_node cI cZ a_t a_t_arcs a_t_split a_t_weight a_t_least a_t_most a_t_levelNodes a_t_levelWeight a_t_levelArc a_t_levelIn a_t_row a_t_isFree a_t_best a_t_above a_t_ordered a_t_parts t_nodes t_kinds t_levels t_size t_base (upd (upd t_arcs ((40 * t_nodes) + x2).toNatClampNeg 0) ((40 * x2) + t_nodes).toNatClampNeg 0) t_split t_weight) := hD
        refine lv_iinc (v := x2 + 1) (lv' := [(2, .int (x2 + 1)), (0, .ref a_t)]) hx hb dd_Re_node_86 hl (k := 1) rfl rfl (by decide) rfl (fun ls hl => ?_)
        refine lv_goto (tgt := 48) hx hb dd_Re_node_89 (by decide) ?_
        exact ih48 (x2 + 1) (upd (upd t_arcs ((40 * t_nodes) + x2).toNatClampNeg 0) ((40 * x2) + t_nodes).toNatClampNeg 0) t_split t_weight _ _ _ hf (lv_sub hl [1, 0] rfl) hP hD hS
  refine lv_iload_n hx hb dd_Re_node_0 rfl (lv_at hl 1 rfl) ?_
  refine lv_i2l hx hb dd_Re_node_1 rfl ?_
  refine lv_lconst (v := 1) hx hb dd_Re_node_2 (by decide) ?_
  refine lv_ldc2 (v := 1000) hx hb hown (hts _ (gwc gw_768)) dd_Re_node_3 ?_
  obtain ⟨r6, hr6, hf⟩ := bind_some hf
  refine xcalli (rest := []) (wc := (wd_Re_isIn cI cZ)) (w1 := (wd_Re_isIn cI cZ)) (wr := [(a_t, .inr (9, [.int t_nodes, .int t_kinds, .ref a_t_weight, .ref a_t_arcs, .ref a_t_split, .ref a_t_least, .ref a_t_most, .int t_levels, .ref a_t_levelNodes, .ref a_t_levelWeight, .ref a_t_levelArc, .ref a_t_levelIn, .int t_size, .int t_base, .ref a_t_row, .ref a_t_isFree, .ref a_t_best, .ref a_t_above, .ref a_t_ordered, .ref a_t_parts])), (a_t_arcs, .inl (cI, 1600, .inl t_arcs)), (a_t_split, .inl (cI, 40, .inl t_split)), (a_t_weight, .inl (cI, 40, .inl t_weight))]) (ws' := (wd_Re_node cI cZ a_t a_t_arcs a_t_split a_t_weight a_t_least a_t_most a_t_levelNodes a_t_levelWeight a_t_levelArc a_t_levelIn a_t_row a_t_isFree a_t_best a_t_above a_t_ordered a_t_parts t_nodes t_kinds t_levels t_size t_base t_arcs t_split t_weight)) (va_runS (As := [.long x1.toInt64, .long (1 : Int64), .long (1000 : Int64)]) ⟨hx, hb, hml, hown, hts⟩ (c_Re_isIn l dC dI cI cZ H.size x1.toInt64 (1 : Int64) (1000 : Int64) r6 hr6) (va_cwS 3 hts (gS gw_699 gw_700 gw_61 gw_701) rfl rfl rfl (yd_Re_isIn).2 ⟨Nat.le_of_ble_eq_true rfl, Nat.le_of_ble_eq_true rfl⟩) (mkS hK (hP.sub (ws' := (wd_Re_isIn cI cZ)) [] rfl) (hD.sub (ws' := (wd_Re_isIn cI cZ)) [] (by decide) rfl) hN) rfl rfl hl.1 rfl (lv_room (Nat.le_of_ble_eq_true rfl)) dd_Re_node_6 ⟨Nat.zero_le _, Nat.zero_le _⟩) hP hD hS hA [] [0, 1, 2, 3] [0, 1, 2, 3] rfl rfl (by decide) (by decide) rfl (by decide) rfl (fun H locs hP hD hS => ?_)
  refine lv_if_ne (tgt := 14) hx hb dd_Re_node_9 (by decide) (fun cc => ?_) (fun cc => ?_)
  · skip
    have hf := if_f cc hf
    refine lv_aload_n hx hb dd_Re_node_14 rfl (lv_at hl 0 rfl) ?_
    refine va_get (D := (dC, dI)) (ci := 9) (v := .int t_nodes) (C := rr_Re) (T := tt_Re) (N := 20) hx hb hts (fun w h => gwc (inn_Re w h)) hown hK hP 0 rfl rfl 0 (by decide) (hts _ (gwc gw_703)) (fun _ h9 => h9) rfl dd_Re_node_15 ?_
    refine lv_bipush (v := 40) hx hb dd_Re_node_18 (by decide) ?_
    refine lv_icmp_ne (tgt := 26) hx hb dd_Re_node_20 (by decide) (fun cc => ?_) (fun cc => ?_)
    · skip
      have hf := if_f cc hf
      refine lv_aload_n hx hb dd_Re_node_26 rfl (lv_at hl 0 rfl) ?_
      refine va_get (D := (dC, dI)) (ci := 9) (v := .ref a_t_weight) (C := rr_Re) (T := tt_Re) (N := 20) hx hb hts (fun w h => gwc (inn_Re w h)) hown hK hP 0 rfl rfl 2 (by decide) (hts _ (gwc gw_705)) (fun _ h9 => h9) rfl dd_Re_node_27 ?_
      refine lv_aload_n hx hb dd_Re_node_30 rfl (lv_at hl 0 rfl) ?_
      refine va_get (D := (dC, dI)) (ci := 9) (v := .int t_nodes) (C := rr_Re) (T := tt_Re) (N := 20) hx hb hts (fun w h => gwc (inn_Re w h)) hown hK hP 0 rfl rfl 0 (by decide) (hts _ (gwc gw_703)) (fun _ h9 => h9) rfl dd_Re_node_31 ?_
      refine lv_iload_n hx hb dd_Re_node_34 rfl (lv_at hl 1 rfl) ?_
      obtain ⟨k35, hf⟩ := ck_some hf
      refine va_iast hx hb hK hP hD hS 3 0 rfl rfl (okb_in k35) dd_Re_node_35 (fun H locs hP hD hS => ?_)
      have hP : va_P (dC, dI) clsL (wd_Re_node cI cZ a_t a_t_arcs a_t_split a_t_weight a_t_least a_t_most a_t_levelNodes a_t_levelWeight a_t_levelArc a_t_levelIn a_t_row a_t_isFree a_t_best a_t_above a_t_ordered a_t_parts t_nodes t_kinds t_levels t_size t_base t_arcs t_split (upd t_weight (t_nodes).toNatClampNeg x1)) H := hP
      have hD : va_D A (wd_Re_node cI cZ a_t a_t_arcs a_t_split a_t_weight a_t_least a_t_most a_t_levelNodes a_t_levelWeight a_t_levelArc a_t_levelIn a_t_row a_t_isFree a_t_best a_t_above a_t_ordered a_t_parts t_nodes t_kinds t_levels t_size t_base t_arcs t_split (upd t_weight (t_nodes).toNatClampNeg x1)) := hD
      refine lv_aload_n hx hb dd_Re_node_36 rfl (lv_at hl 0 rfl) ?_
      refine va_get (D := (dC, dI)) (ci := 9) (v := .ref a_t_split) (C := rr_Re) (T := tt_Re) (N := 20) hx hb hts (fun w h => gwc (inn_Re w h)) hown hK hP 0 rfl rfl 4 (by decide) (hts _ (gwc gw_707)) (fun _ h9 => h9) rfl dd_Re_node_37 ?_
      refine lv_aload_n hx hb dd_Re_node_40 rfl (lv_at hl 0 rfl) ?_
      refine va_get (D := (dC, dI)) (ci := 9) (v := .int t_nodes) (C := rr_Re) (T := tt_Re) (N := 20) hx hb hts (fun w h => gwc (inn_Re w h)) hown hK hP 0 rfl rfl 0 (by decide) (hts _ (gwc gw_703)) (fun _ h9 => h9) rfl dd_Re_node_41 ?_
      refine lv_iconst (v := 0) hx hb dd_Re_node_44 (by decide) ?_
      obtain ⟨k45, hf⟩ := ck_some hf
      refine va_iast hx hb hK hP hD hS 2 0 rfl rfl (okb_in k45) dd_Re_node_45 (fun H locs hP hD hS => ?_)
      have hP : va_P (dC, dI) clsL (wd_Re_node cI cZ a_t a_t_arcs a_t_split a_t_weight a_t_least a_t_most a_t_levelNodes a_t_levelWeight a_t_levelArc a_t_levelIn a_t_row a_t_isFree a_t_best a_t_above a_t_ordered a_t_parts t_nodes t_kinds t_levels t_size t_base t_arcs (upd t_split (t_nodes).toNatClampNeg 0) (upd t_weight (t_nodes).toNatClampNeg x1)) H := hP
      have hD : va_D A (wd_Re_node cI cZ a_t a_t_arcs a_t_split a_t_weight a_t_least a_t_most a_t_levelNodes a_t_levelWeight a_t_levelArc a_t_levelIn a_t_row a_t_isFree a_t_best a_t_above a_t_ordered a_t_parts t_nodes t_kinds t_levels t_size t_base t_arcs (upd t_split (t_nodes).toNatClampNeg 0) (upd t_weight (t_nodes).toNatClampNeg x1)) := hD
      refine lv_iconst (v := 0) hx hb dd_Re_node_46 (by decide) ?_
      refine lv_istore_n (lv' := [(2, .int 0), (0, .ref a_t), (1, .int x1)]) hx hb dd_Re_node_47 rfl hl (by decide) rfl (fun ls hl => ?_)
      exact h48 64 0 t_arcs (upd t_split (t_nodes).toNatClampNeg 0) (upd t_weight (t_nodes).toNatClampNeg x1) _ _ _ hf (lv_sub hl [1, 0] rfl) hP hD hS
    · skip
      have hf := if_t cc hf
      refine lv_bipush (v := -3) hx hb dd_Re_node_23 (by decide) ?_
      have hf := Option.some.inj hf
      subst hf
      exact W.iret hx hb hr (fun t ht hW => ⟨⟨_, (), rfl, rfl, pst_of ht hP hD⟩, hS.F ht⟩) hS.2.2 dd_Re_node_25
  · skip
    have hf := if_t cc hf
    refine lv_iconst (v := -1) hx hb dd_Re_node_12 (by decide) ?_
    have hf := Option.some.inj hf
    subst hf
    exact W.iret hx hb hr (fun t ht hW => ⟨⟨_, (), rfl, rfl, pst_of ht hP hD⟩, hS.F ht⟩) hS.2.2 dd_Re_node_13
abbrev wd_Re_isNode (cI cZ : ClassId) (a_t a_t_weight a_t_arcs a_t_split a_t_least a_t_most a_t_levelNodes a_t_levelWeight a_t_levelArc a_t_levelIn a_t_row a_t_isFree a_t_best a_t_above a_t_ordered a_t_parts : Nat) (t_nodes : Int32) (t_kinds : Int32) (t_levels : Int32) (t_size : Int32) (t_base : Int32) : va_W := [(a_t, .inr (9, [.int t_nodes, .int t_kinds, .ref a_t_weight, .ref a_t_arcs, .ref a_t_split, .ref a_t_least, .ref a_t_most, .int t_levels, .ref a_t_levelNodes, .ref a_t_levelWeight, .ref a_t_levelArc, .ref a_t_levelIn, .int t_size, .int t_base, .ref a_t_row, .ref a_t_isFree, .ref a_t_best, .ref a_t_above, .ref a_t_ordered, .ref a_t_parts]))]
set_option maxRecDepth 100000 in
set_option maxHeartbeats 4000000 in
theorem c_Re_isNode (l : Launch) (dC : Nat → ClassId) (dI : Nat → Nat → Nat) (cI cZ : ClassId) (a_t a_t_weight a_t_arcs a_t_split a_t_least a_t_most a_t_levelNodes a_t_levelWeight a_t_levelArc a_t_levelIn a_t_row a_t_isFree a_t_best a_t_above a_t_ordered a_t_parts sz : Nat) (x1 : Int32) (t_nodes : Int32) (t_kinds : Int32) (t_levels : Int32) (t_size : Int32) (t_base : Int32) (out : Int32) (hf : f_Re_isNode x1 t_nodes = some out) :
    Met l yy_Re_isNode wq_Re_isNode ({ frames := 1, cells := 0, slots := 0, locals := 25 }) (va_Pc ([.ref a_t, .int x1] : List Value) (pre_ (dC, dI) cI cZ sz (wd_Re_isNode cI cZ a_t a_t_weight a_t_arcs a_t_split a_t_least a_t_most a_t_levelNodes a_t_levelWeight a_t_levelArc a_t_levelIn a_t_row a_t_isFree a_t_best a_t_above a_t_ordered a_t_parts t_nodes t_kinds t_levels t_size t_base))) (va_Qi (fun (r : Int32) (_ : Unit) => r = out) (fun _ => pst (dC, dI) (va_A (wd_Re_isNode cI cZ a_t a_t_weight a_t_arcs a_t_split a_t_least a_t_most a_t_levelNodes a_t_levelWeight a_t_levelArc a_t_levelIn a_t_row a_t_isFree a_t_best a_t_above a_t_ordered a_t_parts t_nodes t_kinds t_levels t_size t_base) sz) (wd_Re_isNode cI cZ a_t a_t_weight a_t_arcs a_t_split a_t_least a_t_most a_t_levelNodes a_t_levelWeight a_t_levelArc a_t_levelIn a_t_row a_t_isFree a_t_best a_t_above a_t_ordered a_t_parts t_nodes t_kinds t_levels t_size t_base)) (va_A (wd_Re_isNode cI cZ a_t a_t_weight a_t_arcs a_t_split a_t_least a_t_most a_t_levelNodes a_t_levelWeight a_t_levelArc a_t_levelIn a_t_row a_t_isFree a_t_best a_t_above a_t_ordered a_t_parts t_nodes t_kinds t_levels t_size t_base) sz)) 0 0 (va_A (wd_Re_isNode cI cZ a_t a_t_weight a_t_arcs a_t_split a_t_least a_t_most a_t_levelNodes a_t_levelWeight a_t_levelArc a_t_levelIn a_t_row a_t_isFree a_t_best a_t_above a_t_ordered a_t_parts t_nodes t_kinds t_levels t_size t_base) sz) := by
  refine Met.ofW (cc := cc_Re_isNode) (maxL := 2) (ret := (some .boolean)) (by decide) rfl ?_
  intro p e s m args below meth c s₁ B hml hv
  obtain ⟨rfl, hsz, hP, hK, hD0, hN⟩ := hv
  have hx := B.exec
  have hb := B.bytes
  have hr := B.returns
  have hts := atoms_spec (ws := wq_Re_isNode) B.pre
  have hown : s.vm.findClass rr_Re = some m.cls := findClass_of_methodNamed B.named
  have hlocks := B.notSynchronized
  subst hsz
  have hD := hD0.self (sz := s.heap.size)
  generalize hAe : va_A (wd_Re_isNode cI cZ a_t a_t_weight a_t_arcs a_t_split a_t_least a_t_most a_t_levelNodes a_t_levelWeight a_t_levelArc a_t_levelIn a_t_row a_t_isFree a_t_best a_t_above a_t_ordered a_t_parts t_nodes t_kinds t_levels t_size t_base) s.heap.size = A at hD ⊢
  have hA : ∀ q : Nat, s.heap.size ≤ q → A q := fun q h => by rw [← hAe]; exact Or.inr h
  obtain ⟨H, hH⟩ : ∃ H : Heap, H = s.heap := ⟨_, rfl⟩
  have hS : va_S A s.heap H [] := by rw [hH]; exact va_S.rf
  have hl := lv_entry (([.ref a_t, .int x1] : List Value)) (n := 2) (Nat.le_of_ble_eq_true rfl)
  rw [lg_entry_eq]
  generalize (lg_sl (([.ref a_t, .int x1] : List Value)) ++ List.replicate (2 - (lg_sl (([.ref a_t, .int x1] : List Value))).length) Slot.unset).toArray = ls at hl ⊢
  have hl : lv_has ls 2 [(0, .ref a_t), (1, .int x1)] := hl
  rw [← hH] at hP ⊢
  have hP : va_P (dC, dI) clsL (wd_Re_isNode cI cZ a_t a_t_weight a_t_arcs a_t_split a_t_least a_t_most a_t_levelNodes a_t_levelWeight a_t_levelArc a_t_levelIn a_t_row a_t_isFree a_t_best a_t_above a_t_ordered a_t_parts t_nodes t_kinds t_levels t_size t_base) H := hP
  unfold f_Re_isNode at hf
  refine lv_iload_n hx hb dd_Re_isNode_0 rfl (lv_at hl 1 rfl) ?_
  refine lv_i2l hx hb dd_Re_isNode_1 rfl ?_
  refine lv_lconst (v := 0) hx hb dd_Re_isNode_2 (by decide) ?_
  refine lv_aload_n hx hb dd_Re_isNode_3 rfl (lv_at hl 0 rfl) ?_
  refine va_get (D := (dC, dI)) (ci := 9) (v := .int t_nodes) (C := rr_Re) (T := tt_Re) (N := 20) hx hb hts (fun w h => gwc (inn_Re w h)) hown hK hP 0 rfl rfl 0 (by decide) (hts _ (gwc gw_703)) (fun _ h9 => h9) rfl dd_Re_isNode_4 ?_
  refine lv_iconst (v := 1) hx hb dd_Re_isNode_7 (by decide) ?_
  refine lv_isub hx hb dd_Re_isNode_8 ?_
  refine lv_i2l hx hb dd_Re_isNode_9 rfl ?_
  obtain ⟨r10, hr10, hf⟩ := bind_some hf
  refine xcalli (rest := []) (wc := (wd_Re_isIn cI cZ)) (w1 := (wd_Re_isIn cI cZ)) (wr := [(a_t, .inr (9, [.int t_nodes, .int t_kinds, .ref a_t_weight, .ref a_t_arcs, .ref a_t_split, .ref a_t_least, .ref a_t_most, .int t_levels, .ref a_t_levelNodes, .ref a_t_levelWeight, .ref a_t_levelArc, .ref a_t_levelIn, .int t_size, .int t_base, .ref a_t_row, .ref a_t_isFree, .ref a_t_best, .ref a_t_above, .ref a_t_ordered, .ref a_t_parts]))]) (ws' := (wd_Re_isNode cI cZ a_t a_t_weight a_t_arcs a_t_split a_t_least a_t_most a_t_levelNodes a_t_levelWeight a_t_levelArc a_t_levelIn a_t_row a_t_isFree a_t_best a_t_above a_t_ordered a_t_parts t_nodes t_kinds t_levels t_size t_base)) (va_runS (As := [.long x1.toInt64, .long (0 : Int64), .long ((t_nodes - 1).toInt64)]) ⟨hx, hb, hml, hown, hts⟩ (c_Re_isIn l dC dI cI cZ H.size x1.toInt64 (0 : Int64) ((t_nodes - 1).toInt64) r10 hr10) (va_cwS 3 hts (gS gw_699 gw_700 gw_61 gw_701) rfl rfl rfl (yd_Re_isIn).2 ⟨Nat.le_of_ble_eq_true rfl, Nat.le_of_ble_eq_true rfl⟩) (mkS hK (hP.sub (ws' := (wd_Re_isIn cI cZ)) [] rfl) (hD.sub (ws' := (wd_Re_isIn cI cZ)) [] (by decide) rfl) hN) rfl rfl hl.1 rfl (lv_room (Nat.le_of_ble_eq_true rfl)) dd_Re_isNode_10 ⟨Nat.zero_le _, Nat.zero_le _⟩) hP hD hS hA [] [0] [0] rfl rfl (by decide) (by decide) rfl (by decide) rfl (fun H locs hP hD hS => ?_)
  obtain ⟨k13, hf⟩ := ck_some hf
  have hf := Option.some.inj hf
  subst hf
  exact W.zret hx hb hr (okB_n k13) (fun t ht hW => ⟨⟨_, (), rfl, rfl, pst_of ht hP hD⟩, hS.F ht⟩) hS.2.2 dd_Re_isNode_13
abbrev wd_Re_arc (cI cZ : ClassId) (a_t a_t_arcs a_t_weight a_t_split a_t_least a_t_most a_t_levelNodes a_t_levelWeight a_t_levelArc a_t_levelIn a_t_row a_t_isFree a_t_best a_t_above a_t_ordered a_t_parts : Nat) (t_nodes : Int32) (t_kinds : Int32) (t_levels : Int32) (t_size : Int32) (t_base : Int32) (t_arcs : Nat → Int32) : va_W := [(a_t, .inr (9, [.int t_nodes, .int t_kinds, .ref a_t_weight, .ref a_t_arcs, .ref a_t_split, .ref a_t_least, .ref a_t_most, .int t_levels, .ref a_t_levelNodes, .ref a_t_levelWeight, .ref a_t_levelArc, .ref a_t_levelIn, .int t_size, .int t_base, .ref a_t_row, .ref a_t_isFree, .ref a_t_best, .ref a_t_above, .ref a_t_ordered, .ref a_t_parts])), (a_t_arcs, .inl (cI, 1600, .inl t_arcs))]
set_option maxRecDepth 100000 in
set_option maxHeartbeats 4000000 in
theorem c_Re_arc (l : Launch) (dC : Nat → ClassId) (dI : Nat → Nat → Nat) (cI cZ : ClassId) (a_t a_t_arcs a_t_weight a_t_split a_t_least a_t_most a_t_levelNodes a_t_levelWeight a_t_levelArc a_t_levelIn a_t_row a_t_isFree a_t_best a_t_above a_t_ordered a_t_parts sz : Nat) (x1 : Int32) (x2 : Int32) (x3 : Int32) (t_nodes : Int32) (t_kinds : Int32) (t_levels : Int32) (t_size : Int32) (t_base : Int32) (t_arcs : Nat → Int32) (out : Int32 × (Nat → Int32)) (hf : f_Re_arc x1 x2 x3 t_nodes t_arcs = some out) :
    Met l yy_Re_arc wq_Re_arc ({ frames := 2, cells := 0, slots := 0, locals := 46 }) (va_Pc ([.ref a_t, .int x1, .int x2, .int x3] : List Value) (pre_ (dC, dI) cI cZ sz (wd_Re_arc cI cZ a_t a_t_arcs a_t_weight a_t_split a_t_least a_t_most a_t_levelNodes a_t_levelWeight a_t_levelArc a_t_levelIn a_t_row a_t_isFree a_t_best a_t_above a_t_ordered a_t_parts t_nodes t_kinds t_levels t_size t_base t_arcs))) (va_Qi (fun (r : Int32) (_ : Unit) => r = out.1) (fun _ => pst (dC, dI) (va_A (wd_Re_arc cI cZ a_t a_t_arcs a_t_weight a_t_split a_t_least a_t_most a_t_levelNodes a_t_levelWeight a_t_levelArc a_t_levelIn a_t_row a_t_isFree a_t_best a_t_above a_t_ordered a_t_parts t_nodes t_kinds t_levels t_size t_base t_arcs) sz) (wd_Re_arc cI cZ a_t a_t_arcs a_t_weight a_t_split a_t_least a_t_most a_t_levelNodes a_t_levelWeight a_t_levelArc a_t_levelIn a_t_row a_t_isFree a_t_best a_t_above a_t_ordered a_t_parts t_nodes t_kinds t_levels t_size t_base out.2)) (va_A (wd_Re_arc cI cZ a_t a_t_arcs a_t_weight a_t_split a_t_least a_t_most a_t_levelNodes a_t_levelWeight a_t_levelArc a_t_levelIn a_t_row a_t_isFree a_t_best a_t_above a_t_ordered a_t_parts t_nodes t_kinds t_levels t_size t_base t_arcs) sz)) 0 0 (va_A (wd_Re_arc cI cZ a_t a_t_arcs a_t_weight a_t_split a_t_least a_t_most a_t_levelNodes a_t_levelWeight a_t_levelArc a_t_levelIn a_t_row a_t_isFree a_t_best a_t_above a_t_ordered a_t_parts t_nodes t_kinds t_levels t_size t_base t_arcs) sz) := by
  refine Met.ofW (cc := cc_Re_arc) (maxL := 5) (ret := (some .int)) (by decide) rfl ?_
  intro p e s m args below meth c s₁ B hml hv
  obtain ⟨rfl, hsz, hP, hK, hD0, hN⟩ := hv
  have hx := B.exec
  have hb := B.bytes
  have hr := B.returns
  have hts := atoms_spec (ws := wq_Re_arc) B.pre
  have hown : s.vm.findClass rr_Re = some m.cls := findClass_of_methodNamed B.named
  have hlocks := B.notSynchronized
  subst hsz
  have hD := hD0.self (sz := s.heap.size)
  generalize hAe : va_A (wd_Re_arc cI cZ a_t a_t_arcs a_t_weight a_t_split a_t_least a_t_most a_t_levelNodes a_t_levelWeight a_t_levelArc a_t_levelIn a_t_row a_t_isFree a_t_best a_t_above a_t_ordered a_t_parts t_nodes t_kinds t_levels t_size t_base t_arcs) s.heap.size = A at hD ⊢
  have hA : ∀ q : Nat, s.heap.size ≤ q → A q := fun q h => by rw [← hAe]; exact Or.inr h
  obtain ⟨H, hH⟩ : ∃ H : Heap, H = s.heap := ⟨_, rfl⟩
  have hS : va_S A s.heap H [] := by rw [hH]; exact va_S.rf
  have hl := lv_entry (([.ref a_t, .int x1, .int x2, .int x3] : List Value)) (n := 5) (Nat.le_of_ble_eq_true rfl)
  rw [lg_entry_eq]
  generalize (lg_sl (([.ref a_t, .int x1, .int x2, .int x3] : List Value)) ++ List.replicate (5 - (lg_sl (([.ref a_t, .int x1, .int x2, .int x3] : List Value))).length) Slot.unset).toArray = ls at hl ⊢
  have hl : lv_has ls 5 [(0, .ref a_t), (1, .int x1), (2, .int x2), (3, .int x3)] := hl
  rw [← hH] at hP ⊢
  have hP : va_P (dC, dI) clsL (wd_Re_arc cI cZ a_t a_t_arcs a_t_weight a_t_split a_t_least a_t_most a_t_levelNodes a_t_levelWeight a_t_levelArc a_t_levelIn a_t_row a_t_isFree a_t_best a_t_above a_t_ordered a_t_parts t_nodes t_kinds t_levels t_size t_base t_arcs) H := hP
  unfold f_Re_arc at hf
  refine lv_aload_n hx hb dd_Re_arc_0 rfl (lv_at hl 0 rfl) ?_
  refine lv_iload_n hx hb dd_Re_arc_1 rfl (lv_at hl 1 rfl) ?_
  obtain ⟨r2, hr2, hf⟩ := bind_some hf
  refine xcalli (rest := []) (wc := (wd_Re_isNode cI cZ a_t a_t_weight a_t_arcs a_t_split a_t_least a_t_most a_t_levelNodes a_t_levelWeight a_t_levelArc a_t_levelIn a_t_row a_t_isFree a_t_best a_t_above a_t_ordered a_t_parts t_nodes t_kinds t_levels t_size t_base)) (w1 := (wd_Re_isNode cI cZ a_t a_t_weight a_t_arcs a_t_split a_t_least a_t_most a_t_levelNodes a_t_levelWeight a_t_levelArc a_t_levelIn a_t_row a_t_isFree a_t_best a_t_above a_t_ordered a_t_parts t_nodes t_kinds t_levels t_size t_base)) (wr := [(a_t_arcs, .inl (cI, 1600, .inl t_arcs))]) (ws' := (wd_Re_arc cI cZ a_t a_t_arcs a_t_weight a_t_split a_t_least a_t_most a_t_levelNodes a_t_levelWeight a_t_levelArc a_t_levelIn a_t_row a_t_isFree a_t_best a_t_above a_t_ordered a_t_parts t_nodes t_kinds t_levels t_size t_base t_arcs)) (va_runV (As := [.int x1]) ⟨hx, hb, hml, hown, hts⟩ (c_Re_isNode l dC dI cI cZ a_t a_t_weight a_t_arcs a_t_split a_t_least a_t_most a_t_levelNodes a_t_levelWeight a_t_levelArc a_t_levelIn a_t_row a_t_isFree a_t_best a_t_above a_t_ordered a_t_parts H.size x1 t_nodes t_kinds t_levels t_size t_base r2 hr2) (cwV 1 hts (gV gw_773 gw_775 gw_29 gw_61 gw_776) rfl rfl rfl (yd_Re_isNode) ⟨Nat.le_of_ble_eq_true rfl, Nat.le_of_ble_eq_true rfl⟩) (mkV hK (hP.sub (ws' := (wd_Re_isNode cI cZ a_t a_t_weight a_t_arcs a_t_split a_t_least a_t_most a_t_levelNodes a_t_levelWeight a_t_levelArc a_t_levelIn a_t_row a_t_isFree a_t_best a_t_above a_t_ordered a_t_parts t_nodes t_kinds t_levels t_size t_base)) [0] rfl) (hD.sub (ws' := (wd_Re_isNode cI cZ a_t a_t_weight a_t_arcs a_t_split a_t_least a_t_most a_t_levelNodes a_t_levelWeight a_t_levelArc a_t_levelIn a_t_row a_t_isFree a_t_best a_t_above a_t_ordered a_t_parts t_nodes t_kinds t_levels t_size t_base)) [0] (by decide) rfl) hN (va_recv hK hP (ci := 9) (q0 := 0) rfl rfl)) rfl rfl hl.1 rfl (lv_room (Nat.le_of_ble_eq_true rfl)) dd_Re_arc_2 ⟨Nat.zero_le _, Nat.zero_le _⟩) hP hD hS hA [0] [1] [1, 0] rfl rfl (by decide) (by decide) rfl (by decide) rfl (fun H locs hP hD hS => ?_)
  refine lv_if_eq (tgt := 33) hx hb dd_Re_arc_5 (by decide) (fun cc => ?_) (fun cc => ?_)
  · skip
    have hf := if_t cc hf
    refine lv_iconst (v := -1) hx hb dd_Re_arc_33 (by decide) ?_
    have hf := Option.some.inj hf
    subst hf
    exact W.iret hx hb hr (fun t ht hW => ⟨⟨_, (), rfl, rfl, pst_of ht hP hD⟩, hS.F ht⟩) hS.2.2 dd_Re_arc_34
  · skip
    have hf := if_f cc hf
    refine lv_aload_n hx hb dd_Re_arc_8 rfl (lv_at hl 0 rfl) ?_
    refine lv_iload_n hx hb dd_Re_arc_9 rfl (lv_at hl 2 rfl) ?_
    obtain ⟨r10, hr10, hf⟩ := bind_some hf
    refine xcalli (rest := []) (wc := (wd_Re_isNode cI cZ a_t a_t_weight a_t_arcs a_t_split a_t_least a_t_most a_t_levelNodes a_t_levelWeight a_t_levelArc a_t_levelIn a_t_row a_t_isFree a_t_best a_t_above a_t_ordered a_t_parts t_nodes t_kinds t_levels t_size t_base)) (w1 := (wd_Re_isNode cI cZ a_t a_t_weight a_t_arcs a_t_split a_t_least a_t_most a_t_levelNodes a_t_levelWeight a_t_levelArc a_t_levelIn a_t_row a_t_isFree a_t_best a_t_above a_t_ordered a_t_parts t_nodes t_kinds t_levels t_size t_base)) (wr := [(a_t_arcs, .inl (cI, 1600, .inl t_arcs))]) (ws' := (wd_Re_arc cI cZ a_t a_t_arcs a_t_weight a_t_split a_t_least a_t_most a_t_levelNodes a_t_levelWeight a_t_levelArc a_t_levelIn a_t_row a_t_isFree a_t_best a_t_above a_t_ordered a_t_parts t_nodes t_kinds t_levels t_size t_base t_arcs)) (va_runV (As := [.int x2]) ⟨hx, hb, hml, hown, hts⟩ (c_Re_isNode l dC dI cI cZ a_t a_t_weight a_t_arcs a_t_split a_t_least a_t_most a_t_levelNodes a_t_levelWeight a_t_levelArc a_t_levelIn a_t_row a_t_isFree a_t_best a_t_above a_t_ordered a_t_parts H.size x2 t_nodes t_kinds t_levels t_size t_base r10 hr10) (cwV 1 hts (gV gw_773 gw_775 gw_29 gw_61 gw_776) rfl rfl rfl (yd_Re_isNode) ⟨Nat.le_of_ble_eq_true rfl, Nat.le_of_ble_eq_true rfl⟩) (mkV hK (hP.sub (ws' := (wd_Re_isNode cI cZ a_t a_t_weight a_t_arcs a_t_split a_t_least a_t_most a_t_levelNodes a_t_levelWeight a_t_levelArc a_t_levelIn a_t_row a_t_isFree a_t_best a_t_above a_t_ordered a_t_parts t_nodes t_kinds t_levels t_size t_base)) [0] rfl) (hD.sub (ws' := (wd_Re_isNode cI cZ a_t a_t_weight a_t_arcs a_t_split a_t_least a_t_most a_t_levelNodes a_t_levelWeight a_t_levelArc a_t_levelIn a_t_row a_t_isFree a_t_best a_t_above a_t_ordered a_t_parts t_nodes t_kinds t_levels t_size t_base)) [0] (by decide) rfl) hN (va_recv hK hP (ci := 9) (q0 := 0) rfl rfl)) rfl rfl hl.1 rfl (lv_room (Nat.le_of_ble_eq_true rfl)) dd_Re_arc_10 ⟨Nat.zero_le _, Nat.zero_le _⟩) hP hD hS hA [0] [1] [1, 0] rfl rfl (by decide) (by decide) rfl (by decide) rfl (fun H locs hP hD hS => ?_)
    refine lv_if_eq (tgt := 33) hx hb dd_Re_arc_13 (by decide) (fun cc => ?_) (fun cc => ?_)
    · skip
      have hf := if_t cc hf
      refine lv_iconst (v := -1) hx hb dd_Re_arc_33 (by decide) ?_
      have hf := Option.some.inj hf
      subst hf
      exact W.iret hx hb hr (fun t ht hW => ⟨⟨_, (), rfl, rfl, pst_of ht hP hD⟩, hS.F ht⟩) hS.2.2 dd_Re_arc_34
    · skip
      have hf := if_f cc hf
      refine lv_iload_n hx hb dd_Re_arc_16 rfl (lv_at hl 1 rfl) ?_
      refine lv_iload_n hx hb dd_Re_arc_17 rfl (lv_at hl 2 rfl) ?_
      refine lv_icmp_eq (tgt := 33) hx hb dd_Re_arc_18 (by decide) (fun cc => ?_) (fun cc => ?_)
      · skip
        have hf := if_t cc hf
        refine lv_iconst (v := -1) hx hb dd_Re_arc_33 (by decide) ?_
        have hf := Option.some.inj hf
        subst hf
        exact W.iret hx hb hr (fun t ht hW => ⟨⟨_, (), rfl, rfl, pst_of ht hP hD⟩, hS.F ht⟩) hS.2.2 dd_Re_arc_34
      · skip
        have hf := if_f cc hf
        refine lv_iload_n hx hb dd_Re_arc_21 rfl (lv_at hl 3 rfl) ?_
        refine lv_i2l hx hb dd_Re_arc_22 rfl ?_
        refine lv_lconst (v := 1) hx hb dd_Re_arc_23 (by decide) ?_
        refine lv_ldc2 (v := 1000) hx hb hown (hts _ (gwc gw_768)) dd_Re_arc_24 ?_
        obtain ⟨r27, hr27, hf⟩ := bind_some hf
        refine xcalli (rest := []) (wc := (wd_Re_isIn cI cZ)) (w1 := (wd_Re_isIn cI cZ)) (wr := [(a_t, .inr (9, [.int t_nodes, .int t_kinds, .ref a_t_weight, .ref a_t_arcs, .ref a_t_split, .ref a_t_least, .ref a_t_most, .int t_levels, .ref a_t_levelNodes, .ref a_t_levelWeight, .ref a_t_levelArc, .ref a_t_levelIn, .int t_size, .int t_base, .ref a_t_row, .ref a_t_isFree, .ref a_t_best, .ref a_t_above, .ref a_t_ordered, .ref a_t_parts])), (a_t_arcs, .inl (cI, 1600, .inl t_arcs))]) (ws' := (wd_Re_arc cI cZ a_t a_t_arcs a_t_weight a_t_split a_t_least a_t_most a_t_levelNodes a_t_levelWeight a_t_levelArc a_t_levelIn a_t_row a_t_isFree a_t_best a_t_above a_t_ordered a_t_parts t_nodes t_kinds t_levels t_size t_base t_arcs)) (va_runS (As := [.long x3.toInt64, .long (1 : Int64), .long (1000 : Int64)]) ⟨hx, hb, hml, hown, hts⟩ (c_Re_isIn l dC dI cI cZ H.size x3.toInt64 (1 : Int64) (1000 : Int64) r27 hr27) (va_cwS 3 hts (gS gw_699 gw_700 gw_61 gw_701) rfl rfl rfl (yd_Re_isIn).2 ⟨Nat.le_of_ble_eq_true rfl, Nat.le_of_ble_eq_true rfl⟩) (mkS hK (hP.sub (ws' := (wd_Re_isIn cI cZ)) [] rfl) (hD.sub (ws' := (wd_Re_isIn cI cZ)) [] (by decide) rfl) hN) rfl rfl hl.1 rfl (lv_room (Nat.le_of_ble_eq_true rfl)) dd_Re_arc_27 ⟨Nat.zero_le _, Nat.zero_le _⟩) hP hD hS hA [] [0, 1] [0, 1] rfl rfl (by decide) (by decide) rfl (by decide) rfl (fun H locs hP hD hS => ?_)
        refine lv_if_ne (tgt := 35) hx hb dd_Re_arc_30 (by decide) (fun cc => ?_) (fun cc => ?_)
        · skip
          have hf := if_f cc hf
          refine lv_aload_n hx hb dd_Re_arc_35 rfl (lv_at hl 0 rfl) ?_
          refine va_get (D := (dC, dI)) (ci := 9) (v := .ref a_t_arcs) (C := rr_Re) (T := tt_Re) (N := 20) hx hb hts (fun w h => gwc (inn_Re w h)) hown hK hP 0 rfl rfl 3 (by decide) (hts _ (gwc gw_706)) (fun _ h9 => h9) rfl dd_Re_arc_36 ?_
          refine lv_bipush (v := 40) hx hb dd_Re_arc_39 (by decide) ?_
          refine lv_iload_n hx hb dd_Re_arc_41 rfl (lv_at hl 1 rfl) ?_
          refine lv_imul hx hb dd_Re_arc_42 ?_
          refine lv_iload_n hx hb dd_Re_arc_43 rfl (lv_at hl 2 rfl) ?_
          refine lv_iadd hx hb dd_Re_arc_44 ?_
          obtain ⟨k45, hf⟩ := ck_some hf
          refine va_iald hx hb hK hP 1 0 rfl rfl (okb_in k45) dd_Re_arc_45 ?_
          refine lv_iload_n hx hb dd_Re_arc_46 rfl (lv_at hl 3 rfl) ?_
          refine lv_iadd hx hb dd_Re_arc_47 ?_
          refine lv_istore (lv' := [(4, .int ((t_arcs ((40 * x1) + x2).toNatClampNeg) + x3)), (0, .ref a_t), (1, .int x1), (2, .int x2), (3, .int x3)]) hx hb dd_Re_arc_48 hl (by decide) rfl (fun ls hl => ?_)
          refine lv_iload hx hb dd_Re_arc_50 (lv_at hl 0 rfl) ?_
          refine lv_ldc (v := 1000000) hx hb hown (hts _ (gwc gw_702)) dd_Re_arc_52 ?_
          refine lv_icmp_le (tgt := 60) hx hb dd_Re_arc_54 (by decide) (fun cc => ?_) (fun cc => ?_)
          · skip
            have hf := if_t cc hf
            refine lv_aload_n hx hb dd_Re_arc_60 rfl (lv_at hl 1 rfl) ?_
            refine va_get (D := (dC, dI)) (ci := 9) (v := .ref a_t_arcs) (C := rr_Re) (T := tt_Re) (N := 20) hx hb hts (fun w h => gwc (inn_Re w h)) hown hK hP 0 rfl rfl 3 (by decide) (hts _ (gwc gw_706)) (fun _ h9 => h9) rfl dd_Re_arc_61 ?_
            refine lv_bipush (v := 40) hx hb dd_Re_arc_64 (by decide) ?_
            refine lv_iload_n hx hb dd_Re_arc_66 rfl (lv_at hl 2 rfl) ?_
            refine lv_imul hx hb dd_Re_arc_67 ?_
            refine lv_iload_n hx hb dd_Re_arc_68 rfl (lv_at hl 3 rfl) ?_
            refine lv_iadd hx hb dd_Re_arc_69 ?_
            refine lv_iload hx hb dd_Re_arc_70 (lv_at hl 0 rfl) ?_
            obtain ⟨k72, hf⟩ := ck_some hf
            refine va_iast hx hb hK hP hD hS 1 0 rfl rfl (okb_in k72) dd_Re_arc_72 (fun H locs hP hD hS => ?_)
            have hP : va_P (dC, dI) clsL (wd_Re_arc cI cZ a_t a_t_arcs a_t_weight a_t_split a_t_least a_t_most a_t_levelNodes a_t_levelWeight a_t_levelArc a_t_levelIn a_t_row a_t_isFree a_t_best a_t_above a_t_ordered a_t_parts t_nodes t_kinds t_levels t_size t_base (upd t_arcs ((40 * x1) + x2).toNatClampNeg ((t_arcs ((40 * x1) + x2).toNatClampNeg) + x3))) H := hP
            have hD : va_D A (wd_Re_arc cI cZ a_t a_t_arcs a_t_weight a_t_split a_t_least a_t_most a_t_levelNodes a_t_levelWeight a_t_levelArc a_t_levelIn a_t_row a_t_isFree a_t_best a_t_above a_t_ordered a_t_parts t_nodes t_kinds t_levels t_size t_base (upd t_arcs ((40 * x1) + x2).toNatClampNeg ((t_arcs ((40 * x1) + x2).toNatClampNeg) + x3))) := hD
            refine lv_aload_n hx hb dd_Re_arc_73 rfl (lv_at hl 1 rfl) ?_
            refine va_get (D := (dC, dI)) (ci := 9) (v := .ref a_t_arcs) (C := rr_Re) (T := tt_Re) (N := 20) hx hb hts (fun w h => gwc (inn_Re w h)) hown hK hP 0 rfl rfl 3 (by decide) (hts _ (gwc gw_706)) (fun _ h9 => h9) rfl dd_Re_arc_74 ?_
            refine lv_bipush (v := 40) hx hb dd_Re_arc_77 (by decide) ?_
            refine lv_iload_n hx hb dd_Re_arc_79 rfl (lv_at hl 3 rfl) ?_
            refine lv_imul hx hb dd_Re_arc_80 ?_
            refine lv_iload_n hx hb dd_Re_arc_81 rfl (lv_at hl 2 rfl) ?_
            refine lv_iadd hx hb dd_Re_arc_82 ?_
            refine lv_iload hx hb dd_Re_arc_83 (lv_at hl 0 rfl) ?_
            obtain ⟨k85, hf⟩ := ck_some hf
            refine va_iast hx hb hK hP hD hS 1 0 rfl rfl (okb_in k85) dd_Re_arc_85 (fun H locs hP hD hS => ?_)
            have hP : va_P (dC, dI) clsL (wd_Re_arc cI cZ a_t a_t_arcs a_t_weight a_t_split a_t_least a_t_most a_t_levelNodes a_t_levelWeight a_t_levelArc a_t_levelIn a_t_row a_t_isFree a_t_best a_t_above a_t_ordered a_t_parts t_nodes t_kinds t_levels t_size t_base (upd (upd t_arcs ((40 * x1) + x2).toNatClampNeg ((t_arcs ((40 * x1) + x2).toNatClampNeg) + x3)) ((40 * x2) + x1).toNatClampNeg ((t_arcs ((40 * x1) + x2).toNatClampNeg) + x3))) H := hP
            have hD : va_D A (wd_Re_arc cI cZ a_t a_t_arcs a_t_weight a_t_split a_t_least a_t_most a_t_levelNodes a_t_levelWeight a_t_levelArc a_t_levelIn a_t_row a_t_isFree a_t_best a_t_above a_t_ordered a_t_parts t_nodes t_kinds t_levels t_size t_base (upd (upd t_arcs ((40 * x1) + x2).toNatClampNeg ((t_arcs ((40 * x1) + x2).toNatClampNeg) + x3)) ((40 * x2) + x1).toNatClampNeg ((t_arcs ((40 * x1) + x2).toNatClampNeg) + x3))) := hD
            refine lv_iload hx hb dd_Re_arc_86 (lv_at hl 0 rfl) ?_
            have hf := Option.some.inj hf
            subst hf
            exact W.iret hx hb hr (fun t ht hW => ⟨⟨_, (), rfl, rfl, pst_of ht hP hD⟩, hS.F ht⟩) hS.2.2 dd_Re_arc_88
          · skip
            have hf := if_f cc hf
            refine lv_bipush (v := -3) hx hb dd_Re_arc_57 (by decide) ?_
            have hf := Option.some.inj hf
            subst hf
            exact W.iret hx hb hr (fun t ht hW => ⟨⟨_, (), rfl, rfl, pst_of ht hP hD⟩, hS.F ht⟩) hS.2.2 dd_Re_arc_59
        · skip
          have hf := if_t cc hf
          refine lv_iconst (v := -1) hx hb dd_Re_arc_33 (by decide) ?_
          have hf := Option.some.inj hf
          subst hf
          exact W.iret hx hb hr (fun t ht hW => ⟨⟨_, (), rfl, rfl, pst_of ht hP hD⟩, hS.F ht⟩) hS.2.2 dd_Re_arc_34
abbrev wd_Re_parts (cI cZ : ClassId) (a_t a_t_least a_t_most a_t_split a_t_weight a_t_arcs a_t_levelNodes a_t_levelWeight a_t_levelArc a_t_levelIn a_t_row a_t_isFree a_t_best a_t_above a_t_ordered a_t_parts : Nat) (t_nodes : Int32) (t_kinds : Int32) (t_levels : Int32) (t_size : Int32) (t_base : Int32) (t_least : Nat → Int32) (t_most : Nat → Int32) (t_split : Nat → Int32) : va_W := [(a_t, .inr (9, [.int t_nodes, .int t_kinds, .ref a_t_weight, .ref a_t_arcs, .ref a_t_split, .ref a_t_least, .ref a_t_most, .int t_levels, .ref a_t_levelNodes, .ref a_t_levelWeight, .ref a_t_levelArc, .ref a_t_levelIn, .int t_size, .int t_base, .ref a_t_row, .ref a_t_isFree, .ref a_t_best, .ref a_t_above, .ref a_t_ordered, .ref a_t_parts])), (a_t_least, .inl (cI, 4, .inl t_least)), (a_t_most, .inl (cI, 4, .inl t_most)), (a_t_split, .inl (cI, 40, .inl t_split))]
set_option maxRecDepth 100000 in
set_option maxHeartbeats 4000000 in
theorem c_Re_parts (l : Launch) (dC : Nat → ClassId) (dI : Nat → Nat → Nat) (cI cZ : ClassId) (a_t a_t_least a_t_most a_t_split a_t_weight a_t_arcs a_t_levelNodes a_t_levelWeight a_t_levelArc a_t_levelIn a_t_row a_t_isFree a_t_best a_t_above a_t_ordered a_t_parts sz : Nat) (x1 : Int32) (t_nodes : Int32) (t_kinds : Int32) (t_levels : Int32) (t_size : Int32) (t_base : Int32) (t_least : Nat → Int32) (t_most : Nat → Int32) (t_split : Nat → Int32) (out : Int32 × Int32 × (Nat → Int32) × (Nat → Int32) × (Nat → Int32)) (hf : f_Re_parts x1 t_nodes t_kinds t_least t_most t_split = some out) :
    Met l yy_Re_parts wq_Re_parts ({ frames := 1, cells := 0, slots := 0, locals := 25 }) (va_Pc ([.ref a_t, .int x1] : List Value) (pre_ (dC, dI) cI cZ sz (wd_Re_parts cI cZ a_t a_t_least a_t_most a_t_split a_t_weight a_t_arcs a_t_levelNodes a_t_levelWeight a_t_levelArc a_t_levelIn a_t_row a_t_isFree a_t_best a_t_above a_t_ordered a_t_parts t_nodes t_kinds t_levels t_size t_base t_least t_most t_split))) (va_Qi (fun (r : Int32) (_ : Unit) => r = out.1) (fun _ => pst (dC, dI) (va_A (wd_Re_parts cI cZ a_t a_t_least a_t_most a_t_split a_t_weight a_t_arcs a_t_levelNodes a_t_levelWeight a_t_levelArc a_t_levelIn a_t_row a_t_isFree a_t_best a_t_above a_t_ordered a_t_parts t_nodes t_kinds t_levels t_size t_base t_least t_most t_split) sz) (wd_Re_parts cI cZ a_t a_t_least a_t_most a_t_split a_t_weight a_t_arcs a_t_levelNodes a_t_levelWeight a_t_levelArc a_t_levelIn a_t_row a_t_isFree a_t_best a_t_above a_t_ordered a_t_parts t_nodes out.2.1 t_levels t_size t_base out.2.2.1 out.2.2.2.1 out.2.2.2.2)) (va_A (wd_Re_parts cI cZ a_t a_t_least a_t_most a_t_split a_t_weight a_t_arcs a_t_levelNodes a_t_levelWeight a_t_levelArc a_t_levelIn a_t_row a_t_isFree a_t_best a_t_above a_t_ordered a_t_parts t_nodes t_kinds t_levels t_size t_base t_least t_most t_split) sz)) 0 0 (va_A (wd_Re_parts cI cZ a_t a_t_least a_t_most a_t_split a_t_weight a_t_arcs a_t_levelNodes a_t_levelWeight a_t_levelArc a_t_levelIn a_t_row a_t_isFree a_t_best a_t_above a_t_ordered a_t_parts t_nodes t_kinds t_levels t_size t_base t_least t_most t_split) sz) := by
  refine Met.ofW (cc := cc_Re_parts) (maxL := 4) (ret := (some .int)) (by decide) rfl ?_
  intro p e s m args below meth c s₁ B hml hv
  obtain ⟨rfl, hsz, hP, hK, hD0, hN⟩ := hv
  have hx := B.exec
  have hb := B.bytes
  have hr := B.returns
  have hts := atoms_spec (ws := wq_Re_parts) B.pre
  have hown : s.vm.findClass rr_Re = some m.cls := findClass_of_methodNamed B.named
  have hlocks := B.notSynchronized
  subst hsz
  have hD := hD0.self (sz := s.heap.size)
  generalize hAe : va_A (wd_Re_parts cI cZ a_t a_t_least a_t_most a_t_split a_t_weight a_t_arcs a_t_levelNodes a_t_levelWeight a_t_levelArc a_t_levelIn a_t_row a_t_isFree a_t_best a_t_above a_t_ordered a_t_parts t_nodes t_kinds t_levels t_size t_base t_least t_most t_split) s.heap.size = A at hD ⊢
  have hA : ∀ q : Nat, s.heap.size ≤ q → A q := fun q h => by rw [← hAe]; exact Or.inr h
  obtain ⟨H, hH⟩ : ∃ H : Heap, H = s.heap := ⟨_, rfl⟩
  have hS : va_S A s.heap H [] := by rw [hH]; exact va_S.rf
  have hl := lv_entry (([.ref a_t, .int x1] : List Value)) (n := 4) (Nat.le_of_ble_eq_true rfl)
  rw [lg_entry_eq]
  generalize (lg_sl (([.ref a_t, .int x1] : List Value)) ++ List.replicate (4 - (lg_sl (([.ref a_t, .int x1] : List Value))).length) Slot.unset).toArray = ls at hl ⊢
  have hl : lv_has ls 4 [(0, .ref a_t), (1, .int x1)] := hl
  rw [← hH] at hP ⊢
  have hP : va_P (dC, dI) clsL (wd_Re_parts cI cZ a_t a_t_least a_t_most a_t_split a_t_weight a_t_arcs a_t_levelNodes a_t_levelWeight a_t_levelArc a_t_levelIn a_t_row a_t_isFree a_t_best a_t_above a_t_ordered a_t_parts t_nodes t_kinds t_levels t_size t_base t_least t_most t_split) H := hP
  unfold f_Re_parts at hf
  have h28 : ∀ (n28 : Nat) (x2 : Int32) (x3 : Int32) (t_kinds : Int32) (t_least : Nat → Int32) (t_most : Nat → Int32) (ls : Array Slot) (H : Heap) (locs : List Loc), L_Re_parts_28 t_nodes t_split n28 x2 x3 t_kinds t_least t_most = some out → lv_has ls 4 [(0, .ref a_t), (2, .int x2), (3, .int x3)] → va_P (dC, dI) clsL (wd_Re_parts cI cZ a_t a_t_least a_t_most a_t_split a_t_weight a_t_arcs a_t_levelNodes a_t_levelWeight a_t_levelArc a_t_levelIn a_t_row a_t_isFree a_t_best a_t_above a_t_ordered a_t_parts t_nodes t_kinds t_levels t_size t_base t_least t_most t_split) H → va_D A (wd_Re_parts cI cZ a_t a_t_least a_t_most a_t_split a_t_weight a_t_arcs a_t_levelNodes a_t_levelWeight a_t_levelArc a_t_levelIn a_t_row a_t_isFree a_t_best a_t_above a_t_ordered a_t_parts t_nodes t_kinds t_levels t_size t_base t_least t_most t_split) → va_S A s.heap H locs → W p l e (headSpec wq_Re_parts ({ frames := 1, cells := 0, slots := 0, locals := 25 })).room s m ([.ref a_t, .int x1] : List Value).toArray below meth c H locs 0 0 (MQ below (va_Qi (fun (r : Int32) (_ : Unit) => r = out.1) (fun _ => pst (dC, dI) A (wd_Re_parts cI cZ a_t a_t_least a_t_most a_t_split a_t_weight a_t_arcs a_t_levelNodes a_t_levelWeight a_t_levelArc a_t_levelIn a_t_row a_t_isFree a_t_best a_t_above a_t_ordered a_t_parts t_nodes out.2.1 t_levels t_size t_base out.2.2.1 out.2.2.2.1 out.2.2.2.2)) A) ([.ref a_t, .int x1] : List Value).toArray s 0 0 A) (F0 m 28 ls []) := by
    intro n28
    induction n28 with
    | zero =>
      intro x2 x3 t_kinds t_least t_most ls H locs hf
      rw [L_Re_parts_28] at hf
      exact absurd hf (fun h => by cases h)
    | succ n28 ih28 =>
      intro x2 x3 t_kinds t_least t_most ls H locs hf hl hP hD hS
      rw [L_Re_parts_28] at hf
      have h56 : ∀ (n56 : Nat) (x2 : Int32) (x3 : Int32) (t_kinds : Int32) (t_least : Nat → Int32) (t_most : Nat → Int32) (t_split : Nat → Int32) (ls : Array Slot) (H : Heap) (locs : List Loc), L_Re_parts_56 t_nodes n56 x2 x3 t_kinds t_least t_most t_split = some out → lv_has ls 4 [(0, .ref a_t), (2, .int x2), (3, .int x3)] → va_P (dC, dI) clsL (wd_Re_parts cI cZ a_t a_t_least a_t_most a_t_split a_t_weight a_t_arcs a_t_levelNodes a_t_levelWeight a_t_levelArc a_t_levelIn a_t_row a_t_isFree a_t_best a_t_above a_t_ordered a_t_parts t_nodes t_kinds t_levels t_size t_base t_least t_most t_split) H → va_D A (wd_Re_parts cI cZ a_t a_t_least a_t_most a_t_split a_t_weight a_t_arcs a_t_levelNodes a_t_levelWeight a_t_levelArc a_t_levelIn a_t_row a_t_isFree a_t_best a_t_above a_t_ordered a_t_parts t_nodes t_kinds t_levels t_size t_base t_least t_most t_split) → va_S A s.heap H locs → W p l e (headSpec wq_Re_parts ({ frames := 1, cells := 0, slots := 0, locals := 25 })).room s m ([.ref a_t, .int x1] : List Value).toArray below meth c H locs 0 0 (MQ below (va_Qi (fun (r : Int32) (_ : Unit) => r = out.1) (fun _ => pst (dC, dI) A (wd_Re_parts cI cZ a_t a_t_least a_t_most a_t_split a_t_weight a_t_arcs a_t_levelNodes a_t_levelWeight a_t_levelArc a_t_levelIn a_t_row a_t_isFree a_t_best a_t_above a_t_ordered a_t_parts t_nodes out.2.1 t_levels t_size t_base out.2.2.1 out.2.2.2.1 out.2.2.2.2)) A) ([.ref a_t, .int x1] : List Value).toArray s 0 0 A) (F0 m 56 ls []) := by
        intro n56
        induction n56 with
        | zero =>
          intro x2 x3 t_kinds t_least t_most t_split ls H locs hf
          rw [L_Re_parts_56] at hf
          exact absurd hf (fun h => by cases h)
        | succ n56 ih56 =>
          intro x2 x3 t_kinds t_least t_most t_split ls H locs hf hl hP hD hS
          rw [L_Re_parts_56] at hf
          refine lv_iload_n hx hb dd_Re_parts_56 rfl (lv_at hl 2 rfl) ?_
          refine lv_aload_n hx hb dd_Re_parts_57 rfl (lv_at hl 0 rfl) ?_
          refine va_get (D := (dC, dI)) (ci := 9) (v := .int t_nodes) (C := rr_Re) (T := tt_Re) (N := 20) hx hb hts (fun w h => gwc (inn_Re w h)) hown hK hP 0 rfl rfl 0 (by decide) (hts _ (gwc gw_703)) (fun _ h9 => h9) rfl dd_Re_parts_58 ?_
          refine lv_icmp_ge (tgt := 77) hx hb dd_Re_parts_61 (by decide) (fun cc => ?_) (fun cc => ?_)
          · skip
            have hf := if_t cc hf
            refine lv_iload_n hx hb dd_Re_parts_77 rfl (lv_at hl 1 rfl) ?_
            have hf := Option.some.inj hf
            subst hf
            exact W.iret hx hb hr (fun t ht hW => ⟨⟨_, (), rfl, rfl, pst_of ht hP hD⟩, hS.F ht⟩) hS.2.2 dd_Re_parts_78
          · skip
            have hf := if_f cc hf
            refine lv_aload_n hx hb dd_Re_parts_64 rfl (lv_at hl 0 rfl) ?_
            refine va_get (D := (dC, dI)) (ci := 9) (v := .ref a_t_split) (C := rr_Re) (T := tt_Re) (N := 20) hx hb hts (fun w h => gwc (inn_Re w h)) hown hK hP 0 rfl rfl 4 (by decide) (hts _ (gwc gw_707)) (fun _ h9 => h9) rfl dd_Re_parts_65 ?_
            refine lv_iload_n hx hb dd_Re_parts_68 rfl (lv_at hl 2 rfl) ?_
            refine lv_iconst (v := 0) hx hb dd_Re_parts_69 (by decide) ?_
            obtain ⟨k70, hf⟩ := ck_some hf
            refine va_iast hx hb hK hP hD hS 3 0 rfl rfl (okb_in k70) dd_Re_parts_70 (fun H locs hP hD hS => ?_)
            have hP : va_P (dC, dI) clsL (wd_Re_parts cI cZ a_t a_t_least a_t_most a_t_split a_t_weight a_t_arcs a_t_levelNodes a_t_levelWeight a_t_levelArc a_t_levelIn a_t_row a_t_isFree a_t_best a_t_above a_t_ordered a_t_parts t_nodes t_kinds t_levels t_size t_base t_least t_most (upd t_split (x3).toNatClampNeg 0)) H := hP
            have hD : va_D A (wd_Re_parts cI cZ a_t a_t_least a_t_most a_t_split a_t_weight a_t_arcs a_t_levelNodes a_t_levelWeight a_t_levelArc a_t_levelIn a_t_row a_t_isFree a_t_best a_t_above a_t_ordered a_t_parts t_nodes t_kinds t_levels t_size t_base t_least t_most (upd t_split (x3).toNatClampNeg 0)) := hD
            refine lv_iinc (v := x3 + 1) (lv' := [(3, .int (x3 + 1)), (0, .ref a_t), (2, .int x2)]) hx hb dd_Re_parts_71 hl (k := 2) rfl rfl (by decide) rfl (fun ls hl => ?_)
            refine lv_goto (tgt := 56) hx hb dd_Re_parts_74 (by decide) ?_
            exact ih56 x2 (x3 + 1) t_kinds t_least t_most (upd t_split (x3).toNatClampNeg 0) _ _ _ hf (lv_sub hl [1, 2, 0] rfl) hP hD hS
      refine lv_iload_n hx hb dd_Re_parts_28 rfl (lv_at hl 2 rfl) ?_
      refine lv_iconst (v := 4) hx hb dd_Re_parts_29 (by decide) ?_
      refine lv_icmp_ge (tgt := 54) hx hb dd_Re_parts_30 (by decide) (fun cc => ?_) (fun cc => ?_)
      · skip
        have hf := if_t cc hf
        refine lv_iconst (v := 0) hx hb dd_Re_parts_54 (by decide) ?_
        refine lv_istore_n (lv' := [(3, .int 0), (0, .ref a_t), (2, .int x2)]) hx hb dd_Re_parts_55 rfl hl (by decide) rfl (fun ls hl => ?_)
        exact h56 64 x2 0 t_kinds t_least t_most t_split _ _ _ hf (lv_sub hl [1, 2, 0] rfl) hP hD hS
      · skip
        have hf := if_f cc hf
        refine lv_aload_n hx hb dd_Re_parts_33 rfl (lv_at hl 0 rfl) ?_
        refine va_get (D := (dC, dI)) (ci := 9) (v := .ref a_t_least) (C := rr_Re) (T := tt_Re) (N := 20) hx hb hts (fun w h => gwc (inn_Re w h)) hown hK hP 0 rfl rfl 5 (by decide) (hts _ (gwc gw_708)) (fun _ h9 => h9) rfl dd_Re_parts_34 ?_
        refine lv_iload_n hx hb dd_Re_parts_37 rfl (lv_at hl 2 rfl) ?_
        refine lv_iconst (v := 0) hx hb dd_Re_parts_38 (by decide) ?_
        obtain ⟨k39, hf⟩ := ck_some hf
        refine va_iast hx hb hK hP hD hS 1 0 rfl rfl (okb_in k39) dd_Re_parts_39 (fun H locs hP hD hS => ?_)
        have hP : va_P (dC, dI) clsL (wd_Re_parts cI cZ a_t a_t_least a_t_most a_t_split a_t_weight a_t_arcs a_t_levelNodes a_t_levelWeight a_t_levelArc a_t_levelIn a_t_row a_t_isFree a_t_best a_t_above a_t_ordered a_t_parts t_nodes t_kinds t_levels t_size t_base (upd t_least (x3).toNatClampNeg 0) t_most t_split) H := hP
        have hD : va_D A (wd_Re_parts cI cZ a_t a_t_least a_t_most a_t_split a_t_weight a_t_arcs a_t_levelNodes a_t_levelWeight a_t_levelArc a_t_levelIn a_t_row a_t_isFree a_t_best a_t_above a_t_ordered a_t_parts t_nodes t_kinds t_levels t_size t_base (upd t_least (x3).toNatClampNeg 0) t_most t_split) := hD
        refine lv_aload_n hx hb dd_Re_parts_40 rfl (lv_at hl 0 rfl) ?_
        refine va_get (D := (dC, dI)) (ci := 9) (v := .ref a_t_most) (C := rr_Re) (T := tt_Re) (N := 20) hx hb hts (fun w h => gwc (inn_Re w h)) hown hK hP 0 rfl rfl 6 (by decide) (hts _ (gwc gw_709)) (fun _ h9 => h9) rfl dd_Re_parts_41 ?_
        refine lv_iload_n hx hb dd_Re_parts_44 rfl (lv_at hl 2 rfl) ?_
        refine lv_ldc (v := 1000000) hx hb hown (hts _ (gwc gw_702)) dd_Re_parts_45 ?_
        obtain ⟨k47, hf⟩ := ck_some hf
        refine va_iast hx hb hK hP hD hS 2 0 rfl rfl (okb_in k47) dd_Re_parts_47 (fun H locs hP hD hS => ?_)
        have hP : va_P (dC, dI) clsL (wd_Re_parts cI cZ a_t a_t_least a_t_most a_t_split a_t_weight a_t_arcs a_t_levelNodes a_t_levelWeight a_t_levelArc a_t_levelIn a_t_row a_t_isFree a_t_best a_t_above a_t_ordered a_t_parts t_nodes t_kinds t_levels t_size t_base (upd t_least (x3).toNatClampNeg 0) (upd t_most (x3).toNatClampNeg 1000000) t_split) H := hP
        have hD : va_D A (wd_Re_parts cI cZ a_t a_t_least a_t_most a_t_split a_t_weight a_t_arcs a_t_levelNodes a_t_levelWeight a_t_levelArc a_t_levelIn a_t_row a_t_isFree a_t_best a_t_above a_t_ordered a_t_parts t_nodes t_kinds t_levels t_size t_base (upd t_least (x3).toNatClampNeg 0) (upd t_most (x3).toNatClampNeg 1000000) t_split) := hD
        refine lv_iinc (v := x3 + 1) (lv' := [(3, .int (x3 + 1)), (0, .ref a_t), (2, .int x2)]) hx hb dd_Re_parts_48 hl (k := 2) rfl rfl (by decide) rfl (fun ls hl => ?_)
        refine lv_goto (tgt := 28) hx hb dd_Re_parts_51 (by decide) ?_
        exact ih28 x2 (x3 + 1) t_kinds (upd t_least (x3).toNatClampNeg 0) (upd t_most (x3).toNatClampNeg 1000000) _ _ _ hf (lv_sub hl [1, 2, 0] rfl) hP hD hS
  refine lv_iload_n hx hb dd_Re_parts_0 rfl (lv_at hl 1 rfl) ?_
  refine lv_i2l hx hb dd_Re_parts_1 rfl ?_
  refine lv_ldc2 (v := 2) hx hb hown (hts _ (gwc gw_697)) dd_Re_parts_2 ?_
  refine lv_ldc2 (v := 4) hx hb hown (hts _ (gwc gw_698)) dd_Re_parts_5 ?_
  obtain ⟨r8, hr8, hf⟩ := bind_some hf
  refine xcalli (rest := []) (wc := (wd_Re_isIn cI cZ)) (w1 := (wd_Re_isIn cI cZ)) (wr := [(a_t, .inr (9, [.int t_nodes, .int t_kinds, .ref a_t_weight, .ref a_t_arcs, .ref a_t_split, .ref a_t_least, .ref a_t_most, .int t_levels, .ref a_t_levelNodes, .ref a_t_levelWeight, .ref a_t_levelArc, .ref a_t_levelIn, .int t_size, .int t_base, .ref a_t_row, .ref a_t_isFree, .ref a_t_best, .ref a_t_above, .ref a_t_ordered, .ref a_t_parts])), (a_t_least, .inl (cI, 4, .inl t_least)), (a_t_most, .inl (cI, 4, .inl t_most)), (a_t_split, .inl (cI, 40, .inl t_split))]) (ws' := (wd_Re_parts cI cZ a_t a_t_least a_t_most a_t_split a_t_weight a_t_arcs a_t_levelNodes a_t_levelWeight a_t_levelArc a_t_levelIn a_t_row a_t_isFree a_t_best a_t_above a_t_ordered a_t_parts t_nodes t_kinds t_levels t_size t_base t_least t_most t_split)) (va_runS (As := [.long x1.toInt64, .long (2 : Int64), .long (4 : Int64)]) ⟨hx, hb, hml, hown, hts⟩ (c_Re_isIn l dC dI cI cZ H.size x1.toInt64 (2 : Int64) (4 : Int64) r8 hr8) (va_cwS 3 hts (gS gw_699 gw_700 gw_61 gw_701) rfl rfl rfl (yd_Re_isIn).2 ⟨Nat.le_of_ble_eq_true rfl, Nat.le_of_ble_eq_true rfl⟩) (mkS hK (hP.sub (ws' := (wd_Re_isIn cI cZ)) [] rfl) (hD.sub (ws' := (wd_Re_isIn cI cZ)) [] (by decide) rfl) hN) rfl rfl hl.1 rfl (lv_room (Nat.le_of_ble_eq_true rfl)) dd_Re_parts_8 ⟨Nat.zero_le _, Nat.zero_le _⟩) hP hD hS hA [] [0, 1, 2, 3] [0, 1, 2, 3] rfl rfl (by decide) (by decide) rfl (by decide) rfl (fun H locs hP hD hS => ?_)
  refine lv_if_ne (tgt := 16) hx hb dd_Re_parts_11 (by decide) (fun cc => ?_) (fun cc => ?_)
  · skip
    have hf := if_f cc hf
    refine lv_aload_n hx hb dd_Re_parts_16 rfl (lv_at hl 0 rfl) ?_
    refine va_get (D := (dC, dI)) (ci := 9) (v := .int t_kinds) (C := rr_Re) (T := tt_Re) (N := 20) hx hb hts (fun w h => gwc (inn_Re w h)) hown hK hP 0 rfl rfl 1 (by decide) (hts _ (gwc gw_704)) (fun _ h9 => h9) rfl dd_Re_parts_17 ?_
    refine lv_istore_n (lv' := [(2, .int t_kinds), (0, .ref a_t), (1, .int x1)]) hx hb dd_Re_parts_20 rfl hl (by decide) rfl (fun ls hl => ?_)
    refine lv_aload_n hx hb dd_Re_parts_21 rfl (lv_at hl 1 rfl) ?_
    refine lv_iload_n hx hb dd_Re_parts_22 rfl (lv_at hl 2 rfl) ?_
    refine va_put (D := (dC, dI)) (ci := 9) (v := .int x1) (ty := .int) (C := rr_Re) (T := tt_Re) (N := 20) hx hb hts (fun w h => gwc (inn_Re w h)) tf_Re to_Re tn_Re hown hK hP hD hS 0 rfl rfl 1 (by decide) (hts _ (gwc gw_704)) (fun _ h9 => h9) rfl (by decide +kernel) rfl rfl (Nat.le_of_ble_eq_true rfl) dd_Re_parts_23 (fun H locs hP hD hS => ?_)
    have hP : va_P (dC, dI) clsL (wd_Re_parts cI cZ a_t a_t_least a_t_most a_t_split a_t_weight a_t_arcs a_t_levelNodes a_t_levelWeight a_t_levelArc a_t_levelIn a_t_row a_t_isFree a_t_best a_t_above a_t_ordered a_t_parts t_nodes x1 t_levels t_size t_base t_least t_most t_split) H := hP
    have hD : va_D A (wd_Re_parts cI cZ a_t a_t_least a_t_most a_t_split a_t_weight a_t_arcs a_t_levelNodes a_t_levelWeight a_t_levelArc a_t_levelIn a_t_row a_t_isFree a_t_best a_t_above a_t_ordered a_t_parts t_nodes x1 t_levels t_size t_base t_least t_most t_split) := hD
    refine lv_iconst (v := 0) hx hb dd_Re_parts_26 (by decide) ?_
    refine lv_istore_n (lv' := [(3, .int 0), (2, .int t_kinds), (0, .ref a_t), (1, .int x1)]) hx hb dd_Re_parts_27 rfl hl (by decide) rfl (fun ls hl => ?_)
    exact h28 64 t_kinds 0 x1 t_least t_most _ _ _ hf (lv_sub hl [2, 1, 0] rfl) hP hD hS
  · skip
    have hf := if_t cc hf
    refine lv_iconst (v := -1) hx hb dd_Re_parts_14 (by decide) ?_
    have hf := Option.some.inj hf
    subst hf
    exact W.iret hx hb hr (fun t ht hW => ⟨⟨_, (), rfl, rfl, pst_of ht hP hD⟩, hS.F ht⟩) hS.2.2 dd_Re_parts_15
abbrev wd_Re_isPart (cI cZ : ClassId) (a_t a_t_weight a_t_arcs a_t_split a_t_least a_t_most a_t_levelNodes a_t_levelWeight a_t_levelArc a_t_levelIn a_t_row a_t_isFree a_t_best a_t_above a_t_ordered a_t_parts : Nat) (t_nodes : Int32) (t_kinds : Int32) (t_levels : Int32) (t_size : Int32) (t_base : Int32) : va_W := [(a_t, .inr (9, [.int t_nodes, .int t_kinds, .ref a_t_weight, .ref a_t_arcs, .ref a_t_split, .ref a_t_least, .ref a_t_most, .int t_levels, .ref a_t_levelNodes, .ref a_t_levelWeight, .ref a_t_levelArc, .ref a_t_levelIn, .int t_size, .int t_base, .ref a_t_row, .ref a_t_isFree, .ref a_t_best, .ref a_t_above, .ref a_t_ordered, .ref a_t_parts]))]
set_option maxRecDepth 100000 in
set_option maxHeartbeats 4000000 in
theorem c_Re_isPart (l : Launch) (dC : Nat → ClassId) (dI : Nat → Nat → Nat) (cI cZ : ClassId) (a_t a_t_weight a_t_arcs a_t_split a_t_least a_t_most a_t_levelNodes a_t_levelWeight a_t_levelArc a_t_levelIn a_t_row a_t_isFree a_t_best a_t_above a_t_ordered a_t_parts sz : Nat) (x1 : Int32) (t_nodes : Int32) (t_kinds : Int32) (t_levels : Int32) (t_size : Int32) (t_base : Int32) (out : Int32) (hf : f_Re_isPart x1 t_kinds = some out) :
    Met l yy_Re_isPart wq_Re_isPart ({ frames := 1, cells := 0, slots := 0, locals := 25 }) (va_Pc ([.ref a_t, .int x1] : List Value) (pre_ (dC, dI) cI cZ sz (wd_Re_isPart cI cZ a_t a_t_weight a_t_arcs a_t_split a_t_least a_t_most a_t_levelNodes a_t_levelWeight a_t_levelArc a_t_levelIn a_t_row a_t_isFree a_t_best a_t_above a_t_ordered a_t_parts t_nodes t_kinds t_levels t_size t_base))) (va_Qi (fun (r : Int32) (_ : Unit) => r = out) (fun _ => pst (dC, dI) (va_A (wd_Re_isPart cI cZ a_t a_t_weight a_t_arcs a_t_split a_t_least a_t_most a_t_levelNodes a_t_levelWeight a_t_levelArc a_t_levelIn a_t_row a_t_isFree a_t_best a_t_above a_t_ordered a_t_parts t_nodes t_kinds t_levels t_size t_base) sz) (wd_Re_isPart cI cZ a_t a_t_weight a_t_arcs a_t_split a_t_least a_t_most a_t_levelNodes a_t_levelWeight a_t_levelArc a_t_levelIn a_t_row a_t_isFree a_t_best a_t_above a_t_ordered a_t_parts t_nodes t_kinds t_levels t_size t_base)) (va_A (wd_Re_isPart cI cZ a_t a_t_weight a_t_arcs a_t_split a_t_least a_t_most a_t_levelNodes a_t_levelWeight a_t_levelArc a_t_levelIn a_t_row a_t_isFree a_t_best a_t_above a_t_ordered a_t_parts t_nodes t_kinds t_levels t_size t_base) sz)) 0 0 (va_A (wd_Re_isPart cI cZ a_t a_t_weight a_t_arcs a_t_split a_t_least a_t_most a_t_levelNodes a_t_levelWeight a_t_levelArc a_t_levelIn a_t_row a_t_isFree a_t_best a_t_above a_t_ordered a_t_parts t_nodes t_kinds t_levels t_size t_base) sz) := by
  refine Met.ofW (cc := cc_Re_isPart) (maxL := 2) (ret := (some .boolean)) (by decide) rfl ?_
  intro p e s m args below meth c s₁ B hml hv
  obtain ⟨rfl, hsz, hP, hK, hD0, hN⟩ := hv
  have hx := B.exec
  have hb := B.bytes
  have hr := B.returns
  have hts := atoms_spec (ws := wq_Re_isPart) B.pre
  have hown : s.vm.findClass rr_Re = some m.cls := findClass_of_methodNamed B.named
  have hlocks := B.notSynchronized
  subst hsz
  have hD := hD0.self (sz := s.heap.size)
  generalize hAe : va_A (wd_Re_isPart cI cZ a_t a_t_weight a_t_arcs a_t_split a_t_least a_t_most a_t_levelNodes a_t_levelWeight a_t_levelArc a_t_levelIn a_t_row a_t_isFree a_t_best a_t_above a_t_ordered a_t_parts t_nodes t_kinds t_levels t_size t_base) s.heap.size = A at hD ⊢
  have hA : ∀ q : Nat, s.heap.size ≤ q → A q := fun q h => by rw [← hAe]; exact Or.inr h
  obtain ⟨H, hH⟩ : ∃ H : Heap, H = s.heap := ⟨_, rfl⟩
  have hS : va_S A s.heap H [] := by rw [hH]; exact va_S.rf
  have hl := lv_entry (([.ref a_t, .int x1] : List Value)) (n := 2) (Nat.le_of_ble_eq_true rfl)
  rw [lg_entry_eq]
  generalize (lg_sl (([.ref a_t, .int x1] : List Value)) ++ List.replicate (2 - (lg_sl (([.ref a_t, .int x1] : List Value))).length) Slot.unset).toArray = ls at hl ⊢
  have hl : lv_has ls 2 [(0, .ref a_t), (1, .int x1)] := hl
  rw [← hH] at hP ⊢
  have hP : va_P (dC, dI) clsL (wd_Re_isPart cI cZ a_t a_t_weight a_t_arcs a_t_split a_t_least a_t_most a_t_levelNodes a_t_levelWeight a_t_levelArc a_t_levelIn a_t_row a_t_isFree a_t_best a_t_above a_t_ordered a_t_parts t_nodes t_kinds t_levels t_size t_base) H := hP
  unfold f_Re_isPart at hf
  refine lv_iload_n hx hb dd_Re_isPart_0 rfl (lv_at hl 1 rfl) ?_
  refine lv_i2l hx hb dd_Re_isPart_1 rfl ?_
  refine lv_lconst (v := 0) hx hb dd_Re_isPart_2 (by decide) ?_
  refine lv_aload_n hx hb dd_Re_isPart_3 rfl (lv_at hl 0 rfl) ?_
  refine va_get (D := (dC, dI)) (ci := 9) (v := .int t_kinds) (C := rr_Re) (T := tt_Re) (N := 20) hx hb hts (fun w h => gwc (inn_Re w h)) hown hK hP 0 rfl rfl 1 (by decide) (hts _ (gwc gw_704)) (fun _ h9 => h9) rfl dd_Re_isPart_4 ?_
  refine lv_iconst (v := 1) hx hb dd_Re_isPart_7 (by decide) ?_
  refine lv_isub hx hb dd_Re_isPart_8 ?_
  refine lv_i2l hx hb dd_Re_isPart_9 rfl ?_
  obtain ⟨r10, hr10, hf⟩ := bind_some hf
  refine xcalli (rest := []) (wc := (wd_Re_isIn cI cZ)) (w1 := (wd_Re_isIn cI cZ)) (wr := [(a_t, .inr (9, [.int t_nodes, .int t_kinds, .ref a_t_weight, .ref a_t_arcs, .ref a_t_split, .ref a_t_least, .ref a_t_most, .int t_levels, .ref a_t_levelNodes, .ref a_t_levelWeight, .ref a_t_levelArc, .ref a_t_levelIn, .int t_size, .int t_base, .ref a_t_row, .ref a_t_isFree, .ref a_t_best, .ref a_t_above, .ref a_t_ordered, .ref a_t_parts]))]) (ws' := (wd_Re_isPart cI cZ a_t a_t_weight a_t_arcs a_t_split a_t_least a_t_most a_t_levelNodes a_t_levelWeight a_t_levelArc a_t_levelIn a_t_row a_t_isFree a_t_best a_t_above a_t_ordered a_t_parts t_nodes t_kinds t_levels t_size t_base)) (va_runS (As := [.long x1.toInt64, .long (0 : Int64), .long ((t_kinds - 1).toInt64)]) ⟨hx, hb, hml, hown, hts⟩ (c_Re_isIn l dC dI cI cZ H.size x1.toInt64 (0 : Int64) ((t_kinds - 1).toInt64) r10 hr10) (va_cwS 3 hts (gS gw_699 gw_700 gw_61 gw_701) rfl rfl rfl (yd_Re_isIn).2 ⟨Nat.le_of_ble_eq_true rfl, Nat.le_of_ble_eq_true rfl⟩) (mkS hK (hP.sub (ws' := (wd_Re_isIn cI cZ)) [] rfl) (hD.sub (ws' := (wd_Re_isIn cI cZ)) [] (by decide) rfl) hN) rfl rfl hl.1 rfl (lv_room (Nat.le_of_ble_eq_true rfl)) dd_Re_isPart_10 ⟨Nat.zero_le _, Nat.zero_le _⟩) hP hD hS hA [] [0] [0] rfl rfl (by decide) (by decide) rfl (by decide) rfl (fun H locs hP hD hS => ?_)
  obtain ⟨k13, hf⟩ := ck_some hf
  have hf := Option.some.inj hf
  subst hf
  exact W.zret hx hb hr (okB_n k13) (fun t ht hW => ⟨⟨_, (), rfl, rfl, pst_of ht hP hD⟩, hS.F ht⟩) hS.2.2 dd_Re_isPart_13
abbrev wd_Re_bound (cI cZ : ClassId) (a_t a_t_least a_t_most a_t_weight a_t_arcs a_t_split a_t_levelNodes a_t_levelWeight a_t_levelArc a_t_levelIn a_t_row a_t_isFree a_t_best a_t_above a_t_ordered a_t_parts : Nat) (t_nodes : Int32) (t_kinds : Int32) (t_levels : Int32) (t_size : Int32) (t_base : Int32) (t_least : Nat → Int32) (t_most : Nat → Int32) : va_W := [(a_t, .inr (9, [.int t_nodes, .int t_kinds, .ref a_t_weight, .ref a_t_arcs, .ref a_t_split, .ref a_t_least, .ref a_t_most, .int t_levels, .ref a_t_levelNodes, .ref a_t_levelWeight, .ref a_t_levelArc, .ref a_t_levelIn, .int t_size, .int t_base, .ref a_t_row, .ref a_t_isFree, .ref a_t_best, .ref a_t_above, .ref a_t_ordered, .ref a_t_parts])), (a_t_least, .inl (cI, 4, .inl t_least)), (a_t_most, .inl (cI, 4, .inl t_most))]
set_option maxRecDepth 100000 in
set_option maxHeartbeats 4000000 in
theorem c_Re_bound (l : Launch) (dC : Nat → ClassId) (dI : Nat → Nat → Nat) (cI cZ : ClassId) (a_t a_t_least a_t_most a_t_weight a_t_arcs a_t_split a_t_levelNodes a_t_levelWeight a_t_levelArc a_t_levelIn a_t_row a_t_isFree a_t_best a_t_above a_t_ordered a_t_parts sz : Nat) (x1 : Int32) (x2 : Int32) (x3 : Int32) (t_nodes : Int32) (t_kinds : Int32) (t_levels : Int32) (t_size : Int32) (t_base : Int32) (t_least : Nat → Int32) (t_most : Nat → Int32) (out : Int32 × (Nat → Int32) × (Nat → Int32)) (hf : f_Re_bound x1 x2 x3 t_kinds t_least t_most = some out) :
    Met l yy_Re_bound wq_Re_bound ({ frames := 2, cells := 0, slots := 0, locals := 46 }) (va_Pc ([.ref a_t, .int x1, .int x2, .int x3] : List Value) (pre_ (dC, dI) cI cZ sz (wd_Re_bound cI cZ a_t a_t_least a_t_most a_t_weight a_t_arcs a_t_split a_t_levelNodes a_t_levelWeight a_t_levelArc a_t_levelIn a_t_row a_t_isFree a_t_best a_t_above a_t_ordered a_t_parts t_nodes t_kinds t_levels t_size t_base t_least t_most))) (va_Qi (fun (r : Int32) (_ : Unit) => r = out.1) (fun _ => pst (dC, dI) (va_A (wd_Re_bound cI cZ a_t a_t_least a_t_most a_t_weight a_t_arcs a_t_split a_t_levelNodes a_t_levelWeight a_t_levelArc a_t_levelIn a_t_row a_t_isFree a_t_best a_t_above a_t_ordered a_t_parts t_nodes t_kinds t_levels t_size t_base t_least t_most) sz) (wd_Re_bound cI cZ a_t a_t_least a_t_most a_t_weight a_t_arcs a_t_split a_t_levelNodes a_t_levelWeight a_t_levelArc a_t_levelIn a_t_row a_t_isFree a_t_best a_t_above a_t_ordered a_t_parts t_nodes t_kinds t_levels t_size t_base out.2.1 out.2.2)) (va_A (wd_Re_bound cI cZ a_t a_t_least a_t_most a_t_weight a_t_arcs a_t_split a_t_levelNodes a_t_levelWeight a_t_levelArc a_t_levelIn a_t_row a_t_isFree a_t_best a_t_above a_t_ordered a_t_parts t_nodes t_kinds t_levels t_size t_base t_least t_most) sz)) 0 0 (va_A (wd_Re_bound cI cZ a_t a_t_least a_t_most a_t_weight a_t_arcs a_t_split a_t_levelNodes a_t_levelWeight a_t_levelArc a_t_levelIn a_t_row a_t_isFree a_t_best a_t_above a_t_ordered a_t_parts t_nodes t_kinds t_levels t_size t_base t_least t_most) sz) := by
  refine Met.ofW (cc := cc_Re_bound) (maxL := 4) (ret := (some .int)) (by decide) rfl ?_
  intro p e s m args below meth c s₁ B hml hv
  obtain ⟨rfl, hsz, hP, hK, hD0, hN⟩ := hv
  have hx := B.exec
  have hb := B.bytes
  have hr := B.returns
  have hts := atoms_spec (ws := wq_Re_bound) B.pre
  have hown : s.vm.findClass rr_Re = some m.cls := findClass_of_methodNamed B.named
  have hlocks := B.notSynchronized
  subst hsz
  have hD := hD0.self (sz := s.heap.size)
  generalize hAe : va_A (wd_Re_bound cI cZ a_t a_t_least a_t_most a_t_weight a_t_arcs a_t_split a_t_levelNodes a_t_levelWeight a_t_levelArc a_t_levelIn a_t_row a_t_isFree a_t_best a_t_above a_t_ordered a_t_parts t_nodes t_kinds t_levels t_size t_base t_least t_most) s.heap.size = A at hD ⊢
  have hA : ∀ q : Nat, s.heap.size ≤ q → A q := fun q h => by rw [← hAe]; exact Or.inr h
  obtain ⟨H, hH⟩ : ∃ H : Heap, H = s.heap := ⟨_, rfl⟩
  have hS : va_S A s.heap H [] := by rw [hH]; exact va_S.rf
  have hl := lv_entry (([.ref a_t, .int x1, .int x2, .int x3] : List Value)) (n := 4) (Nat.le_of_ble_eq_true rfl)
  rw [lg_entry_eq]
  generalize (lg_sl (([.ref a_t, .int x1, .int x2, .int x3] : List Value)) ++ List.replicate (4 - (lg_sl (([.ref a_t, .int x1, .int x2, .int x3] : List Value))).length) Slot.unset).toArray = ls at hl ⊢
  have hl : lv_has ls 4 [(0, .ref a_t), (1, .int x1), (2, .int x2), (3, .int x3)] := hl
  rw [← hH] at hP ⊢
  have hP : va_P (dC, dI) clsL (wd_Re_bound cI cZ a_t a_t_least a_t_most a_t_weight a_t_arcs a_t_split a_t_levelNodes a_t_levelWeight a_t_levelArc a_t_levelIn a_t_row a_t_isFree a_t_best a_t_above a_t_ordered a_t_parts t_nodes t_kinds t_levels t_size t_base t_least t_most) H := hP
  unfold f_Re_bound at hf
  refine lv_aload_n hx hb dd_Re_bound_0 rfl (lv_at hl 0 rfl) ?_
  refine lv_iload_n hx hb dd_Re_bound_1 rfl (lv_at hl 1 rfl) ?_
  obtain ⟨r2, hr2, hf⟩ := bind_some hf
  refine xcalli (rest := []) (wc := (wd_Re_isPart cI cZ a_t a_t_weight a_t_arcs a_t_split a_t_least a_t_most a_t_levelNodes a_t_levelWeight a_t_levelArc a_t_levelIn a_t_row a_t_isFree a_t_best a_t_above a_t_ordered a_t_parts t_nodes t_kinds t_levels t_size t_base)) (w1 := (wd_Re_isPart cI cZ a_t a_t_weight a_t_arcs a_t_split a_t_least a_t_most a_t_levelNodes a_t_levelWeight a_t_levelArc a_t_levelIn a_t_row a_t_isFree a_t_best a_t_above a_t_ordered a_t_parts t_nodes t_kinds t_levels t_size t_base)) (wr := [(a_t_least, .inl (cI, 4, .inl t_least)), (a_t_most, .inl (cI, 4, .inl t_most))]) (ws' := (wd_Re_bound cI cZ a_t a_t_least a_t_most a_t_weight a_t_arcs a_t_split a_t_levelNodes a_t_levelWeight a_t_levelArc a_t_levelIn a_t_row a_t_isFree a_t_best a_t_above a_t_ordered a_t_parts t_nodes t_kinds t_levels t_size t_base t_least t_most)) (va_runV (As := [.int x1]) ⟨hx, hb, hml, hown, hts⟩ (c_Re_isPart l dC dI cI cZ a_t a_t_weight a_t_arcs a_t_split a_t_least a_t_most a_t_levelNodes a_t_levelWeight a_t_levelArc a_t_levelIn a_t_row a_t_isFree a_t_best a_t_above a_t_ordered a_t_parts H.size x1 t_nodes t_kinds t_levels t_size t_base r2 hr2) (cwV 1 hts (gV gw_782 gw_784 gw_30 gw_61 gw_785) rfl rfl rfl (yd_Re_isPart) ⟨Nat.le_of_ble_eq_true rfl, Nat.le_of_ble_eq_true rfl⟩) (mkV hK (hP.sub (ws' := (wd_Re_isPart cI cZ a_t a_t_weight a_t_arcs a_t_split a_t_least a_t_most a_t_levelNodes a_t_levelWeight a_t_levelArc a_t_levelIn a_t_row a_t_isFree a_t_best a_t_above a_t_ordered a_t_parts t_nodes t_kinds t_levels t_size t_base)) [0] rfl) (hD.sub (ws' := (wd_Re_isPart cI cZ a_t a_t_weight a_t_arcs a_t_split a_t_least a_t_most a_t_levelNodes a_t_levelWeight a_t_levelArc a_t_levelIn a_t_row a_t_isFree a_t_best a_t_above a_t_ordered a_t_parts t_nodes t_kinds t_levels t_size t_base)) [0] (by decide) rfl) hN (va_recv hK hP (ci := 9) (q0 := 0) rfl rfl)) rfl rfl hl.1 rfl (lv_room (Nat.le_of_ble_eq_true rfl)) dd_Re_bound_2 ⟨Nat.zero_le _, Nat.zero_le _⟩) hP hD hS hA [0] [1, 2] [2, 0, 1] rfl rfl (by decide) (by decide) rfl (by decide) rfl (fun H locs hP hD hS => ?_)
  refine lv_if_eq (tgt := 33) hx hb dd_Re_bound_5 (by decide) (fun cc => ?_) (fun cc => ?_)
  · skip
    have hf := if_t cc hf
    refine lv_iconst (v := -1) hx hb dd_Re_bound_33 (by decide) ?_
    have hf := Option.some.inj hf
    subst hf
    exact W.iret hx hb hr (fun t ht hW => ⟨⟨_, (), rfl, rfl, pst_of ht hP hD⟩, hS.F ht⟩) hS.2.2 dd_Re_bound_34
  · skip
    have hf := if_f cc hf
    refine lv_iload_n hx hb dd_Re_bound_8 rfl (lv_at hl 2 rfl) ?_
    refine lv_i2l hx hb dd_Re_bound_9 rfl ?_
    refine lv_lconst (v := 0) hx hb dd_Re_bound_10 (by decide) ?_
    refine lv_ldc2 (v := 1000000) hx hb hown (hts _ (gwc gw_786)) dd_Re_bound_11 ?_
    obtain ⟨r14, hr14, hf⟩ := bind_some hf
    refine xcalli (rest := []) (wc := (wd_Re_isIn cI cZ)) (w1 := (wd_Re_isIn cI cZ)) (wr := [(a_t, .inr (9, [.int t_nodes, .int t_kinds, .ref a_t_weight, .ref a_t_arcs, .ref a_t_split, .ref a_t_least, .ref a_t_most, .int t_levels, .ref a_t_levelNodes, .ref a_t_levelWeight, .ref a_t_levelArc, .ref a_t_levelIn, .int t_size, .int t_base, .ref a_t_row, .ref a_t_isFree, .ref a_t_best, .ref a_t_above, .ref a_t_ordered, .ref a_t_parts])), (a_t_least, .inl (cI, 4, .inl t_least)), (a_t_most, .inl (cI, 4, .inl t_most))]) (ws' := (wd_Re_bound cI cZ a_t a_t_least a_t_most a_t_weight a_t_arcs a_t_split a_t_levelNodes a_t_levelWeight a_t_levelArc a_t_levelIn a_t_row a_t_isFree a_t_best a_t_above a_t_ordered a_t_parts t_nodes t_kinds t_levels t_size t_base t_least t_most)) (va_runS (As := [.long x2.toInt64, .long (0 : Int64), .long (1000000 : Int64)]) ⟨hx, hb, hml, hown, hts⟩ (c_Re_isIn l dC dI cI cZ H.size x2.toInt64 (0 : Int64) (1000000 : Int64) r14 hr14) (va_cwS 3 hts (gS gw_699 gw_700 gw_61 gw_701) rfl rfl rfl (yd_Re_isIn).2 ⟨Nat.le_of_ble_eq_true rfl, Nat.le_of_ble_eq_true rfl⟩) (mkS hK (hP.sub (ws' := (wd_Re_isIn cI cZ)) [] rfl) (hD.sub (ws' := (wd_Re_isIn cI cZ)) [] (by decide) rfl) hN) rfl rfl hl.1 rfl (lv_room (Nat.le_of_ble_eq_true rfl)) dd_Re_bound_14 ⟨Nat.zero_le _, Nat.zero_le _⟩) hP hD hS hA [] [0, 1, 2] [0, 1, 2] rfl rfl (by decide) (by decide) rfl (by decide) rfl (fun H locs hP hD hS => ?_)
    refine lv_if_eq (tgt := 33) hx hb dd_Re_bound_17 (by decide) (fun cc => ?_) (fun cc => ?_)
    · skip
      have hf := if_t cc hf
      refine lv_iconst (v := -1) hx hb dd_Re_bound_33 (by decide) ?_
      have hf := Option.some.inj hf
      subst hf
      exact W.iret hx hb hr (fun t ht hW => ⟨⟨_, (), rfl, rfl, pst_of ht hP hD⟩, hS.F ht⟩) hS.2.2 dd_Re_bound_34
    · skip
      have hf := if_f cc hf
      refine lv_iload_n hx hb dd_Re_bound_20 rfl (lv_at hl 3 rfl) ?_
      refine lv_i2l hx hb dd_Re_bound_21 rfl ?_
      refine lv_iload_n hx hb dd_Re_bound_22 rfl (lv_at hl 2 rfl) ?_
      refine lv_i2l hx hb dd_Re_bound_23 rfl ?_
      refine lv_ldc2 (v := 1000000) hx hb hown (hts _ (gwc gw_786)) dd_Re_bound_24 ?_
      obtain ⟨r27, hr27, hf⟩ := bind_some hf
      refine xcalli (rest := []) (wc := (wd_Re_isIn cI cZ)) (w1 := (wd_Re_isIn cI cZ)) (wr := [(a_t, .inr (9, [.int t_nodes, .int t_kinds, .ref a_t_weight, .ref a_t_arcs, .ref a_t_split, .ref a_t_least, .ref a_t_most, .int t_levels, .ref a_t_levelNodes, .ref a_t_levelWeight, .ref a_t_levelArc, .ref a_t_levelIn, .int t_size, .int t_base, .ref a_t_row, .ref a_t_isFree, .ref a_t_best, .ref a_t_above, .ref a_t_ordered, .ref a_t_parts])), (a_t_least, .inl (cI, 4, .inl t_least)), (a_t_most, .inl (cI, 4, .inl t_most))]) (ws' := (wd_Re_bound cI cZ a_t a_t_least a_t_most a_t_weight a_t_arcs a_t_split a_t_levelNodes a_t_levelWeight a_t_levelArc a_t_levelIn a_t_row a_t_isFree a_t_best a_t_above a_t_ordered a_t_parts t_nodes t_kinds t_levels t_size t_base t_least t_most)) (va_runS (As := [.long x3.toInt64, .long x2.toInt64, .long (1000000 : Int64)]) ⟨hx, hb, hml, hown, hts⟩ (c_Re_isIn l dC dI cI cZ H.size x3.toInt64 x2.toInt64 (1000000 : Int64) r27 hr27) (va_cwS 3 hts (gS gw_699 gw_700 gw_61 gw_701) rfl rfl rfl (yd_Re_isIn).2 ⟨Nat.le_of_ble_eq_true rfl, Nat.le_of_ble_eq_true rfl⟩) (mkS hK (hP.sub (ws' := (wd_Re_isIn cI cZ)) [] rfl) (hD.sub (ws' := (wd_Re_isIn cI cZ)) [] (by decide) rfl) hN) rfl rfl hl.1 rfl (lv_room (Nat.le_of_ble_eq_true rfl)) dd_Re_bound_27 ⟨Nat.zero_le _, Nat.zero_le _⟩) hP hD hS hA [] [0, 1, 2] [0, 1, 2] rfl rfl (by decide) (by decide) rfl (by decide) rfl (fun H locs hP hD hS => ?_)
      refine lv_if_ne (tgt := 35) hx hb dd_Re_bound_30 (by decide) (fun cc => ?_) (fun cc => ?_)
      · skip
        have hf := if_f cc hf
        refine lv_aload_n hx hb dd_Re_bound_35 rfl (lv_at hl 0 rfl) ?_
        refine va_get (D := (dC, dI)) (ci := 9) (v := .ref a_t_least) (C := rr_Re) (T := tt_Re) (N := 20) hx hb hts (fun w h => gwc (inn_Re w h)) hown hK hP 0 rfl rfl 5 (by decide) (hts _ (gwc gw_708)) (fun _ h9 => h9) rfl dd_Re_bound_36 ?_
        refine lv_iload_n hx hb dd_Re_bound_39 rfl (lv_at hl 1 rfl) ?_
        refine lv_iload_n hx hb dd_Re_bound_40 rfl (lv_at hl 2 rfl) ?_
        obtain ⟨k41, hf⟩ := ck_some hf
        refine va_iast hx hb hK hP hD hS 1 0 rfl rfl (okb_in k41) dd_Re_bound_41 (fun H locs hP hD hS => ?_)
        have hP : va_P (dC, dI) clsL (wd_Re_bound cI cZ a_t a_t_least a_t_most a_t_weight a_t_arcs a_t_split a_t_levelNodes a_t_levelWeight a_t_levelArc a_t_levelIn a_t_row a_t_isFree a_t_best a_t_above a_t_ordered a_t_parts t_nodes t_kinds t_levels t_size t_base (upd t_least (x1).toNatClampNeg x2) t_most) H := hP
        have hD : va_D A (wd_Re_bound cI cZ a_t a_t_least a_t_most a_t_weight a_t_arcs a_t_split a_t_levelNodes a_t_levelWeight a_t_levelArc a_t_levelIn a_t_row a_t_isFree a_t_best a_t_above a_t_ordered a_t_parts t_nodes t_kinds t_levels t_size t_base (upd t_least (x1).toNatClampNeg x2) t_most) := hD
        refine lv_aload_n hx hb dd_Re_bound_42 rfl (lv_at hl 0 rfl) ?_
        refine va_get (D := (dC, dI)) (ci := 9) (v := .ref a_t_most) (C := rr_Re) (T := tt_Re) (N := 20) hx hb hts (fun w h => gwc (inn_Re w h)) hown hK hP 0 rfl rfl 6 (by decide) (hts _ (gwc gw_709)) (fun _ h9 => h9) rfl dd_Re_bound_43 ?_
        refine lv_iload_n hx hb dd_Re_bound_46 rfl (lv_at hl 1 rfl) ?_
        refine lv_iload_n hx hb dd_Re_bound_47 rfl (lv_at hl 3 rfl) ?_
        obtain ⟨k48, hf⟩ := ck_some hf
        refine va_iast hx hb hK hP hD hS 2 0 rfl rfl (okb_in k48) dd_Re_bound_48 (fun H locs hP hD hS => ?_)
        have hP : va_P (dC, dI) clsL (wd_Re_bound cI cZ a_t a_t_least a_t_most a_t_weight a_t_arcs a_t_split a_t_levelNodes a_t_levelWeight a_t_levelArc a_t_levelIn a_t_row a_t_isFree a_t_best a_t_above a_t_ordered a_t_parts t_nodes t_kinds t_levels t_size t_base (upd t_least (x1).toNatClampNeg x2) (upd t_most (x1).toNatClampNeg x3)) H := hP
        have hD : va_D A (wd_Re_bound cI cZ a_t a_t_least a_t_most a_t_weight a_t_arcs a_t_split a_t_levelNodes a_t_levelWeight a_t_levelArc a_t_levelIn a_t_row a_t_isFree a_t_best a_t_above a_t_ordered a_t_parts t_nodes t_kinds t_levels t_size t_base (upd t_least (x1).toNatClampNeg x2) (upd t_most (x1).toNatClampNeg x3)) := hD
        refine lv_iconst (v := 0) hx hb dd_Re_bound_49 (by decide) ?_
        have hf := Option.some.inj hf
        subst hf
        exact W.iret hx hb hr (fun t ht hW => ⟨⟨_, (), rfl, rfl, pst_of ht hP hD⟩, hS.F ht⟩) hS.2.2 dd_Re_bound_50
      · skip
        have hf := if_t cc hf
        refine lv_iconst (v := -1) hx hb dd_Re_bound_33 (by decide) ?_
        have hf := Option.some.inj hf
        subst hf
        exact W.iret hx hb hr (fun t ht hW => ⟨⟨_, (), rfl, rfl, pst_of ht hP hD⟩, hS.F ht⟩) hS.2.2 dd_Re_bound_34
abbrev wd_Re_put (cI cZ : ClassId) (a_t a_t_split a_t_weight a_t_arcs a_t_least a_t_most a_t_levelNodes a_t_levelWeight a_t_levelArc a_t_levelIn a_t_row a_t_isFree a_t_best a_t_above a_t_ordered a_t_parts : Nat) (t_nodes : Int32) (t_kinds : Int32) (t_levels : Int32) (t_size : Int32) (t_base : Int32) (t_split : Nat → Int32) : va_W := [(a_t, .inr (9, [.int t_nodes, .int t_kinds, .ref a_t_weight, .ref a_t_arcs, .ref a_t_split, .ref a_t_least, .ref a_t_most, .int t_levels, .ref a_t_levelNodes, .ref a_t_levelWeight, .ref a_t_levelArc, .ref a_t_levelIn, .int t_size, .int t_base, .ref a_t_row, .ref a_t_isFree, .ref a_t_best, .ref a_t_above, .ref a_t_ordered, .ref a_t_parts])), (a_t_split, .inl (cI, 40, .inl t_split))]
set_option maxRecDepth 100000 in
set_option maxHeartbeats 4000000 in
theorem c_Re_put (l : Launch) (dC : Nat → ClassId) (dI : Nat → Nat → Nat) (cI cZ : ClassId) (a_t a_t_split a_t_weight a_t_arcs a_t_least a_t_most a_t_levelNodes a_t_levelWeight a_t_levelArc a_t_levelIn a_t_row a_t_isFree a_t_best a_t_above a_t_ordered a_t_parts sz : Nat) (x1 : Int32) (x2 : Int32) (t_nodes : Int32) (t_kinds : Int32) (t_levels : Int32) (t_size : Int32) (t_base : Int32) (t_split : Nat → Int32) (out : Int32 × (Nat → Int32)) (hf : f_Re_put x1 x2 t_nodes t_kinds t_split = some out) :
    Met l yy_Re_put wq_Re_put ({ frames := 2, cells := 0, slots := 0, locals := 46 }) (va_Pc ([.ref a_t, .int x1, .int x2] : List Value) (pre_ (dC, dI) cI cZ sz (wd_Re_put cI cZ a_t a_t_split a_t_weight a_t_arcs a_t_least a_t_most a_t_levelNodes a_t_levelWeight a_t_levelArc a_t_levelIn a_t_row a_t_isFree a_t_best a_t_above a_t_ordered a_t_parts t_nodes t_kinds t_levels t_size t_base t_split))) (va_Qi (fun (r : Int32) (_ : Unit) => r = out.1) (fun _ => pst (dC, dI) (va_A (wd_Re_put cI cZ a_t a_t_split a_t_weight a_t_arcs a_t_least a_t_most a_t_levelNodes a_t_levelWeight a_t_levelArc a_t_levelIn a_t_row a_t_isFree a_t_best a_t_above a_t_ordered a_t_parts t_nodes t_kinds t_levels t_size t_base t_split) sz) (wd_Re_put cI cZ a_t a_t_split a_t_weight a_t_arcs a_t_least a_t_most a_t_levelNodes a_t_levelWeight a_t_levelArc a_t_levelIn a_t_row a_t_isFree a_t_best a_t_above a_t_ordered a_t_parts t_nodes t_kinds t_levels t_size t_base out.2)) (va_A (wd_Re_put cI cZ a_t a_t_split a_t_weight a_t_arcs a_t_least a_t_most a_t_levelNodes a_t_levelWeight a_t_levelArc a_t_levelIn a_t_row a_t_isFree a_t_best a_t_above a_t_ordered a_t_parts t_nodes t_kinds t_levels t_size t_base t_split) sz)) 0 0 (va_A (wd_Re_put cI cZ a_t a_t_split a_t_weight a_t_arcs a_t_least a_t_most a_t_levelNodes a_t_levelWeight a_t_levelArc a_t_levelIn a_t_row a_t_isFree a_t_best a_t_above a_t_ordered a_t_parts t_nodes t_kinds t_levels t_size t_base t_split) sz) := by
  refine Met.ofW (cc := cc_Re_put) (maxL := 4) (ret := (some .int)) (by decide) rfl ?_
  intro p e s m args below meth c s₁ B hml hv
  obtain ⟨rfl, hsz, hP, hK, hD0, hN⟩ := hv
  have hx := B.exec
  have hb := B.bytes
  have hr := B.returns
  have hts := atoms_spec (ws := wq_Re_put) B.pre
  have hown : s.vm.findClass rr_Re = some m.cls := findClass_of_methodNamed B.named
  have hlocks := B.notSynchronized
  subst hsz
  have hD := hD0.self (sz := s.heap.size)
  generalize hAe : va_A (wd_Re_put cI cZ a_t a_t_split a_t_weight a_t_arcs a_t_least a_t_most a_t_levelNodes a_t_levelWeight a_t_levelArc a_t_levelIn a_t_row a_t_isFree a_t_best a_t_above a_t_ordered a_t_parts t_nodes t_kinds t_levels t_size t_base t_split) s.heap.size = A at hD ⊢
  have hA : ∀ q : Nat, s.heap.size ≤ q → A q := fun q h => by rw [← hAe]; exact Or.inr h
  obtain ⟨H, hH⟩ : ∃ H : Heap, H = s.heap := ⟨_, rfl⟩
  have hS : va_S A s.heap H [] := by rw [hH]; exact va_S.rf
  have hl := lv_entry (([.ref a_t, .int x1, .int x2] : List Value)) (n := 4) (Nat.le_of_ble_eq_true rfl)
  rw [lg_entry_eq]
  generalize (lg_sl (([.ref a_t, .int x1, .int x2] : List Value)) ++ List.replicate (4 - (lg_sl (([.ref a_t, .int x1, .int x2] : List Value))).length) Slot.unset).toArray = ls at hl ⊢
  have hl : lv_has ls 4 [(0, .ref a_t), (1, .int x1), (2, .int x2)] := hl
  rw [← hH] at hP ⊢
  have hP : va_P (dC, dI) clsL (wd_Re_put cI cZ a_t a_t_split a_t_weight a_t_arcs a_t_least a_t_most a_t_levelNodes a_t_levelWeight a_t_levelArc a_t_levelIn a_t_row a_t_isFree a_t_best a_t_above a_t_ordered a_t_parts t_nodes t_kinds t_levels t_size t_base t_split) H := hP
  unfold f_Re_put at hf
  refine lv_aload_n hx hb dd_Re_put_0 rfl (lv_at hl 0 rfl) ?_
  refine lv_iload_n hx hb dd_Re_put_1 rfl (lv_at hl 1 rfl) ?_
  obtain ⟨r2, hr2, hf⟩ := bind_some hf
  refine xcalli (rest := []) (wc := (wd_Re_isNode cI cZ a_t a_t_weight a_t_arcs a_t_split a_t_least a_t_most a_t_levelNodes a_t_levelWeight a_t_levelArc a_t_levelIn a_t_row a_t_isFree a_t_best a_t_above a_t_ordered a_t_parts t_nodes t_kinds t_levels t_size t_base)) (w1 := (wd_Re_isNode cI cZ a_t a_t_weight a_t_arcs a_t_split a_t_least a_t_most a_t_levelNodes a_t_levelWeight a_t_levelArc a_t_levelIn a_t_row a_t_isFree a_t_best a_t_above a_t_ordered a_t_parts t_nodes t_kinds t_levels t_size t_base)) (wr := [(a_t_split, .inl (cI, 40, .inl t_split))]) (ws' := (wd_Re_put cI cZ a_t a_t_split a_t_weight a_t_arcs a_t_least a_t_most a_t_levelNodes a_t_levelWeight a_t_levelArc a_t_levelIn a_t_row a_t_isFree a_t_best a_t_above a_t_ordered a_t_parts t_nodes t_kinds t_levels t_size t_base t_split)) (va_runV (As := [.int x1]) ⟨hx, hb, hml, hown, hts⟩ (c_Re_isNode l dC dI cI cZ a_t a_t_weight a_t_arcs a_t_split a_t_least a_t_most a_t_levelNodes a_t_levelWeight a_t_levelArc a_t_levelIn a_t_row a_t_isFree a_t_best a_t_above a_t_ordered a_t_parts H.size x1 t_nodes t_kinds t_levels t_size t_base r2 hr2) (cwV 1 hts (gV gw_773 gw_775 gw_29 gw_61 gw_776) rfl rfl rfl (yd_Re_isNode) ⟨Nat.le_of_ble_eq_true rfl, Nat.le_of_ble_eq_true rfl⟩) (mkV hK (hP.sub (ws' := (wd_Re_isNode cI cZ a_t a_t_weight a_t_arcs a_t_split a_t_least a_t_most a_t_levelNodes a_t_levelWeight a_t_levelArc a_t_levelIn a_t_row a_t_isFree a_t_best a_t_above a_t_ordered a_t_parts t_nodes t_kinds t_levels t_size t_base)) [0] rfl) (hD.sub (ws' := (wd_Re_isNode cI cZ a_t a_t_weight a_t_arcs a_t_split a_t_least a_t_most a_t_levelNodes a_t_levelWeight a_t_levelArc a_t_levelIn a_t_row a_t_isFree a_t_best a_t_above a_t_ordered a_t_parts t_nodes t_kinds t_levels t_size t_base)) [0] (by decide) rfl) hN (va_recv hK hP (ci := 9) (q0 := 0) rfl rfl)) rfl rfl hl.1 rfl (lv_room (Nat.le_of_ble_eq_true rfl)) dd_Re_put_2 ⟨Nat.zero_le _, Nat.zero_le _⟩) hP hD hS hA [0] [1] [1, 0] rfl rfl (by decide) (by decide) rfl (by decide) rfl (fun H locs hP hD hS => ?_)
  refine lv_if_eq (tgt := 16) hx hb dd_Re_put_5 (by decide) (fun cc => ?_) (fun cc => ?_)
  · skip
    have hf := if_t cc hf
    refine lv_iconst (v := -1) hx hb dd_Re_put_16 (by decide) ?_
    have hf := Option.some.inj hf
    subst hf
    exact W.iret hx hb hr (fun t ht hW => ⟨⟨_, (), rfl, rfl, pst_of ht hP hD⟩, hS.F ht⟩) hS.2.2 dd_Re_put_17
  · skip
    have hf := if_f cc hf
    refine lv_aload_n hx hb dd_Re_put_8 rfl (lv_at hl 0 rfl) ?_
    refine lv_iload_n hx hb dd_Re_put_9 rfl (lv_at hl 2 rfl) ?_
    obtain ⟨r10, hr10, hf⟩ := bind_some hf
    refine xcalli (rest := []) (wc := (wd_Re_isPart cI cZ a_t a_t_weight a_t_arcs a_t_split a_t_least a_t_most a_t_levelNodes a_t_levelWeight a_t_levelArc a_t_levelIn a_t_row a_t_isFree a_t_best a_t_above a_t_ordered a_t_parts t_nodes t_kinds t_levels t_size t_base)) (w1 := (wd_Re_isPart cI cZ a_t a_t_weight a_t_arcs a_t_split a_t_least a_t_most a_t_levelNodes a_t_levelWeight a_t_levelArc a_t_levelIn a_t_row a_t_isFree a_t_best a_t_above a_t_ordered a_t_parts t_nodes t_kinds t_levels t_size t_base)) (wr := [(a_t_split, .inl (cI, 40, .inl t_split))]) (ws' := (wd_Re_put cI cZ a_t a_t_split a_t_weight a_t_arcs a_t_least a_t_most a_t_levelNodes a_t_levelWeight a_t_levelArc a_t_levelIn a_t_row a_t_isFree a_t_best a_t_above a_t_ordered a_t_parts t_nodes t_kinds t_levels t_size t_base t_split)) (va_runV (As := [.int x2]) ⟨hx, hb, hml, hown, hts⟩ (c_Re_isPart l dC dI cI cZ a_t a_t_weight a_t_arcs a_t_split a_t_least a_t_most a_t_levelNodes a_t_levelWeight a_t_levelArc a_t_levelIn a_t_row a_t_isFree a_t_best a_t_above a_t_ordered a_t_parts H.size x2 t_nodes t_kinds t_levels t_size t_base r10 hr10) (cwV 1 hts (gV gw_782 gw_784 gw_30 gw_61 gw_785) rfl rfl rfl (yd_Re_isPart) ⟨Nat.le_of_ble_eq_true rfl, Nat.le_of_ble_eq_true rfl⟩) (mkV hK (hP.sub (ws' := (wd_Re_isPart cI cZ a_t a_t_weight a_t_arcs a_t_split a_t_least a_t_most a_t_levelNodes a_t_levelWeight a_t_levelArc a_t_levelIn a_t_row a_t_isFree a_t_best a_t_above a_t_ordered a_t_parts t_nodes t_kinds t_levels t_size t_base)) [0] rfl) (hD.sub (ws' := (wd_Re_isPart cI cZ a_t a_t_weight a_t_arcs a_t_split a_t_least a_t_most a_t_levelNodes a_t_levelWeight a_t_levelArc a_t_levelIn a_t_row a_t_isFree a_t_best a_t_above a_t_ordered a_t_parts t_nodes t_kinds t_levels t_size t_base)) [0] (by decide) rfl) hN (va_recv hK hP (ci := 9) (q0 := 0) rfl rfl)) rfl rfl hl.1 rfl (lv_room (Nat.le_of_ble_eq_true rfl)) dd_Re_put_10 ⟨Nat.zero_le _, Nat.zero_le _⟩) hP hD hS hA [0] [1] [1, 0] rfl rfl (by decide) (by decide) rfl (by decide) rfl (fun H locs hP hD hS => ?_)
    refine lv_if_ne (tgt := 18) hx hb dd_Re_put_13 (by decide) (fun cc => ?_) (fun cc => ?_)
    · skip
      have hf := if_f cc hf
      refine lv_aload_n hx hb dd_Re_put_18 rfl (lv_at hl 0 rfl) ?_
      refine va_get (D := (dC, dI)) (ci := 9) (v := .ref a_t_split) (C := rr_Re) (T := tt_Re) (N := 20) hx hb hts (fun w h => gwc (inn_Re w h)) hown hK hP 0 rfl rfl 4 (by decide) (hts _ (gwc gw_707)) (fun _ h9 => h9) rfl dd_Re_put_19 ?_
      refine lv_iload_n hx hb dd_Re_put_22 rfl (lv_at hl 1 rfl) ?_
      obtain ⟨k23, hf⟩ := ck_some hf
      refine va_iald hx hb hK hP 1 0 rfl rfl (okb_in k23) dd_Re_put_23 ?_
      refine lv_istore_n (lv' := [(3, .int (t_split (x1).toNatClampNeg)), (0, .ref a_t), (1, .int x1), (2, .int x2)]) hx hb dd_Re_put_24 rfl hl (by decide) rfl (fun ls hl => ?_)
      refine lv_aload_n hx hb dd_Re_put_25 rfl (lv_at hl 1 rfl) ?_
      refine va_get (D := (dC, dI)) (ci := 9) (v := .ref a_t_split) (C := rr_Re) (T := tt_Re) (N := 20) hx hb hts (fun w h => gwc (inn_Re w h)) hown hK hP 0 rfl rfl 4 (by decide) (hts _ (gwc gw_707)) (fun _ h9 => h9) rfl dd_Re_put_26 ?_
      refine lv_iload_n hx hb dd_Re_put_29 rfl (lv_at hl 2 rfl) ?_
      refine lv_iload_n hx hb dd_Re_put_30 rfl (lv_at hl 3 rfl) ?_
      obtain ⟨k31, hf⟩ := ck_some hf
      refine va_iast hx hb hK hP hD hS 1 0 rfl rfl (okb_in k31) dd_Re_put_31 (fun H locs hP hD hS => ?_)
      have hP : va_P (dC, dI) clsL (wd_Re_put cI cZ a_t a_t_split a_t_weight a_t_arcs a_t_least a_t_most a_t_levelNodes a_t_levelWeight a_t_levelArc a_t_levelIn a_t_row a_t_isFree a_t_best a_t_above a_t_ordered a_t_parts t_nodes t_kinds t_levels t_size t_base (upd t_split (x1).toNatClampNeg x2)) H := hP
      have hD : va_D A (wd_Re_put cI cZ a_t a_t_split a_t_weight a_t_arcs a_t_least a_t_most a_t_levelNodes a_t_levelWeight a_t_levelArc a_t_levelIn a_t_row a_t_isFree a_t_best a_t_above a_t_ordered a_t_parts t_nodes t_kinds t_levels t_size t_base (upd t_split (x1).toNatClampNeg x2)) := hD
      refine lv_iload_n hx hb dd_Re_put_32 rfl (lv_at hl 0 rfl) ?_
      have hf := Option.some.inj hf
      subst hf
      exact W.iret hx hb hr (fun t ht hW => ⟨⟨_, (), rfl, rfl, pst_of ht hP hD⟩, hS.F ht⟩) hS.2.2 dd_Re_put_33
    · skip
      have hf := if_t cc hf
      refine lv_iconst (v := -1) hx hb dd_Re_put_16 (by decide) ?_
      have hf := Option.some.inj hf
      subst hf
      exact W.iret hx hb hr (fun t ht hW => ⟨⟨_, (), rfl, rfl, pst_of ht hP hD⟩, hS.F ht⟩) hS.2.2 dd_Re_put_17
abbrev wd_Re_clear (cI cZ : ClassId) (a_t a_t_least a_t_most a_t_split a_t_weight a_t_arcs a_t_levelNodes a_t_levelWeight a_t_levelArc a_t_levelIn a_t_row a_t_isFree a_t_best a_t_above a_t_ordered a_t_parts : Nat) (t_nodes : Int32) (t_kinds : Int32) (t_levels : Int32) (t_size : Int32) (t_base : Int32) (t_least : Nat → Int32) (t_most : Nat → Int32) (t_split : Nat → Int32) : va_W := [(a_t, .inr (9, [.int t_nodes, .int t_kinds, .ref a_t_weight, .ref a_t_arcs, .ref a_t_split, .ref a_t_least, .ref a_t_most, .int t_levels, .ref a_t_levelNodes, .ref a_t_levelWeight, .ref a_t_levelArc, .ref a_t_levelIn, .int t_size, .int t_base, .ref a_t_row, .ref a_t_isFree, .ref a_t_best, .ref a_t_above, .ref a_t_ordered, .ref a_t_parts])), (a_t_least, .inl (cI, 4, .inl t_least)), (a_t_most, .inl (cI, 4, .inl t_most)), (a_t_split, .inl (cI, 40, .inl t_split))]
set_option maxRecDepth 100000 in
set_option maxHeartbeats 4000000 in
theorem c_Re_clear (l : Launch) (dC : Nat → ClassId) (dI : Nat → Nat → Nat) (cI cZ : ClassId) (a_t a_t_least a_t_most a_t_split a_t_weight a_t_arcs a_t_levelNodes a_t_levelWeight a_t_levelArc a_t_levelIn a_t_row a_t_isFree a_t_best a_t_above a_t_ordered a_t_parts sz : Nat) (t_nodes : Int32) (t_kinds : Int32) (t_levels : Int32) (t_size : Int32) (t_base : Int32) (t_least : Nat → Int32) (t_most : Nat → Int32) (t_split : Nat → Int32) (out : Int32 × Int32 × Int32 × (Nat → Int32) × (Nat → Int32) × (Nat → Int32)) (hf : f_Re_clear t_nodes t_kinds t_least t_most t_split = some out) :
    Met l yy_Re_clear wq_Re_clear ({ frames := 2, cells := 0, slots := 0, locals := 48 }) (va_Pc ([.ref a_t] : List Value) (pre_ (dC, dI) cI cZ sz (wd_Re_clear cI cZ a_t a_t_least a_t_most a_t_split a_t_weight a_t_arcs a_t_levelNodes a_t_levelWeight a_t_levelArc a_t_levelIn a_t_row a_t_isFree a_t_best a_t_above a_t_ordered a_t_parts t_nodes t_kinds t_levels t_size t_base t_least t_most t_split))) (va_Qi (fun (r : Int32) (_ : Unit) => r = out.1) (fun _ => pst (dC, dI) (va_A (wd_Re_clear cI cZ a_t a_t_least a_t_most a_t_split a_t_weight a_t_arcs a_t_levelNodes a_t_levelWeight a_t_levelArc a_t_levelIn a_t_row a_t_isFree a_t_best a_t_above a_t_ordered a_t_parts t_nodes t_kinds t_levels t_size t_base t_least t_most t_split) sz) (wd_Re_clear cI cZ a_t a_t_least a_t_most a_t_split a_t_weight a_t_arcs a_t_levelNodes a_t_levelWeight a_t_levelArc a_t_levelIn a_t_row a_t_isFree a_t_best a_t_above a_t_ordered a_t_parts out.2.1 out.2.2.1 t_levels t_size t_base out.2.2.2.1 out.2.2.2.2.1 out.2.2.2.2.2)) (va_A (wd_Re_clear cI cZ a_t a_t_least a_t_most a_t_split a_t_weight a_t_arcs a_t_levelNodes a_t_levelWeight a_t_levelArc a_t_levelIn a_t_row a_t_isFree a_t_best a_t_above a_t_ordered a_t_parts t_nodes t_kinds t_levels t_size t_base t_least t_most t_split) sz)) 0 0 (va_A (wd_Re_clear cI cZ a_t a_t_least a_t_most a_t_split a_t_weight a_t_arcs a_t_levelNodes a_t_levelWeight a_t_levelArc a_t_levelIn a_t_row a_t_isFree a_t_best a_t_above a_t_ordered a_t_parts t_nodes t_kinds t_levels t_size t_base t_least t_most t_split) sz) := by
  refine Met.ofW (cc := cc_Re_clear) (maxL := 2) (ret := (some .int)) (by decide) rfl ?_
  intro p e s m args below meth c s₁ B hml hv
  obtain ⟨rfl, hsz, hP, hK, hD0, hN⟩ := hv
  have hx := B.exec
  have hb := B.bytes
  have hr := B.returns
  have hts := atoms_spec (ws := wq_Re_clear) B.pre
  have hown : s.vm.findClass rr_Re = some m.cls := findClass_of_methodNamed B.named
  have hlocks := B.notSynchronized
  subst hsz
  have hD := hD0.self (sz := s.heap.size)
  generalize hAe : va_A (wd_Re_clear cI cZ a_t a_t_least a_t_most a_t_split a_t_weight a_t_arcs a_t_levelNodes a_t_levelWeight a_t_levelArc a_t_levelIn a_t_row a_t_isFree a_t_best a_t_above a_t_ordered a_t_parts t_nodes t_kinds t_levels t_size t_base t_least t_most t_split) s.heap.size = A at hD ⊢
  have hA : ∀ q : Nat, s.heap.size ≤ q → A q := fun q h => by rw [← hAe]; exact Or.inr h
  obtain ⟨H, hH⟩ : ∃ H : Heap, H = s.heap := ⟨_, rfl⟩
  have hS : va_S A s.heap H [] := by rw [hH]; exact va_S.rf
  have hl := lv_entry (([.ref a_t] : List Value)) (n := 2) (Nat.le_of_ble_eq_true rfl)
  rw [lg_entry_eq]
  generalize (lg_sl (([.ref a_t] : List Value)) ++ List.replicate (2 - (lg_sl (([.ref a_t] : List Value))).length) Slot.unset).toArray = ls at hl ⊢
  have hl : lv_has ls 2 [(0, .ref a_t)] := hl
  rw [← hH] at hP ⊢
  have hP : va_P (dC, dI) clsL (wd_Re_clear cI cZ a_t a_t_least a_t_most a_t_split a_t_weight a_t_arcs a_t_levelNodes a_t_levelWeight a_t_levelArc a_t_levelIn a_t_row a_t_isFree a_t_best a_t_above a_t_ordered a_t_parts t_nodes t_kinds t_levels t_size t_base t_least t_most t_split) H := hP
  unfold f_Re_clear at hf
  refine lv_aload_n hx hb dd_Re_clear_0 rfl (lv_at hl 0 rfl) ?_
  refine va_get (D := (dC, dI)) (ci := 9) (v := .int t_nodes) (C := rr_Re) (T := tt_Re) (N := 20) hx hb hts (fun w h => gwc (inn_Re w h)) hown hK hP 0 rfl rfl 0 (by decide) (hts _ (gwc gw_703)) (fun _ h9 => h9) rfl dd_Re_clear_1 ?_
  refine lv_istore_n (lv' := [(1, .int t_nodes), (0, .ref a_t)]) hx hb dd_Re_clear_4 rfl hl (by decide) rfl (fun ls hl => ?_)
  refine lv_aload_n hx hb dd_Re_clear_5 rfl (lv_at hl 1 rfl) ?_
  refine lv_iconst (v := 0) hx hb dd_Re_clear_6 (by decide) ?_
  refine va_put (D := (dC, dI)) (ci := 9) (v := .int 0) (ty := .int) (C := rr_Re) (T := tt_Re) (N := 20) hx hb hts (fun w h => gwc (inn_Re w h)) tf_Re to_Re tn_Re hown hK hP hD hS 0 rfl rfl 0 (by decide) (hts _ (gwc gw_703)) (fun _ h9 => h9) rfl (by decide +kernel) rfl rfl (Nat.le_of_ble_eq_true rfl) dd_Re_clear_7 (fun H locs hP hD hS => ?_)
  have hP : va_P (dC, dI) clsL (wd_Re_clear cI cZ a_t a_t_least a_t_most a_t_split a_t_weight a_t_arcs a_t_levelNodes a_t_levelWeight a_t_levelArc a_t_levelIn a_t_row a_t_isFree a_t_best a_t_above a_t_ordered a_t_parts 0 t_kinds t_levels t_size t_base t_least t_most t_split) H := hP
  have hD : va_D A (wd_Re_clear cI cZ a_t a_t_least a_t_most a_t_split a_t_weight a_t_arcs a_t_levelNodes a_t_levelWeight a_t_levelArc a_t_levelIn a_t_row a_t_isFree a_t_best a_t_above a_t_ordered a_t_parts 0 t_kinds t_levels t_size t_base t_least t_most t_split) := hD
  refine lv_aload_n hx hb dd_Re_clear_10 rfl (lv_at hl 1 rfl) ?_
  refine lv_iconst (v := 2) hx hb dd_Re_clear_11 (by decide) ?_
  obtain ⟨r12, hr12, hf⟩ := bind_some hf
  refine xcalli (rest := []) (wc := (wd_Re_parts cI cZ a_t a_t_least a_t_most a_t_split a_t_weight a_t_arcs a_t_levelNodes a_t_levelWeight a_t_levelArc a_t_levelIn a_t_row a_t_isFree a_t_best a_t_above a_t_ordered a_t_parts 0 t_kinds t_levels t_size t_base t_least t_most t_split)) (w1 := (wd_Re_parts cI cZ a_t a_t_least a_t_most a_t_split a_t_weight a_t_arcs a_t_levelNodes a_t_levelWeight a_t_levelArc a_t_levelIn a_t_row a_t_isFree a_t_best a_t_above a_t_ordered a_t_parts 0 r12.2.1 t_levels t_size t_base r12.2.2.1 r12.2.2.2.1 r12.2.2.2.2)) (wr := []) (ws' := (wd_Re_clear cI cZ a_t a_t_least a_t_most a_t_split a_t_weight a_t_arcs a_t_levelNodes a_t_levelWeight a_t_levelArc a_t_levelIn a_t_row a_t_isFree a_t_best a_t_above a_t_ordered a_t_parts 0 r12.2.1 t_levels t_size t_base r12.2.2.1 r12.2.2.2.1 r12.2.2.2.2)) (va_runV (As := [.int 2]) ⟨hx, hb, hml, hown, hts⟩ (c_Re_parts l dC dI cI cZ a_t a_t_least a_t_most a_t_split a_t_weight a_t_arcs a_t_levelNodes a_t_levelWeight a_t_levelArc a_t_levelIn a_t_row a_t_isFree a_t_best a_t_above a_t_ordered a_t_parts H.size 2 0 t_kinds t_levels t_size t_base t_least t_most t_split r12 hr12) (cwV 1 hts (gV gw_693 gw_694 gw_695 gw_61 gw_696) rfl rfl rfl (yd_Re_parts) ⟨Nat.le_of_ble_eq_true rfl, Nat.le_of_ble_eq_true rfl⟩) (mkV hK (hP.sub (ws' := (wd_Re_parts cI cZ a_t a_t_least a_t_most a_t_split a_t_weight a_t_arcs a_t_levelNodes a_t_levelWeight a_t_levelArc a_t_levelIn a_t_row a_t_isFree a_t_best a_t_above a_t_ordered a_t_parts 0 t_kinds t_levels t_size t_base t_least t_most t_split)) [0, 1, 2, 3] rfl) (hD.sub (ws' := (wd_Re_parts cI cZ a_t a_t_least a_t_most a_t_split a_t_weight a_t_arcs a_t_levelNodes a_t_levelWeight a_t_levelArc a_t_levelIn a_t_row a_t_isFree a_t_best a_t_above a_t_ordered a_t_parts 0 t_kinds t_levels t_size t_base t_least t_most t_split)) [0, 1, 2, 3] (by decide) rfl) hN (va_recv hK hP (ci := 9) (q0 := 0) rfl rfl)) rfl rfl hl.1 rfl (lv_room (Nat.le_of_ble_eq_true rfl)) dd_Re_clear_12 ⟨Nat.zero_le _, Nat.zero_le _⟩) hP hD hS hA [0, 1, 2, 3] [] [0, 1, 2, 3] rfl rfl (by decide) (by decide) rfl (by decide) rfl (fun H locs hP hD hS => ?_)
  refine lv_pop hx hb dd_Re_clear_15 rfl ?_
  refine lv_iload_n hx hb dd_Re_clear_16 rfl (lv_at hl 0 rfl) ?_
  have hf := Option.some.inj hf
  subst hf
  exact W.iret hx hb hr (fun t ht hW => ⟨⟨_, (), rfl, rfl, pst_of ht hP hD⟩, hS.F ht⟩) hS.2.2 dd_Re_clear_17
abbrev wd_Re_mate (cI cZ : ClassId) (a_t a_t_levelArc a_t_levelIn a_t_levelNodes a_t_levelWeight a_t_weight a_t_arcs a_t_split a_t_least a_t_most a_t_row a_t_isFree a_t_best a_t_above a_t_ordered a_t_parts : Nat) (t_nodes : Int32) (t_kinds : Int32) (t_levels : Int32) (t_size : Int32) (t_base : Int32) (t_levelArc : Nat → Int32) (t_levelIn : Nat → Int32) (t_levelNodes : Nat → Int32) (t_levelWeight : Nat → Int32) : va_W := [(a_t, .inr (9, [.int t_nodes, .int t_kinds, .ref a_t_weight, .ref a_t_arcs, .ref a_t_split, .ref a_t_least, .ref a_t_most, .int t_levels, .ref a_t_levelNodes, .ref a_t_levelWeight, .ref a_t_levelArc, .ref a_t_levelIn, .int t_size, .int t_base, .ref a_t_row, .ref a_t_isFree, .ref a_t_best, .ref a_t_above, .ref a_t_ordered, .ref a_t_parts])), (a_t_levelArc, .inl (cI, 65600, .inl t_levelArc)), (a_t_levelIn, .inl (cI, 1640, .inl t_levelIn)), (a_t_levelNodes, .inl (cI, 41, .inl t_levelNodes)), (a_t_levelWeight, .inl (cI, 1640, .inl t_levelWeight))]
set_option maxRecDepth 100000 in
set_option maxHeartbeats 4000000 in
theorem c_Re_mate (l : Launch) (dC : Nat → ClassId) (dI : Nat → Nat → Nat) (cI cZ : ClassId) (a_t a_t_levelArc a_t_levelIn a_t_levelNodes a_t_levelWeight a_t_weight a_t_arcs a_t_split a_t_least a_t_most a_t_row a_t_isFree a_t_best a_t_above a_t_ordered a_t_parts sz : Nat) (x1 : Int32) (x2 : Int32) (x3 : Int64) (t_nodes : Int32) (t_kinds : Int32) (t_levels : Int32) (t_size : Int32) (t_base : Int32) (t_levelArc : Nat → Int32) (t_levelIn : Nat → Int32) (t_levelNodes : Nat → Int32) (t_levelWeight : Nat → Int32) (out : Int32) (hf : f_Re_mate x1 x2 x3 t_levelArc t_levelIn t_levelNodes t_levelWeight = some out) :
    Met l yy_Re_mate wq_Re_mate ({ frames := 0, cells := 0, slots := 0, locals := 0 }) (va_Pc ([.ref a_t, .int x1, .int x2, .long x3] : List Value) (pre_ (dC, dI) cI cZ sz (wd_Re_mate cI cZ a_t a_t_levelArc a_t_levelIn a_t_levelNodes a_t_levelWeight a_t_weight a_t_arcs a_t_split a_t_least a_t_most a_t_row a_t_isFree a_t_best a_t_above a_t_ordered a_t_parts t_nodes t_kinds t_levels t_size t_base t_levelArc t_levelIn t_levelNodes t_levelWeight))) (va_Qi (fun (r : Int32) (_ : Unit) => r = out) (fun _ => pst (dC, dI) (va_A (wd_Re_mate cI cZ a_t a_t_levelArc a_t_levelIn a_t_levelNodes a_t_levelWeight a_t_weight a_t_arcs a_t_split a_t_least a_t_most a_t_row a_t_isFree a_t_best a_t_above a_t_ordered a_t_parts t_nodes t_kinds t_levels t_size t_base t_levelArc t_levelIn t_levelNodes t_levelWeight) sz) (wd_Re_mate cI cZ a_t a_t_levelArc a_t_levelIn a_t_levelNodes a_t_levelWeight a_t_weight a_t_arcs a_t_split a_t_least a_t_most a_t_row a_t_isFree a_t_best a_t_above a_t_ordered a_t_parts t_nodes t_kinds t_levels t_size t_base t_levelArc t_levelIn t_levelNodes t_levelWeight)) (va_A (wd_Re_mate cI cZ a_t a_t_levelArc a_t_levelIn a_t_levelNodes a_t_levelWeight a_t_weight a_t_arcs a_t_split a_t_least a_t_most a_t_row a_t_isFree a_t_best a_t_above a_t_ordered a_t_parts t_nodes t_kinds t_levels t_size t_base t_levelArc t_levelIn t_levelNodes t_levelWeight) sz)) 0 0 (va_A (wd_Re_mate cI cZ a_t a_t_levelArc a_t_levelIn a_t_levelNodes a_t_levelWeight a_t_weight a_t_arcs a_t_split a_t_least a_t_most a_t_row a_t_isFree a_t_best a_t_above a_t_ordered a_t_parts t_nodes t_kinds t_levels t_size t_base t_levelArc t_levelIn t_levelNodes t_levelWeight) sz) := by
  refine Met.ofW (cc := cc_Re_mate) (maxL := 10) (ret := (some .int)) (by decide) rfl ?_
  intro p e s m args below meth c s₁ B hml hv
  obtain ⟨rfl, hsz, hP, hK, hD0, hN⟩ := hv
  have hx := B.exec
  have hb := B.bytes
  have hr := B.returns
  have hts := atoms_spec (ws := wq_Re_mate) B.pre
  have hown : s.vm.findClass rr_Re = some m.cls := findClass_of_methodNamed B.named
  have hlocks := B.notSynchronized
  subst hsz
  have hD := hD0.self (sz := s.heap.size)
  generalize hAe : va_A (wd_Re_mate cI cZ a_t a_t_levelArc a_t_levelIn a_t_levelNodes a_t_levelWeight a_t_weight a_t_arcs a_t_split a_t_least a_t_most a_t_row a_t_isFree a_t_best a_t_above a_t_ordered a_t_parts t_nodes t_kinds t_levels t_size t_base t_levelArc t_levelIn t_levelNodes t_levelWeight) s.heap.size = A at hD ⊢
  have hA : ∀ q : Nat, s.heap.size ≤ q → A q := fun q h => by rw [← hAe]; exact Or.inr h
  obtain ⟨H, hH⟩ : ∃ H : Heap, H = s.heap := ⟨_, rfl⟩
  have hS : va_S A s.heap H [] := by rw [hH]; exact va_S.rf
  have hl := lv_entry (([.ref a_t, .int x1, .int x2, .long x3] : List Value)) (n := 10) (Nat.le_of_ble_eq_true rfl)
  rw [lg_entry_eq]
  generalize (lg_sl (([.ref a_t, .int x1, .int x2, .long x3] : List Value)) ++ List.replicate (10 - (lg_sl (([.ref a_t, .int x1, .int x2, .long x3] : List Value))).length) Slot.unset).toArray = ls at hl ⊢
  have hl : lv_has ls 10 [(0, .ref a_t), (1, .int x1), (2, .int x2), (3, .long x3)] := hl
  rw [← hH] at hP ⊢
  have hP : va_P (dC, dI) clsL (wd_Re_mate cI cZ a_t a_t_levelArc a_t_levelIn a_t_levelNodes a_t_levelWeight a_t_weight a_t_arcs a_t_split a_t_least a_t_most a_t_row a_t_isFree a_t_best a_t_above a_t_ordered a_t_parts t_nodes t_kinds t_levels t_size t_base t_levelArc t_levelIn t_levelNodes t_levelWeight) H := hP
  unfold f_Re_mate at hf
  have h9 : ∀ (n9 : Nat) (x5 : Int32) (x6 : Int32) (x7 : Int32) (ls : Array Slot) (H : Heap) (locs : List Loc), L_Re_mate_9 x1 x2 x3 t_levelArc t_levelIn t_levelNodes t_levelWeight n9 x5 x6 x7 = some out → lv_has ls 10 [(0, .ref a_t), (1, .int x1), (2, .int x2), (3, .long x3), (5, .int x5), (6, .int x6), (7, .int x7)] → va_P (dC, dI) clsL (wd_Re_mate cI cZ a_t a_t_levelArc a_t_levelIn a_t_levelNodes a_t_levelWeight a_t_weight a_t_arcs a_t_split a_t_least a_t_most a_t_row a_t_isFree a_t_best a_t_above a_t_ordered a_t_parts t_nodes t_kinds t_levels t_size t_base t_levelArc t_levelIn t_levelNodes t_levelWeight) H → va_D A (wd_Re_mate cI cZ a_t a_t_levelArc a_t_levelIn a_t_levelNodes a_t_levelWeight a_t_weight a_t_arcs a_t_split a_t_least a_t_most a_t_row a_t_isFree a_t_best a_t_above a_t_ordered a_t_parts t_nodes t_kinds t_levels t_size t_base t_levelArc t_levelIn t_levelNodes t_levelWeight) → va_S A s.heap H locs → W p l e (headSpec wq_Re_mate ({ frames := 0, cells := 0, slots := 0, locals := 0 })).room s m ([.ref a_t, .int x1, .int x2, .long x3] : List Value).toArray below meth c H locs 0 0 (MQ below (va_Qi (fun (r : Int32) (_ : Unit) => r = out) (fun _ => pst (dC, dI) A (wd_Re_mate cI cZ a_t a_t_levelArc a_t_levelIn a_t_levelNodes a_t_levelWeight a_t_weight a_t_arcs a_t_split a_t_least a_t_most a_t_row a_t_isFree a_t_best a_t_above a_t_ordered a_t_parts t_nodes t_kinds t_levels t_size t_base t_levelArc t_levelIn t_levelNodes t_levelWeight)) A) ([.ref a_t, .int x1, .int x2, .long x3] : List Value).toArray s 0 0 A) (F0 m 9 ls []) := by
    intro n9
    induction n9 with
    | zero =>
      intro x5 x6 x7 ls H locs hf
      rw [L_Re_mate_9] at hf
      exact absurd hf (fun h => by cases h)
    | succ n9 ih9 =>
      intro x5 x6 x7 ls H locs hf hl hP hD hS
      rw [L_Re_mate_9] at hf
      have h150 : ∀ (y0 : Int32) (x5 : Int32) (x6 : Int32) (x7 : Int32) (x8 : Int32) (ls : Array Slot) (H : Heap) (locs : List Loc), J_Re_mate_150 (L_Re_mate_9 x1 x2 x3 t_levelArc t_levelIn t_levelNodes t_levelWeight n9) y0 x5 x6 x7 x8 = some out → lv_has ls 10 [(0, .ref a_t), (1, .int x1), (2, .int x2), (3, .long x3), (5, .int x5), (6, .int x6), (7, .int x7), (8, .int x8)] → va_P (dC, dI) clsL (wd_Re_mate cI cZ a_t a_t_levelArc a_t_levelIn a_t_levelNodes a_t_levelWeight a_t_weight a_t_arcs a_t_split a_t_least a_t_most a_t_row a_t_isFree a_t_best a_t_above a_t_ordered a_t_parts t_nodes t_kinds t_levels t_size t_base t_levelArc t_levelIn t_levelNodes t_levelWeight) H → va_D A (wd_Re_mate cI cZ a_t a_t_levelArc a_t_levelIn a_t_levelNodes a_t_levelWeight a_t_weight a_t_arcs a_t_split a_t_least a_t_most a_t_row a_t_isFree a_t_best a_t_above a_t_ordered a_t_parts t_nodes t_kinds t_levels t_size t_base t_levelArc t_levelIn t_levelNodes t_levelWeight) → va_S A s.heap H locs → W p l e (headSpec wq_Re_mate ({ frames := 0, cells := 0, slots := 0, locals := 0 })).room s m ([.ref a_t, .int x1, .int x2, .long x3] : List Value).toArray below meth c H locs 0 0 (MQ below (va_Qi (fun (r : Int32) (_ : Unit) => r = out) (fun _ => pst (dC, dI) A (wd_Re_mate cI cZ a_t a_t_levelArc a_t_levelIn a_t_levelNodes a_t_levelWeight a_t_weight a_t_arcs a_t_split a_t_least a_t_most a_t_row a_t_isFree a_t_best a_t_above a_t_ordered a_t_parts t_nodes t_kinds t_levels t_size t_base t_levelArc t_levelIn t_levelNodes t_levelWeight)) A) ([.ref a_t, .int x1, .int x2, .long x3] : List Value).toArray s 0 0 A) (F0 m 150 ls [.int y0]) := by
        intro y0 x5 x6 x7 x8 ls H locs hf hl hP hD hS
        unfold J_Re_mate_150 at hf
        refine lv_istore (lv' := [(9, .int y0), (0, .ref a_t), (1, .int x1), (2, .int x2), (3, .long x3), (5, .int x5), (6, .int x6), (7, .int x7), (8, .int x8)]) hx hb dd_Re_mate_150 hl (by decide) rfl (fun ls hl => ?_)
        refine lv_iload hx hb dd_Re_mate_152 (lv_at hl 0 rfl) ?_
        refine lv_if_ne (tgt := 160) hx hb dd_Re_mate_154 (by decide) (fun cc => ?_) (fun cc => ?_)
        · skip
          have hf := if_f cc hf
          refine lv_iload hx hb dd_Re_mate_160 (lv_at hl 7 rfl) ?_
          refine lv_istore (lv' := [(5, .int x7), (9, .int y0), (0, .ref a_t), (1, .int x1), (2, .int x2), (3, .long x3), (6, .int x6), (7, .int x7), (8, .int x8)]) hx hb dd_Re_mate_162 hl (by decide) rfl (fun ls hl => ?_)
          refine lv_iload hx hb dd_Re_mate_164 (lv_at hl 8 rfl) ?_
          refine lv_istore (lv' := [(6, .int x8), (5, .int x7), (9, .int y0), (0, .ref a_t), (1, .int x1), (2, .int x2), (3, .long x3), (7, .int x7), (8, .int x8)]) hx hb dd_Re_mate_166 hl (by decide) rfl (fun ls hl => ?_)
          refine lv_iinc (v := x7 + 1) (lv' := [(7, .int (x7 + 1)), (6, .int x8), (5, .int x7), (9, .int y0), (0, .ref a_t), (1, .int x1), (2, .int x2), (3, .long x3), (8, .int x8)]) hx hb dd_Re_mate_168 hl (k := 7) rfl rfl (by decide) rfl (fun ls hl => ?_)
          refine lv_goto (tgt := 9) hx hb dd_Re_mate_171 (by decide) ?_
          exact ih9 x7 x8 (x7 + 1) _ _ _ hf (lv_sub hl [4, 5, 6, 7, 2, 1, 0] rfl) hP hD hS
        · skip
          have hf := if_t cc hf
          refine lv_goto (tgt := 168) hx hb dd_Re_mate_157 (by decide) ?_
          refine lv_iinc (v := x7 + 1) (lv' := [(7, .int (x7 + 1)), (9, .int y0), (0, .ref a_t), (1, .int x1), (2, .int x2), (3, .long x3), (5, .int x5), (6, .int x6), (8, .int x8)]) hx hb dd_Re_mate_168 hl (k := 7) rfl rfl (by decide) rfl (fun ls hl => ?_)
          refine lv_goto (tgt := 9) hx hb dd_Re_mate_171 (by decide) ?_
          exact ih9 x5 x6 (x7 + 1) _ _ _ hf (lv_sub hl [2, 3, 4, 5, 6, 7, 0] rfl) hP hD hS
      have h145 : ∀ (x5 : Int32) (x6 : Int32) (x7 : Int32) (x8 : Int32) (ls : Array Slot) (H : Heap) (locs : List Loc), J_Re_mate_145 (L_Re_mate_9 x1 x2 x3 t_levelArc t_levelIn t_levelNodes t_levelWeight n9) x5 x6 x7 x8 = some out → lv_has ls 10 [(0, .ref a_t), (1, .int x1), (2, .int x2), (3, .long x3), (5, .int x5), (6, .int x6), (7, .int x7), (8, .int x8)] → va_P (dC, dI) clsL (wd_Re_mate cI cZ a_t a_t_levelArc a_t_levelIn a_t_levelNodes a_t_levelWeight a_t_weight a_t_arcs a_t_split a_t_least a_t_most a_t_row a_t_isFree a_t_best a_t_above a_t_ordered a_t_parts t_nodes t_kinds t_levels t_size t_base t_levelArc t_levelIn t_levelNodes t_levelWeight) H → va_D A (wd_Re_mate cI cZ a_t a_t_levelArc a_t_levelIn a_t_levelNodes a_t_levelWeight a_t_weight a_t_arcs a_t_split a_t_least a_t_most a_t_row a_t_isFree a_t_best a_t_above a_t_ordered a_t_parts t_nodes t_kinds t_levels t_size t_base t_levelArc t_levelIn t_levelNodes t_levelWeight) → va_S A s.heap H locs → W p l e (headSpec wq_Re_mate ({ frames := 0, cells := 0, slots := 0, locals := 0 })).room s m ([.ref a_t, .int x1, .int x2, .long x3] : List Value).toArray below meth c H locs 0 0 (MQ below (va_Qi (fun (r : Int32) (_ : Unit) => r = out) (fun _ => pst (dC, dI) A (wd_Re_mate cI cZ a_t a_t_levelArc a_t_levelIn a_t_levelNodes a_t_levelWeight a_t_weight a_t_arcs a_t_split a_t_least a_t_most a_t_row a_t_isFree a_t_best a_t_above a_t_ordered a_t_parts t_nodes t_kinds t_levels t_size t_base t_levelArc t_levelIn t_levelNodes t_levelWeight)) A) ([.ref a_t, .int x1, .int x2, .long x3] : List Value).toArray s 0 0 A) (F0 m 145 ls []) := by
        intro x5 x6 x7 x8 ls H locs hf hl hP hD hS
        unfold J_Re_mate_145 at hf
        refine lv_iconst (v := 1) hx hb dd_Re_mate_145 (by decide) ?_
        refine lv_goto (tgt := 150) hx hb dd_Re_mate_146 (by decide) ?_
        exact h150 1 x5 x6 x7 x8 _ _ _ hf (lv_sub hl [0, 1, 2, 3, 4, 5, 6, 7] rfl) hP hD hS
      have h149 : ∀ (x5 : Int32) (x6 : Int32) (x7 : Int32) (x8 : Int32) (ls : Array Slot) (H : Heap) (locs : List Loc), J_Re_mate_149 (L_Re_mate_9 x1 x2 x3 t_levelArc t_levelIn t_levelNodes t_levelWeight n9) x5 x6 x7 x8 = some out → lv_has ls 10 [(0, .ref a_t), (1, .int x1), (2, .int x2), (3, .long x3), (5, .int x5), (6, .int x6), (7, .int x7), (8, .int x8)] → va_P (dC, dI) clsL (wd_Re_mate cI cZ a_t a_t_levelArc a_t_levelIn a_t_levelNodes a_t_levelWeight a_t_weight a_t_arcs a_t_split a_t_least a_t_most a_t_row a_t_isFree a_t_best a_t_above a_t_ordered a_t_parts t_nodes t_kinds t_levels t_size t_base t_levelArc t_levelIn t_levelNodes t_levelWeight) H → va_D A (wd_Re_mate cI cZ a_t a_t_levelArc a_t_levelIn a_t_levelNodes a_t_levelWeight a_t_weight a_t_arcs a_t_split a_t_least a_t_most a_t_row a_t_isFree a_t_best a_t_above a_t_ordered a_t_parts t_nodes t_kinds t_levels t_size t_base t_levelArc t_levelIn t_levelNodes t_levelWeight) → va_S A s.heap H locs → W p l e (headSpec wq_Re_mate ({ frames := 0, cells := 0, slots := 0, locals := 0 })).room s m ([.ref a_t, .int x1, .int x2, .long x3] : List Value).toArray below meth c H locs 0 0 (MQ below (va_Qi (fun (r : Int32) (_ : Unit) => r = out) (fun _ => pst (dC, dI) A (wd_Re_mate cI cZ a_t a_t_levelArc a_t_levelIn a_t_levelNodes a_t_levelWeight a_t_weight a_t_arcs a_t_split a_t_least a_t_most a_t_row a_t_isFree a_t_best a_t_above a_t_ordered a_t_parts t_nodes t_kinds t_levels t_size t_base t_levelArc t_levelIn t_levelNodes t_levelWeight)) A) ([.ref a_t, .int x1, .int x2, .long x3] : List Value).toArray s 0 0 A) (F0 m 149 ls []) := by
        intro x5 x6 x7 x8 ls H locs hf hl hP hD hS
        unfold J_Re_mate_149 at hf
        refine lv_iconst (v := 0) hx hb dd_Re_mate_149 (by decide) ?_
        exact h150 0 x5 x6 x7 x8 _ _ _ hf (lv_sub hl [0, 1, 2, 3, 4, 5, 6, 7] rfl) hP hD hS
      refine lv_iload hx hb dd_Re_mate_9 (lv_at hl 6 rfl) ?_
      refine lv_aload_n hx hb dd_Re_mate_11 rfl (lv_at hl 0 rfl) ?_
      refine va_get (D := (dC, dI)) (ci := 9) (v := .ref a_t_levelNodes) (C := rr_Re) (T := tt_Re) (N := 20) hx hb hts (fun w h => gwc (inn_Re w h)) hown hK hP 0 rfl rfl 8 (by decide) (hts _ (gwc gw_711)) (fun _ h9 => h9) rfl dd_Re_mate_12 ?_
      refine lv_iload_n hx hb dd_Re_mate_15 rfl (lv_at hl 1 rfl) ?_
      obtain ⟨k16, hf⟩ := ck_some hf
      refine va_iald hx hb hK hP 3 0 rfl rfl (okb_in k16) dd_Re_mate_16 ?_
      refine lv_icmp_ge (tgt := 174) hx hb dd_Re_mate_17 (by decide) (fun cc => ?_) (fun cc => ?_)
      · skip
        have hf := if_t cc hf
        refine lv_iload hx hb dd_Re_mate_174 (lv_at hl 4 rfl) ?_
        have hf := Option.some.inj hf
        subst hf
        exact W.iret hx hb hr (fun t ht hW => ⟨⟨_, (), rfl, rfl, pst_of ht hP hD⟩, hS.F ht⟩) hS.2.2 dd_Re_mate_176
      · skip
        have hf := if_f cc hf
        refine lv_aload_n hx hb dd_Re_mate_20 rfl (lv_at hl 0 rfl) ?_
        refine va_get (D := (dC, dI)) (ci := 9) (v := .ref a_t_levelArc) (C := rr_Re) (T := tt_Re) (N := 20) hx hb hts (fun w h => gwc (inn_Re w h)) hown hK hP 0 rfl rfl 10 (by decide) (hts _ (gwc gw_713)) (fun _ h9 => h9) rfl dd_Re_mate_21 ?_
        refine lv_sipush (v := 1600) hx hb dd_Re_mate_24 (by decide) ?_
        refine lv_iload_n hx hb dd_Re_mate_27 rfl (lv_at hl 1 rfl) ?_
        refine lv_imul hx hb dd_Re_mate_28 ?_
        refine lv_bipush (v := 40) hx hb dd_Re_mate_29 (by decide) ?_
        refine lv_iload_n hx hb dd_Re_mate_31 rfl (lv_at hl 2 rfl) ?_
        refine lv_imul hx hb dd_Re_mate_32 ?_
        refine lv_iadd hx hb dd_Re_mate_33 ?_
        refine lv_iload hx hb dd_Re_mate_34 (lv_at hl 6 rfl) ?_
        refine lv_iadd hx hb dd_Re_mate_36 ?_
        obtain ⟨k37, hf⟩ := ck_some hf
        refine va_iald hx hb hK hP 1 0 rfl rfl (okb_in k37) dd_Re_mate_37 ?_
        refine lv_istore (lv' := [(8, .int (t_levelArc (((1600 * x1) + (40 * x2)) + x7).toNatClampNeg)), (0, .ref a_t), (1, .int x1), (2, .int x2), (3, .long x3), (5, .int x5), (6, .int x6), (7, .int x7)]) hx hb dd_Re_mate_38 hl (by decide) rfl (fun ls hl => ?_)
        refine lv_iload hx hb dd_Re_mate_40 (lv_at hl 7 rfl) ?_
        refine lv_iload_n hx hb dd_Re_mate_42 rfl (lv_at hl 3 rfl) ?_
        refine lv_icmp_eq (tgt := 168) hx hb dd_Re_mate_43 (by decide) (fun cc => ?_) (fun cc => ?_)
        · skip
          have hf := if_t cc hf
          refine lv_iinc (v := x7 + 1) (lv' := [(7, .int (x7 + 1)), (8, .int (t_levelArc (((1600 * x1) + (40 * x2)) + x7).toNatClampNeg)), (0, .ref a_t), (1, .int x1), (2, .int x2), (3, .long x3), (5, .int x5), (6, .int x6)]) hx hb dd_Re_mate_168 hl (k := 7) rfl rfl (by decide) rfl (fun ls hl => ?_)
          refine lv_goto (tgt := 9) hx hb dd_Re_mate_171 (by decide) ?_
          exact ih9 x5 x6 (x7 + 1) _ _ _ hf (lv_sub hl [2, 3, 4, 5, 6, 7, 0] rfl) hP hD hS
        · skip
          have hf := if_f cc hf
          refine lv_iload hx hb dd_Re_mate_46 (lv_at hl 0 rfl) ?_
          refine lv_if_eq (tgt := 168) hx hb dd_Re_mate_48 (by decide) (fun cc => ?_) (fun cc => ?_)
          · skip
            have hf := if_t cc hf
            refine lv_iinc (v := x7 + 1) (lv' := [(7, .int (x7 + 1)), (8, .int (t_levelArc (((1600 * x1) + (40 * x2)) + x7).toNatClampNeg)), (0, .ref a_t), (1, .int x1), (2, .int x2), (3, .long x3), (5, .int x5), (6, .int x6)]) hx hb dd_Re_mate_168 hl (k := 7) rfl rfl (by decide) rfl (fun ls hl => ?_)
            refine lv_goto (tgt := 9) hx hb dd_Re_mate_171 (by decide) ?_
            exact ih9 x5 x6 (x7 + 1) _ _ _ hf (lv_sub hl [2, 3, 4, 5, 6, 7, 0] rfl) hP hD hS
          · skip
            have hf := if_f cc hf
            refine lv_aload_n hx hb dd_Re_mate_51 rfl (lv_at hl 1 rfl) ?_
            refine va_get (D := (dC, dI)) (ci := 9) (v := .ref a_t_levelIn) (C := rr_Re) (T := tt_Re) (N := 20) hx hb hts (fun w h => gwc (inn_Re w h)) hown hK hP 0 rfl rfl 11 (by decide) (hts _ (gwc gw_714)) (fun _ h9 => h9) rfl dd_Re_mate_52 ?_
            refine lv_bipush (v := 40) hx hb dd_Re_mate_55 (by decide) ?_
            refine lv_iload_n hx hb dd_Re_mate_57 rfl (lv_at hl 2 rfl) ?_
            refine lv_imul hx hb dd_Re_mate_58 ?_
            refine lv_iload hx hb dd_Re_mate_59 (lv_at hl 7 rfl) ?_
            refine lv_iadd hx hb dd_Re_mate_61 ?_
            obtain ⟨k62, hf⟩ := ck_some hf
            refine va_iald hx hb hK hP 2 0 rfl rfl (okb_in k62) dd_Re_mate_62 ?_
            refine lv_if_ge (tgt := 168) hx hb dd_Re_mate_63 (by decide) (fun cc => ?_) (fun cc => ?_)
            · skip
              have hf := if_t cc hf
              refine lv_iinc (v := x7 + 1) (lv' := [(7, .int (x7 + 1)), (8, .int (t_levelArc (((1600 * x1) + (40 * x2)) + x7).toNatClampNeg)), (0, .ref a_t), (1, .int x1), (2, .int x2), (3, .long x3), (5, .int x5), (6, .int x6)]) hx hb dd_Re_mate_168 hl (k := 7) rfl rfl (by decide) rfl (fun ls hl => ?_)
              refine lv_goto (tgt := 9) hx hb dd_Re_mate_171 (by decide) ?_
              exact ih9 x5 x6 (x7 + 1) _ _ _ hf (lv_sub hl [2, 3, 4, 5, 6, 7, 0] rfl) hP hD hS
            · skip
              have hf := if_f cc hf
              refine lv_aload_n hx hb dd_Re_mate_66 rfl (lv_at hl 1 rfl) ?_
              refine va_get (D := (dC, dI)) (ci := 9) (v := .ref a_t_levelWeight) (C := rr_Re) (T := tt_Re) (N := 20) hx hb hts (fun w h => gwc (inn_Re w h)) hown hK hP 0 rfl rfl 9 (by decide) (hts _ (gwc gw_712)) (fun _ h9 => h9) rfl dd_Re_mate_67 ?_
              refine lv_bipush (v := 40) hx hb dd_Re_mate_70 (by decide) ?_
              refine lv_iload_n hx hb dd_Re_mate_72 rfl (lv_at hl 2 rfl) ?_
              refine lv_imul hx hb dd_Re_mate_73 ?_
              refine lv_iload_n hx hb dd_Re_mate_74 rfl (lv_at hl 3 rfl) ?_
              refine lv_iadd hx hb dd_Re_mate_75 ?_
              obtain ⟨k76, hf⟩ := ck_some hf
              refine va_iald hx hb hK hP 4 0 rfl rfl (okb_in k76) dd_Re_mate_76 ?_
              refine lv_aload_n hx hb dd_Re_mate_77 rfl (lv_at hl 1 rfl) ?_
              refine va_get (D := (dC, dI)) (ci := 9) (v := .ref a_t_levelWeight) (C := rr_Re) (T := tt_Re) (N := 20) hx hb hts (fun w h => gwc (inn_Re w h)) hown hK hP 0 rfl rfl 9 (by decide) (hts _ (gwc gw_712)) (fun _ h9 => h9) rfl dd_Re_mate_78 ?_
              refine lv_bipush (v := 40) hx hb dd_Re_mate_81 (by decide) ?_
              refine lv_iload_n hx hb dd_Re_mate_83 rfl (lv_at hl 2 rfl) ?_
              refine lv_imul hx hb dd_Re_mate_84 ?_
              refine lv_iload hx hb dd_Re_mate_85 (lv_at hl 7 rfl) ?_
              refine lv_iadd hx hb dd_Re_mate_87 ?_
              obtain ⟨k88, hf⟩ := ck_some hf
              refine va_iald hx hb hK hP 4 0 rfl rfl (okb_in k88) dd_Re_mate_88 ?_
              refine lv_iadd hx hb dd_Re_mate_89 ?_
              refine lv_i2l hx hb dd_Re_mate_90 rfl ?_
              refine lv_lload_n hx hb dd_Re_mate_91 rfl (lv_at hl 4 rfl) ?_
              refine W.lcmp hx hb dd_Re_mate_92 ?_
              refine lv_if_le (tgt := 99) hx hb dd_Re_mate_93 (by decide) (fun cc => ?_) (fun cc => ?_)
              · skip
                have hf := if_t cc hf
                refine lv_iload hx hb dd_Re_mate_99 (lv_at hl 5 rfl) ?_
                refine lv_if_lt (tgt := 145) hx hb dd_Re_mate_101 (by decide) (fun cc => ?_) (fun cc => ?_)
                · skip
                  have hf := if_t cc hf
                  exact h145 x5 x6 x7 (t_levelArc (((1600 * x1) + (40 * x2)) + x7).toNatClampNeg) _ _ _ hf (lv_sub hl [1, 2, 3, 4, 5, 6, 7, 0] rfl) hP hD hS
                · skip
                  have hf := if_f cc hf
                  refine lv_iload hx hb dd_Re_mate_104 (lv_at hl 0 rfl) ?_
                  refine lv_iload hx hb dd_Re_mate_106 (lv_at hl 6 rfl) ?_
                  refine lv_icmp_gt (tgt := 145) hx hb dd_Re_mate_108 (by decide) (fun cc => ?_) (fun cc => ?_)
                  · skip
                    have hf := if_t cc hf
                    exact h145 x5 x6 x7 (t_levelArc (((1600 * x1) + (40 * x2)) + x7).toNatClampNeg) _ _ _ hf (lv_sub hl [1, 2, 3, 4, 5, 6, 7, 0] rfl) hP hD hS
                  · skip
                    have hf := if_f cc hf
                    refine lv_iload hx hb dd_Re_mate_111 (lv_at hl 0 rfl) ?_
                    refine lv_iload hx hb dd_Re_mate_113 (lv_at hl 6 rfl) ?_
                    refine lv_icmp_ne (tgt := 149) hx hb dd_Re_mate_115 (by decide) (fun cc => ?_) (fun cc => ?_)
                    · skip
                      have hf := if_f cc hf
                      exact h149 x5 x6 x7 (t_levelArc (((1600 * x1) + (40 * x2)) + x7).toNatClampNeg) _ _ _ hf (lv_sub hl [1, 2, 3, 4, 5, 6, 7, 0] rfl) hP hD hS
                    · skip
                      have hf := if_t cc hf
                      refine lv_aload_n hx hb dd_Re_mate_118 rfl (lv_at hl 1 rfl) ?_
                      refine va_get (D := (dC, dI)) (ci := 9) (v := .ref a_t_levelWeight) (C := rr_Re) (T := tt_Re) (N := 20) hx hb hts (fun w h => gwc (inn_Re w h)) hown hK hP 0 rfl rfl 9 (by decide) (hts _ (gwc gw_712)) (fun _ h9 => h9) rfl dd_Re_mate_119 ?_
                      refine lv_bipush (v := 40) hx hb dd_Re_mate_122 (by decide) ?_
                      refine lv_iload_n hx hb dd_Re_mate_124 rfl (lv_at hl 2 rfl) ?_
                      refine lv_imul hx hb dd_Re_mate_125 ?_
                      refine lv_iload hx hb dd_Re_mate_126 (lv_at hl 7 rfl) ?_
                      refine lv_iadd hx hb dd_Re_mate_128 ?_
                      obtain ⟨k129, hf⟩ := ck_some hf
                      refine va_iald hx hb hK hP 4 0 rfl rfl (okb_in k129) dd_Re_mate_129 ?_
                      refine lv_aload_n hx hb dd_Re_mate_130 rfl (lv_at hl 1 rfl) ?_
                      refine va_get (D := (dC, dI)) (ci := 9) (v := .ref a_t_levelWeight) (C := rr_Re) (T := tt_Re) (N := 20) hx hb hts (fun w h => gwc (inn_Re w h)) hown hK hP 0 rfl rfl 9 (by decide) (hts _ (gwc gw_712)) (fun _ h9 => h9) rfl dd_Re_mate_131 ?_
                      refine lv_bipush (v := 40) hx hb dd_Re_mate_134 (by decide) ?_
                      refine lv_iload_n hx hb dd_Re_mate_136 rfl (lv_at hl 2 rfl) ?_
                      refine lv_imul hx hb dd_Re_mate_137 ?_
                      refine lv_iload hx hb dd_Re_mate_138 (lv_at hl 5 rfl) ?_
                      refine lv_iadd hx hb dd_Re_mate_140 ?_
                      obtain ⟨k141, hf⟩ := ck_some hf
                      refine va_iald hx hb hK hP 4 0 rfl rfl (okb_in k141) dd_Re_mate_141 ?_
                      refine lv_icmp_ge (tgt := 149) hx hb dd_Re_mate_142 (by decide) (fun cc => ?_) (fun cc => ?_)
                      · skip
                        have hf := if_t cc hf
                        exact h149 x5 x6 x7 (t_levelArc (((1600 * x1) + (40 * x2)) + x7).toNatClampNeg) _ _ _ hf (lv_sub hl [1, 2, 3, 4, 5, 6, 7, 0] rfl) hP hD hS
                      · skip
                        have hf := if_f cc hf
                        exact h145 x5 x6 x7 (t_levelArc (((1600 * x1) + (40 * x2)) + x7).toNatClampNeg) _ _ _ hf (lv_sub hl [1, 2, 3, 4, 5, 6, 7, 0] rfl) hP hD hS
              · skip
                have hf := if_f cc hf
                refine lv_goto (tgt := 168) hx hb dd_Re_mate_96 (by decide) ?_
                refine lv_iinc (v := x7 + 1) (lv' := [(7, .int (x7 + 1)), (8, .int (t_levelArc (((1600 * x1) + (40 * x2)) + x7).toNatClampNeg)), (0, .ref a_t), (1, .int x1), (2, .int x2), (3, .long x3), (5, .int x5), (6, .int x6)]) hx hb dd_Re_mate_168 hl (k := 7) rfl rfl (by decide) rfl (fun ls hl => ?_)
                refine lv_goto (tgt := 9) hx hb dd_Re_mate_171 (by decide) ?_
                exact ih9 x5 x6 (x7 + 1) _ _ _ hf (lv_sub hl [2, 3, 4, 5, 6, 7, 0] rfl) hP hD hS
  refine lv_iconst (v := -1) hx hb dd_Re_mate_0 (by decide) ?_
  refine lv_istore (lv' := [(5, .int (-1)), (0, .ref a_t), (1, .int x1), (2, .int x2), (3, .long x3)]) hx hb dd_Re_mate_1 hl (by decide) rfl (fun ls hl => ?_)
  refine lv_iconst (v := 0) hx hb dd_Re_mate_3 (by decide) ?_
  refine lv_istore (lv' := [(6, .int 0), (5, .int (-1)), (0, .ref a_t), (1, .int x1), (2, .int x2), (3, .long x3)]) hx hb dd_Re_mate_4 hl (by decide) rfl (fun ls hl => ?_)
  refine lv_iconst (v := 0) hx hb dd_Re_mate_6 (by decide) ?_
  refine lv_istore (lv' := [(7, .int 0), (6, .int 0), (5, .int (-1)), (0, .ref a_t), (1, .int x1), (2, .int x2), (3, .long x3)]) hx hb dd_Re_mate_7 hl (by decide) rfl (fun ls hl => ?_)
  exact h9 64 (-1) 0 0 _ _ _ hf (lv_sub hl [3, 4, 5, 6, 2, 1, 0] rfl) hP hD hS
