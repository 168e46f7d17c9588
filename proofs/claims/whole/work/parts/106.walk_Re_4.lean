abbrev wd_Re_pass (cI cZ : ClassId) (a_t a_t_best a_t_isFree a_t_least a_t_levelArc a_t_levelWeight a_t_most a_t_row a_t_weight a_t_arcs a_t_split a_t_levelNodes a_t_levelIn a_t_above a_t_ordered a_t_parts : Nat) (t_nodes : Int32) (t_kinds : Int32) (t_levels : Int32) (t_size : Int32) (t_base : Int32) (t_best : Nat → Int32) (t_isFree : Nat → Int32) (t_least : Nat → Int32) (t_levelArc : Nat → Int32) (t_levelWeight : Nat → Int32) (t_most : Nat → Int32) (t_row : Nat → Int32) : va_W := [(a_t, .inr (9, [.int t_nodes, .int t_kinds, .ref a_t_weight, .ref a_t_arcs, .ref a_t_split, .ref a_t_least, .ref a_t_most, .int t_levels, .ref a_t_levelNodes, .ref a_t_levelWeight, .ref a_t_levelArc, .ref a_t_levelIn, .int t_size, .int t_base, .ref a_t_row, .ref a_t_isFree, .ref a_t_best, .ref a_t_above, .ref a_t_ordered, .ref a_t_parts])), (a_t_best, .inl (cI, 40, .inl t_best)), (a_t_isFree, .inl (cZ, 40, .inl t_isFree)), (a_t_least, .inl (cI, 4, .inl t_least)), (a_t_levelArc, .inl (cI, 65600, .inl t_levelArc)), (a_t_levelWeight, .inl (cI, 1640, .inl t_levelWeight)), (a_t_most, .inl (cI, 4, .inl t_most)), (a_t_row, .inl (cI, 40, .inl t_row))]
set_option maxRecDepth 100000 in
set_option maxHeartbeats 4000000 in
theorem c_Re_pass (l : Launch) (dC : Nat → ClassId) (dI : Nat → Nat → Nat) (cI cZ : ClassId) (a_t a_t_best a_t_isFree a_t_least a_t_levelArc a_t_levelWeight a_t_most a_t_row a_t_weight a_t_arcs a_t_split a_t_levelNodes a_t_levelIn a_t_above a_t_ordered a_t_parts sz : Nat) (t_nodes : Int32) (t_kinds : Int32) (t_levels : Int32) (t_size : Int32) (t_base : Int32) (t_best : Nat → Int32) (t_isFree : Nat → Int32) (t_least : Nat → Int32) (t_levelArc : Nat → Int32) (t_levelWeight : Nat → Int32) (t_most : Nat → Int32) (t_row : Nat → Int32) (out : Int32 × (Nat → Int32) × (Nat → Int32) × (Nat → Int32)) (hf : f_Re_pass t_kinds t_size t_base t_best t_isFree t_least t_levelArc t_levelWeight t_most t_row = some out) :
    Met l yy_Re_pass wq_Re_pass ({ frames := 3, cells := 0, slots := 0, locals := 70 }) (va_Pc ([.ref a_t] : List Value) (pre_ (dC, dI) cI cZ sz (wd_Re_pass cI cZ a_t a_t_best a_t_isFree a_t_least a_t_levelArc a_t_levelWeight a_t_most a_t_row a_t_weight a_t_arcs a_t_split a_t_levelNodes a_t_levelIn a_t_above a_t_ordered a_t_parts t_nodes t_kinds t_levels t_size t_base t_best t_isFree t_least t_levelArc t_levelWeight t_most t_row))) (va_Qi (fun (r : Int32) (_ : Unit) => r = out.1) (fun _ => pst (dC, dI) (va_A (wd_Re_pass cI cZ a_t a_t_best a_t_isFree a_t_least a_t_levelArc a_t_levelWeight a_t_most a_t_row a_t_weight a_t_arcs a_t_split a_t_levelNodes a_t_levelIn a_t_above a_t_ordered a_t_parts t_nodes t_kinds t_levels t_size t_base t_best t_isFree t_least t_levelArc t_levelWeight t_most t_row) sz) (wd_Re_pass cI cZ a_t a_t_best a_t_isFree a_t_least a_t_levelArc a_t_levelWeight a_t_most a_t_row a_t_weight a_t_arcs a_t_split a_t_levelNodes a_t_levelIn a_t_above a_t_ordered a_t_parts t_nodes t_kinds t_levels t_size t_base out.2.1 out.2.2.1 t_least t_levelArc t_levelWeight t_most out.2.2.2)) (va_A (wd_Re_pass cI cZ a_t a_t_best a_t_isFree a_t_least a_t_levelArc a_t_levelWeight a_t_most a_t_row a_t_weight a_t_arcs a_t_split a_t_levelNodes a_t_levelIn a_t_above a_t_ordered a_t_parts t_nodes t_kinds t_levels t_size t_base t_best t_isFree t_least t_levelArc t_levelWeight t_most t_row) sz)) 0 0 (va_A (wd_Re_pass cI cZ a_t a_t_best a_t_isFree a_t_least a_t_levelArc a_t_levelWeight a_t_most a_t_row a_t_weight a_t_arcs a_t_split a_t_levelNodes a_t_levelIn a_t_above a_t_ordered a_t_parts t_nodes t_kinds t_levels t_size t_base t_best t_isFree t_least t_levelArc t_levelWeight t_most t_row) sz) := by
  refine Met.ofW (cc := cc_Re_pass) (maxL := 25) (ret := (some .boolean)) (by decide) rfl ?_
  intro p e s m args below meth c s₁ B hml hv
  obtain ⟨rfl, hsz, hP, hK, hD0, hN⟩ := hv
  have hx := B.exec
  have hb := B.bytes
  have hr := B.returns
  have hts := atoms_spec (ws := wq_Re_pass) B.pre
  have hown : s.vm.findClass rr_Re = some m.cls := findClass_of_methodNamed B.named
  have hlocks := B.notSynchronized
  subst hsz
  have hD := hD0.self (sz := s.heap.size)
  generalize hAe : va_A (wd_Re_pass cI cZ a_t a_t_best a_t_isFree a_t_least a_t_levelArc a_t_levelWeight a_t_most a_t_row a_t_weight a_t_arcs a_t_split a_t_levelNodes a_t_levelIn a_t_above a_t_ordered a_t_parts t_nodes t_kinds t_levels t_size t_base t_best t_isFree t_least t_levelArc t_levelWeight t_most t_row) s.heap.size = A at hD ⊢
  have hA : ∀ q : Nat, s.heap.size ≤ q → A q := fun q h => by rw [← hAe]; exact Or.inr h
  obtain ⟨H, hH⟩ : ∃ H : Heap, H = s.heap := ⟨_, rfl⟩
  have hS : va_S A s.heap H [] := by rw [hH]; exact va_S.rf
  have hl := lv_entry (([.ref a_t] : List Value)) (n := 25) (Nat.le_of_ble_eq_true rfl)
  rw [lg_entry_eq]
  generalize (lg_sl (([.ref a_t] : List Value)) ++ List.replicate (25 - (lg_sl (([.ref a_t] : List Value))).length) Slot.unset).toArray = ls at hl ⊢
  have hl : lv_has ls 25 [(0, .ref a_t)] := hl
  rw [← hH] at hP ⊢
  have hP : va_P (dC, dI) clsL (wd_Re_pass cI cZ a_t a_t_best a_t_isFree a_t_least a_t_levelArc a_t_levelWeight a_t_most a_t_row a_t_weight a_t_arcs a_t_split a_t_levelNodes a_t_levelIn a_t_above a_t_ordered a_t_parts t_nodes t_kinds t_levels t_size t_base t_best t_isFree t_least t_levelArc t_levelWeight t_most t_row) H := hP
  unfold f_Re_pass at hf
  have h19 : ∀ (n19 : Nat) (x1 : Int64) (x3 : Int64) (x5 : Int64) (x7 : Int64) (x9 : Int32) (t_best : Nat → Int32) (t_isFree : Nat → Int32) (ls : Array Slot) (H : Heap) (locs : List Loc), L_Re_pass_19 t_kinds t_size t_base t_least t_levelArc t_levelWeight t_most t_row n19 x1 x3 x5 x7 x9 t_best t_isFree = some out → lv_has ls 25 [(0, .ref a_t), (1, .long x1), (3, .long x3), (5, .long x5), (7, .long x7), (9, .int x9)] → va_P (dC, dI) clsL (wd_Re_pass cI cZ a_t a_t_best a_t_isFree a_t_least a_t_levelArc a_t_levelWeight a_t_most a_t_row a_t_weight a_t_arcs a_t_split a_t_levelNodes a_t_levelIn a_t_above a_t_ordered a_t_parts t_nodes t_kinds t_levels t_size t_base t_best t_isFree t_least t_levelArc t_levelWeight t_most t_row) H → va_D A (wd_Re_pass cI cZ a_t a_t_best a_t_isFree a_t_least a_t_levelArc a_t_levelWeight a_t_most a_t_row a_t_weight a_t_arcs a_t_split a_t_levelNodes a_t_levelIn a_t_above a_t_ordered a_t_parts t_nodes t_kinds t_levels t_size t_base t_best t_isFree t_least t_levelArc t_levelWeight t_most t_row) → va_S A s.heap H locs → W p l e (headSpec wq_Re_pass ({ frames := 3, cells := 0, slots := 0, locals := 70 })).room s m ([.ref a_t] : List Value).toArray below meth c H locs 0 0 (MQ below (va_Qi (fun (r : Int32) (_ : Unit) => r = out.1) (fun _ => pst (dC, dI) A (wd_Re_pass cI cZ a_t a_t_best a_t_isFree a_t_least a_t_levelArc a_t_levelWeight a_t_most a_t_row a_t_weight a_t_arcs a_t_split a_t_levelNodes a_t_levelIn a_t_above a_t_ordered a_t_parts t_nodes t_kinds t_levels t_size t_base out.2.1 out.2.2.1 t_least t_levelArc t_levelWeight t_most out.2.2.2)) A) ([.ref a_t] : List Value).toArray s 0 0 A) (F0 m 19 ls []) := by
    intro n19
    induction n19 with
    | zero =>
      intro x1 x3 x5 x7 x9 t_best t_isFree ls H locs hf
      rw [L_Re_pass_19] at hf
      exact absurd hf (fun h => by cases h)
    | succ n19 ih19 =>
      intro x1 x3 x5 x7 x9 t_best t_isFree ls H locs hf hl hP hD hS
      rw [L_Re_pass_19] at hf
      have h62 : ∀ (n62 : Nat) (x1 : Int64) (x3 : Int64) (x5 : Int64) (x7 : Int64) (x9 : Int32) (x10 : Int32) (t_best : Nat → Int32) (t_isFree : Nat → Int32) (t_row : Nat → Int32) (ls : Array Slot) (H : Heap) (locs : List Loc), L_Re_pass_62 t_kinds t_size t_base t_least t_levelArc t_levelWeight t_most n62 x1 x3 x5 x7 x9 x10 t_best t_isFree t_row = some out → lv_has ls 25 [(0, .ref a_t), (1, .long x1), (3, .long x3), (5, .long x5), (7, .long x7), (9, .int x9), (10, .int x10)] → va_P (dC, dI) clsL (wd_Re_pass cI cZ a_t a_t_best a_t_isFree a_t_least a_t_levelArc a_t_levelWeight a_t_most a_t_row a_t_weight a_t_arcs a_t_split a_t_levelNodes a_t_levelIn a_t_above a_t_ordered a_t_parts t_nodes t_kinds t_levels t_size t_base t_best t_isFree t_least t_levelArc t_levelWeight t_most t_row) H → va_D A (wd_Re_pass cI cZ a_t a_t_best a_t_isFree a_t_least a_t_levelArc a_t_levelWeight a_t_most a_t_row a_t_weight a_t_arcs a_t_split a_t_levelNodes a_t_levelIn a_t_above a_t_ordered a_t_parts t_nodes t_kinds t_levels t_size t_base t_best t_isFree t_least t_levelArc t_levelWeight t_most t_row) → va_S A s.heap H locs → W p l e (headSpec wq_Re_pass ({ frames := 3, cells := 0, slots := 0, locals := 70 })).room s m ([.ref a_t] : List Value).toArray below meth c H locs 0 0 (MQ below (va_Qi (fun (r : Int32) (_ : Unit) => r = out.1) (fun _ => pst (dC, dI) A (wd_Re_pass cI cZ a_t a_t_best a_t_isFree a_t_least a_t_levelArc a_t_levelWeight a_t_most a_t_row a_t_weight a_t_arcs a_t_split a_t_levelNodes a_t_levelIn a_t_above a_t_ordered a_t_parts t_nodes t_kinds t_levels t_size t_base out.2.1 out.2.2.1 t_least t_levelArc t_levelWeight t_most out.2.2.2)) A) ([.ref a_t] : List Value).toArray s 0 0 A) (F0 m 62 ls []) := by
        intro n62
        induction n62 with
        | zero =>
          intro x1 x3 x5 x7 x9 x10 t_best t_isFree t_row ls H locs hf
          rw [L_Re_pass_62] at hf
          exact absurd hf (fun h => by cases h)
        | succ n62 ih62 =>
          intro x1 x3 x5 x7 x9 x10 t_best t_isFree t_row ls H locs hf hl hP hD hS
          rw [L_Re_pass_62] at hf
          have h359 : ∀ (n359 : Nat) (x9 : Int32) (x10 : Int32) (t_best : Nat → Int32) (t_isFree : Nat → Int32) (t_row : Nat → Int32) (ls : Array Slot) (H : Heap) (locs : List Loc), L_Re_pass_359 t_size n359 x9 x10 t_best t_isFree t_row = some out → lv_has ls 25 [(0, .ref a_t), (9, .int x9), (10, .int x10)] → va_P (dC, dI) clsL (wd_Re_pass cI cZ a_t a_t_best a_t_isFree a_t_least a_t_levelArc a_t_levelWeight a_t_most a_t_row a_t_weight a_t_arcs a_t_split a_t_levelNodes a_t_levelIn a_t_above a_t_ordered a_t_parts t_nodes t_kinds t_levels t_size t_base t_best t_isFree t_least t_levelArc t_levelWeight t_most t_row) H → va_D A (wd_Re_pass cI cZ a_t a_t_best a_t_isFree a_t_least a_t_levelArc a_t_levelWeight a_t_most a_t_row a_t_weight a_t_arcs a_t_split a_t_levelNodes a_t_levelIn a_t_above a_t_ordered a_t_parts t_nodes t_kinds t_levels t_size t_base t_best t_isFree t_least t_levelArc t_levelWeight t_most t_row) → va_S A s.heap H locs → W p l e (headSpec wq_Re_pass ({ frames := 3, cells := 0, slots := 0, locals := 70 })).room s m ([.ref a_t] : List Value).toArray below meth c H locs 0 0 (MQ below (va_Qi (fun (r : Int32) (_ : Unit) => r = out.1) (fun _ => pst (dC, dI) A (wd_Re_pass cI cZ a_t a_t_best a_t_isFree a_t_least a_t_levelArc a_t_levelWeight a_t_most a_t_row a_t_weight a_t_arcs a_t_split a_t_levelNodes a_t_levelIn a_t_above a_t_ordered a_t_parts t_nodes t_kinds t_levels t_size t_base out.2.1 out.2.2.1 t_least t_levelArc t_levelWeight t_most out.2.2.2)) A) ([.ref a_t] : List Value).toArray s 0 0 A) (F0 m 359 ls []) := by
            intro n359
            induction n359 with
            | zero =>
              intro x9 x10 t_best t_isFree t_row ls H locs hf
              rw [L_Re_pass_359] at hf
              exact absurd hf (fun h => by cases h)
            | succ n359 ih359 =>
              intro x9 x10 t_best t_isFree t_row ls H locs hf hl hP hD hS
              rw [L_Re_pass_359] at hf
              refine lv_iload hx hb dd_Re_pass_359 (lv_at hl 2 rfl) ?_
              refine lv_aload_n hx hb dd_Re_pass_361 rfl (lv_at hl 0 rfl) ?_
              refine va_get (D := (dC, dI)) (ci := 9) (v := .int t_size) (C := rr_Re) (T := tt_Re) (N := 20) hx hb hts (fun w h => gwc (inn_Re w h)) hown hK hP 0 rfl rfl 12 (by decide) (hts _ (gwc gw_715)) (fun _ h9 => h9) rfl dd_Re_pass_362 ?_
              refine lv_icmp_ge (tgt := 388) hx hb dd_Re_pass_365 (by decide) (fun cc => ?_) (fun cc => ?_)
              · skip
                have hf := if_t cc hf
                refine lv_iload hx hb dd_Re_pass_388 (lv_at hl 1 rfl) ?_
                obtain ⟨k390, hf⟩ := ck_some hf
                have hf := Option.some.inj hf
                subst hf
                exact W.zret hx hb hr (okB_n k390) (fun t ht hW => ⟨⟨_, (), rfl, rfl, pst_of ht hP hD⟩, hS.F ht⟩) hS.2.2 dd_Re_pass_390
              · skip
                have hf := if_f cc hf
                refine lv_aload_n hx hb dd_Re_pass_368 rfl (lv_at hl 0 rfl) ?_
                refine va_get (D := (dC, dI)) (ci := 9) (v := .ref a_t_row) (C := rr_Re) (T := tt_Re) (N := 20) hx hb hts (fun w h => gwc (inn_Re w h)) hown hK hP 0 rfl rfl 14 (by decide) (hts _ (gwc gw_717)) (fun _ h9 => h9) rfl dd_Re_pass_369 ?_
                refine lv_iload hx hb dd_Re_pass_372 (lv_at hl 2 rfl) ?_
                refine lv_aload_n hx hb dd_Re_pass_374 rfl (lv_at hl 0 rfl) ?_
                refine va_get (D := (dC, dI)) (ci := 9) (v := .ref a_t_best) (C := rr_Re) (T := tt_Re) (N := 20) hx hb hts (fun w h => gwc (inn_Re w h)) hown hK hP 0 rfl rfl 16 (by decide) (hts _ (gwc gw_719)) (fun _ h9 => h9) rfl dd_Re_pass_375 ?_
                refine lv_iload hx hb dd_Re_pass_378 (lv_at hl 2 rfl) ?_
                obtain ⟨k380, hf⟩ := ck_some hf
                refine va_iald hx hb hK hP 1 0 rfl rfl (okb_in k380) dd_Re_pass_380 ?_
                obtain ⟨k381, hf⟩ := ck_some hf
                refine va_iast hx hb hK hP hD hS 7 0 rfl rfl (okb_in k381) dd_Re_pass_381 (fun H locs hP hD hS => ?_)
                have hP : va_P (dC, dI) clsL (wd_Re_pass cI cZ a_t a_t_best a_t_isFree a_t_least a_t_levelArc a_t_levelWeight a_t_most a_t_row a_t_weight a_t_arcs a_t_split a_t_levelNodes a_t_levelIn a_t_above a_t_ordered a_t_parts t_nodes t_kinds t_levels t_size t_base t_best t_isFree t_least t_levelArc t_levelWeight t_most (upd t_row (x10).toNatClampNeg (t_best (x10).toNatClampNeg))) H := hP
                have hD : va_D A (wd_Re_pass cI cZ a_t a_t_best a_t_isFree a_t_least a_t_levelArc a_t_levelWeight a_t_most a_t_row a_t_weight a_t_arcs a_t_split a_t_levelNodes a_t_levelIn a_t_above a_t_ordered a_t_parts t_nodes t_kinds t_levels t_size t_base t_best t_isFree t_least t_levelArc t_levelWeight t_most (upd t_row (x10).toNatClampNeg (t_best (x10).toNatClampNeg))) := hD
                refine lv_iinc (v := x10 + 1) (lv' := [(10, .int (x10 + 1)), (0, .ref a_t), (9, .int x9)]) hx hb dd_Re_pass_382 hl (k := 2) rfl rfl (by decide) rfl (fun ls hl => ?_)
                refine lv_goto (tgt := 359) hx hb dd_Re_pass_385 (by decide) ?_
                exact ih359 x9 (x10 + 1) t_best t_isFree (upd t_row (x10).toNatClampNeg (t_best (x10).toNatClampNeg)) _ _ _ hf (lv_sub hl [1, 2, 0] rfl) hP hD hS
          have h86 : ∀ (n86 : Nat) (x1 : Int64) (x3 : Int64) (x5 : Int64) (x7 : Int64) (x9 : Int32) (x10 : Int32) (x11 : Int32) (x12 : Int32) (x13 : Int64) (x15 : Int64) (x17 : Int32) (t_best : Nat → Int32) (t_isFree : Nat → Int32) (t_row : Nat → Int32) (ls : Array Slot) (H : Heap) (locs : List Loc), L_Re_pass_86 t_kinds t_size t_base t_least t_levelArc t_levelWeight t_most (L_Re_pass_62 t_kinds t_size t_base t_least t_levelArc t_levelWeight t_most n62) n86 x1 x3 x5 x7 x9 x10 x11 x12 x13 x15 x17 t_best t_isFree t_row = some out → lv_has ls 25 [(0, .ref a_t), (1, .long x1), (3, .long x3), (5, .long x5), (7, .long x7), (9, .int x9), (10, .int x10), (11, .int x11), (12, .int x12), (13, .long x13), (15, .long x15), (17, .int x17)] → va_P (dC, dI) clsL (wd_Re_pass cI cZ a_t a_t_best a_t_isFree a_t_least a_t_levelArc a_t_levelWeight a_t_most a_t_row a_t_weight a_t_arcs a_t_split a_t_levelNodes a_t_levelIn a_t_above a_t_ordered a_t_parts t_nodes t_kinds t_levels t_size t_base t_best t_isFree t_least t_levelArc t_levelWeight t_most t_row) H → va_D A (wd_Re_pass cI cZ a_t a_t_best a_t_isFree a_t_least a_t_levelArc a_t_levelWeight a_t_most a_t_row a_t_weight a_t_arcs a_t_split a_t_levelNodes a_t_levelIn a_t_above a_t_ordered a_t_parts t_nodes t_kinds t_levels t_size t_base t_best t_isFree t_least t_levelArc t_levelWeight t_most t_row) → va_S A s.heap H locs → W p l e (headSpec wq_Re_pass ({ frames := 3, cells := 0, slots := 0, locals := 70 })).room s m ([.ref a_t] : List Value).toArray below meth c H locs 0 0 (MQ below (va_Qi (fun (r : Int32) (_ : Unit) => r = out.1) (fun _ => pst (dC, dI) A (wd_Re_pass cI cZ a_t a_t_best a_t_isFree a_t_least a_t_levelArc a_t_levelWeight a_t_most a_t_row a_t_weight a_t_arcs a_t_split a_t_levelNodes a_t_levelIn a_t_above a_t_ordered a_t_parts t_nodes t_kinds t_levels t_size t_base out.2.1 out.2.2.1 t_least t_levelArc t_levelWeight t_most out.2.2.2)) A) ([.ref a_t] : List Value).toArray s 0 0 A) (F0 m 86 ls []) := by
            intro n86
            induction n86 with
            | zero =>
              intro x1 x3 x5 x7 x9 x10 x11 x12 x13 x15 x17 t_best t_isFree t_row ls H locs hf
              rw [L_Re_pass_86] at hf
              exact absurd hf (fun h => by cases h)
            | succ n86 ih86 =>
              intro x1 x3 x5 x7 x9 x10 x11 x12 x13 x15 x17 t_best t_isFree t_row ls H locs hf hl hP hD hS
              rw [L_Re_pass_86] at hf
              have h107 : ∀ (n107 : Nat) (x1 : Int64) (x3 : Int64) (x5 : Int64) (x7 : Int64) (x9 : Int32) (x10 : Int32) (x11 : Int32) (x12 : Int32) (x13 : Int64) (x15 : Int64) (x17 : Int32) (x18 : Int32) (x19 : Int32) (t_best : Nat → Int32) (t_isFree : Nat → Int32) (t_row : Nat → Int32) (ls : Array Slot) (H : Heap) (locs : List Loc), L_Re_pass_107 t_kinds t_size t_base t_least t_levelArc t_levelWeight t_most (L_Re_pass_86 t_kinds t_size t_base t_least t_levelArc t_levelWeight t_most (L_Re_pass_62 t_kinds t_size t_base t_least t_levelArc t_levelWeight t_most n62) n86) n107 x1 x3 x5 x7 x9 x10 x11 x12 x13 x15 x17 x18 x19 t_best t_isFree t_row = some out → lv_has ls 25 [(0, .ref a_t), (1, .long x1), (3, .long x3), (5, .long x5), (7, .long x7), (9, .int x9), (10, .int x10), (11, .int x11), (12, .int x12), (13, .long x13), (15, .long x15), (17, .int x17), (18, .int x18), (19, .int x19)] → va_P (dC, dI) clsL (wd_Re_pass cI cZ a_t a_t_best a_t_isFree a_t_least a_t_levelArc a_t_levelWeight a_t_most a_t_row a_t_weight a_t_arcs a_t_split a_t_levelNodes a_t_levelIn a_t_above a_t_ordered a_t_parts t_nodes t_kinds t_levels t_size t_base t_best t_isFree t_least t_levelArc t_levelWeight t_most t_row) H → va_D A (wd_Re_pass cI cZ a_t a_t_best a_t_isFree a_t_least a_t_levelArc a_t_levelWeight a_t_most a_t_row a_t_weight a_t_arcs a_t_split a_t_levelNodes a_t_levelIn a_t_above a_t_ordered a_t_parts t_nodes t_kinds t_levels t_size t_base t_best t_isFree t_least t_levelArc t_levelWeight t_most t_row) → va_S A s.heap H locs → W p l e (headSpec wq_Re_pass ({ frames := 3, cells := 0, slots := 0, locals := 70 })).room s m ([.ref a_t] : List Value).toArray below meth c H locs 0 0 (MQ below (va_Qi (fun (r : Int32) (_ : Unit) => r = out.1) (fun _ => pst (dC, dI) A (wd_Re_pass cI cZ a_t a_t_best a_t_isFree a_t_least a_t_levelArc a_t_levelWeight a_t_most a_t_row a_t_weight a_t_arcs a_t_split a_t_levelNodes a_t_levelIn a_t_above a_t_ordered a_t_parts t_nodes t_kinds t_levels t_size t_base out.2.1 out.2.2.1 t_least t_levelArc t_levelWeight t_most out.2.2.2)) A) ([.ref a_t] : List Value).toArray s 0 0 A) (F0 m 107 ls []) := by
                intro n107
                induction n107 with
                | zero =>
                  intro x1 x3 x5 x7 x9 x10 x11 x12 x13 x15 x17 x18 x19 t_best t_isFree t_row ls H locs hf
                  rw [L_Re_pass_107] at hf
                  exact absurd hf (fun h => by cases h)
                | succ n107 ih107 =>
                  intro x1 x3 x5 x7 x9 x10 x11 x12 x13 x15 x17 x18 x19 t_best t_isFree t_row ls H locs hf hl hP hD hS
                  rw [L_Re_pass_107] at hf
                  have h214 : ∀ (y0 : Int32) (x1 : Int64) (x3 : Int64) (x5 : Int64) (x7 : Int64) (x9 : Int32) (x10 : Int32) (x11 : Int32) (x12 : Int32) (x13 : Int64) (x15 : Int64) (x17 : Int32) (x18 : Int32) (x19 : Int32) (x20 : Int64) (x22 : Int64) (t_best : Nat → Int32) (t_isFree : Nat → Int32) (t_row : Nat → Int32) (ls : Array Slot) (H : Heap) (locs : List Loc), J_Re_pass_214 (L_Re_pass_107 t_kinds t_size t_base t_least t_levelArc t_levelWeight t_most (L_Re_pass_86 t_kinds t_size t_base t_least t_levelArc t_levelWeight t_most (L_Re_pass_62 t_kinds t_size t_base t_least t_levelArc t_levelWeight t_most n62) n86) n107) y0 x1 x3 x5 x7 x9 x10 x11 x12 x13 x15 x17 x18 x19 x20 x22 t_best t_isFree t_row = some out → lv_has ls 25 [(0, .ref a_t), (1, .long x1), (3, .long x3), (5, .long x5), (7, .long x7), (9, .int x9), (10, .int x10), (11, .int x11), (12, .int x12), (13, .long x13), (15, .long x15), (17, .int x17), (18, .int x18), (19, .int x19), (20, .long x20), (22, .long x22)] → va_P (dC, dI) clsL (wd_Re_pass cI cZ a_t a_t_best a_t_isFree a_t_least a_t_levelArc a_t_levelWeight a_t_most a_t_row a_t_weight a_t_arcs a_t_split a_t_levelNodes a_t_levelIn a_t_above a_t_ordered a_t_parts t_nodes t_kinds t_levels t_size t_base t_best t_isFree t_least t_levelArc t_levelWeight t_most t_row) H → va_D A (wd_Re_pass cI cZ a_t a_t_best a_t_isFree a_t_least a_t_levelArc a_t_levelWeight a_t_most a_t_row a_t_weight a_t_arcs a_t_split a_t_levelNodes a_t_levelIn a_t_above a_t_ordered a_t_parts t_nodes t_kinds t_levels t_size t_base t_best t_isFree t_least t_levelArc t_levelWeight t_most t_row) → va_S A s.heap H locs → W p l e (headSpec wq_Re_pass ({ frames := 3, cells := 0, slots := 0, locals := 70 })).room s m ([.ref a_t] : List Value).toArray below meth c H locs 0 0 (MQ below (va_Qi (fun (r : Int32) (_ : Unit) => r = out.1) (fun _ => pst (dC, dI) A (wd_Re_pass cI cZ a_t a_t_best a_t_isFree a_t_least a_t_levelArc a_t_levelWeight a_t_most a_t_row a_t_weight a_t_arcs a_t_split a_t_levelNodes a_t_levelIn a_t_above a_t_ordered a_t_parts t_nodes t_kinds t_levels t_size t_base out.2.1 out.2.2.1 t_least t_levelArc t_levelWeight t_most out.2.2.2)) A) ([.ref a_t] : List Value).toArray s 0 0 A) (F0 m 214 ls [.int y0]) := by
                    intro y0 x1 x3 x5 x7 x9 x10 x11 x12 x13 x15 x17 x18 x19 x20 x22 t_best t_isFree t_row ls H locs hf hl hP hD hS
                    unfold J_Re_pass_214 at hf
                    refine lv_istore (lv' := [(24, .int y0), (0, .ref a_t), (1, .long x1), (3, .long x3), (5, .long x5), (7, .long x7), (9, .int x9), (10, .int x10), (11, .int x11), (12, .int x12), (13, .long x13), (15, .long x15), (17, .int x17), (18, .int x18), (19, .int x19), (20, .long x20), (22, .long x22)]) hx hb dd_Re_pass_214 hl (by decide) rfl (fun ls hl => ?_)
                    refine lv_iload hx hb dd_Re_pass_216 (lv_at hl 0 rfl) ?_
                    refine lv_if_ne (tgt := 224) hx hb dd_Re_pass_218 (by decide) (fun cc => ?_) (fun cc => ?_)
                    · skip
                      have hf := if_f cc hf
                      refine lv_iload hx hb dd_Re_pass_224 (lv_at hl 12 rfl) ?_
                      refine lv_istore (lv' := [(11, .int x17), (24, .int y0), (0, .ref a_t), (1, .long x1), (3, .long x3), (5, .long x5), (7, .long x7), (9, .int x9), (10, .int x10), (12, .int x12), (13, .long x13), (15, .long x15), (17, .int x17), (18, .int x18), (19, .int x19), (20, .long x20), (22, .long x22)]) hx hb dd_Re_pass_226 hl (by decide) rfl (fun ls hl => ?_)
                      refine lv_iload hx hb dd_Re_pass_228 (lv_at hl 14 rfl) ?_
                      refine lv_istore (lv' := [(12, .int x19), (11, .int x17), (24, .int y0), (0, .ref a_t), (1, .long x1), (3, .long x3), (5, .long x5), (7, .long x7), (9, .int x9), (10, .int x10), (13, .long x13), (15, .long x15), (17, .int x17), (18, .int x18), (19, .int x19), (20, .long x20), (22, .long x22)]) hx hb dd_Re_pass_230 hl (by decide) rfl (fun ls hl => ?_)
                      refine lv_lload hx hb dd_Re_pass_232 (lv_at hl 16 rfl) ?_
                      refine lv_lstore (lv' := [(13, .long x22), (12, .int x19), (11, .int x17), (24, .int y0), (0, .ref a_t), (1, .long x1), (3, .long x3), (5, .long x5), (7, .long x7), (9, .int x9), (10, .int x10), (15, .long x15), (17, .int x17), (18, .int x18), (19, .int x19), (20, .long x20), (22, .long x22)]) hx hb dd_Re_pass_234 hl (by decide) rfl (fun ls hl => ?_)
                      refine lv_lload hx hb dd_Re_pass_236 (lv_at hl 15 rfl) ?_
                      refine lv_lstore (lv' := [(15, .long x20), (13, .long x22), (12, .int x19), (11, .int x17), (24, .int y0), (0, .ref a_t), (1, .long x1), (3, .long x3), (5, .long x5), (7, .long x7), (9, .int x9), (10, .int x10), (17, .int x17), (18, .int x18), (19, .int x19), (20, .long x20), (22, .long x22)]) hx hb dd_Re_pass_238 hl (by decide) rfl (fun ls hl => ?_)
                      refine lv_iinc (v := x19 + 1) (lv' := [(19, .int (x19 + 1)), (15, .long x20), (13, .long x22), (12, .int x19), (11, .int x17), (24, .int y0), (0, .ref a_t), (1, .long x1), (3, .long x3), (5, .long x5), (7, .long x7), (9, .int x9), (10, .int x10), (17, .int x17), (18, .int x18), (20, .long x20), (22, .long x22)]) hx hb dd_Re_pass_240 hl (k := 14) rfl rfl (by decide) rfl (fun ls hl => ?_)
                      refine lv_goto (tgt := 107) hx hb dd_Re_pass_243 (by decide) ?_
                      exact ih107 x1 x3 x5 x7 x9 x10 x17 x19 x22 x20 x17 x18 (x19 + 1) t_best t_isFree t_row _ _ _ hf (lv_sub hl [6, 7, 8, 9, 10, 11, 12, 4, 3, 2, 1, 13, 14, 0] rfl) hP hD hS
                    · skip
                      have hf := if_t cc hf
                      refine lv_goto (tgt := 240) hx hb dd_Re_pass_221 (by decide) ?_
                      refine lv_iinc (v := x19 + 1) (lv' := [(19, .int (x19 + 1)), (24, .int y0), (0, .ref a_t), (1, .long x1), (3, .long x3), (5, .long x5), (7, .long x7), (9, .int x9), (10, .int x10), (11, .int x11), (12, .int x12), (13, .long x13), (15, .long x15), (17, .int x17), (18, .int x18), (20, .long x20), (22, .long x22)]) hx hb dd_Re_pass_240 hl (k := 14) rfl rfl (by decide) rfl (fun ls hl => ?_)
                      refine lv_goto (tgt := 107) hx hb dd_Re_pass_243 (by decide) ?_
                      exact ih107 x1 x3 x5 x7 x9 x10 x11 x12 x13 x15 x17 x18 (x19 + 1) t_best t_isFree t_row _ _ _ hf (lv_sub hl [2, 3, 4, 5, 6, 7, 8, 9, 10, 11, 12, 13, 14, 0] rfl) hP hD hS
                  have h209 : ∀ (x1 : Int64) (x3 : Int64) (x5 : Int64) (x7 : Int64) (x9 : Int32) (x10 : Int32) (x11 : Int32) (x12 : Int32) (x13 : Int64) (x15 : Int64) (x17 : Int32) (x18 : Int32) (x19 : Int32) (x20 : Int64) (x22 : Int64) (t_best : Nat → Int32) (t_isFree : Nat → Int32) (t_row : Nat → Int32) (ls : Array Slot) (H : Heap) (locs : List Loc), J_Re_pass_209 (L_Re_pass_107 t_kinds t_size t_base t_least t_levelArc t_levelWeight t_most (L_Re_pass_86 t_kinds t_size t_base t_least t_levelArc t_levelWeight t_most (L_Re_pass_62 t_kinds t_size t_base t_least t_levelArc t_levelWeight t_most n62) n86) n107) x1 x3 x5 x7 x9 x10 x11 x12 x13 x15 x17 x18 x19 x20 x22 t_best t_isFree t_row = some out → lv_has ls 25 [(0, .ref a_t), (1, .long x1), (3, .long x3), (5, .long x5), (7, .long x7), (9, .int x9), (10, .int x10), (11, .int x11), (12, .int x12), (13, .long x13), (15, .long x15), (17, .int x17), (18, .int x18), (19, .int x19), (20, .long x20), (22, .long x22)] → va_P (dC, dI) clsL (wd_Re_pass cI cZ a_t a_t_best a_t_isFree a_t_least a_t_levelArc a_t_levelWeight a_t_most a_t_row a_t_weight a_t_arcs a_t_split a_t_levelNodes a_t_levelIn a_t_above a_t_ordered a_t_parts t_nodes t_kinds t_levels t_size t_base t_best t_isFree t_least t_levelArc t_levelWeight t_most t_row) H → va_D A (wd_Re_pass cI cZ a_t a_t_best a_t_isFree a_t_least a_t_levelArc a_t_levelWeight a_t_most a_t_row a_t_weight a_t_arcs a_t_split a_t_levelNodes a_t_levelIn a_t_above a_t_ordered a_t_parts t_nodes t_kinds t_levels t_size t_base t_best t_isFree t_least t_levelArc t_levelWeight t_most t_row) → va_S A s.heap H locs → W p l e (headSpec wq_Re_pass ({ frames := 3, cells := 0, slots := 0, locals := 70 })).room s m ([.ref a_t] : List Value).toArray below meth c H locs 0 0 (MQ below (va_Qi (fun (r : Int32) (_ : Unit) => r = out.1) (fun _ => pst (dC, dI) A (wd_Re_pass cI cZ a_t a_t_best a_t_isFree a_t_least a_t_levelArc a_t_levelWeight a_t_most a_t_row a_t_weight a_t_arcs a_t_split a_t_levelNodes a_t_levelIn a_t_above a_t_ordered a_t_parts t_nodes t_kinds t_levels t_size t_base out.2.1 out.2.2.1 t_least t_levelArc t_levelWeight t_most out.2.2.2)) A) ([.ref a_t] : List Value).toArray s 0 0 A) (F0 m 209 ls []) := by
                    intro x1 x3 x5 x7 x9 x10 x11 x12 x13 x15 x17 x18 x19 x20 x22 t_best t_isFree t_row ls H locs hf hl hP hD hS
                    unfold J_Re_pass_209 at hf
                    refine lv_iconst (v := 1) hx hb dd_Re_pass_209 (by decide) ?_
                    refine lv_goto (tgt := 214) hx hb dd_Re_pass_210 (by decide) ?_
                    exact h214 1 x1 x3 x5 x7 x9 x10 x11 x12 x13 x15 x17 x18 x19 x20 x22 t_best t_isFree t_row _ _ _ hf (lv_sub hl [0, 1, 2, 3, 4, 5, 6, 7, 8, 9, 10, 11, 12, 13, 14, 15] rfl) hP hD hS
                  have h213 : ∀ (x1 : Int64) (x3 : Int64) (x5 : Int64) (x7 : Int64) (x9 : Int32) (x10 : Int32) (x11 : Int32) (x12 : Int32) (x13 : Int64) (x15 : Int64) (x17 : Int32) (x18 : Int32) (x19 : Int32) (x20 : Int64) (x22 : Int64) (t_best : Nat → Int32) (t_isFree : Nat → Int32) (t_row : Nat → Int32) (ls : Array Slot) (H : Heap) (locs : List Loc), J_Re_pass_213 (L_Re_pass_107 t_kinds t_size t_base t_least t_levelArc t_levelWeight t_most (L_Re_pass_86 t_kinds t_size t_base t_least t_levelArc t_levelWeight t_most (L_Re_pass_62 t_kinds t_size t_base t_least t_levelArc t_levelWeight t_most n62) n86) n107) x1 x3 x5 x7 x9 x10 x11 x12 x13 x15 x17 x18 x19 x20 x22 t_best t_isFree t_row = some out → lv_has ls 25 [(0, .ref a_t), (1, .long x1), (3, .long x3), (5, .long x5), (7, .long x7), (9, .int x9), (10, .int x10), (11, .int x11), (12, .int x12), (13, .long x13), (15, .long x15), (17, .int x17), (18, .int x18), (19, .int x19), (20, .long x20), (22, .long x22)] → va_P (dC, dI) clsL (wd_Re_pass cI cZ a_t a_t_best a_t_isFree a_t_least a_t_levelArc a_t_levelWeight a_t_most a_t_row a_t_weight a_t_arcs a_t_split a_t_levelNodes a_t_levelIn a_t_above a_t_ordered a_t_parts t_nodes t_kinds t_levels t_size t_base t_best t_isFree t_least t_levelArc t_levelWeight t_most t_row) H → va_D A (wd_Re_pass cI cZ a_t a_t_best a_t_isFree a_t_least a_t_levelArc a_t_levelWeight a_t_most a_t_row a_t_weight a_t_arcs a_t_split a_t_levelNodes a_t_levelIn a_t_above a_t_ordered a_t_parts t_nodes t_kinds t_levels t_size t_base t_best t_isFree t_least t_levelArc t_levelWeight t_most t_row) → va_S A s.heap H locs → W p l e (headSpec wq_Re_pass ({ frames := 3, cells := 0, slots := 0, locals := 70 })).room s m ([.ref a_t] : List Value).toArray below meth c H locs 0 0 (MQ below (va_Qi (fun (r : Int32) (_ : Unit) => r = out.1) (fun _ => pst (dC, dI) A (wd_Re_pass cI cZ a_t a_t_best a_t_isFree a_t_least a_t_levelArc a_t_levelWeight a_t_most a_t_row a_t_weight a_t_arcs a_t_split a_t_levelNodes a_t_levelIn a_t_above a_t_ordered a_t_parts t_nodes t_kinds t_levels t_size t_base out.2.1 out.2.2.1 t_least t_levelArc t_levelWeight t_most out.2.2.2)) A) ([.ref a_t] : List Value).toArray s 0 0 A) (F0 m 213 ls []) := by
                    intro x1 x3 x5 x7 x9 x10 x11 x12 x13 x15 x17 x18 x19 x20 x22 t_best t_isFree t_row ls H locs hf hl hP hD hS
                    unfold J_Re_pass_213 at hf
                    refine lv_iconst (v := 0) hx hb dd_Re_pass_213 (by decide) ?_
                    exact h214 0 x1 x3 x5 x7 x9 x10 x11 x12 x13 x15 x17 x18 x19 x20 x22 t_best t_isFree t_row _ _ _ hf (lv_sub hl [0, 1, 2, 3, 4, 5, 6, 7, 8, 9, 10, 11, 12, 13, 14, 15] rfl) hP hD hS
                  refine lv_iload hx hb dd_Re_pass_107 (lv_at hl 13 rfl) ?_
                  refine lv_aload_n hx hb dd_Re_pass_109 rfl (lv_at hl 0 rfl) ?_
                  refine va_get (D := (dC, dI)) (ci := 9) (v := .int t_kinds) (C := rr_Re) (T := tt_Re) (N := 20) hx hb hts (fun w h => gwc (inn_Re w h)) hown hK hP 0 rfl rfl 1 (by decide) (hts _ (gwc gw_704)) (fun _ h9 => h9) rfl dd_Re_pass_110 ?_
                  refine lv_icmp_ge (tgt := 246) hx hb dd_Re_pass_113 (by decide) (fun cc => ?_) (fun cc => ?_)
                  · skip
                    have hf := if_t cc hf
                    refine lv_iinc (v := x17 + 1) (lv' := [(17, .int (x17 + 1)), (0, .ref a_t), (1, .long x1), (3, .long x3), (5, .long x5), (7, .long x7), (9, .int x9), (10, .int x10), (11, .int x11), (12, .int x12), (13, .long x13), (15, .long x15), (18, .int x18), (19, .int x19)]) hx hb dd_Re_pass_246 hl (k := 11) rfl rfl (by decide) rfl (fun ls hl => ?_)
                    refine lv_goto (tgt := 86) hx hb dd_Re_pass_249 (by decide) ?_
                    exact ih86 x1 x3 x5 x7 x9 x10 x11 x12 x13 x15 (x17 + 1) t_best t_isFree t_row _ _ _ hf (lv_sub hl [1, 2, 3, 4, 5, 6, 7, 8, 9, 10, 11, 0] rfl) hP hD hS
                  · skip
                    have hf := if_f cc hf
                    refine lv_aload_n hx hb dd_Re_pass_116 rfl (lv_at hl 0 rfl) ?_
                    refine va_get (D := (dC, dI)) (ci := 9) (v := .ref a_t_isFree) (C := rr_Re) (T := tt_Re) (N := 20) hx hb hts (fun w h => gwc (inn_Re w h)) hown hK hP 0 rfl rfl 15 (by decide) (hts _ (gwc gw_718)) (fun _ h9 => h9) rfl dd_Re_pass_117 ?_
                    refine lv_iload hx hb dd_Re_pass_120 (lv_at hl 11 rfl) ?_
                    obtain ⟨k122, hf⟩ := ck_some hf
                    refine va_zald hx hb hK hP 2 1 rfl rfl (okb_in k122) dd_Re_pass_122 ?_
                    refine lv_if_eq (tgt := 246) hx hb dd_Re_pass_123 (by decide) (fun cc => ?_) (fun cc => ?_)
                    · skip
                      have hf := if_t cc hf
                      refine lv_iinc (v := x17 + 1) (lv' := [(17, .int (x17 + 1)), (0, .ref a_t), (1, .long x1), (3, .long x3), (5, .long x5), (7, .long x7), (9, .int x9), (10, .int x10), (11, .int x11), (12, .int x12), (13, .long x13), (15, .long x15), (18, .int x18), (19, .int x19)]) hx hb dd_Re_pass_246 hl (k := 11) rfl rfl (by decide) rfl (fun ls hl => ?_)
                      refine lv_goto (tgt := 86) hx hb dd_Re_pass_249 (by decide) ?_
                      exact ih86 x1 x3 x5 x7 x9 x10 x11 x12 x13 x15 (x17 + 1) t_best t_isFree t_row _ _ _ hf (lv_sub hl [1, 2, 3, 4, 5, 6, 7, 8, 9, 10, 11, 0] rfl) hP hD hS
                    · skip
                      have hf := if_f cc hf
                      refine lv_iload hx hb dd_Re_pass_126 (lv_at hl 13 rfl) ?_
                      refine lv_iload hx hb dd_Re_pass_128 (lv_at hl 12 rfl) ?_
                      refine lv_icmp_ne (tgt := 136) hx hb dd_Re_pass_130 (by decide) (fun cc => ?_) (fun cc => ?_)
                      · skip
                        have hf := if_f cc hf
                        refine lv_aload_n hx hb dd_Re_pass_136 rfl (lv_at hl 0 rfl) ?_
                        refine lv_iload hx hb dd_Re_pass_137 (lv_at hl 11 rfl) ?_
                        refine lv_iload hx hb dd_Re_pass_139 (lv_at hl 13 rfl) ?_
                        obtain ⟨r141, hr141, hf⟩ := bind_some hf
                        refine xcalll (rest := []) (wc := (wd_Re_rowGain cI cZ a_t a_t_levelArc a_t_row a_t_weight a_t_arcs a_t_split a_t_least a_t_most a_t_levelNodes a_t_levelWeight a_t_levelIn a_t_isFree a_t_best a_t_above a_t_ordered a_t_parts t_nodes t_kinds t_levels t_size t_base t_levelArc t_row)) (w1 := (wd_Re_rowGain cI cZ a_t a_t_levelArc a_t_row a_t_weight a_t_arcs a_t_split a_t_least a_t_most a_t_levelNodes a_t_levelWeight a_t_levelIn a_t_isFree a_t_best a_t_above a_t_ordered a_t_parts t_nodes t_kinds t_levels t_size t_base t_levelArc t_row)) (wr := [(a_t_best, .inl (cI, 40, .inl t_best)), (a_t_isFree, .inl (cZ, 40, .inl t_isFree)), (a_t_least, .inl (cI, 4, .inl t_least)), (a_t_levelWeight, .inl (cI, 1640, .inl t_levelWeight)), (a_t_most, .inl (cI, 4, .inl t_most))]) (ws' := (wd_Re_pass cI cZ a_t a_t_best a_t_isFree a_t_least a_t_levelArc a_t_levelWeight a_t_most a_t_row a_t_weight a_t_arcs a_t_split a_t_levelNodes a_t_levelIn a_t_above a_t_ordered a_t_parts t_nodes t_kinds t_levels t_size t_base t_best t_isFree t_least t_levelArc t_levelWeight t_most t_row)) (va_runV (As := [.int x17, .int x19]) ⟨hx, hb, hml, hown, hts⟩ (c_Re_rowGain l dC dI cI cZ a_t a_t_levelArc a_t_row a_t_weight a_t_arcs a_t_split a_t_least a_t_most a_t_levelNodes a_t_levelWeight a_t_levelIn a_t_isFree a_t_best a_t_above a_t_ordered a_t_parts H.size x17 x19 t_nodes t_kinds t_levels t_size t_base t_levelArc t_row r141 hr141) (cwV 2 hts (gV gw_871 gw_873 gw_41 gw_61 gw_874) rfl rfl rfl (yd_Re_rowGain) ⟨Nat.le_of_ble_eq_true rfl, Nat.le_of_ble_eq_true rfl⟩) (mkV hK (hP.sub (ws' := (wd_Re_rowGain cI cZ a_t a_t_levelArc a_t_row a_t_weight a_t_arcs a_t_split a_t_least a_t_most a_t_levelNodes a_t_levelWeight a_t_levelIn a_t_isFree a_t_best a_t_above a_t_ordered a_t_parts t_nodes t_kinds t_levels t_size t_base t_levelArc t_row)) [0, 4, 7] rfl) (hD.sub (ws' := (wd_Re_rowGain cI cZ a_t a_t_levelArc a_t_row a_t_weight a_t_arcs a_t_split a_t_least a_t_most a_t_levelNodes a_t_levelWeight a_t_levelIn a_t_isFree a_t_best a_t_above a_t_ordered a_t_parts t_nodes t_kinds t_levels t_size t_base t_levelArc t_row)) [0, 4, 7] (by decide) rfl) hN (va_recv hK hP (ci := 9) (q0 := 0) rfl rfl)) rfl rfl hl.1 rfl (lv_room (Nat.le_of_ble_eq_true rfl)) dd_Re_pass_141 ⟨Nat.zero_le _, Nat.zero_le _⟩) hP hD hS hA [0, 4, 7] [1, 2, 3, 5, 6] [5, 0, 1, 2, 6, 3, 4, 7] rfl rfl (by decide) (by decide) rfl (by decide) rfl (fun H locs hP hD hS => ?_)
                        refine lv_lstore (lv' := [(20, .long r141), (0, .ref a_t), (1, .long x1), (3, .long x3), (5, .long x5), (7, .long x7), (9, .int x9), (10, .int x10), (11, .int x11), (12, .int x12), (13, .long x13), (15, .long x15), (17, .int x17), (18, .int x18), (19, .int x19)]) hx hb dd_Re_pass_144 hl (by decide) rfl (fun ls hl => ?_)
                        refine lv_aload_n hx hb dd_Re_pass_146 rfl (lv_at hl 1 rfl) ?_
                        refine va_get (D := (dC, dI)) (ci := 9) (v := .ref a_t_row) (C := rr_Re) (T := tt_Re) (N := 20) hx hb hts (fun w h => gwc (inn_Re w h)) hown hK hP 0 rfl rfl 14 (by decide) (hts _ (gwc gw_717)) (fun _ h9 => h9) rfl dd_Re_pass_147 ?_
                        refine lv_iload hx hb dd_Re_pass_150 (lv_at hl 12 rfl) ?_
                        refine lv_iload hx hb dd_Re_pass_152 (lv_at hl 14 rfl) ?_
                        obtain ⟨k154, hf⟩ := ck_some hf
                        refine va_iast hx hb hK hP hD hS 7 0 rfl rfl (okb_in k154) dd_Re_pass_154 (fun H locs hP hD hS => ?_)
                        have hP : va_P (dC, dI) clsL (wd_Re_pass cI cZ a_t a_t_best a_t_isFree a_t_least a_t_levelArc a_t_levelWeight a_t_most a_t_row a_t_weight a_t_arcs a_t_split a_t_levelNodes a_t_levelIn a_t_above a_t_ordered a_t_parts t_nodes t_kinds t_levels t_size t_base t_best t_isFree t_least t_levelArc t_levelWeight t_most (upd t_row (x17).toNatClampNeg x19)) H := hP
                        have hD : va_D A (wd_Re_pass cI cZ a_t a_t_best a_t_isFree a_t_least a_t_levelArc a_t_levelWeight a_t_most a_t_row a_t_weight a_t_arcs a_t_split a_t_levelNodes a_t_levelIn a_t_above a_t_ordered a_t_parts t_nodes t_kinds t_levels t_size t_base t_best t_isFree t_least t_levelArc t_levelWeight t_most (upd t_row (x17).toNatClampNeg x19)) := hD
                        refine lv_aload_n hx hb dd_Re_pass_155 rfl (lv_at hl 1 rfl) ?_
                        obtain ⟨r156, hr156, hf⟩ := bind_some hf
                        refine xcalll (rest := []) (wc := (wd_Re_rowOver cI cZ a_t a_t_least a_t_levelWeight a_t_most a_t_row a_t_weight a_t_arcs a_t_split a_t_levelNodes a_t_levelArc a_t_levelIn a_t_isFree a_t_best a_t_above a_t_ordered a_t_parts t_nodes t_kinds t_levels t_size t_base t_least t_levelWeight t_most (upd t_row (x17).toNatClampNeg x19))) (w1 := (wd_Re_rowOver cI cZ a_t a_t_least a_t_levelWeight a_t_most a_t_row a_t_weight a_t_arcs a_t_split a_t_levelNodes a_t_levelArc a_t_levelIn a_t_isFree a_t_best a_t_above a_t_ordered a_t_parts t_nodes t_kinds t_levels t_size t_base t_least t_levelWeight t_most (upd t_row (x17).toNatClampNeg x19))) (wr := [(a_t_best, .inl (cI, 40, .inl t_best)), (a_t_isFree, .inl (cZ, 40, .inl t_isFree)), (a_t_levelArc, .inl (cI, 65600, .inl t_levelArc))]) (ws' := (wd_Re_pass cI cZ a_t a_t_best a_t_isFree a_t_least a_t_levelArc a_t_levelWeight a_t_most a_t_row a_t_weight a_t_arcs a_t_split a_t_levelNodes a_t_levelIn a_t_above a_t_ordered a_t_parts t_nodes t_kinds t_levels t_size t_base t_best t_isFree t_least t_levelArc t_levelWeight t_most (upd t_row (x17).toNatClampNeg x19))) (va_runV (As := []) ⟨hx, hb, hml, hown, hts⟩ (c_Re_rowOver l dC dI cI cZ a_t a_t_least a_t_levelWeight a_t_most a_t_row a_t_weight a_t_arcs a_t_split a_t_levelNodes a_t_levelArc a_t_levelIn a_t_isFree a_t_best a_t_above a_t_ordered a_t_parts H.size t_nodes t_kinds t_levels t_size t_base t_least t_levelWeight t_most (upd t_row (x17).toNatClampNeg x19) r156 hr156) (cwV 0 hts (gV gw_862 gw_864 gw_40 gw_61 gw_865) rfl rfl rfl (yd_Re_rowOver) ⟨Nat.le_of_ble_eq_true rfl, Nat.le_of_ble_eq_true rfl⟩) (mkV hK (hP.sub (ws' := (wd_Re_rowOver cI cZ a_t a_t_least a_t_levelWeight a_t_most a_t_row a_t_weight a_t_arcs a_t_split a_t_levelNodes a_t_levelArc a_t_levelIn a_t_isFree a_t_best a_t_above a_t_ordered a_t_parts t_nodes t_kinds t_levels t_size t_base t_least t_levelWeight t_most (upd t_row (x17).toNatClampNeg x19))) [0, 3, 5, 6, 7] rfl) (hD.sub (ws' := (wd_Re_rowOver cI cZ a_t a_t_least a_t_levelWeight a_t_most a_t_row a_t_weight a_t_arcs a_t_split a_t_levelNodes a_t_levelArc a_t_levelIn a_t_isFree a_t_best a_t_above a_t_ordered a_t_parts t_nodes t_kinds t_levels t_size t_base t_least t_levelWeight t_most (upd t_row (x17).toNatClampNeg x19))) [0, 3, 5, 6, 7] (by decide) rfl) hN (va_recv hK hP (ci := 9) (q0 := 0) rfl rfl)) rfl rfl hl.1 rfl (lv_room (Nat.le_of_ble_eq_true rfl)) dd_Re_pass_156 ⟨Nat.zero_le _, Nat.zero_le _⟩) hP hD hS hA [0, 3, 5, 6, 7] [1, 2, 4] [3, 0, 1, 4, 2, 5, 6, 7] rfl rfl (by decide) (by decide) rfl (by decide) rfl (fun H locs hP hD hS => ?_)
                        refine lv_lstore (lv' := [(22, .long r156), (20, .long r141), (0, .ref a_t), (1, .long x1), (3, .long x3), (5, .long x5), (7, .long x7), (9, .int x9), (10, .int x10), (11, .int x11), (12, .int x12), (13, .long x13), (15, .long x15), (17, .int x17), (18, .int x18), (19, .int x19)]) hx hb dd_Re_pass_159 hl (by decide) rfl (fun ls hl => ?_)
                        refine lv_aload_n hx hb dd_Re_pass_161 rfl (lv_at hl 2 rfl) ?_
                        refine va_get (D := (dC, dI)) (ci := 9) (v := .ref a_t_row) (C := rr_Re) (T := tt_Re) (N := 20) hx hb hts (fun w h => gwc (inn_Re w h)) hown hK hP 0 rfl rfl 14 (by decide) (hts _ (gwc gw_717)) (fun _ h9 => h9) rfl dd_Re_pass_162 ?_
                        refine lv_iload hx hb dd_Re_pass_165 (lv_at hl 13 rfl) ?_
                        refine lv_iload hx hb dd_Re_pass_167 (lv_at hl 14 rfl) ?_
                        obtain ⟨k169, hf⟩ := ck_some hf
                        refine va_iast hx hb hK hP hD hS 7 0 rfl rfl (okb_in k169) dd_Re_pass_169 (fun H locs hP hD hS => ?_)
                        have hP : va_P (dC, dI) clsL (wd_Re_pass cI cZ a_t a_t_best a_t_isFree a_t_least a_t_levelArc a_t_levelWeight a_t_most a_t_row a_t_weight a_t_arcs a_t_split a_t_levelNodes a_t_levelIn a_t_above a_t_ordered a_t_parts t_nodes t_kinds t_levels t_size t_base t_best t_isFree t_least t_levelArc t_levelWeight t_most (upd (upd t_row (x17).toNatClampNeg x19) (x17).toNatClampNeg x18)) H := hP
                        have hD : va_D A (wd_Re_pass cI cZ a_t a_t_best a_t_isFree a_t_least a_t_levelArc a_t_levelWeight a_t_most a_t_row a_t_weight a_t_arcs a_t_split a_t_levelNodes a_t_levelIn a_t_above a_t_ordered a_t_parts t_nodes t_kinds t_levels t_size t_base t_best t_isFree t_least t_levelArc t_levelWeight t_most (upd (upd t_row (x17).toNatClampNeg x19) (x17).toNatClampNeg x18)) := hD
                        refine lv_lload hx hb dd_Re_pass_170 (lv_at hl 0 rfl) ?_
                        refine lv_lload_n hx hb dd_Re_pass_172 rfl (lv_at hl 3 rfl) ?_
                        refine W.lcmp hx hb dd_Re_pass_173 ?_
                        refine lv_if_le (tgt := 180) hx hb dd_Re_pass_174 (by decide) (fun cc => ?_) (fun cc => ?_)
                        · skip
                          have hf := if_t cc hf
                          refine lv_iload hx hb dd_Re_pass_180 (lv_at hl 9 rfl) ?_
                          refine lv_if_lt (tgt := 209) hx hb dd_Re_pass_182 (by decide) (fun cc => ?_) (fun cc => ?_)
                          · skip
                            have hf := if_t cc hf
                            exact h209 x1 x3 x5 x7 x9 x10 x11 x12 x13 x15 x17 x18 x19 r141 r156 t_best t_isFree (upd (upd t_row (x17).toNatClampNeg x19) (x17).toNatClampNeg x18) _ _ _ hf (lv_sub hl [2, 3, 4, 5, 6, 7, 8, 9, 10, 11, 12, 13, 14, 15, 1, 0] rfl) hP hD hS
                          · skip
                            have hf := if_f cc hf
                            refine lv_lload hx hb dd_Re_pass_185 (lv_at hl 0 rfl) ?_
                            refine lv_lload hx hb dd_Re_pass_187 (lv_at hl 11 rfl) ?_
                            refine W.lcmp hx hb dd_Re_pass_189 ?_
                            refine lv_if_lt (tgt := 209) hx hb dd_Re_pass_190 (by decide) (fun cc => ?_) (fun cc => ?_)
                            · skip
                              have hf := if_t cc hf
                              exact h209 x1 x3 x5 x7 x9 x10 x11 x12 x13 x15 x17 x18 x19 r141 r156 t_best t_isFree (upd (upd t_row (x17).toNatClampNeg x19) (x17).toNatClampNeg x18) _ _ _ hf (lv_sub hl [2, 3, 4, 5, 6, 7, 8, 9, 10, 11, 12, 13, 14, 15, 1, 0] rfl) hP hD hS
                            · skip
                              have hf := if_f cc hf
                              refine lv_lload hx hb dd_Re_pass_193 (lv_at hl 0 rfl) ?_
                              refine lv_lload hx hb dd_Re_pass_195 (lv_at hl 11 rfl) ?_
                              refine W.lcmp hx hb dd_Re_pass_197 ?_
                              refine lv_if_ne (tgt := 213) hx hb dd_Re_pass_198 (by decide) (fun cc => ?_) (fun cc => ?_)
                              · skip
                                have hf := if_f cc hf
                                exact h213 x1 x3 x5 x7 x9 x10 x11 x12 x13 x15 x17 x18 x19 r141 r156 t_best t_isFree (upd (upd t_row (x17).toNatClampNeg x19) (x17).toNatClampNeg x18) _ _ _ hf (lv_sub hl [2, 3, 4, 5, 6, 7, 8, 9, 10, 11, 12, 13, 14, 15, 1, 0] rfl) hP hD hS
                              · skip
                                have hf := if_t cc hf
                                refine lv_lload hx hb dd_Re_pass_201 (lv_at hl 1 rfl) ?_
                                refine lv_lload hx hb dd_Re_pass_203 (lv_at hl 12 rfl) ?_
                                refine W.lcmp hx hb dd_Re_pass_205 ?_
                                refine lv_if_le (tgt := 213) hx hb dd_Re_pass_206 (by decide) (fun cc => ?_) (fun cc => ?_)
                                · skip
                                  have hf := if_t cc hf
                                  exact h213 x1 x3 x5 x7 x9 x10 x11 x12 x13 x15 x17 x18 x19 r141 r156 t_best t_isFree (upd (upd t_row (x17).toNatClampNeg x19) (x17).toNatClampNeg x18) _ _ _ hf (lv_sub hl [2, 3, 4, 5, 6, 7, 8, 9, 10, 11, 12, 13, 14, 15, 1, 0] rfl) hP hD hS
                                · skip
                                  have hf := if_f cc hf
                                  exact h209 x1 x3 x5 x7 x9 x10 x11 x12 x13 x15 x17 x18 x19 r141 r156 t_best t_isFree (upd (upd t_row (x17).toNatClampNeg x19) (x17).toNatClampNeg x18) _ _ _ hf (lv_sub hl [2, 3, 4, 5, 6, 7, 8, 9, 10, 11, 12, 13, 14, 15, 1, 0] rfl) hP hD hS
                        · skip
                          have hf := if_f cc hf
                          refine lv_goto (tgt := 240) hx hb dd_Re_pass_177 (by decide) ?_
                          refine lv_iinc (v := x19 + 1) (lv' := [(19, .int (x19 + 1)), (22, .long r156), (20, .long r141), (0, .ref a_t), (1, .long x1), (3, .long x3), (5, .long x5), (7, .long x7), (9, .int x9), (10, .int x10), (11, .int x11), (12, .int x12), (13, .long x13), (15, .long x15), (17, .int x17), (18, .int x18)]) hx hb dd_Re_pass_240 hl (k := 15) rfl rfl (by decide) rfl (fun ls hl => ?_)
                          refine lv_goto (tgt := 107) hx hb dd_Re_pass_243 (by decide) ?_
                          exact ih107 x1 x3 x5 x7 x9 x10 x11 x12 x13 x15 x17 x18 (x19 + 1) t_best t_isFree (upd (upd t_row (x17).toNatClampNeg x19) (x17).toNatClampNeg x18) _ _ _ hf (lv_sub hl [3, 4, 5, 6, 7, 8, 9, 10, 11, 12, 13, 14, 15, 0] rfl) hP hD hS
                      · skip
                        have hf := if_t cc hf
                        refine lv_goto (tgt := 240) hx hb dd_Re_pass_133 (by decide) ?_
                        refine lv_iinc (v := x19 + 1) (lv' := [(19, .int (x19 + 1)), (0, .ref a_t), (1, .long x1), (3, .long x3), (5, .long x5), (7, .long x7), (9, .int x9), (10, .int x10), (11, .int x11), (12, .int x12), (13, .long x13), (15, .long x15), (17, .int x17), (18, .int x18)]) hx hb dd_Re_pass_240 hl (k := 13) rfl rfl (by decide) rfl (fun ls hl => ?_)
                        refine lv_goto (tgt := 107) hx hb dd_Re_pass_243 (by decide) ?_
                        exact ih107 x1 x3 x5 x7 x9 x10 x11 x12 x13 x15 x17 x18 (x19 + 1) t_best t_isFree t_row _ _ _ hf (lv_sub hl [1, 2, 3, 4, 5, 6, 7, 8, 9, 10, 11, 12, 13, 0] rfl) hP hD hS
              have h252 : ∀ (x3 : Int64) (x5 : Int64) (x7 : Int64) (x9 : Int32) (x10 : Int32) (x11 : Int32) (x12 : Int32) (x13 : Int64) (x15 : Int64) (t_best : Nat → Int32) (t_isFree : Nat → Int32) (t_row : Nat → Int32) (ls : Array Slot) (H : Heap) (locs : List Loc), J_Re_pass_252 t_size (L_Re_pass_62 t_kinds t_size t_base t_least t_levelArc t_levelWeight t_most n62) x3 x5 x7 x9 x10 x11 x12 x13 x15 t_best t_isFree t_row = some out → lv_has ls 25 [(0, .ref a_t), (3, .long x3), (5, .long x5), (7, .long x7), (9, .int x9), (10, .int x10), (11, .int x11), (12, .int x12), (13, .long x13), (15, .long x15)] → va_P (dC, dI) clsL (wd_Re_pass cI cZ a_t a_t_best a_t_isFree a_t_least a_t_levelArc a_t_levelWeight a_t_most a_t_row a_t_weight a_t_arcs a_t_split a_t_levelNodes a_t_levelIn a_t_above a_t_ordered a_t_parts t_nodes t_kinds t_levels t_size t_base t_best t_isFree t_least t_levelArc t_levelWeight t_most t_row) H → va_D A (wd_Re_pass cI cZ a_t a_t_best a_t_isFree a_t_least a_t_levelArc a_t_levelWeight a_t_most a_t_row a_t_weight a_t_arcs a_t_split a_t_levelNodes a_t_levelIn a_t_above a_t_ordered a_t_parts t_nodes t_kinds t_levels t_size t_base t_best t_isFree t_least t_levelArc t_levelWeight t_most t_row) → va_S A s.heap H locs → W p l e (headSpec wq_Re_pass ({ frames := 3, cells := 0, slots := 0, locals := 70 })).room s m ([.ref a_t] : List Value).toArray below meth c H locs 0 0 (MQ below (va_Qi (fun (r : Int32) (_ : Unit) => r = out.1) (fun _ => pst (dC, dI) A (wd_Re_pass cI cZ a_t a_t_best a_t_isFree a_t_least a_t_levelArc a_t_levelWeight a_t_most a_t_row a_t_weight a_t_arcs a_t_split a_t_levelNodes a_t_levelIn a_t_above a_t_ordered a_t_parts t_nodes t_kinds t_levels t_size t_base out.2.1 out.2.2.1 t_least t_levelArc t_levelWeight t_most out.2.2.2)) A) ([.ref a_t] : List Value).toArray s 0 0 A) (F0 m 252 ls []) := by
                intro x3 x5 x7 x9 x10 x11 x12 x13 x15 t_best t_isFree t_row ls H locs hf hl hP hD hS
                unfold J_Re_pass_252 at hf
                have h309 : ∀ (x1 : Int64) (x3 : Int64) (x10 : Int32) (t_best : Nat → Int32) (t_isFree : Nat → Int32) (t_row : Nat → Int32) (ls : Array Slot) (H : Heap) (locs : List Loc), J_Re_pass_309 t_size (L_Re_pass_62 t_kinds t_size t_base t_least t_levelArc t_levelWeight t_most n62) x1 x3 x10 t_best t_isFree t_row = some out → lv_has ls 25 [(0, .ref a_t), (1, .long x1), (3, .long x3), (10, .int x10)] → va_P (dC, dI) clsL (wd_Re_pass cI cZ a_t a_t_best a_t_isFree a_t_least a_t_levelArc a_t_levelWeight a_t_most a_t_row a_t_weight a_t_arcs a_t_split a_t_levelNodes a_t_levelIn a_t_above a_t_ordered a_t_parts t_nodes t_kinds t_levels t_size t_base t_best t_isFree t_least t_levelArc t_levelWeight t_most t_row) H → va_D A (wd_Re_pass cI cZ a_t a_t_best a_t_isFree a_t_least a_t_levelArc a_t_levelWeight a_t_most a_t_row a_t_weight a_t_arcs a_t_split a_t_levelNodes a_t_levelIn a_t_above a_t_ordered a_t_parts t_nodes t_kinds t_levels t_size t_base t_best t_isFree t_least t_levelArc t_levelWeight t_most t_row) → va_S A s.heap H locs → W p l e (headSpec wq_Re_pass ({ frames := 3, cells := 0, slots := 0, locals := 70 })).room s m ([.ref a_t] : List Value).toArray below meth c H locs 0 0 (MQ below (va_Qi (fun (r : Int32) (_ : Unit) => r = out.1) (fun _ => pst (dC, dI) A (wd_Re_pass cI cZ a_t a_t_best a_t_isFree a_t_least a_t_levelArc a_t_levelWeight a_t_most a_t_row a_t_weight a_t_arcs a_t_split a_t_levelNodes a_t_levelIn a_t_above a_t_ordered a_t_parts t_nodes t_kinds t_levels t_size t_base out.2.1 out.2.2.1 t_least t_levelArc t_levelWeight t_most out.2.2.2)) A) ([.ref a_t] : List Value).toArray s 0 0 A) (F0 m 309 ls []) := by
                  intro x1 x3 x10 t_best t_isFree t_row ls H locs hf hl hP hD hS
                  unfold J_Re_pass_309 at hf
                  have h321 : ∀ (n321 : Nat) (x1 : Int64) (x3 : Int64) (x5 : Int64) (x7 : Int64) (x9 : Int32) (x10 : Int32) (x17 : Int32) (t_best : Nat → Int32) (t_isFree : Nat → Int32) (t_row : Nat → Int32) (ls : Array Slot) (H : Heap) (locs : List Loc), L_Re_pass_321 t_size (L_Re_pass_62 t_kinds t_size t_base t_least t_levelArc t_levelWeight t_most n62) n321 x1 x3 x5 x7 x9 x10 x17 t_best t_isFree t_row = some out → lv_has ls 25 [(0, .ref a_t), (1, .long x1), (3, .long x3), (5, .long x5), (7, .long x7), (9, .int x9), (10, .int x10), (17, .int x17)] → va_P (dC, dI) clsL (wd_Re_pass cI cZ a_t a_t_best a_t_isFree a_t_least a_t_levelArc a_t_levelWeight a_t_most a_t_row a_t_weight a_t_arcs a_t_split a_t_levelNodes a_t_levelIn a_t_above a_t_ordered a_t_parts t_nodes t_kinds t_levels t_size t_base t_best t_isFree t_least t_levelArc t_levelWeight t_most t_row) H → va_D A (wd_Re_pass cI cZ a_t a_t_best a_t_isFree a_t_least a_t_levelArc a_t_levelWeight a_t_most a_t_row a_t_weight a_t_arcs a_t_split a_t_levelNodes a_t_levelIn a_t_above a_t_ordered a_t_parts t_nodes t_kinds t_levels t_size t_base t_best t_isFree t_least t_levelArc t_levelWeight t_most t_row) → va_S A s.heap H locs → W p l e (headSpec wq_Re_pass ({ frames := 3, cells := 0, slots := 0, locals := 70 })).room s m ([.ref a_t] : List Value).toArray below meth c H locs 0 0 (MQ below (va_Qi (fun (r : Int32) (_ : Unit) => r = out.1) (fun _ => pst (dC, dI) A (wd_Re_pass cI cZ a_t a_t_best a_t_isFree a_t_least a_t_levelArc a_t_levelWeight a_t_most a_t_row a_t_weight a_t_arcs a_t_split a_t_levelNodes a_t_levelIn a_t_above a_t_ordered a_t_parts t_nodes t_kinds t_levels t_size t_base out.2.1 out.2.2.1 t_least t_levelArc t_levelWeight t_most out.2.2.2)) A) ([.ref a_t] : List Value).toArray s 0 0 A) (F0 m 321 ls []) := by
                    intro n321
                    induction n321 with
                    | zero =>
                      intro x1 x3 x5 x7 x9 x10 x17 t_best t_isFree t_row ls H locs hf
                      rw [L_Re_pass_321] at hf
                      exact absurd hf (fun h => by cases h)
                    | succ n321 ih321 =>
                      intro x1 x3 x5 x7 x9 x10 x17 t_best t_isFree t_row ls H locs hf hl hP hD hS
                      rw [L_Re_pass_321] at hf
                      refine lv_iload hx hb dd_Re_pass_321 (lv_at hl 7 rfl) ?_
                      refine lv_aload_n hx hb dd_Re_pass_323 rfl (lv_at hl 0 rfl) ?_
                      refine va_get (D := (dC, dI)) (ci := 9) (v := .int t_size) (C := rr_Re) (T := tt_Re) (N := 20) hx hb hts (fun w h => gwc (inn_Re w h)) hown hK hP 0 rfl rfl 12 (by decide) (hts _ (gwc gw_715)) (fun _ h9 => h9) rfl dd_Re_pass_324 ?_
                      refine lv_icmp_ge (tgt := 350) hx hb dd_Re_pass_327 (by decide) (fun cc => ?_) (fun cc => ?_)
                      · skip
                        have hf := if_t cc hf
                        refine lv_iinc (v := x10 + 1) (lv' := [(10, .int (x10 + 1)), (0, .ref a_t), (1, .long x1), (3, .long x3), (5, .long x5), (7, .long x7), (9, .int x9), (17, .int x17)]) hx hb dd_Re_pass_350 hl (k := 6) rfl rfl (by decide) rfl (fun ls hl => ?_)
                        refine lv_goto (tgt := 62) hx hb dd_Re_pass_353 (by decide) ?_
                        exact ih62 x1 x3 x5 x7 x9 (x10 + 1) t_best t_isFree t_row _ _ _ hf (lv_sub hl [1, 2, 3, 4, 5, 6, 0] rfl) hP hD hS
                      · skip
                        have hf := if_f cc hf
                        refine lv_aload_n hx hb dd_Re_pass_330 rfl (lv_at hl 0 rfl) ?_
                        refine va_get (D := (dC, dI)) (ci := 9) (v := .ref a_t_best) (C := rr_Re) (T := tt_Re) (N := 20) hx hb hts (fun w h => gwc (inn_Re w h)) hown hK hP 0 rfl rfl 16 (by decide) (hts _ (gwc gw_719)) (fun _ h9 => h9) rfl dd_Re_pass_331 ?_
                        refine lv_iload hx hb dd_Re_pass_334 (lv_at hl 7 rfl) ?_
                        refine lv_aload_n hx hb dd_Re_pass_336 rfl (lv_at hl 0 rfl) ?_
                        refine va_get (D := (dC, dI)) (ci := 9) (v := .ref a_t_row) (C := rr_Re) (T := tt_Re) (N := 20) hx hb hts (fun w h => gwc (inn_Re w h)) hown hK hP 0 rfl rfl 14 (by decide) (hts _ (gwc gw_717)) (fun _ h9 => h9) rfl dd_Re_pass_337 ?_
                        refine lv_iload hx hb dd_Re_pass_340 (lv_at hl 7 rfl) ?_
                        obtain ⟨k342, hf⟩ := ck_some hf
                        refine va_iald hx hb hK hP 7 0 rfl rfl (okb_in k342) dd_Re_pass_342 ?_
                        obtain ⟨k343, hf⟩ := ck_some hf
                        refine va_iast hx hb hK hP hD hS 1 0 rfl rfl (okb_in k343) dd_Re_pass_343 (fun H locs hP hD hS => ?_)
                        have hP : va_P (dC, dI) clsL (wd_Re_pass cI cZ a_t a_t_best a_t_isFree a_t_least a_t_levelArc a_t_levelWeight a_t_most a_t_row a_t_weight a_t_arcs a_t_split a_t_levelNodes a_t_levelIn a_t_above a_t_ordered a_t_parts t_nodes t_kinds t_levels t_size t_base (upd t_best (x17).toNatClampNeg (t_row (x17).toNatClampNeg)) t_isFree t_least t_levelArc t_levelWeight t_most t_row) H := hP
                        have hD : va_D A (wd_Re_pass cI cZ a_t a_t_best a_t_isFree a_t_least a_t_levelArc a_t_levelWeight a_t_most a_t_row a_t_weight a_t_arcs a_t_split a_t_levelNodes a_t_levelIn a_t_above a_t_ordered a_t_parts t_nodes t_kinds t_levels t_size t_base (upd t_best (x17).toNatClampNeg (t_row (x17).toNatClampNeg)) t_isFree t_least t_levelArc t_levelWeight t_most t_row) := hD
                        refine lv_iinc (v := x17 + 1) (lv' := [(17, .int (x17 + 1)), (0, .ref a_t), (1, .long x1), (3, .long x3), (5, .long x5), (7, .long x7), (9, .int x9), (10, .int x10)]) hx hb dd_Re_pass_344 hl (k := 7) rfl rfl (by decide) rfl (fun ls hl => ?_)
                        refine lv_goto (tgt := 321) hx hb dd_Re_pass_347 (by decide) ?_
                        exact ih321 x1 x3 x5 x7 x9 x10 (x17 + 1) (upd t_best (x17).toNatClampNeg (t_row (x17).toNatClampNeg)) t_isFree t_row _ _ _ hf (lv_sub hl [1, 2, 3, 4, 5, 6, 7, 0] rfl) hP hD hS
                  refine lv_iconst (v := 1) hx hb dd_Re_pass_309 (by decide) ?_
                  refine lv_istore (lv' := [(9, .int 1), (0, .ref a_t), (1, .long x1), (3, .long x3), (10, .int x10)]) hx hb dd_Re_pass_310 hl (by decide) rfl (fun ls hl => ?_)
                  refine lv_lload_n hx hb dd_Re_pass_312 rfl (lv_at hl 2 rfl) ?_
                  refine lv_lstore (lv' := [(5, .long x1), (9, .int 1), (0, .ref a_t), (1, .long x1), (3, .long x3), (10, .int x10)]) hx hb dd_Re_pass_313 hl (by decide) rfl (fun ls hl => ?_)
                  refine lv_lload_n hx hb dd_Re_pass_315 rfl (lv_at hl 4 rfl) ?_
                  refine lv_lstore (lv' := [(7, .long x3), (5, .long x1), (9, .int 1), (0, .ref a_t), (1, .long x1), (3, .long x3), (10, .int x10)]) hx hb dd_Re_pass_316 hl (by decide) rfl (fun ls hl => ?_)
                  refine lv_iconst (v := 0) hx hb dd_Re_pass_318 (by decide) ?_
                  refine lv_istore (lv' := [(17, .int 0), (7, .long x3), (5, .long x1), (9, .int 1), (0, .ref a_t), (1, .long x1), (3, .long x3), (10, .int x10)]) hx hb dd_Re_pass_319 hl (by decide) rfl (fun ls hl => ?_)
                  exact h321 64 x1 x3 x1 x3 1 x10 0 t_best t_isFree t_row _ _ _ hf (lv_sub hl [4, 5, 6, 2, 1, 3, 7, 0] rfl) hP hD hS
                refine lv_iload hx hb dd_Re_pass_252 (lv_at hl 6 rfl) ?_
                refine lv_if_ge (tgt := 260) hx hb dd_Re_pass_254 (by decide) (fun cc => ?_) (fun cc => ?_)
                · skip
                  have hf := if_t cc hf
                  refine lv_aload_n hx hb dd_Re_pass_260 rfl (lv_at hl 0 rfl) ?_
                  refine va_get (D := (dC, dI)) (ci := 9) (v := .ref a_t_row) (C := rr_Re) (T := tt_Re) (N := 20) hx hb hts (fun w h => gwc (inn_Re w h)) hown hK hP 0 rfl rfl 14 (by decide) (hts _ (gwc gw_717)) (fun _ h9 => h9) rfl dd_Re_pass_261 ?_
                  refine lv_iload hx hb dd_Re_pass_264 (lv_at hl 6 rfl) ?_
                  refine lv_iload hx hb dd_Re_pass_266 (lv_at hl 7 rfl) ?_
                  obtain ⟨k268, hf⟩ := ck_some hf
                  refine va_iast hx hb hK hP hD hS 7 0 rfl rfl (okb_in k268) dd_Re_pass_268 (fun H locs hP hD hS => ?_)
                  have hP : va_P (dC, dI) clsL (wd_Re_pass cI cZ a_t a_t_best a_t_isFree a_t_least a_t_levelArc a_t_levelWeight a_t_most a_t_row a_t_weight a_t_arcs a_t_split a_t_levelNodes a_t_levelIn a_t_above a_t_ordered a_t_parts t_nodes t_kinds t_levels t_size t_base t_best t_isFree t_least t_levelArc t_levelWeight t_most (upd t_row (x11).toNatClampNeg x12)) H := hP
                  have hD : va_D A (wd_Re_pass cI cZ a_t a_t_best a_t_isFree a_t_least a_t_levelArc a_t_levelWeight a_t_most a_t_row a_t_weight a_t_arcs a_t_split a_t_levelNodes a_t_levelIn a_t_above a_t_ordered a_t_parts t_nodes t_kinds t_levels t_size t_base t_best t_isFree t_least t_levelArc t_levelWeight t_most (upd t_row (x11).toNatClampNeg x12)) := hD
                  refine lv_aload_n hx hb dd_Re_pass_269 rfl (lv_at hl 0 rfl) ?_
                  refine va_get (D := (dC, dI)) (ci := 9) (v := .ref a_t_isFree) (C := rr_Re) (T := tt_Re) (N := 20) hx hb hts (fun w h => gwc (inn_Re w h)) hown hK hP 0 rfl rfl 15 (by decide) (hts _ (gwc gw_718)) (fun _ h9 => h9) rfl dd_Re_pass_270 ?_
                  refine lv_iload hx hb dd_Re_pass_273 (lv_at hl 6 rfl) ?_
                  refine lv_iconst (v := 0) hx hb dd_Re_pass_275 (by decide) ?_
                  obtain ⟨k276, hf⟩ := ck_some hf
                  refine va_zast hx hb hK hP hD hS 2 1 rfl rfl (okb_in k276) dd_Re_pass_276 (fun H locs hP hD hS => ?_)
                  have hP : va_P (dC, dI) clsL (wd_Re_pass cI cZ a_t a_t_best a_t_isFree a_t_least a_t_levelArc a_t_levelWeight a_t_most a_t_row a_t_weight a_t_arcs a_t_split a_t_levelNodes a_t_levelIn a_t_above a_t_ordered a_t_parts t_nodes t_kinds t_levels t_size t_base t_best (upd t_isFree (x11).toNatClampNeg (vp_nar .boolean 0)) t_least t_levelArc t_levelWeight t_most (upd t_row (x11).toNatClampNeg x12)) H := hP
                  have hD : va_D A (wd_Re_pass cI cZ a_t a_t_best a_t_isFree a_t_least a_t_levelArc a_t_levelWeight a_t_most a_t_row a_t_weight a_t_arcs a_t_split a_t_levelNodes a_t_levelIn a_t_above a_t_ordered a_t_parts t_nodes t_kinds t_levels t_size t_base t_best (upd t_isFree (x11).toNatClampNeg (vp_nar .boolean 0)) t_least t_levelArc t_levelWeight t_most (upd t_row (x11).toNatClampNeg x12)) := hD
                  refine lv_lload hx hb dd_Re_pass_277 (lv_at hl 8 rfl) ?_
                  refine lv_lstore_n (lv' := [(1, .long x13), (0, .ref a_t), (3, .long x3), (5, .long x5), (7, .long x7), (9, .int x9), (10, .int x10), (11, .int x11), (12, .int x12), (13, .long x13), (15, .long x15)]) hx hb dd_Re_pass_279 rfl hl (by decide) rfl (fun ls hl => ?_)
                  refine lv_lload_n hx hb dd_Re_pass_280 rfl (lv_at hl 2 rfl) ?_
                  refine lv_lload hx hb dd_Re_pass_281 (lv_at hl 10 rfl) ?_
                  refine lv_lsub hx hb dd_Re_pass_283 ?_
                  refine lv_lstore_n (lv' := [(3, .long (x3 - x15)), (1, .long x13), (0, .ref a_t), (5, .long x5), (7, .long x7), (9, .int x9), (10, .int x10), (11, .int x11), (12, .int x12), (13, .long x13), (15, .long x15)]) hx hb dd_Re_pass_284 rfl hl (by decide) rfl (fun ls hl => ?_)
                  refine lv_lload_n hx hb dd_Re_pass_285 rfl (lv_at hl 1 rfl) ?_
                  refine lv_lload hx hb dd_Re_pass_286 (lv_at hl 3 rfl) ?_
                  refine W.lcmp hx hb dd_Re_pass_288 ?_
                  refine lv_if_gt (tgt := 350) hx hb dd_Re_pass_289 (by decide) (fun cc => ?_) (fun cc => ?_)
                  · skip
                    have hf := if_t cc hf
                    refine lv_iinc (v := x10 + 1) (lv' := [(10, .int (x10 + 1)), (3, .long (x3 - x15)), (1, .long x13), (0, .ref a_t), (5, .long x5), (7, .long x7), (9, .int x9), (11, .int x11), (12, .int x12), (13, .long x13), (15, .long x15)]) hx hb dd_Re_pass_350 hl (k := 6) rfl rfl (by decide) rfl (fun ls hl => ?_)
                    refine lv_goto (tgt := 62) hx hb dd_Re_pass_353 (by decide) ?_
                    exact ih62 x13 (x3 - x15) x5 x7 x9 (x10 + 1) t_best (upd t_isFree (x11).toNatClampNeg (vp_nar .boolean 0)) (upd t_row (x11).toNatClampNeg x12) _ _ _ hf (lv_sub hl [3, 2, 1, 4, 5, 6, 0] rfl) hP hD hS
                  · skip
                    have hf := if_f cc hf
                    refine lv_lload_n hx hb dd_Re_pass_292 rfl (lv_at hl 1 rfl) ?_
                    refine lv_lload hx hb dd_Re_pass_293 (lv_at hl 3 rfl) ?_
                    refine W.lcmp hx hb dd_Re_pass_295 ?_
                    refine lv_if_ne (tgt := 309) hx hb dd_Re_pass_296 (by decide) (fun cc => ?_) (fun cc => ?_)
                    · skip
                      have hf := if_f cc hf
                      exact h309 x13 (x3 - x15) x10 t_best (upd t_isFree (x11).toNatClampNeg (vp_nar .boolean 0)) (upd t_row (x11).toNatClampNeg x12) _ _ _ hf (lv_sub hl [2, 1, 0, 6] rfl) hP hD hS
                    · skip
                      have hf := if_t cc hf
                      refine lv_lload_n hx hb dd_Re_pass_299 rfl (lv_at hl 0 rfl) ?_
                      refine lv_lload hx hb dd_Re_pass_300 (lv_at hl 4 rfl) ?_
                      refine W.lcmp hx hb dd_Re_pass_302 ?_
                      refine lv_if_lt (tgt := 309) hx hb dd_Re_pass_303 (by decide) (fun cc => ?_) (fun cc => ?_)
                      · skip
                        have hf := if_t cc hf
                        exact h309 x13 (x3 - x15) x10 t_best (upd t_isFree (x11).toNatClampNeg (vp_nar .boolean 0)) (upd t_row (x11).toNatClampNeg x12) _ _ _ hf (lv_sub hl [2, 1, 0, 6] rfl) hP hD hS
                      · skip
                        have hf := if_f cc hf
                        refine lv_goto (tgt := 350) hx hb dd_Re_pass_306 (by decide) ?_
                        refine lv_iinc (v := x10 + 1) (lv' := [(10, .int (x10 + 1)), (3, .long (x3 - x15)), (1, .long x13), (0, .ref a_t), (5, .long x5), (7, .long x7), (9, .int x9), (11, .int x11), (12, .int x12), (13, .long x13), (15, .long x15)]) hx hb dd_Re_pass_350 hl (k := 6) rfl rfl (by decide) rfl (fun ls hl => ?_)
                        refine lv_goto (tgt := 62) hx hb dd_Re_pass_353 (by decide) ?_
                        exact ih62 x13 (x3 - x15) x5 x7 x9 (x10 + 1) t_best (upd t_isFree (x11).toNatClampNeg (vp_nar .boolean 0)) (upd t_row (x11).toNatClampNeg x12) _ _ _ hf (lv_sub hl [3, 2, 1, 4, 5, 6, 0] rfl) hP hD hS
                · skip
                  have hf := if_f cc hf
                  refine lv_goto (tgt := 356) hx hb dd_Re_pass_257 (by decide) ?_
                  refine lv_iconst (v := 0) hx hb dd_Re_pass_356 (by decide) ?_
                  refine lv_istore (lv' := [(10, .int 0), (0, .ref a_t), (3, .long x3), (5, .long x5), (7, .long x7), (9, .int x9), (11, .int x11), (12, .int x12), (13, .long x13), (15, .long x15)]) hx hb dd_Re_pass_357 hl (by decide) rfl (fun ls hl => ?_)
                  exact h359 64 x9 0 t_best t_isFree t_row _ _ _ hf (lv_sub hl [1, 5, 0] rfl) hP hD hS
              refine lv_iload hx hb dd_Re_pass_86 (lv_at hl 11 rfl) ?_
              refine lv_aload_n hx hb dd_Re_pass_88 rfl (lv_at hl 0 rfl) ?_
              refine va_get (D := (dC, dI)) (ci := 9) (v := .int t_size) (C := rr_Re) (T := tt_Re) (N := 20) hx hb hts (fun w h => gwc (inn_Re w h)) hown hK hP 0 rfl rfl 12 (by decide) (hts _ (gwc gw_715)) (fun _ h9 => h9) rfl dd_Re_pass_89 ?_
              refine lv_icmp_ge (tgt := 252) hx hb dd_Re_pass_92 (by decide) (fun cc => ?_) (fun cc => ?_)
              · skip
                have hf := if_t cc hf
                exact h252 x3 x5 x7 x9 x10 x11 x12 x13 x15 t_best t_isFree t_row _ _ _ hf (lv_sub hl [0, 2, 3, 4, 5, 6, 7, 8, 9, 10] rfl) hP hD hS
              · skip
                have hf := if_f cc hf
                refine lv_aload_n hx hb dd_Re_pass_95 rfl (lv_at hl 0 rfl) ?_
                refine va_get (D := (dC, dI)) (ci := 9) (v := .ref a_t_row) (C := rr_Re) (T := tt_Re) (N := 20) hx hb hts (fun w h => gwc (inn_Re w h)) hown hK hP 0 rfl rfl 14 (by decide) (hts _ (gwc gw_717)) (fun _ h9 => h9) rfl dd_Re_pass_96 ?_
                refine lv_iload hx hb dd_Re_pass_99 (lv_at hl 11 rfl) ?_
                obtain ⟨k101, hf⟩ := ck_some hf
                refine va_iald hx hb hK hP 7 0 rfl rfl (okb_in k101) dd_Re_pass_101 ?_
                refine lv_istore (lv' := [(18, .int (t_row (x17).toNatClampNeg)), (0, .ref a_t), (1, .long x1), (3, .long x3), (5, .long x5), (7, .long x7), (9, .int x9), (10, .int x10), (11, .int x11), (12, .int x12), (13, .long x13), (15, .long x15), (17, .int x17)]) hx hb dd_Re_pass_102 hl (by decide) rfl (fun ls hl => ?_)
                refine lv_iconst (v := 0) hx hb dd_Re_pass_104 (by decide) ?_
                refine lv_istore (lv' := [(19, .int 0), (18, .int (t_row (x17).toNatClampNeg)), (0, .ref a_t), (1, .long x1), (3, .long x3), (5, .long x5), (7, .long x7), (9, .int x9), (10, .int x10), (11, .int x11), (12, .int x12), (13, .long x13), (15, .long x15), (17, .int x17)]) hx hb dd_Re_pass_105 hl (by decide) rfl (fun ls hl => ?_)
                exact h107 64 x1 x3 x5 x7 x9 x10 x11 x12 x13 x15 x17 (t_row (x17).toNatClampNeg) 0 t_best t_isFree t_row _ _ _ hf (lv_sub hl [2, 3, 4, 5, 6, 7, 8, 9, 10, 11, 12, 13, 1, 0] rfl) hP hD hS
          refine lv_iload hx hb dd_Re_pass_62 (lv_at hl 6 rfl) ?_
          refine lv_aload_n hx hb dd_Re_pass_64 rfl (lv_at hl 0 rfl) ?_
          refine va_get (D := (dC, dI)) (ci := 9) (v := .int t_size) (C := rr_Re) (T := tt_Re) (N := 20) hx hb hts (fun w h => gwc (inn_Re w h)) hown hK hP 0 rfl rfl 12 (by decide) (hts _ (gwc gw_715)) (fun _ h9 => h9) rfl dd_Re_pass_65 ?_
          refine lv_icmp_ge (tgt := 356) hx hb dd_Re_pass_68 (by decide) (fun cc => ?_) (fun cc => ?_)
          · skip
            have hf := if_t cc hf
            refine lv_iconst (v := 0) hx hb dd_Re_pass_356 (by decide) ?_
            refine lv_istore (lv' := [(10, .int 0), (0, .ref a_t), (1, .long x1), (3, .long x3), (5, .long x5), (7, .long x7), (9, .int x9)]) hx hb dd_Re_pass_357 hl (by decide) rfl (fun ls hl => ?_)
            exact h359 64 x9 0 t_best t_isFree t_row _ _ _ hf (lv_sub hl [1, 6, 0] rfl) hP hD hS
          · skip
            have hf := if_f cc hf
            refine lv_iconst (v := -1) hx hb dd_Re_pass_71 (by decide) ?_
            refine lv_istore (lv' := [(11, .int (-1)), (0, .ref a_t), (1, .long x1), (3, .long x3), (5, .long x5), (7, .long x7), (9, .int x9), (10, .int x10)]) hx hb dd_Re_pass_72 hl (by decide) rfl (fun ls hl => ?_)
            refine lv_iconst (v := 0) hx hb dd_Re_pass_74 (by decide) ?_
            refine lv_istore (lv' := [(12, .int 0), (11, .int (-1)), (0, .ref a_t), (1, .long x1), (3, .long x3), (5, .long x5), (7, .long x7), (9, .int x9), (10, .int x10)]) hx hb dd_Re_pass_75 hl (by decide) rfl (fun ls hl => ?_)
            refine lv_lconst (v := 0) hx hb dd_Re_pass_77 (by decide) ?_
            refine lv_lstore (lv' := [(13, .long (0 : Int64)), (12, .int 0), (11, .int (-1)), (0, .ref a_t), (1, .long x1), (3, .long x3), (5, .long x5), (7, .long x7), (9, .int x9), (10, .int x10)]) hx hb dd_Re_pass_78 hl (by decide) rfl (fun ls hl => ?_)
            refine lv_lconst (v := 0) hx hb dd_Re_pass_80 (by decide) ?_
            refine lv_lstore (lv' := [(15, .long (0 : Int64)), (13, .long (0 : Int64)), (12, .int 0), (11, .int (-1)), (0, .ref a_t), (1, .long x1), (3, .long x3), (5, .long x5), (7, .long x7), (9, .int x9), (10, .int x10)]) hx hb dd_Re_pass_81 hl (by decide) rfl (fun ls hl => ?_)
            refine lv_iconst (v := 0) hx hb dd_Re_pass_83 (by decide) ?_
            refine lv_istore (lv' := [(17, .int 0), (15, .long (0 : Int64)), (13, .long (0 : Int64)), (12, .int 0), (11, .int (-1)), (0, .ref a_t), (1, .long x1), (3, .long x3), (5, .long x5), (7, .long x7), (9, .int x9), (10, .int x10)]) hx hb dd_Re_pass_84 hl (by decide) rfl (fun ls hl => ?_)
            exact h86 64 x1 x3 x5 x7 x9 x10 (-1) 0 (0 : Int64) (0 : Int64) 0 t_best t_isFree t_row _ _ _ hf (lv_sub hl [5, 6, 7, 8, 9, 10, 11, 4, 3, 2, 1, 0] rfl) hP hD hS
      refine lv_iload hx hb dd_Re_pass_19 (lv_at hl 5 rfl) ?_
      refine lv_aload_n hx hb dd_Re_pass_21 rfl (lv_at hl 0 rfl) ?_
      refine va_get (D := (dC, dI)) (ci := 9) (v := .int t_size) (C := rr_Re) (T := tt_Re) (N := 20) hx hb hts (fun w h => gwc (inn_Re w h)) hown hK hP 0 rfl rfl 12 (by decide) (hts _ (gwc gw_715)) (fun _ h9 => h9) rfl dd_Re_pass_22 ?_
      refine lv_icmp_ge (tgt := 56) hx hb dd_Re_pass_25 (by decide) (fun cc => ?_) (fun cc => ?_)
      · skip
        have hf := if_t cc hf
        refine lv_iconst (v := 0) hx hb dd_Re_pass_56 (by decide) ?_
        refine lv_istore (lv' := [(9, .int 0), (0, .ref a_t), (1, .long x1), (3, .long x3), (5, .long x5), (7, .long x7)]) hx hb dd_Re_pass_57 hl (by decide) rfl (fun ls hl => ?_)
        refine lv_iconst (v := 0) hx hb dd_Re_pass_59 (by decide) ?_
        refine lv_istore (lv' := [(10, .int 0), (9, .int 0), (0, .ref a_t), (1, .long x1), (3, .long x3), (5, .long x5), (7, .long x7)]) hx hb dd_Re_pass_60 hl (by decide) rfl (fun ls hl => ?_)
        exact h62 64 x1 x3 x5 x7 0 0 t_best t_isFree t_row _ _ _ hf (lv_sub hl [2, 3, 4, 5, 6, 1, 0] rfl) hP hD hS
      · skip
        have hf := if_f cc hf
        refine lv_aload_n hx hb dd_Re_pass_28 rfl (lv_at hl 0 rfl) ?_
        refine va_get (D := (dC, dI)) (ci := 9) (v := .ref a_t_isFree) (C := rr_Re) (T := tt_Re) (N := 20) hx hb hts (fun w h => gwc (inn_Re w h)) hown hK hP 0 rfl rfl 15 (by decide) (hts _ (gwc gw_718)) (fun _ h9 => h9) rfl dd_Re_pass_29 ?_
        refine lv_iload hx hb dd_Re_pass_32 (lv_at hl 5 rfl) ?_
        refine lv_iconst (v := 1) hx hb dd_Re_pass_34 (by decide) ?_
        obtain ⟨k35, hf⟩ := ck_some hf
        refine va_zast hx hb hK hP hD hS 2 1 rfl rfl (okb_in k35) dd_Re_pass_35 (fun H locs hP hD hS => ?_)
        have hP : va_P (dC, dI) clsL (wd_Re_pass cI cZ a_t a_t_best a_t_isFree a_t_least a_t_levelArc a_t_levelWeight a_t_most a_t_row a_t_weight a_t_arcs a_t_split a_t_levelNodes a_t_levelIn a_t_above a_t_ordered a_t_parts t_nodes t_kinds t_levels t_size t_base t_best (upd t_isFree (x9).toNatClampNeg (vp_nar .boolean 1)) t_least t_levelArc t_levelWeight t_most t_row) H := hP
        have hD : va_D A (wd_Re_pass cI cZ a_t a_t_best a_t_isFree a_t_least a_t_levelArc a_t_levelWeight a_t_most a_t_row a_t_weight a_t_arcs a_t_split a_t_levelNodes a_t_levelIn a_t_above a_t_ordered a_t_parts t_nodes t_kinds t_levels t_size t_base t_best (upd t_isFree (x9).toNatClampNeg (vp_nar .boolean 1)) t_least t_levelArc t_levelWeight t_most t_row) := hD
        refine lv_aload_n hx hb dd_Re_pass_36 rfl (lv_at hl 0 rfl) ?_
        refine va_get (D := (dC, dI)) (ci := 9) (v := .ref a_t_best) (C := rr_Re) (T := tt_Re) (N := 20) hx hb hts (fun w h => gwc (inn_Re w h)) hown hK hP 0 rfl rfl 16 (by decide) (hts _ (gwc gw_719)) (fun _ h9 => h9) rfl dd_Re_pass_37 ?_
        refine lv_iload hx hb dd_Re_pass_40 (lv_at hl 5 rfl) ?_
        refine lv_aload_n hx hb dd_Re_pass_42 rfl (lv_at hl 0 rfl) ?_
        refine va_get (D := (dC, dI)) (ci := 9) (v := .ref a_t_row) (C := rr_Re) (T := tt_Re) (N := 20) hx hb hts (fun w h => gwc (inn_Re w h)) hown hK hP 0 rfl rfl 14 (by decide) (hts _ (gwc gw_717)) (fun _ h9 => h9) rfl dd_Re_pass_43 ?_
        refine lv_iload hx hb dd_Re_pass_46 (lv_at hl 5 rfl) ?_
        obtain ⟨k48, hf⟩ := ck_some hf
        refine va_iald hx hb hK hP 7 0 rfl rfl (okb_in k48) dd_Re_pass_48 ?_
        obtain ⟨k49, hf⟩ := ck_some hf
        refine va_iast hx hb hK hP hD hS 1 0 rfl rfl (okb_in k49) dd_Re_pass_49 (fun H locs hP hD hS => ?_)
        have hP : va_P (dC, dI) clsL (wd_Re_pass cI cZ a_t a_t_best a_t_isFree a_t_least a_t_levelArc a_t_levelWeight a_t_most a_t_row a_t_weight a_t_arcs a_t_split a_t_levelNodes a_t_levelIn a_t_above a_t_ordered a_t_parts t_nodes t_kinds t_levels t_size t_base (upd t_best (x9).toNatClampNeg (t_row (x9).toNatClampNeg)) (upd t_isFree (x9).toNatClampNeg (vp_nar .boolean 1)) t_least t_levelArc t_levelWeight t_most t_row) H := hP
        have hD : va_D A (wd_Re_pass cI cZ a_t a_t_best a_t_isFree a_t_least a_t_levelArc a_t_levelWeight a_t_most a_t_row a_t_weight a_t_arcs a_t_split a_t_levelNodes a_t_levelIn a_t_above a_t_ordered a_t_parts t_nodes t_kinds t_levels t_size t_base (upd t_best (x9).toNatClampNeg (t_row (x9).toNatClampNeg)) (upd t_isFree (x9).toNatClampNeg (vp_nar .boolean 1)) t_least t_levelArc t_levelWeight t_most t_row) := hD
        refine lv_iinc (v := x9 + 1) (lv' := [(9, .int (x9 + 1)), (0, .ref a_t), (1, .long x1), (3, .long x3), (5, .long x5), (7, .long x7)]) hx hb dd_Re_pass_50 hl (k := 5) rfl rfl (by decide) rfl (fun ls hl => ?_)
        refine lv_goto (tgt := 19) hx hb dd_Re_pass_53 (by decide) ?_
        exact ih19 x1 x3 x5 x7 (x9 + 1) (upd t_best (x9).toNatClampNeg (t_row (x9).toNatClampNeg)) (upd t_isFree (x9).toNatClampNeg (vp_nar .boolean 1)) _ _ _ hf (lv_sub hl [1, 2, 3, 4, 5, 0] rfl) hP hD hS
  refine lv_aload_n hx hb dd_Re_pass_0 rfl (lv_at hl 0 rfl) ?_
  obtain ⟨r1, hr1, hf⟩ := bind_some hf
  refine xcalll (rest := []) (wc := (wd_Re_rowOver cI cZ a_t a_t_least a_t_levelWeight a_t_most a_t_row a_t_weight a_t_arcs a_t_split a_t_levelNodes a_t_levelArc a_t_levelIn a_t_isFree a_t_best a_t_above a_t_ordered a_t_parts t_nodes t_kinds t_levels t_size t_base t_least t_levelWeight t_most t_row)) (w1 := (wd_Re_rowOver cI cZ a_t a_t_least a_t_levelWeight a_t_most a_t_row a_t_weight a_t_arcs a_t_split a_t_levelNodes a_t_levelArc a_t_levelIn a_t_isFree a_t_best a_t_above a_t_ordered a_t_parts t_nodes t_kinds t_levels t_size t_base t_least t_levelWeight t_most t_row)) (wr := [(a_t_best, .inl (cI, 40, .inl t_best)), (a_t_isFree, .inl (cZ, 40, .inl t_isFree)), (a_t_levelArc, .inl (cI, 65600, .inl t_levelArc))]) (ws' := (wd_Re_pass cI cZ a_t a_t_best a_t_isFree a_t_least a_t_levelArc a_t_levelWeight a_t_most a_t_row a_t_weight a_t_arcs a_t_split a_t_levelNodes a_t_levelIn a_t_above a_t_ordered a_t_parts t_nodes t_kinds t_levels t_size t_base t_best t_isFree t_least t_levelArc t_levelWeight t_most t_row)) (va_runV (As := []) ⟨hx, hb, hml, hown, hts⟩ (c_Re_rowOver l dC dI cI cZ a_t a_t_least a_t_levelWeight a_t_most a_t_row a_t_weight a_t_arcs a_t_split a_t_levelNodes a_t_levelArc a_t_levelIn a_t_isFree a_t_best a_t_above a_t_ordered a_t_parts H.size t_nodes t_kinds t_levels t_size t_base t_least t_levelWeight t_most t_row r1 hr1) (cwV 0 hts (gV gw_862 gw_864 gw_40 gw_61 gw_865) rfl rfl rfl (yd_Re_rowOver) ⟨Nat.le_of_ble_eq_true rfl, Nat.le_of_ble_eq_true rfl⟩) (mkV hK (hP.sub (ws' := (wd_Re_rowOver cI cZ a_t a_t_least a_t_levelWeight a_t_most a_t_row a_t_weight a_t_arcs a_t_split a_t_levelNodes a_t_levelArc a_t_levelIn a_t_isFree a_t_best a_t_above a_t_ordered a_t_parts t_nodes t_kinds t_levels t_size t_base t_least t_levelWeight t_most t_row)) [0, 3, 5, 6, 7] rfl) (hD.sub (ws' := (wd_Re_rowOver cI cZ a_t a_t_least a_t_levelWeight a_t_most a_t_row a_t_weight a_t_arcs a_t_split a_t_levelNodes a_t_levelArc a_t_levelIn a_t_isFree a_t_best a_t_above a_t_ordered a_t_parts t_nodes t_kinds t_levels t_size t_base t_least t_levelWeight t_most t_row)) [0, 3, 5, 6, 7] (by decide) rfl) hN (va_recv hK hP (ci := 9) (q0 := 0) rfl rfl)) rfl rfl hl.1 rfl (lv_room (Nat.le_of_ble_eq_true rfl)) dd_Re_pass_1 ⟨Nat.zero_le _, Nat.zero_le _⟩) hP hD hS hA [0, 3, 5, 6, 7] [1, 2, 4] [3, 0, 1, 4, 2, 5, 6, 7] rfl rfl (by decide) (by decide) rfl (by decide) rfl (fun H locs hP hD hS => ?_)
  refine lv_lstore_n (lv' := [(1, .long r1), (0, .ref a_t)]) hx hb dd_Re_pass_4 rfl hl (by decide) rfl (fun ls hl => ?_)
  refine lv_aload_n hx hb dd_Re_pass_5 rfl (lv_at hl 1 rfl) ?_
  obtain ⟨r6, hr6, hf⟩ := bind_some hf
  refine xcalll (rest := []) (wc := (wd_Re_rowCut cI cZ a_t a_t_levelArc a_t_row a_t_weight a_t_arcs a_t_split a_t_least a_t_most a_t_levelNodes a_t_levelWeight a_t_levelIn a_t_isFree a_t_best a_t_above a_t_ordered a_t_parts t_nodes t_kinds t_levels t_size t_base t_levelArc t_row)) (w1 := (wd_Re_rowCut cI cZ a_t a_t_levelArc a_t_row a_t_weight a_t_arcs a_t_split a_t_least a_t_most a_t_levelNodes a_t_levelWeight a_t_levelIn a_t_isFree a_t_best a_t_above a_t_ordered a_t_parts t_nodes t_kinds t_levels t_size t_base t_levelArc t_row)) (wr := [(a_t_best, .inl (cI, 40, .inl t_best)), (a_t_isFree, .inl (cZ, 40, .inl t_isFree)), (a_t_least, .inl (cI, 4, .inl t_least)), (a_t_levelWeight, .inl (cI, 1640, .inl t_levelWeight)), (a_t_most, .inl (cI, 4, .inl t_most))]) (ws' := (wd_Re_pass cI cZ a_t a_t_best a_t_isFree a_t_least a_t_levelArc a_t_levelWeight a_t_most a_t_row a_t_weight a_t_arcs a_t_split a_t_levelNodes a_t_levelIn a_t_above a_t_ordered a_t_parts t_nodes t_kinds t_levels t_size t_base t_best t_isFree t_least t_levelArc t_levelWeight t_most t_row)) (va_runV (As := []) ⟨hx, hb, hml, hown, hts⟩ (c_Re_rowCut l dC dI cI cZ a_t a_t_levelArc a_t_row a_t_weight a_t_arcs a_t_split a_t_least a_t_most a_t_levelNodes a_t_levelWeight a_t_levelIn a_t_isFree a_t_best a_t_above a_t_ordered a_t_parts H.size t_nodes t_kinds t_levels t_size t_base t_levelArc t_row r6 hr6) (cwV 0 hts (gV gw_850 gw_852 gw_38 gw_61 gw_853) rfl rfl rfl (yd_Re_rowCut) ⟨Nat.le_of_ble_eq_true rfl, Nat.le_of_ble_eq_true rfl⟩) (mkV hK (hP.sub (ws' := (wd_Re_rowCut cI cZ a_t a_t_levelArc a_t_row a_t_weight a_t_arcs a_t_split a_t_least a_t_most a_t_levelNodes a_t_levelWeight a_t_levelIn a_t_isFree a_t_best a_t_above a_t_ordered a_t_parts t_nodes t_kinds t_levels t_size t_base t_levelArc t_row)) [0, 4, 7] rfl) (hD.sub (ws' := (wd_Re_rowCut cI cZ a_t a_t_levelArc a_t_row a_t_weight a_t_arcs a_t_split a_t_least a_t_most a_t_levelNodes a_t_levelWeight a_t_levelIn a_t_isFree a_t_best a_t_above a_t_ordered a_t_parts t_nodes t_kinds t_levels t_size t_base t_levelArc t_row)) [0, 4, 7] (by decide) rfl) hN (va_recv hK hP (ci := 9) (q0 := 0) rfl rfl)) rfl rfl hl.1 rfl (lv_room (Nat.le_of_ble_eq_true rfl)) dd_Re_pass_6 ⟨Nat.zero_le _, Nat.zero_le _⟩) hP hD hS hA [0, 4, 7] [1, 2, 3, 5, 6] [5, 0, 1, 2, 6, 3, 4, 7] rfl rfl (by decide) (by decide) rfl (by decide) rfl (fun H locs hP hD hS => ?_)
  refine lv_lstore_n (lv' := [(3, .long r6), (1, .long r1), (0, .ref a_t)]) hx hb dd_Re_pass_9 rfl hl (by decide) rfl (fun ls hl => ?_)
  refine lv_lload_n hx hb dd_Re_pass_10 rfl (lv_at hl 1 rfl) ?_
  refine lv_lstore (lv' := [(5, .long r1), (3, .long r6), (1, .long r1), (0, .ref a_t)]) hx hb dd_Re_pass_11 hl (by decide) rfl (fun ls hl => ?_)
  refine lv_lload_n hx hb dd_Re_pass_13 rfl (lv_at hl 1 rfl) ?_
  refine lv_lstore (lv' := [(7, .long r6), (5, .long r1), (3, .long r6), (1, .long r1), (0, .ref a_t)]) hx hb dd_Re_pass_14 hl (by decide) rfl (fun ls hl => ?_)
  refine lv_iconst (v := 0) hx hb dd_Re_pass_16 (by decide) ?_
  refine lv_istore (lv' := [(9, .int 0), (7, .long r6), (5, .long r1), (3, .long r6), (1, .long r1), (0, .ref a_t)]) hx hb dd_Re_pass_17 hl (by decide) rfl (fun ls hl => ?_)
  exact h19 64 r1 r6 r1 r6 0 t_best t_isFree _ _ _ hf (lv_sub hl [5, 4, 3, 2, 1, 0] rfl) hP hD hS
abbrev wd_Re_passes (cI cZ : ClassId) (a_t a_t_best a_t_isFree a_t_least a_t_levelArc a_t_levelWeight a_t_most a_t_row a_t_weight a_t_arcs a_t_split a_t_levelNodes a_t_levelIn a_t_above a_t_ordered a_t_parts : Nat) (t_nodes : Int32) (t_kinds : Int32) (t_levels : Int32) (t_size : Int32) (t_base : Int32) (t_best : Nat → Int32) (t_isFree : Nat → Int32) (t_least : Nat → Int32) (t_levelArc : Nat → Int32) (t_levelWeight : Nat → Int32) (t_most : Nat → Int32) (t_row : Nat → Int32) : va_W := [(a_t, .inr (9, [.int t_nodes, .int t_kinds, .ref a_t_weight, .ref a_t_arcs, .ref a_t_split, .ref a_t_least, .ref a_t_most, .int t_levels, .ref a_t_levelNodes, .ref a_t_levelWeight, .ref a_t_levelArc, .ref a_t_levelIn, .int t_size, .int t_base, .ref a_t_row, .ref a_t_isFree, .ref a_t_best, .ref a_t_above, .ref a_t_ordered, .ref a_t_parts])), (a_t_best, .inl (cI, 40, .inl t_best)), (a_t_isFree, .inl (cZ, 40, .inl t_isFree)), (a_t_least, .inl (cI, 4, .inl t_least)), (a_t_levelArc, .inl (cI, 65600, .inl t_levelArc)), (a_t_levelWeight, .inl (cI, 1640, .inl t_levelWeight)), (a_t_most, .inl (cI, 4, .inl t_most)), (a_t_row, .inl (cI, 40, .inl t_row))]
set_option maxRecDepth 100000 in
set_option maxHeartbeats 4000000 in
theorem c_Re_passes (l : Launch) (dC : Nat → ClassId) (dI : Nat → Nat → Nat) (cI cZ : ClassId) (a_t a_t_best a_t_isFree a_t_least a_t_levelArc a_t_levelWeight a_t_most a_t_row a_t_weight a_t_arcs a_t_split a_t_levelNodes a_t_levelIn a_t_above a_t_ordered a_t_parts sz : Nat) (t_nodes : Int32) (t_kinds : Int32) (t_levels : Int32) (t_size : Int32) (t_base : Int32) (t_best : Nat → Int32) (t_isFree : Nat → Int32) (t_least : Nat → Int32) (t_levelArc : Nat → Int32) (t_levelWeight : Nat → Int32) (t_most : Nat → Int32) (t_row : Nat → Int32) (out : Int32 × (Nat → Int32) × (Nat → Int32) × (Nat → Int32)) (hf : f_Re_passes t_kinds t_size t_base t_best t_isFree t_least t_levelArc t_levelWeight t_most t_row = some out) :
    Met l yy_Re_passes wq_Re_passes ({ frames := 4, cells := 0, slots := 0, locals := 114 }) (va_Pc ([.ref a_t] : List Value) (pre_ (dC, dI) cI cZ sz (wd_Re_passes cI cZ a_t a_t_best a_t_isFree a_t_least a_t_levelArc a_t_levelWeight a_t_most a_t_row a_t_weight a_t_arcs a_t_split a_t_levelNodes a_t_levelIn a_t_above a_t_ordered a_t_parts t_nodes t_kinds t_levels t_size t_base t_best t_isFree t_least t_levelArc t_levelWeight t_most t_row))) (va_Qi (fun (r : Int32) (_ : Unit) => r = out.1) (fun _ => pst (dC, dI) (va_A (wd_Re_passes cI cZ a_t a_t_best a_t_isFree a_t_least a_t_levelArc a_t_levelWeight a_t_most a_t_row a_t_weight a_t_arcs a_t_split a_t_levelNodes a_t_levelIn a_t_above a_t_ordered a_t_parts t_nodes t_kinds t_levels t_size t_base t_best t_isFree t_least t_levelArc t_levelWeight t_most t_row) sz) (wd_Re_passes cI cZ a_t a_t_best a_t_isFree a_t_least a_t_levelArc a_t_levelWeight a_t_most a_t_row a_t_weight a_t_arcs a_t_split a_t_levelNodes a_t_levelIn a_t_above a_t_ordered a_t_parts t_nodes t_kinds t_levels t_size t_base out.2.1 out.2.2.1 t_least t_levelArc t_levelWeight t_most out.2.2.2)) (va_A (wd_Re_passes cI cZ a_t a_t_best a_t_isFree a_t_least a_t_levelArc a_t_levelWeight a_t_most a_t_row a_t_weight a_t_arcs a_t_split a_t_levelNodes a_t_levelIn a_t_above a_t_ordered a_t_parts t_nodes t_kinds t_levels t_size t_base t_best t_isFree t_least t_levelArc t_levelWeight t_most t_row) sz)) 0 0 (va_A (wd_Re_passes cI cZ a_t a_t_best a_t_isFree a_t_least a_t_levelArc a_t_levelWeight a_t_most a_t_row a_t_weight a_t_arcs a_t_split a_t_levelNodes a_t_levelIn a_t_above a_t_ordered a_t_parts t_nodes t_kinds t_levels t_size t_base t_best t_isFree t_least t_levelArc t_levelWeight t_most t_row) sz) := by
  refine Met.ofW (cc := cc_Re_passes) (maxL := 2) (ret := (some .int)) (by decide) rfl ?_
  intro p e s m args below meth c s₁ B hml hv
  obtain ⟨rfl, hsz, hP, hK, hD0, hN⟩ := hv
  have hx := B.exec
  have hb := B.bytes
  have hr := B.returns
  have hts := atoms_spec (ws := wq_Re_passes) B.pre
  have hown : s.vm.findClass rr_Re = some m.cls := findClass_of_methodNamed B.named
  have hlocks := B.notSynchronized
  subst hsz
  have hD := hD0.self (sz := s.heap.size)
  generalize hAe : va_A (wd_Re_passes cI cZ a_t a_t_best a_t_isFree a_t_least a_t_levelArc a_t_levelWeight a_t_most a_t_row a_t_weight a_t_arcs a_t_split a_t_levelNodes a_t_levelIn a_t_above a_t_ordered a_t_parts t_nodes t_kinds t_levels t_size t_base t_best t_isFree t_least t_levelArc t_levelWeight t_most t_row) s.heap.size = A at hD ⊢
  have hA : ∀ q : Nat, s.heap.size ≤ q → A q := fun q h => by rw [← hAe]; exact Or.inr h
  obtain ⟨H, hH⟩ : ∃ H : Heap, H = s.heap := ⟨_, rfl⟩
  have hS : va_S A s.heap H [] := by rw [hH]; exact va_S.rf
  have hl := lv_entry (([.ref a_t] : List Value)) (n := 2) (Nat.le_of_ble_eq_true rfl)
  rw [lg_entry_eq]
  generalize (lg_sl (([.ref a_t] : List Value)) ++ List.replicate (2 - (lg_sl (([.ref a_t] : List Value))).length) Slot.unset).toArray = ls at hl ⊢
  have hl : lv_has ls 2 [(0, .ref a_t)] := hl
  rw [← hH] at hP ⊢
  have hP : va_P (dC, dI) clsL (wd_Re_passes cI cZ a_t a_t_best a_t_isFree a_t_least a_t_levelArc a_t_levelWeight a_t_most a_t_row a_t_weight a_t_arcs a_t_split a_t_levelNodes a_t_levelIn a_t_above a_t_ordered a_t_parts t_nodes t_kinds t_levels t_size t_base t_best t_isFree t_least t_levelArc t_levelWeight t_most t_row) H := hP
  unfold f_Re_passes at hf
  have h2 : ∀ (n2 : Nat) (x1 : Int32) (t_best : Nat → Int32) (t_isFree : Nat → Int32) (t_row : Nat → Int32) (ls : Array Slot) (H : Heap) (locs : List Loc), L_Re_passes_2 t_kinds t_size t_base t_least t_levelArc t_levelWeight t_most n2 x1 t_best t_isFree t_row = some out → lv_has ls 2 [(0, .ref a_t), (1, .int x1)] → va_P (dC, dI) clsL (wd_Re_passes cI cZ a_t a_t_best a_t_isFree a_t_least a_t_levelArc a_t_levelWeight a_t_most a_t_row a_t_weight a_t_arcs a_t_split a_t_levelNodes a_t_levelIn a_t_above a_t_ordered a_t_parts t_nodes t_kinds t_levels t_size t_base t_best t_isFree t_least t_levelArc t_levelWeight t_most t_row) H → va_D A (wd_Re_passes cI cZ a_t a_t_best a_t_isFree a_t_least a_t_levelArc a_t_levelWeight a_t_most a_t_row a_t_weight a_t_arcs a_t_split a_t_levelNodes a_t_levelIn a_t_above a_t_ordered a_t_parts t_nodes t_kinds t_levels t_size t_base t_best t_isFree t_least t_levelArc t_levelWeight t_most t_row) → va_S A s.heap H locs → W p l e (headSpec wq_Re_passes ({ frames := 4, cells := 0, slots := 0, locals := 114 })).room s m ([.ref a_t] : List Value).toArray below meth c H locs 0 0 (MQ below (va_Qi (fun (r : Int32) (_ : Unit) => r = out.1) (fun _ => pst (dC, dI) A (wd_Re_passes cI cZ a_t a_t_best a_t_isFree a_t_least a_t_levelArc a_t_levelWeight a_t_most a_t_row a_t_weight a_t_arcs a_t_split a_t_levelNodes a_t_levelIn a_t_above a_t_ordered a_t_parts t_nodes t_kinds t_levels t_size t_base out.2.1 out.2.2.1 t_least t_levelArc t_levelWeight t_most out.2.2.2)) A) ([.ref a_t] : List Value).toArray s 0 0 A) (F0 m 2 ls []) := by
    intro n2
    induction n2 with
    | zero =>
      intro x1 t_best t_isFree t_row ls H locs hf
      rw [L_Re_passes_2] at hf
      exact absurd hf (fun h => by cases h)
    | succ n2 ih2 =>
      intro x1 t_best t_isFree t_row ls H locs hf hl hP hD hS
      rw [L_Re_passes_2] at hf
      refine lv_iload_n hx hb dd_Re_passes_2 rfl (lv_at hl 1 rfl) ?_
      refine lv_bipush (v := 8) hx hb dd_Re_passes_3 (by decide) ?_
      refine lv_icmp_ge (tgt := 21) hx hb dd_Re_passes_5 (by decide) (fun cc => ?_) (fun cc => ?_)
      · skip
        have hf := if_t cc hf
        refine lv_iload_n hx hb dd_Re_passes_21 rfl (lv_at hl 1 rfl) ?_
        have hf := Option.some.inj hf
        subst hf
        exact W.iret hx hb hr (fun t ht hW => ⟨⟨_, (), rfl, rfl, pst_of ht hP hD⟩, hS.F ht⟩) hS.2.2 dd_Re_passes_22
      · skip
        have hf := if_f cc hf
        refine lv_aload_n hx hb dd_Re_passes_8 rfl (lv_at hl 0 rfl) ?_
        obtain ⟨r9, hr9, hf⟩ := bind_some hf
        refine xcalli (rest := []) (wc := (wd_Re_pass cI cZ a_t a_t_best a_t_isFree a_t_least a_t_levelArc a_t_levelWeight a_t_most a_t_row a_t_weight a_t_arcs a_t_split a_t_levelNodes a_t_levelIn a_t_above a_t_ordered a_t_parts t_nodes t_kinds t_levels t_size t_base t_best t_isFree t_least t_levelArc t_levelWeight t_most t_row)) (w1 := (wd_Re_pass cI cZ a_t a_t_best a_t_isFree a_t_least a_t_levelArc a_t_levelWeight a_t_most a_t_row a_t_weight a_t_arcs a_t_split a_t_levelNodes a_t_levelIn a_t_above a_t_ordered a_t_parts t_nodes t_kinds t_levels t_size t_base r9.2.1 r9.2.2.1 t_least t_levelArc t_levelWeight t_most r9.2.2.2)) (wr := []) (ws' := (wd_Re_passes cI cZ a_t a_t_best a_t_isFree a_t_least a_t_levelArc a_t_levelWeight a_t_most a_t_row a_t_weight a_t_arcs a_t_split a_t_levelNodes a_t_levelIn a_t_above a_t_ordered a_t_parts t_nodes t_kinds t_levels t_size t_base r9.2.1 r9.2.2.1 t_least t_levelArc t_levelWeight t_most r9.2.2.2)) (va_runV (As := []) ⟨hx, hb, hml, hown, hts⟩ (c_Re_pass l dC dI cI cZ a_t a_t_best a_t_isFree a_t_least a_t_levelArc a_t_levelWeight a_t_most a_t_row a_t_weight a_t_arcs a_t_split a_t_levelNodes a_t_levelIn a_t_above a_t_ordered a_t_parts H.size t_nodes t_kinds t_levels t_size t_base t_best t_isFree t_least t_levelArc t_levelWeight t_most t_row r9 hr9) (cwV 0 hts (gV gw_891 gw_893 gw_45 gw_61 gw_894) rfl rfl rfl (yd_Re_pass) ⟨Nat.le_of_ble_eq_true rfl, Nat.le_of_ble_eq_true rfl⟩) (mkV hK (hP.sub (ws' := (wd_Re_pass cI cZ a_t a_t_best a_t_isFree a_t_least a_t_levelArc a_t_levelWeight a_t_most a_t_row a_t_weight a_t_arcs a_t_split a_t_levelNodes a_t_levelIn a_t_above a_t_ordered a_t_parts t_nodes t_kinds t_levels t_size t_base t_best t_isFree t_least t_levelArc t_levelWeight t_most t_row)) [0, 1, 2, 3, 4, 5, 6, 7] rfl) (hD.sub (ws' := (wd_Re_pass cI cZ a_t a_t_best a_t_isFree a_t_least a_t_levelArc a_t_levelWeight a_t_most a_t_row a_t_weight a_t_arcs a_t_split a_t_levelNodes a_t_levelIn a_t_above a_t_ordered a_t_parts t_nodes t_kinds t_levels t_size t_base t_best t_isFree t_least t_levelArc t_levelWeight t_most t_row)) [0, 1, 2, 3, 4, 5, 6, 7] (by decide) rfl) hN (va_recv hK hP (ci := 9) (q0 := 0) rfl rfl)) rfl rfl hl.1 rfl (lv_room (Nat.le_of_ble_eq_true rfl)) dd_Re_passes_9 ⟨Nat.zero_le _, Nat.zero_le _⟩) hP hD hS hA [0, 1, 2, 3, 4, 5, 6, 7] [] [0, 1, 2, 3, 4, 5, 6, 7] rfl rfl (by decide) (by decide) rfl (by decide) rfl (fun H locs hP hD hS => ?_)
        refine lv_if_eq (tgt := 21) hx hb dd_Re_passes_12 (by decide) (fun cc => ?_) (fun cc => ?_)
        · skip
          have hf := if_t cc hf
          refine lv_iload_n hx hb dd_Re_passes_21 rfl (lv_at hl 1 rfl) ?_
          have hf := Option.some.inj hf
          subst hf
          exact W.iret hx hb hr (fun t ht hW => ⟨⟨_, (), rfl, rfl, pst_of ht hP hD⟩, hS.F ht⟩) hS.2.2 dd_Re_passes_22
        · skip
          have hf := if_f cc hf
          refine lv_iinc (v := x1 + 1) (lv' := [(1, .int (x1 + 1)), (0, .ref a_t)]) hx hb dd_Re_passes_15 hl (k := 1) rfl rfl (by decide) rfl (fun ls hl => ?_)
          refine lv_goto (tgt := 2) hx hb dd_Re_passes_18 (by decide) ?_
          exact ih2 (x1 + 1) r9.2.1 r9.2.2.1 r9.2.2.2 _ _ _ hf (lv_sub hl [1, 0] rfl) hP hD hS
  refine lv_iconst (v := 0) hx hb dd_Re_passes_0 (by decide) ?_
  refine lv_istore_n (lv' := [(1, .int 0), (0, .ref a_t)]) hx hb dd_Re_passes_1 rfl hl (by decide) rfl (fun ls hl => ?_)
  exact h2 64 0 t_best t_isFree t_row _ _ _ hf (lv_sub hl [1, 0] rfl) hP hD hS
abbrev wd_Re_grows (cI cZ : ClassId) (a_t a_t_isFree a_t_levelWeight a_t_most a_t_row a_t_weight a_t_arcs a_t_split a_t_least a_t_levelNodes a_t_levelArc a_t_levelIn a_t_best a_t_above a_t_ordered a_t_parts : Nat) (t_nodes : Int32) (t_kinds : Int32) (t_levels : Int32) (t_size : Int32) (t_base : Int32) (t_isFree : Nat → Int32) (t_levelWeight : Nat → Int32) (t_most : Nat → Int32) (t_row : Nat → Int32) : va_W := [(a_t, .inr (9, [.int t_nodes, .int t_kinds, .ref a_t_weight, .ref a_t_arcs, .ref a_t_split, .ref a_t_least, .ref a_t_most, .int t_levels, .ref a_t_levelNodes, .ref a_t_levelWeight, .ref a_t_levelArc, .ref a_t_levelIn, .int t_size, .int t_base, .ref a_t_row, .ref a_t_isFree, .ref a_t_best, .ref a_t_above, .ref a_t_ordered, .ref a_t_parts])), (a_t_isFree, .inl (cZ, 40, .inl t_isFree)), (a_t_levelWeight, .inl (cI, 1640, .inl t_levelWeight)), (a_t_most, .inl (cI, 4, .inl t_most)), (a_t_row, .inl (cI, 40, .inl t_row))]
set_option maxRecDepth 100000 in
set_option maxHeartbeats 4000000 in
theorem c_Re_grows (l : Launch) (dC : Nat → ClassId) (dI : Nat → Nat → Nat) (cI cZ : ClassId) (a_t a_t_isFree a_t_levelWeight a_t_most a_t_row a_t_weight a_t_arcs a_t_split a_t_least a_t_levelNodes a_t_levelArc a_t_levelIn a_t_best a_t_above a_t_ordered a_t_parts sz : Nat) (t_nodes : Int32) (t_kinds : Int32) (t_levels : Int32) (t_size : Int32) (t_base : Int32) (t_isFree : Nat → Int32) (t_levelWeight : Nat → Int32) (t_most : Nat → Int32) (t_row : Nat → Int32) (out : (Nat → Int32) × (Nat → Int32)) (hf : f_Re_grows t_kinds t_size t_base t_isFree t_levelWeight t_most t_row = some out) :
    Met l yy_Re_grows wq_Re_grows ({ frames := 2, cells := 0, slots := 0, locals := 45 }) (va_Pc ([.ref a_t] : List Value) (pre_ (dC, dI) cI cZ sz (wd_Re_grows cI cZ a_t a_t_isFree a_t_levelWeight a_t_most a_t_row a_t_weight a_t_arcs a_t_split a_t_least a_t_levelNodes a_t_levelArc a_t_levelIn a_t_best a_t_above a_t_ordered a_t_parts t_nodes t_kinds t_levels t_size t_base t_isFree t_levelWeight t_most t_row))) (va_Qv (fun _ : Unit => True) (fun _ => pst (dC, dI) (va_A (wd_Re_grows cI cZ a_t a_t_isFree a_t_levelWeight a_t_most a_t_row a_t_weight a_t_arcs a_t_split a_t_least a_t_levelNodes a_t_levelArc a_t_levelIn a_t_best a_t_above a_t_ordered a_t_parts t_nodes t_kinds t_levels t_size t_base t_isFree t_levelWeight t_most t_row) sz) (wd_Re_grows cI cZ a_t a_t_isFree a_t_levelWeight a_t_most a_t_row a_t_weight a_t_arcs a_t_split a_t_least a_t_levelNodes a_t_levelArc a_t_levelIn a_t_best a_t_above a_t_ordered a_t_parts t_nodes t_kinds t_levels t_size t_base out.1 t_levelWeight t_most out.2)) (va_A (wd_Re_grows cI cZ a_t a_t_isFree a_t_levelWeight a_t_most a_t_row a_t_weight a_t_arcs a_t_split a_t_least a_t_levelNodes a_t_levelArc a_t_levelIn a_t_best a_t_above a_t_ordered a_t_parts t_nodes t_kinds t_levels t_size t_base t_isFree t_levelWeight t_most t_row) sz)) 0 0 (va_A (wd_Re_grows cI cZ a_t a_t_isFree a_t_levelWeight a_t_most a_t_row a_t_weight a_t_arcs a_t_split a_t_least a_t_levelNodes a_t_levelArc a_t_levelIn a_t_best a_t_above a_t_ordered a_t_parts t_nodes t_kinds t_levels t_size t_base t_isFree t_levelWeight t_most t_row) sz) := by
  refine Met.ofW (cc := cc_Re_grows) (maxL := 5) (ret := none) (by decide) rfl ?_
  intro p e s m args below meth c s₁ B hml hv
  obtain ⟨rfl, hsz, hP, hK, hD0, hN⟩ := hv
  have hx := B.exec
  have hb := B.bytes
  have hr := B.returns
  have hts := atoms_spec (ws := wq_Re_grows) B.pre
  have hown : s.vm.findClass rr_Re = some m.cls := findClass_of_methodNamed B.named
  have hlocks := B.notSynchronized
  subst hsz
  have hD := hD0.self (sz := s.heap.size)
  generalize hAe : va_A (wd_Re_grows cI cZ a_t a_t_isFree a_t_levelWeight a_t_most a_t_row a_t_weight a_t_arcs a_t_split a_t_least a_t_levelNodes a_t_levelArc a_t_levelIn a_t_best a_t_above a_t_ordered a_t_parts t_nodes t_kinds t_levels t_size t_base t_isFree t_levelWeight t_most t_row) s.heap.size = A at hD ⊢
  have hA : ∀ q : Nat, s.heap.size ≤ q → A q := fun q h => by rw [← hAe]; exact Or.inr h
  obtain ⟨H, hH⟩ : ∃ H : Heap, H = s.heap := ⟨_, rfl⟩
  have hS : va_S A s.heap H [] := by rw [hH]; exact va_S.rf
  have hl := lv_entry (([.ref a_t] : List Value)) (n := 5) (Nat.le_of_ble_eq_true rfl)
  rw [lg_entry_eq]
  generalize (lg_sl (([.ref a_t] : List Value)) ++ List.replicate (5 - (lg_sl (([.ref a_t] : List Value))).length) Slot.unset).toArray = ls at hl ⊢
  have hl : lv_has ls 5 [(0, .ref a_t)] := hl
  rw [← hH] at hP ⊢
  have hP : va_P (dC, dI) clsL (wd_Re_grows cI cZ a_t a_t_isFree a_t_levelWeight a_t_most a_t_row a_t_weight a_t_arcs a_t_split a_t_least a_t_levelNodes a_t_levelArc a_t_levelIn a_t_best a_t_above a_t_ordered a_t_parts t_nodes t_kinds t_levels t_size t_base t_isFree t_levelWeight t_most t_row) H := hP
  unfold f_Re_grows at hf
  have h2 : ∀ (n2 : Nat) (x1 : Int32) (t_isFree : Nat → Int32) (t_row : Nat → Int32) (ls : Array Slot) (H : Heap) (locs : List Loc), L_Re_grows_2 t_kinds t_size t_base t_levelWeight t_most n2 x1 t_isFree t_row = some out → lv_has ls 5 [(0, .ref a_t), (1, .int x1)] → va_P (dC, dI) clsL (wd_Re_grows cI cZ a_t a_t_isFree a_t_levelWeight a_t_most a_t_row a_t_weight a_t_arcs a_t_split a_t_least a_t_levelNodes a_t_levelArc a_t_levelIn a_t_best a_t_above a_t_ordered a_t_parts t_nodes t_kinds t_levels t_size t_base t_isFree t_levelWeight t_most t_row) H → va_D A (wd_Re_grows cI cZ a_t a_t_isFree a_t_levelWeight a_t_most a_t_row a_t_weight a_t_arcs a_t_split a_t_least a_t_levelNodes a_t_levelArc a_t_levelIn a_t_best a_t_above a_t_ordered a_t_parts t_nodes t_kinds t_levels t_size t_base t_isFree t_levelWeight t_most t_row) → va_S A s.heap H locs → W p l e (headSpec wq_Re_grows ({ frames := 2, cells := 0, slots := 0, locals := 45 })).room s m ([.ref a_t] : List Value).toArray below meth c H locs 0 0 (MQ below (va_Qv (fun _ : Unit => True) (fun _ => pst (dC, dI) A (wd_Re_grows cI cZ a_t a_t_isFree a_t_levelWeight a_t_most a_t_row a_t_weight a_t_arcs a_t_split a_t_least a_t_levelNodes a_t_levelArc a_t_levelIn a_t_best a_t_above a_t_ordered a_t_parts t_nodes t_kinds t_levels t_size t_base out.1 t_levelWeight t_most out.2)) A) ([.ref a_t] : List Value).toArray s 0 0 A) (F0 m 2 ls []) := by
    intro n2
    induction n2 with
    | zero =>
      intro x1 t_isFree t_row ls H locs hf
      rw [L_Re_grows_2] at hf
      exact absurd hf (fun h => by cases h)
    | succ n2 ih2 =>
      intro x1 t_isFree t_row ls H locs hf hl hP hD hS
      rw [L_Re_grows_2] at hf
      have h32 : ∀ (n32 : Nat) (x1 : Int32) (t_isFree : Nat → Int32) (t_row : Nat → Int32) (ls : Array Slot) (H : Heap) (locs : List Loc), L_Re_grows_32 t_kinds t_size t_base t_levelWeight t_most n32 x1 t_isFree t_row = some out → lv_has ls 5 [(0, .ref a_t), (1, .int x1)] → va_P (dC, dI) clsL (wd_Re_grows cI cZ a_t a_t_isFree a_t_levelWeight a_t_most a_t_row a_t_weight a_t_arcs a_t_split a_t_least a_t_levelNodes a_t_levelArc a_t_levelIn a_t_best a_t_above a_t_ordered a_t_parts t_nodes t_kinds t_levels t_size t_base t_isFree t_levelWeight t_most t_row) H → va_D A (wd_Re_grows cI cZ a_t a_t_isFree a_t_levelWeight a_t_most a_t_row a_t_weight a_t_arcs a_t_split a_t_least a_t_levelNodes a_t_levelArc a_t_levelIn a_t_best a_t_above a_t_ordered a_t_parts t_nodes t_kinds t_levels t_size t_base t_isFree t_levelWeight t_most t_row) → va_S A s.heap H locs → W p l e (headSpec wq_Re_grows ({ frames := 2, cells := 0, slots := 0, locals := 45 })).room s m ([.ref a_t] : List Value).toArray below meth c H locs 0 0 (MQ below (va_Qv (fun _ : Unit => True) (fun _ => pst (dC, dI) A (wd_Re_grows cI cZ a_t a_t_isFree a_t_levelWeight a_t_most a_t_row a_t_weight a_t_arcs a_t_split a_t_least a_t_levelNodes a_t_levelArc a_t_levelIn a_t_best a_t_above a_t_ordered a_t_parts t_nodes t_kinds t_levels t_size t_base out.1 t_levelWeight t_most out.2)) A) ([.ref a_t] : List Value).toArray s 0 0 A) (F0 m 32 ls []) := by
        intro n32
        induction n32 with
        | zero =>
          intro x1 t_isFree t_row ls H locs hf
          rw [L_Re_grows_32] at hf
          exact absurd hf (fun h => by cases h)
        | succ n32 ih32 =>
          intro x1 t_isFree t_row ls H locs hf hl hP hD hS
          rw [L_Re_grows_32] at hf
          have h44 : ∀ (n44 : Nat) (x1 : Int32) (x2 : Int32) (x3 : Int32) (t_isFree : Nat → Int32) (t_row : Nat → Int32) (ls : Array Slot) (H : Heap) (locs : List Loc), L_Re_grows_44 t_kinds t_size t_base t_levelWeight t_most (L_Re_grows_32 t_kinds t_size t_base t_levelWeight t_most n32) n44 x1 x2 x3 t_isFree t_row = some out → lv_has ls 5 [(0, .ref a_t), (1, .int x1), (2, .int x2), (3, .int x3)] → va_P (dC, dI) clsL (wd_Re_grows cI cZ a_t a_t_isFree a_t_levelWeight a_t_most a_t_row a_t_weight a_t_arcs a_t_split a_t_least a_t_levelNodes a_t_levelArc a_t_levelIn a_t_best a_t_above a_t_ordered a_t_parts t_nodes t_kinds t_levels t_size t_base t_isFree t_levelWeight t_most t_row) H → va_D A (wd_Re_grows cI cZ a_t a_t_isFree a_t_levelWeight a_t_most a_t_row a_t_weight a_t_arcs a_t_split a_t_least a_t_levelNodes a_t_levelArc a_t_levelIn a_t_best a_t_above a_t_ordered a_t_parts t_nodes t_kinds t_levels t_size t_base t_isFree t_levelWeight t_most t_row) → va_S A s.heap H locs → W p l e (headSpec wq_Re_grows ({ frames := 2, cells := 0, slots := 0, locals := 45 })).room s m ([.ref a_t] : List Value).toArray below meth c H locs 0 0 (MQ below (va_Qv (fun _ : Unit => True) (fun _ => pst (dC, dI) A (wd_Re_grows cI cZ a_t a_t_isFree a_t_levelWeight a_t_most a_t_row a_t_weight a_t_arcs a_t_split a_t_least a_t_levelNodes a_t_levelArc a_t_levelIn a_t_best a_t_above a_t_ordered a_t_parts t_nodes t_kinds t_levels t_size t_base out.1 t_levelWeight t_most out.2)) A) ([.ref a_t] : List Value).toArray s 0 0 A) (F0 m 44 ls []) := by
            intro n44
            induction n44 with
            | zero =>
              intro x1 x2 x3 t_isFree t_row ls H locs hf
              rw [L_Re_grows_44] at hf
              exact absurd hf (fun h => by cases h)
            | succ n44 ih44 =>
              intro x1 x2 x3 t_isFree t_row ls H locs hf hl hP hD hS
              rw [L_Re_grows_44] at hf
              have h91 : ∀ (n91 : Nat) (x1 : Int32) (x2 : Int32) (x3 : Int32) (x4 : Int32) (t_isFree : Nat → Int32) (t_row : Nat → Int32) (ls : Array Slot) (H : Heap) (locs : List Loc), L_Re_grows_91 t_kinds t_size t_base t_levelWeight t_most (L_Re_grows_32 t_kinds t_size t_base t_levelWeight t_most n32) n91 x1 x2 x3 x4 t_isFree t_row = some out → lv_has ls 5 [(0, .ref a_t), (1, .int x1), (2, .int x2), (3, .int x3), (4, .int x4)] → va_P (dC, dI) clsL (wd_Re_grows cI cZ a_t a_t_isFree a_t_levelWeight a_t_most a_t_row a_t_weight a_t_arcs a_t_split a_t_least a_t_levelNodes a_t_levelArc a_t_levelIn a_t_best a_t_above a_t_ordered a_t_parts t_nodes t_kinds t_levels t_size t_base t_isFree t_levelWeight t_most t_row) H → va_D A (wd_Re_grows cI cZ a_t a_t_isFree a_t_levelWeight a_t_most a_t_row a_t_weight a_t_arcs a_t_split a_t_least a_t_levelNodes a_t_levelArc a_t_levelIn a_t_best a_t_above a_t_ordered a_t_parts t_nodes t_kinds t_levels t_size t_base t_isFree t_levelWeight t_most t_row) → va_S A s.heap H locs → W p l e (headSpec wq_Re_grows ({ frames := 2, cells := 0, slots := 0, locals := 45 })).room s m ([.ref a_t] : List Value).toArray below meth c H locs 0 0 (MQ below (va_Qv (fun _ : Unit => True) (fun _ => pst (dC, dI) A (wd_Re_grows cI cZ a_t a_t_isFree a_t_levelWeight a_t_most a_t_row a_t_weight a_t_arcs a_t_split a_t_least a_t_levelNodes a_t_levelArc a_t_levelIn a_t_best a_t_above a_t_ordered a_t_parts t_nodes t_kinds t_levels t_size t_base out.1 t_levelWeight t_most out.2)) A) ([.ref a_t] : List Value).toArray s 0 0 A) (F0 m 91 ls []) := by
                intro n91
                induction n91 with
                | zero =>
                  intro x1 x2 x3 x4 t_isFree t_row ls H locs hf
                  rw [L_Re_grows_91] at hf
                  exact absurd hf (fun h => by cases h)
                | succ n91 ih91 =>
                  intro x1 x2 x3 x4 t_isFree t_row ls H locs hf hl hP hD hS
                  rw [L_Re_grows_91] at hf
                  have h141 : ∀ (x1 : Int32) (x2 : Int32) (x3 : Int32) (t_isFree : Nat → Int32) (t_row : Nat → Int32) (ls : Array Slot) (H : Heap) (locs : List Loc), J_Re_grows_141 (L_Re_grows_32 t_kinds t_size t_base t_levelWeight t_most n32) x1 x2 x3 t_isFree t_row = some out → lv_has ls 5 [(0, .ref a_t), (1, .int x1), (2, .int x2), (3, .int x3)] → va_P (dC, dI) clsL (wd_Re_grows cI cZ a_t a_t_isFree a_t_levelWeight a_t_most a_t_row a_t_weight a_t_arcs a_t_split a_t_least a_t_levelNodes a_t_levelArc a_t_levelIn a_t_best a_t_above a_t_ordered a_t_parts t_nodes t_kinds t_levels t_size t_base t_isFree t_levelWeight t_most t_row) H → va_D A (wd_Re_grows cI cZ a_t a_t_isFree a_t_levelWeight a_t_most a_t_row a_t_weight a_t_arcs a_t_split a_t_least a_t_levelNodes a_t_levelArc a_t_levelIn a_t_best a_t_above a_t_ordered a_t_parts t_nodes t_kinds t_levels t_size t_base t_isFree t_levelWeight t_most t_row) → va_S A s.heap H locs → W p l e (headSpec wq_Re_grows ({ frames := 2, cells := 0, slots := 0, locals := 45 })).room s m ([.ref a_t] : List Value).toArray below meth c H locs 0 0 (MQ below (va_Qv (fun _ : Unit => True) (fun _ => pst (dC, dI) A (wd_Re_grows cI cZ a_t a_t_isFree a_t_levelWeight a_t_most a_t_row a_t_weight a_t_arcs a_t_split a_t_least a_t_levelNodes a_t_levelArc a_t_levelIn a_t_best a_t_above a_t_ordered a_t_parts t_nodes t_kinds t_levels t_size t_base out.1 t_levelWeight t_most out.2)) A) ([.ref a_t] : List Value).toArray s 0 0 A) (F0 m 141 ls []) := by
                    intro x1 x2 x3 t_isFree t_row ls H locs hf hl hP hD hS
                    unfold J_Re_grows_141 at hf
                    refine lv_aload_n hx hb dd_Re_grows_141 rfl (lv_at hl 0 rfl) ?_
                    refine va_get (D := (dC, dI)) (ci := 9) (v := .ref a_t_row) (C := rr_Re) (T := tt_Re) (N := 20) hx hb hts (fun w h => gwc (inn_Re w h)) hown hK hP 0 rfl rfl 14 (by decide) (hts _ (gwc gw_717)) (fun _ h9 => h9) rfl dd_Re_grows_142 ?_
                    refine lv_iload_n hx hb dd_Re_grows_145 rfl (lv_at hl 2 rfl) ?_
                    refine lv_iload_n hx hb dd_Re_grows_146 rfl (lv_at hl 3 rfl) ?_
                    obtain ⟨k147, hf⟩ := ck_some hf
                    refine va_iast hx hb hK hP hD hS 4 0 rfl rfl (okb_in k147) dd_Re_grows_147 (fun H locs hP hD hS => ?_)
                    have hP : va_P (dC, dI) clsL (wd_Re_grows cI cZ a_t a_t_isFree a_t_levelWeight a_t_most a_t_row a_t_weight a_t_arcs a_t_split a_t_least a_t_levelNodes a_t_levelArc a_t_levelIn a_t_best a_t_above a_t_ordered a_t_parts t_nodes t_kinds t_levels t_size t_base t_isFree t_levelWeight t_most (upd t_row (x2).toNatClampNeg x3)) H := hP
                    have hD : va_D A (wd_Re_grows cI cZ a_t a_t_isFree a_t_levelWeight a_t_most a_t_row a_t_weight a_t_arcs a_t_split a_t_least a_t_levelNodes a_t_levelArc a_t_levelIn a_t_best a_t_above a_t_ordered a_t_parts t_nodes t_kinds t_levels t_size t_base t_isFree t_levelWeight t_most (upd t_row (x2).toNatClampNeg x3)) := hD
                    refine lv_aload_n hx hb dd_Re_grows_148 rfl (lv_at hl 0 rfl) ?_
                    refine va_get (D := (dC, dI)) (ci := 9) (v := .ref a_t_isFree) (C := rr_Re) (T := tt_Re) (N := 20) hx hb hts (fun w h => gwc (inn_Re w h)) hown hK hP 0 rfl rfl 15 (by decide) (hts _ (gwc gw_718)) (fun _ h9 => h9) rfl dd_Re_grows_149 ?_
                    refine lv_iload_n hx hb dd_Re_grows_152 rfl (lv_at hl 2 rfl) ?_
                    refine lv_iconst (v := 0) hx hb dd_Re_grows_153 (by decide) ?_
                    obtain ⟨k154, hf⟩ := ck_some hf
                    refine va_zast hx hb hK hP hD hS 1 1 rfl rfl (okb_in k154) dd_Re_grows_154 (fun H locs hP hD hS => ?_)
                    have hP : va_P (dC, dI) clsL (wd_Re_grows cI cZ a_t a_t_isFree a_t_levelWeight a_t_most a_t_row a_t_weight a_t_arcs a_t_split a_t_least a_t_levelNodes a_t_levelArc a_t_levelIn a_t_best a_t_above a_t_ordered a_t_parts t_nodes t_kinds t_levels t_size t_base (upd t_isFree (x2).toNatClampNeg (vp_nar .boolean 0)) t_levelWeight t_most (upd t_row (x2).toNatClampNeg x3)) H := hP
                    have hD : va_D A (wd_Re_grows cI cZ a_t a_t_isFree a_t_levelWeight a_t_most a_t_row a_t_weight a_t_arcs a_t_split a_t_least a_t_levelNodes a_t_levelArc a_t_levelIn a_t_best a_t_above a_t_ordered a_t_parts t_nodes t_kinds t_levels t_size t_base (upd t_isFree (x2).toNatClampNeg (vp_nar .boolean 0)) t_levelWeight t_most (upd t_row (x2).toNatClampNeg x3)) := hD
                    refine lv_iinc (v := x1 + 1) (lv' := [(1, .int (x1 + 1)), (0, .ref a_t), (2, .int x2), (3, .int x3)]) hx hb dd_Re_grows_155 hl (k := 1) rfl rfl (by decide) rfl (fun ls hl => ?_)
                    refine lv_goto (tgt := 32) hx hb dd_Re_grows_158 (by decide) ?_
                    exact ih32 (x1 + 1) (upd t_isFree (x2).toNatClampNeg (vp_nar .boolean 0)) (upd t_row (x2).toNatClampNeg x3) _ _ _ hf (lv_sub hl [1, 0] rfl) hP hD hS
                  refine lv_iload hx hb dd_Re_grows_91 (lv_at hl 4 rfl) ?_
                  refine lv_aload_n hx hb dd_Re_grows_93 rfl (lv_at hl 0 rfl) ?_
                  refine va_get (D := (dC, dI)) (ci := 9) (v := .int t_kinds) (C := rr_Re) (T := tt_Re) (N := 20) hx hb hts (fun w h => gwc (inn_Re w h)) hown hK hP 0 rfl rfl 1 (by decide) (hts _ (gwc gw_704)) (fun _ h9 => h9) rfl dd_Re_grows_94 ?_
                  refine lv_icmp_ge (tgt := 141) hx hb dd_Re_grows_97 (by decide) (fun cc => ?_) (fun cc => ?_)
                  · skip
                    have hf := if_t cc hf
                    exact h141 x1 x2 x3 t_isFree t_row _ _ _ hf (lv_sub hl [0, 1, 2, 3] rfl) hP hD hS
                  · skip
                    have hf := if_f cc hf
                    refine lv_aload_n hx hb dd_Re_grows_100 rfl (lv_at hl 0 rfl) ?_
                    refine va_get (D := (dC, dI)) (ci := 9) (v := .ref a_t_most) (C := rr_Re) (T := tt_Re) (N := 20) hx hb hts (fun w h => gwc (inn_Re w h)) hown hK hP 0 rfl rfl 6 (by decide) (hts _ (gwc gw_709)) (fun _ h9 => h9) rfl dd_Re_grows_101 ?_
                    refine lv_iload hx hb dd_Re_grows_104 (lv_at hl 4 rfl) ?_
                    obtain ⟨k106, hf⟩ := ck_some hf
                    refine va_iald hx hb hK hP 3 0 rfl rfl (okb_in k106) dd_Re_grows_106 ?_
                    refine lv_i2l hx hb dd_Re_grows_107 rfl ?_
                    refine lv_aload_n hx hb dd_Re_grows_108 rfl (lv_at hl 0 rfl) ?_
                    refine lv_iload hx hb dd_Re_grows_109 (lv_at hl 4 rfl) ?_
                    obtain ⟨r111, hr111, hf⟩ := bind_some hf
                    refine xcalll (rest := [.long ((t_most (x4).toNatClampNeg).toInt64)]) (wc := (wd_Re_sumOf cI cZ a_t a_t_levelWeight a_t_row a_t_weight a_t_arcs a_t_split a_t_least a_t_most a_t_levelNodes a_t_levelArc a_t_levelIn a_t_isFree a_t_best a_t_above a_t_ordered a_t_parts t_nodes t_kinds t_levels t_size t_base t_levelWeight t_row)) (w1 := (wd_Re_sumOf cI cZ a_t a_t_levelWeight a_t_row a_t_weight a_t_arcs a_t_split a_t_least a_t_most a_t_levelNodes a_t_levelArc a_t_levelIn a_t_isFree a_t_best a_t_above a_t_ordered a_t_parts t_nodes t_kinds t_levels t_size t_base t_levelWeight t_row)) (wr := [(a_t_isFree, .inl (cZ, 40, .inl t_isFree)), (a_t_most, .inl (cI, 4, .inl t_most))]) (ws' := (wd_Re_grows cI cZ a_t a_t_isFree a_t_levelWeight a_t_most a_t_row a_t_weight a_t_arcs a_t_split a_t_least a_t_levelNodes a_t_levelArc a_t_levelIn a_t_best a_t_above a_t_ordered a_t_parts t_nodes t_kinds t_levels t_size t_base t_isFree t_levelWeight t_most t_row)) (va_runV (As := [.int x4]) ⟨hx, hb, hml, hown, hts⟩ (c_Re_sumOf l dC dI cI cZ a_t a_t_levelWeight a_t_row a_t_weight a_t_arcs a_t_split a_t_least a_t_most a_t_levelNodes a_t_levelArc a_t_levelIn a_t_isFree a_t_best a_t_above a_t_ordered a_t_parts H.size x4 t_nodes t_kinds t_levels t_size t_base t_levelWeight t_row r111 hr111) (cwV 1 hts (gV gw_838 gw_840 gw_36 gw_61 gw_841) rfl rfl rfl (yd_Re_sumOf) ⟨Nat.le_of_ble_eq_true rfl, Nat.le_of_ble_eq_true rfl⟩) (mkV hK (hP.sub (ws' := (wd_Re_sumOf cI cZ a_t a_t_levelWeight a_t_row a_t_weight a_t_arcs a_t_split a_t_least a_t_most a_t_levelNodes a_t_levelArc a_t_levelIn a_t_isFree a_t_best a_t_above a_t_ordered a_t_parts t_nodes t_kinds t_levels t_size t_base t_levelWeight t_row)) [0, 2, 4] rfl) (hD.sub (ws' := (wd_Re_sumOf cI cZ a_t a_t_levelWeight a_t_row a_t_weight a_t_arcs a_t_split a_t_least a_t_most a_t_levelNodes a_t_levelArc a_t_levelIn a_t_isFree a_t_best a_t_above a_t_ordered a_t_parts t_nodes t_kinds t_levels t_size t_base t_levelWeight t_row)) [0, 2, 4] (by decide) rfl) hN (va_recv hK hP (ci := 9) (q0 := 0) rfl rfl)) rfl rfl hl.1 rfl (lv_room (Nat.le_of_ble_eq_true rfl)) dd_Re_grows_111 ⟨Nat.zero_le _, Nat.zero_le _⟩) hP hD hS hA [0, 2, 4] [1, 3] [2, 0, 3, 1, 4] rfl rfl (by decide) (by decide) rfl (by decide) rfl (fun H locs hP hD hS => ?_)
                    refine lv_lsub hx hb dd_Re_grows_114 ?_
                    refine lv_aload_n hx hb dd_Re_grows_115 rfl (lv_at hl 0 rfl) ?_
                    refine va_get (D := (dC, dI)) (ci := 9) (v := .ref a_t_most) (C := rr_Re) (T := tt_Re) (N := 20) hx hb hts (fun w h => gwc (inn_Re w h)) hown hK hP 0 rfl rfl 6 (by decide) (hts _ (gwc gw_709)) (fun _ h9 => h9) rfl dd_Re_grows_116 ?_
                    refine lv_iload_n hx hb dd_Re_grows_119 rfl (lv_at hl 3 rfl) ?_
                    obtain ⟨k120, hf⟩ := ck_some hf
                    refine va_iald hx hb hK hP 3 0 rfl rfl (okb_in k120) dd_Re_grows_120 ?_
                    refine lv_i2l hx hb dd_Re_grows_121 rfl ?_
                    refine lv_aload_n hx hb dd_Re_grows_122 rfl (lv_at hl 0 rfl) ?_
                    refine lv_iload_n hx hb dd_Re_grows_123 rfl (lv_at hl 3 rfl) ?_
                    obtain ⟨r124, hr124, hf⟩ := bind_some hf
                    refine xcalll (rest := [.long ((t_most (x3).toNatClampNeg).toInt64), .long (((t_most (x4).toNatClampNeg).toInt64) - r111)]) (wc := (wd_Re_sumOf cI cZ a_t a_t_levelWeight a_t_row a_t_weight a_t_arcs a_t_split a_t_least a_t_most a_t_levelNodes a_t_levelArc a_t_levelIn a_t_isFree a_t_best a_t_above a_t_ordered a_t_parts t_nodes t_kinds t_levels t_size t_base t_levelWeight t_row)) (w1 := (wd_Re_sumOf cI cZ a_t a_t_levelWeight a_t_row a_t_weight a_t_arcs a_t_split a_t_least a_t_most a_t_levelNodes a_t_levelArc a_t_levelIn a_t_isFree a_t_best a_t_above a_t_ordered a_t_parts t_nodes t_kinds t_levels t_size t_base t_levelWeight t_row)) (wr := [(a_t_isFree, .inl (cZ, 40, .inl t_isFree)), (a_t_most, .inl (cI, 4, .inl t_most))]) (ws' := (wd_Re_grows cI cZ a_t a_t_isFree a_t_levelWeight a_t_most a_t_row a_t_weight a_t_arcs a_t_split a_t_least a_t_levelNodes a_t_levelArc a_t_levelIn a_t_best a_t_above a_t_ordered a_t_parts t_nodes t_kinds t_levels t_size t_base t_isFree t_levelWeight t_most t_row)) (va_runV (As := [.int x3]) ⟨hx, hb, hml, hown, hts⟩ (c_Re_sumOf l dC dI cI cZ a_t a_t_levelWeight a_t_row a_t_weight a_t_arcs a_t_split a_t_least a_t_most a_t_levelNodes a_t_levelArc a_t_levelIn a_t_isFree a_t_best a_t_above a_t_ordered a_t_parts H.size x3 t_nodes t_kinds t_levels t_size t_base t_levelWeight t_row r124 hr124) (cwV 1 hts (gV gw_838 gw_840 gw_36 gw_61 gw_841) rfl rfl rfl (yd_Re_sumOf) ⟨Nat.le_of_ble_eq_true rfl, Nat.le_of_ble_eq_true rfl⟩) (mkV hK (hP.sub (ws' := (wd_Re_sumOf cI cZ a_t a_t_levelWeight a_t_row a_t_weight a_t_arcs a_t_split a_t_least a_t_most a_t_levelNodes a_t_levelArc a_t_levelIn a_t_isFree a_t_best a_t_above a_t_ordered a_t_parts t_nodes t_kinds t_levels t_size t_base t_levelWeight t_row)) [0, 2, 4] rfl) (hD.sub (ws' := (wd_Re_sumOf cI cZ a_t a_t_levelWeight a_t_row a_t_weight a_t_arcs a_t_split a_t_least a_t_most a_t_levelNodes a_t_levelArc a_t_levelIn a_t_isFree a_t_best a_t_above a_t_ordered a_t_parts t_nodes t_kinds t_levels t_size t_base t_levelWeight t_row)) [0, 2, 4] (by decide) rfl) hN (va_recv hK hP (ci := 9) (q0 := 0) rfl rfl)) rfl rfl hl.1 rfl (lv_room (Nat.le_of_ble_eq_true rfl)) dd_Re_grows_124 ⟨Nat.zero_le _, Nat.zero_le _⟩) hP hD hS hA [0, 2, 4] [1, 3] [2, 0, 3, 1, 4] rfl rfl (by decide) (by decide) rfl (by decide) rfl (fun H locs hP hD hS => ?_)
                    refine lv_lsub hx hb dd_Re_grows_127 ?_
                    refine W.lcmp hx hb dd_Re_grows_128 ?_
                    refine lv_if_le (tgt := 135) hx hb dd_Re_grows_129 (by decide) (fun cc => ?_) (fun cc => ?_)
                    · skip
                      have hf := if_t cc hf
                      refine lv_iinc (v := x4 + 1) (lv' := [(4, .int (x4 + 1)), (0, .ref a_t), (1, .int x1), (2, .int x2), (3, .int x3)]) hx hb dd_Re_grows_135 hl (k := 4) rfl rfl (by decide) rfl (fun ls hl => ?_)
                      refine lv_goto (tgt := 91) hx hb dd_Re_grows_138 (by decide) ?_
                      exact ih91 x1 x2 x3 (x4 + 1) t_isFree t_row _ _ _ hf (lv_sub hl [1, 2, 3, 4, 0] rfl) hP hD hS
                    · skip
                      have hf := if_f cc hf
                      refine lv_iload hx hb dd_Re_grows_132 (lv_at hl 4 rfl) ?_
                      refine lv_istore_n (lv' := [(3, .int x4), (0, .ref a_t), (1, .int x1), (2, .int x2), (4, .int x4)]) hx hb dd_Re_grows_134 rfl hl (by decide) rfl (fun ls hl => ?_)
                      refine lv_iinc (v := x4 + 1) (lv' := [(4, .int (x4 + 1)), (3, .int x4), (0, .ref a_t), (1, .int x1), (2, .int x2)]) hx hb dd_Re_grows_135 hl (k := 4) rfl rfl (by decide) rfl (fun ls hl => ?_)
                      refine lv_goto (tgt := 91) hx hb dd_Re_grows_138 (by decide) ?_
                      exact ih91 x1 x2 x4 (x4 + 1) t_isFree t_row _ _ _ hf (lv_sub hl [2, 3, 4, 1, 0] rfl) hP hD hS
              refine lv_iload_n hx hb dd_Re_grows_44 rfl (lv_at hl 3 rfl) ?_
              refine lv_aload_n hx hb dd_Re_grows_45 rfl (lv_at hl 0 rfl) ?_
              refine va_get (D := (dC, dI)) (ci := 9) (v := .int t_size) (C := rr_Re) (T := tt_Re) (N := 20) hx hb hts (fun w h => gwc (inn_Re w h)) hown hK hP 0 rfl rfl 12 (by decide) (hts _ (gwc gw_715)) (fun _ h9 => h9) rfl dd_Re_grows_46 ?_
              refine lv_icmp_ge (tgt := 86) hx hb dd_Re_grows_49 (by decide) (fun cc => ?_) (fun cc => ?_)
              · skip
                have hf := if_t cc hf
                refine lv_iconst (v := 0) hx hb dd_Re_grows_86 (by decide) ?_
                refine lv_istore_n (lv' := [(3, .int 0), (0, .ref a_t), (1, .int x1), (2, .int x2)]) hx hb dd_Re_grows_87 rfl hl (by decide) rfl (fun ls hl => ?_)
                refine lv_iconst (v := 1) hx hb dd_Re_grows_88 (by decide) ?_
                refine lv_istore (lv' := [(4, .int 1), (3, .int 0), (0, .ref a_t), (1, .int x1), (2, .int x2)]) hx hb dd_Re_grows_89 hl (by decide) rfl (fun ls hl => ?_)
                exact h91 64 x1 x2 0 1 t_isFree t_row _ _ _ hf (lv_sub hl [2, 3, 4, 1, 0] rfl) hP hD hS
              · skip
                have hf := if_f cc hf
                refine lv_aload_n hx hb dd_Re_grows_52 rfl (lv_at hl 0 rfl) ?_
                refine va_get (D := (dC, dI)) (ci := 9) (v := .ref a_t_isFree) (C := rr_Re) (T := tt_Re) (N := 20) hx hb hts (fun w h => gwc (inn_Re w h)) hown hK hP 0 rfl rfl 15 (by decide) (hts _ (gwc gw_718)) (fun _ h9 => h9) rfl dd_Re_grows_53 ?_
                refine lv_iload_n hx hb dd_Re_grows_56 rfl (lv_at hl 3 rfl) ?_
                obtain ⟨k57, hf⟩ := ck_some hf
                refine va_zald hx hb hK hP 1 1 rfl rfl (okb_in k57) dd_Re_grows_57 ?_
                refine lv_if_eq (tgt := 80) hx hb dd_Re_grows_58 (by decide) (fun cc => ?_) (fun cc => ?_)
                · skip
                  have hf := if_t cc hf
                  refine lv_iinc (v := x3 + 1) (lv' := [(3, .int (x3 + 1)), (0, .ref a_t), (1, .int x1), (2, .int x2)]) hx hb dd_Re_grows_80 hl (k := 3) rfl rfl (by decide) rfl (fun ls hl => ?_)
                  refine lv_goto (tgt := 44) hx hb dd_Re_grows_83 (by decide) ?_
                  exact ih44 x1 x2 (x3 + 1) t_isFree t_row _ _ _ hf (lv_sub hl [1, 2, 3, 0] rfl) hP hD hS
                · skip
                  have hf := if_f cc hf
                  refine lv_iload_n hx hb dd_Re_grows_61 rfl (lv_at hl 2 rfl) ?_
                  refine lv_if_lt (tgt := 78) hx hb dd_Re_grows_62 (by decide) (fun cc => ?_) (fun cc => ?_)
                  · skip
                    have hf := if_t cc hf
                    refine lv_iload_n hx hb dd_Re_grows_78 rfl (lv_at hl 3 rfl) ?_
                    refine lv_istore_n (lv' := [(2, .int x3), (0, .ref a_t), (1, .int x1), (3, .int x3)]) hx hb dd_Re_grows_79 rfl hl (by decide) rfl (fun ls hl => ?_)
                    refine lv_iinc (v := x3 + 1) (lv' := [(3, .int (x3 + 1)), (2, .int x3), (0, .ref a_t), (1, .int x1)]) hx hb dd_Re_grows_80 hl (k := 3) rfl rfl (by decide) rfl (fun ls hl => ?_)
                    refine lv_goto (tgt := 44) hx hb dd_Re_grows_83 (by decide) ?_
                    exact ih44 x1 x3 (x3 + 1) t_isFree t_row _ _ _ hf (lv_sub hl [2, 3, 1, 0] rfl) hP hD hS
                  · skip
                    have hf := if_f cc hf
                    refine lv_aload_n hx hb dd_Re_grows_65 rfl (lv_at hl 0 rfl) ?_
                    refine lv_iload_n hx hb dd_Re_grows_66 rfl (lv_at hl 3 rfl) ?_
                    obtain ⟨r67, hr67, hf⟩ := bind_some hf
                    refine xcalli (rest := []) (wc := (wd_Re_weightOf cI cZ a_t a_t_levelWeight a_t_weight a_t_arcs a_t_split a_t_least a_t_most a_t_levelNodes a_t_levelArc a_t_levelIn a_t_row a_t_isFree a_t_best a_t_above a_t_ordered a_t_parts t_nodes t_kinds t_levels t_size t_base t_levelWeight)) (w1 := (wd_Re_weightOf cI cZ a_t a_t_levelWeight a_t_weight a_t_arcs a_t_split a_t_least a_t_most a_t_levelNodes a_t_levelArc a_t_levelIn a_t_row a_t_isFree a_t_best a_t_above a_t_ordered a_t_parts t_nodes t_kinds t_levels t_size t_base t_levelWeight)) (wr := [(a_t_isFree, .inl (cZ, 40, .inl t_isFree)), (a_t_most, .inl (cI, 4, .inl t_most)), (a_t_row, .inl (cI, 40, .inl t_row))]) (ws' := (wd_Re_grows cI cZ a_t a_t_isFree a_t_levelWeight a_t_most a_t_row a_t_weight a_t_arcs a_t_split a_t_least a_t_levelNodes a_t_levelArc a_t_levelIn a_t_best a_t_above a_t_ordered a_t_parts t_nodes t_kinds t_levels t_size t_base t_isFree t_levelWeight t_most t_row)) (va_runV (As := [.int x3]) ⟨hx, hb, hml, hown, hts⟩ (c_Re_weightOf l dC dI cI cZ a_t a_t_levelWeight a_t_weight a_t_arcs a_t_split a_t_least a_t_most a_t_levelNodes a_t_levelArc a_t_levelIn a_t_row a_t_isFree a_t_best a_t_above a_t_ordered a_t_parts H.size x3 t_nodes t_kinds t_levels t_size t_base t_levelWeight r67 hr67) (cwV 1 hts (gV gw_842 gw_844 gw_37 gw_61 gw_845) rfl rfl rfl (yd_Re_weightOf) ⟨Nat.le_of_ble_eq_true rfl, Nat.le_of_ble_eq_true rfl⟩) (mkV hK (hP.sub (ws' := (wd_Re_weightOf cI cZ a_t a_t_levelWeight a_t_weight a_t_arcs a_t_split a_t_least a_t_most a_t_levelNodes a_t_levelArc a_t_levelIn a_t_row a_t_isFree a_t_best a_t_above a_t_ordered a_t_parts t_nodes t_kinds t_levels t_size t_base t_levelWeight)) [0, 2] rfl) (hD.sub (ws' := (wd_Re_weightOf cI cZ a_t a_t_levelWeight a_t_weight a_t_arcs a_t_split a_t_least a_t_most a_t_levelNodes a_t_levelArc a_t_levelIn a_t_row a_t_isFree a_t_best a_t_above a_t_ordered a_t_parts t_nodes t_kinds t_levels t_size t_base t_levelWeight)) [0, 2] (by decide) rfl) hN (va_recv hK hP (ci := 9) (q0 := 0) rfl rfl)) rfl rfl hl.1 rfl (lv_room (Nat.le_of_ble_eq_true rfl)) dd_Re_grows_67 ⟨Nat.zero_le _, Nat.zero_le _⟩) hP hD hS hA [0, 2] [1, 3, 4] [3, 0, 4, 1, 2] rfl rfl (by decide) (by decide) rfl (by decide) rfl (fun H locs hP hD hS => ?_)
                    refine lv_aload_n hx hb dd_Re_grows_70 rfl (lv_at hl 0 rfl) ?_
                    refine lv_iload_n hx hb dd_Re_grows_71 rfl (lv_at hl 2 rfl) ?_
                    obtain ⟨r72, hr72, hf⟩ := bind_some hf
                    refine xcalli (rest := [.int r67]) (wc := (wd_Re_weightOf cI cZ a_t a_t_levelWeight a_t_weight a_t_arcs a_t_split a_t_least a_t_most a_t_levelNodes a_t_levelArc a_t_levelIn a_t_row a_t_isFree a_t_best a_t_above a_t_ordered a_t_parts t_nodes t_kinds t_levels t_size t_base t_levelWeight)) (w1 := (wd_Re_weightOf cI cZ a_t a_t_levelWeight a_t_weight a_t_arcs a_t_split a_t_least a_t_most a_t_levelNodes a_t_levelArc a_t_levelIn a_t_row a_t_isFree a_t_best a_t_above a_t_ordered a_t_parts t_nodes t_kinds t_levels t_size t_base t_levelWeight)) (wr := [(a_t_isFree, .inl (cZ, 40, .inl t_isFree)), (a_t_most, .inl (cI, 4, .inl t_most)), (a_t_row, .inl (cI, 40, .inl t_row))]) (ws' := (wd_Re_grows cI cZ a_t a_t_isFree a_t_levelWeight a_t_most a_t_row a_t_weight a_t_arcs a_t_split a_t_least a_t_levelNodes a_t_levelArc a_t_levelIn a_t_best a_t_above a_t_ordered a_t_parts t_nodes t_kinds t_levels t_size t_base t_isFree t_levelWeight t_most t_row)) (va_runV (As := [.int x2]) ⟨hx, hb, hml, hown, hts⟩ (c_Re_weightOf l dC dI cI cZ a_t a_t_levelWeight a_t_weight a_t_arcs a_t_split a_t_least a_t_most a_t_levelNodes a_t_levelArc a_t_levelIn a_t_row a_t_isFree a_t_best a_t_above a_t_ordered a_t_parts H.size x2 t_nodes t_kinds t_levels t_size t_base t_levelWeight r72 hr72) (cwV 1 hts (gV gw_842 gw_844 gw_37 gw_61 gw_845) rfl rfl rfl (yd_Re_weightOf) ⟨Nat.le_of_ble_eq_true rfl, Nat.le_of_ble_eq_true rfl⟩) (mkV hK (hP.sub (ws' := (wd_Re_weightOf cI cZ a_t a_t_levelWeight a_t_weight a_t_arcs a_t_split a_t_least a_t_most a_t_levelNodes a_t_levelArc a_t_levelIn a_t_row a_t_isFree a_t_best a_t_above a_t_ordered a_t_parts t_nodes t_kinds t_levels t_size t_base t_levelWeight)) [0, 2] rfl) (hD.sub (ws' := (wd_Re_weightOf cI cZ a_t a_t_levelWeight a_t_weight a_t_arcs a_t_split a_t_least a_t_most a_t_levelNodes a_t_levelArc a_t_levelIn a_t_row a_t_isFree a_t_best a_t_above a_t_ordered a_t_parts t_nodes t_kinds t_levels t_size t_base t_levelWeight)) [0, 2] (by decide) rfl) hN (va_recv hK hP (ci := 9) (q0 := 0) rfl rfl)) rfl rfl hl.1 rfl (lv_room (Nat.le_of_ble_eq_true rfl)) dd_Re_grows_72 ⟨Nat.zero_le _, Nat.zero_le _⟩) hP hD hS hA [0, 2] [1, 3, 4] [3, 0, 4, 1, 2] rfl rfl (by decide) (by decide) rfl (by decide) rfl (fun H locs hP hD hS => ?_)
                    refine lv_icmp_le (tgt := 80) hx hb dd_Re_grows_75 (by decide) (fun cc => ?_) (fun cc => ?_)
                    · skip
                      have hf := if_t cc hf
                      refine lv_iinc (v := x3 + 1) (lv' := [(3, .int (x3 + 1)), (0, .ref a_t), (1, .int x1), (2, .int x2)]) hx hb dd_Re_grows_80 hl (k := 3) rfl rfl (by decide) rfl (fun ls hl => ?_)
                      refine lv_goto (tgt := 44) hx hb dd_Re_grows_83 (by decide) ?_
                      exact ih44 x1 x2 (x3 + 1) t_isFree t_row _ _ _ hf (lv_sub hl [1, 2, 3, 0] rfl) hP hD hS
                    · skip
                      have hf := if_f cc hf
                      refine lv_iload_n hx hb dd_Re_grows_78 rfl (lv_at hl 3 rfl) ?_
                      refine lv_istore_n (lv' := [(2, .int x3), (0, .ref a_t), (1, .int x1), (3, .int x3)]) hx hb dd_Re_grows_79 rfl hl (by decide) rfl (fun ls hl => ?_)
                      refine lv_iinc (v := x3 + 1) (lv' := [(3, .int (x3 + 1)), (2, .int x3), (0, .ref a_t), (1, .int x1)]) hx hb dd_Re_grows_80 hl (k := 3) rfl rfl (by decide) rfl (fun ls hl => ?_)
                      refine lv_goto (tgt := 44) hx hb dd_Re_grows_83 (by decide) ?_
                      exact ih44 x1 x3 (x3 + 1) t_isFree t_row _ _ _ hf (lv_sub hl [2, 3, 1, 0] rfl) hP hD hS
          refine lv_iload_n hx hb dd_Re_grows_32 rfl (lv_at hl 1 rfl) ?_
          refine lv_aload_n hx hb dd_Re_grows_33 rfl (lv_at hl 0 rfl) ?_
          refine va_get (D := (dC, dI)) (ci := 9) (v := .int t_size) (C := rr_Re) (T := tt_Re) (N := 20) hx hb hts (fun w h => gwc (inn_Re w h)) hown hK hP 0 rfl rfl 12 (by decide) (hts _ (gwc gw_715)) (fun _ h9 => h9) rfl dd_Re_grows_34 ?_
          refine lv_icmp_ge (tgt := 161) hx hb dd_Re_grows_37 (by decide) (fun cc => ?_) (fun cc => ?_)
          · skip
            have hf := if_t cc hf
            have hf := Option.some.inj hf
            subst hf
            exact W.vret hx hb hr (fun t ht hW => ⟨⟨(), rfl, trivial, pst_of ht hP hD⟩, hS.F ht⟩) hS.2.2 dd_Re_grows_161
          · skip
            have hf := if_f cc hf
            refine lv_iconst (v := -1) hx hb dd_Re_grows_40 (by decide) ?_
            refine lv_istore_n (lv' := [(2, .int (-1)), (0, .ref a_t), (1, .int x1)]) hx hb dd_Re_grows_41 rfl hl (by decide) rfl (fun ls hl => ?_)
            refine lv_iconst (v := 0) hx hb dd_Re_grows_42 (by decide) ?_
            refine lv_istore_n (lv' := [(3, .int 0), (2, .int (-1)), (0, .ref a_t), (1, .int x1)]) hx hb dd_Re_grows_43 rfl hl (by decide) rfl (fun ls hl => ?_)
            exact h44 64 x1 (-1) 0 t_isFree t_row _ _ _ hf (lv_sub hl [2, 3, 1, 0] rfl) hP hD hS
      refine lv_iload_n hx hb dd_Re_grows_2 rfl (lv_at hl 1 rfl) ?_
      refine lv_aload_n hx hb dd_Re_grows_3 rfl (lv_at hl 0 rfl) ?_
      refine va_get (D := (dC, dI)) (ci := 9) (v := .int t_size) (C := rr_Re) (T := tt_Re) (N := 20) hx hb hts (fun w h => gwc (inn_Re w h)) hown hK hP 0 rfl rfl 12 (by decide) (hts _ (gwc gw_715)) (fun _ h9 => h9) rfl dd_Re_grows_4 ?_
      refine lv_icmp_ge (tgt := 30) hx hb dd_Re_grows_7 (by decide) (fun cc => ?_) (fun cc => ?_)
      · skip
        have hf := if_t cc hf
        refine lv_iconst (v := 0) hx hb dd_Re_grows_30 (by decide) ?_
        refine lv_istore_n (lv' := [(1, .int 0), (0, .ref a_t)]) hx hb dd_Re_grows_31 rfl hl (by decide) rfl (fun ls hl => ?_)
        exact h32 64 0 t_isFree t_row _ _ _ hf (lv_sub hl [1, 0] rfl) hP hD hS
      · skip
        have hf := if_f cc hf
        refine lv_aload_n hx hb dd_Re_grows_10 rfl (lv_at hl 0 rfl) ?_
        refine va_get (D := (dC, dI)) (ci := 9) (v := .ref a_t_isFree) (C := rr_Re) (T := tt_Re) (N := 20) hx hb hts (fun w h => gwc (inn_Re w h)) hown hK hP 0 rfl rfl 15 (by decide) (hts _ (gwc gw_718)) (fun _ h9 => h9) rfl dd_Re_grows_11 ?_
        refine lv_iload_n hx hb dd_Re_grows_14 rfl (lv_at hl 1 rfl) ?_
        refine lv_iconst (v := 1) hx hb dd_Re_grows_15 (by decide) ?_
        obtain ⟨k16, hf⟩ := ck_some hf
        refine va_zast hx hb hK hP hD hS 1 1 rfl rfl (okb_in k16) dd_Re_grows_16 (fun H locs hP hD hS => ?_)
        have hP : va_P (dC, dI) clsL (wd_Re_grows cI cZ a_t a_t_isFree a_t_levelWeight a_t_most a_t_row a_t_weight a_t_arcs a_t_split a_t_least a_t_levelNodes a_t_levelArc a_t_levelIn a_t_best a_t_above a_t_ordered a_t_parts t_nodes t_kinds t_levels t_size t_base (upd t_isFree (x1).toNatClampNeg (vp_nar .boolean 1)) t_levelWeight t_most t_row) H := hP
        have hD : va_D A (wd_Re_grows cI cZ a_t a_t_isFree a_t_levelWeight a_t_most a_t_row a_t_weight a_t_arcs a_t_split a_t_least a_t_levelNodes a_t_levelArc a_t_levelIn a_t_best a_t_above a_t_ordered a_t_parts t_nodes t_kinds t_levels t_size t_base (upd t_isFree (x1).toNatClampNeg (vp_nar .boolean 1)) t_levelWeight t_most t_row) := hD
        refine lv_aload_n hx hb dd_Re_grows_17 rfl (lv_at hl 0 rfl) ?_
        refine va_get (D := (dC, dI)) (ci := 9) (v := .ref a_t_row) (C := rr_Re) (T := tt_Re) (N := 20) hx hb hts (fun w h => gwc (inn_Re w h)) hown hK hP 0 rfl rfl 14 (by decide) (hts _ (gwc gw_717)) (fun _ h9 => h9) rfl dd_Re_grows_18 ?_
        refine lv_iload_n hx hb dd_Re_grows_21 rfl (lv_at hl 1 rfl) ?_
        refine lv_iconst (v := -1) hx hb dd_Re_grows_22 (by decide) ?_
        obtain ⟨k23, hf⟩ := ck_some hf
        refine va_iast hx hb hK hP hD hS 4 0 rfl rfl (okb_in k23) dd_Re_grows_23 (fun H locs hP hD hS => ?_)
        have hP : va_P (dC, dI) clsL (wd_Re_grows cI cZ a_t a_t_isFree a_t_levelWeight a_t_most a_t_row a_t_weight a_t_arcs a_t_split a_t_least a_t_levelNodes a_t_levelArc a_t_levelIn a_t_best a_t_above a_t_ordered a_t_parts t_nodes t_kinds t_levels t_size t_base (upd t_isFree (x1).toNatClampNeg (vp_nar .boolean 1)) t_levelWeight t_most (upd t_row (x1).toNatClampNeg (-1))) H := hP
        have hD : va_D A (wd_Re_grows cI cZ a_t a_t_isFree a_t_levelWeight a_t_most a_t_row a_t_weight a_t_arcs a_t_split a_t_least a_t_levelNodes a_t_levelArc a_t_levelIn a_t_best a_t_above a_t_ordered a_t_parts t_nodes t_kinds t_levels t_size t_base (upd t_isFree (x1).toNatClampNeg (vp_nar .boolean 1)) t_levelWeight t_most (upd t_row (x1).toNatClampNeg (-1))) := hD
        refine lv_iinc (v := x1 + 1) (lv' := [(1, .int (x1 + 1)), (0, .ref a_t)]) hx hb dd_Re_grows_24 hl (k := 1) rfl rfl (by decide) rfl (fun ls hl => ?_)
        refine lv_goto (tgt := 2) hx hb dd_Re_grows_27 (by decide) ?_
        exact ih2 (x1 + 1) (upd t_isFree (x1).toNatClampNeg (vp_nar .boolean 1)) (upd t_row (x1).toNatClampNeg (-1)) _ _ _ hf (lv_sub hl [1, 0] rfl) hP hD hS
  refine lv_iconst (v := 0) hx hb dd_Re_grows_0 (by decide) ?_
  refine lv_istore_n (lv' := [(1, .int 0), (0, .ref a_t)]) hx hb dd_Re_grows_1 rfl hl (by decide) rfl (fun ls hl => ?_)
  exact h2 64 0 t_isFree t_row _ _ _ hf (lv_sub hl [1, 0] rfl) hP hD hS
