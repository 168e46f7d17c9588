abbrev wd_Le_holder (cI cZ : ClassId) (a_t a_t_holders a_t_size a_t_mate a_t_number : Nat) (t_fresh : Int32) (t_count : Int32) (t_holders : Nat → Int32) : va_W := [(a_t, .inr (2, [.int t_fresh, .int t_count, .ref a_t_size, .ref a_t_holders, .ref a_t_mate, .ref a_t_number])), (a_t_holders, .inl (cI, 1600, .inl t_holders))]
set_option maxRecDepth 100000 in
set_option maxHeartbeats 4000000 in
theorem c_Le_holder (l : Launch) (dC : Nat → ClassId) (dI : Nat → Nat → Nat) (cI cZ : ClassId) (a_t a_t_holders a_t_size a_t_mate a_t_number sz : Nat) (x1 : Int32) (x2 : Int32) (t_fresh : Int32) (t_count : Int32) (t_holders : Nat → Int32) (out : Int32) (hf : f_Le_holder x1 x2 t_holders = some out) :
    Met l yy_Le_holder wq_Le_holder ({ frames := 0, cells := 0, slots := 0, locals := 0 }) (va_Pc ([.ref a_t, .int x1, .int x2] : List Value) (pre_ (dC, dI) cI cZ sz (wd_Le_holder cI cZ a_t a_t_holders a_t_size a_t_mate a_t_number t_fresh t_count t_holders))) (va_Qi (fun (r : Int32) (_ : Unit) => r = out) (fun _ => pst (dC, dI) (va_A (wd_Le_holder cI cZ a_t a_t_holders a_t_size a_t_mate a_t_number t_fresh t_count t_holders) sz) (wd_Le_holder cI cZ a_t a_t_holders a_t_size a_t_mate a_t_number t_fresh t_count t_holders)) (va_A (wd_Le_holder cI cZ a_t a_t_holders a_t_size a_t_mate a_t_number t_fresh t_count t_holders) sz)) 0 0 (va_A (wd_Le_holder cI cZ a_t a_t_holders a_t_size a_t_mate a_t_number t_fresh t_count t_holders) sz) := by
  refine Met.ofW (cc := cc_Le_holder) (maxL := 3) (ret := (some .int)) (by decide) rfl ?_
  intro p e s m args below meth c s₁ B hml hv
  obtain ⟨rfl, hsz, hP, hK, hD0, hN⟩ := hv
  have hx := B.exec
  have hb := B.bytes
  have hr := B.returns
  have hts := atoms_spec (ws := wq_Le_holder) B.pre
  have hown : s.vm.findClass rr_Le = some m.cls := findClass_of_methodNamed B.named
  have hlocks := B.notSynchronized
  subst hsz
  have hD := hD0.self (sz := s.heap.size)
  generalize hAe : va_A (wd_Le_holder cI cZ a_t a_t_holders a_t_size a_t_mate a_t_number t_fresh t_count t_holders) s.heap.size = A at hD ⊢
  have hA : ∀ q : Nat, s.heap.size ≤ q → A q := fun q h => by rw [← hAe]; exact Or.inr h
  obtain ⟨H, hH⟩ : ∃ H : Heap, H = s.heap := ⟨_, rfl⟩
  have hS : va_S A s.heap H [] := by rw [hH]; exact va_S.rf
  have hl := lv_entry (([.ref a_t, .int x1, .int x2] : List Value)) (n := 3) (Nat.le_of_ble_eq_true rfl)
  rw [lg_entry_eq]
  generalize (lg_sl (([.ref a_t, .int x1, .int x2] : List Value)) ++ List.replicate (3 - (lg_sl (([.ref a_t, .int x1, .int x2] : List Value))).length) Slot.unset).toArray = ls at hl ⊢
  have hl : lv_has ls 3 [(0, .ref a_t), (1, .int x1), (2, .int x2)] := hl
  rw [← hH] at hP ⊢
  have hP : va_P (dC, dI) clsL (wd_Le_holder cI cZ a_t a_t_holders a_t_size a_t_mate a_t_number t_fresh t_count t_holders) H := hP
  unfold f_Le_holder at hf
  refine lv_aload_n hx hb dd_Le_holder_0 rfl (lv_at hl 0 rfl) ?_
  refine va_get (D := (dC, dI)) (ci := 2) (v := .ref a_t_holders) (C := rr_Le) (T := tt_Le) (N := 6) hx hb hts (fun w h => gwc (inn_Le w h)) hown hK hP 0 rfl rfl 3 (by decide) (hts _ (gwc gw_182)) (fun _ h9 => h9) rfl dd_Le_holder_1 ?_
  refine lv_iload_n hx hb dd_Le_holder_4 rfl (lv_at hl 1 rfl) ?_
  refine lv_bipush (v := 40) hx hb dd_Le_holder_5 (by decide) ?_
  refine lv_imul hx hb dd_Le_holder_7 ?_
  refine lv_iload_n hx hb dd_Le_holder_8 rfl (lv_at hl 2 rfl) ?_
  refine lv_iadd hx hb dd_Le_holder_9 ?_
  obtain ⟨k10, hf⟩ := ck_some hf
  refine va_iald hx hb hK hP 1 0 rfl rfl (okb_in k10) dd_Le_holder_10 ?_
  cases hf
  exact W.iret hx hb hr (fun t ht hW => ⟨⟨_, (), rfl, rfl, pst_of ht hP hD⟩, hS.F ht⟩) hS.2.2 dd_Le_holder_11
abbrev wd_Le_drawInto (cI cZ : ClassId) (a_t a_t_holders a_t_size a_p2 a_p2_arcs a_p2_weight a_p3 a_p3_arcs a_p3_weight a_t_mate a_t_number : Nat) (t_fresh : Int32) (t_count : Int32) (t_holders : Nat → Int32) (t_size : Nat → Int32) (p2_size : Int32) (p2_arcs : Nat → Int32) (p2_weight : Nat → Int32) (p3_size : Int32) (p3_arcs : Nat → Int32) (p3_weight : Nat → Int32) : va_W := [(a_t, .inr (2, [.int t_fresh, .int t_count, .ref a_t_size, .ref a_t_holders, .ref a_t_mate, .ref a_t_number])), (a_t_holders, .inl (cI, 1600, .inl t_holders)), (a_t_size, .inl (cI, 40, .inl t_size)), (a_p2, .inr (1, [.int p2_size, .ref a_p2_weight, .ref a_p2_arcs])), (a_p2_arcs, .inl (cI, 1600, .inl p2_arcs)), (a_p2_weight, .inl (cI, 40, .inl p2_weight)), (a_p3, .inr (1, [.int p3_size, .ref a_p3_weight, .ref a_p3_arcs])), (a_p3_arcs, .inl (cI, 1600, .inl p3_arcs)), (a_p3_weight, .inl (cI, 40, .inl p3_weight))]
set_option maxRecDepth 100000 in
set_option maxHeartbeats 4000000 in
theorem c_Le_drawInto (l : Launch) (dC : Nat → ClassId) (dI : Nat → Nat → Nat) (cI cZ : ClassId) (a_t a_t_holders a_t_size a_p2 a_p2_arcs a_p2_weight a_p3 a_p3_arcs a_p3_weight a_t_mate a_t_number sz : Nat) (x1 : Int32) (t_fresh : Int32) (t_count : Int32) (t_holders : Nat → Int32) (t_size : Nat → Int32) (p2_size : Int32) (p2_arcs : Nat → Int32) (p2_weight : Nat → Int32) (p3_size : Int32) (p3_arcs : Nat → Int32) (p3_weight : Nat → Int32) (out : Int32 × (Nat → Int32) × (Nat → Int32)) (hf : f_Le_drawInto x1 t_holders t_size p2_size p2_arcs p2_weight = some out) :
    Met l yy_Le_drawInto wq_Le_drawInto ({ frames := 2, cells := 0, slots := 0, locals := 44 }) (va_Pc ([.ref a_t, .int x1, .ref a_p2, .ref a_p3] : List Value) (pre_ (dC, dI) cI cZ sz (wd_Le_drawInto cI cZ a_t a_t_holders a_t_size a_p2 a_p2_arcs a_p2_weight a_p3 a_p3_arcs a_p3_weight a_t_mate a_t_number t_fresh t_count t_holders t_size p2_size p2_arcs p2_weight p3_size p3_arcs p3_weight))) (va_Qv (fun _ : Unit => True) (fun _ => pst (dC, dI) (va_A (wd_Le_drawInto cI cZ a_t a_t_holders a_t_size a_p2 a_p2_arcs a_p2_weight a_p3 a_p3_arcs a_p3_weight a_t_mate a_t_number t_fresh t_count t_holders t_size p2_size p2_arcs p2_weight p3_size p3_arcs p3_weight) sz) (wd_Le_drawInto cI cZ a_t a_t_holders a_t_size a_p2 a_p2_arcs a_p2_weight a_p3 a_p3_arcs a_p3_weight a_t_mate a_t_number t_fresh t_count t_holders t_size p2_size p2_arcs p2_weight out.1 out.2.1 out.2.2)) (va_A (wd_Le_drawInto cI cZ a_t a_t_holders a_t_size a_p2 a_p2_arcs a_p2_weight a_p3 a_p3_arcs a_p3_weight a_t_mate a_t_number t_fresh t_count t_holders t_size p2_size p2_arcs p2_weight p3_size p3_arcs p3_weight) sz)) 0 0 (va_A (wd_Le_drawInto cI cZ a_t a_t_holders a_t_size a_p2 a_p2_arcs a_p2_weight a_p3 a_p3_arcs a_p3_weight a_t_mate a_t_number t_fresh t_count t_holders t_size p2_size p2_arcs p2_weight p3_size p3_arcs p3_weight) sz) := by
  refine Met.ofW (cc := cc_Le_drawInto) (maxL := 8) (ret := none) (by decide) rfl ?_
  intro p e s m args below meth c s₁ B hml hv
  obtain ⟨rfl, hsz, hP, hK, hD0, hN⟩ := hv
  have hx := B.exec
  have hb := B.bytes
  have hr := B.returns
  have hts := atoms_spec (ws := wq_Le_drawInto) B.pre
  have hown : s.vm.findClass rr_Le = some m.cls := findClass_of_methodNamed B.named
  have hlocks := B.notSynchronized
  subst hsz
  have hD := hD0.self (sz := s.heap.size)
  generalize hAe : va_A (wd_Le_drawInto cI cZ a_t a_t_holders a_t_size a_p2 a_p2_arcs a_p2_weight a_p3 a_p3_arcs a_p3_weight a_t_mate a_t_number t_fresh t_count t_holders t_size p2_size p2_arcs p2_weight p3_size p3_arcs p3_weight) s.heap.size = A at hD ⊢
  have hA : ∀ q : Nat, s.heap.size ≤ q → A q := fun q h => by rw [← hAe]; exact Or.inr h
  obtain ⟨H, hH⟩ : ∃ H : Heap, H = s.heap := ⟨_, rfl⟩
  have hS : va_S A s.heap H [] := by rw [hH]; exact va_S.rf
  have hl := lv_entry (([.ref a_t, .int x1, .ref a_p2, .ref a_p3] : List Value)) (n := 8) (Nat.le_of_ble_eq_true rfl)
  rw [lg_entry_eq]
  generalize (lg_sl (([.ref a_t, .int x1, .ref a_p2, .ref a_p3] : List Value)) ++ List.replicate (8 - (lg_sl (([.ref a_t, .int x1, .ref a_p2, .ref a_p3] : List Value))).length) Slot.unset).toArray = ls at hl ⊢
  have hl : lv_has ls 8 [(0, .ref a_t), (1, .int x1), (2, .ref a_p2), (3, .ref a_p3)] := hl
  rw [← hH] at hP ⊢
  have hP : va_P (dC, dI) clsL (wd_Le_drawInto cI cZ a_t a_t_holders a_t_size a_p2 a_p2_arcs a_p2_weight a_p3 a_p3_arcs a_p3_weight a_t_mate a_t_number t_fresh t_count t_holders t_size p2_size p2_arcs p2_weight p3_size p3_arcs p3_weight) H := hP
  unfold f_Le_drawInto at hf
  have h13 : ∀ (n13 : Nat) (x4 : Int32) (p3_size : Int32) (p3_arcs : Nat → Int32) (p3_weight : Nat → Int32) (ls : Array Slot) (H : Heap) (locs : List Loc), L_Le_drawInto_13 x1 t_holders p2_size p2_arcs p2_weight n13 x4 p3_size p3_arcs p3_weight = some out → lv_has ls 8 [(0, .ref a_t), (1, .int x1), (2, .ref a_p2), (3, .ref a_p3), (4, .int x4)] → va_P (dC, dI) clsL (wd_Le_drawInto cI cZ a_t a_t_holders a_t_size a_p2 a_p2_arcs a_p2_weight a_p3 a_p3_arcs a_p3_weight a_t_mate a_t_number t_fresh t_count t_holders t_size p2_size p2_arcs p2_weight p3_size p3_arcs p3_weight) H → va_D A (wd_Le_drawInto cI cZ a_t a_t_holders a_t_size a_p2 a_p2_arcs a_p2_weight a_p3 a_p3_arcs a_p3_weight a_t_mate a_t_number t_fresh t_count t_holders t_size p2_size p2_arcs p2_weight p3_size p3_arcs p3_weight) → va_S A s.heap H locs → W p l e (headSpec wq_Le_drawInto ({ frames := 2, cells := 0, slots := 0, locals := 44 })).room s m ([.ref a_t, .int x1, .ref a_p2, .ref a_p3] : List Value).toArray below meth c H locs 0 0 (MQ below (va_Qv (fun _ : Unit => True) (fun _ => pst (dC, dI) A (wd_Le_drawInto cI cZ a_t a_t_holders a_t_size a_p2 a_p2_arcs a_p2_weight a_p3 a_p3_arcs a_p3_weight a_t_mate a_t_number t_fresh t_count t_holders t_size p2_size p2_arcs p2_weight out.1 out.2.1 out.2.2)) A) ([.ref a_t, .int x1, .ref a_p2, .ref a_p3] : List Value).toArray s 0 0 A) (F0 m 13 ls []) := by
    intro n13
    induction n13 with
    | zero =>
      intro x4 p3_size p3_arcs p3_weight ls H locs hf
      rw [L_Le_drawInto_13] at hf
      exact absurd hf (fun h => by cases h)
    | succ n13 ih13 =>
      intro x4 p3_size p3_arcs p3_weight ls H locs hf hl hP hD hS
      rw [L_Le_drawInto_13] at hf
      have h54 : ∀ (n54 : Nat) (x4 : Int32) (x5 : Int32) (x6 : Int32) (p3_size : Int32) (p3_arcs : Nat → Int32) (p3_weight : Nat → Int32) (ls : Array Slot) (H : Heap) (locs : List Loc), L_Le_drawInto_54 x1 t_holders p2_size p2_arcs (L_Le_drawInto_13 x1 t_holders p2_size p2_arcs p2_weight n13) n54 x4 x5 x6 p3_size p3_arcs p3_weight = some out → lv_has ls 8 [(0, .ref a_t), (1, .int x1), (2, .ref a_p2), (3, .ref a_p3), (4, .int x4), (5, .int x5), (6, .int x6)] → va_P (dC, dI) clsL (wd_Le_drawInto cI cZ a_t a_t_holders a_t_size a_p2 a_p2_arcs a_p2_weight a_p3 a_p3_arcs a_p3_weight a_t_mate a_t_number t_fresh t_count t_holders t_size p2_size p2_arcs p2_weight p3_size p3_arcs p3_weight) H → va_D A (wd_Le_drawInto cI cZ a_t a_t_holders a_t_size a_p2 a_p2_arcs a_p2_weight a_p3 a_p3_arcs a_p3_weight a_t_mate a_t_number t_fresh t_count t_holders t_size p2_size p2_arcs p2_weight p3_size p3_arcs p3_weight) → va_S A s.heap H locs → W p l e (headSpec wq_Le_drawInto ({ frames := 2, cells := 0, slots := 0, locals := 44 })).room s m ([.ref a_t, .int x1, .ref a_p2, .ref a_p3] : List Value).toArray below meth c H locs 0 0 (MQ below (va_Qv (fun _ : Unit => True) (fun _ => pst (dC, dI) A (wd_Le_drawInto cI cZ a_t a_t_holders a_t_size a_p2 a_p2_arcs a_p2_weight a_p3 a_p3_arcs a_p3_weight a_t_mate a_t_number t_fresh t_count t_holders t_size p2_size p2_arcs p2_weight out.1 out.2.1 out.2.2)) A) ([.ref a_t, .int x1, .ref a_p2, .ref a_p3] : List Value).toArray s 0 0 A) (F0 m 54 ls []) := by
        intro n54
        induction n54 with
        | zero =>
          intro x4 x5 x6 p3_size p3_arcs p3_weight ls H locs hf
          rw [L_Le_drawInto_54] at hf
          exact absurd hf (fun h => by cases h)
        | succ n54 ih54 =>
          intro x4 x5 x6 p3_size p3_arcs p3_weight ls H locs hf hl hP hD hS
          rw [L_Le_drawInto_54] at hf
          refine lv_iload hx hb dd_Le_drawInto_54 (lv_at hl 6 rfl) ?_
          refine lv_aload_n hx hb dd_Le_drawInto_56 rfl (lv_at hl 2 rfl) ?_
          refine va_get (D := (dC, dI)) (ci := 1) (v := .int p2_size) (C := rr_Gr) (T := tt_Gr) (N := 3) hx hb hts (fun w h => gwc (inn_Gr w h)) hown hK hP 3 rfl rfl 0 (by decide) (hts _ (gwc gw_90)) (fun _ h9 => h9) rfl dd_Le_drawInto_57 ?_
          refine lv_icmp_ge (tgt := 101) hx hb dd_Le_drawInto_60 (by decide) (fun cc => ?_) (fun cc => ?_)
          · skip
            have hf := if_t cc hf
            refine lv_iinc (v := x4 + 1) (lv' := [(4, .int (x4 + 1)), (0, .ref a_t), (1, .int x1), (2, .ref a_p2), (3, .ref a_p3), (5, .int x5), (6, .int x6)]) hx hb dd_Le_drawInto_101 hl (k := 4) rfl rfl (by decide) rfl (fun ls hl => ?_)
            refine lv_goto (tgt := 13) hx hb dd_Le_drawInto_104 (by decide) ?_
            exact ih13 (x4 + 1) p3_size p3_arcs p3_weight _ _ _ hf (lv_sub hl [1, 2, 3, 4, 0] rfl) hP hD hS
          · skip
            have hf := if_f cc hf
            refine lv_aload_n hx hb dd_Le_drawInto_63 rfl (lv_at hl 0 rfl) ?_
            refine lv_iload_n hx hb dd_Le_drawInto_64 rfl (lv_at hl 1 rfl) ?_
            refine lv_iload hx hb dd_Le_drawInto_65 (lv_at hl 6 rfl) ?_
            obtain ⟨r67, hr67, hf⟩ := bind_some hf
            refine xcalli (rest := []) (wc := (wd_Le_holder cI cZ a_t a_t_holders a_t_size a_t_mate a_t_number t_fresh t_count t_holders)) (w1 := (wd_Le_holder cI cZ a_t a_t_holders a_t_size a_t_mate a_t_number t_fresh t_count t_holders)) (wr := [(a_t_size, .inl (cI, 40, .inl t_size)), (a_p2, .inr (1, [.int p2_size, .ref a_p2_weight, .ref a_p2_arcs])), (a_p2_arcs, .inl (cI, 1600, .inl p2_arcs)), (a_p2_weight, .inl (cI, 40, .inl p2_weight)), (a_p3, .inr (1, [.int p3_size, .ref a_p3_weight, .ref a_p3_arcs])), (a_p3_arcs, .inl (cI, 1600, .inl p3_arcs)), (a_p3_weight, .inl (cI, 40, .inl p3_weight))]) (ws' := (wd_Le_drawInto cI cZ a_t a_t_holders a_t_size a_p2 a_p2_arcs a_p2_weight a_p3 a_p3_arcs a_p3_weight a_t_mate a_t_number t_fresh t_count t_holders t_size p2_size p2_arcs p2_weight p3_size p3_arcs p3_weight)) (va_runV (As := [.int x1, .int x6]) ⟨hx, hb, hml, hown, hts⟩ (c_Le_holder l dC dI cI cZ a_t a_t_holders a_t_size a_t_mate a_t_number H.size x1 x6 t_fresh t_count t_holders r67 hr67) (cwV 2 hts (gV gw_440 gw_441 gw_442 gw_56 gw_443) rfl rfl rfl (yd_Le_holder) ⟨Nat.le_of_ble_eq_true rfl, Nat.le_of_ble_eq_true rfl⟩) (mkV hK (hP.sub (ws' := (wd_Le_holder cI cZ a_t a_t_holders a_t_size a_t_mate a_t_number t_fresh t_count t_holders)) [0, 1] rfl) (hD.sub (ws' := (wd_Le_holder cI cZ a_t a_t_holders a_t_size a_t_mate a_t_number t_fresh t_count t_holders)) [0, 1] (by decide) rfl) hN (va_recv hK hP (ci := 2) (q0 := 0) rfl rfl)) rfl rfl hl.1 rfl (lv_room (Nat.le_of_ble_eq_true rfl)) dd_Le_drawInto_67 ⟨Nat.zero_le _, Nat.zero_le _⟩) hP hD hS hA [0, 1] [2, 3, 4, 5, 6, 7, 8] [7, 8, 0, 1, 2, 3, 4, 5, 6] rfl rfl (by decide) (by decide) rfl (by decide) rfl (fun H locs hP hD hS => ?_)
            refine lv_istore (lv' := [(7, .int r67), (0, .ref a_t), (1, .int x1), (2, .ref a_p2), (3, .ref a_p3), (4, .int x4), (5, .int x5), (6, .int x6)]) hx hb dd_Le_drawInto_70 hl (by decide) rfl (fun ls hl => ?_)
            refine lv_iload hx hb dd_Le_drawInto_72 (lv_at hl 6 rfl) ?_
            refine lv_iload hx hb dd_Le_drawInto_74 (lv_at hl 0 rfl) ?_
            refine lv_icmp_eq (tgt := 95) hx hb dd_Le_drawInto_76 (by decide) (fun cc => ?_) (fun cc => ?_)
            · skip
              have hf := if_t cc hf
              refine lv_iinc (v := x6 + 1) (lv' := [(6, .int (x6 + 1)), (7, .int r67), (0, .ref a_t), (1, .int x1), (2, .ref a_p2), (3, .ref a_p3), (4, .int x4), (5, .int x5)]) hx hb dd_Le_drawInto_95 hl (k := 7) rfl rfl (by decide) rfl (fun ls hl => ?_)
              refine lv_goto (tgt := 54) hx hb dd_Le_drawInto_98 (by decide) ?_
              exact ih54 x4 x5 (x6 + 1) p3_size p3_arcs p3_weight _ _ _ hf (lv_sub hl [2, 3, 4, 5, 6, 7, 0] rfl) hP hD hS
            · skip
              have hf := if_f cc hf
              refine lv_aload_n hx hb dd_Le_drawInto_79 rfl (lv_at hl 4 rfl) ?_
              refine lv_iload hx hb dd_Le_drawInto_80 (lv_at hl 6 rfl) ?_
              refine lv_iload hx hb dd_Le_drawInto_82 (lv_at hl 0 rfl) ?_
              refine lv_aload_n hx hb dd_Le_drawInto_84 rfl (lv_at hl 3 rfl) ?_
              refine lv_iload hx hb dd_Le_drawInto_85 (lv_at hl 5 rfl) ?_
              refine lv_iload hx hb dd_Le_drawInto_87 (lv_at hl 7 rfl) ?_
              obtain ⟨r89, hr89, hf⟩ := bind_some hf
              refine xcalli (rest := [.int r67, .int x5, .ref a_p3]) (wc := (wd_Gr_arcOf cI cZ a_p2 a_p2_arcs a_p2_weight p2_size p2_arcs)) (w1 := (wd_Gr_arcOf cI cZ a_p2 a_p2_arcs a_p2_weight p2_size p2_arcs)) (wr := [(a_t, .inr (2, [.int t_fresh, .int t_count, .ref a_t_size, .ref a_t_holders, .ref a_t_mate, .ref a_t_number])), (a_t_holders, .inl (cI, 1600, .inl t_holders)), (a_t_size, .inl (cI, 40, .inl t_size)), (a_p2_weight, .inl (cI, 40, .inl p2_weight)), (a_p3, .inr (1, [.int p3_size, .ref a_p3_weight, .ref a_p3_arcs])), (a_p3_arcs, .inl (cI, 1600, .inl p3_arcs)), (a_p3_weight, .inl (cI, 40, .inl p3_weight))]) (ws' := (wd_Le_drawInto cI cZ a_t a_t_holders a_t_size a_p2 a_p2_arcs a_p2_weight a_p3 a_p3_arcs a_p3_weight a_t_mate a_t_number t_fresh t_count t_holders t_size p2_size p2_arcs p2_weight p3_size p3_arcs p3_weight)) (va_runV (As := [.int x4, .int x6]) ⟨hx, hb, hml, hown, hts⟩ (c_Gr_arcOf l dC dI cI cZ a_p2 a_p2_arcs a_p2_weight H.size x4 x6 p2_size p2_arcs r89 hr89) (cwV 2 hts (gV gw_444 gw_318 gw_319 gw_54 gw_320) rfl rfl rfl (yd_Gr_arcOf) ⟨Nat.le_of_ble_eq_true rfl, Nat.le_of_ble_eq_true rfl⟩) (mkV hK (hP.sub (ws' := (wd_Gr_arcOf cI cZ a_p2 a_p2_arcs a_p2_weight p2_size p2_arcs)) [3, 4] rfl) (hD.sub (ws' := (wd_Gr_arcOf cI cZ a_p2 a_p2_arcs a_p2_weight p2_size p2_arcs)) [3, 4] (by decide) rfl) hN (va_recv hK hP (ci := 1) (q0 := 3) rfl rfl)) rfl rfl hl.1 rfl (lv_room (Nat.le_of_ble_eq_true rfl)) dd_Le_drawInto_89 ⟨Nat.zero_le _, Nat.zero_le _⟩) hP hD hS hA [3, 4] [0, 1, 2, 5, 6, 7, 8] [0, 1, 2, 7, 8, 3, 4, 5, 6] rfl rfl (by decide) (by decide) rfl (by decide) rfl (fun H locs hP hD hS => ?_)
              obtain ⟨r92, hr92, hf⟩ := bind_some hf
              refine xcallv (rest := []) (wc := (wd_Gr_addArc cI cZ a_p3 a_p3_arcs a_p3_weight p3_size p3_arcs)) (w1 := (wd_Gr_addArc cI cZ a_p3 a_p3_arcs a_p3_weight p3_size r92)) (wr := [(a_t, .inr (2, [.int t_fresh, .int t_count, .ref a_t_size, .ref a_t_holders, .ref a_t_mate, .ref a_t_number])), (a_t_holders, .inl (cI, 1600, .inl t_holders)), (a_t_size, .inl (cI, 40, .inl t_size)), (a_p2, .inr (1, [.int p2_size, .ref a_p2_weight, .ref a_p2_arcs])), (a_p2_arcs, .inl (cI, 1600, .inl p2_arcs)), (a_p2_weight, .inl (cI, 40, .inl p2_weight)), (a_p3_weight, .inl (cI, 40, .inl p3_weight))]) (ws' := (wd_Le_drawInto cI cZ a_t a_t_holders a_t_size a_p2 a_p2_arcs a_p2_weight a_p3 a_p3_arcs a_p3_weight a_t_mate a_t_number t_fresh t_count t_holders t_size p2_size p2_arcs p2_weight p3_size r92 p3_weight)) (va_runV (As := [.int x5, .int r67, .int r89]) ⟨hx, hb, hml, hown, hts⟩ (c_Gr_addArc l dC dI cI cZ a_p3 a_p3_arcs a_p3_weight H.size x5 r67 r89 p3_size p3_arcs r92 hr92) (cwV 3 hts (gV gw_445 gw_323 gw_324 gw_54 gw_325) rfl rfl rfl (yd_Gr_addArc) ⟨Nat.le_of_ble_eq_true rfl, Nat.le_of_ble_eq_true rfl⟩) (mkV hK (hP.sub (ws' := (wd_Gr_addArc cI cZ a_p3 a_p3_arcs a_p3_weight p3_size p3_arcs)) [6, 7] rfl) (hD.sub (ws' := (wd_Gr_addArc cI cZ a_p3 a_p3_arcs a_p3_weight p3_size p3_arcs)) [6, 7] (by decide) rfl) hN (va_recv hK hP (ci := 1) (q0 := 6) rfl rfl)) rfl rfl hl.1 rfl (lv_room (Nat.le_of_ble_eq_true rfl)) dd_Le_drawInto_92 ⟨Nat.zero_le _, Nat.zero_le _⟩) hP hD hS hA [6, 7] [0, 1, 2, 3, 4, 5, 8] [0, 1, 2, 3, 4, 5, 7, 8, 6] rfl rfl (by decide) (by decide) rfl (by decide) rfl (fun H locs hP hD hS => ?_)
              refine lv_iinc (v := x6 + 1) (lv' := [(6, .int (x6 + 1)), (7, .int r67), (0, .ref a_t), (1, .int x1), (2, .ref a_p2), (3, .ref a_p3), (4, .int x4), (5, .int x5)]) hx hb dd_Le_drawInto_95 hl (k := 7) rfl rfl (by decide) rfl (fun ls hl => ?_)
              refine lv_goto (tgt := 54) hx hb dd_Le_drawInto_98 (by decide) ?_
              exact ih54 x4 x5 (x6 + 1) p3_size r92 p3_weight _ _ _ hf (lv_sub hl [2, 3, 4, 5, 6, 7, 0] rfl) hP hD hS
      refine lv_iload hx hb dd_Le_drawInto_13 (lv_at hl 4 rfl) ?_
      refine lv_aload_n hx hb dd_Le_drawInto_15 rfl (lv_at hl 2 rfl) ?_
      refine va_get (D := (dC, dI)) (ci := 1) (v := .int p2_size) (C := rr_Gr) (T := tt_Gr) (N := 3) hx hb hts (fun w h => gwc (inn_Gr w h)) hown hK hP 3 rfl rfl 0 (by decide) (hts _ (gwc gw_90)) (fun _ h9 => h9) rfl dd_Le_drawInto_16 ?_
      refine lv_icmp_ge (tgt := 107) hx hb dd_Le_drawInto_19 (by decide) (fun cc => ?_) (fun cc => ?_)
      · skip
        have hf := if_t cc hf
        cases hf
        exact W.vret hx hb hr (fun t ht hW => ⟨⟨(), rfl, trivial, pst_of ht hP hD⟩, hS.F ht⟩) hS.2.2 dd_Le_drawInto_107
      · skip
        have hf := if_f cc hf
        refine lv_aload_n hx hb dd_Le_drawInto_22 rfl (lv_at hl 0 rfl) ?_
        refine lv_iload_n hx hb dd_Le_drawInto_23 rfl (lv_at hl 1 rfl) ?_
        refine lv_iload hx hb dd_Le_drawInto_24 (lv_at hl 4 rfl) ?_
        obtain ⟨r26, hr26, hf⟩ := bind_some hf
        refine xcalli (rest := []) (wc := (wd_Le_holder cI cZ a_t a_t_holders a_t_size a_t_mate a_t_number t_fresh t_count t_holders)) (w1 := (wd_Le_holder cI cZ a_t a_t_holders a_t_size a_t_mate a_t_number t_fresh t_count t_holders)) (wr := [(a_t_size, .inl (cI, 40, .inl t_size)), (a_p2, .inr (1, [.int p2_size, .ref a_p2_weight, .ref a_p2_arcs])), (a_p2_arcs, .inl (cI, 1600, .inl p2_arcs)), (a_p2_weight, .inl (cI, 40, .inl p2_weight)), (a_p3, .inr (1, [.int p3_size, .ref a_p3_weight, .ref a_p3_arcs])), (a_p3_arcs, .inl (cI, 1600, .inl p3_arcs)), (a_p3_weight, .inl (cI, 40, .inl p3_weight))]) (ws' := (wd_Le_drawInto cI cZ a_t a_t_holders a_t_size a_p2 a_p2_arcs a_p2_weight a_p3 a_p3_arcs a_p3_weight a_t_mate a_t_number t_fresh t_count t_holders t_size p2_size p2_arcs p2_weight p3_size p3_arcs p3_weight)) (va_runV (As := [.int x1, .int x4]) ⟨hx, hb, hml, hown, hts⟩ (c_Le_holder l dC dI cI cZ a_t a_t_holders a_t_size a_t_mate a_t_number H.size x1 x4 t_fresh t_count t_holders r26 hr26) (cwV 2 hts (gV gw_440 gw_441 gw_442 gw_56 gw_443) rfl rfl rfl (yd_Le_holder) ⟨Nat.le_of_ble_eq_true rfl, Nat.le_of_ble_eq_true rfl⟩) (mkV hK (hP.sub (ws' := (wd_Le_holder cI cZ a_t a_t_holders a_t_size a_t_mate a_t_number t_fresh t_count t_holders)) [0, 1] rfl) (hD.sub (ws' := (wd_Le_holder cI cZ a_t a_t_holders a_t_size a_t_mate a_t_number t_fresh t_count t_holders)) [0, 1] (by decide) rfl) hN (va_recv hK hP (ci := 2) (q0 := 0) rfl rfl)) rfl rfl hl.1 rfl (lv_room (Nat.le_of_ble_eq_true rfl)) dd_Le_drawInto_26 ⟨Nat.zero_le _, Nat.zero_le _⟩) hP hD hS hA [0, 1] [2, 3, 4, 5, 6, 7, 8] [7, 8, 0, 1, 2, 3, 4, 5, 6] rfl rfl (by decide) (by decide) rfl (by decide) rfl (fun H locs hP hD hS => ?_)
        refine lv_istore (lv' := [(5, .int r26), (0, .ref a_t), (1, .int x1), (2, .ref a_p2), (3, .ref a_p3), (4, .int x4)]) hx hb dd_Le_drawInto_29 hl (by decide) rfl (fun ls hl => ?_)
        refine lv_aload_n hx hb dd_Le_drawInto_31 rfl (lv_at hl 4 rfl) ?_
        refine va_get (D := (dC, dI)) (ci := 1) (v := .ref a_p3_weight) (C := rr_Gr) (T := tt_Gr) (N := 3) hx hb hts (fun w h => gwc (inn_Gr w h)) hown hK hP 6 rfl rfl 1 (by decide) (hts _ (gwc gw_97)) (fun _ h9 => h9) rfl dd_Le_drawInto_32 ?_
        refine lv_iload hx hb dd_Le_drawInto_35 (lv_at hl 0 rfl) ?_
        refine lv_dup2_11 hx hb dd_Le_drawInto_37 rfl rfl ?_
        obtain ⟨k38, hf⟩ := ck_some hf
        refine va_iald hx hb hK hP 8 0 rfl rfl (okb_in k38) dd_Le_drawInto_38 ?_
        refine lv_aload_n hx hb dd_Le_drawInto_39 rfl (lv_at hl 3 rfl) ?_
        refine va_get (D := (dC, dI)) (ci := 1) (v := .ref a_p2_weight) (C := rr_Gr) (T := tt_Gr) (N := 3) hx hb hts (fun w h => gwc (inn_Gr w h)) hown hK hP 3 rfl rfl 1 (by decide) (hts _ (gwc gw_97)) (fun _ h9 => h9) rfl dd_Le_drawInto_40 ?_
        refine lv_iload hx hb dd_Le_drawInto_43 (lv_at hl 5 rfl) ?_
        obtain ⟨k45, hf⟩ := ck_some hf
        refine va_iald hx hb hK hP 5 0 rfl rfl (okb_in k45) dd_Le_drawInto_45 ?_
        refine lv_iadd hx hb dd_Le_drawInto_46 ?_
        obtain ⟨k47, hf⟩ := ck_some hf
        refine va_iast hx hb hK hP hD hS 8 0 rfl rfl (okb_in k47) dd_Le_drawInto_47 (fun H locs hP hD hS => ?_)
        have hP : va_P (dC, dI) clsL (wd_Le_drawInto cI cZ a_t a_t_holders a_t_size a_p2 a_p2_arcs a_p2_weight a_p3 a_p3_arcs a_p3_weight a_t_mate a_t_number t_fresh t_count t_holders t_size p2_size p2_arcs p2_weight p3_size p3_arcs (upd p3_weight (r26).toNatClampNeg ((p3_weight (r26).toNatClampNeg) + (p2_weight (x4).toNatClampNeg)))) H := hP
        have hD : va_D A (wd_Le_drawInto cI cZ a_t a_t_holders a_t_size a_p2 a_p2_arcs a_p2_weight a_p3 a_p3_arcs a_p3_weight a_t_mate a_t_number t_fresh t_count t_holders t_size p2_size p2_arcs p2_weight p3_size p3_arcs (upd p3_weight (r26).toNatClampNeg ((p3_weight (r26).toNatClampNeg) + (p2_weight (x4).toNatClampNeg)))) := hD
        refine lv_iload hx hb dd_Le_drawInto_48 (lv_at hl 5 rfl) ?_
        refine lv_iconst (v := 1) hx hb dd_Le_drawInto_50 (by decide) ?_
        refine lv_iadd hx hb dd_Le_drawInto_51 ?_
        refine lv_istore (lv' := [(6, .int (x4 + 1)), (5, .int r26), (0, .ref a_t), (1, .int x1), (2, .ref a_p2), (3, .ref a_p3), (4, .int x4)]) hx hb dd_Le_drawInto_52 hl (by decide) rfl (fun ls hl => ?_)
        exact h54 64 x4 r26 (x4 + 1) p3_size p3_arcs (upd p3_weight (r26).toNatClampNeg ((p3_weight (r26).toNatClampNeg) + (p2_weight (x4).toNatClampNeg))) _ _ _ hf (lv_sub hl [2, 3, 4, 5, 6, 1, 0] rfl) hP hD hS
  refine lv_aload_n hx hb dd_Le_drawInto_0 rfl (lv_at hl 3 rfl) ?_
  refine lv_aload_n hx hb dd_Le_drawInto_1 rfl (lv_at hl 0 rfl) ?_
  refine va_get (D := (dC, dI)) (ci := 2) (v := .ref a_t_size) (C := rr_Le) (T := tt_Le) (N := 6) hx hb hts (fun w h => gwc (inn_Le w h)) hown hK hP 0 rfl rfl 2 (by decide) (hts _ (gwc gw_181)) (fun _ h9 => h9) rfl dd_Le_drawInto_2 ?_
  refine lv_iload_n hx hb dd_Le_drawInto_5 rfl (lv_at hl 1 rfl) ?_
  obtain ⟨k6, hf⟩ := ck_some hf
  refine va_iald hx hb hK hP 2 0 rfl rfl (okb_in k6) dd_Le_drawInto_6 ?_
  obtain ⟨r7, hr7, hf⟩ := bind_some hf
  refine xcallv (rest := []) (wc := (wd_Gr_empty cI cZ a_p3 a_p3_arcs a_p3_weight p3_size p3_arcs p3_weight)) (w1 := (wd_Gr_empty cI cZ a_p3 a_p3_arcs a_p3_weight r7.1 r7.2.1 r7.2.2)) (wr := [(a_t, .inr (2, [.int t_fresh, .int t_count, .ref a_t_size, .ref a_t_holders, .ref a_t_mate, .ref a_t_number])), (a_t_holders, .inl (cI, 1600, .inl t_holders)), (a_t_size, .inl (cI, 40, .inl t_size)), (a_p2, .inr (1, [.int p2_size, .ref a_p2_weight, .ref a_p2_arcs])), (a_p2_arcs, .inl (cI, 1600, .inl p2_arcs)), (a_p2_weight, .inl (cI, 40, .inl p2_weight))]) (ws' := (wd_Le_drawInto cI cZ a_t a_t_holders a_t_size a_p2 a_p2_arcs a_p2_weight a_p3 a_p3_arcs a_p3_weight a_t_mate a_t_number t_fresh t_count t_holders t_size p2_size p2_arcs p2_weight r7.1 r7.2.1 r7.2.2)) (va_runV (As := [.int (t_size (x1).toNatClampNeg)]) ⟨hx, hb, hml, hown, hts⟩ (c_Gr_empty l dC dI cI cZ a_p3 a_p3_arcs a_p3_weight H.size (t_size (x1).toNatClampNeg) p3_size p3_arcs p3_weight r7 hr7) (cwV 1 hts (gV gw_439 gw_359 gw_360 gw_54 gw_361) rfl rfl rfl (yd_Gr_empty) ⟨Nat.le_of_ble_eq_true rfl, Nat.le_of_ble_eq_true rfl⟩) (mkV hK (hP.sub (ws' := (wd_Gr_empty cI cZ a_p3 a_p3_arcs a_p3_weight p3_size p3_arcs p3_weight)) [6, 7, 8] rfl) (hD.sub (ws' := (wd_Gr_empty cI cZ a_p3 a_p3_arcs a_p3_weight p3_size p3_arcs p3_weight)) [6, 7, 8] (by decide) rfl) hN (va_recv hK hP (ci := 1) (q0 := 6) rfl rfl)) rfl rfl hl.1 rfl (lv_room (Nat.le_of_ble_eq_true rfl)) dd_Le_drawInto_7 ⟨Nat.zero_le _, Nat.zero_le _⟩) hP hD hS hA [6, 7, 8] [0, 1, 2, 3, 4, 5] [0, 1, 2, 3, 4, 5, 6, 7, 8] rfl rfl (by decide) (by decide) rfl (by decide) rfl (fun H locs hP hD hS => ?_)
  refine lv_iconst (v := 0) hx hb dd_Le_drawInto_10 (by decide) ?_
  refine lv_istore (lv' := [(4, .int 0), (0, .ref a_t), (1, .int x1), (2, .ref a_p2), (3, .ref a_p3)]) hx hb dd_Le_drawInto_11 hl (by decide) rfl (fun ls hl => ?_)
  exact h13 64 0 r7.1 r7.2.1 r7.2.2 _ _ _ hf (lv_sub hl [1, 2, 3, 4, 0] rfl) hP hD hS
abbrev wd_Le_bestMate (cI cZ : ClassId) (a_t a_t_mate a_p1 a_p1_arcs a_p1_weight a_t_size a_t_holders a_t_number : Nat) (t_fresh : Int32) (t_count : Int32) (t_mate : Nat → Int32) (p1_size : Int32) (p1_arcs : Nat → Int32) (p1_weight : Nat → Int32) : va_W := [(a_t, .inr (2, [.int t_fresh, .int t_count, .ref a_t_size, .ref a_t_holders, .ref a_t_mate, .ref a_t_number])), (a_t_mate, .inl (cI, 40, .inl t_mate)), (a_p1, .inr (1, [.int p1_size, .ref a_p1_weight, .ref a_p1_arcs])), (a_p1_arcs, .inl (cI, 1600, .inl p1_arcs)), (a_p1_weight, .inl (cI, 40, .inl p1_weight))]
set_option maxRecDepth 100000 in
set_option maxHeartbeats 4000000 in
theorem c_Le_bestMate (l : Launch) (dC : Nat → ClassId) (dI : Nat → Nat → Nat) (cI cZ : ClassId) (a_t a_t_mate a_p1 a_p1_arcs a_p1_weight a_t_size a_t_holders a_t_number sz : Nat) (x2 : Int32) (x3 : Int32) (x4 : Int32) (t_fresh : Int32) (t_count : Int32) (t_mate : Nat → Int32) (p1_size : Int32) (p1_arcs : Nat → Int32) (p1_weight : Nat → Int32) (out : Int32) (hf : f_Le_bestMate x2 x3 x4 t_mate p1_size p1_arcs p1_weight = some out) :
    Met l yy_Le_bestMate wq_Le_bestMate ({ frames := 1, cells := 0, slots := 0, locals := 22 }) (va_Pc ([.ref a_t, .ref a_p1, .int x2, .int x3, .int x4] : List Value) (pre_ (dC, dI) cI cZ sz (wd_Le_bestMate cI cZ a_t a_t_mate a_p1 a_p1_arcs a_p1_weight a_t_size a_t_holders a_t_number t_fresh t_count t_mate p1_size p1_arcs p1_weight))) (va_Qi (fun (r : Int32) (_ : Unit) => r = out) (fun _ => pst (dC, dI) (va_A (wd_Le_bestMate cI cZ a_t a_t_mate a_p1 a_p1_arcs a_p1_weight a_t_size a_t_holders a_t_number t_fresh t_count t_mate p1_size p1_arcs p1_weight) sz) (wd_Le_bestMate cI cZ a_t a_t_mate a_p1 a_p1_arcs a_p1_weight a_t_size a_t_holders a_t_number t_fresh t_count t_mate p1_size p1_arcs p1_weight)) (va_A (wd_Le_bestMate cI cZ a_t a_t_mate a_p1 a_p1_arcs a_p1_weight a_t_size a_t_holders a_t_number t_fresh t_count t_mate p1_size p1_arcs p1_weight) sz)) 0 0 (va_A (wd_Le_bestMate cI cZ a_t a_t_mate a_p1 a_p1_arcs a_p1_weight a_t_size a_t_holders a_t_number t_fresh t_count t_mate p1_size p1_arcs p1_weight) sz) := by
  refine Met.ofW (cc := cc_Le_bestMate) (maxL := 13) (ret := (some .int)) (by decide) rfl ?_
  intro p e s m args below meth c s₁ B hml hv
  obtain ⟨rfl, hsz, hP, hK, hD0, hN⟩ := hv
  have hx := B.exec
  have hb := B.bytes
  have hr := B.returns
  have hts := atoms_spec (ws := wq_Le_bestMate) B.pre
  have hown : s.vm.findClass rr_Le = some m.cls := findClass_of_methodNamed B.named
  have hlocks := B.notSynchronized
  subst hsz
  have hD := hD0.self (sz := s.heap.size)
  generalize hAe : va_A (wd_Le_bestMate cI cZ a_t a_t_mate a_p1 a_p1_arcs a_p1_weight a_t_size a_t_holders a_t_number t_fresh t_count t_mate p1_size p1_arcs p1_weight) s.heap.size = A at hD ⊢
  have hA : ∀ q : Nat, s.heap.size ≤ q → A q := fun q h => by rw [← hAe]; exact Or.inr h
  obtain ⟨H, hH⟩ : ∃ H : Heap, H = s.heap := ⟨_, rfl⟩
  have hS : va_S A s.heap H [] := by rw [hH]; exact va_S.rf
  have hl := lv_entry (([.ref a_t, .ref a_p1, .int x2, .int x3, .int x4] : List Value)) (n := 13) (Nat.le_of_ble_eq_true rfl)
  rw [lg_entry_eq]
  generalize (lg_sl (([.ref a_t, .ref a_p1, .int x2, .int x3, .int x4] : List Value)) ++ List.replicate (13 - (lg_sl (([.ref a_t, .ref a_p1, .int x2, .int x3, .int x4] : List Value))).length) Slot.unset).toArray = ls at hl ⊢
  have hl : lv_has ls 13 [(0, .ref a_t), (1, .ref a_p1), (2, .int x2), (3, .int x3), (4, .int x4)] := hl
  rw [← hH] at hP ⊢
  have hP : va_P (dC, dI) clsL (wd_Le_bestMate cI cZ a_t a_t_mate a_p1 a_p1_arcs a_p1_weight a_t_size a_t_holders a_t_number t_fresh t_count t_mate p1_size p1_arcs p1_weight) H := hP
  unfold f_Le_bestMate at hf
  have h12 : ∀ (n12 : Nat) (x5 : Int32) (x6 : Int32) (x7 : Int32) (x8 : Int32) (ls : Array Slot) (H : Heap) (locs : List Loc), L_Le_bestMate_12 x2 x3 x4 t_mate p1_size p1_arcs p1_weight n12 x5 x6 x7 x8 = some out → lv_has ls 13 [(0, .ref a_t), (1, .ref a_p1), (2, .int x2), (3, .int x3), (4, .int x4), (5, .int x5), (6, .int x6), (7, .int x7), (8, .int x8)] → va_P (dC, dI) clsL (wd_Le_bestMate cI cZ a_t a_t_mate a_p1 a_p1_arcs a_p1_weight a_t_size a_t_holders a_t_number t_fresh t_count t_mate p1_size p1_arcs p1_weight) H → va_D A (wd_Le_bestMate cI cZ a_t a_t_mate a_p1 a_p1_arcs a_p1_weight a_t_size a_t_holders a_t_number t_fresh t_count t_mate p1_size p1_arcs p1_weight) → va_S A s.heap H locs → W p l e (headSpec wq_Le_bestMate ({ frames := 1, cells := 0, slots := 0, locals := 22 })).room s m ([.ref a_t, .ref a_p1, .int x2, .int x3, .int x4] : List Value).toArray below meth c H locs 0 0 (MQ below (va_Qi (fun (r : Int32) (_ : Unit) => r = out) (fun _ => pst (dC, dI) A (wd_Le_bestMate cI cZ a_t a_t_mate a_p1 a_p1_arcs a_p1_weight a_t_size a_t_holders a_t_number t_fresh t_count t_mate p1_size p1_arcs p1_weight)) A) ([.ref a_t, .ref a_p1, .int x2, .int x3, .int x4] : List Value).toArray s 0 0 A) (F0 m 12 ls []) := by
    intro n12
    induction n12 with
    | zero =>
      intro x5 x6 x7 x8 ls H locs hf
      rw [L_Le_bestMate_12] at hf
      exact absurd hf (fun h => by cases h)
    | succ n12 ih12 =>
      intro x5 x6 x7 x8 ls H locs hf hl hP hD hS
      rw [L_Le_bestMate_12] at hf
      have h43 : ∀ (y0 : Int32) (x5 : Int32) (x6 : Int32) (x7 : Int32) (x8 : Int32) (ls : Array Slot) (H : Heap) (locs : List Loc), J_Le_bestMate_43 x2 x3 x4 p1_weight (L_Le_bestMate_12 x2 x3 x4 t_mate p1_size p1_arcs p1_weight n12) y0 x5 x6 x7 x8 = some out → lv_has ls 13 [(0, .ref a_t), (1, .ref a_p1), (2, .int x2), (3, .int x3), (4, .int x4), (5, .int x5), (6, .int x6), (7, .int x7), (8, .int x8)] → va_P (dC, dI) clsL (wd_Le_bestMate cI cZ a_t a_t_mate a_p1 a_p1_arcs a_p1_weight a_t_size a_t_holders a_t_number t_fresh t_count t_mate p1_size p1_arcs p1_weight) H → va_D A (wd_Le_bestMate cI cZ a_t a_t_mate a_p1 a_p1_arcs a_p1_weight a_t_size a_t_holders a_t_number t_fresh t_count t_mate p1_size p1_arcs p1_weight) → va_S A s.heap H locs → W p l e (headSpec wq_Le_bestMate ({ frames := 1, cells := 0, slots := 0, locals := 22 })).room s m ([.ref a_t, .ref a_p1, .int x2, .int x3, .int x4] : List Value).toArray below meth c H locs 0 0 (MQ below (va_Qi (fun (r : Int32) (_ : Unit) => r = out) (fun _ => pst (dC, dI) A (wd_Le_bestMate cI cZ a_t a_t_mate a_p1 a_p1_arcs a_p1_weight a_t_size a_t_holders a_t_number t_fresh t_count t_mate p1_size p1_arcs p1_weight)) A) ([.ref a_t, .ref a_p1, .int x2, .int x3, .int x4] : List Value).toArray s 0 0 A) (F0 m 43 ls [.int y0]) := by
        intro y0 x5 x6 x7 x8 ls H locs hf hl hP hD hS
        unfold J_Le_bestMate_43 at hf
        have h75 : ∀ (y0 : Int32) (x5 : Int32) (x6 : Int32) (x7 : Int32) (x8 : Int32) (x9 : Int32) (x10 : Int32) (ls : Array Slot) (H : Heap) (locs : List Loc), J_Le_bestMate_75 (L_Le_bestMate_12 x2 x3 x4 t_mate p1_size p1_arcs p1_weight n12) y0 x5 x6 x7 x8 x9 x10 = some out → lv_has ls 13 [(0, .ref a_t), (1, .ref a_p1), (2, .int x2), (3, .int x3), (4, .int x4), (5, .int x5), (6, .int x6), (7, .int x7), (8, .int x8), (9, .int x9), (10, .int x10)] → va_P (dC, dI) clsL (wd_Le_bestMate cI cZ a_t a_t_mate a_p1 a_p1_arcs a_p1_weight a_t_size a_t_holders a_t_number t_fresh t_count t_mate p1_size p1_arcs p1_weight) H → va_D A (wd_Le_bestMate cI cZ a_t a_t_mate a_p1 a_p1_arcs a_p1_weight a_t_size a_t_holders a_t_number t_fresh t_count t_mate p1_size p1_arcs p1_weight) → va_S A s.heap H locs → W p l e (headSpec wq_Le_bestMate ({ frames := 1, cells := 0, slots := 0, locals := 22 })).room s m ([.ref a_t, .ref a_p1, .int x2, .int x3, .int x4] : List Value).toArray below meth c H locs 0 0 (MQ below (va_Qi (fun (r : Int32) (_ : Unit) => r = out) (fun _ => pst (dC, dI) A (wd_Le_bestMate cI cZ a_t a_t_mate a_p1 a_p1_arcs a_p1_weight a_t_size a_t_holders a_t_number t_fresh t_count t_mate p1_size p1_arcs p1_weight)) A) ([.ref a_t, .ref a_p1, .int x2, .int x3, .int x4] : List Value).toArray s 0 0 A) (F0 m 75 ls [.int y0]) := by
          intro y0 x5 x6 x7 x8 x9 x10 ls H locs hf hl hP hD hS
          unfold J_Le_bestMate_75 at hf
          have h108 : ∀ (y0 : Int32) (x5 : Int32) (x6 : Int32) (x7 : Int32) (x8 : Int32) (x9 : Int32) (x10 : Int32) (x11 : Int32) (ls : Array Slot) (H : Heap) (locs : List Loc), J_Le_bestMate_108 (L_Le_bestMate_12 x2 x3 x4 t_mate p1_size p1_arcs p1_weight n12) y0 x5 x6 x7 x8 x9 x10 x11 = some out → lv_has ls 13 [(0, .ref a_t), (1, .ref a_p1), (2, .int x2), (3, .int x3), (4, .int x4), (5, .int x5), (6, .int x6), (7, .int x7), (8, .int x8), (9, .int x9), (10, .int x10), (11, .int x11)] → va_P (dC, dI) clsL (wd_Le_bestMate cI cZ a_t a_t_mate a_p1 a_p1_arcs a_p1_weight a_t_size a_t_holders a_t_number t_fresh t_count t_mate p1_size p1_arcs p1_weight) H → va_D A (wd_Le_bestMate cI cZ a_t a_t_mate a_p1 a_p1_arcs a_p1_weight a_t_size a_t_holders a_t_number t_fresh t_count t_mate p1_size p1_arcs p1_weight) → va_S A s.heap H locs → W p l e (headSpec wq_Le_bestMate ({ frames := 1, cells := 0, slots := 0, locals := 22 })).room s m ([.ref a_t, .ref a_p1, .int x2, .int x3, .int x4] : List Value).toArray below meth c H locs 0 0 (MQ below (va_Qi (fun (r : Int32) (_ : Unit) => r = out) (fun _ => pst (dC, dI) A (wd_Le_bestMate cI cZ a_t a_t_mate a_p1 a_p1_arcs a_p1_weight a_t_size a_t_holders a_t_number t_fresh t_count t_mate p1_size p1_arcs p1_weight)) A) ([.ref a_t, .ref a_p1, .int x2, .int x3, .int x4] : List Value).toArray s 0 0 A) (F0 m 108 ls [.int y0]) := by
            intro y0 x5 x6 x7 x8 x9 x10 x11 ls H locs hf hl hP hD hS
            unfold J_Le_bestMate_108 at hf
            refine lv_istore (lv' := [(12, .int y0), (0, .ref a_t), (1, .ref a_p1), (2, .int x2), (3, .int x3), (4, .int x4), (5, .int x5), (6, .int x6), (7, .int x7), (8, .int x8), (9, .int x9), (10, .int x10), (11, .int x11)]) hx hb dd_Le_bestMate_108 hl (by decide) rfl (fun ls hl => ?_)
            refine lv_iload hx hb dd_Le_bestMate_110 (lv_at hl 12 rfl) ?_
            refine lv_if_eq (tgt := 132) hx hb dd_Le_bestMate_112 (by decide) (fun cc => ?_) (fun cc => ?_)
            · skip
              have hf := if_t cc hf
              refine lv_iinc (v := x8 + 1) (lv' := [(8, .int (x8 + 1)), (12, .int y0), (0, .ref a_t), (1, .ref a_p1), (2, .int x2), (3, .int x3), (4, .int x4), (5, .int x5), (6, .int x6), (7, .int x7), (9, .int x9), (10, .int x10), (11, .int x11)]) hx hb dd_Le_bestMate_132 hl (k := 9) rfl rfl (by decide) rfl (fun ls hl => ?_)
              refine lv_goto (tgt := 12) hx hb dd_Le_bestMate_135 (by decide) ?_
              exact ih12 x5 x6 x7 (x8 + 1) _ _ _ hf (lv_sub hl [2, 3, 4, 5, 6, 7, 8, 9, 0] rfl) hP hD hS
            · skip
              have hf := if_f cc hf
              refine lv_iload hx hb dd_Le_bestMate_115 (lv_at hl 0 rfl) ?_
              refine lv_if_eq (tgt := 132) hx hb dd_Le_bestMate_117 (by decide) (fun cc => ?_) (fun cc => ?_)
              · skip
                have hf := if_t cc hf
                refine lv_iinc (v := x8 + 1) (lv' := [(8, .int (x8 + 1)), (12, .int y0), (0, .ref a_t), (1, .ref a_p1), (2, .int x2), (3, .int x3), (4, .int x4), (5, .int x5), (6, .int x6), (7, .int x7), (9, .int x9), (10, .int x10), (11, .int x11)]) hx hb dd_Le_bestMate_132 hl (k := 9) rfl rfl (by decide) rfl (fun ls hl => ?_)
                refine lv_goto (tgt := 12) hx hb dd_Le_bestMate_135 (by decide) ?_
                exact ih12 x5 x6 x7 (x8 + 1) _ _ _ hf (lv_sub hl [2, 3, 4, 5, 6, 7, 8, 9, 0] rfl) hP hD hS
              · skip
                have hf := if_f cc hf
                refine lv_iload hx hb dd_Le_bestMate_120 (lv_at hl 9 rfl) ?_
                refine lv_istore (lv' := [(5, .int x8), (12, .int y0), (0, .ref a_t), (1, .ref a_p1), (2, .int x2), (3, .int x3), (4, .int x4), (6, .int x6), (7, .int x7), (8, .int x8), (9, .int x9), (10, .int x10), (11, .int x11)]) hx hb dd_Le_bestMate_122 hl (by decide) rfl (fun ls hl => ?_)
                refine lv_iload hx hb dd_Le_bestMate_124 (lv_at hl 10 rfl) ?_
                refine lv_istore (lv' := [(6, .int x9), (5, .int x8), (12, .int y0), (0, .ref a_t), (1, .ref a_p1), (2, .int x2), (3, .int x3), (4, .int x4), (7, .int x7), (8, .int x8), (9, .int x9), (10, .int x10), (11, .int x11)]) hx hb dd_Le_bestMate_126 hl (by decide) rfl (fun ls hl => ?_)
                refine lv_iload hx hb dd_Le_bestMate_128 (lv_at hl 11 rfl) ?_
                refine lv_istore (lv' := [(7, .int x10), (6, .int x9), (5, .int x8), (12, .int y0), (0, .ref a_t), (1, .ref a_p1), (2, .int x2), (3, .int x3), (4, .int x4), (8, .int x8), (9, .int x9), (10, .int x10), (11, .int x11)]) hx hb dd_Le_bestMate_130 hl (by decide) rfl (fun ls hl => ?_)
                refine lv_iinc (v := x8 + 1) (lv' := [(8, .int (x8 + 1)), (7, .int x10), (6, .int x9), (5, .int x8), (12, .int y0), (0, .ref a_t), (1, .ref a_p1), (2, .int x2), (3, .int x3), (4, .int x4), (9, .int x9), (10, .int x10), (11, .int x11)]) hx hb dd_Le_bestMate_132 hl (k := 9) rfl rfl (by decide) rfl (fun ls hl => ?_)
                refine lv_goto (tgt := 12) hx hb dd_Le_bestMate_135 (by decide) ?_
                exact ih12 x8 x9 x10 (x8 + 1) _ _ _ hf (lv_sub hl [5, 6, 7, 8, 9, 3, 2, 1, 0] rfl) hP hD hS
          have h103 : ∀ (x5 : Int32) (x6 : Int32) (x7 : Int32) (x8 : Int32) (x9 : Int32) (x10 : Int32) (x11 : Int32) (ls : Array Slot) (H : Heap) (locs : List Loc), J_Le_bestMate_103 (L_Le_bestMate_12 x2 x3 x4 t_mate p1_size p1_arcs p1_weight n12) x5 x6 x7 x8 x9 x10 x11 = some out → lv_has ls 13 [(0, .ref a_t), (1, .ref a_p1), (2, .int x2), (3, .int x3), (4, .int x4), (5, .int x5), (6, .int x6), (7, .int x7), (8, .int x8), (9, .int x9), (10, .int x10), (11, .int x11)] → va_P (dC, dI) clsL (wd_Le_bestMate cI cZ a_t a_t_mate a_p1 a_p1_arcs a_p1_weight a_t_size a_t_holders a_t_number t_fresh t_count t_mate p1_size p1_arcs p1_weight) H → va_D A (wd_Le_bestMate cI cZ a_t a_t_mate a_p1 a_p1_arcs a_p1_weight a_t_size a_t_holders a_t_number t_fresh t_count t_mate p1_size p1_arcs p1_weight) → va_S A s.heap H locs → W p l e (headSpec wq_Le_bestMate ({ frames := 1, cells := 0, slots := 0, locals := 22 })).room s m ([.ref a_t, .ref a_p1, .int x2, .int x3, .int x4] : List Value).toArray below meth c H locs 0 0 (MQ below (va_Qi (fun (r : Int32) (_ : Unit) => r = out) (fun _ => pst (dC, dI) A (wd_Le_bestMate cI cZ a_t a_t_mate a_p1 a_p1_arcs a_p1_weight a_t_size a_t_holders a_t_number t_fresh t_count t_mate p1_size p1_arcs p1_weight)) A) ([.ref a_t, .ref a_p1, .int x2, .int x3, .int x4] : List Value).toArray s 0 0 A) (F0 m 103 ls []) := by
            intro x5 x6 x7 x8 x9 x10 x11 ls H locs hf hl hP hD hS
            unfold J_Le_bestMate_103 at hf
            refine lv_iconst (v := 1) hx hb dd_Le_bestMate_103 (by decide) ?_
            refine lv_goto (tgt := 108) hx hb dd_Le_bestMate_104 (by decide) ?_
            exact h108 1 x5 x6 x7 x8 x9 x10 x11 _ _ _ hf (lv_sub hl [0, 1, 2, 3, 4, 5, 6, 7, 8, 9, 10, 11] rfl) hP hD hS
          have h107 : ∀ (x5 : Int32) (x6 : Int32) (x7 : Int32) (x8 : Int32) (x9 : Int32) (x10 : Int32) (x11 : Int32) (ls : Array Slot) (H : Heap) (locs : List Loc), J_Le_bestMate_107 (L_Le_bestMate_12 x2 x3 x4 t_mate p1_size p1_arcs p1_weight n12) x5 x6 x7 x8 x9 x10 x11 = some out → lv_has ls 13 [(0, .ref a_t), (1, .ref a_p1), (2, .int x2), (3, .int x3), (4, .int x4), (5, .int x5), (6, .int x6), (7, .int x7), (8, .int x8), (9, .int x9), (10, .int x10), (11, .int x11)] → va_P (dC, dI) clsL (wd_Le_bestMate cI cZ a_t a_t_mate a_p1 a_p1_arcs a_p1_weight a_t_size a_t_holders a_t_number t_fresh t_count t_mate p1_size p1_arcs p1_weight) H → va_D A (wd_Le_bestMate cI cZ a_t a_t_mate a_p1 a_p1_arcs a_p1_weight a_t_size a_t_holders a_t_number t_fresh t_count t_mate p1_size p1_arcs p1_weight) → va_S A s.heap H locs → W p l e (headSpec wq_Le_bestMate ({ frames := 1, cells := 0, slots := 0, locals := 22 })).room s m ([.ref a_t, .ref a_p1, .int x2, .int x3, .int x4] : List Value).toArray below meth c H locs 0 0 (MQ below (va_Qi (fun (r : Int32) (_ : Unit) => r = out) (fun _ => pst (dC, dI) A (wd_Le_bestMate cI cZ a_t a_t_mate a_p1 a_p1_arcs a_p1_weight a_t_size a_t_holders a_t_number t_fresh t_count t_mate p1_size p1_arcs p1_weight)) A) ([.ref a_t, .ref a_p1, .int x2, .int x3, .int x4] : List Value).toArray s 0 0 A) (F0 m 107 ls []) := by
            intro x5 x6 x7 x8 x9 x10 x11 ls H locs hf hl hP hD hS
            unfold J_Le_bestMate_107 at hf
            refine lv_iconst (v := 0) hx hb dd_Le_bestMate_107 (by decide) ?_
            exact h108 0 x5 x6 x7 x8 x9 x10 x11 _ _ _ hf (lv_sub hl [0, 1, 2, 3, 4, 5, 6, 7, 8, 9, 10, 11] rfl) hP hD hS
          refine lv_istore (lv' := [(11, .int y0), (0, .ref a_t), (1, .ref a_p1), (2, .int x2), (3, .int x3), (4, .int x4), (5, .int x5), (6, .int x6), (7, .int x7), (8, .int x8), (9, .int x9), (10, .int x10)]) hx hb dd_Le_bestMate_75 hl (by decide) rfl (fun ls hl => ?_)
          refine lv_iload hx hb dd_Le_bestMate_77 (lv_at hl 10 rfl) ?_
          refine lv_iload hx hb dd_Le_bestMate_79 (lv_at hl 7 rfl) ?_
          refine lv_icmp_gt (tgt := 103) hx hb dd_Le_bestMate_81 (by decide) (fun cc => ?_) (fun cc => ?_)
          · skip
            have hf := if_t cc hf
            exact h103 x5 x6 x7 x8 x9 x10 y0 _ _ _ hf (lv_sub hl [1, 2, 3, 4, 5, 6, 7, 8, 9, 10, 11, 0] rfl) hP hD hS
          · skip
            have hf := if_f cc hf
            refine lv_iload hx hb dd_Le_bestMate_84 (lv_at hl 10 rfl) ?_
            refine lv_if_le (tgt := 107) hx hb dd_Le_bestMate_86 (by decide) (fun cc => ?_) (fun cc => ?_)
            · skip
              have hf := if_t cc hf
              exact h107 x5 x6 x7 x8 x9 x10 y0 _ _ _ hf (lv_sub hl [1, 2, 3, 4, 5, 6, 7, 8, 9, 10, 11, 0] rfl) hP hD hS
            · skip
              have hf := if_f cc hf
              refine lv_iload hx hb dd_Le_bestMate_89 (lv_at hl 10 rfl) ?_
              refine lv_iload hx hb dd_Le_bestMate_91 (lv_at hl 7 rfl) ?_
              refine lv_icmp_ne (tgt := 107) hx hb dd_Le_bestMate_93 (by decide) (fun cc => ?_) (fun cc => ?_)
              · skip
                have hf := if_f cc hf
                exact h107 x5 x6 x7 x8 x9 x10 y0 _ _ _ hf (lv_sub hl [1, 2, 3, 4, 5, 6, 7, 8, 9, 10, 11, 0] rfl) hP hD hS
              · skip
                have hf := if_t cc hf
                refine lv_iload hx hb dd_Le_bestMate_96 (lv_at hl 11 rfl) ?_
                refine lv_iload hx hb dd_Le_bestMate_98 (lv_at hl 8 rfl) ?_
                refine lv_icmp_ge (tgt := 107) hx hb dd_Le_bestMate_100 (by decide) (fun cc => ?_) (fun cc => ?_)
                · skip
                  have hf := if_t cc hf
                  exact h107 x5 x6 x7 x8 x9 x10 y0 _ _ _ hf (lv_sub hl [1, 2, 3, 4, 5, 6, 7, 8, 9, 10, 11, 0] rfl) hP hD hS
                · skip
                  have hf := if_f cc hf
                  exact h103 x5 x6 x7 x8 x9 x10 y0 _ _ _ hf (lv_sub hl [1, 2, 3, 4, 5, 6, 7, 8, 9, 10, 11, 0] rfl) hP hD hS
        refine lv_istore (lv' := [(9, .int y0), (0, .ref a_t), (1, .ref a_p1), (2, .int x2), (3, .int x3), (4, .int x4), (5, .int x5), (6, .int x6), (7, .int x7), (8, .int x8)]) hx hb dd_Le_bestMate_43 hl (by decide) rfl (fun ls hl => ?_)
        refine lv_aload_n hx hb dd_Le_bestMate_45 rfl (lv_at hl 2 rfl) ?_
        refine va_get (D := (dC, dI)) (ci := 1) (v := .ref a_p1_weight) (C := rr_Gr) (T := tt_Gr) (N := 3) hx hb hts (fun w h => gwc (inn_Gr w h)) hown hK hP 2 rfl rfl 1 (by decide) (hts _ (gwc gw_97)) (fun _ h9 => h9) rfl dd_Le_bestMate_46 ?_
        refine lv_iload hx hb dd_Le_bestMate_49 (lv_at hl 9 rfl) ?_
        obtain ⟨k51, hf⟩ := ck_some hf
        refine va_iald hx hb hK hP 4 0 rfl rfl (okb_in k51) dd_Le_bestMate_51 ?_
        refine lv_istore (lv' := [(10, .int (p1_weight (x8).toNatClampNeg)), (9, .int y0), (0, .ref a_t), (1, .ref a_p1), (2, .int x2), (3, .int x3), (4, .int x4), (5, .int x5), (6, .int x6), (7, .int x7), (8, .int x8)]) hx hb dd_Le_bestMate_52 hl (by decide) rfl (fun ls hl => ?_)
        refine lv_aload_n hx hb dd_Le_bestMate_54 rfl (lv_at hl 3 rfl) ?_
        refine va_get (D := (dC, dI)) (ci := 1) (v := .ref a_p1_weight) (C := rr_Gr) (T := tt_Gr) (N := 3) hx hb hts (fun w h => gwc (inn_Gr w h)) hown hK hP 2 rfl rfl 1 (by decide) (hts _ (gwc gw_97)) (fun _ h9 => h9) rfl dd_Le_bestMate_55 ?_
        refine lv_iload_n hx hb dd_Le_bestMate_58 rfl (lv_at hl 4 rfl) ?_
        obtain ⟨k59, hf⟩ := ck_some hf
        refine va_iald hx hb hK hP 4 0 rfl rfl (okb_in k59) dd_Le_bestMate_59 ?_
        refine lv_iload hx hb dd_Le_bestMate_60 (lv_at hl 0 rfl) ?_
        refine lv_iadd hx hb dd_Le_bestMate_62 ?_
        refine lv_iload hx hb dd_Le_bestMate_63 (lv_at hl 6 rfl) ?_
        refine lv_imul hx hb dd_Le_bestMate_65 ?_
        refine lv_iload_n hx hb dd_Le_bestMate_66 rfl (lv_at hl 5 rfl) ?_
        refine lv_icmp_gt (tgt := 74) hx hb dd_Le_bestMate_67 (by decide) (fun cc => ?_) (fun cc => ?_)
        · skip
          have hf := if_t cc hf
          refine lv_iconst (v := 0) hx hb dd_Le_bestMate_74 (by decide) ?_
          exact h75 0 x5 x6 x7 x8 y0 (p1_weight (x8).toNatClampNeg) _ _ _ hf (lv_sub hl [2, 3, 4, 5, 6, 7, 8, 9, 10, 1, 0] rfl) hP hD hS
        · skip
          have hf := if_f cc hf
          refine lv_iconst (v := 1) hx hb dd_Le_bestMate_70 (by decide) ?_
          refine lv_goto (tgt := 75) hx hb dd_Le_bestMate_71 (by decide) ?_
          exact h75 1 x5 x6 x7 x8 y0 (p1_weight (x8).toNatClampNeg) _ _ _ hf (lv_sub hl [2, 3, 4, 5, 6, 7, 8, 9, 10, 1, 0] rfl) hP hD hS
      refine lv_iload hx hb dd_Le_bestMate_12 (lv_at hl 8 rfl) ?_
      refine lv_aload_n hx hb dd_Le_bestMate_14 rfl (lv_at hl 1 rfl) ?_
      refine va_get (D := (dC, dI)) (ci := 1) (v := .int p1_size) (C := rr_Gr) (T := tt_Gr) (N := 3) hx hb hts (fun w h => gwc (inn_Gr w h)) hown hK hP 2 rfl rfl 0 (by decide) (hts _ (gwc gw_90)) (fun _ h9 => h9) rfl dd_Le_bestMate_15 ?_
      refine lv_icmp_ge (tgt := 138) hx hb dd_Le_bestMate_18 (by decide) (fun cc => ?_) (fun cc => ?_)
      · skip
        have hf := if_t cc hf
        refine lv_iload hx hb dd_Le_bestMate_138 (lv_at hl 5 rfl) ?_
        cases hf
        exact W.iret hx hb hr (fun t ht hW => ⟨⟨_, (), rfl, rfl, pst_of ht hP hD⟩, hS.F ht⟩) hS.2.2 dd_Le_bestMate_140
      · skip
        have hf := if_f cc hf
        refine lv_aload_n hx hb dd_Le_bestMate_21 rfl (lv_at hl 0 rfl) ?_
        refine va_get (D := (dC, dI)) (ci := 2) (v := .ref a_t_mate) (C := rr_Le) (T := tt_Le) (N := 6) hx hb hts (fun w h => gwc (inn_Le w h)) hown hK hP 0 rfl rfl 4 (by decide) (hts _ (gwc gw_183)) (fun _ h9 => h9) rfl dd_Le_bestMate_22 ?_
        refine lv_iload hx hb dd_Le_bestMate_25 (lv_at hl 8 rfl) ?_
        obtain ⟨k27, hf⟩ := ck_some hf
        refine va_iald hx hb hK hP 1 0 rfl rfl (okb_in k27) dd_Le_bestMate_27 ?_
        refine lv_iconst (v := -1) hx hb dd_Le_bestMate_28 (by decide) ?_
        refine lv_icmp_ne (tgt := 42) hx hb dd_Le_bestMate_29 (by decide) (fun cc => ?_) (fun cc => ?_)
        · skip
          have hf := if_f cc hf
          refine lv_iconst (v := 0) hx hb dd_Le_bestMate_42 (by decide) ?_
          exact h43 0 x5 x6 x7 x8 _ _ _ hf (lv_sub hl [0, 1, 2, 3, 4, 5, 6, 7, 8] rfl) hP hD hS
        · skip
          have hf := if_t cc hf
          refine lv_aload_n hx hb dd_Le_bestMate_32 rfl (lv_at hl 1 rfl) ?_
          refine lv_iload_n hx hb dd_Le_bestMate_33 rfl (lv_at hl 2 rfl) ?_
          refine lv_iload hx hb dd_Le_bestMate_34 (lv_at hl 8 rfl) ?_
          obtain ⟨r36, hr36, hf⟩ := bind_some hf
          refine xcalli (rest := []) (wc := (wd_Gr_arcOf cI cZ a_p1 a_p1_arcs a_p1_weight p1_size p1_arcs)) (w1 := (wd_Gr_arcOf cI cZ a_p1 a_p1_arcs a_p1_weight p1_size p1_arcs)) (wr := [(a_t, .inr (2, [.int t_fresh, .int t_count, .ref a_t_size, .ref a_t_holders, .ref a_t_mate, .ref a_t_number])), (a_t_mate, .inl (cI, 40, .inl t_mate)), (a_p1_weight, .inl (cI, 40, .inl p1_weight))]) (ws' := (wd_Le_bestMate cI cZ a_t a_t_mate a_p1 a_p1_arcs a_p1_weight a_t_size a_t_holders a_t_number t_fresh t_count t_mate p1_size p1_arcs p1_weight)) (va_runV (As := [.int x2, .int x8]) ⟨hx, hb, hml, hown, hts⟩ (c_Gr_arcOf l dC dI cI cZ a_p1 a_p1_arcs a_p1_weight H.size x2 x8 p1_size p1_arcs r36 hr36) (cwV 2 hts (gV gw_444 gw_318 gw_319 gw_54 gw_320) rfl rfl rfl (yd_Gr_arcOf) ⟨Nat.le_of_ble_eq_true rfl, Nat.le_of_ble_eq_true rfl⟩) (mkV hK (hP.sub (ws' := (wd_Gr_arcOf cI cZ a_p1 a_p1_arcs a_p1_weight p1_size p1_arcs)) [2, 3] rfl) (hD.sub (ws' := (wd_Gr_arcOf cI cZ a_p1 a_p1_arcs a_p1_weight p1_size p1_arcs)) [2, 3] (by decide) rfl) hN (va_recv hK hP (ci := 1) (q0 := 2) rfl rfl)) rfl rfl hl.1 rfl (lv_room (Nat.le_of_ble_eq_true rfl)) dd_Le_bestMate_36 ⟨Nat.zero_le _, Nat.zero_le _⟩) hP hD hS hA [2, 3] [0, 1, 4] [0, 1, 3, 4, 2] rfl rfl (by decide) (by decide) rfl (by decide) rfl (fun H locs hP hD hS => ?_)
          refine lv_goto (tgt := 43) hx hb dd_Le_bestMate_39 (by decide) ?_
          exact h43 r36 x5 x6 x7 x8 _ _ _ hf (lv_sub hl [0, 1, 2, 3, 4, 5, 6, 7, 8] rfl) hP hD hS
  refine lv_iconst (v := -1) hx hb dd_Le_bestMate_0 (by decide) ?_
  refine lv_istore (lv' := [(5, .int (-1)), (0, .ref a_t), (1, .ref a_p1), (2, .int x2), (3, .int x3), (4, .int x4)]) hx hb dd_Le_bestMate_1 hl (by decide) rfl (fun ls hl => ?_)
  refine lv_iconst (v := 0) hx hb dd_Le_bestMate_3 (by decide) ?_
  refine lv_istore (lv' := [(6, .int 0), (5, .int (-1)), (0, .ref a_t), (1, .ref a_p1), (2, .int x2), (3, .int x3), (4, .int x4)]) hx hb dd_Le_bestMate_4 hl (by decide) rfl (fun ls hl => ?_)
  refine lv_iconst (v := 0) hx hb dd_Le_bestMate_6 (by decide) ?_
  refine lv_istore (lv' := [(7, .int 0), (6, .int 0), (5, .int (-1)), (0, .ref a_t), (1, .ref a_p1), (2, .int x2), (3, .int x3), (4, .int x4)]) hx hb dd_Le_bestMate_7 hl (by decide) rfl (fun ls hl => ?_)
  refine lv_iconst (v := 0) hx hb dd_Le_bestMate_9 (by decide) ?_
  refine lv_istore (lv' := [(8, .int 0), (7, .int 0), (6, .int 0), (5, .int (-1)), (0, .ref a_t), (1, .ref a_p1), (2, .int x2), (3, .int x3), (4, .int x4)]) hx hb dd_Le_bestMate_10 hl (by decide) rfl (fun ls hl => ?_)
  exact h12 64 (-1) 0 0 0 _ _ _ hf (lv_sub hl [4, 5, 6, 7, 8, 3, 2, 1, 0] rfl) hP hD hS
abbrev wd_Le_joinAll (cI cZ : ClassId) (a_t a_t_mate a_p1 a_p1_arcs a_p1_weight a_t_size a_t_holders a_t_number : Nat) (t_fresh : Int32) (t_count : Int32) (t_mate : Nat → Int32) (p1_size : Int32) (p1_arcs : Nat → Int32) (p1_weight : Nat → Int32) : va_W := [(a_t, .inr (2, [.int t_fresh, .int t_count, .ref a_t_size, .ref a_t_holders, .ref a_t_mate, .ref a_t_number])), (a_t_mate, .inl (cI, 40, .inl t_mate)), (a_p1, .inr (1, [.int p1_size, .ref a_p1_weight, .ref a_p1_arcs])), (a_p1_arcs, .inl (cI, 1600, .inl p1_arcs)), (a_p1_weight, .inl (cI, 40, .inl p1_weight))]
set_option maxRecDepth 100000 in
set_option maxHeartbeats 4000000 in
theorem c_Le_joinAll (l : Launch) (dC : Nat → ClassId) (dI : Nat → Nat → Nat) (cI cZ : ClassId) (a_t a_t_mate a_p1 a_p1_arcs a_p1_weight a_t_size a_t_holders a_t_number sz : Nat) (x2 : Int32) (t_fresh : Int32) (t_count : Int32) (t_mate : Nat → Int32) (p1_size : Int32) (p1_arcs : Nat → Int32) (p1_weight : Nat → Int32) (out : Int32 × (Nat → Int32)) (hf : f_Le_joinAll x2 p1_size p1_arcs p1_weight = some out) :
    Met l yy_Le_joinAll wq_Le_joinAll ({ frames := 2, cells := 0, slots := 0, locals := 54 }) (va_Pc ([.ref a_t, .ref a_p1, .int x2] : List Value) (pre_ (dC, dI) cI cZ sz (wd_Le_joinAll cI cZ a_t a_t_mate a_p1 a_p1_arcs a_p1_weight a_t_size a_t_holders a_t_number t_fresh t_count t_mate p1_size p1_arcs p1_weight))) (va_Qi (fun (r : Int32) (_ : Unit) => r = out.1) (fun _ => pst (dC, dI) (va_A (wd_Le_joinAll cI cZ a_t a_t_mate a_p1 a_p1_arcs a_p1_weight a_t_size a_t_holders a_t_number t_fresh t_count t_mate p1_size p1_arcs p1_weight) sz) (wd_Le_joinAll cI cZ a_t a_t_mate a_p1 a_p1_arcs a_p1_weight a_t_size a_t_holders a_t_number t_fresh t_count out.2 p1_size p1_arcs p1_weight)) (va_A (wd_Le_joinAll cI cZ a_t a_t_mate a_p1 a_p1_arcs a_p1_weight a_t_size a_t_holders a_t_number t_fresh t_count t_mate p1_size p1_arcs p1_weight) sz)) 0 0 (va_A (wd_Le_joinAll cI cZ a_t a_t_mate a_p1 a_p1_arcs a_p1_weight a_t_size a_t_holders a_t_number t_fresh t_count t_mate p1_size p1_arcs p1_weight) sz) := by
  refine Met.ofW (cc := cc_Le_joinAll) (maxL := 7) (ret := (some .boolean)) (by decide) rfl ?_
  intro p e s m args below meth c s₁ B hml hv
  obtain ⟨rfl, hsz, hP, hK, hD0, hN⟩ := hv
  have hx := B.exec
  have hb := B.bytes
  have hr := B.returns
  have hts := atoms_spec (ws := wq_Le_joinAll) B.pre
  have hown : s.vm.findClass rr_Le = some m.cls := findClass_of_methodNamed B.named
  have hlocks := B.notSynchronized
  subst hsz
  have hD := hD0.self (sz := s.heap.size)
  generalize hAe : va_A (wd_Le_joinAll cI cZ a_t a_t_mate a_p1 a_p1_arcs a_p1_weight a_t_size a_t_holders a_t_number t_fresh t_count t_mate p1_size p1_arcs p1_weight) s.heap.size = A at hD ⊢
  have hA : ∀ q : Nat, s.heap.size ≤ q → A q := fun q h => by rw [← hAe]; exact Or.inr h
  obtain ⟨H, hH⟩ : ∃ H : Heap, H = s.heap := ⟨_, rfl⟩
  have hS : va_S A s.heap H [] := by rw [hH]; exact va_S.rf
  have hl := lv_entry (([.ref a_t, .ref a_p1, .int x2] : List Value)) (n := 7) (Nat.le_of_ble_eq_true rfl)
  rw [lg_entry_eq]
  generalize (lg_sl (([.ref a_t, .ref a_p1, .int x2] : List Value)) ++ List.replicate (7 - (lg_sl (([.ref a_t, .ref a_p1, .int x2] : List Value))).length) Slot.unset).toArray = ls at hl ⊢
  have hl : lv_has ls 7 [(0, .ref a_t), (1, .ref a_p1), (2, .int x2)] := hl
  rw [← hH] at hP ⊢
  have hP : va_P (dC, dI) clsL (wd_Le_joinAll cI cZ a_t a_t_mate a_p1 a_p1_arcs a_p1_weight a_t_size a_t_holders a_t_number t_fresh t_count t_mate p1_size p1_arcs p1_weight) H := hP
  unfold f_Le_joinAll at hf
  have h19 : ∀ (n19 : Nat) (x3 : Int32) (x4 : Int32) (x5 : Int32) (t_mate : Nat → Int32) (ls : Array Slot) (H : Heap) (locs : List Loc), L_Le_joinAll_19 x2 p1_size p1_arcs p1_weight n19 x3 x4 x5 t_mate = some out → lv_has ls 7 [(0, .ref a_t), (1, .ref a_p1), (2, .int x2), (3, .int x3), (4, .int x4), (5, .int x5)] → va_P (dC, dI) clsL (wd_Le_joinAll cI cZ a_t a_t_mate a_p1 a_p1_arcs a_p1_weight a_t_size a_t_holders a_t_number t_fresh t_count t_mate p1_size p1_arcs p1_weight) H → va_D A (wd_Le_joinAll cI cZ a_t a_t_mate a_p1 a_p1_arcs a_p1_weight a_t_size a_t_holders a_t_number t_fresh t_count t_mate p1_size p1_arcs p1_weight) → va_S A s.heap H locs → W p l e (headSpec wq_Le_joinAll ({ frames := 2, cells := 0, slots := 0, locals := 54 })).room s m ([.ref a_t, .ref a_p1, .int x2] : List Value).toArray below meth c H locs 0 0 (MQ below (va_Qi (fun (r : Int32) (_ : Unit) => r = out.1) (fun _ => pst (dC, dI) A (wd_Le_joinAll cI cZ a_t a_t_mate a_p1 a_p1_arcs a_p1_weight a_t_size a_t_holders a_t_number t_fresh t_count out.2 p1_size p1_arcs p1_weight)) A) ([.ref a_t, .ref a_p1, .int x2] : List Value).toArray s 0 0 A) (F0 m 19 ls []) := by
    intro n19
    induction n19 with
    | zero =>
      intro x3 x4 x5 t_mate ls H locs hf
      rw [L_Le_joinAll_19] at hf
      exact absurd hf (fun h => by cases h)
    | succ n19 ih19 =>
      intro x3 x4 x5 t_mate ls H locs hf hl hP hD hS
      rw [L_Le_joinAll_19] at hf
      have h54 : ∀ (y0 : Int32) (x3 : Int32) (x4 : Int32) (x5 : Int32) (t_mate : Nat → Int32) (ls : Array Slot) (H : Heap) (locs : List Loc), J_Le_joinAll_54 (L_Le_joinAll_19 x2 p1_size p1_arcs p1_weight n19) y0 x3 x4 x5 t_mate = some out → lv_has ls 7 [(0, .ref a_t), (1, .ref a_p1), (2, .int x2), (3, .int x3), (4, .int x4), (5, .int x5)] → va_P (dC, dI) clsL (wd_Le_joinAll cI cZ a_t a_t_mate a_p1 a_p1_arcs a_p1_weight a_t_size a_t_holders a_t_number t_fresh t_count t_mate p1_size p1_arcs p1_weight) H → va_D A (wd_Le_joinAll cI cZ a_t a_t_mate a_p1 a_p1_arcs a_p1_weight a_t_size a_t_holders a_t_number t_fresh t_count t_mate p1_size p1_arcs p1_weight) → va_S A s.heap H locs → W p l e (headSpec wq_Le_joinAll ({ frames := 2, cells := 0, slots := 0, locals := 54 })).room s m ([.ref a_t, .ref a_p1, .int x2] : List Value).toArray below meth c H locs 0 0 (MQ below (va_Qi (fun (r : Int32) (_ : Unit) => r = out.1) (fun _ => pst (dC, dI) A (wd_Le_joinAll cI cZ a_t a_t_mate a_p1 a_p1_arcs a_p1_weight a_t_size a_t_holders a_t_number t_fresh t_count out.2 p1_size p1_arcs p1_weight)) A) ([.ref a_t, .ref a_p1, .int x2] : List Value).toArray s 0 0 A) (F0 m 54 ls [.int y0]) := by
        intro y0 x3 x4 x5 t_mate ls H locs hf hl hP hD hS
        unfold J_Le_joinAll_54 at hf
        refine lv_istore (lv' := [(6, .int y0), (0, .ref a_t), (1, .ref a_p1), (2, .int x2), (3, .int x3), (4, .int x4), (5, .int x5)]) hx hb dd_Le_joinAll_54 hl (by decide) rfl (fun ls hl => ?_)
        refine lv_iload hx hb dd_Le_joinAll_56 (lv_at hl 0 rfl) ?_
        refine lv_iconst (v := -1) hx hb dd_Le_joinAll_58 (by decide) ?_
        refine lv_icmp_eq (tgt := 83) hx hb dd_Le_joinAll_59 (by decide) (fun cc => ?_) (fun cc => ?_)
        · skip
          have hf := if_t cc hf
          refine lv_iinc (v := x5 + 1) (lv' := [(5, .int (x5 + 1)), (6, .int y0), (0, .ref a_t), (1, .ref a_p1), (2, .int x2), (3, .int x3), (4, .int x4)]) hx hb dd_Le_joinAll_83 hl (k := 6) rfl rfl (by decide) rfl (fun ls hl => ?_)
          refine lv_goto (tgt := 19) hx hb dd_Le_joinAll_86 (by decide) ?_
          exact ih19 x3 x4 (x5 + 1) t_mate _ _ _ hf (lv_sub hl [2, 3, 4, 5, 6, 0] rfl) hP hD hS
        · skip
          have hf := if_f cc hf
          refine lv_aload_n hx hb dd_Le_joinAll_62 rfl (lv_at hl 1 rfl) ?_
          refine va_get (D := (dC, dI)) (ci := 2) (v := .ref a_t_mate) (C := rr_Le) (T := tt_Le) (N := 6) hx hb hts (fun w h => gwc (inn_Le w h)) hown hK hP 0 rfl rfl 4 (by decide) (hts _ (gwc gw_183)) (fun _ h9 => h9) rfl dd_Le_joinAll_63 ?_
          refine lv_iload hx hb dd_Le_joinAll_66 (lv_at hl 6 rfl) ?_
          refine lv_iload hx hb dd_Le_joinAll_68 (lv_at hl 0 rfl) ?_
          obtain ⟨k70, hf⟩ := ck_some hf
          refine va_iast hx hb hK hP hD hS 1 0 rfl rfl (okb_in k70) dd_Le_joinAll_70 (fun H locs hP hD hS => ?_)
          have hP : va_P (dC, dI) clsL (wd_Le_joinAll cI cZ a_t a_t_mate a_p1 a_p1_arcs a_p1_weight a_t_size a_t_holders a_t_number t_fresh t_count (upd t_mate (x5).toNatClampNeg y0) p1_size p1_arcs p1_weight) H := hP
          have hD : va_D A (wd_Le_joinAll cI cZ a_t a_t_mate a_p1 a_p1_arcs a_p1_weight a_t_size a_t_holders a_t_number t_fresh t_count (upd t_mate (x5).toNatClampNeg y0) p1_size p1_arcs p1_weight) := hD
          refine lv_aload_n hx hb dd_Le_joinAll_71 rfl (lv_at hl 1 rfl) ?_
          refine va_get (D := (dC, dI)) (ci := 2) (v := .ref a_t_mate) (C := rr_Le) (T := tt_Le) (N := 6) hx hb hts (fun w h => gwc (inn_Le w h)) hown hK hP 0 rfl rfl 4 (by decide) (hts _ (gwc gw_183)) (fun _ h9 => h9) rfl dd_Le_joinAll_72 ?_
          refine lv_iload hx hb dd_Le_joinAll_75 (lv_at hl 0 rfl) ?_
          refine lv_iload hx hb dd_Le_joinAll_77 (lv_at hl 6 rfl) ?_
          obtain ⟨k79, hf⟩ := ck_some hf
          refine va_iast hx hb hK hP hD hS 1 0 rfl rfl (okb_in k79) dd_Le_joinAll_79 (fun H locs hP hD hS => ?_)
          have hP : va_P (dC, dI) clsL (wd_Le_joinAll cI cZ a_t a_t_mate a_p1 a_p1_arcs a_p1_weight a_t_size a_t_holders a_t_number t_fresh t_count (upd (upd t_mate (x5).toNatClampNeg y0) (y0).toNatClampNeg x5) p1_size p1_arcs p1_weight) H := hP
          have hD : va_D A (wd_Le_joinAll cI cZ a_t a_t_mate a_p1 a_p1_arcs a_p1_weight a_t_size a_t_holders a_t_number t_fresh t_count (upd (upd t_mate (x5).toNatClampNeg y0) (y0).toNatClampNeg x5) p1_size p1_arcs p1_weight) := hD
          refine lv_iconst (v := 1) hx hb dd_Le_joinAll_80 (by decide) ?_
          refine lv_istore (lv' := [(4, .int 1), (6, .int y0), (0, .ref a_t), (1, .ref a_p1), (2, .int x2), (3, .int x3), (5, .int x5)]) hx hb dd_Le_joinAll_81 hl (by decide) rfl (fun ls hl => ?_)
          refine lv_iinc (v := x5 + 1) (lv' := [(5, .int (x5 + 1)), (4, .int 1), (6, .int y0), (0, .ref a_t), (1, .ref a_p1), (2, .int x2), (3, .int x3)]) hx hb dd_Le_joinAll_83 hl (k := 6) rfl rfl (by decide) rfl (fun ls hl => ?_)
          refine lv_goto (tgt := 19) hx hb dd_Le_joinAll_86 (by decide) ?_
          exact ih19 x3 1 (x5 + 1) (upd (upd t_mate (x5).toNatClampNeg y0) (y0).toNatClampNeg x5) _ _ _ hf (lv_sub hl [3, 4, 5, 6, 1, 0] rfl) hP hD hS
      refine lv_iload hx hb dd_Le_joinAll_19 (lv_at hl 5 rfl) ?_
      refine lv_aload_n hx hb dd_Le_joinAll_21 rfl (lv_at hl 1 rfl) ?_
      refine va_get (D := (dC, dI)) (ci := 1) (v := .int p1_size) (C := rr_Gr) (T := tt_Gr) (N := 3) hx hb hts (fun w h => gwc (inn_Gr w h)) hown hK hP 2 rfl rfl 0 (by decide) (hts _ (gwc gw_90)) (fun _ h9 => h9) rfl dd_Le_joinAll_22 ?_
      refine lv_icmp_ge (tgt := 89) hx hb dd_Le_joinAll_25 (by decide) (fun cc => ?_) (fun cc => ?_)
      · skip
        have hf := if_t cc hf
        refine lv_iload hx hb dd_Le_joinAll_89 (lv_at hl 4 rfl) ?_
        obtain ⟨k91, hf⟩ := ck_some hf
        cases hf
        exact W.zret hx hb hr (okB_n k91) (fun t ht hW => ⟨⟨_, (), rfl, rfl, pst_of ht hP hD⟩, hS.F ht⟩) hS.2.2 dd_Le_joinAll_91
      · skip
        have hf := if_f cc hf
        refine lv_aload_n hx hb dd_Le_joinAll_28 rfl (lv_at hl 0 rfl) ?_
        refine va_get (D := (dC, dI)) (ci := 2) (v := .ref a_t_mate) (C := rr_Le) (T := tt_Le) (N := 6) hx hb hts (fun w h => gwc (inn_Le w h)) hown hK hP 0 rfl rfl 4 (by decide) (hts _ (gwc gw_183)) (fun _ h9 => h9) rfl dd_Le_joinAll_29 ?_
        refine lv_iload hx hb dd_Le_joinAll_32 (lv_at hl 5 rfl) ?_
        obtain ⟨k34, hf⟩ := ck_some hf
        refine va_iald hx hb hK hP 1 0 rfl rfl (okb_in k34) dd_Le_joinAll_34 ?_
        refine lv_iconst (v := -1) hx hb dd_Le_joinAll_35 (by decide) ?_
        refine lv_icmp_ne (tgt := 53) hx hb dd_Le_joinAll_36 (by decide) (fun cc => ?_) (fun cc => ?_)
        · skip
          have hf := if_f cc hf
          refine lv_iconst (v := -1) hx hb dd_Le_joinAll_53 (by decide) ?_
          exact h54 (-1) x3 x4 x5 t_mate _ _ _ hf (lv_sub hl [0, 1, 2, 3, 4, 5] rfl) hP hD hS
        · skip
          have hf := if_t cc hf
          refine lv_aload_n hx hb dd_Le_joinAll_39 rfl (lv_at hl 0 rfl) ?_
          refine lv_aload_n hx hb dd_Le_joinAll_40 rfl (lv_at hl 1 rfl) ?_
          refine lv_iload hx hb dd_Le_joinAll_41 (lv_at hl 5 rfl) ?_
          refine lv_iload_n hx hb dd_Le_joinAll_43 rfl (lv_at hl 3 rfl) ?_
          refine lv_iconst (v := 2) hx hb dd_Le_joinAll_44 (by decide) ?_
          refine lv_iload_n hx hb dd_Le_joinAll_45 rfl (lv_at hl 2 rfl) ?_
          refine lv_imul hx hb dd_Le_joinAll_46 ?_
          obtain ⟨r47, hr47, hf⟩ := bind_some hf
          refine xcalli (rest := []) (wc := (wd_Le_bestMate cI cZ a_t a_t_mate a_p1 a_p1_arcs a_p1_weight a_t_size a_t_holders a_t_number t_fresh t_count t_mate p1_size p1_arcs p1_weight)) (w1 := (wd_Le_bestMate cI cZ a_t a_t_mate a_p1 a_p1_arcs a_p1_weight a_t_size a_t_holders a_t_number t_fresh t_count t_mate p1_size p1_arcs p1_weight)) (wr := []) (ws' := (wd_Le_joinAll cI cZ a_t a_t_mate a_p1 a_p1_arcs a_p1_weight a_t_size a_t_holders a_t_number t_fresh t_count t_mate p1_size p1_arcs p1_weight)) (va_runV (As := [.ref a_p1, .int x5, .int x3, .int (2 * x2)]) ⟨hx, hb, hml, hown, hts⟩ (c_Le_bestMate l dC dI cI cZ a_t a_t_mate a_p1 a_p1_arcs a_p1_weight a_t_size a_t_holders a_t_number H.size x5 x3 (2 * x2) t_fresh t_count t_mate p1_size p1_arcs p1_weight r47 hr47) (cwV 4 hts (gV gw_455 gw_457 gw_5 gw_56 gw_458) rfl rfl rfl (yd_Le_bestMate) ⟨Nat.le_of_ble_eq_true rfl, Nat.le_of_ble_eq_true rfl⟩) (mkV hK (hP.sub (ws' := (wd_Le_bestMate cI cZ a_t a_t_mate a_p1 a_p1_arcs a_p1_weight a_t_size a_t_holders a_t_number t_fresh t_count t_mate p1_size p1_arcs p1_weight)) [0, 1, 2, 3, 4] rfl) (hD.sub (ws' := (wd_Le_bestMate cI cZ a_t a_t_mate a_p1 a_p1_arcs a_p1_weight a_t_size a_t_holders a_t_number t_fresh t_count t_mate p1_size p1_arcs p1_weight)) [0, 1, 2, 3, 4] (by decide) rfl) hN (va_recv hK hP (ci := 2) (q0 := 0) rfl rfl)) rfl rfl hl.1 rfl (lv_room (Nat.le_of_ble_eq_true rfl)) dd_Le_joinAll_47 ⟨Nat.zero_le _, Nat.zero_le _⟩) hP hD hS hA [0, 1, 2, 3, 4] [] [0, 1, 2, 3, 4] rfl rfl (by decide) (by decide) rfl (by decide) rfl (fun H locs hP hD hS => ?_)
          refine lv_goto (tgt := 54) hx hb dd_Le_joinAll_50 (by decide) ?_
          exact h54 r47 x3 x4 x5 t_mate _ _ _ hf (lv_sub hl [0, 1, 2, 3, 4, 5] rfl) hP hD hS
  refine lv_aload_n hx hb dd_Le_joinAll_0 rfl (lv_at hl 0 rfl) ?_
  refine va_get (D := (dC, dI)) (ci := 2) (v := .ref a_t_mate) (C := rr_Le) (T := tt_Le) (N := 6) hx hb hts (fun w h => gwc (inn_Le w h)) hown hK hP 0 rfl rfl 4 (by decide) (hts _ (gwc gw_183)) (fun _ h9 => h9) rfl dd_Le_joinAll_1 ?_
  refine lv_iconst (v := -1) hx hb dd_Le_joinAll_4 (by decide) ?_
  refine xcallv (rest := []) (wc := [(a_t_mate, .inl (cI, 40, .inl t_mate))]) (w1 := [(a_t_mate, .inl (cI, 40, .inl (fun _ => -1)))]) (wr := [(a_t, .inr (2, [.int t_fresh, .int t_count, .ref a_t_size, .ref a_t_holders, .ref a_t_mate, .ref a_t_number])), (a_p1, .inr (1, [.int p1_size, .ref a_p1_weight, .ref a_p1_arcs])), (a_p1_arcs, .inl (cI, 1600, .inl p1_arcs)), (a_p1_weight, .inl (cI, 40, .inl p1_weight))]) (ws' := (wd_Le_joinAll cI cZ a_t a_t_mate a_p1 a_p1_arcs a_p1_weight a_t_size a_t_holders a_t_number t_fresh t_count (fun _ => -1) p1_size p1_arcs p1_weight)) (va_runS (As := [.ref a_t_mate, .int (-1)]) ⟨hx, hb, hml, hown, hts⟩ (c_fill l dC dI cI cZ a_t_mate H.size 40 (by decide) t_mate (-1)) (va_cwS 2 hts (gS gw_450 gw_339 gw_62 gw_340) rfl rfl rfl yd_fill ⟨Nat.le_of_ble_eq_true rfl, Nat.le_of_ble_eq_true rfl⟩) (mkS hK (hP.sub (ws' := [(a_t_mate, .inl (cI, 40, .inl t_mate))]) [1] rfl) (hD.sub (ws' := [(a_t_mate, .inl (cI, 40, .inl t_mate))]) [1] (by decide) rfl) hN) rfl rfl hl.1 rfl (lv_room (Nat.le_of_ble_eq_true rfl)) dd_Le_joinAll_5 ⟨Nat.zero_le _, Nat.zero_le _⟩) hP hD hS hA [1] [0, 2, 3, 4] [0, 4, 1, 2, 3] rfl rfl (by decide) (by decide) rfl (by decide) rfl (fun H locs hP hD hS => ?_)
  have hP : va_P (dC, dI) clsL (wd_Le_joinAll cI cZ a_t a_t_mate a_p1 a_p1_arcs a_p1_weight a_t_size a_t_holders a_t_number t_fresh t_count (fun _ => -1) p1_size p1_arcs p1_weight) H := hP
  have hD : va_D A (wd_Le_joinAll cI cZ a_t a_t_mate a_p1 a_p1_arcs a_p1_weight a_t_size a_t_holders a_t_number t_fresh t_count (fun _ => -1) p1_size p1_arcs p1_weight) := hD
  refine lv_aload_n hx hb dd_Le_joinAll_8 rfl (lv_at hl 1 rfl) ?_
  obtain ⟨r9, hr9, hf⟩ := bind_some hf
  refine xcalli (rest := []) (wc := (wd_Gr_total cI cZ a_p1 a_p1_weight a_p1_arcs p1_size p1_weight)) (w1 := (wd_Gr_total cI cZ a_p1 a_p1_weight a_p1_arcs p1_size p1_weight)) (wr := [(a_t, .inr (2, [.int t_fresh, .int t_count, .ref a_t_size, .ref a_t_holders, .ref a_t_mate, .ref a_t_number])), (a_t_mate, .inl (cI, 40, .inl (fun _ => -1))), (a_p1_arcs, .inl (cI, 1600, .inl p1_arcs))]) (ws' := (wd_Le_joinAll cI cZ a_t a_t_mate a_p1 a_p1_arcs a_p1_weight a_t_size a_t_holders a_t_number t_fresh t_count (fun _ => -1) p1_size p1_arcs p1_weight)) (va_runV (As := []) ⟨hx, hb, hml, hown, hts⟩ (c_Gr_total l dC dI cI cZ a_p1 a_p1_weight a_p1_arcs H.size p1_size p1_weight r9 hr9) (cwV 0 hts (gV gw_451 gw_452 gw_453 gw_54 gw_454) rfl rfl rfl (yd_Gr_total) ⟨Nat.le_of_ble_eq_true rfl, Nat.le_of_ble_eq_true rfl⟩) (mkV hK (hP.sub (ws' := (wd_Gr_total cI cZ a_p1 a_p1_weight a_p1_arcs p1_size p1_weight)) [2, 4] rfl) (hD.sub (ws' := (wd_Gr_total cI cZ a_p1 a_p1_weight a_p1_arcs p1_size p1_weight)) [2, 4] (by decide) rfl) hN (va_recv hK hP (ci := 1) (q0 := 2) rfl rfl)) rfl rfl hl.1 rfl (lv_room (Nat.le_of_ble_eq_true rfl)) dd_Le_joinAll_9 ⟨Nat.zero_le _, Nat.zero_le _⟩) hP hD hS hA [2, 4] [0, 1, 3] [0, 1, 3, 2, 4] rfl rfl (by decide) (by decide) rfl (by decide) rfl (fun H locs hP hD hS => ?_)
  refine lv_istore_n (lv' := [(3, .int r9), (0, .ref a_t), (1, .ref a_p1), (2, .int x2)]) hx hb dd_Le_joinAll_12 rfl hl (by decide) rfl (fun ls hl => ?_)
  refine lv_iconst (v := 0) hx hb dd_Le_joinAll_13 (by decide) ?_
  refine lv_istore (lv' := [(4, .int 0), (3, .int r9), (0, .ref a_t), (1, .ref a_p1), (2, .int x2)]) hx hb dd_Le_joinAll_14 hl (by decide) rfl (fun ls hl => ?_)
  refine lv_iconst (v := 0) hx hb dd_Le_joinAll_16 (by decide) ?_
  refine lv_istore (lv' := [(5, .int 0), (4, .int 0), (3, .int r9), (0, .ref a_t), (1, .ref a_p1), (2, .int x2)]) hx hb dd_Le_joinAll_17 hl (by decide) rfl (fun ls hl => ?_)
  exact h19 64 r9 0 0 (fun _ => -1) _ _ _ hf (lv_sub hl [3, 4, 5, 2, 1, 0] rfl) hP hD hS
abbrev wd_Le_numberJoined (cI cZ : ClassId) (a_t a_t_mate a_t_number a_t_size a_t_holders : Nat) (t_fresh : Int32) (t_count : Int32) (t_mate : Nat → Int32) (t_number : Nat → Int32) : va_W := [(a_t, .inr (2, [.int t_fresh, .int t_count, .ref a_t_size, .ref a_t_holders, .ref a_t_mate, .ref a_t_number])), (a_t_mate, .inl (cI, 40, .inl t_mate)), (a_t_number, .inl (cI, 40, .inl t_number))]
set_option maxRecDepth 100000 in
set_option maxHeartbeats 4000000 in
theorem c_Le_numberJoined (l : Launch) (dC : Nat → ClassId) (dI : Nat → Nat → Nat) (cI cZ : ClassId) (a_t a_t_mate a_t_number a_t_size a_t_holders sz : Nat) (x1 : Int32) (t_fresh : Int32) (t_count : Int32) (t_mate : Nat → Int32) (t_number : Nat → Int32) (out : Int32 × (Nat → Int32)) (hf : f_Le_numberJoined x1 t_mate t_number = some out) :
    Met l yy_Le_numberJoined wq_Le_numberJoined ({ frames := 0, cells := 0, slots := 0, locals := 0 }) (va_Pc ([.ref a_t, .int x1] : List Value) (pre_ (dC, dI) cI cZ sz (wd_Le_numberJoined cI cZ a_t a_t_mate a_t_number a_t_size a_t_holders t_fresh t_count t_mate t_number))) (va_Qi (fun (r : Int32) (_ : Unit) => r = out.1) (fun _ => pst (dC, dI) (va_A (wd_Le_numberJoined cI cZ a_t a_t_mate a_t_number a_t_size a_t_holders t_fresh t_count t_mate t_number) sz) (wd_Le_numberJoined cI cZ a_t a_t_mate a_t_number a_t_size a_t_holders t_fresh t_count t_mate out.2)) (va_A (wd_Le_numberJoined cI cZ a_t a_t_mate a_t_number a_t_size a_t_holders t_fresh t_count t_mate t_number) sz)) 0 0 (va_A (wd_Le_numberJoined cI cZ a_t a_t_mate a_t_number a_t_size a_t_holders t_fresh t_count t_mate t_number) sz) := by
  refine Met.ofW (cc := cc_Le_numberJoined) (maxL := 5) (ret := (some .int)) (by decide) rfl ?_
  intro p e s m args below meth c s₁ B hml hv
  obtain ⟨rfl, hsz, hP, hK, hD0, hN⟩ := hv
  have hx := B.exec
  have hb := B.bytes
  have hr := B.returns
  have hts := atoms_spec (ws := wq_Le_numberJoined) B.pre
  have hown : s.vm.findClass rr_Le = some m.cls := findClass_of_methodNamed B.named
  have hlocks := B.notSynchronized
  subst hsz
  have hD := hD0.self (sz := s.heap.size)
  generalize hAe : va_A (wd_Le_numberJoined cI cZ a_t a_t_mate a_t_number a_t_size a_t_holders t_fresh t_count t_mate t_number) s.heap.size = A at hD ⊢
  have hA : ∀ q : Nat, s.heap.size ≤ q → A q := fun q h => by rw [← hAe]; exact Or.inr h
  obtain ⟨H, hH⟩ : ∃ H : Heap, H = s.heap := ⟨_, rfl⟩
  have hS : va_S A s.heap H [] := by rw [hH]; exact va_S.rf
  have hl := lv_entry (([.ref a_t, .int x1] : List Value)) (n := 5) (Nat.le_of_ble_eq_true rfl)
  rw [lg_entry_eq]
  generalize (lg_sl (([.ref a_t, .int x1] : List Value)) ++ List.replicate (5 - (lg_sl (([.ref a_t, .int x1] : List Value))).length) Slot.unset).toArray = ls at hl ⊢
  have hl : lv_has ls 5 [(0, .ref a_t), (1, .int x1)] := hl
  rw [← hH] at hP ⊢
  have hP : va_P (dC, dI) clsL (wd_Le_numberJoined cI cZ a_t a_t_mate a_t_number a_t_size a_t_holders t_fresh t_count t_mate t_number) H := hP
  unfold f_Le_numberJoined at hf
  have h4 : ∀ (n4 : Nat) (x2 : Int32) (x3 : Int32) (t_number : Nat → Int32) (ls : Array Slot) (H : Heap) (locs : List Loc), L_Le_numberJoined_4 x1 t_mate n4 x2 x3 t_number = some out → lv_has ls 5 [(0, .ref a_t), (1, .int x1), (2, .int x2), (3, .int x3)] → va_P (dC, dI) clsL (wd_Le_numberJoined cI cZ a_t a_t_mate a_t_number a_t_size a_t_holders t_fresh t_count t_mate t_number) H → va_D A (wd_Le_numberJoined cI cZ a_t a_t_mate a_t_number a_t_size a_t_holders t_fresh t_count t_mate t_number) → va_S A s.heap H locs → W p l e (headSpec wq_Le_numberJoined ({ frames := 0, cells := 0, slots := 0, locals := 0 })).room s m ([.ref a_t, .int x1] : List Value).toArray below meth c H locs 0 0 (MQ below (va_Qi (fun (r : Int32) (_ : Unit) => r = out.1) (fun _ => pst (dC, dI) A (wd_Le_numberJoined cI cZ a_t a_t_mate a_t_number a_t_size a_t_holders t_fresh t_count t_mate out.2)) A) ([.ref a_t, .int x1] : List Value).toArray s 0 0 A) (F0 m 4 ls []) := by
    intro n4
    induction n4 with
    | zero =>
      intro x2 x3 t_number ls H locs hf
      rw [L_Le_numberJoined_4] at hf
      exact absurd hf (fun h => by cases h)
    | succ n4 ih4 =>
      intro x2 x3 t_number ls H locs hf hl hP hD hS
      rw [L_Le_numberJoined_4] at hf
      have h34 : ∀ (y0 : Int32) (x2 : Int32) (x3 : Int32) (t_number : Nat → Int32) (ls : Array Slot) (H : Heap) (locs : List Loc), J_Le_numberJoined_34 t_mate (L_Le_numberJoined_4 x1 t_mate n4) y0 x2 x3 t_number = some out → lv_has ls 5 [(0, .ref a_t), (1, .int x1), (2, .int x2), (3, .int x3)] → va_P (dC, dI) clsL (wd_Le_numberJoined cI cZ a_t a_t_mate a_t_number a_t_size a_t_holders t_fresh t_count t_mate t_number) H → va_D A (wd_Le_numberJoined cI cZ a_t a_t_mate a_t_number a_t_size a_t_holders t_fresh t_count t_mate t_number) → va_S A s.heap H locs → W p l e (headSpec wq_Le_numberJoined ({ frames := 0, cells := 0, slots := 0, locals := 0 })).room s m ([.ref a_t, .int x1] : List Value).toArray below meth c H locs 0 0 (MQ below (va_Qi (fun (r : Int32) (_ : Unit) => r = out.1) (fun _ => pst (dC, dI) A (wd_Le_numberJoined cI cZ a_t a_t_mate a_t_number a_t_size a_t_holders t_fresh t_count t_mate out.2)) A) ([.ref a_t, .int x1] : List Value).toArray s 0 0 A) (F0 m 34 ls [.int y0]) := by
        intro y0 x2 x3 t_number ls H locs hf hl hP hD hS
        unfold J_Le_numberJoined_34 at hf
        have h61 : ∀ (y1 : Int32) (y2 : Int32) (x2 : Int32) (x3 : Int32) (x4 : Int32) (t_number : Nat → Int32) (ls : Array Slot) (H : Heap) (locs : List Loc), J_Le_numberJoined_61 (L_Le_numberJoined_4 x1 t_mate n4) y1 y2 x2 x3 x4 t_number = some out → lv_has ls 5 [(0, .ref a_t), (1, .int x1), (2, .int x2), (3, .int x3), (4, .int x4)] → va_P (dC, dI) clsL (wd_Le_numberJoined cI cZ a_t a_t_mate a_t_number a_t_size a_t_holders t_fresh t_count t_mate t_number) H → va_D A (wd_Le_numberJoined cI cZ a_t a_t_mate a_t_number a_t_size a_t_holders t_fresh t_count t_mate t_number) → va_S A s.heap H locs → W p l e (headSpec wq_Le_numberJoined ({ frames := 0, cells := 0, slots := 0, locals := 0 })).room s m ([.ref a_t, .int x1] : List Value).toArray below meth c H locs 0 0 (MQ below (va_Qi (fun (r : Int32) (_ : Unit) => r = out.1) (fun _ => pst (dC, dI) A (wd_Le_numberJoined cI cZ a_t a_t_mate a_t_number a_t_size a_t_holders t_fresh t_count t_mate out.2)) A) ([.ref a_t, .int x1] : List Value).toArray s 0 0 A) (F0 m 61 ls [.int y2, .int y1, .ref a_t_number]) := by
          intro y1 y2 x2 x3 x4 t_number ls H locs hf hl hP hD hS
          unfold J_Le_numberJoined_61 at hf
          obtain ⟨k61, hf⟩ := ck_some hf
          refine va_iast hx hb hK hP hD hS 2 0 rfl rfl (okb_in k61) dd_Le_numberJoined_61 (fun H locs hP hD hS => ?_)
          have hP : va_P (dC, dI) clsL (wd_Le_numberJoined cI cZ a_t a_t_mate a_t_number a_t_size a_t_holders t_fresh t_count t_mate (upd t_number (y1).toNatClampNeg y2)) H := hP
          have hD : va_D A (wd_Le_numberJoined cI cZ a_t a_t_mate a_t_number a_t_size a_t_holders t_fresh t_count t_mate (upd t_number (y1).toNatClampNeg y2)) := hD
          refine lv_iload_n hx hb dd_Le_numberJoined_62 rfl (lv_at hl 2 rfl) ?_
          refine lv_iload hx hb dd_Le_numberJoined_63 (lv_at hl 4 rfl) ?_
          refine lv_if_eq (tgt := 72) hx hb dd_Le_numberJoined_65 (by decide) (fun cc => ?_) (fun cc => ?_)
          · skip
            have hf := if_t cc hf
            refine lv_iconst (v := 0) hx hb dd_Le_numberJoined_72 (by decide) ?_
            refine lv_iadd hx hb dd_Le_numberJoined_73 ?_
            refine lv_istore_n (lv' := [(2, .int (x2 + 0)), (0, .ref a_t), (1, .int x1), (3, .int x3), (4, .int x4)]) hx hb dd_Le_numberJoined_74 rfl hl (by decide) rfl (fun ls hl => ?_)
            refine lv_iinc (v := x3 + 1) (lv' := [(3, .int (x3 + 1)), (2, .int (x2 + 0)), (0, .ref a_t), (1, .int x1), (4, .int x4)]) hx hb dd_Le_numberJoined_75 hl (k := 3) rfl rfl (by decide) rfl (fun ls hl => ?_)
            refine lv_goto (tgt := 4) hx hb dd_Le_numberJoined_78 (by decide) ?_
            exact ih4 (x2 + 0) (x3 + 1) (upd t_number (y1).toNatClampNeg y2) _ _ _ hf (lv_sub hl [2, 3, 1, 0] rfl) hP hD hS
          · skip
            have hf := if_f cc hf
            refine lv_iconst (v := 1) hx hb dd_Le_numberJoined_68 (by decide) ?_
            refine lv_goto (tgt := 73) hx hb dd_Le_numberJoined_69 (by decide) ?_
            refine lv_iadd hx hb dd_Le_numberJoined_73 ?_
            refine lv_istore_n (lv' := [(2, .int (x2 + 1)), (0, .ref a_t), (1, .int x1), (3, .int x3), (4, .int x4)]) hx hb dd_Le_numberJoined_74 rfl hl (by decide) rfl (fun ls hl => ?_)
            refine lv_iinc (v := x3 + 1) (lv' := [(3, .int (x3 + 1)), (2, .int (x2 + 1)), (0, .ref a_t), (1, .int x1), (4, .int x4)]) hx hb dd_Le_numberJoined_75 hl (k := 3) rfl rfl (by decide) rfl (fun ls hl => ?_)
            refine lv_goto (tgt := 4) hx hb dd_Le_numberJoined_78 (by decide) ?_
            exact ih4 (x2 + 1) (x3 + 1) (upd t_number (y1).toNatClampNeg y2) _ _ _ hf (lv_sub hl [2, 3, 1, 0] rfl) hP hD hS
        refine lv_istore (lv' := [(4, .int y0), (0, .ref a_t), (1, .int x1), (2, .int x2), (3, .int x3)]) hx hb dd_Le_numberJoined_34 hl (by decide) rfl (fun ls hl => ?_)
        refine lv_aload_n hx hb dd_Le_numberJoined_36 rfl (lv_at hl 1 rfl) ?_
        refine va_get (D := (dC, dI)) (ci := 2) (v := .ref a_t_number) (C := rr_Le) (T := tt_Le) (N := 6) hx hb hts (fun w h => gwc (inn_Le w h)) hown hK hP 0 rfl rfl 5 (by decide) (hts _ (gwc gw_184)) (fun _ h9 => h9) rfl dd_Le_numberJoined_37 ?_
        refine lv_iload_n hx hb dd_Le_numberJoined_40 rfl (lv_at hl 4 rfl) ?_
        refine lv_iload hx hb dd_Le_numberJoined_41 (lv_at hl 0 rfl) ?_
        refine lv_if_eq (tgt := 50) hx hb dd_Le_numberJoined_43 (by decide) (fun cc => ?_) (fun cc => ?_)
        · skip
          have hf := if_t cc hf
          refine lv_aload_n hx hb dd_Le_numberJoined_50 rfl (lv_at hl 1 rfl) ?_
          refine va_get (D := (dC, dI)) (ci := 2) (v := .ref a_t_number) (C := rr_Le) (T := tt_Le) (N := 6) hx hb hts (fun w h => gwc (inn_Le w h)) hown hK hP 0 rfl rfl 5 (by decide) (hts _ (gwc gw_184)) (fun _ h9 => h9) rfl dd_Le_numberJoined_51 ?_
          refine lv_aload_n hx hb dd_Le_numberJoined_54 rfl (lv_at hl 1 rfl) ?_
          refine va_get (D := (dC, dI)) (ci := 2) (v := .ref a_t_mate) (C := rr_Le) (T := tt_Le) (N := 6) hx hb hts (fun w h => gwc (inn_Le w h)) hown hK hP 0 rfl rfl 4 (by decide) (hts _ (gwc gw_183)) (fun _ h9 => h9) rfl dd_Le_numberJoined_55 ?_
          refine lv_iload_n hx hb dd_Le_numberJoined_58 rfl (lv_at hl 4 rfl) ?_
          obtain ⟨k59, hf⟩ := ck_some hf
          refine va_iald hx hb hK hP 1 0 rfl rfl (okb_in k59) dd_Le_numberJoined_59 ?_
          obtain ⟨k60, hf⟩ := ck_some hf
          refine va_iald hx hb hK hP 2 0 rfl rfl (okb_in k60) dd_Le_numberJoined_60 ?_
          exact h61 x3 (t_number (t_mate (x3).toNatClampNeg).toNatClampNeg) x2 x3 y0 t_number _ _ _ hf (lv_sub hl [1, 2, 3, 4, 0] rfl) hP hD hS
        · skip
          have hf := if_f cc hf
          refine lv_iload_n hx hb dd_Le_numberJoined_46 rfl (lv_at hl 3 rfl) ?_
          refine lv_goto (tgt := 61) hx hb dd_Le_numberJoined_47 (by decide) ?_
          exact h61 x3 x2 x2 x3 y0 t_number _ _ _ hf (lv_sub hl [1, 2, 3, 4, 0] rfl) hP hD hS
      have h29 : ∀ (x2 : Int32) (x3 : Int32) (t_number : Nat → Int32) (ls : Array Slot) (H : Heap) (locs : List Loc), J_Le_numberJoined_29 t_mate (L_Le_numberJoined_4 x1 t_mate n4) x2 x3 t_number = some out → lv_has ls 5 [(0, .ref a_t), (1, .int x1), (2, .int x2), (3, .int x3)] → va_P (dC, dI) clsL (wd_Le_numberJoined cI cZ a_t a_t_mate a_t_number a_t_size a_t_holders t_fresh t_count t_mate t_number) H → va_D A (wd_Le_numberJoined cI cZ a_t a_t_mate a_t_number a_t_size a_t_holders t_fresh t_count t_mate t_number) → va_S A s.heap H locs → W p l e (headSpec wq_Le_numberJoined ({ frames := 0, cells := 0, slots := 0, locals := 0 })).room s m ([.ref a_t, .int x1] : List Value).toArray below meth c H locs 0 0 (MQ below (va_Qi (fun (r : Int32) (_ : Unit) => r = out.1) (fun _ => pst (dC, dI) A (wd_Le_numberJoined cI cZ a_t a_t_mate a_t_number a_t_size a_t_holders t_fresh t_count t_mate out.2)) A) ([.ref a_t, .int x1] : List Value).toArray s 0 0 A) (F0 m 29 ls []) := by
        intro x2 x3 t_number ls H locs hf hl hP hD hS
        unfold J_Le_numberJoined_29 at hf
        refine lv_iconst (v := 1) hx hb dd_Le_numberJoined_29 (by decide) ?_
        refine lv_goto (tgt := 34) hx hb dd_Le_numberJoined_30 (by decide) ?_
        exact h34 1 x2 x3 t_number _ _ _ hf (lv_sub hl [0, 1, 2, 3] rfl) hP hD hS
      refine lv_iload_n hx hb dd_Le_numberJoined_4 rfl (lv_at hl 3 rfl) ?_
      refine lv_iload_n hx hb dd_Le_numberJoined_5 rfl (lv_at hl 1 rfl) ?_
      refine lv_icmp_ge (tgt := 81) hx hb dd_Le_numberJoined_6 (by decide) (fun cc => ?_) (fun cc => ?_)
      · skip
        have hf := if_t cc hf
        refine lv_iload_n hx hb dd_Le_numberJoined_81 rfl (lv_at hl 2 rfl) ?_
        cases hf
        exact W.iret hx hb hr (fun t ht hW => ⟨⟨_, (), rfl, rfl, pst_of ht hP hD⟩, hS.F ht⟩) hS.2.2 dd_Le_numberJoined_82
      · skip
        have hf := if_f cc hf
        refine lv_aload_n hx hb dd_Le_numberJoined_9 rfl (lv_at hl 0 rfl) ?_
        refine va_get (D := (dC, dI)) (ci := 2) (v := .ref a_t_mate) (C := rr_Le) (T := tt_Le) (N := 6) hx hb hts (fun w h => gwc (inn_Le w h)) hown hK hP 0 rfl rfl 4 (by decide) (hts _ (gwc gw_183)) (fun _ h9 => h9) rfl dd_Le_numberJoined_10 ?_
        refine lv_iload_n hx hb dd_Le_numberJoined_13 rfl (lv_at hl 3 rfl) ?_
        obtain ⟨k14, hf⟩ := ck_some hf
        refine va_iald hx hb hK hP 1 0 rfl rfl (okb_in k14) dd_Le_numberJoined_14 ?_
        refine lv_iconst (v := -1) hx hb dd_Le_numberJoined_15 (by decide) ?_
        refine lv_icmp_eq (tgt := 29) hx hb dd_Le_numberJoined_16 (by decide) (fun cc => ?_) (fun cc => ?_)
        · skip
          have hf := if_t cc hf
          exact h29 x2 x3 t_number _ _ _ hf (lv_sub hl [0, 1, 2, 3] rfl) hP hD hS
        · skip
          have hf := if_f cc hf
          refine lv_aload_n hx hb dd_Le_numberJoined_19 rfl (lv_at hl 0 rfl) ?_
          refine va_get (D := (dC, dI)) (ci := 2) (v := .ref a_t_mate) (C := rr_Le) (T := tt_Le) (N := 6) hx hb hts (fun w h => gwc (inn_Le w h)) hown hK hP 0 rfl rfl 4 (by decide) (hts _ (gwc gw_183)) (fun _ h9 => h9) rfl dd_Le_numberJoined_20 ?_
          refine lv_iload_n hx hb dd_Le_numberJoined_23 rfl (lv_at hl 3 rfl) ?_
          obtain ⟨k24, hf⟩ := ck_some hf
          refine va_iald hx hb hK hP 1 0 rfl rfl (okb_in k24) dd_Le_numberJoined_24 ?_
          refine lv_iload_n hx hb dd_Le_numberJoined_25 rfl (lv_at hl 3 rfl) ?_
          refine lv_icmp_le (tgt := 33) hx hb dd_Le_numberJoined_26 (by decide) (fun cc => ?_) (fun cc => ?_)
          · skip
            have hf := if_t cc hf
            refine lv_iconst (v := 0) hx hb dd_Le_numberJoined_33 (by decide) ?_
            exact h34 0 x2 x3 t_number _ _ _ hf (lv_sub hl [0, 1, 2, 3] rfl) hP hD hS
          · skip
            have hf := if_f cc hf
            exact h29 x2 x3 t_number _ _ _ hf (lv_sub hl [0, 1, 2, 3] rfl) hP hD hS
  refine lv_iconst (v := 0) hx hb dd_Le_numberJoined_0 (by decide) ?_
  refine lv_istore_n (lv' := [(2, .int 0), (0, .ref a_t), (1, .int x1)]) hx hb dd_Le_numberJoined_1 rfl hl (by decide) rfl (fun ls hl => ?_)
  refine lv_iconst (v := 0) hx hb dd_Le_numberJoined_2 (by decide) ?_
  refine lv_istore_n (lv' := [(3, .int 0), (2, .int 0), (0, .ref a_t), (1, .int x1)]) hx hb dd_Le_numberJoined_3 rfl hl (by decide) rfl (fun ls hl => ?_)
  exact h4 64 0 0 t_number _ _ _ hf (lv_sub hl [2, 3, 1, 0] rfl) hP hD hS
abbrev wd_Le_makeLevel (cI cZ : ClassId) (a_t a_t_holders a_t_mate a_t_number a_t_size a_p2 a_p2_arcs a_p2_weight a_p4 a_p4_arcs a_p4_weight : Nat) (t_fresh : Int32) (t_count : Int32) (t_holders : Nat → Int32) (t_mate : Nat → Int32) (t_number : Nat → Int32) (t_size : Nat → Int32) (p2_size : Int32) (p2_arcs : Nat → Int32) (p2_weight : Nat → Int32) (p4_size : Int32) (p4_arcs : Nat → Int32) (p4_weight : Nat → Int32) : va_W := [(a_t, .inr (2, [.int t_fresh, .int t_count, .ref a_t_size, .ref a_t_holders, .ref a_t_mate, .ref a_t_number])), (a_t_holders, .inl (cI, 1600, .inl t_holders)), (a_t_mate, .inl (cI, 40, .inl t_mate)), (a_t_number, .inl (cI, 40, .inl t_number)), (a_t_size, .inl (cI, 40, .inl t_size)), (a_p2, .inr (1, [.int p2_size, .ref a_p2_weight, .ref a_p2_arcs])), (a_p2_arcs, .inl (cI, 1600, .inl p2_arcs)), (a_p2_weight, .inl (cI, 40, .inl p2_weight)), (a_p4, .inr (1, [.int p4_size, .ref a_p4_weight, .ref a_p4_arcs])), (a_p4_arcs, .inl (cI, 1600, .inl p4_arcs)), (a_p4_weight, .inl (cI, 40, .inl p4_weight))]
set_option maxRecDepth 100000 in
set_option maxHeartbeats 4000000 in
theorem c_Le_makeLevel (l : Launch) (dC : Nat → ClassId) (dI : Nat → Nat → Nat) (cI cZ : ClassId) (a_t a_t_holders a_t_mate a_t_number a_t_size a_p2 a_p2_arcs a_p2_weight a_p4 a_p4_arcs a_p4_weight sz : Nat) (x1 : Int32) (x3 : Int32) (t_fresh : Int32) (t_count : Int32) (t_holders : Nat → Int32) (t_mate : Nat → Int32) (t_number : Nat → Int32) (t_size : Nat → Int32) (p2_size : Int32) (p2_arcs : Nat → Int32) (p2_weight : Nat → Int32) (p4_size : Int32) (p4_arcs : Nat → Int32) (p4_weight : Nat → Int32) (out : Int32 × (Nat → Int32) × (Nat → Int32) × (Nat → Int32) × (Nat → Int32) × Int32 × (Nat → Int32) × (Nat → Int32)) (hf : f_Le_makeLevel x1 x3 t_holders t_mate t_number t_size p2_size p2_arcs p2_weight p4_size p4_arcs p4_weight = some out) :
    Met l yy_Le_makeLevel wq_Le_makeLevel ({ frames := 3, cells := 0, slots := 0, locals := 80 }) (va_Pc ([.ref a_t, .int x1, .ref a_p2, .int x3, .ref a_p4] : List Value) (pre_ (dC, dI) cI cZ sz (wd_Le_makeLevel cI cZ a_t a_t_holders a_t_mate a_t_number a_t_size a_p2 a_p2_arcs a_p2_weight a_p4 a_p4_arcs a_p4_weight t_fresh t_count t_holders t_mate t_number t_size p2_size p2_arcs p2_weight p4_size p4_arcs p4_weight))) (va_Qi (fun (r : Int32) (_ : Unit) => r = out.1) (fun _ => pst (dC, dI) (va_A (wd_Le_makeLevel cI cZ a_t a_t_holders a_t_mate a_t_number a_t_size a_p2 a_p2_arcs a_p2_weight a_p4 a_p4_arcs a_p4_weight t_fresh t_count t_holders t_mate t_number t_size p2_size p2_arcs p2_weight p4_size p4_arcs p4_weight) sz) (wd_Le_makeLevel cI cZ a_t a_t_holders a_t_mate a_t_number a_t_size a_p2 a_p2_arcs a_p2_weight a_p4 a_p4_arcs a_p4_weight t_fresh t_count out.2.1 out.2.2.1 out.2.2.2.1 out.2.2.2.2.1 p2_size p2_arcs p2_weight out.2.2.2.2.2.1 out.2.2.2.2.2.2.1 out.2.2.2.2.2.2.2)) (va_A (wd_Le_makeLevel cI cZ a_t a_t_holders a_t_mate a_t_number a_t_size a_p2 a_p2_arcs a_p2_weight a_p4 a_p4_arcs a_p4_weight t_fresh t_count t_holders t_mate t_number t_size p2_size p2_arcs p2_weight p4_size p4_arcs p4_weight) sz)) 0 0 (va_A (wd_Le_makeLevel cI cZ a_t a_t_holders a_t_mate a_t_number a_t_size a_p2 a_p2_arcs a_p2_weight a_p4 a_p4_arcs a_p4_weight t_fresh t_count t_holders t_mate t_number t_size p2_size p2_arcs p2_weight p4_size p4_arcs p4_weight) sz) := by
  refine Met.ofW (cc := cc_Le_makeLevel) (maxL := 6) (ret := (some .boolean)) (by decide) rfl ?_
  intro p e s m args below meth c s₁ B hml hv
  obtain ⟨rfl, hsz, hP, hK, hD0, hN⟩ := hv
  have hx := B.exec
  have hb := B.bytes
  have hr := B.returns
  have hts := atoms_spec (ws := wq_Le_makeLevel) B.pre
  have hown : s.vm.findClass rr_Le = some m.cls := findClass_of_methodNamed B.named
  have hlocks := B.notSynchronized
  subst hsz
  have hD := hD0.self (sz := s.heap.size)
  generalize hAe : va_A (wd_Le_makeLevel cI cZ a_t a_t_holders a_t_mate a_t_number a_t_size a_p2 a_p2_arcs a_p2_weight a_p4 a_p4_arcs a_p4_weight t_fresh t_count t_holders t_mate t_number t_size p2_size p2_arcs p2_weight p4_size p4_arcs p4_weight) s.heap.size = A at hD ⊢
  have hA : ∀ q : Nat, s.heap.size ≤ q → A q := fun q h => by rw [← hAe]; exact Or.inr h
  obtain ⟨H, hH⟩ : ∃ H : Heap, H = s.heap := ⟨_, rfl⟩
  have hS : va_S A s.heap H [] := by rw [hH]; exact va_S.rf
  have hl := lv_entry (([.ref a_t, .int x1, .ref a_p2, .int x3, .ref a_p4] : List Value)) (n := 6) (Nat.le_of_ble_eq_true rfl)
  rw [lg_entry_eq]
  generalize (lg_sl (([.ref a_t, .int x1, .ref a_p2, .int x3, .ref a_p4] : List Value)) ++ List.replicate (6 - (lg_sl (([.ref a_t, .int x1, .ref a_p2, .int x3, .ref a_p4] : List Value))).length) Slot.unset).toArray = ls at hl ⊢
  have hl : lv_has ls 6 [(0, .ref a_t), (1, .int x1), (2, .ref a_p2), (3, .int x3), (4, .ref a_p4)] := hl
  rw [← hH] at hP ⊢
  have hP : va_P (dC, dI) clsL (wd_Le_makeLevel cI cZ a_t a_t_holders a_t_mate a_t_number a_t_size a_p2 a_p2_arcs a_p2_weight a_p4 a_p4_arcs a_p4_weight t_fresh t_count t_holders t_mate t_number t_size p2_size p2_arcs p2_weight p4_size p4_arcs p4_weight) H := hP
  unfold f_Le_makeLevel at hf
  have h55 : ∀ (n55 : Nat) (x5 : Int32) (t_holders : Nat → Int32) (t_mate : Nat → Int32) (t_number : Nat → Int32) (t_size : Nat → Int32) (p4_size : Int32) (p4_arcs : Nat → Int32) (p4_weight : Nat → Int32) (ls : Array Slot) (H : Heap) (locs : List Loc), L_Le_makeLevel_55 x1 p2_size n55 x5 t_holders t_mate t_number t_size p4_size p4_arcs p4_weight = some out → lv_has ls 6 [(0, .ref a_t), (1, .int x1), (2, .ref a_p2), (5, .int x5)] → va_P (dC, dI) clsL (wd_Le_makeLevel cI cZ a_t a_t_holders a_t_mate a_t_number a_t_size a_p2 a_p2_arcs a_p2_weight a_p4 a_p4_arcs a_p4_weight t_fresh t_count t_holders t_mate t_number t_size p2_size p2_arcs p2_weight p4_size p4_arcs p4_weight) H → va_D A (wd_Le_makeLevel cI cZ a_t a_t_holders a_t_mate a_t_number a_t_size a_p2 a_p2_arcs a_p2_weight a_p4 a_p4_arcs a_p4_weight t_fresh t_count t_holders t_mate t_number t_size p2_size p2_arcs p2_weight p4_size p4_arcs p4_weight) → va_S A s.heap H locs → W p l e (headSpec wq_Le_makeLevel ({ frames := 3, cells := 0, slots := 0, locals := 80 })).room s m ([.ref a_t, .int x1, .ref a_p2, .int x3, .ref a_p4] : List Value).toArray below meth c H locs 0 0 (MQ below (va_Qi (fun (r : Int32) (_ : Unit) => r = out.1) (fun _ => pst (dC, dI) A (wd_Le_makeLevel cI cZ a_t a_t_holders a_t_mate a_t_number a_t_size a_p2 a_p2_arcs a_p2_weight a_p4 a_p4_arcs a_p4_weight t_fresh t_count out.2.1 out.2.2.1 out.2.2.2.1 out.2.2.2.2.1 p2_size p2_arcs p2_weight out.2.2.2.2.2.1 out.2.2.2.2.2.2.1 out.2.2.2.2.2.2.2)) A) ([.ref a_t, .int x1, .ref a_p2, .int x3, .ref a_p4] : List Value).toArray s 0 0 A) (F0 m 55 ls []) := by
    intro n55
    induction n55 with
    | zero =>
      intro x5 t_holders t_mate t_number t_size p4_size p4_arcs p4_weight ls H locs hf
      rw [L_Le_makeLevel_55] at hf
      exact absurd hf (fun h => by cases h)
    | succ n55 ih55 =>
      intro x5 t_holders t_mate t_number t_size p4_size p4_arcs p4_weight ls H locs hf hl hP hD hS
      rw [L_Le_makeLevel_55] at hf
      refine lv_iload hx hb dd_Le_makeLevel_55 (lv_at hl 3 rfl) ?_
      refine lv_aload_n hx hb dd_Le_makeLevel_57 rfl (lv_at hl 2 rfl) ?_
      refine va_get (D := (dC, dI)) (ci := 1) (v := .int p2_size) (C := rr_Gr) (T := tt_Gr) (N := 3) hx hb hts (fun w h => gwc (inn_Gr w h)) hown hK hP 5 rfl rfl 0 (by decide) (hts _ (gwc gw_90)) (fun _ h9 => h9) rfl dd_Le_makeLevel_58 ?_
      refine lv_icmp_ge (tgt := 96) hx hb dd_Le_makeLevel_61 (by decide) (fun cc => ?_) (fun cc => ?_)
      · skip
        have hf := if_t cc hf
        refine lv_iconst (v := 1) hx hb dd_Le_makeLevel_96 (by decide) ?_
        cases hf
        exact W.zret hx hb hr narrow_b1 (fun t ht hW => ⟨⟨_, (), rfl, rfl, pst_of ht hP hD⟩, hS.F ht⟩) hS.2.2 dd_Le_makeLevel_97
      · skip
        have hf := if_f cc hf
        refine lv_aload_n hx hb dd_Le_makeLevel_64 rfl (lv_at hl 0 rfl) ?_
        refine va_get (D := (dC, dI)) (ci := 2) (v := .ref a_t_holders) (C := rr_Le) (T := tt_Le) (N := 6) hx hb hts (fun w h => gwc (inn_Le w h)) hown hK hP 0 rfl rfl 3 (by decide) (hts _ (gwc gw_182)) (fun _ h9 => h9) rfl dd_Le_makeLevel_65 ?_
        refine lv_iload_n hx hb dd_Le_makeLevel_68 rfl (lv_at hl 1 rfl) ?_
        refine lv_bipush (v := 40) hx hb dd_Le_makeLevel_69 (by decide) ?_
        refine lv_imul hx hb dd_Le_makeLevel_71 ?_
        refine lv_iload hx hb dd_Le_makeLevel_72 (lv_at hl 3 rfl) ?_
        refine lv_iadd hx hb dd_Le_makeLevel_74 ?_
        refine lv_aload_n hx hb dd_Le_makeLevel_75 rfl (lv_at hl 0 rfl) ?_
        refine va_get (D := (dC, dI)) (ci := 2) (v := .ref a_t_number) (C := rr_Le) (T := tt_Le) (N := 6) hx hb hts (fun w h => gwc (inn_Le w h)) hown hK hP 0 rfl rfl 5 (by decide) (hts _ (gwc gw_184)) (fun _ h9 => h9) rfl dd_Le_makeLevel_76 ?_
        refine lv_aload_n hx hb dd_Le_makeLevel_79 rfl (lv_at hl 0 rfl) ?_
        refine lv_iload_n hx hb dd_Le_makeLevel_80 rfl (lv_at hl 1 rfl) ?_
        refine lv_iconst (v := 1) hx hb dd_Le_makeLevel_81 (by decide) ?_
        refine lv_isub hx hb dd_Le_makeLevel_82 ?_
        refine lv_iload hx hb dd_Le_makeLevel_83 (lv_at hl 3 rfl) ?_
        obtain ⟨r85, hr85, hf⟩ := bind_some hf
        refine xcalli (rest := [.ref a_t_number, .int ((x1 * 40) + x5), .ref a_t_holders]) (wc := (wd_Le_holder cI cZ a_t a_t_holders a_t_size a_t_mate a_t_number t_fresh t_count t_holders)) (w1 := (wd_Le_holder cI cZ a_t a_t_holders a_t_size a_t_mate a_t_number t_fresh t_count t_holders)) (wr := [(a_t_mate, .inl (cI, 40, .inl t_mate)), (a_t_number, .inl (cI, 40, .inl t_number)), (a_t_size, .inl (cI, 40, .inl t_size)), (a_p2, .inr (1, [.int p2_size, .ref a_p2_weight, .ref a_p2_arcs])), (a_p2_arcs, .inl (cI, 1600, .inl p2_arcs)), (a_p2_weight, .inl (cI, 40, .inl p2_weight)), (a_p4, .inr (1, [.int p4_size, .ref a_p4_weight, .ref a_p4_arcs])), (a_p4_arcs, .inl (cI, 1600, .inl p4_arcs)), (a_p4_weight, .inl (cI, 40, .inl p4_weight))]) (ws' := (wd_Le_makeLevel cI cZ a_t a_t_holders a_t_mate a_t_number a_t_size a_p2 a_p2_arcs a_p2_weight a_p4 a_p4_arcs a_p4_weight t_fresh t_count t_holders t_mate t_number t_size p2_size p2_arcs p2_weight p4_size p4_arcs p4_weight)) (va_runV (As := [.int (x1 - 1), .int x5]) ⟨hx, hb, hml, hown, hts⟩ (c_Le_holder l dC dI cI cZ a_t a_t_holders a_t_size a_t_mate a_t_number H.size (x1 - 1) x5 t_fresh t_count t_holders r85 hr85) (cwV 2 hts (gV gw_440 gw_441 gw_442 gw_56 gw_443) rfl rfl rfl (yd_Le_holder) ⟨Nat.le_of_ble_eq_true rfl, Nat.le_of_ble_eq_true rfl⟩) (mkV hK (hP.sub (ws' := (wd_Le_holder cI cZ a_t a_t_holders a_t_size a_t_mate a_t_number t_fresh t_count t_holders)) [0, 1] rfl) (hD.sub (ws' := (wd_Le_holder cI cZ a_t a_t_holders a_t_size a_t_mate a_t_number t_fresh t_count t_holders)) [0, 1] (by decide) rfl) hN (va_recv hK hP (ci := 2) (q0 := 0) rfl rfl)) rfl rfl hl.1 rfl (lv_room (Nat.le_of_ble_eq_true rfl)) dd_Le_makeLevel_85 ⟨Nat.zero_le _, Nat.zero_le _⟩) hP hD hS hA [0, 1] [2, 3, 4, 5, 6, 7, 8, 9, 10] [9, 10, 0, 1, 2, 3, 4, 5, 6, 7, 8] rfl rfl (by decide) (by decide) rfl (by decide) rfl (fun H locs hP hD hS => ?_)
        obtain ⟨k88, hf⟩ := ck_some hf
        refine va_iald hx hb hK hP 3 0 rfl rfl (okb_in k88) dd_Le_makeLevel_88 ?_
        obtain ⟨k89, hf⟩ := ck_some hf
        refine va_iast hx hb hK hP hD hS 1 0 rfl rfl (okb_in k89) dd_Le_makeLevel_89 (fun H locs hP hD hS => ?_)
        have hP : va_P (dC, dI) clsL (wd_Le_makeLevel cI cZ a_t a_t_holders a_t_mate a_t_number a_t_size a_p2 a_p2_arcs a_p2_weight a_p4 a_p4_arcs a_p4_weight t_fresh t_count (upd t_holders ((x1 * 40) + x5).toNatClampNeg (t_number (r85).toNatClampNeg)) t_mate t_number t_size p2_size p2_arcs p2_weight p4_size p4_arcs p4_weight) H := hP
        have hD : va_D A (wd_Le_makeLevel cI cZ a_t a_t_holders a_t_mate a_t_number a_t_size a_p2 a_p2_arcs a_p2_weight a_p4 a_p4_arcs a_p4_weight t_fresh t_count (upd t_holders ((x1 * 40) + x5).toNatClampNeg (t_number (r85).toNatClampNeg)) t_mate t_number t_size p2_size p2_arcs p2_weight p4_size p4_arcs p4_weight) := hD
        refine lv_iinc (v := x5 + 1) (lv' := [(5, .int (x5 + 1)), (0, .ref a_t), (1, .int x1), (2, .ref a_p2)]) hx hb dd_Le_makeLevel_90 hl (k := 3) rfl rfl (by decide) rfl (fun ls hl => ?_)
        refine lv_goto (tgt := 55) hx hb dd_Le_makeLevel_93 (by decide) ?_
        exact ih55 (x5 + 1) (upd t_holders ((x1 * 40) + x5).toNatClampNeg (t_number (r85).toNatClampNeg)) t_mate t_number t_size p4_size p4_arcs p4_weight _ _ _ hf (lv_sub hl [1, 2, 3, 0] rfl) hP hD hS
  refine lv_aload_n hx hb dd_Le_makeLevel_0 rfl (lv_at hl 0 rfl) ?_
  refine va_get (D := (dC, dI)) (ci := 2) (v := .ref a_t_size) (C := rr_Le) (T := tt_Le) (N := 6) hx hb hts (fun w h => gwc (inn_Le w h)) hown hK hP 0 rfl rfl 2 (by decide) (hts _ (gwc gw_181)) (fun _ h9 => h9) rfl dd_Le_makeLevel_1 ?_
  refine lv_iload_n hx hb dd_Le_makeLevel_4 rfl (lv_at hl 1 rfl) ?_
  refine lv_iconst (v := 1) hx hb dd_Le_makeLevel_5 (by decide) ?_
  refine lv_isub hx hb dd_Le_makeLevel_6 ?_
  obtain ⟨k7, hf⟩ := ck_some hf
  refine va_iald hx hb hK hP 4 0 rfl rfl (okb_in k7) dd_Le_makeLevel_7 ?_
  refine lv_bipush (v := 6) hx hb dd_Le_makeLevel_8 (by decide) ?_
  refine lv_icmp_gt (tgt := 15) hx hb dd_Le_makeLevel_10 (by decide) (fun cc => ?_) (fun cc => ?_)
  · skip
    have hf := if_t cc hf
    refine lv_aload_n hx hb dd_Le_makeLevel_15 rfl (lv_at hl 0 rfl) ?_
    refine lv_iload_n hx hb dd_Le_makeLevel_16 rfl (lv_at hl 1 rfl) ?_
    refine lv_iconst (v := 1) hx hb dd_Le_makeLevel_17 (by decide) ?_
    refine lv_isub hx hb dd_Le_makeLevel_18 ?_
    refine lv_aload_n hx hb dd_Le_makeLevel_19 rfl (lv_at hl 2 rfl) ?_
    refine lv_aload hx hb dd_Le_makeLevel_20 (lv_at hl 4 rfl) ?_
    obtain ⟨r22, hr22, hf⟩ := bind_some hf
    refine xcallv (rest := []) (wc := (wd_Le_drawInto cI cZ a_t a_t_holders a_t_size a_p2 a_p2_arcs a_p2_weight a_p4 a_p4_arcs a_p4_weight a_t_mate a_t_number t_fresh t_count t_holders t_size p2_size p2_arcs p2_weight p4_size p4_arcs p4_weight)) (w1 := (wd_Le_drawInto cI cZ a_t a_t_holders a_t_size a_p2 a_p2_arcs a_p2_weight a_p4 a_p4_arcs a_p4_weight a_t_mate a_t_number t_fresh t_count t_holders t_size p2_size p2_arcs p2_weight r22.1 r22.2.1 r22.2.2)) (wr := [(a_t_mate, .inl (cI, 40, .inl t_mate)), (a_t_number, .inl (cI, 40, .inl t_number))]) (ws' := (wd_Le_makeLevel cI cZ a_t a_t_holders a_t_mate a_t_number a_t_size a_p2 a_p2_arcs a_p2_weight a_p4 a_p4_arcs a_p4_weight t_fresh t_count t_holders t_mate t_number t_size p2_size p2_arcs p2_weight r22.1 r22.2.1 r22.2.2)) (va_runV (As := [.int (x1 - 1), .ref a_p2, .ref a_p4]) ⟨hx, hb, hml, hown, hts⟩ (c_Le_drawInto l dC dI cI cZ a_t a_t_holders a_t_size a_p2 a_p2_arcs a_p2_weight a_p4 a_p4_arcs a_p4_weight a_t_mate a_t_number H.size (x1 - 1) t_fresh t_count t_holders t_size p2_size p2_arcs p2_weight p4_size p4_arcs p4_weight r22 hr22) (cwV 3 hts (gV gw_435 gw_436 gw_437 gw_56 gw_438) rfl rfl rfl (yd_Le_drawInto) ⟨Nat.le_of_ble_eq_true rfl, Nat.le_of_ble_eq_true rfl⟩) (mkV hK (hP.sub (ws' := (wd_Le_drawInto cI cZ a_t a_t_holders a_t_size a_p2 a_p2_arcs a_p2_weight a_p4 a_p4_arcs a_p4_weight a_t_mate a_t_number t_fresh t_count t_holders t_size p2_size p2_arcs p2_weight p4_size p4_arcs p4_weight)) [0, 1, 4, 5, 6, 7, 8, 9, 10] rfl) (hD.sub (ws' := (wd_Le_drawInto cI cZ a_t a_t_holders a_t_size a_p2 a_p2_arcs a_p2_weight a_p4 a_p4_arcs a_p4_weight a_t_mate a_t_number t_fresh t_count t_holders t_size p2_size p2_arcs p2_weight p4_size p4_arcs p4_weight)) [0, 1, 4, 5, 6, 7, 8, 9, 10] (by decide) rfl) hN (va_recv hK hP (ci := 2) (q0 := 0) rfl rfl)) rfl rfl hl.1 rfl (lv_room (Nat.le_of_ble_eq_true rfl)) dd_Le_makeLevel_22 ⟨Nat.zero_le _, Nat.zero_le _⟩) hP hD hS hA [0, 1, 4, 5, 6, 7, 8, 9, 10] [2, 3] [2, 3, 0, 1, 4, 5, 6, 7, 8, 9, 10] rfl rfl (by decide) (by decide) rfl (by decide) rfl (fun H locs hP hD hS => ?_)
    refine lv_aload_n hx hb dd_Le_makeLevel_25 rfl (lv_at hl 0 rfl) ?_
    refine lv_aload hx hb dd_Le_makeLevel_26 (lv_at hl 4 rfl) ?_
    refine lv_iload_n hx hb dd_Le_makeLevel_28 rfl (lv_at hl 3 rfl) ?_
    obtain ⟨r29, hr29, hf⟩ := bind_some hf
    refine xcalli (rest := []) (wc := (wd_Le_joinAll cI cZ a_t a_t_mate a_p4 a_p4_arcs a_p4_weight a_t_size a_t_holders a_t_number t_fresh t_count t_mate r22.1 r22.2.1 r22.2.2)) (w1 := (wd_Le_joinAll cI cZ a_t a_t_mate a_p4 a_p4_arcs a_p4_weight a_t_size a_t_holders a_t_number t_fresh t_count r29.2 r22.1 r22.2.1 r22.2.2)) (wr := [(a_t_holders, .inl (cI, 1600, .inl t_holders)), (a_t_number, .inl (cI, 40, .inl t_number)), (a_t_size, .inl (cI, 40, .inl t_size)), (a_p2, .inr (1, [.int p2_size, .ref a_p2_weight, .ref a_p2_arcs])), (a_p2_arcs, .inl (cI, 1600, .inl p2_arcs)), (a_p2_weight, .inl (cI, 40, .inl p2_weight))]) (ws' := (wd_Le_makeLevel cI cZ a_t a_t_holders a_t_mate a_t_number a_t_size a_p2 a_p2_arcs a_p2_weight a_p4 a_p4_arcs a_p4_weight t_fresh t_count t_holders r29.2 t_number t_size p2_size p2_arcs p2_weight r22.1 r22.2.1 r22.2.2)) (va_runV (As := [.ref a_p4, .int x3]) ⟨hx, hb, hml, hown, hts⟩ (c_Le_joinAll l dC dI cI cZ a_t a_t_mate a_p4 a_p4_arcs a_p4_weight a_t_size a_t_holders a_t_number H.size x3 t_fresh t_count t_mate r22.1 r22.2.1 r22.2.2 r29 hr29) (cwV 2 hts (gV gw_446 gw_448 gw_4 gw_56 gw_449) rfl rfl rfl (yd_Le_joinAll) ⟨Nat.le_of_ble_eq_true rfl, Nat.le_of_ble_eq_true rfl⟩) (mkV hK (hP.sub (ws' := (wd_Le_joinAll cI cZ a_t a_t_mate a_p4 a_p4_arcs a_p4_weight a_t_size a_t_holders a_t_number t_fresh t_count t_mate r22.1 r22.2.1 r22.2.2)) [0, 2, 8, 9, 10] rfl) (hD.sub (ws' := (wd_Le_joinAll cI cZ a_t a_t_mate a_p4 a_p4_arcs a_p4_weight a_t_size a_t_holders a_t_number t_fresh t_count t_mate r22.1 r22.2.1 r22.2.2)) [0, 2, 8, 9, 10] (by decide) rfl) hN (va_recv hK hP (ci := 2) (q0 := 0) rfl rfl)) rfl rfl hl.1 rfl (lv_room (Nat.le_of_ble_eq_true rfl)) dd_Le_makeLevel_29 ⟨Nat.zero_le _, Nat.zero_le _⟩) hP hD hS hA [0, 2, 8, 9, 10] [1, 3, 4, 5, 6, 7] [6, 0, 7, 1, 2, 3, 4, 5, 8, 9, 10] rfl rfl (by decide) (by decide) rfl (by decide) rfl (fun H locs hP hD hS => ?_)
    refine lv_if_ne (tgt := 37) hx hb dd_Le_makeLevel_32 (by decide) (fun cc => ?_) (fun cc => ?_)
    · skip
      have hf := if_f cc hf
      refine lv_aload_n hx hb dd_Le_makeLevel_37 rfl (lv_at hl 0 rfl) ?_
      refine va_get (D := (dC, dI)) (ci := 2) (v := .ref a_t_size) (C := rr_Le) (T := tt_Le) (N := 6) hx hb hts (fun w h => gwc (inn_Le w h)) hown hK hP 0 rfl rfl 2 (by decide) (hts _ (gwc gw_181)) (fun _ h9 => h9) rfl dd_Le_makeLevel_38 ?_
      refine lv_iload_n hx hb dd_Le_makeLevel_41 rfl (lv_at hl 1 rfl) ?_
      refine lv_aload_n hx hb dd_Le_makeLevel_42 rfl (lv_at hl 0 rfl) ?_
      refine lv_aload hx hb dd_Le_makeLevel_43 (lv_at hl 4 rfl) ?_
      refine va_get (D := (dC, dI)) (ci := 1) (v := .int r22.1) (C := rr_Gr) (T := tt_Gr) (N := 3) hx hb hts (fun w h => gwc (inn_Gr w h)) hown hK hP 8 rfl rfl 0 (by decide) (hts _ (gwc gw_90)) (fun _ h9 => h9) rfl dd_Le_makeLevel_45 ?_
      obtain ⟨r48, hr48, hf⟩ := bind_some hf
      refine xcalli (rest := [.int x1, .ref a_t_size]) (wc := (wd_Le_numberJoined cI cZ a_t a_t_mate a_t_number a_t_size a_t_holders t_fresh t_count r29.2 t_number)) (w1 := (wd_Le_numberJoined cI cZ a_t a_t_mate a_t_number a_t_size a_t_holders t_fresh t_count r29.2 r48.2)) (wr := [(a_t_holders, .inl (cI, 1600, .inl t_holders)), (a_t_size, .inl (cI, 40, .inl t_size)), (a_p2, .inr (1, [.int p2_size, .ref a_p2_weight, .ref a_p2_arcs])), (a_p2_arcs, .inl (cI, 1600, .inl p2_arcs)), (a_p2_weight, .inl (cI, 40, .inl p2_weight)), (a_p4, .inr (1, [.int r22.1, .ref a_p4_weight, .ref a_p4_arcs])), (a_p4_arcs, .inl (cI, 1600, .inl r22.2.1)), (a_p4_weight, .inl (cI, 40, .inl r22.2.2))]) (ws' := (wd_Le_makeLevel cI cZ a_t a_t_holders a_t_mate a_t_number a_t_size a_p2 a_p2_arcs a_p2_weight a_p4 a_p4_arcs a_p4_weight t_fresh t_count t_holders r29.2 r48.2 t_size p2_size p2_arcs p2_weight r22.1 r22.2.1 r22.2.2)) (va_runV (As := [.int r22.1]) ⟨hx, hb, hml, hown, hts⟩ (c_Le_numberJoined l dC dI cI cZ a_t a_t_mate a_t_number a_t_size a_t_holders H.size r22.1 t_fresh t_count r29.2 t_number r48 hr48) (cwV 1 hts (gV gw_459 gw_461 gw_6 gw_56 gw_462) rfl rfl rfl (yd_Le_numberJoined) ⟨Nat.le_of_ble_eq_true rfl, Nat.le_of_ble_eq_true rfl⟩) (mkV hK (hP.sub (ws' := (wd_Le_numberJoined cI cZ a_t a_t_mate a_t_number a_t_size a_t_holders t_fresh t_count r29.2 t_number)) [0, 2, 3] rfl) (hD.sub (ws' := (wd_Le_numberJoined cI cZ a_t a_t_mate a_t_number a_t_size a_t_holders t_fresh t_count r29.2 t_number)) [0, 2, 3] (by decide) rfl) hN (va_recv hK hP (ci := 2) (q0 := 0) rfl rfl)) rfl rfl hl.1 rfl (lv_room (Nat.le_of_ble_eq_true rfl)) dd_Le_makeLevel_48 ⟨Nat.zero_le _, Nat.zero_le _⟩) hP hD hS hA [0, 2, 3] [1, 4, 5, 6, 7, 8, 9, 10] [8, 0, 9, 10, 1, 2, 3, 4, 5, 6, 7] rfl rfl (by decide) (by decide) rfl (by decide) rfl (fun H locs hP hD hS => ?_)
      obtain ⟨k51, hf⟩ := ck_some hf
      refine va_iast hx hb hK hP hD hS 4 0 rfl rfl (okb_in k51) dd_Le_makeLevel_51 (fun H locs hP hD hS => ?_)
      have hP : va_P (dC, dI) clsL (wd_Le_makeLevel cI cZ a_t a_t_holders a_t_mate a_t_number a_t_size a_p2 a_p2_arcs a_p2_weight a_p4 a_p4_arcs a_p4_weight t_fresh t_count t_holders r29.2 r48.2 (upd t_size (x1).toNatClampNeg r48.1) p2_size p2_arcs p2_weight r22.1 r22.2.1 r22.2.2) H := hP
      have hD : va_D A (wd_Le_makeLevel cI cZ a_t a_t_holders a_t_mate a_t_number a_t_size a_p2 a_p2_arcs a_p2_weight a_p4 a_p4_arcs a_p4_weight t_fresh t_count t_holders r29.2 r48.2 (upd t_size (x1).toNatClampNeg r48.1) p2_size p2_arcs p2_weight r22.1 r22.2.1 r22.2.2) := hD
      refine lv_iconst (v := 0) hx hb dd_Le_makeLevel_52 (by decide) ?_
      refine lv_istore (lv' := [(5, .int 0), (0, .ref a_t), (1, .int x1), (2, .ref a_p2), (3, .int x3), (4, .ref a_p4)]) hx hb dd_Le_makeLevel_53 hl (by decide) rfl (fun ls hl => ?_)
      exact h55 64 0 t_holders r29.2 r48.2 (upd t_size (x1).toNatClampNeg r48.1) r22.1 r22.2.1 r22.2.2 _ _ _ hf (lv_sub hl [1, 2, 3, 0] rfl) hP hD hS
    · skip
      have hf := if_t cc hf
      refine lv_iconst (v := 0) hx hb dd_Le_makeLevel_35 (by decide) ?_
      cases hf
      exact W.zret hx hb hr narrow_b0 (fun t ht hW => ⟨⟨_, (), rfl, rfl, pst_of ht hP hD⟩, hS.F ht⟩) hS.2.2 dd_Le_makeLevel_36
  · skip
    have hf := if_f cc hf
    refine lv_iconst (v := 0) hx hb dd_Le_makeLevel_13 (by decide) ?_
    cases hf
    exact W.zret hx hb hr narrow_b0 (fun t ht hW => ⟨⟨_, (), rfl, rfl, pst_of ht hP hD⟩, hS.F ht⟩) hS.2.2 dd_Le_makeLevel_14
abbrev wd_Le_renew (cI cZ : ClassId) (a_t a_t_holders a_t_mate a_t_number a_t_size a_p1 a_p1_arcs a_p1_weight a_p3 a_p3_arcs a_p3_weight : Nat) (t_fresh : Int32) (t_count : Int32) (t_holders : Nat → Int32) (t_mate : Nat → Int32) (t_number : Nat → Int32) (t_size : Nat → Int32) (p1_size : Int32) (p1_arcs : Nat → Int32) (p1_weight : Nat → Int32) (p3_size : Int32) (p3_arcs : Nat → Int32) (p3_weight : Nat → Int32) : va_W := [(a_t, .inr (2, [.int t_fresh, .int t_count, .ref a_t_size, .ref a_t_holders, .ref a_t_mate, .ref a_t_number])), (a_t_holders, .inl (cI, 1600, .inl t_holders)), (a_t_mate, .inl (cI, 40, .inl t_mate)), (a_t_number, .inl (cI, 40, .inl t_number)), (a_t_size, .inl (cI, 40, .inl t_size)), (a_p1, .inr (1, [.int p1_size, .ref a_p1_weight, .ref a_p1_arcs])), (a_p1_arcs, .inl (cI, 1600, .inl p1_arcs)), (a_p1_weight, .inl (cI, 40, .inl p1_weight)), (a_p3, .inr (1, [.int p3_size, .ref a_p3_weight, .ref a_p3_arcs])), (a_p3_arcs, .inl (cI, 1600, .inl p3_arcs)), (a_p3_weight, .inl (cI, 40, .inl p3_weight))]
set_option maxRecDepth 100000 in
set_option maxHeartbeats 4000000 in
theorem c_Le_renew (l : Launch) (dC : Nat → ClassId) (dI : Nat → Nat → Nat) (cI cZ : ClassId) (a_t a_t_holders a_t_mate a_t_number a_t_size a_p1 a_p1_arcs a_p1_weight a_p3 a_p3_arcs a_p3_weight sz : Nat) (x2 : Int32) (t_fresh : Int32) (t_count : Int32) (t_holders : Nat → Int32) (t_mate : Nat → Int32) (t_number : Nat → Int32) (t_size : Nat → Int32) (p1_size : Int32) (p1_arcs : Nat → Int32) (p1_weight : Nat → Int32) (p3_size : Int32) (p3_arcs : Nat → Int32) (p3_weight : Nat → Int32) (out : Int32 × Int32 × (Nat → Int32) × (Nat → Int32) × (Nat → Int32) × (Nat → Int32) × Int32 × (Nat → Int32) × (Nat → Int32)) (hf : f_Le_renew x2 t_fresh t_count t_holders t_mate t_number t_size p1_size p1_arcs p1_weight p3_size p3_arcs p3_weight = some out) :
    Met l yy_Le_renew wq_Le_renew ({ frames := 4, cells := 0, slots := 0, locals := 105 }) (va_Pc ([.ref a_t, .ref a_p1, .int x2, .ref a_p3] : List Value) (pre_ (dC, dI) cI cZ sz (wd_Le_renew cI cZ a_t a_t_holders a_t_mate a_t_number a_t_size a_p1 a_p1_arcs a_p1_weight a_p3 a_p3_arcs a_p3_weight t_fresh t_count t_holders t_mate t_number t_size p1_size p1_arcs p1_weight p3_size p3_arcs p3_weight))) (va_Qv (fun _ : Unit => True) (fun _ => pst (dC, dI) (va_A (wd_Le_renew cI cZ a_t a_t_holders a_t_mate a_t_number a_t_size a_p1 a_p1_arcs a_p1_weight a_p3 a_p3_arcs a_p3_weight t_fresh t_count t_holders t_mate t_number t_size p1_size p1_arcs p1_weight p3_size p3_arcs p3_weight) sz) (wd_Le_renew cI cZ a_t a_t_holders a_t_mate a_t_number a_t_size a_p1 a_p1_arcs a_p1_weight a_p3 a_p3_arcs a_p3_weight out.1 out.2.1 out.2.2.1 out.2.2.2.1 out.2.2.2.2.1 out.2.2.2.2.2.1 p1_size p1_arcs p1_weight out.2.2.2.2.2.2.1 out.2.2.2.2.2.2.2.1 out.2.2.2.2.2.2.2.2)) (va_A (wd_Le_renew cI cZ a_t a_t_holders a_t_mate a_t_number a_t_size a_p1 a_p1_arcs a_p1_weight a_p3 a_p3_arcs a_p3_weight t_fresh t_count t_holders t_mate t_number t_size p1_size p1_arcs p1_weight p3_size p3_arcs p3_weight) sz)) 0 0 (va_A (wd_Le_renew cI cZ a_t a_t_holders a_t_mate a_t_number a_t_size a_p1 a_p1_arcs a_p1_weight a_p3 a_p3_arcs a_p3_weight t_fresh t_count t_holders t_mate t_number t_size p1_size p1_arcs p1_weight p3_size p3_arcs p3_weight) sz) := by
  refine Met.ofW (cc := cc_Le_renew) (maxL := 5) (ret := none) (by decide) rfl ?_
  intro p e s m args below meth c s₁ B hml hv
  obtain ⟨rfl, hsz, hP, hK, hD0, hN⟩ := hv
  have hx := B.exec
  have hb := B.bytes
  have hr := B.returns
  have hts := atoms_spec (ws := wq_Le_renew) B.pre
  have hown : s.vm.findClass rr_Le = some m.cls := findClass_of_methodNamed B.named
  have hlocks := B.notSynchronized
  subst hsz
  have hD := hD0.self (sz := s.heap.size)
  generalize hAe : va_A (wd_Le_renew cI cZ a_t a_t_holders a_t_mate a_t_number a_t_size a_p1 a_p1_arcs a_p1_weight a_p3 a_p3_arcs a_p3_weight t_fresh t_count t_holders t_mate t_number t_size p1_size p1_arcs p1_weight p3_size p3_arcs p3_weight) s.heap.size = A at hD ⊢
  have hA : ∀ q : Nat, s.heap.size ≤ q → A q := fun q h => by rw [← hAe]; exact Or.inr h
  obtain ⟨H, hH⟩ : ∃ H : Heap, H = s.heap := ⟨_, rfl⟩
  have hS : va_S A s.heap H [] := by rw [hH]; exact va_S.rf
  have hl := lv_entry (([.ref a_t, .ref a_p1, .int x2, .ref a_p3] : List Value)) (n := 5) (Nat.le_of_ble_eq_true rfl)
  rw [lg_entry_eq]
  generalize (lg_sl (([.ref a_t, .ref a_p1, .int x2, .ref a_p3] : List Value)) ++ List.replicate (5 - (lg_sl (([.ref a_t, .ref a_p1, .int x2, .ref a_p3] : List Value))).length) Slot.unset).toArray = ls at hl ⊢
  have hl : lv_has ls 5 [(0, .ref a_t), (1, .ref a_p1), (2, .int x2), (3, .ref a_p3)] := hl
  rw [← hH] at hP ⊢
  have hP : va_P (dC, dI) clsL (wd_Le_renew cI cZ a_t a_t_holders a_t_mate a_t_number a_t_size a_p1 a_p1_arcs a_p1_weight a_p3 a_p3_arcs a_p3_weight t_fresh t_count t_holders t_mate t_number t_size p1_size p1_arcs p1_weight p3_size p3_arcs p3_weight) H := hP
  unfold f_Le_renew at hf
  have h31 : ∀ (n31 : Nat) (x4 : Int32) (t_fresh : Int32) (t_count : Int32) (t_holders : Nat → Int32) (t_size : Nat → Int32) (ls : Array Slot) (H : Heap) (locs : List Loc), L_Le_renew_31 x2 t_mate t_number p1_size p1_arcs p1_weight p3_size p3_arcs p3_weight n31 x4 t_fresh t_count t_holders t_size = some out → lv_has ls 5 [(0, .ref a_t), (1, .ref a_p1), (2, .int x2), (3, .ref a_p3), (4, .int x4)] → va_P (dC, dI) clsL (wd_Le_renew cI cZ a_t a_t_holders a_t_mate a_t_number a_t_size a_p1 a_p1_arcs a_p1_weight a_p3 a_p3_arcs a_p3_weight t_fresh t_count t_holders t_mate t_number t_size p1_size p1_arcs p1_weight p3_size p3_arcs p3_weight) H → va_D A (wd_Le_renew cI cZ a_t a_t_holders a_t_mate a_t_number a_t_size a_p1 a_p1_arcs a_p1_weight a_p3 a_p3_arcs a_p3_weight t_fresh t_count t_holders t_mate t_number t_size p1_size p1_arcs p1_weight p3_size p3_arcs p3_weight) → va_S A s.heap H locs → W p l e (headSpec wq_Le_renew ({ frames := 4, cells := 0, slots := 0, locals := 105 })).room s m ([.ref a_t, .ref a_p1, .int x2, .ref a_p3] : List Value).toArray below meth c H locs 0 0 (MQ below (va_Qv (fun _ : Unit => True) (fun _ => pst (dC, dI) A (wd_Le_renew cI cZ a_t a_t_holders a_t_mate a_t_number a_t_size a_p1 a_p1_arcs a_p1_weight a_p3 a_p3_arcs a_p3_weight out.1 out.2.1 out.2.2.1 out.2.2.2.1 out.2.2.2.2.1 out.2.2.2.2.2.1 p1_size p1_arcs p1_weight out.2.2.2.2.2.2.1 out.2.2.2.2.2.2.2.1 out.2.2.2.2.2.2.2.2)) A) ([.ref a_t, .ref a_p1, .int x2, .ref a_p3] : List Value).toArray s 0 0 A) (F0 m 31 ls []) := by
    intro n31
    induction n31 with
    | zero =>
      intro x4 t_fresh t_count t_holders t_size ls H locs hf
      rw [L_Le_renew_31] at hf
      exact absurd hf (fun h => by cases h)
    | succ n31 ih31 =>
      intro x4 t_fresh t_count t_holders t_size ls H locs hf hl hP hD hS
      rw [L_Le_renew_31] at hf
      have h58 : ∀ (n58 : Nat) (x4 : Int32) (t_fresh : Int32) (t_count : Int32) (t_holders : Nat → Int32) (t_mate : Nat → Int32) (t_number : Nat → Int32) (t_size : Nat → Int32) (p3_size : Int32) (p3_arcs : Nat → Int32) (p3_weight : Nat → Int32) (ls : Array Slot) (H : Heap) (locs : List Loc), L_Le_renew_58 x2 p1_size p1_arcs p1_weight n58 x4 t_fresh t_count t_holders t_mate t_number t_size p3_size p3_arcs p3_weight = some out → lv_has ls 5 [(0, .ref a_t), (1, .ref a_p1), (2, .int x2), (3, .ref a_p3), (4, .int x4)] → va_P (dC, dI) clsL (wd_Le_renew cI cZ a_t a_t_holders a_t_mate a_t_number a_t_size a_p1 a_p1_arcs a_p1_weight a_p3 a_p3_arcs a_p3_weight t_fresh t_count t_holders t_mate t_number t_size p1_size p1_arcs p1_weight p3_size p3_arcs p3_weight) H → va_D A (wd_Le_renew cI cZ a_t a_t_holders a_t_mate a_t_number a_t_size a_p1 a_p1_arcs a_p1_weight a_p3 a_p3_arcs a_p3_weight t_fresh t_count t_holders t_mate t_number t_size p1_size p1_arcs p1_weight p3_size p3_arcs p3_weight) → va_S A s.heap H locs → W p l e (headSpec wq_Le_renew ({ frames := 4, cells := 0, slots := 0, locals := 105 })).room s m ([.ref a_t, .ref a_p1, .int x2, .ref a_p3] : List Value).toArray below meth c H locs 0 0 (MQ below (va_Qv (fun _ : Unit => True) (fun _ => pst (dC, dI) A (wd_Le_renew cI cZ a_t a_t_holders a_t_mate a_t_number a_t_size a_p1 a_p1_arcs a_p1_weight a_p3 a_p3_arcs a_p3_weight out.1 out.2.1 out.2.2.1 out.2.2.2.1 out.2.2.2.2.1 out.2.2.2.2.2.1 p1_size p1_arcs p1_weight out.2.2.2.2.2.2.1 out.2.2.2.2.2.2.2.1 out.2.2.2.2.2.2.2.2)) A) ([.ref a_t, .ref a_p1, .int x2, .ref a_p3] : List Value).toArray s 0 0 A) (F0 m 58 ls []) := by
        intro n58
        induction n58 with
        | zero =>
          intro x4 t_fresh t_count t_holders t_mate t_number t_size p3_size p3_arcs p3_weight ls H locs hf
          rw [L_Le_renew_58] at hf
          exact absurd hf (fun h => by cases h)
        | succ n58 ih58 =>
          intro x4 t_fresh t_count t_holders t_mate t_number t_size p3_size p3_arcs p3_weight ls H locs hf hl hP hD hS
          rw [L_Le_renew_58] at hf
          refine lv_iload hx hb dd_Le_renew_58 (lv_at hl 4 rfl) ?_
          refine lv_bipush (v := 40) hx hb dd_Le_renew_60 (by decide) ?_
          refine lv_icmp_ge (tgt := 91) hx hb dd_Le_renew_62 (by decide) (fun cc => ?_) (fun cc => ?_)
          · skip
            have hf := if_t cc hf
            cases hf
            exact W.vret hx hb hr (fun t ht hW => ⟨⟨(), rfl, trivial, pst_of ht hP hD⟩, hS.F ht⟩) hS.2.2 dd_Le_renew_91
          · skip
            have hf := if_f cc hf
            refine lv_aload_n hx hb dd_Le_renew_65 rfl (lv_at hl 0 rfl) ?_
            refine lv_iload hx hb dd_Le_renew_66 (lv_at hl 4 rfl) ?_
            refine lv_aload_n hx hb dd_Le_renew_68 rfl (lv_at hl 1 rfl) ?_
            refine lv_iload_n hx hb dd_Le_renew_69 rfl (lv_at hl 2 rfl) ?_
            refine lv_aload_n hx hb dd_Le_renew_70 rfl (lv_at hl 3 rfl) ?_
            obtain ⟨r71, hr71, hf⟩ := bind_some hf
            refine xcalli (rest := []) (wc := (wd_Le_makeLevel cI cZ a_t a_t_holders a_t_mate a_t_number a_t_size a_p1 a_p1_arcs a_p1_weight a_p3 a_p3_arcs a_p3_weight t_fresh t_count t_holders t_mate t_number t_size p1_size p1_arcs p1_weight p3_size p3_arcs p3_weight)) (w1 := (wd_Le_makeLevel cI cZ a_t a_t_holders a_t_mate a_t_number a_t_size a_p1 a_p1_arcs a_p1_weight a_p3 a_p3_arcs a_p3_weight t_fresh t_count r71.2.1 r71.2.2.1 r71.2.2.2.1 r71.2.2.2.2.1 p1_size p1_arcs p1_weight r71.2.2.2.2.2.1 r71.2.2.2.2.2.2.1 r71.2.2.2.2.2.2.2)) (wr := []) (ws' := (wd_Le_renew cI cZ a_t a_t_holders a_t_mate a_t_number a_t_size a_p1 a_p1_arcs a_p1_weight a_p3 a_p3_arcs a_p3_weight t_fresh t_count r71.2.1 r71.2.2.1 r71.2.2.2.1 r71.2.2.2.2.1 p1_size p1_arcs p1_weight r71.2.2.2.2.2.1 r71.2.2.2.2.2.2.1 r71.2.2.2.2.2.2.2)) (va_runV (As := [.int x4, .ref a_p1, .int x2, .ref a_p3]) ⟨hx, hb, hml, hown, hts⟩ (c_Le_makeLevel l dC dI cI cZ a_t a_t_holders a_t_mate a_t_number a_t_size a_p1 a_p1_arcs a_p1_weight a_p3 a_p3_arcs a_p3_weight H.size x4 x2 t_fresh t_count t_holders t_mate t_number t_size p1_size p1_arcs p1_weight p3_size p3_arcs p3_weight r71 hr71) (cwV 4 hts (gV gw_431 gw_433 gw_3 gw_56 gw_434) rfl rfl rfl (yd_Le_makeLevel) ⟨Nat.le_of_ble_eq_true rfl, Nat.le_of_ble_eq_true rfl⟩) (mkV hK (hP.sub (ws' := (wd_Le_makeLevel cI cZ a_t a_t_holders a_t_mate a_t_number a_t_size a_p1 a_p1_arcs a_p1_weight a_p3 a_p3_arcs a_p3_weight t_fresh t_count t_holders t_mate t_number t_size p1_size p1_arcs p1_weight p3_size p3_arcs p3_weight)) [0, 1, 2, 3, 4, 5, 6, 7, 8, 9, 10] rfl) (hD.sub (ws' := (wd_Le_makeLevel cI cZ a_t a_t_holders a_t_mate a_t_number a_t_size a_p1 a_p1_arcs a_p1_weight a_p3 a_p3_arcs a_p3_weight t_fresh t_count t_holders t_mate t_number t_size p1_size p1_arcs p1_weight p3_size p3_arcs p3_weight)) [0, 1, 2, 3, 4, 5, 6, 7, 8, 9, 10] (by decide) rfl) hN (va_recv hK hP (ci := 2) (q0 := 0) rfl rfl)) rfl rfl hl.1 rfl (lv_room (Nat.le_of_ble_eq_true rfl)) dd_Le_renew_71 ⟨Nat.zero_le _, Nat.zero_le _⟩) hP hD hS hA [0, 1, 2, 3, 4, 5, 6, 7, 8, 9, 10] [] [0, 1, 2, 3, 4, 5, 6, 7, 8, 9, 10] rfl rfl (by decide) (by decide) rfl (by decide) rfl (fun H locs hP hD hS => ?_)
            refine lv_if_eq (tgt := 91) hx hb dd_Le_renew_74 (by decide) (fun cc => ?_) (fun cc => ?_)
            · skip
              have hf := if_t cc hf
              cases hf
              exact W.vret hx hb hr (fun t ht hW => ⟨⟨(), rfl, trivial, pst_of ht hP hD⟩, hS.F ht⟩) hS.2.2 dd_Le_renew_91
            · skip
              have hf := if_f cc hf
              refine lv_aload_n hx hb dd_Le_renew_77 rfl (lv_at hl 0 rfl) ?_
              refine lv_iload hx hb dd_Le_renew_78 (lv_at hl 4 rfl) ?_
              refine lv_iconst (v := 1) hx hb dd_Le_renew_80 (by decide) ?_
              refine lv_iadd hx hb dd_Le_renew_81 ?_
              refine va_put (D := (dC, dI)) (ci := 2) (v := .int (x4 + 1)) (ty := .int) (C := rr_Le) (T := tt_Le) (N := 6) hx hb hts (fun w h => gwc (inn_Le w h)) tf_Le to_Le tn_Le hown hK hP hD hS 0 rfl rfl 1 (by decide) (hts _ (gwc gw_179)) (fun _ h9 => h9) rfl (by decide +kernel) rfl rfl (Nat.le_of_ble_eq_true rfl) dd_Le_renew_82 (fun H locs hP hD hS => ?_)
              have hP : va_P (dC, dI) clsL (wd_Le_renew cI cZ a_t a_t_holders a_t_mate a_t_number a_t_size a_p1 a_p1_arcs a_p1_weight a_p3 a_p3_arcs a_p3_weight t_fresh (x4 + 1) r71.2.1 r71.2.2.1 r71.2.2.2.1 r71.2.2.2.2.1 p1_size p1_arcs p1_weight r71.2.2.2.2.2.1 r71.2.2.2.2.2.2.1 r71.2.2.2.2.2.2.2) H := hP
              have hD : va_D A (wd_Le_renew cI cZ a_t a_t_holders a_t_mate a_t_number a_t_size a_p1 a_p1_arcs a_p1_weight a_p3 a_p3_arcs a_p3_weight t_fresh (x4 + 1) r71.2.1 r71.2.2.1 r71.2.2.2.1 r71.2.2.2.2.1 p1_size p1_arcs p1_weight r71.2.2.2.2.2.1 r71.2.2.2.2.2.2.1 r71.2.2.2.2.2.2.2) := hD
              refine lv_iinc (v := x4 + 1) (lv' := [(4, .int (x4 + 1)), (0, .ref a_t), (1, .ref a_p1), (2, .int x2), (3, .ref a_p3)]) hx hb dd_Le_renew_85 hl (k := 4) rfl rfl (by decide) rfl (fun ls hl => ?_)
              refine lv_goto (tgt := 58) hx hb dd_Le_renew_88 (by decide) ?_
              exact ih58 (x4 + 1) t_fresh (x4 + 1) r71.2.1 r71.2.2.1 r71.2.2.2.1 r71.2.2.2.2.1 r71.2.2.2.2.2.1 r71.2.2.2.2.2.2.1 r71.2.2.2.2.2.2.2 _ _ _ hf (lv_sub hl [1, 2, 3, 4, 0] rfl) hP hD hS
      refine lv_iload hx hb dd_Le_renew_31 (lv_at hl 4 rfl) ?_
      refine lv_aload_n hx hb dd_Le_renew_33 rfl (lv_at hl 1 rfl) ?_
      refine va_get (D := (dC, dI)) (ci := 1) (v := .int p1_size) (C := rr_Gr) (T := tt_Gr) (N := 3) hx hb hts (fun w h => gwc (inn_Gr w h)) hown hK hP 5 rfl rfl 0 (by decide) (hts _ (gwc gw_90)) (fun _ h9 => h9) rfl dd_Le_renew_34 ?_
      refine lv_icmp_ge (tgt := 55) hx hb dd_Le_renew_37 (by decide) (fun cc => ?_) (fun cc => ?_)
      · skip
        have hf := if_t cc hf
        refine lv_iconst (v := 1) hx hb dd_Le_renew_55 (by decide) ?_
        refine lv_istore (lv' := [(4, .int 1), (0, .ref a_t), (1, .ref a_p1), (2, .int x2), (3, .ref a_p3)]) hx hb dd_Le_renew_56 hl (by decide) rfl (fun ls hl => ?_)
        exact h58 64 1 t_fresh t_count t_holders t_mate t_number t_size p3_size p3_arcs p3_weight _ _ _ hf (lv_sub hl [1, 2, 3, 4, 0] rfl) hP hD hS
      · skip
        have hf := if_f cc hf
        refine lv_aload_n hx hb dd_Le_renew_40 rfl (lv_at hl 0 rfl) ?_
        refine va_get (D := (dC, dI)) (ci := 2) (v := .ref a_t_holders) (C := rr_Le) (T := tt_Le) (N := 6) hx hb hts (fun w h => gwc (inn_Le w h)) hown hK hP 0 rfl rfl 3 (by decide) (hts _ (gwc gw_182)) (fun _ h9 => h9) rfl dd_Le_renew_41 ?_
        refine lv_iload hx hb dd_Le_renew_44 (lv_at hl 4 rfl) ?_
        refine lv_iload hx hb dd_Le_renew_46 (lv_at hl 4 rfl) ?_
        obtain ⟨k48, hf⟩ := ck_some hf
        refine va_iast hx hb hK hP hD hS 1 0 rfl rfl (okb_in k48) dd_Le_renew_48 (fun H locs hP hD hS => ?_)
        have hP : va_P (dC, dI) clsL (wd_Le_renew cI cZ a_t a_t_holders a_t_mate a_t_number a_t_size a_p1 a_p1_arcs a_p1_weight a_p3 a_p3_arcs a_p3_weight t_fresh t_count (upd t_holders (x4).toNatClampNeg x4) t_mate t_number t_size p1_size p1_arcs p1_weight p3_size p3_arcs p3_weight) H := hP
        have hD : va_D A (wd_Le_renew cI cZ a_t a_t_holders a_t_mate a_t_number a_t_size a_p1 a_p1_arcs a_p1_weight a_p3 a_p3_arcs a_p3_weight t_fresh t_count (upd t_holders (x4).toNatClampNeg x4) t_mate t_number t_size p1_size p1_arcs p1_weight p3_size p3_arcs p3_weight) := hD
        refine lv_iinc (v := x4 + 1) (lv' := [(4, .int (x4 + 1)), (0, .ref a_t), (1, .ref a_p1), (2, .int x2), (3, .ref a_p3)]) hx hb dd_Le_renew_49 hl (k := 4) rfl rfl (by decide) rfl (fun ls hl => ?_)
        refine lv_goto (tgt := 31) hx hb dd_Le_renew_52 (by decide) ?_
        exact ih31 (x4 + 1) t_fresh t_count (upd t_holders (x4).toNatClampNeg x4) t_size _ _ _ hf (lv_sub hl [1, 2, 3, 4, 0] rfl) hP hD hS
  refine lv_aload_n hx hb dd_Le_renew_0 rfl (lv_at hl 0 rfl) ?_
  refine va_get (D := (dC, dI)) (ci := 2) (v := .int t_fresh) (C := rr_Le) (T := tt_Le) (N := 6) hx hb hts (fun w h => gwc (inn_Le w h)) hown hK hP 0 rfl rfl 0 (by decide) (hts _ (gwc gw_177)) (fun _ h9 => h9) rfl dd_Le_renew_1 ?_
  refine lv_if_eq (tgt := 8) hx hb dd_Le_renew_4 (by decide) (fun cc => ?_) (fun cc => ?_)
  · skip
    have hf := if_t cc hf
    refine lv_aload_n hx hb dd_Le_renew_8 rfl (lv_at hl 0 rfl) ?_
    refine lv_iconst (v := 1) hx hb dd_Le_renew_9 (by decide) ?_
    refine va_put (D := (dC, dI)) (ci := 2) (v := .int 1) (ty := .boolean) (C := rr_Le) (T := tt_Le) (N := 6) hx hb hts (fun w h => gwc (inn_Le w h)) tf_Le to_Le tn_Le hown hK hP hD hS 0 rfl rfl 0 (by decide) (hts _ (gwc gw_177)) (fun _ h9 => h9) rfl (by decide +kernel) narrow_b1 rfl (Nat.le_of_ble_eq_true rfl) dd_Le_renew_10 (fun H locs hP hD hS => ?_)
    have hP : va_P (dC, dI) clsL (wd_Le_renew cI cZ a_t a_t_holders a_t_mate a_t_number a_t_size a_p1 a_p1_arcs a_p1_weight a_p3 a_p3_arcs a_p3_weight 1 t_count t_holders t_mate t_number t_size p1_size p1_arcs p1_weight p3_size p3_arcs p3_weight) H := hP
    have hD : va_D A (wd_Le_renew cI cZ a_t a_t_holders a_t_mate a_t_number a_t_size a_p1 a_p1_arcs a_p1_weight a_p3 a_p3_arcs a_p3_weight 1 t_count t_holders t_mate t_number t_size p1_size p1_arcs p1_weight p3_size p3_arcs p3_weight) := hD
    refine lv_aload_n hx hb dd_Le_renew_13 rfl (lv_at hl 0 rfl) ?_
    refine lv_iconst (v := 1) hx hb dd_Le_renew_14 (by decide) ?_
    refine va_put (D := (dC, dI)) (ci := 2) (v := .int 1) (ty := .int) (C := rr_Le) (T := tt_Le) (N := 6) hx hb hts (fun w h => gwc (inn_Le w h)) tf_Le to_Le tn_Le hown hK hP hD hS 0 rfl rfl 1 (by decide) (hts _ (gwc gw_179)) (fun _ h9 => h9) rfl (by decide +kernel) rfl rfl (Nat.le_of_ble_eq_true rfl) dd_Le_renew_15 (fun H locs hP hD hS => ?_)
    have hP : va_P (dC, dI) clsL (wd_Le_renew cI cZ a_t a_t_holders a_t_mate a_t_number a_t_size a_p1 a_p1_arcs a_p1_weight a_p3 a_p3_arcs a_p3_weight 1 1 t_holders t_mate t_number t_size p1_size p1_arcs p1_weight p3_size p3_arcs p3_weight) H := hP
    have hD : va_D A (wd_Le_renew cI cZ a_t a_t_holders a_t_mate a_t_number a_t_size a_p1 a_p1_arcs a_p1_weight a_p3 a_p3_arcs a_p3_weight 1 1 t_holders t_mate t_number t_size p1_size p1_arcs p1_weight p3_size p3_arcs p3_weight) := hD
    refine lv_aload_n hx hb dd_Le_renew_18 rfl (lv_at hl 0 rfl) ?_
    refine va_get (D := (dC, dI)) (ci := 2) (v := .ref a_t_size) (C := rr_Le) (T := tt_Le) (N := 6) hx hb hts (fun w h => gwc (inn_Le w h)) hown hK hP 0 rfl rfl 2 (by decide) (hts _ (gwc gw_181)) (fun _ h9 => h9) rfl dd_Le_renew_19 ?_
    refine lv_iconst (v := 0) hx hb dd_Le_renew_22 (by decide) ?_
    refine lv_aload_n hx hb dd_Le_renew_23 rfl (lv_at hl 1 rfl) ?_
    refine va_get (D := (dC, dI)) (ci := 1) (v := .int p1_size) (C := rr_Gr) (T := tt_Gr) (N := 3) hx hb hts (fun w h => gwc (inn_Gr w h)) hown hK hP 5 rfl rfl 0 (by decide) (hts _ (gwc gw_90)) (fun _ h9 => h9) rfl dd_Le_renew_24 ?_
    obtain ⟨k27, hf⟩ := ck_some hf
    refine va_iast hx hb hK hP hD hS 4 0 rfl rfl (okb_in k27) dd_Le_renew_27 (fun H locs hP hD hS => ?_)
    have hP : va_P (dC, dI) clsL (wd_Le_renew cI cZ a_t a_t_holders a_t_mate a_t_number a_t_size a_p1 a_p1_arcs a_p1_weight a_p3 a_p3_arcs a_p3_weight 1 1 t_holders t_mate t_number (upd t_size (0 : Int32).toNatClampNeg p1_size) p1_size p1_arcs p1_weight p3_size p3_arcs p3_weight) H := hP
    have hD : va_D A (wd_Le_renew cI cZ a_t a_t_holders a_t_mate a_t_number a_t_size a_p1 a_p1_arcs a_p1_weight a_p3 a_p3_arcs a_p3_weight 1 1 t_holders t_mate t_number (upd t_size (0 : Int32).toNatClampNeg p1_size) p1_size p1_arcs p1_weight p3_size p3_arcs p3_weight) := hD
    refine lv_iconst (v := 0) hx hb dd_Le_renew_28 (by decide) ?_
    refine lv_istore (lv' := [(4, .int 0), (0, .ref a_t), (1, .ref a_p1), (2, .int x2), (3, .ref a_p3)]) hx hb dd_Le_renew_29 hl (by decide) rfl (fun ls hl => ?_)
    exact h31 64 0 1 1 t_holders (upd t_size (0 : Int32).toNatClampNeg p1_size) _ _ _ hf (lv_sub hl [1, 2, 3, 4, 0] rfl) hP hD hS
  · skip
    have hf := if_f cc hf
    cases hf
    exact W.vret hx hb hr (fun t ht hW => ⟨⟨(), rfl, trivial, pst_of ht hP hD⟩, hS.F ht⟩) hS.2.2 dd_Le_renew_7
