abbrev wd_Re_next (cI cZ : ClassId) (a_t a_t_levelArc a_t_levelIn a_t_levelNodes a_t_levelWeight a_t_weight a_t_arcs a_t_split a_t_least a_t_most a_t_row a_t_isFree a_t_best a_t_above a_t_ordered a_t_parts : Nat) (t_nodes : Int32) (t_kinds : Int32) (t_levels : Int32) (t_size : Int32) (t_base : Int32) (t_levelArc : Nat → Int32) (t_levelIn : Nat → Int32) (t_levelNodes : Nat → Int32) (t_levelWeight : Nat → Int32) : va_W := [(a_t, .inr (9, [.int t_nodes, .int t_kinds, .ref a_t_weight, .ref a_t_arcs, .ref a_t_split, .ref a_t_least, .ref a_t_most, .int t_levels, .ref a_t_levelNodes, .ref a_t_levelWeight, .ref a_t_levelArc, .ref a_t_levelIn, .int t_size, .int t_base, .ref a_t_row, .ref a_t_isFree, .ref a_t_best, .ref a_t_above, .ref a_t_ordered, .ref a_t_parts])), (a_t_levelArc, .inl (cI, 65600, .inl t_levelArc)), (a_t_levelIn, .inl (cI, 1640, .inl t_levelIn)), (a_t_levelNodes, .inl (cI, 41, .inl t_levelNodes)), (a_t_levelWeight, .inl (cI, 1640, .inl t_levelWeight))]
set_option maxRecDepth 100000 in
set_option maxHeartbeats 4000000 in
theorem c_Re_next (l : Launch) (dC : Nat → ClassId) (dI : Nat → Nat → Nat) (cI cZ : ClassId) (a_t a_t_levelArc a_t_levelIn a_t_levelNodes a_t_levelWeight a_t_weight a_t_arcs a_t_split a_t_least a_t_most a_t_row a_t_isFree a_t_best a_t_above a_t_ordered a_t_parts sz : Nat) (x1 : Int32) (t_nodes : Int32) (t_kinds : Int32) (t_levels : Int32) (t_size : Int32) (t_base : Int32) (t_levelArc : Nat → Int32) (t_levelIn : Nat → Int32) (t_levelNodes : Nat → Int32) (t_levelWeight : Nat → Int32) (out : Int32 × Int32 × (Nat → Int32) × (Nat → Int32) × (Nat → Int32) × (Nat → Int32)) (hf : f_Re_next x1 t_kinds t_levels t_levelArc t_levelIn t_levelNodes t_levelWeight = some out) :
    Met l yy_Re_next wq_Re_next ({ frames := 1, cells := 0, slots := 0, locals := 29 }) (va_Pc ([.ref a_t, .int x1] : List Value) (pre_ (dC, dI) cI cZ sz (wd_Re_next cI cZ a_t a_t_levelArc a_t_levelIn a_t_levelNodes a_t_levelWeight a_t_weight a_t_arcs a_t_split a_t_least a_t_most a_t_row a_t_isFree a_t_best a_t_above a_t_ordered a_t_parts t_nodes t_kinds t_levels t_size t_base t_levelArc t_levelIn t_levelNodes t_levelWeight))) (va_Qi (fun (r : Int32) (_ : Unit) => r = out.1) (fun _ => pst (dC, dI) (va_A (wd_Re_next cI cZ a_t a_t_levelArc a_t_levelIn a_t_levelNodes a_t_levelWeight a_t_weight a_t_arcs a_t_split a_t_least a_t_most a_t_row a_t_isFree a_t_best a_t_above a_t_ordered a_t_parts t_nodes t_kinds t_levels t_size t_base t_levelArc t_levelIn t_levelNodes t_levelWeight) sz) (wd_Re_next cI cZ a_t a_t_levelArc a_t_levelIn a_t_levelNodes a_t_levelWeight a_t_weight a_t_arcs a_t_split a_t_least a_t_most a_t_row a_t_isFree a_t_best a_t_above a_t_ordered a_t_parts t_nodes t_kinds out.2.1 t_size t_base out.2.2.1 out.2.2.2.1 out.2.2.2.2.1 out.2.2.2.2.2)) (va_A (wd_Re_next cI cZ a_t a_t_levelArc a_t_levelIn a_t_levelNodes a_t_levelWeight a_t_weight a_t_arcs a_t_split a_t_least a_t_most a_t_row a_t_isFree a_t_best a_t_above a_t_ordered a_t_parts t_nodes t_kinds t_levels t_size t_base t_levelArc t_levelIn t_levelNodes t_levelWeight) sz)) 0 0 (va_A (wd_Re_next cI cZ a_t a_t_levelArc a_t_levelIn a_t_levelNodes a_t_levelWeight a_t_weight a_t_arcs a_t_split a_t_least a_t_most a_t_row a_t_isFree a_t_best a_t_above a_t_ordered a_t_parts t_nodes t_kinds t_levels t_size t_base t_levelArc t_levelIn t_levelNodes t_levelWeight) sz) := by
  refine Met.ofW (cc := cc_Re_next) (maxL := 11) (ret := (some .boolean)) (by decide) rfl ?_
  intro p e s m args below meth c s₁ B hml hv
  obtain ⟨rfl, hsz, hP, hK, hD0, hN⟩ := hv
  have hx := B.exec
  have hb := B.bytes
  have hr := B.returns
  have hts := atoms_spec (ws := wq_Re_next) B.pre
  have hown : s.vm.findClass rr_Re = some m.cls := findClass_of_methodNamed B.named
  have hlocks := B.notSynchronized
  subst hsz
  have hD := hD0.self (sz := s.heap.size)
  generalize hAe : va_A (wd_Re_next cI cZ a_t a_t_levelArc a_t_levelIn a_t_levelNodes a_t_levelWeight a_t_weight a_t_arcs a_t_split a_t_least a_t_most a_t_row a_t_isFree a_t_best a_t_above a_t_ordered a_t_parts t_nodes t_kinds t_levels t_size t_base t_levelArc t_levelIn t_levelNodes t_levelWeight) s.heap.size = A at hD ⊢
  have hA : ∀ q : Nat, s.heap.size ≤ q → A q := fun q h => by rw [← hAe]; exact Or.inr h
  obtain ⟨H, hH⟩ : ∃ H : Heap, H = s.heap := ⟨_, rfl⟩
  have hS : va_S A s.heap H [] := by rw [hH]; exact va_S.rf
  have hl := lv_entry (([.ref a_t, .int x1] : List Value)) (n := 11) (Nat.le_of_ble_eq_true rfl)
  rw [lg_entry_eq]
  generalize (lg_sl (([.ref a_t, .int x1] : List Value)) ++ List.replicate (11 - (lg_sl (([.ref a_t, .int x1] : List Value))).length) Slot.unset).toArray = ls at hl ⊢
  have hl : lv_has ls 11 [(0, .ref a_t), (1, .int x1)] := hl
  rw [← hH] at hP ⊢
  have hP : va_P (dC, dI) clsL (wd_Re_next cI cZ a_t a_t_levelArc a_t_levelIn a_t_levelNodes a_t_levelWeight a_t_weight a_t_arcs a_t_split a_t_least a_t_most a_t_row a_t_isFree a_t_best a_t_above a_t_ordered a_t_parts t_nodes t_kinds t_levels t_size t_base t_levelArc t_levelIn t_levelNodes t_levelWeight) H := hP
  unfold f_Re_next at hf
  have h12 : ∀ (n12 : Nat) (x2 : Int32) (x3 : Int64) (x5 : Int32) (t_levelIn : Nat → Int32) (ls : Array Slot) (H : Heap) (locs : List Loc), L_Re_next_12 x1 t_kinds t_levels t_levelArc t_levelNodes t_levelWeight n12 x2 x3 x5 t_levelIn = some out → lv_has ls 11 [(0, .ref a_t), (1, .int x1), (2, .int x2), (3, .long x3), (5, .int x5)] → va_P (dC, dI) clsL (wd_Re_next cI cZ a_t a_t_levelArc a_t_levelIn a_t_levelNodes a_t_levelWeight a_t_weight a_t_arcs a_t_split a_t_least a_t_most a_t_row a_t_isFree a_t_best a_t_above a_t_ordered a_t_parts t_nodes t_kinds t_levels t_size t_base t_levelArc t_levelIn t_levelNodes t_levelWeight) H → va_D A (wd_Re_next cI cZ a_t a_t_levelArc a_t_levelIn a_t_levelNodes a_t_levelWeight a_t_weight a_t_arcs a_t_split a_t_least a_t_most a_t_row a_t_isFree a_t_best a_t_above a_t_ordered a_t_parts t_nodes t_kinds t_levels t_size t_base t_levelArc t_levelIn t_levelNodes t_levelWeight) → va_S A s.heap H locs → W p l e (headSpec wq_Re_next ({ frames := 1, cells := 0, slots := 0, locals := 29 })).room s m ([.ref a_t, .int x1] : List Value).toArray below meth c H locs 0 0 (MQ below (va_Qi (fun (r : Int32) (_ : Unit) => r = out.1) (fun _ => pst (dC, dI) A (wd_Re_next cI cZ a_t a_t_levelArc a_t_levelIn a_t_levelNodes a_t_levelWeight a_t_weight a_t_arcs a_t_split a_t_least a_t_most a_t_row a_t_isFree a_t_best a_t_above a_t_ordered a_t_parts t_nodes t_kinds out.2.1 t_size t_base out.2.2.1 out.2.2.2.1 out.2.2.2.2.1 out.2.2.2.2.2)) A) ([.ref a_t, .int x1] : List Value).toArray s 0 0 A) (F0 m 12 ls []) := by
    intro n12
    induction n12 with
    | zero =>
      intro x2 x3 x5 t_levelIn ls H locs hf
      rw [L_Re_next_12] at hf
      exact absurd hf (fun h => by cases h)
    | succ n12 ih12 =>
      intro x2 x3 x5 t_levelIn ls H locs hf hl hP hD hS
      rw [L_Re_next_12] at hf
      have h53 : ∀ (x2 : Int32) (x3 : Int64) (t_levelIn : Nat → Int32) (ls : Array Slot) (H : Heap) (locs : List Loc), J_Re_next_53 x1 t_kinds t_levels t_levelArc t_levelNodes t_levelWeight x2 x3 t_levelIn = some out → lv_has ls 11 [(0, .ref a_t), (1, .int x1), (2, .int x2), (3, .long x3)] → va_P (dC, dI) clsL (wd_Re_next cI cZ a_t a_t_levelArc a_t_levelIn a_t_levelNodes a_t_levelWeight a_t_weight a_t_arcs a_t_split a_t_least a_t_most a_t_row a_t_isFree a_t_best a_t_above a_t_ordered a_t_parts t_nodes t_kinds t_levels t_size t_base t_levelArc t_levelIn t_levelNodes t_levelWeight) H → va_D A (wd_Re_next cI cZ a_t a_t_levelArc a_t_levelIn a_t_levelNodes a_t_levelWeight a_t_weight a_t_arcs a_t_split a_t_least a_t_most a_t_row a_t_isFree a_t_best a_t_above a_t_ordered a_t_parts t_nodes t_kinds t_levels t_size t_base t_levelArc t_levelIn t_levelNodes t_levelWeight) → va_S A s.heap H locs → W p l e (headSpec wq_Re_next ({ frames := 1, cells := 0, slots := 0, locals := 29 })).room s m ([.ref a_t, .int x1] : List Value).toArray below meth c H locs 0 0 (MQ below (va_Qi (fun (r : Int32) (_ : Unit) => r = out.1) (fun _ => pst (dC, dI) A (wd_Re_next cI cZ a_t a_t_levelArc a_t_levelIn a_t_levelNodes a_t_levelWeight a_t_weight a_t_arcs a_t_split a_t_least a_t_most a_t_row a_t_isFree a_t_best a_t_above a_t_ordered a_t_parts t_nodes t_kinds out.2.1 t_size t_base out.2.2.1 out.2.2.2.1 out.2.2.2.2.1 out.2.2.2.2.2)) A) ([.ref a_t, .int x1] : List Value).toArray s 0 0 A) (F0 m 53 ls []) := by
        intro x2 x3 t_levelIn ls H locs hf hl hP hD hS
        unfold J_Re_next_53 at hf
        have h70 : ∀ (n70 : Nat) (x2 : Int32) (x5 : Int64) (x7 : Int32) (x8 : Int32) (t_levelIn : Nat → Int32) (ls : Array Slot) (H : Heap) (locs : List Loc), L_Re_next_70 x1 t_levels t_levelArc t_levelNodes t_levelWeight n70 x2 x5 x7 x8 t_levelIn = some out → lv_has ls 11 [(0, .ref a_t), (1, .int x1), (2, .int x2), (5, .long x5), (7, .int x7), (8, .int x8)] → va_P (dC, dI) clsL (wd_Re_next cI cZ a_t a_t_levelArc a_t_levelIn a_t_levelNodes a_t_levelWeight a_t_weight a_t_arcs a_t_split a_t_least a_t_most a_t_row a_t_isFree a_t_best a_t_above a_t_ordered a_t_parts t_nodes t_kinds t_levels t_size t_base t_levelArc t_levelIn t_levelNodes t_levelWeight) H → va_D A (wd_Re_next cI cZ a_t a_t_levelArc a_t_levelIn a_t_levelNodes a_t_levelWeight a_t_weight a_t_arcs a_t_split a_t_least a_t_most a_t_row a_t_isFree a_t_best a_t_above a_t_ordered a_t_parts t_nodes t_kinds t_levels t_size t_base t_levelArc t_levelIn t_levelNodes t_levelWeight) → va_S A s.heap H locs → W p l e (headSpec wq_Re_next ({ frames := 1, cells := 0, slots := 0, locals := 29 })).room s m ([.ref a_t, .int x1] : List Value).toArray below meth c H locs 0 0 (MQ below (va_Qi (fun (r : Int32) (_ : Unit) => r = out.1) (fun _ => pst (dC, dI) A (wd_Re_next cI cZ a_t a_t_levelArc a_t_levelIn a_t_levelNodes a_t_levelWeight a_t_weight a_t_arcs a_t_split a_t_least a_t_most a_t_row a_t_isFree a_t_best a_t_above a_t_ordered a_t_parts t_nodes t_kinds out.2.1 t_size t_base out.2.2.1 out.2.2.2.1 out.2.2.2.2.1 out.2.2.2.2.2)) A) ([.ref a_t, .int x1] : List Value).toArray s 0 0 A) (F0 m 70 ls []) := by
          intro n70
          induction n70 with
          | zero =>
            intro x2 x5 x7 x8 t_levelIn ls H locs hf
            rw [L_Re_next_70] at hf
            exact absurd hf (fun h => by cases h)
          | succ n70 ih70 =>
            intro x2 x5 x7 x8 t_levelIn ls H locs hf hl hP hD hS
            rw [L_Re_next_70] at hf
            have h147 : ∀ (x2 : Int32) (x7 : Int32) (t_levelIn : Nat → Int32) (ls : Array Slot) (H : Heap) (locs : List Loc), J_Re_next_147 x1 t_levels t_levelArc t_levelNodes t_levelWeight x2 x7 t_levelIn = some out → lv_has ls 11 [(0, .ref a_t), (1, .int x1), (2, .int x2), (7, .int x7)] → va_P (dC, dI) clsL (wd_Re_next cI cZ a_t a_t_levelArc a_t_levelIn a_t_levelNodes a_t_levelWeight a_t_weight a_t_arcs a_t_split a_t_least a_t_most a_t_row a_t_isFree a_t_best a_t_above a_t_ordered a_t_parts t_nodes t_kinds t_levels t_size t_base t_levelArc t_levelIn t_levelNodes t_levelWeight) H → va_D A (wd_Re_next cI cZ a_t a_t_levelArc a_t_levelIn a_t_levelNodes a_t_levelWeight a_t_weight a_t_arcs a_t_split a_t_least a_t_most a_t_row a_t_isFree a_t_best a_t_above a_t_ordered a_t_parts t_nodes t_kinds t_levels t_size t_base t_levelArc t_levelIn t_levelNodes t_levelWeight) → va_S A s.heap H locs → W p l e (headSpec wq_Re_next ({ frames := 1, cells := 0, slots := 0, locals := 29 })).room s m ([.ref a_t, .int x1] : List Value).toArray below meth c H locs 0 0 (MQ below (va_Qi (fun (r : Int32) (_ : Unit) => r = out.1) (fun _ => pst (dC, dI) A (wd_Re_next cI cZ a_t a_t_levelArc a_t_levelIn a_t_levelNodes a_t_levelWeight a_t_weight a_t_arcs a_t_split a_t_least a_t_most a_t_row a_t_isFree a_t_best a_t_above a_t_ordered a_t_parts t_nodes t_kinds out.2.1 t_size t_base out.2.2.1 out.2.2.2.1 out.2.2.2.2.1 out.2.2.2.2.2)) A) ([.ref a_t, .int x1] : List Value).toArray s 0 0 A) (F0 m 147 ls []) := by
              intro x2 x7 t_levelIn ls H locs hf hl hP hD hS
              unfold J_Re_next_147 at hf
              have h169 : ∀ (n169 : Nat) (x2 : Int32) (x7 : Int32) (x8 : Int32) (t_levelArc : Nat → Int32) (t_levelIn : Nat → Int32) (t_levelNodes : Nat → Int32) (t_levelWeight : Nat → Int32) (ls : Array Slot) (H : Heap) (locs : List Loc), L_Re_next_169 x1 t_levels n169 x2 x7 x8 t_levelArc t_levelIn t_levelNodes t_levelWeight = some out → lv_has ls 11 [(0, .ref a_t), (1, .int x1), (2, .int x2), (7, .int x7), (8, .int x8)] → va_P (dC, dI) clsL (wd_Re_next cI cZ a_t a_t_levelArc a_t_levelIn a_t_levelNodes a_t_levelWeight a_t_weight a_t_arcs a_t_split a_t_least a_t_most a_t_row a_t_isFree a_t_best a_t_above a_t_ordered a_t_parts t_nodes t_kinds t_levels t_size t_base t_levelArc t_levelIn t_levelNodes t_levelWeight) H → va_D A (wd_Re_next cI cZ a_t a_t_levelArc a_t_levelIn a_t_levelNodes a_t_levelWeight a_t_weight a_t_arcs a_t_split a_t_least a_t_most a_t_row a_t_isFree a_t_best a_t_above a_t_ordered a_t_parts t_nodes t_kinds t_levels t_size t_base t_levelArc t_levelIn t_levelNodes t_levelWeight) → va_S A s.heap H locs → W p l e (headSpec wq_Re_next ({ frames := 1, cells := 0, slots := 0, locals := 29 })).room s m ([.ref a_t, .int x1] : List Value).toArray below meth c H locs 0 0 (MQ below (va_Qi (fun (r : Int32) (_ : Unit) => r = out.1) (fun _ => pst (dC, dI) A (wd_Re_next cI cZ a_t a_t_levelArc a_t_levelIn a_t_levelNodes a_t_levelWeight a_t_weight a_t_arcs a_t_split a_t_least a_t_most a_t_row a_t_isFree a_t_best a_t_above a_t_ordered a_t_parts t_nodes t_kinds out.2.1 t_size t_base out.2.2.1 out.2.2.2.1 out.2.2.2.2.1 out.2.2.2.2.2)) A) ([.ref a_t, .int x1] : List Value).toArray s 0 0 A) (F0 m 169 ls []) := by
                intro n169
                induction n169 with
                | zero =>
                  intro x2 x7 x8 t_levelArc t_levelIn t_levelNodes t_levelWeight ls H locs hf
                  rw [L_Re_next_169] at hf
                  exact absurd hf (fun h => by cases h)
                | succ n169 ih169 =>
                  intro x2 x7 x8 t_levelArc t_levelIn t_levelNodes t_levelWeight ls H locs hf hl hP hD hS
                  rw [L_Re_next_169] at hf
                  have h195 : ∀ (n195 : Nat) (x2 : Int32) (x7 : Int32) (x8 : Int32) (x9 : Int32) (t_levelArc : Nat → Int32) (t_levelIn : Nat → Int32) (t_levelNodes : Nat → Int32) (t_levelWeight : Nat → Int32) (ls : Array Slot) (H : Heap) (locs : List Loc), L_Re_next_195 t_levels (L_Re_next_169 x1 t_levels n169) n195 x2 x7 x8 x9 t_levelArc t_levelIn t_levelNodes t_levelWeight = some out → lv_has ls 11 [(0, .ref a_t), (1, .int x1), (2, .int x2), (7, .int x7), (8, .int x8), (9, .int x9)] → va_P (dC, dI) clsL (wd_Re_next cI cZ a_t a_t_levelArc a_t_levelIn a_t_levelNodes a_t_levelWeight a_t_weight a_t_arcs a_t_split a_t_least a_t_most a_t_row a_t_isFree a_t_best a_t_above a_t_ordered a_t_parts t_nodes t_kinds t_levels t_size t_base t_levelArc t_levelIn t_levelNodes t_levelWeight) H → va_D A (wd_Re_next cI cZ a_t a_t_levelArc a_t_levelIn a_t_levelNodes a_t_levelWeight a_t_weight a_t_arcs a_t_split a_t_least a_t_most a_t_row a_t_isFree a_t_best a_t_above a_t_ordered a_t_parts t_nodes t_kinds t_levels t_size t_base t_levelArc t_levelIn t_levelNodes t_levelWeight) → va_S A s.heap H locs → W p l e (headSpec wq_Re_next ({ frames := 1, cells := 0, slots := 0, locals := 29 })).room s m ([.ref a_t, .int x1] : List Value).toArray below meth c H locs 0 0 (MQ below (va_Qi (fun (r : Int32) (_ : Unit) => r = out.1) (fun _ => pst (dC, dI) A (wd_Re_next cI cZ a_t a_t_levelArc a_t_levelIn a_t_levelNodes a_t_levelWeight a_t_weight a_t_arcs a_t_split a_t_least a_t_most a_t_row a_t_isFree a_t_best a_t_above a_t_ordered a_t_parts t_nodes t_kinds out.2.1 t_size t_base out.2.2.1 out.2.2.2.1 out.2.2.2.2.1 out.2.2.2.2.2)) A) ([.ref a_t, .int x1] : List Value).toArray s 0 0 A) (F0 m 195 ls []) := by
                    intro n195
                    induction n195 with
                    | zero =>
                      intro x2 x7 x8 x9 t_levelArc t_levelIn t_levelNodes t_levelWeight ls H locs hf
                      rw [L_Re_next_195] at hf
                      exact absurd hf (fun h => by cases h)
                    | succ n195 ih195 =>
                      intro x2 x7 x8 x9 t_levelArc t_levelIn t_levelNodes t_levelWeight ls H locs hf hl hP hD hS
                      rw [L_Re_next_195] at hf
                      refine lv_iload hx hb dd_Re_next_195 (lv_at hl 5 rfl) ?_
                      refine lv_iload hx hb dd_Re_next_197 (lv_at hl 3 rfl) ?_
                      refine lv_icmp_ge (tgt := 231) hx hb dd_Re_next_199 (by decide) (fun cc => ?_) (fun cc => ?_)
                      · skip
                        have hf := if_t cc hf
                        refine lv_iinc (v := x8 + 1) (lv' := [(8, .int (x8 + 1)), (0, .ref a_t), (1, .int x1), (2, .int x2), (7, .int x7), (9, .int x9)]) hx hb dd_Re_next_231 hl (k := 4) rfl rfl (by decide) rfl (fun ls hl => ?_)
                        refine lv_goto (tgt := 169) hx hb dd_Re_next_234 (by decide) ?_
                        exact ih169 x2 x7 (x8 + 1) t_levelArc t_levelIn t_levelNodes t_levelWeight _ _ _ hf (lv_sub hl [1, 2, 3, 4, 0] rfl) hP hD hS
                      · skip
                        have hf := if_f cc hf
                        refine lv_aload_n hx hb dd_Re_next_202 rfl (lv_at hl 0 rfl) ?_
                        refine va_get (D := (dC, dI)) (ci := 9) (v := .ref a_t_levelArc) (C := rr_Re) (T := tt_Re) (N := 20) hx hb hts (fun w h => gwc (inn_Re w h)) hown hK hP 0 rfl rfl 10 (by decide) (hts _ (gwc gw_713)) (fun _ h9 => h9) rfl dd_Re_next_203 ?_
                        refine lv_sipush (v := 1600) hx hb dd_Re_next_206 (by decide) ?_
                        refine lv_aload_n hx hb dd_Re_next_209 rfl (lv_at hl 0 rfl) ?_
                        refine va_get (D := (dC, dI)) (ci := 9) (v := .int t_levels) (C := rr_Re) (T := tt_Re) (N := 20) hx hb hts (fun w h => gwc (inn_Re w h)) hown hK hP 0 rfl rfl 7 (by decide) (hts _ (gwc gw_710)) (fun _ h9 => h9) rfl dd_Re_next_210 ?_
                        refine lv_imul hx hb dd_Re_next_213 ?_
                        refine lv_bipush (v := 40) hx hb dd_Re_next_214 (by decide) ?_
                        refine lv_iload hx hb dd_Re_next_216 (lv_at hl 4 rfl) ?_
                        refine lv_imul hx hb dd_Re_next_218 ?_
                        refine lv_iadd hx hb dd_Re_next_219 ?_
                        refine lv_iload hx hb dd_Re_next_220 (lv_at hl 5 rfl) ?_
                        refine lv_iadd hx hb dd_Re_next_222 ?_
                        refine lv_iconst (v := 0) hx hb dd_Re_next_223 (by decide) ?_
                        obtain ⟨k224, hf⟩ := ck_some hf
                        refine va_iast hx hb hK hP hD hS 1 0 rfl rfl (okb_in k224) dd_Re_next_224 (fun H locs hP hD hS => ?_)
                        have hP : va_P (dC, dI) clsL (wd_Re_next cI cZ a_t a_t_levelArc a_t_levelIn a_t_levelNodes a_t_levelWeight a_t_weight a_t_arcs a_t_split a_t_least a_t_most a_t_row a_t_isFree a_t_best a_t_above a_t_ordered a_t_parts t_nodes t_kinds t_levels t_size t_base (upd t_levelArc (((1600 * t_levels) + (40 * x8)) + x9).toNatClampNeg 0) t_levelIn t_levelNodes t_levelWeight) H := hP
                        have hD : va_D A (wd_Re_next cI cZ a_t a_t_levelArc a_t_levelIn a_t_levelNodes a_t_levelWeight a_t_weight a_t_arcs a_t_split a_t_least a_t_most a_t_row a_t_isFree a_t_best a_t_above a_t_ordered a_t_parts t_nodes t_kinds t_levels t_size t_base (upd t_levelArc (((1600 * t_levels) + (40 * x8)) + x9).toNatClampNeg 0) t_levelIn t_levelNodes t_levelWeight) := hD
                        refine lv_iinc (v := x9 + 1) (lv' := [(9, .int (x9 + 1)), (0, .ref a_t), (1, .int x1), (2, .int x2), (7, .int x7), (8, .int x8)]) hx hb dd_Re_next_225 hl (k := 5) rfl rfl (by decide) rfl (fun ls hl => ?_)
                        refine lv_goto (tgt := 195) hx hb dd_Re_next_228 (by decide) ?_
                        exact ih195 x2 x7 x8 (x9 + 1) (upd t_levelArc (((1600 * t_levels) + (40 * x8)) + x9).toNatClampNeg 0) t_levelIn t_levelNodes t_levelWeight _ _ _ hf (lv_sub hl [1, 2, 3, 4, 5, 0] rfl) hP hD hS
                  have h240 : ∀ (n240 : Nat) (x2 : Int32) (x8 : Int32) (t_levelArc : Nat → Int32) (t_levelIn : Nat → Int32) (t_levelNodes : Nat → Int32) (t_levelWeight : Nat → Int32) (ls : Array Slot) (H : Heap) (locs : List Loc), L_Re_next_240 x1 t_levels n240 x2 x8 t_levelArc t_levelIn t_levelNodes t_levelWeight = some out → lv_has ls 11 [(0, .ref a_t), (1, .int x1), (2, .int x2), (8, .int x8)] → va_P (dC, dI) clsL (wd_Re_next cI cZ a_t a_t_levelArc a_t_levelIn a_t_levelNodes a_t_levelWeight a_t_weight a_t_arcs a_t_split a_t_least a_t_most a_t_row a_t_isFree a_t_best a_t_above a_t_ordered a_t_parts t_nodes t_kinds t_levels t_size t_base t_levelArc t_levelIn t_levelNodes t_levelWeight) H → va_D A (wd_Re_next cI cZ a_t a_t_levelArc a_t_levelIn a_t_levelNodes a_t_levelWeight a_t_weight a_t_arcs a_t_split a_t_least a_t_most a_t_row a_t_isFree a_t_best a_t_above a_t_ordered a_t_parts t_nodes t_kinds t_levels t_size t_base t_levelArc t_levelIn t_levelNodes t_levelWeight) → va_S A s.heap H locs → W p l e (headSpec wq_Re_next ({ frames := 1, cells := 0, slots := 0, locals := 29 })).room s m ([.ref a_t, .int x1] : List Value).toArray below meth c H locs 0 0 (MQ below (va_Qi (fun (r : Int32) (_ : Unit) => r = out.1) (fun _ => pst (dC, dI) A (wd_Re_next cI cZ a_t a_t_levelArc a_t_levelIn a_t_levelNodes a_t_levelWeight a_t_weight a_t_arcs a_t_split a_t_least a_t_most a_t_row a_t_isFree a_t_best a_t_above a_t_ordered a_t_parts t_nodes t_kinds out.2.1 t_size t_base out.2.2.1 out.2.2.2.1 out.2.2.2.2.1 out.2.2.2.2.2)) A) ([.ref a_t, .int x1] : List Value).toArray s 0 0 A) (F0 m 240 ls []) := by
                    intro n240
                    induction n240 with
                    | zero =>
                      intro x2 x8 t_levelArc t_levelIn t_levelNodes t_levelWeight ls H locs hf
                      rw [L_Re_next_240] at hf
                      exact absurd hf (fun h => by cases h)
                    | succ n240 ih240 =>
                      intro x2 x8 t_levelArc t_levelIn t_levelNodes t_levelWeight ls H locs hf hl hP hD hS
                      rw [L_Re_next_240] at hf
                      have h293 : ∀ (n293 : Nat) (x2 : Int32) (x8 : Int32) (x9 : Int32) (x10 : Int32) (t_levelArc : Nat → Int32) (t_levelIn : Nat → Int32) (t_levelNodes : Nat → Int32) (t_levelWeight : Nat → Int32) (ls : Array Slot) (H : Heap) (locs : List Loc), L_Re_next_293 x1 t_levels (L_Re_next_240 x1 t_levels n240) n293 x2 x8 x9 x10 t_levelArc t_levelIn t_levelNodes t_levelWeight = some out → lv_has ls 11 [(0, .ref a_t), (1, .int x1), (2, .int x2), (8, .int x8), (9, .int x9), (10, .int x10)] → va_P (dC, dI) clsL (wd_Re_next cI cZ a_t a_t_levelArc a_t_levelIn a_t_levelNodes a_t_levelWeight a_t_weight a_t_arcs a_t_split a_t_least a_t_most a_t_row a_t_isFree a_t_best a_t_above a_t_ordered a_t_parts t_nodes t_kinds t_levels t_size t_base t_levelArc t_levelIn t_levelNodes t_levelWeight) H → va_D A (wd_Re_next cI cZ a_t a_t_levelArc a_t_levelIn a_t_levelNodes a_t_levelWeight a_t_weight a_t_arcs a_t_split a_t_least a_t_most a_t_row a_t_isFree a_t_best a_t_above a_t_ordered a_t_parts t_nodes t_kinds t_levels t_size t_base t_levelArc t_levelIn t_levelNodes t_levelWeight) → va_S A s.heap H locs → W p l e (headSpec wq_Re_next ({ frames := 1, cells := 0, slots := 0, locals := 29 })).room s m ([.ref a_t, .int x1] : List Value).toArray below meth c H locs 0 0 (MQ below (va_Qi (fun (r : Int32) (_ : Unit) => r = out.1) (fun _ => pst (dC, dI) A (wd_Re_next cI cZ a_t a_t_levelArc a_t_levelIn a_t_levelNodes a_t_levelWeight a_t_weight a_t_arcs a_t_split a_t_least a_t_most a_t_row a_t_isFree a_t_best a_t_above a_t_ordered a_t_parts t_nodes t_kinds out.2.1 t_size t_base out.2.2.1 out.2.2.2.1 out.2.2.2.2.1 out.2.2.2.2.2)) A) ([.ref a_t, .int x1] : List Value).toArray s 0 0 A) (F0 m 293 ls []) := by
                        intro n293
                        induction n293 with
                        | zero =>
                          intro x2 x8 x9 x10 t_levelArc t_levelIn t_levelNodes t_levelWeight ls H locs hf
                          rw [L_Re_next_293] at hf
                          exact absurd hf (fun h => by cases h)
                        | succ n293 ih293 =>
                          intro x2 x8 x9 x10 t_levelArc t_levelIn t_levelNodes t_levelWeight ls H locs hf hl hP hD hS
                          rw [L_Re_next_293] at hf
                          refine lv_iload hx hb dd_Re_next_293 (lv_at hl 5 rfl) ?_
                          refine lv_iload_n hx hb dd_Re_next_295 rfl (lv_at hl 2 rfl) ?_
                          refine lv_icmp_ge (tgt := 376) hx hb dd_Re_next_296 (by decide) (fun cc => ?_) (fun cc => ?_)
                          · skip
                            have hf := if_t cc hf
                            refine lv_iinc (v := x8 + 1) (lv' := [(8, .int (x8 + 1)), (0, .ref a_t), (1, .int x1), (2, .int x2), (9, .int x9), (10, .int x10)]) hx hb dd_Re_next_376 hl (k := 3) rfl rfl (by decide) rfl (fun ls hl => ?_)
                            refine lv_goto (tgt := 240) hx hb dd_Re_next_379 (by decide) ?_
                            exact ih240 x2 (x8 + 1) t_levelArc t_levelIn t_levelNodes t_levelWeight _ _ _ hf (lv_sub hl [1, 2, 3, 0] rfl) hP hD hS
                          · skip
                            have hf := if_f cc hf
                            refine lv_aload_n hx hb dd_Re_next_299 rfl (lv_at hl 0 rfl) ?_
                            refine va_get (D := (dC, dI)) (ci := 9) (v := .ref a_t_levelIn) (C := rr_Re) (T := tt_Re) (N := 20) hx hb hts (fun w h => gwc (inn_Re w h)) hown hK hP 0 rfl rfl 11 (by decide) (hts _ (gwc gw_714)) (fun _ h9 => h9) rfl dd_Re_next_300 ?_
                            refine lv_bipush (v := 40) hx hb dd_Re_next_303 (by decide) ?_
                            refine lv_iload_n hx hb dd_Re_next_305 rfl (lv_at hl 1 rfl) ?_
                            refine lv_imul hx hb dd_Re_next_306 ?_
                            refine lv_iload hx hb dd_Re_next_307 (lv_at hl 5 rfl) ?_
                            refine lv_iadd hx hb dd_Re_next_309 ?_
                            obtain ⟨k310, hf⟩ := ck_some hf
                            refine va_iald hx hb hK hP 2 0 rfl rfl (okb_in k310) dd_Re_next_310 ?_
                            refine lv_iload hx hb dd_Re_next_311 (lv_at hl 4 rfl) ?_
                            refine lv_icmp_eq (tgt := 370) hx hb dd_Re_next_313 (by decide) (fun cc => ?_) (fun cc => ?_)
                            · skip
                              have hf := if_t cc hf
                              refine lv_iinc (v := x10 + 1) (lv' := [(10, .int (x10 + 1)), (0, .ref a_t), (1, .int x1), (2, .int x2), (8, .int x8), (9, .int x9)]) hx hb dd_Re_next_370 hl (k := 5) rfl rfl (by decide) rfl (fun ls hl => ?_)
                              refine lv_goto (tgt := 293) hx hb dd_Re_next_373 (by decide) ?_
                              exact ih293 x2 x8 x9 (x10 + 1) t_levelArc t_levelIn t_levelNodes t_levelWeight _ _ _ hf (lv_sub hl [1, 2, 3, 4, 5, 0] rfl) hP hD hS
                            · skip
                              have hf := if_f cc hf
                              refine lv_aload_n hx hb dd_Re_next_316 rfl (lv_at hl 0 rfl) ?_
                              refine va_get (D := (dC, dI)) (ci := 9) (v := .ref a_t_levelArc) (C := rr_Re) (T := tt_Re) (N := 20) hx hb hts (fun w h => gwc (inn_Re w h)) hown hK hP 0 rfl rfl 10 (by decide) (hts _ (gwc gw_713)) (fun _ h9 => h9) rfl dd_Re_next_317 ?_
                              refine lv_sipush (v := 1600) hx hb dd_Re_next_320 (by decide) ?_
                              refine lv_aload_n hx hb dd_Re_next_323 rfl (lv_at hl 0 rfl) ?_
                              refine va_get (D := (dC, dI)) (ci := 9) (v := .int t_levels) (C := rr_Re) (T := tt_Re) (N := 20) hx hb hts (fun w h => gwc (inn_Re w h)) hown hK hP 0 rfl rfl 7 (by decide) (hts _ (gwc gw_710)) (fun _ h9 => h9) rfl dd_Re_next_324 ?_
                              refine lv_imul hx hb dd_Re_next_327 ?_
                              refine lv_bipush (v := 40) hx hb dd_Re_next_328 (by decide) ?_
                              refine lv_iload hx hb dd_Re_next_330 (lv_at hl 4 rfl) ?_
                              refine lv_imul hx hb dd_Re_next_332 ?_
                              refine lv_iadd hx hb dd_Re_next_333 ?_
                              refine lv_aload_n hx hb dd_Re_next_334 rfl (lv_at hl 0 rfl) ?_
                              refine va_get (D := (dC, dI)) (ci := 9) (v := .ref a_t_levelIn) (C := rr_Re) (T := tt_Re) (N := 20) hx hb hts (fun w h => gwc (inn_Re w h)) hown hK hP 0 rfl rfl 11 (by decide) (hts _ (gwc gw_714)) (fun _ h9 => h9) rfl dd_Re_next_335 ?_
                              refine lv_bipush (v := 40) hx hb dd_Re_next_338 (by decide) ?_
                              refine lv_iload_n hx hb dd_Re_next_340 rfl (lv_at hl 1 rfl) ?_
                              refine lv_imul hx hb dd_Re_next_341 ?_
                              refine lv_iload hx hb dd_Re_next_342 (lv_at hl 5 rfl) ?_
                              refine lv_iadd hx hb dd_Re_next_344 ?_
                              obtain ⟨k345, hf⟩ := ck_some hf
                              refine va_iald hx hb hK hP 2 0 rfl rfl (okb_in k345) dd_Re_next_345 ?_
                              refine lv_iadd hx hb dd_Re_next_346 ?_
                              refine lv_dup2_11 hx hb dd_Re_next_347 rfl rfl ?_
                              obtain ⟨k348, hf⟩ := ck_some hf
                              refine va_iald hx hb hK hP 1 0 rfl rfl (okb_in k348) dd_Re_next_348 ?_
                              refine lv_aload_n hx hb dd_Re_next_349 rfl (lv_at hl 0 rfl) ?_
                              refine va_get (D := (dC, dI)) (ci := 9) (v := .ref a_t_levelArc) (C := rr_Re) (T := tt_Re) (N := 20) hx hb hts (fun w h => gwc (inn_Re w h)) hown hK hP 0 rfl rfl 10 (by decide) (hts _ (gwc gw_713)) (fun _ h9 => h9) rfl dd_Re_next_350 ?_
                              refine lv_sipush (v := 1600) hx hb dd_Re_next_353 (by decide) ?_
                              refine lv_iload_n hx hb dd_Re_next_356 rfl (lv_at hl 1 rfl) ?_
                              refine lv_imul hx hb dd_Re_next_357 ?_
                              refine lv_bipush (v := 40) hx hb dd_Re_next_358 (by decide) ?_
                              refine lv_iload hx hb dd_Re_next_360 (lv_at hl 3 rfl) ?_
                              refine lv_imul hx hb dd_Re_next_362 ?_
                              refine lv_iadd hx hb dd_Re_next_363 ?_
                              refine lv_iload hx hb dd_Re_next_364 (lv_at hl 5 rfl) ?_
                              refine lv_iadd hx hb dd_Re_next_366 ?_
                              obtain ⟨k367, hf⟩ := ck_some hf
                              refine va_iald hx hb hK hP 1 0 rfl rfl (okb_in k367) dd_Re_next_367 ?_
                              refine lv_iadd hx hb dd_Re_next_368 ?_
                              obtain ⟨k369, hf⟩ := ck_some hf
                              refine va_iast hx hb hK hP hD hS 1 0 rfl rfl (okb_in k369) dd_Re_next_369 (fun H locs hP hD hS => ?_)
                              have hP : va_P (dC, dI) clsL (wd_Re_next cI cZ a_t a_t_levelArc a_t_levelIn a_t_levelNodes a_t_levelWeight a_t_weight a_t_arcs a_t_split a_t_least a_t_most a_t_row a_t_isFree a_t_best a_t_above a_t_ordered a_t_parts t_nodes t_kinds t_levels t_size t_base (upd t_levelArc (((1600 * t_levels) + (40 * x9)) + (t_levelIn ((40 * x1) + x10).toNatClampNeg)).toNatClampNeg ((t_levelArc (((1600 * t_levels) + (40 * x9)) + (t_levelIn ((40 * x1) + x10).toNatClampNeg)).toNatClampNeg) + (t_levelArc (((1600 * x1) + (40 * x8)) + x10).toNatClampNeg))) t_levelIn t_levelNodes t_levelWeight) H := hP
                              have hD : va_D A (wd_Re_next cI cZ a_t a_t_levelArc a_t_levelIn a_t_levelNodes a_t_levelWeight a_t_weight a_t_arcs a_t_split a_t_least a_t_most a_t_row a_t_isFree a_t_best a_t_above a_t_ordered a_t_parts t_nodes t_kinds t_levels t_size t_base (upd t_levelArc (((1600 * t_levels) + (40 * x9)) + (t_levelIn ((40 * x1) + x10).toNatClampNeg)).toNatClampNeg ((t_levelArc (((1600 * t_levels) + (40 * x9)) + (t_levelIn ((40 * x1) + x10).toNatClampNeg)).toNatClampNeg) + (t_levelArc (((1600 * x1) + (40 * x8)) + x10).toNatClampNeg))) t_levelIn t_levelNodes t_levelWeight) := hD
                              refine lv_iinc (v := x10 + 1) (lv' := [(10, .int (x10 + 1)), (0, .ref a_t), (1, .int x1), (2, .int x2), (8, .int x8), (9, .int x9)]) hx hb dd_Re_next_370 hl (k := 5) rfl rfl (by decide) rfl (fun ls hl => ?_)
                              refine lv_goto (tgt := 293) hx hb dd_Re_next_373 (by decide) ?_
                              exact ih293 x2 x8 x9 (x10 + 1) (upd t_levelArc (((1600 * t_levels) + (40 * x9)) + (t_levelIn ((40 * x1) + x10).toNatClampNeg)).toNatClampNeg ((t_levelArc (((1600 * t_levels) + (40 * x9)) + (t_levelIn ((40 * x1) + x10).toNatClampNeg)).toNatClampNeg) + (t_levelArc (((1600 * x1) + (40 * x8)) + x10).toNatClampNeg))) t_levelIn t_levelNodes t_levelWeight _ _ _ hf (lv_sub hl [1, 2, 3, 4, 5, 0] rfl) hP hD hS
                      have h382 : ∀ (t_levelArc : Nat → Int32) (t_levelIn : Nat → Int32) (t_levelNodes : Nat → Int32) (t_levelWeight : Nat → Int32) (ls : Array Slot) (H : Heap) (locs : List Loc), J_Re_next_382 t_levels t_levelArc t_levelIn t_levelNodes t_levelWeight = some out → lv_has ls 11 [(0, .ref a_t)] → va_P (dC, dI) clsL (wd_Re_next cI cZ a_t a_t_levelArc a_t_levelIn a_t_levelNodes a_t_levelWeight a_t_weight a_t_arcs a_t_split a_t_least a_t_most a_t_row a_t_isFree a_t_best a_t_above a_t_ordered a_t_parts t_nodes t_kinds t_levels t_size t_base t_levelArc t_levelIn t_levelNodes t_levelWeight) H → va_D A (wd_Re_next cI cZ a_t a_t_levelArc a_t_levelIn a_t_levelNodes a_t_levelWeight a_t_weight a_t_arcs a_t_split a_t_least a_t_most a_t_row a_t_isFree a_t_best a_t_above a_t_ordered a_t_parts t_nodes t_kinds t_levels t_size t_base t_levelArc t_levelIn t_levelNodes t_levelWeight) → va_S A s.heap H locs → W p l e (headSpec wq_Re_next ({ frames := 1, cells := 0, slots := 0, locals := 29 })).room s m ([.ref a_t, .int x1] : List Value).toArray below meth c H locs 0 0 (MQ below (va_Qi (fun (r : Int32) (_ : Unit) => r = out.1) (fun _ => pst (dC, dI) A (wd_Re_next cI cZ a_t a_t_levelArc a_t_levelIn a_t_levelNodes a_t_levelWeight a_t_weight a_t_arcs a_t_split a_t_least a_t_most a_t_row a_t_isFree a_t_best a_t_above a_t_ordered a_t_parts t_nodes t_kinds out.2.1 t_size t_base out.2.2.1 out.2.2.2.1 out.2.2.2.2.1 out.2.2.2.2.2)) A) ([.ref a_t, .int x1] : List Value).toArray s 0 0 A) (F0 m 382 ls []) := by
                        intro t_levelArc t_levelIn t_levelNodes t_levelWeight ls H locs hf hl hP hD hS
                        unfold J_Re_next_382 at hf
                        refine lv_aload_n hx hb dd_Re_next_382 rfl (lv_at hl 0 rfl) ?_
                        refine lv_dup hx hb dd_Re_next_383 rfl ?_
                        refine va_get (D := (dC, dI)) (ci := 9) (v := .int t_levels) (C := rr_Re) (T := tt_Re) (N := 20) hx hb hts (fun w h => gwc (inn_Re w h)) hown hK hP 0 rfl rfl 7 (by decide) (hts _ (gwc gw_710)) (fun _ h9 => h9) rfl dd_Re_next_384 ?_
                        refine lv_iconst (v := 1) hx hb dd_Re_next_387 (by decide) ?_
                        refine lv_iadd hx hb dd_Re_next_388 ?_
                        refine va_put (D := (dC, dI)) (ci := 9) (v := .int (t_levels + 1)) (ty := .int) (C := rr_Re) (T := tt_Re) (N := 20) hx hb hts (fun w h => gwc (inn_Re w h)) tf_Re to_Re tn_Re hown hK hP hD hS 0 rfl rfl 7 (by decide) (hts _ (gwc gw_710)) (fun _ h9 => h9) rfl (by decide +kernel) rfl rfl (Nat.le_of_ble_eq_true rfl) dd_Re_next_389 (fun H locs hP hD hS => ?_)
                        have hP : va_P (dC, dI) clsL (wd_Re_next cI cZ a_t a_t_levelArc a_t_levelIn a_t_levelNodes a_t_levelWeight a_t_weight a_t_arcs a_t_split a_t_least a_t_most a_t_row a_t_isFree a_t_best a_t_above a_t_ordered a_t_parts t_nodes t_kinds (t_levels + 1) t_size t_base t_levelArc t_levelIn t_levelNodes t_levelWeight) H := hP
                        have hD : va_D A (wd_Re_next cI cZ a_t a_t_levelArc a_t_levelIn a_t_levelNodes a_t_levelWeight a_t_weight a_t_arcs a_t_split a_t_least a_t_most a_t_row a_t_isFree a_t_best a_t_above a_t_ordered a_t_parts t_nodes t_kinds (t_levels + 1) t_size t_base t_levelArc t_levelIn t_levelNodes t_levelWeight) := hD
                        refine lv_iconst (v := 1) hx hb dd_Re_next_392 (by decide) ?_
                        have hf := Option.some.inj hf
                        subst hf
                        exact W.zret hx hb hr narrow_b1 (fun t ht hW => ⟨⟨_, (), rfl, rfl, pst_of ht hP hD⟩, hS.F ht⟩) hS.2.2 dd_Re_next_393
                      refine lv_iload hx hb dd_Re_next_240 (lv_at hl 3 rfl) ?_
                      refine lv_iload_n hx hb dd_Re_next_242 rfl (lv_at hl 2 rfl) ?_
                      refine lv_icmp_ge (tgt := 382) hx hb dd_Re_next_243 (by decide) (fun cc => ?_) (fun cc => ?_)
                      · skip
                        have hf := if_t cc hf
                        exact h382 t_levelArc t_levelIn t_levelNodes t_levelWeight _ _ _ hf (lv_sub hl [0] rfl) hP hD hS
                      · skip
                        have hf := if_f cc hf
                        refine lv_aload_n hx hb dd_Re_next_246 rfl (lv_at hl 0 rfl) ?_
                        refine va_get (D := (dC, dI)) (ci := 9) (v := .ref a_t_levelIn) (C := rr_Re) (T := tt_Re) (N := 20) hx hb hts (fun w h => gwc (inn_Re w h)) hown hK hP 0 rfl rfl 11 (by decide) (hts _ (gwc gw_714)) (fun _ h9 => h9) rfl dd_Re_next_247 ?_
                        refine lv_bipush (v := 40) hx hb dd_Re_next_250 (by decide) ?_
                        refine lv_iload_n hx hb dd_Re_next_252 rfl (lv_at hl 1 rfl) ?_
                        refine lv_imul hx hb dd_Re_next_253 ?_
                        refine lv_iload hx hb dd_Re_next_254 (lv_at hl 3 rfl) ?_
                        refine lv_iadd hx hb dd_Re_next_256 ?_
                        obtain ⟨k257, hf⟩ := ck_some hf
                        refine va_iald hx hb hK hP 2 0 rfl rfl (okb_in k257) dd_Re_next_257 ?_
                        refine lv_istore (lv' := [(9, .int (t_levelIn ((40 * x1) + x8).toNatClampNeg)), (0, .ref a_t), (1, .int x1), (2, .int x2), (8, .int x8)]) hx hb dd_Re_next_258 hl (by decide) rfl (fun ls hl => ?_)
                        refine lv_aload_n hx hb dd_Re_next_260 rfl (lv_at hl 1 rfl) ?_
                        refine va_get (D := (dC, dI)) (ci := 9) (v := .ref a_t_levelWeight) (C := rr_Re) (T := tt_Re) (N := 20) hx hb hts (fun w h => gwc (inn_Re w h)) hown hK hP 0 rfl rfl 9 (by decide) (hts _ (gwc gw_712)) (fun _ h9 => h9) rfl dd_Re_next_261 ?_
                        refine lv_bipush (v := 40) hx hb dd_Re_next_264 (by decide) ?_
                        refine lv_aload_n hx hb dd_Re_next_266 rfl (lv_at hl 1 rfl) ?_
                        refine va_get (D := (dC, dI)) (ci := 9) (v := .int t_levels) (C := rr_Re) (T := tt_Re) (N := 20) hx hb hts (fun w h => gwc (inn_Re w h)) hown hK hP 0 rfl rfl 7 (by decide) (hts _ (gwc gw_710)) (fun _ h9 => h9) rfl dd_Re_next_267 ?_
                        refine lv_imul hx hb dd_Re_next_270 ?_
                        refine lv_iload hx hb dd_Re_next_271 (lv_at hl 0 rfl) ?_
                        refine lv_iadd hx hb dd_Re_next_273 ?_
                        refine lv_dup2_11 hx hb dd_Re_next_274 rfl rfl ?_
                        obtain ⟨k275, hf⟩ := ck_some hf
                        refine va_iald hx hb hK hP 4 0 rfl rfl (okb_in k275) dd_Re_next_275 ?_
                        refine lv_aload_n hx hb dd_Re_next_276 rfl (lv_at hl 1 rfl) ?_
                        refine va_get (D := (dC, dI)) (ci := 9) (v := .ref a_t_levelWeight) (C := rr_Re) (T := tt_Re) (N := 20) hx hb hts (fun w h => gwc (inn_Re w h)) hown hK hP 0 rfl rfl 9 (by decide) (hts _ (gwc gw_712)) (fun _ h9 => h9) rfl dd_Re_next_277 ?_
                        refine lv_bipush (v := 40) hx hb dd_Re_next_280 (by decide) ?_
                        refine lv_iload_n hx hb dd_Re_next_282 rfl (lv_at hl 2 rfl) ?_
                        refine lv_imul hx hb dd_Re_next_283 ?_
                        refine lv_iload hx hb dd_Re_next_284 (lv_at hl 4 rfl) ?_
                        refine lv_iadd hx hb dd_Re_next_286 ?_
                        obtain ⟨k287, hf⟩ := ck_some hf
                        refine va_iald hx hb hK hP 4 0 rfl rfl (okb_in k287) dd_Re_next_287 ?_
                        refine lv_iadd hx hb dd_Re_next_288 ?_
                        obtain ⟨k289, hf⟩ := ck_some hf
                        refine va_iast hx hb hK hP hD hS 4 0 rfl rfl (okb_in k289) dd_Re_next_289 (fun H locs hP hD hS => ?_)
                        have hP : va_P (dC, dI) clsL (wd_Re_next cI cZ a_t a_t_levelArc a_t_levelIn a_t_levelNodes a_t_levelWeight a_t_weight a_t_arcs a_t_split a_t_least a_t_most a_t_row a_t_isFree a_t_best a_t_above a_t_ordered a_t_parts t_nodes t_kinds t_levels t_size t_base t_levelArc t_levelIn t_levelNodes (upd t_levelWeight ((40 * t_levels) + (t_levelIn ((40 * x1) + x8).toNatClampNeg)).toNatClampNeg ((t_levelWeight ((40 * t_levels) + (t_levelIn ((40 * x1) + x8).toNatClampNeg)).toNatClampNeg) + (t_levelWeight ((40 * x1) + x8).toNatClampNeg)))) H := hP
                        have hD : va_D A (wd_Re_next cI cZ a_t a_t_levelArc a_t_levelIn a_t_levelNodes a_t_levelWeight a_t_weight a_t_arcs a_t_split a_t_least a_t_most a_t_row a_t_isFree a_t_best a_t_above a_t_ordered a_t_parts t_nodes t_kinds t_levels t_size t_base t_levelArc t_levelIn t_levelNodes (upd t_levelWeight ((40 * t_levels) + (t_levelIn ((40 * x1) + x8).toNatClampNeg)).toNatClampNeg ((t_levelWeight ((40 * t_levels) + (t_levelIn ((40 * x1) + x8).toNatClampNeg)).toNatClampNeg) + (t_levelWeight ((40 * x1) + x8).toNatClampNeg)))) := hD
                        refine lv_iconst (v := 0) hx hb dd_Re_next_290 (by decide) ?_
                        refine lv_istore (lv' := [(10, .int 0), (9, .int (t_levelIn ((40 * x1) + x8).toNatClampNeg)), (0, .ref a_t), (1, .int x1), (2, .int x2), (8, .int x8)]) hx hb dd_Re_next_291 hl (by decide) rfl (fun ls hl => ?_)
                        exact h293 64 x2 x8 (t_levelIn ((40 * x1) + x8).toNatClampNeg) 0 t_levelArc t_levelIn t_levelNodes (upd t_levelWeight ((40 * t_levels) + (t_levelIn ((40 * x1) + x8).toNatClampNeg)).toNatClampNeg ((t_levelWeight ((40 * t_levels) + (t_levelIn ((40 * x1) + x8).toNatClampNeg)).toNatClampNeg) + (t_levelWeight ((40 * x1) + x8).toNatClampNeg))) _ _ _ hf (lv_sub hl [2, 3, 4, 5, 1, 0] rfl) hP hD hS
                  refine lv_iload hx hb dd_Re_next_169 (lv_at hl 4 rfl) ?_
                  refine lv_iload hx hb dd_Re_next_171 (lv_at hl 3 rfl) ?_
                  refine lv_icmp_ge (tgt := 237) hx hb dd_Re_next_173 (by decide) (fun cc => ?_) (fun cc => ?_)
                  · skip
                    have hf := if_t cc hf
                    refine lv_iconst (v := 0) hx hb dd_Re_next_237 (by decide) ?_
                    refine lv_istore (lv' := [(8, .int 0), (0, .ref a_t), (1, .int x1), (2, .int x2), (7, .int x7)]) hx hb dd_Re_next_238 hl (by decide) rfl (fun ls hl => ?_)
                    exact h240 64 x2 0 t_levelArc t_levelIn t_levelNodes t_levelWeight _ _ _ hf (lv_sub hl [1, 2, 3, 0] rfl) hP hD hS
                  · skip
                    have hf := if_f cc hf
                    refine lv_aload_n hx hb dd_Re_next_176 rfl (lv_at hl 0 rfl) ?_
                    refine va_get (D := (dC, dI)) (ci := 9) (v := .ref a_t_levelWeight) (C := rr_Re) (T := tt_Re) (N := 20) hx hb hts (fun w h => gwc (inn_Re w h)) hown hK hP 0 rfl rfl 9 (by decide) (hts _ (gwc gw_712)) (fun _ h9 => h9) rfl dd_Re_next_177 ?_
                    refine lv_bipush (v := 40) hx hb dd_Re_next_180 (by decide) ?_
                    refine lv_aload_n hx hb dd_Re_next_182 rfl (lv_at hl 0 rfl) ?_
                    refine va_get (D := (dC, dI)) (ci := 9) (v := .int t_levels) (C := rr_Re) (T := tt_Re) (N := 20) hx hb hts (fun w h => gwc (inn_Re w h)) hown hK hP 0 rfl rfl 7 (by decide) (hts _ (gwc gw_710)) (fun _ h9 => h9) rfl dd_Re_next_183 ?_
                    refine lv_imul hx hb dd_Re_next_186 ?_
                    refine lv_iload hx hb dd_Re_next_187 (lv_at hl 4 rfl) ?_
                    refine lv_iadd hx hb dd_Re_next_189 ?_
                    refine lv_iconst (v := 0) hx hb dd_Re_next_190 (by decide) ?_
                    obtain ⟨k191, hf⟩ := ck_some hf
                    refine va_iast hx hb hK hP hD hS 4 0 rfl rfl (okb_in k191) dd_Re_next_191 (fun H locs hP hD hS => ?_)
                    have hP : va_P (dC, dI) clsL (wd_Re_next cI cZ a_t a_t_levelArc a_t_levelIn a_t_levelNodes a_t_levelWeight a_t_weight a_t_arcs a_t_split a_t_least a_t_most a_t_row a_t_isFree a_t_best a_t_above a_t_ordered a_t_parts t_nodes t_kinds t_levels t_size t_base t_levelArc t_levelIn t_levelNodes (upd t_levelWeight ((40 * t_levels) + x8).toNatClampNeg 0)) H := hP
                    have hD : va_D A (wd_Re_next cI cZ a_t a_t_levelArc a_t_levelIn a_t_levelNodes a_t_levelWeight a_t_weight a_t_arcs a_t_split a_t_least a_t_most a_t_row a_t_isFree a_t_best a_t_above a_t_ordered a_t_parts t_nodes t_kinds t_levels t_size t_base t_levelArc t_levelIn t_levelNodes (upd t_levelWeight ((40 * t_levels) + x8).toNatClampNeg 0)) := hD
                    refine lv_iconst (v := 0) hx hb dd_Re_next_192 (by decide) ?_
                    refine lv_istore (lv' := [(9, .int 0), (0, .ref a_t), (1, .int x1), (2, .int x2), (7, .int x7), (8, .int x8)]) hx hb dd_Re_next_193 hl (by decide) rfl (fun ls hl => ?_)
                    exact h195 64 x2 x7 x8 0 t_levelArc t_levelIn t_levelNodes (upd t_levelWeight ((40 * t_levels) + x8).toNatClampNeg 0) _ _ _ hf (lv_sub hl [1, 2, 3, 4, 5, 0] rfl) hP hD hS
              refine lv_iload hx hb dd_Re_next_147 (lv_at hl 3 rfl) ?_
              refine lv_iload_n hx hb dd_Re_next_149 rfl (lv_at hl 2 rfl) ?_
              refine lv_icmp_ne (tgt := 155) hx hb dd_Re_next_150 (by decide) (fun cc => ?_) (fun cc => ?_)
              · skip
                have hf := if_f cc hf
                refine lv_aload_n hx hb dd_Re_next_155 rfl (lv_at hl 0 rfl) ?_
                refine va_get (D := (dC, dI)) (ci := 9) (v := .ref a_t_levelNodes) (C := rr_Re) (T := tt_Re) (N := 20) hx hb hts (fun w h => gwc (inn_Re w h)) hown hK hP 0 rfl rfl 8 (by decide) (hts _ (gwc gw_711)) (fun _ h9 => h9) rfl dd_Re_next_156 ?_
                refine lv_aload_n hx hb dd_Re_next_159 rfl (lv_at hl 0 rfl) ?_
                refine va_get (D := (dC, dI)) (ci := 9) (v := .int t_levels) (C := rr_Re) (T := tt_Re) (N := 20) hx hb hts (fun w h => gwc (inn_Re w h)) hown hK hP 0 rfl rfl 7 (by decide) (hts _ (gwc gw_710)) (fun _ h9 => h9) rfl dd_Re_next_160 ?_
                refine lv_iload hx hb dd_Re_next_163 (lv_at hl 3 rfl) ?_
                obtain ⟨k165, hf⟩ := ck_some hf
                refine va_iast hx hb hK hP hD hS 3 0 rfl rfl (okb_in k165) dd_Re_next_165 (fun H locs hP hD hS => ?_)
                have hP : va_P (dC, dI) clsL (wd_Re_next cI cZ a_t a_t_levelArc a_t_levelIn a_t_levelNodes a_t_levelWeight a_t_weight a_t_arcs a_t_split a_t_least a_t_most a_t_row a_t_isFree a_t_best a_t_above a_t_ordered a_t_parts t_nodes t_kinds t_levels t_size t_base t_levelArc t_levelIn (upd t_levelNodes (t_levels).toNatClampNeg x7) t_levelWeight) H := hP
                have hD : va_D A (wd_Re_next cI cZ a_t a_t_levelArc a_t_levelIn a_t_levelNodes a_t_levelWeight a_t_weight a_t_arcs a_t_split a_t_least a_t_most a_t_row a_t_isFree a_t_best a_t_above a_t_ordered a_t_parts t_nodes t_kinds t_levels t_size t_base t_levelArc t_levelIn (upd t_levelNodes (t_levels).toNatClampNeg x7) t_levelWeight) := hD
                refine lv_iconst (v := 0) hx hb dd_Re_next_166 (by decide) ?_
                refine lv_istore (lv' := [(8, .int 0), (0, .ref a_t), (1, .int x1), (2, .int x2), (7, .int x7)]) hx hb dd_Re_next_167 hl (by decide) rfl (fun ls hl => ?_)
                exact h169 64 x2 x7 0 t_levelArc t_levelIn (upd t_levelNodes (t_levels).toNatClampNeg x7) t_levelWeight _ _ _ hf (lv_sub hl [1, 2, 3, 4, 0] rfl) hP hD hS
              · skip
                have hf := if_t cc hf
                refine lv_iconst (v := 0) hx hb dd_Re_next_153 (by decide) ?_
                have hf := Option.some.inj hf
                subst hf
                exact W.zret hx hb hr narrow_b0 (fun t ht hW => ⟨⟨_, (), rfl, rfl, pst_of ht hP hD⟩, hS.F ht⟩) hS.2.2 dd_Re_next_154
            refine lv_iload hx hb dd_Re_next_70 (lv_at hl 5 rfl) ?_
            refine lv_iload_n hx hb dd_Re_next_72 rfl (lv_at hl 2 rfl) ?_
            refine lv_icmp_ge (tgt := 147) hx hb dd_Re_next_73 (by decide) (fun cc => ?_) (fun cc => ?_)
            · skip
              have hf := if_t cc hf
              exact h147 x2 x7 t_levelIn _ _ _ hf (lv_sub hl [0, 1, 2, 4] rfl) hP hD hS
            · skip
              have hf := if_f cc hf
              refine lv_aload_n hx hb dd_Re_next_76 rfl (lv_at hl 0 rfl) ?_
              refine va_get (D := (dC, dI)) (ci := 9) (v := .ref a_t_levelIn) (C := rr_Re) (T := tt_Re) (N := 20) hx hb hts (fun w h => gwc (inn_Re w h)) hown hK hP 0 rfl rfl 11 (by decide) (hts _ (gwc gw_714)) (fun _ h9 => h9) rfl dd_Re_next_77 ?_
              refine lv_bipush (v := 40) hx hb dd_Re_next_80 (by decide) ?_
              refine lv_iload_n hx hb dd_Re_next_82 rfl (lv_at hl 1 rfl) ?_
              refine lv_imul hx hb dd_Re_next_83 ?_
              refine lv_iload hx hb dd_Re_next_84 (lv_at hl 5 rfl) ?_
              refine lv_iadd hx hb dd_Re_next_86 ?_
              obtain ⟨k87, hf⟩ := ck_some hf
              refine va_iald hx hb hK hP 2 0 rfl rfl (okb_in k87) dd_Re_next_87 ?_
              refine lv_if_lt (tgt := 94) hx hb dd_Re_next_88 (by decide) (fun cc => ?_) (fun cc => ?_)
              · skip
                have hf := if_t cc hf
                refine lv_aload_n hx hb dd_Re_next_94 rfl (lv_at hl 0 rfl) ?_
                refine lv_iload_n hx hb dd_Re_next_95 rfl (lv_at hl 1 rfl) ?_
                refine lv_iload hx hb dd_Re_next_96 (lv_at hl 5 rfl) ?_
                refine lv_lload hx hb dd_Re_next_98 (lv_at hl 3 rfl) ?_
                obtain ⟨r100, hr100, hf⟩ := bind_some hf
                refine xcalli (rest := []) (wc := (wd_Re_mate cI cZ a_t a_t_levelArc a_t_levelIn a_t_levelNodes a_t_levelWeight a_t_weight a_t_arcs a_t_split a_t_least a_t_most a_t_row a_t_isFree a_t_best a_t_above a_t_ordered a_t_parts t_nodes t_kinds t_levels t_size t_base t_levelArc t_levelIn t_levelNodes t_levelWeight)) (w1 := (wd_Re_mate cI cZ a_t a_t_levelArc a_t_levelIn a_t_levelNodes a_t_levelWeight a_t_weight a_t_arcs a_t_split a_t_least a_t_most a_t_row a_t_isFree a_t_best a_t_above a_t_ordered a_t_parts t_nodes t_kinds t_levels t_size t_base t_levelArc t_levelIn t_levelNodes t_levelWeight)) (wr := []) (ws' := (wd_Re_next cI cZ a_t a_t_levelArc a_t_levelIn a_t_levelNodes a_t_levelWeight a_t_weight a_t_arcs a_t_split a_t_least a_t_most a_t_row a_t_isFree a_t_best a_t_above a_t_ordered a_t_parts t_nodes t_kinds t_levels t_size t_base t_levelArc t_levelIn t_levelNodes t_levelWeight)) (va_runV (As := [.int x1, .int x8, .long x5]) ⟨hx, hb, hml, hown, hts⟩ (c_Re_mate l dC dI cI cZ a_t a_t_levelArc a_t_levelIn a_t_levelNodes a_t_levelWeight a_t_weight a_t_arcs a_t_split a_t_least a_t_most a_t_row a_t_isFree a_t_best a_t_above a_t_ordered a_t_parts H.size x1 x8 x5 t_nodes t_kinds t_levels t_size t_base t_levelArc t_levelIn t_levelNodes t_levelWeight r100 hr100) (cwV 3 hts (gV gw_804 gw_806 gw_33 gw_61 gw_807) rfl rfl rfl (yd_Re_mate) ⟨Nat.le_of_ble_eq_true rfl, Nat.le_of_ble_eq_true rfl⟩) (mkV hK (hP.sub (ws' := (wd_Re_mate cI cZ a_t a_t_levelArc a_t_levelIn a_t_levelNodes a_t_levelWeight a_t_weight a_t_arcs a_t_split a_t_least a_t_most a_t_row a_t_isFree a_t_best a_t_above a_t_ordered a_t_parts t_nodes t_kinds t_levels t_size t_base t_levelArc t_levelIn t_levelNodes t_levelWeight)) [0, 1, 2, 3, 4] rfl) (hD.sub (ws' := (wd_Re_mate cI cZ a_t a_t_levelArc a_t_levelIn a_t_levelNodes a_t_levelWeight a_t_weight a_t_arcs a_t_split a_t_least a_t_most a_t_row a_t_isFree a_t_best a_t_above a_t_ordered a_t_parts t_nodes t_kinds t_levels t_size t_base t_levelArc t_levelIn t_levelNodes t_levelWeight)) [0, 1, 2, 3, 4] (by decide) rfl) hN (va_recv hK hP (ci := 9) (q0 := 0) rfl rfl)) rfl rfl hl.1 rfl (lv_room (Nat.le_of_ble_eq_true rfl)) dd_Re_next_100 ⟨Nat.zero_le _, Nat.zero_le _⟩) hP hD hS hA [0, 1, 2, 3, 4] [] [0, 1, 2, 3, 4] rfl rfl (by decide) (by decide) rfl (by decide) rfl (fun H locs hP hD hS => ?_)
                refine lv_istore (lv' := [(9, .int r100), (0, .ref a_t), (1, .int x1), (2, .int x2), (5, .long x5), (7, .int x7), (8, .int x8)]) hx hb dd_Re_next_103 hl (by decide) rfl (fun ls hl => ?_)
                refine lv_aload_n hx hb dd_Re_next_105 rfl (lv_at hl 1 rfl) ?_
                refine va_get (D := (dC, dI)) (ci := 9) (v := .ref a_t_levelIn) (C := rr_Re) (T := tt_Re) (N := 20) hx hb hts (fun w h => gwc (inn_Re w h)) hown hK hP 0 rfl rfl 11 (by decide) (hts _ (gwc gw_714)) (fun _ h9 => h9) rfl dd_Re_next_106 ?_
                refine lv_bipush (v := 40) hx hb dd_Re_next_109 (by decide) ?_
                refine lv_iload_n hx hb dd_Re_next_111 rfl (lv_at hl 2 rfl) ?_
                refine lv_imul hx hb dd_Re_next_112 ?_
                refine lv_iload hx hb dd_Re_next_113 (lv_at hl 6 rfl) ?_
                refine lv_iadd hx hb dd_Re_next_115 ?_
                refine lv_iload hx hb dd_Re_next_116 (lv_at hl 5 rfl) ?_
                obtain ⟨k118, hf⟩ := ck_some hf
                refine va_iast hx hb hK hP hD hS 2 0 rfl rfl (okb_in k118) dd_Re_next_118 (fun H locs hP hD hS => ?_)
                have hP : va_P (dC, dI) clsL (wd_Re_next cI cZ a_t a_t_levelArc a_t_levelIn a_t_levelNodes a_t_levelWeight a_t_weight a_t_arcs a_t_split a_t_least a_t_most a_t_row a_t_isFree a_t_best a_t_above a_t_ordered a_t_parts t_nodes t_kinds t_levels t_size t_base t_levelArc (upd t_levelIn ((40 * x1) + x8).toNatClampNeg x7) t_levelNodes t_levelWeight) H := hP
                have hD : va_D A (wd_Re_next cI cZ a_t a_t_levelArc a_t_levelIn a_t_levelNodes a_t_levelWeight a_t_weight a_t_arcs a_t_split a_t_least a_t_most a_t_row a_t_isFree a_t_best a_t_above a_t_ordered a_t_parts t_nodes t_kinds t_levels t_size t_base t_levelArc (upd t_levelIn ((40 * x1) + x8).toNatClampNeg x7) t_levelNodes t_levelWeight) := hD
                refine lv_iload hx hb dd_Re_next_119 (lv_at hl 0 rfl) ?_
                refine lv_if_lt (tgt := 138) hx hb dd_Re_next_121 (by decide) (fun cc => ?_) (fun cc => ?_)
                · skip
                  have hf := if_t cc hf
                  refine lv_iinc (v := x7 + 1) (lv' := [(7, .int (x7 + 1)), (9, .int r100), (0, .ref a_t), (1, .int x1), (2, .int x2), (5, .long x5), (8, .int x8)]) hx hb dd_Re_next_138 hl (k := 5) rfl rfl (by decide) rfl (fun ls hl => ?_)
                  refine lv_iinc (v := x8 + 1) (lv' := [(8, .int (x8 + 1)), (7, .int (x7 + 1)), (9, .int r100), (0, .ref a_t), (1, .int x1), (2, .int x2), (5, .long x5)]) hx hb dd_Re_next_141 hl (k := 6) rfl rfl (by decide) rfl (fun ls hl => ?_)
                  refine lv_goto (tgt := 70) hx hb dd_Re_next_144 (by decide) ?_
                  exact ih70 x2 x5 (x7 + 1) (x8 + 1) (upd t_levelIn ((40 * x1) + x8).toNatClampNeg x7) _ _ _ hf (lv_sub hl [3, 4, 5, 6, 1, 0] rfl) hP hD hS
                · skip
                  have hf := if_f cc hf
                  refine lv_aload_n hx hb dd_Re_next_124 rfl (lv_at hl 1 rfl) ?_
                  refine va_get (D := (dC, dI)) (ci := 9) (v := .ref a_t_levelIn) (C := rr_Re) (T := tt_Re) (N := 20) hx hb hts (fun w h => gwc (inn_Re w h)) hown hK hP 0 rfl rfl 11 (by decide) (hts _ (gwc gw_714)) (fun _ h9 => h9) rfl dd_Re_next_125 ?_
                  refine lv_bipush (v := 40) hx hb dd_Re_next_128 (by decide) ?_
                  refine lv_iload_n hx hb dd_Re_next_130 rfl (lv_at hl 2 rfl) ?_
                  refine lv_imul hx hb dd_Re_next_131 ?_
                  refine lv_iload hx hb dd_Re_next_132 (lv_at hl 0 rfl) ?_
                  refine lv_iadd hx hb dd_Re_next_134 ?_
                  refine lv_iload hx hb dd_Re_next_135 (lv_at hl 5 rfl) ?_
                  obtain ⟨k137, hf⟩ := ck_some hf
                  refine va_iast hx hb hK hP hD hS 2 0 rfl rfl (okb_in k137) dd_Re_next_137 (fun H locs hP hD hS => ?_)
                  have hP : va_P (dC, dI) clsL (wd_Re_next cI cZ a_t a_t_levelArc a_t_levelIn a_t_levelNodes a_t_levelWeight a_t_weight a_t_arcs a_t_split a_t_least a_t_most a_t_row a_t_isFree a_t_best a_t_above a_t_ordered a_t_parts t_nodes t_kinds t_levels t_size t_base t_levelArc (upd (upd t_levelIn ((40 * x1) + x8).toNatClampNeg x7) ((40 * x1) + r100).toNatClampNeg x7) t_levelNodes t_levelWeight) H := hP
                  have hD : va_D A (wd_Re_next cI cZ a_t a_t_levelArc a_t_levelIn a_t_levelNodes a_t_levelWeight a_t_weight a_t_arcs a_t_split a_t_least a_t_most a_t_row a_t_isFree a_t_best a_t_above a_t_ordered a_t_parts t_nodes t_kinds t_levels t_size t_base t_levelArc (upd (upd t_levelIn ((40 * x1) + x8).toNatClampNeg x7) ((40 * x1) + r100).toNatClampNeg x7) t_levelNodes t_levelWeight) := hD
                  refine lv_iinc (v := x7 + 1) (lv' := [(7, .int (x7 + 1)), (9, .int r100), (0, .ref a_t), (1, .int x1), (2, .int x2), (5, .long x5), (8, .int x8)]) hx hb dd_Re_next_138 hl (k := 5) rfl rfl (by decide) rfl (fun ls hl => ?_)
                  refine lv_iinc (v := x8 + 1) (lv' := [(8, .int (x8 + 1)), (7, .int (x7 + 1)), (9, .int r100), (0, .ref a_t), (1, .int x1), (2, .int x2), (5, .long x5)]) hx hb dd_Re_next_141 hl (k := 6) rfl rfl (by decide) rfl (fun ls hl => ?_)
                  refine lv_goto (tgt := 70) hx hb dd_Re_next_144 (by decide) ?_
                  exact ih70 x2 x5 (x7 + 1) (x8 + 1) (upd (upd t_levelIn ((40 * x1) + x8).toNatClampNeg x7) ((40 * x1) + r100).toNatClampNeg x7) _ _ _ hf (lv_sub hl [3, 4, 5, 6, 1, 0] rfl) hP hD hS
              · skip
                have hf := if_f cc hf
                refine lv_goto (tgt := 141) hx hb dd_Re_next_91 (by decide) ?_
                refine lv_iinc (v := x8 + 1) (lv' := [(8, .int (x8 + 1)), (0, .ref a_t), (1, .int x1), (2, .int x2), (5, .long x5), (7, .int x7)]) hx hb dd_Re_next_141 hl (k := 5) rfl rfl (by decide) rfl (fun ls hl => ?_)
                refine lv_goto (tgt := 70) hx hb dd_Re_next_144 (by decide) ?_
                exact ih70 x2 x5 x7 (x8 + 1) t_levelIn _ _ _ hf (lv_sub hl [1, 2, 3, 4, 5, 0] rfl) hP hD hS
        refine lv_lload_n hx hb dd_Re_next_53 rfl (lv_at hl 3 rfl) ?_
        refine lv_iconst (v := 2) hx hb dd_Re_next_54 (by decide) ?_
        refine lv_aload_n hx hb dd_Re_next_55 rfl (lv_at hl 0 rfl) ?_
        refine va_get (D := (dC, dI)) (ci := 9) (v := .int t_kinds) (C := rr_Re) (T := tt_Re) (N := 20) hx hb hts (fun w h => gwc (inn_Re w h)) hown hK hP 0 rfl rfl 1 (by decide) (hts _ (gwc gw_704)) (fun _ h9 => h9) rfl dd_Re_next_56 ?_
        refine lv_imul hx hb dd_Re_next_59 ?_
        refine lv_i2l hx hb dd_Re_next_60 rfl ?_
        obtain ⟨k61, hf⟩ := ck_some hf
        refine lv_ldiv hx hb dd_Re_next_61 (nzl_ne k61) ?_
        refine lv_lstore (lv' := [(5, .long (x3 / ((2 * t_kinds).toInt64))), (0, .ref a_t), (1, .int x1), (2, .int x2), (3, .long x3)]) hx hb dd_Re_next_62 hl (by decide) rfl (fun ls hl => ?_)
        refine lv_iconst (v := 0) hx hb dd_Re_next_64 (by decide) ?_
        refine lv_istore (lv' := [(7, .int 0), (5, .long (x3 / ((2 * t_kinds).toInt64))), (0, .ref a_t), (1, .int x1), (2, .int x2), (3, .long x3)]) hx hb dd_Re_next_65 hl (by decide) rfl (fun ls hl => ?_)
        refine lv_iconst (v := 0) hx hb dd_Re_next_67 (by decide) ?_
        refine lv_istore (lv' := [(8, .int 0), (7, .int 0), (5, .long (x3 / ((2 * t_kinds).toInt64))), (0, .ref a_t), (1, .int x1), (2, .int x2), (3, .long x3)]) hx hb dd_Re_next_68 hl (by decide) rfl (fun ls hl => ?_)
        exact h70 64 x2 (x3 / ((2 * t_kinds).toInt64)) 0 0 t_levelIn _ _ _ hf (lv_sub hl [3, 4, 5, 2, 1, 0] rfl) hP hD hS
      refine lv_iload hx hb dd_Re_next_12 (lv_at hl 4 rfl) ?_
      refine lv_iload_n hx hb dd_Re_next_14 rfl (lv_at hl 2 rfl) ?_
      refine lv_icmp_ge (tgt := 53) hx hb dd_Re_next_15 (by decide) (fun cc => ?_) (fun cc => ?_)
      · skip
        have hf := if_t cc hf
        exact h53 x2 x3 t_levelIn _ _ _ hf (lv_sub hl [0, 1, 2, 3] rfl) hP hD hS
      · skip
        have hf := if_f cc hf
        refine lv_lload_n hx hb dd_Re_next_18 rfl (lv_at hl 3 rfl) ?_
        refine lv_aload_n hx hb dd_Re_next_19 rfl (lv_at hl 0 rfl) ?_
        refine va_get (D := (dC, dI)) (ci := 9) (v := .ref a_t_levelWeight) (C := rr_Re) (T := tt_Re) (N := 20) hx hb hts (fun w h => gwc (inn_Re w h)) hown hK hP 0 rfl rfl 9 (by decide) (hts _ (gwc gw_712)) (fun _ h9 => h9) rfl dd_Re_next_20 ?_
        refine lv_bipush (v := 40) hx hb dd_Re_next_23 (by decide) ?_
        refine lv_iload_n hx hb dd_Re_next_25 rfl (lv_at hl 1 rfl) ?_
        refine lv_imul hx hb dd_Re_next_26 ?_
        refine lv_iload hx hb dd_Re_next_27 (lv_at hl 4 rfl) ?_
        refine lv_iadd hx hb dd_Re_next_29 ?_
        obtain ⟨k30, hf⟩ := ck_some hf
        refine va_iald hx hb hK hP 4 0 rfl rfl (okb_in k30) dd_Re_next_30 ?_
        refine lv_i2l hx hb dd_Re_next_31 rfl ?_
        refine lv_ladd hx hb dd_Re_next_32 ?_
        refine lv_lstore_n (lv' := [(3, .long (x3 + ((t_levelWeight ((40 * x1) + x5).toNatClampNeg).toInt64))), (0, .ref a_t), (1, .int x1), (2, .int x2), (5, .int x5)]) hx hb dd_Re_next_33 rfl hl (by decide) rfl (fun ls hl => ?_)
        refine lv_aload_n hx hb dd_Re_next_34 rfl (lv_at hl 1 rfl) ?_
        refine va_get (D := (dC, dI)) (ci := 9) (v := .ref a_t_levelIn) (C := rr_Re) (T := tt_Re) (N := 20) hx hb hts (fun w h => gwc (inn_Re w h)) hown hK hP 0 rfl rfl 11 (by decide) (hts _ (gwc gw_714)) (fun _ h9 => h9) rfl dd_Re_next_35 ?_
        refine lv_bipush (v := 40) hx hb dd_Re_next_38 (by decide) ?_
        refine lv_iload_n hx hb dd_Re_next_40 rfl (lv_at hl 2 rfl) ?_
        refine lv_imul hx hb dd_Re_next_41 ?_
        refine lv_iload hx hb dd_Re_next_42 (lv_at hl 4 rfl) ?_
        refine lv_iadd hx hb dd_Re_next_44 ?_
        refine lv_iconst (v := -1) hx hb dd_Re_next_45 (by decide) ?_
        obtain ⟨k46, hf⟩ := ck_some hf
        refine va_iast hx hb hK hP hD hS 2 0 rfl rfl (okb_in k46) dd_Re_next_46 (fun H locs hP hD hS => ?_)
        have hP : va_P (dC, dI) clsL (wd_Re_next cI cZ a_t a_t_levelArc a_t_levelIn a_t_levelNodes a_t_levelWeight a_t_weight a_t_arcs a_t_split a_t_least a_t_most a_t_row a_t_isFree a_t_best a_t_above a_t_ordered a_t_parts t_nodes t_kinds t_levels t_size t_base t_levelArc (upd t_levelIn ((40 * x1) + x5).toNatClampNeg (-1)) t_levelNodes t_levelWeight) H := hP
        have hD : va_D A (wd_Re_next cI cZ a_t a_t_levelArc a_t_levelIn a_t_levelNodes a_t_levelWeight a_t_weight a_t_arcs a_t_split a_t_least a_t_most a_t_row a_t_isFree a_t_best a_t_above a_t_ordered a_t_parts t_nodes t_kinds t_levels t_size t_base t_levelArc (upd t_levelIn ((40 * x1) + x5).toNatClampNeg (-1)) t_levelNodes t_levelWeight) := hD
        refine lv_iinc (v := x5 + 1) (lv' := [(5, .int (x5 + 1)), (3, .long (x3 + ((t_levelWeight ((40 * x1) + x5).toNatClampNeg).toInt64))), (0, .ref a_t), (1, .int x1), (2, .int x2)]) hx hb dd_Re_next_47 hl (k := 4) rfl rfl (by decide) rfl (fun ls hl => ?_)
        refine lv_goto (tgt := 12) hx hb dd_Re_next_50 (by decide) ?_
        exact ih12 x2 (x3 + ((t_levelWeight ((40 * x1) + x5).toNatClampNeg).toInt64)) (x5 + 1) (upd t_levelIn ((40 * x1) + x5).toNatClampNeg (-1)) _ _ _ hf (lv_sub hl [2, 3, 4, 1, 0] rfl) hP hD hS
  refine lv_aload_n hx hb dd_Re_next_0 rfl (lv_at hl 0 rfl) ?_
  refine va_get (D := (dC, dI)) (ci := 9) (v := .ref a_t_levelNodes) (C := rr_Re) (T := tt_Re) (N := 20) hx hb hts (fun w h => gwc (inn_Re w h)) hown hK hP 0 rfl rfl 8 (by decide) (hts _ (gwc gw_711)) (fun _ h9 => h9) rfl dd_Re_next_1 ?_
  refine lv_iload_n hx hb dd_Re_next_4 rfl (lv_at hl 1 rfl) ?_
  obtain ⟨k5, hf⟩ := ck_some hf
  refine va_iald hx hb hK hP 3 0 rfl rfl (okb_in k5) dd_Re_next_5 ?_
  refine lv_istore_n (lv' := [(2, .int (t_levelNodes (x1).toNatClampNeg)), (0, .ref a_t), (1, .int x1)]) hx hb dd_Re_next_6 rfl hl (by decide) rfl (fun ls hl => ?_)
  refine lv_lconst (v := 0) hx hb dd_Re_next_7 (by decide) ?_
  refine lv_lstore_n (lv' := [(3, .long (0 : Int64)), (2, .int (t_levelNodes (x1).toNatClampNeg)), (0, .ref a_t), (1, .int x1)]) hx hb dd_Re_next_8 rfl hl (by decide) rfl (fun ls hl => ?_)
  refine lv_iconst (v := 0) hx hb dd_Re_next_9 (by decide) ?_
  refine lv_istore (lv' := [(5, .int 0), (3, .long (0 : Int64)), (2, .int (t_levelNodes (x1).toNatClampNeg)), (0, .ref a_t), (1, .int x1)]) hx hb dd_Re_next_10 hl (by decide) rfl (fun ls hl => ?_)
  exact h12 64 (t_levelNodes (x1).toNatClampNeg) (0 : Int64) 0 t_levelIn _ _ _ hf (lv_sub hl [3, 4, 2, 1, 0] rfl) hP hD hS
abbrev wd_Re_makeLevels (cI cZ : ClassId) (a_t a_t_arcs a_t_levelArc a_t_levelIn a_t_levelNodes a_t_levelWeight a_t_weight a_t_split a_t_least a_t_most a_t_row a_t_isFree a_t_best a_t_above a_t_ordered a_t_parts : Nat) (t_nodes : Int32) (t_kinds : Int32) (t_levels : Int32) (t_size : Int32) (t_base : Int32) (t_arcs : Nat → Int32) (t_levelArc : Nat → Int32) (t_levelIn : Nat → Int32) (t_levelNodes : Nat → Int32) (t_levelWeight : Nat → Int32) (t_weight : Nat → Int32) : va_W := [(a_t, .inr (9, [.int t_nodes, .int t_kinds, .ref a_t_weight, .ref a_t_arcs, .ref a_t_split, .ref a_t_least, .ref a_t_most, .int t_levels, .ref a_t_levelNodes, .ref a_t_levelWeight, .ref a_t_levelArc, .ref a_t_levelIn, .int t_size, .int t_base, .ref a_t_row, .ref a_t_isFree, .ref a_t_best, .ref a_t_above, .ref a_t_ordered, .ref a_t_parts])), (a_t_arcs, .inl (cI, 1600, .inl t_arcs)), (a_t_levelArc, .inl (cI, 65600, .inl t_levelArc)), (a_t_levelIn, .inl (cI, 1640, .inl t_levelIn)), (a_t_levelNodes, .inl (cI, 41, .inl t_levelNodes)), (a_t_levelWeight, .inl (cI, 1640, .inl t_levelWeight)), (a_t_weight, .inl (cI, 40, .inl t_weight))]
set_option maxRecDepth 100000 in
set_option maxHeartbeats 4000000 in
theorem c_Re_makeLevels (l : Launch) (dC : Nat → ClassId) (dI : Nat → Nat → Nat) (cI cZ : ClassId) (a_t a_t_arcs a_t_levelArc a_t_levelIn a_t_levelNodes a_t_levelWeight a_t_weight a_t_split a_t_least a_t_most a_t_row a_t_isFree a_t_best a_t_above a_t_ordered a_t_parts sz : Nat) (t_nodes : Int32) (t_kinds : Int32) (t_levels : Int32) (t_size : Int32) (t_base : Int32) (t_arcs : Nat → Int32) (t_levelArc : Nat → Int32) (t_levelIn : Nat → Int32) (t_levelNodes : Nat → Int32) (t_levelWeight : Nat → Int32) (t_weight : Nat → Int32) (out : Int32 × (Nat → Int32) × (Nat → Int32) × (Nat → Int32) × (Nat → Int32)) (hf : f_Re_makeLevels t_nodes t_kinds t_arcs t_levelArc t_levelIn t_levelNodes t_levelWeight t_weight = some out) :
    Met l yy_Re_makeLevels wq_Re_makeLevels ({ frames := 2, cells := 0, slots := 0, locals := 59 }) (va_Pc ([.ref a_t] : List Value) (pre_ (dC, dI) cI cZ sz (wd_Re_makeLevels cI cZ a_t a_t_arcs a_t_levelArc a_t_levelIn a_t_levelNodes a_t_levelWeight a_t_weight a_t_split a_t_least a_t_most a_t_row a_t_isFree a_t_best a_t_above a_t_ordered a_t_parts t_nodes t_kinds t_levels t_size t_base t_arcs t_levelArc t_levelIn t_levelNodes t_levelWeight t_weight))) (va_Qv (fun _ : Unit => True) (fun _ => pst (dC, dI) (va_A (wd_Re_makeLevels cI cZ a_t a_t_arcs a_t_levelArc a_t_levelIn a_t_levelNodes a_t_levelWeight a_t_weight a_t_split a_t_least a_t_most a_t_row a_t_isFree a_t_best a_t_above a_t_ordered a_t_parts t_nodes t_kinds t_levels t_size t_base t_arcs t_levelArc t_levelIn t_levelNodes t_levelWeight t_weight) sz) (wd_Re_makeLevels cI cZ a_t a_t_arcs a_t_levelArc a_t_levelIn a_t_levelNodes a_t_levelWeight a_t_weight a_t_split a_t_least a_t_most a_t_row a_t_isFree a_t_best a_t_above a_t_ordered a_t_parts t_nodes t_kinds out.1 t_size t_base t_arcs out.2.1 out.2.2.1 out.2.2.2.1 out.2.2.2.2 t_weight)) (va_A (wd_Re_makeLevels cI cZ a_t a_t_arcs a_t_levelArc a_t_levelIn a_t_levelNodes a_t_levelWeight a_t_weight a_t_split a_t_least a_t_most a_t_row a_t_isFree a_t_best a_t_above a_t_ordered a_t_parts t_nodes t_kinds t_levels t_size t_base t_arcs t_levelArc t_levelIn t_levelNodes t_levelWeight t_weight) sz)) 0 0 (va_A (wd_Re_makeLevels cI cZ a_t a_t_arcs a_t_levelArc a_t_levelIn a_t_levelNodes a_t_levelWeight a_t_weight a_t_split a_t_least a_t_most a_t_row a_t_isFree a_t_best a_t_above a_t_ordered a_t_parts t_nodes t_kinds t_levels t_size t_base t_arcs t_levelArc t_levelIn t_levelNodes t_levelWeight t_weight) sz) := by
  refine Met.ofW (cc := cc_Re_makeLevels) (maxL := 3) (ret := none) (by decide) rfl ?_
  intro p e s m args below meth c s₁ B hml hv
  obtain ⟨rfl, hsz, hP, hK, hD0, hN⟩ := hv
  have hx := B.exec
  have hb := B.bytes
  have hr := B.returns
  have hts := atoms_spec (ws := wq_Re_makeLevels) B.pre
  have hown : s.vm.findClass rr_Re = some m.cls := findClass_of_methodNamed B.named
  have hlocks := B.notSynchronized
  subst hsz
  have hD := hD0.self (sz := s.heap.size)
  generalize hAe : va_A (wd_Re_makeLevels cI cZ a_t a_t_arcs a_t_levelArc a_t_levelIn a_t_levelNodes a_t_levelWeight a_t_weight a_t_split a_t_least a_t_most a_t_row a_t_isFree a_t_best a_t_above a_t_ordered a_t_parts t_nodes t_kinds t_levels t_size t_base t_arcs t_levelArc t_levelIn t_levelNodes t_levelWeight t_weight) s.heap.size = A at hD ⊢
  have hA : ∀ q : Nat, s.heap.size ≤ q → A q := fun q h => by rw [← hAe]; exact Or.inr h
  obtain ⟨H, hH⟩ : ∃ H : Heap, H = s.heap := ⟨_, rfl⟩
  have hS : va_S A s.heap H [] := by rw [hH]; exact va_S.rf
  have hl := lv_entry (([.ref a_t] : List Value)) (n := 3) (Nat.le_of_ble_eq_true rfl)
  rw [lg_entry_eq]
  generalize (lg_sl (([.ref a_t] : List Value)) ++ List.replicate (3 - (lg_sl (([.ref a_t] : List Value))).length) Slot.unset).toArray = ls at hl ⊢
  have hl : lv_has ls 3 [(0, .ref a_t)] := hl
  rw [← hH] at hP ⊢
  have hP : va_P (dC, dI) clsL (wd_Re_makeLevels cI cZ a_t a_t_arcs a_t_levelArc a_t_levelIn a_t_levelNodes a_t_levelWeight a_t_weight a_t_split a_t_least a_t_most a_t_row a_t_isFree a_t_best a_t_above a_t_ordered a_t_parts t_nodes t_kinds t_levels t_size t_base t_arcs t_levelArc t_levelIn t_levelNodes t_levelWeight t_weight) H := hP
  unfold f_Re_makeLevels at hf
  have h17 : ∀ (n17 : Nat) (x1 : Int32) (t_levels : Int32) (t_levelArc : Nat → Int32) (t_levelNodes : Nat → Int32) (t_levelWeight : Nat → Int32) (ls : Array Slot) (H : Heap) (locs : List Loc), L_Re_makeLevels_17 t_nodes t_kinds t_arcs t_levelIn t_weight n17 x1 t_levels t_levelArc t_levelNodes t_levelWeight = some out → lv_has ls 3 [(0, .ref a_t), (1, .int x1)] → va_P (dC, dI) clsL (wd_Re_makeLevels cI cZ a_t a_t_arcs a_t_levelArc a_t_levelIn a_t_levelNodes a_t_levelWeight a_t_weight a_t_split a_t_least a_t_most a_t_row a_t_isFree a_t_best a_t_above a_t_ordered a_t_parts t_nodes t_kinds t_levels t_size t_base t_arcs t_levelArc t_levelIn t_levelNodes t_levelWeight t_weight) H → va_D A (wd_Re_makeLevels cI cZ a_t a_t_arcs a_t_levelArc a_t_levelIn a_t_levelNodes a_t_levelWeight a_t_weight a_t_split a_t_least a_t_most a_t_row a_t_isFree a_t_best a_t_above a_t_ordered a_t_parts t_nodes t_kinds t_levels t_size t_base t_arcs t_levelArc t_levelIn t_levelNodes t_levelWeight t_weight) → va_S A s.heap H locs → W p l e (headSpec wq_Re_makeLevels ({ frames := 2, cells := 0, slots := 0, locals := 59 })).room s m ([.ref a_t] : List Value).toArray below meth c H locs 0 0 (MQ below (va_Qv (fun _ : Unit => True) (fun _ => pst (dC, dI) A (wd_Re_makeLevels cI cZ a_t a_t_arcs a_t_levelArc a_t_levelIn a_t_levelNodes a_t_levelWeight a_t_weight a_t_split a_t_least a_t_most a_t_row a_t_isFree a_t_best a_t_above a_t_ordered a_t_parts t_nodes t_kinds out.1 t_size t_base t_arcs out.2.1 out.2.2.1 out.2.2.2.1 out.2.2.2.2 t_weight)) A) ([.ref a_t] : List Value).toArray s 0 0 A) (F0 m 17 ls []) := by
    intro n17
    induction n17 with
    | zero =>
      intro x1 t_levels t_levelArc t_levelNodes t_levelWeight ls H locs hf
      rw [L_Re_makeLevels_17] at hf
      exact absurd hf (fun h => by cases h)
    | succ n17 ih17 =>
      intro x1 t_levels t_levelArc t_levelNodes t_levelWeight ls H locs hf hl hP hD hS
      rw [L_Re_makeLevels_17] at hf
      have h39 : ∀ (n39 : Nat) (x1 : Int32) (x2 : Int32) (t_levels : Int32) (t_levelArc : Nat → Int32) (t_levelNodes : Nat → Int32) (t_levelWeight : Nat → Int32) (ls : Array Slot) (H : Heap) (locs : List Loc), L_Re_makeLevels_39 t_nodes t_arcs (L_Re_makeLevels_17 t_nodes t_kinds t_arcs t_levelIn t_weight n17) n39 x1 x2 t_levels t_levelArc t_levelNodes t_levelWeight = some out → lv_has ls 3 [(0, .ref a_t), (1, .int x1), (2, .int x2)] → va_P (dC, dI) clsL (wd_Re_makeLevels cI cZ a_t a_t_arcs a_t_levelArc a_t_levelIn a_t_levelNodes a_t_levelWeight a_t_weight a_t_split a_t_least a_t_most a_t_row a_t_isFree a_t_best a_t_above a_t_ordered a_t_parts t_nodes t_kinds t_levels t_size t_base t_arcs t_levelArc t_levelIn t_levelNodes t_levelWeight t_weight) H → va_D A (wd_Re_makeLevels cI cZ a_t a_t_arcs a_t_levelArc a_t_levelIn a_t_levelNodes a_t_levelWeight a_t_weight a_t_split a_t_least a_t_most a_t_row a_t_isFree a_t_best a_t_above a_t_ordered a_t_parts t_nodes t_kinds t_levels t_size t_base t_arcs t_levelArc t_levelIn t_levelNodes t_levelWeight t_weight) → va_S A s.heap H locs → W p l e (headSpec wq_Re_makeLevels ({ frames := 2, cells := 0, slots := 0, locals := 59 })).room s m ([.ref a_t] : List Value).toArray below meth c H locs 0 0 (MQ below (va_Qv (fun _ : Unit => True) (fun _ => pst (dC, dI) A (wd_Re_makeLevels cI cZ a_t a_t_arcs a_t_levelArc a_t_levelIn a_t_levelNodes a_t_levelWeight a_t_weight a_t_split a_t_least a_t_most a_t_row a_t_isFree a_t_best a_t_above a_t_ordered a_t_parts t_nodes t_kinds out.1 t_size t_base t_arcs out.2.1 out.2.2.1 out.2.2.2.1 out.2.2.2.2 t_weight)) A) ([.ref a_t] : List Value).toArray s 0 0 A) (F0 m 39 ls []) := by
        intro n39
        induction n39 with
        | zero =>
          intro x1 x2 t_levels t_levelArc t_levelNodes t_levelWeight ls H locs hf
          rw [L_Re_makeLevels_39] at hf
          exact absurd hf (fun h => by cases h)
        | succ n39 ih39 =>
          intro x1 x2 t_levels t_levelArc t_levelNodes t_levelWeight ls H locs hf hl hP hD hS
          rw [L_Re_makeLevels_39] at hf
          refine lv_iload_n hx hb dd_Re_makeLevels_39 rfl (lv_at hl 2 rfl) ?_
          refine lv_aload_n hx hb dd_Re_makeLevels_40 rfl (lv_at hl 0 rfl) ?_
          refine va_get (D := (dC, dI)) (ci := 9) (v := .int t_nodes) (C := rr_Re) (T := tt_Re) (N := 20) hx hb hts (fun w h => gwc (inn_Re w h)) hown hK hP 0 rfl rfl 0 (by decide) (hts _ (gwc gw_703)) (fun _ h9 => h9) rfl dd_Re_makeLevels_41 ?_
          refine lv_icmp_ge (tgt := 75) hx hb dd_Re_makeLevels_44 (by decide) (fun cc => ?_) (fun cc => ?_)
          · skip
            have hf := if_t cc hf
            refine lv_iinc (v := x1 + 1) (lv' := [(1, .int (x1 + 1)), (0, .ref a_t), (2, .int x2)]) hx hb dd_Re_makeLevels_75 hl (k := 1) rfl rfl (by decide) rfl (fun ls hl => ?_)
            refine lv_goto (tgt := 17) hx hb dd_Re_makeLevels_78 (by decide) ?_
            exact ih17 (x1 + 1) t_levels t_levelArc t_levelNodes t_levelWeight _ _ _ hf (lv_sub hl [1, 0] rfl) hP hD hS
          · skip
            have hf := if_f cc hf
            refine lv_aload_n hx hb dd_Re_makeLevels_47 rfl (lv_at hl 0 rfl) ?_
            refine va_get (D := (dC, dI)) (ci := 9) (v := .ref a_t_levelArc) (C := rr_Re) (T := tt_Re) (N := 20) hx hb hts (fun w h => gwc (inn_Re w h)) hown hK hP 0 rfl rfl 10 (by decide) (hts _ (gwc gw_713)) (fun _ h9 => h9) rfl dd_Re_makeLevels_48 ?_
            refine lv_bipush (v := 40) hx hb dd_Re_makeLevels_51 (by decide) ?_
            refine lv_iload_n hx hb dd_Re_makeLevels_53 rfl (lv_at hl 1 rfl) ?_
            refine lv_imul hx hb dd_Re_makeLevels_54 ?_
            refine lv_iload_n hx hb dd_Re_makeLevels_55 rfl (lv_at hl 2 rfl) ?_
            refine lv_iadd hx hb dd_Re_makeLevels_56 ?_
            refine lv_aload_n hx hb dd_Re_makeLevels_57 rfl (lv_at hl 0 rfl) ?_
            refine va_get (D := (dC, dI)) (ci := 9) (v := .ref a_t_arcs) (C := rr_Re) (T := tt_Re) (N := 20) hx hb hts (fun w h => gwc (inn_Re w h)) hown hK hP 0 rfl rfl 3 (by decide) (hts _ (gwc gw_706)) (fun _ h9 => h9) rfl dd_Re_makeLevels_58 ?_
            refine lv_bipush (v := 40) hx hb dd_Re_makeLevels_61 (by decide) ?_
            refine lv_iload_n hx hb dd_Re_makeLevels_63 rfl (lv_at hl 1 rfl) ?_
            refine lv_imul hx hb dd_Re_makeLevels_64 ?_
            refine lv_iload_n hx hb dd_Re_makeLevels_65 rfl (lv_at hl 2 rfl) ?_
            refine lv_iadd hx hb dd_Re_makeLevels_66 ?_
            obtain ⟨k67, hf⟩ := ck_some hf
            refine va_iald hx hb hK hP 1 0 rfl rfl (okb_in k67) dd_Re_makeLevels_67 ?_
            obtain ⟨k68, hf⟩ := ck_some hf
            refine va_iast hx hb hK hP hD hS 2 0 rfl rfl (okb_in k68) dd_Re_makeLevels_68 (fun H locs hP hD hS => ?_)
            have hP : va_P (dC, dI) clsL (wd_Re_makeLevels cI cZ a_t a_t_arcs a_t_levelArc a_t_levelIn a_t_levelNodes a_t_levelWeight a_t_weight a_t_split a_t_least a_t_most a_t_row a_t_isFree a_t_best a_t_above a_t_ordered a_t_parts t_nodes t_kinds t_levels t_size t_base t_arcs (upd t_levelArc ((40 * x1) + x2).toNatClampNeg (t_arcs ((40 * x1) + x2).toNatClampNeg)) t_levelIn t_levelNodes t_levelWeight t_weight) H := hP
            have hD : va_D A (wd_Re_makeLevels cI cZ a_t a_t_arcs a_t_levelArc a_t_levelIn a_t_levelNodes a_t_levelWeight a_t_weight a_t_split a_t_least a_t_most a_t_row a_t_isFree a_t_best a_t_above a_t_ordered a_t_parts t_nodes t_kinds t_levels t_size t_base t_arcs (upd t_levelArc ((40 * x1) + x2).toNatClampNeg (t_arcs ((40 * x1) + x2).toNatClampNeg)) t_levelIn t_levelNodes t_levelWeight t_weight) := hD
            refine lv_iinc (v := x2 + 1) (lv' := [(2, .int (x2 + 1)), (0, .ref a_t), (1, .int x1)]) hx hb dd_Re_makeLevels_69 hl (k := 2) rfl rfl (by decide) rfl (fun ls hl => ?_)
            refine lv_goto (tgt := 39) hx hb dd_Re_makeLevels_72 (by decide) ?_
            exact ih39 x1 (x2 + 1) t_levels (upd t_levelArc ((40 * x1) + x2).toNatClampNeg (t_arcs ((40 * x1) + x2).toNatClampNeg)) t_levelNodes t_levelWeight _ _ _ hf (lv_sub hl [1, 2, 0] rfl) hP hD hS
      have h81 : ∀ (t_levels : Int32) (t_levelArc : Nat → Int32) (t_levelNodes : Nat → Int32) (t_levelWeight : Nat → Int32) (ls : Array Slot) (H : Heap) (locs : List Loc), J_Re_makeLevels_81 t_nodes t_kinds t_levelIn t_levels t_levelArc t_levelNodes t_levelWeight = some out → lv_has ls 3 [(0, .ref a_t)] → va_P (dC, dI) clsL (wd_Re_makeLevels cI cZ a_t a_t_arcs a_t_levelArc a_t_levelIn a_t_levelNodes a_t_levelWeight a_t_weight a_t_split a_t_least a_t_most a_t_row a_t_isFree a_t_best a_t_above a_t_ordered a_t_parts t_nodes t_kinds t_levels t_size t_base t_arcs t_levelArc t_levelIn t_levelNodes t_levelWeight t_weight) H → va_D A (wd_Re_makeLevels cI cZ a_t a_t_arcs a_t_levelArc a_t_levelIn a_t_levelNodes a_t_levelWeight a_t_weight a_t_split a_t_least a_t_most a_t_row a_t_isFree a_t_best a_t_above a_t_ordered a_t_parts t_nodes t_kinds t_levels t_size t_base t_arcs t_levelArc t_levelIn t_levelNodes t_levelWeight t_weight) → va_S A s.heap H locs → W p l e (headSpec wq_Re_makeLevels ({ frames := 2, cells := 0, slots := 0, locals := 59 })).room s m ([.ref a_t] : List Value).toArray below meth c H locs 0 0 (MQ below (va_Qv (fun _ : Unit => True) (fun _ => pst (dC, dI) A (wd_Re_makeLevels cI cZ a_t a_t_arcs a_t_levelArc a_t_levelIn a_t_levelNodes a_t_levelWeight a_t_weight a_t_split a_t_least a_t_most a_t_row a_t_isFree a_t_best a_t_above a_t_ordered a_t_parts t_nodes t_kinds out.1 t_size t_base t_arcs out.2.1 out.2.2.1 out.2.2.2.1 out.2.2.2.2 t_weight)) A) ([.ref a_t] : List Value).toArray s 0 0 A) (F0 m 81 ls []) := by
        intro t_levels t_levelArc t_levelNodes t_levelWeight ls H locs hf hl hP hD hS
        unfold J_Re_makeLevels_81 at hf
        have h96 : ∀ (n96 : Nat) (x1 : Int32) (t_levels : Int32) (t_levelArc : Nat → Int32) (t_levelIn : Nat → Int32) (t_levelNodes : Nat → Int32) (t_levelWeight : Nat → Int32) (ls : Array Slot) (H : Heap) (locs : List Loc), L_Re_makeLevels_96 t_kinds n96 x1 t_levels t_levelArc t_levelIn t_levelNodes t_levelWeight = some out → lv_has ls 3 [(0, .ref a_t), (1, .int x1)] → va_P (dC, dI) clsL (wd_Re_makeLevels cI cZ a_t a_t_arcs a_t_levelArc a_t_levelIn a_t_levelNodes a_t_levelWeight a_t_weight a_t_split a_t_least a_t_most a_t_row a_t_isFree a_t_best a_t_above a_t_ordered a_t_parts t_nodes t_kinds t_levels t_size t_base t_arcs t_levelArc t_levelIn t_levelNodes t_levelWeight t_weight) H → va_D A (wd_Re_makeLevels cI cZ a_t a_t_arcs a_t_levelArc a_t_levelIn a_t_levelNodes a_t_levelWeight a_t_weight a_t_split a_t_least a_t_most a_t_row a_t_isFree a_t_best a_t_above a_t_ordered a_t_parts t_nodes t_kinds t_levels t_size t_base t_arcs t_levelArc t_levelIn t_levelNodes t_levelWeight t_weight) → va_S A s.heap H locs → W p l e (headSpec wq_Re_makeLevels ({ frames := 2, cells := 0, slots := 0, locals := 59 })).room s m ([.ref a_t] : List Value).toArray below meth c H locs 0 0 (MQ below (va_Qv (fun _ : Unit => True) (fun _ => pst (dC, dI) A (wd_Re_makeLevels cI cZ a_t a_t_arcs a_t_levelArc a_t_levelIn a_t_levelNodes a_t_levelWeight a_t_weight a_t_split a_t_least a_t_most a_t_row a_t_isFree a_t_best a_t_above a_t_ordered a_t_parts t_nodes t_kinds out.1 t_size t_base t_arcs out.2.1 out.2.2.1 out.2.2.2.1 out.2.2.2.2 t_weight)) A) ([.ref a_t] : List Value).toArray s 0 0 A) (F0 m 96 ls []) := by
          intro n96
          induction n96 with
          | zero =>
            intro x1 t_levels t_levelArc t_levelIn t_levelNodes t_levelWeight ls H locs hf
            rw [L_Re_makeLevels_96] at hf
            exact absurd hf (fun h => by cases h)
          | succ n96 ih96 =>
            intro x1 t_levels t_levelArc t_levelIn t_levelNodes t_levelWeight ls H locs hf hl hP hD hS
            rw [L_Re_makeLevels_96] at hf
            refine lv_iload_n hx hb dd_Re_makeLevels_96 rfl (lv_at hl 1 rfl) ?_
            refine lv_if_eq (tgt := 138) hx hb dd_Re_makeLevels_97 (by decide) (fun cc => ?_) (fun cc => ?_)
            · skip
              have hf := if_t cc hf
              have hf := Option.some.inj hf
              subst hf
              exact W.vret hx hb hr (fun t ht hW => ⟨⟨(), rfl, trivial, pst_of ht hP hD⟩, hS.F ht⟩) hS.2.2 dd_Re_makeLevels_138
            · skip
              have hf := if_f cc hf
              refine lv_aload_n hx hb dd_Re_makeLevels_100 rfl (lv_at hl 0 rfl) ?_
              refine lv_aload_n hx hb dd_Re_makeLevels_101 rfl (lv_at hl 0 rfl) ?_
              refine va_get (D := (dC, dI)) (ci := 9) (v := .int t_levels) (C := rr_Re) (T := tt_Re) (N := 20) hx hb hts (fun w h => gwc (inn_Re w h)) hown hK hP 0 rfl rfl 7 (by decide) (hts _ (gwc gw_710)) (fun _ h9 => h9) rfl dd_Re_makeLevels_102 ?_
              refine lv_iconst (v := 1) hx hb dd_Re_makeLevels_105 (by decide) ?_
              refine lv_isub hx hb dd_Re_makeLevels_106 ?_
              obtain ⟨r107, hr107, hf⟩ := bind_some hf
              refine xcalli (rest := []) (wc := (wd_Re_next cI cZ a_t a_t_levelArc a_t_levelIn a_t_levelNodes a_t_levelWeight a_t_weight a_t_arcs a_t_split a_t_least a_t_most a_t_row a_t_isFree a_t_best a_t_above a_t_ordered a_t_parts t_nodes t_kinds t_levels t_size t_base t_levelArc t_levelIn t_levelNodes t_levelWeight)) (w1 := (wd_Re_next cI cZ a_t a_t_levelArc a_t_levelIn a_t_levelNodes a_t_levelWeight a_t_weight a_t_arcs a_t_split a_t_least a_t_most a_t_row a_t_isFree a_t_best a_t_above a_t_ordered a_t_parts t_nodes t_kinds r107.2.1 t_size t_base r107.2.2.1 r107.2.2.2.1 r107.2.2.2.2.1 r107.2.2.2.2.2)) (wr := [(a_t_arcs, .inl (cI, 1600, .inl t_arcs)), (a_t_weight, .inl (cI, 40, .inl t_weight))]) (ws' := (wd_Re_makeLevels cI cZ a_t a_t_arcs a_t_levelArc a_t_levelIn a_t_levelNodes a_t_levelWeight a_t_weight a_t_split a_t_least a_t_most a_t_row a_t_isFree a_t_best a_t_above a_t_ordered a_t_parts t_nodes t_kinds r107.2.1 t_size t_base t_arcs r107.2.2.1 r107.2.2.2.1 r107.2.2.2.2.1 r107.2.2.2.2.2 t_weight)) (va_runV (As := [.int (t_levels - 1)]) ⟨hx, hb, hml, hown, hts⟩ (c_Re_next l dC dI cI cZ a_t a_t_levelArc a_t_levelIn a_t_levelNodes a_t_levelWeight a_t_weight a_t_arcs a_t_split a_t_least a_t_most a_t_row a_t_isFree a_t_best a_t_above a_t_ordered a_t_parts H.size (t_levels - 1) t_nodes t_kinds t_levels t_size t_base t_levelArc t_levelIn t_levelNodes t_levelWeight r107 hr107) (cwV 1 hts (gV gw_800 gw_802 gw_32 gw_61 gw_803) rfl rfl rfl (yd_Re_next) ⟨Nat.le_of_ble_eq_true rfl, Nat.le_of_ble_eq_true rfl⟩) (mkV hK (hP.sub (ws' := (wd_Re_next cI cZ a_t a_t_levelArc a_t_levelIn a_t_levelNodes a_t_levelWeight a_t_weight a_t_arcs a_t_split a_t_least a_t_most a_t_row a_t_isFree a_t_best a_t_above a_t_ordered a_t_parts t_nodes t_kinds t_levels t_size t_base t_levelArc t_levelIn t_levelNodes t_levelWeight)) [0, 2, 3, 4, 5] rfl) (hD.sub (ws' := (wd_Re_next cI cZ a_t a_t_levelArc a_t_levelIn a_t_levelNodes a_t_levelWeight a_t_weight a_t_arcs a_t_split a_t_least a_t_most a_t_row a_t_isFree a_t_best a_t_above a_t_ordered a_t_parts t_nodes t_kinds t_levels t_size t_base t_levelArc t_levelIn t_levelNodes t_levelWeight)) [0, 2, 3, 4, 5] (by decide) rfl) hN (va_recv hK hP (ci := 9) (q0 := 0) rfl rfl)) rfl rfl hl.1 rfl (lv_room (Nat.le_of_ble_eq_true rfl)) dd_Re_makeLevels_107 ⟨Nat.zero_le _, Nat.zero_le _⟩) hP hD hS hA [0, 2, 3, 4, 5] [1, 6] [2, 0, 3, 4, 5, 6, 1] rfl rfl (by decide) (by decide) rfl (by decide) rfl (fun H locs hP hD hS => ?_)
              refine lv_if_eq (tgt := 133) hx hb dd_Re_makeLevels_110 (by decide) (fun cc => ?_) (fun cc => ?_)
              · skip
                have hf := if_t cc hf
                refine lv_iconst (v := 0) hx hb dd_Re_makeLevels_133 (by decide) ?_
                refine lv_istore_n (lv' := [(1, .int 0), (0, .ref a_t)]) hx hb dd_Re_makeLevels_134 rfl hl (by decide) rfl (fun ls hl => ?_)
                refine lv_goto (tgt := 96) hx hb dd_Re_makeLevels_135 (by decide) ?_
                exact ih96 0 r107.2.1 r107.2.2.1 r107.2.2.2.1 r107.2.2.2.2.1 r107.2.2.2.2.2 _ _ _ hf (lv_sub hl [1, 0] rfl) hP hD hS
              · skip
                have hf := if_f cc hf
                refine lv_aload_n hx hb dd_Re_makeLevels_113 rfl (lv_at hl 0 rfl) ?_
                refine va_get (D := (dC, dI)) (ci := 9) (v := .ref a_t_levelNodes) (C := rr_Re) (T := tt_Re) (N := 20) hx hb hts (fun w h => gwc (inn_Re w h)) hown hK hP 0 rfl rfl 8 (by decide) (hts _ (gwc gw_711)) (fun _ h9 => h9) rfl dd_Re_makeLevels_114 ?_
                refine lv_aload_n hx hb dd_Re_makeLevels_117 rfl (lv_at hl 0 rfl) ?_
                refine va_get (D := (dC, dI)) (ci := 9) (v := .int r107.2.1) (C := rr_Re) (T := tt_Re) (N := 20) hx hb hts (fun w h => gwc (inn_Re w h)) hown hK hP 0 rfl rfl 7 (by decide) (hts _ (gwc gw_710)) (fun _ h9 => h9) rfl dd_Re_makeLevels_118 ?_
                refine lv_iconst (v := 1) hx hb dd_Re_makeLevels_121 (by decide) ?_
                refine lv_isub hx hb dd_Re_makeLevels_122 ?_
                obtain ⟨k123, hf⟩ := ck_some hf
                refine va_iald hx hb hK hP 4 0 rfl rfl (okb_in k123) dd_Re_makeLevels_123 ?_
                refine lv_bipush (v := 6) hx hb dd_Re_makeLevels_124 (by decide) ?_
                refine lv_icmp_le (tgt := 133) hx hb dd_Re_makeLevels_126 (by decide) (fun cc => ?_) (fun cc => ?_)
                · skip
                  have hf := if_t cc hf
                  refine lv_iconst (v := 0) hx hb dd_Re_makeLevels_133 (by decide) ?_
                  refine lv_istore_n (lv' := [(1, .int 0), (0, .ref a_t)]) hx hb dd_Re_makeLevels_134 rfl hl (by decide) rfl (fun ls hl => ?_)
                  refine lv_goto (tgt := 96) hx hb dd_Re_makeLevels_135 (by decide) ?_
                  exact ih96 0 r107.2.1 r107.2.2.1 r107.2.2.2.1 r107.2.2.2.2.1 r107.2.2.2.2.2 _ _ _ hf (lv_sub hl [1, 0] rfl) hP hD hS
                · skip
                  have hf := if_f cc hf
                  refine lv_iconst (v := 1) hx hb dd_Re_makeLevels_129 (by decide) ?_
                  refine lv_goto (tgt := 134) hx hb dd_Re_makeLevels_130 (by decide) ?_
                  refine lv_istore_n (lv' := [(1, .int 1), (0, .ref a_t)]) hx hb dd_Re_makeLevels_134 rfl hl (by decide) rfl (fun ls hl => ?_)
                  refine lv_goto (tgt := 96) hx hb dd_Re_makeLevels_135 (by decide) ?_
                  exact ih96 1 r107.2.1 r107.2.2.1 r107.2.2.2.1 r107.2.2.2.2.1 r107.2.2.2.2.2 _ _ _ hf (lv_sub hl [1, 0] rfl) hP hD hS
        refine lv_aload_n hx hb dd_Re_makeLevels_81 rfl (lv_at hl 0 rfl) ?_
        refine va_get (D := (dC, dI)) (ci := 9) (v := .int t_nodes) (C := rr_Re) (T := tt_Re) (N := 20) hx hb hts (fun w h => gwc (inn_Re w h)) hown hK hP 0 rfl rfl 0 (by decide) (hts _ (gwc gw_703)) (fun _ h9 => h9) rfl dd_Re_makeLevels_82 ?_
        refine lv_bipush (v := 6) hx hb dd_Re_makeLevels_85 (by decide) ?_
        refine lv_icmp_le (tgt := 94) hx hb dd_Re_makeLevels_87 (by decide) (fun cc => ?_) (fun cc => ?_)
        · skip
          have hf := if_t cc hf
          refine lv_iconst (v := 0) hx hb dd_Re_makeLevels_94 (by decide) ?_
          refine lv_istore_n (lv' := [(1, .int 0), (0, .ref a_t)]) hx hb dd_Re_makeLevels_95 rfl hl (by decide) rfl (fun ls hl => ?_)
          exact h96 64 0 t_levels t_levelArc t_levelIn t_levelNodes t_levelWeight _ _ _ hf (lv_sub hl [1, 0] rfl) hP hD hS
        · skip
          have hf := if_f cc hf
          refine lv_iconst (v := 1) hx hb dd_Re_makeLevels_90 (by decide) ?_
          refine lv_goto (tgt := 95) hx hb dd_Re_makeLevels_91 (by decide) ?_
          refine lv_istore_n (lv' := [(1, .int 1), (0, .ref a_t)]) hx hb dd_Re_makeLevels_95 rfl hl (by decide) rfl (fun ls hl => ?_)
          exact h96 64 1 t_levels t_levelArc t_levelIn t_levelNodes t_levelWeight _ _ _ hf (lv_sub hl [1, 0] rfl) hP hD hS
      refine lv_iload_n hx hb dd_Re_makeLevels_17 rfl (lv_at hl 1 rfl) ?_
      refine lv_aload_n hx hb dd_Re_makeLevels_18 rfl (lv_at hl 0 rfl) ?_
      refine va_get (D := (dC, dI)) (ci := 9) (v := .int t_nodes) (C := rr_Re) (T := tt_Re) (N := 20) hx hb hts (fun w h => gwc (inn_Re w h)) hown hK hP 0 rfl rfl 0 (by decide) (hts _ (gwc gw_703)) (fun _ h9 => h9) rfl dd_Re_makeLevels_19 ?_
      refine lv_icmp_ge (tgt := 81) hx hb dd_Re_makeLevels_22 (by decide) (fun cc => ?_) (fun cc => ?_)
      · skip
        have hf := if_t cc hf
        exact h81 t_levels t_levelArc t_levelNodes t_levelWeight _ _ _ hf (lv_sub hl [0] rfl) hP hD hS
      · skip
        have hf := if_f cc hf
        refine lv_aload_n hx hb dd_Re_makeLevels_25 rfl (lv_at hl 0 rfl) ?_
        refine va_get (D := (dC, dI)) (ci := 9) (v := .ref a_t_levelWeight) (C := rr_Re) (T := tt_Re) (N := 20) hx hb hts (fun w h => gwc (inn_Re w h)) hown hK hP 0 rfl rfl 9 (by decide) (hts _ (gwc gw_712)) (fun _ h9 => h9) rfl dd_Re_makeLevels_26 ?_
        refine lv_iload_n hx hb dd_Re_makeLevels_29 rfl (lv_at hl 1 rfl) ?_
        refine lv_aload_n hx hb dd_Re_makeLevels_30 rfl (lv_at hl 0 rfl) ?_
        refine va_get (D := (dC, dI)) (ci := 9) (v := .ref a_t_weight) (C := rr_Re) (T := tt_Re) (N := 20) hx hb hts (fun w h => gwc (inn_Re w h)) hown hK hP 0 rfl rfl 2 (by decide) (hts _ (gwc gw_705)) (fun _ h9 => h9) rfl dd_Re_makeLevels_31 ?_
        refine lv_iload_n hx hb dd_Re_makeLevels_34 rfl (lv_at hl 1 rfl) ?_
        obtain ⟨k35, hf⟩ := ck_some hf
        refine va_iald hx hb hK hP 6 0 rfl rfl (okb_in k35) dd_Re_makeLevels_35 ?_
        obtain ⟨k36, hf⟩ := ck_some hf
        refine va_iast hx hb hK hP hD hS 5 0 rfl rfl (okb_in k36) dd_Re_makeLevels_36 (fun H locs hP hD hS => ?_)
        have hP : va_P (dC, dI) clsL (wd_Re_makeLevels cI cZ a_t a_t_arcs a_t_levelArc a_t_levelIn a_t_levelNodes a_t_levelWeight a_t_weight a_t_split a_t_least a_t_most a_t_row a_t_isFree a_t_best a_t_above a_t_ordered a_t_parts t_nodes t_kinds t_levels t_size t_base t_arcs t_levelArc t_levelIn t_levelNodes (upd t_levelWeight (x1).toNatClampNeg (t_weight (x1).toNatClampNeg)) t_weight) H := hP
        have hD : va_D A (wd_Re_makeLevels cI cZ a_t a_t_arcs a_t_levelArc a_t_levelIn a_t_levelNodes a_t_levelWeight a_t_weight a_t_split a_t_least a_t_most a_t_row a_t_isFree a_t_best a_t_above a_t_ordered a_t_parts t_nodes t_kinds t_levels t_size t_base t_arcs t_levelArc t_levelIn t_levelNodes (upd t_levelWeight (x1).toNatClampNeg (t_weight (x1).toNatClampNeg)) t_weight) := hD
        refine lv_iconst (v := 0) hx hb dd_Re_makeLevels_37 (by decide) ?_
        refine lv_istore_n (lv' := [(2, .int 0), (0, .ref a_t), (1, .int x1)]) hx hb dd_Re_makeLevels_38 rfl hl (by decide) rfl (fun ls hl => ?_)
        exact h39 64 x1 0 t_levels t_levelArc t_levelNodes (upd t_levelWeight (x1).toNatClampNeg (t_weight (x1).toNatClampNeg)) _ _ _ hf (lv_sub hl [1, 2, 0] rfl) hP hD hS
  refine lv_aload_n hx hb dd_Re_makeLevels_0 rfl (lv_at hl 0 rfl) ?_
  refine lv_iconst (v := 1) hx hb dd_Re_makeLevels_1 (by decide) ?_
  refine va_put (D := (dC, dI)) (ci := 9) (v := .int 1) (ty := .int) (C := rr_Re) (T := tt_Re) (N := 20) hx hb hts (fun w h => gwc (inn_Re w h)) tf_Re to_Re tn_Re hown hK hP hD hS 0 rfl rfl 7 (by decide) (hts _ (gwc gw_710)) (fun _ h9 => h9) rfl (by decide +kernel) rfl rfl (Nat.le_of_ble_eq_true rfl) dd_Re_makeLevels_2 (fun H locs hP hD hS => ?_)
  have hP : va_P (dC, dI) clsL (wd_Re_makeLevels cI cZ a_t a_t_arcs a_t_levelArc a_t_levelIn a_t_levelNodes a_t_levelWeight a_t_weight a_t_split a_t_least a_t_most a_t_row a_t_isFree a_t_best a_t_above a_t_ordered a_t_parts t_nodes t_kinds 1 t_size t_base t_arcs t_levelArc t_levelIn t_levelNodes t_levelWeight t_weight) H := hP
  have hD : va_D A (wd_Re_makeLevels cI cZ a_t a_t_arcs a_t_levelArc a_t_levelIn a_t_levelNodes a_t_levelWeight a_t_weight a_t_split a_t_least a_t_most a_t_row a_t_isFree a_t_best a_t_above a_t_ordered a_t_parts t_nodes t_kinds 1 t_size t_base t_arcs t_levelArc t_levelIn t_levelNodes t_levelWeight t_weight) := hD
  refine lv_aload_n hx hb dd_Re_makeLevels_5 rfl (lv_at hl 0 rfl) ?_
  refine va_get (D := (dC, dI)) (ci := 9) (v := .ref a_t_levelNodes) (C := rr_Re) (T := tt_Re) (N := 20) hx hb hts (fun w h => gwc (inn_Re w h)) hown hK hP 0 rfl rfl 8 (by decide) (hts _ (gwc gw_711)) (fun _ h9 => h9) rfl dd_Re_makeLevels_6 ?_
  refine lv_iconst (v := 0) hx hb dd_Re_makeLevels_9 (by decide) ?_
  refine lv_aload_n hx hb dd_Re_makeLevels_10 rfl (lv_at hl 0 rfl) ?_
  refine va_get (D := (dC, dI)) (ci := 9) (v := .int t_nodes) (C := rr_Re) (T := tt_Re) (N := 20) hx hb hts (fun w h => gwc (inn_Re w h)) hown hK hP 0 rfl rfl 0 (by decide) (hts _ (gwc gw_703)) (fun _ h9 => h9) rfl dd_Re_makeLevels_11 ?_
  obtain ⟨k14, hf⟩ := ck_some hf
  refine va_iast hx hb hK hP hD hS 4 0 rfl rfl (okb_in k14) dd_Re_makeLevels_14 (fun H locs hP hD hS => ?_)
  have hP : va_P (dC, dI) clsL (wd_Re_makeLevels cI cZ a_t a_t_arcs a_t_levelArc a_t_levelIn a_t_levelNodes a_t_levelWeight a_t_weight a_t_split a_t_least a_t_most a_t_row a_t_isFree a_t_best a_t_above a_t_ordered a_t_parts t_nodes t_kinds 1 t_size t_base t_arcs t_levelArc t_levelIn (upd t_levelNodes (0 : Int32).toNatClampNeg t_nodes) t_levelWeight t_weight) H := hP
  have hD : va_D A (wd_Re_makeLevels cI cZ a_t a_t_arcs a_t_levelArc a_t_levelIn a_t_levelNodes a_t_levelWeight a_t_weight a_t_split a_t_least a_t_most a_t_row a_t_isFree a_t_best a_t_above a_t_ordered a_t_parts t_nodes t_kinds 1 t_size t_base t_arcs t_levelArc t_levelIn (upd t_levelNodes (0 : Int32).toNatClampNeg t_nodes) t_levelWeight t_weight) := hD
  refine lv_iconst (v := 0) hx hb dd_Re_makeLevels_15 (by decide) ?_
  refine lv_istore_n (lv' := [(1, .int 0), (0, .ref a_t)]) hx hb dd_Re_makeLevels_16 rfl hl (by decide) rfl (fun ls hl => ?_)
  exact h17 64 0 1 t_levelArc (upd t_levelNodes (0 : Int32).toNatClampNeg t_nodes) t_levelWeight _ _ _ hf (lv_sub hl [1, 0] rfl) hP hD hS
abbrev wd_Re_level (cI cZ : ClassId) (a_t a_t_arcs a_t_levelArc a_t_levelIn a_t_levelNodes a_t_levelWeight a_t_weight a_t_split a_t_least a_t_most a_t_row a_t_isFree a_t_best a_t_above a_t_ordered a_t_parts : Nat) (t_nodes : Int32) (t_kinds : Int32) (t_levels : Int32) (t_size : Int32) (t_base : Int32) (t_arcs : Nat → Int32) (t_levelArc : Nat → Int32) (t_levelIn : Nat → Int32) (t_levelNodes : Nat → Int32) (t_levelWeight : Nat → Int32) (t_weight : Nat → Int32) : va_W := [(a_t, .inr (9, [.int t_nodes, .int t_kinds, .ref a_t_weight, .ref a_t_arcs, .ref a_t_split, .ref a_t_least, .ref a_t_most, .int t_levels, .ref a_t_levelNodes, .ref a_t_levelWeight, .ref a_t_levelArc, .ref a_t_levelIn, .int t_size, .int t_base, .ref a_t_row, .ref a_t_isFree, .ref a_t_best, .ref a_t_above, .ref a_t_ordered, .ref a_t_parts])), (a_t_arcs, .inl (cI, 1600, .inl t_arcs)), (a_t_levelArc, .inl (cI, 65600, .inl t_levelArc)), (a_t_levelIn, .inl (cI, 1640, .inl t_levelIn)), (a_t_levelNodes, .inl (cI, 41, .inl t_levelNodes)), (a_t_levelWeight, .inl (cI, 1640, .inl t_levelWeight)), (a_t_weight, .inl (cI, 40, .inl t_weight))]
set_option maxRecDepth 100000 in
set_option maxHeartbeats 4000000 in
theorem c_Re_level (l : Launch) (dC : Nat → ClassId) (dI : Nat → Nat → Nat) (cI cZ : ClassId) (a_t a_t_arcs a_t_levelArc a_t_levelIn a_t_levelNodes a_t_levelWeight a_t_weight a_t_split a_t_least a_t_most a_t_row a_t_isFree a_t_best a_t_above a_t_ordered a_t_parts sz : Nat) (x1 : Int32) (x2 : Int32) (t_nodes : Int32) (t_kinds : Int32) (t_levels : Int32) (t_size : Int32) (t_base : Int32) (t_arcs : Nat → Int32) (t_levelArc : Nat → Int32) (t_levelIn : Nat → Int32) (t_levelNodes : Nat → Int32) (t_levelWeight : Nat → Int32) (t_weight : Nat → Int32) (out : Int32 × Int32 × (Nat → Int32) × (Nat → Int32) × (Nat → Int32) × (Nat → Int32)) (hf : f_Re_level x1 x2 t_nodes t_kinds t_levels t_arcs t_levelArc t_levelIn t_levelNodes t_levelWeight t_weight = some out) :
    Met l yy_Re_level wq_Re_level ({ frames := 3, cells := 0, slots := 0, locals := 81 }) (va_Pc ([.ref a_t, .int x1, .int x2] : List Value) (pre_ (dC, dI) cI cZ sz (wd_Re_level cI cZ a_t a_t_arcs a_t_levelArc a_t_levelIn a_t_levelNodes a_t_levelWeight a_t_weight a_t_split a_t_least a_t_most a_t_row a_t_isFree a_t_best a_t_above a_t_ordered a_t_parts t_nodes t_kinds t_levels t_size t_base t_arcs t_levelArc t_levelIn t_levelNodes t_levelWeight t_weight))) (va_Qi (fun (r : Int32) (_ : Unit) => r = out.1) (fun _ => pst (dC, dI) (va_A (wd_Re_level cI cZ a_t a_t_arcs a_t_levelArc a_t_levelIn a_t_levelNodes a_t_levelWeight a_t_weight a_t_split a_t_least a_t_most a_t_row a_t_isFree a_t_best a_t_above a_t_ordered a_t_parts t_nodes t_kinds t_levels t_size t_base t_arcs t_levelArc t_levelIn t_levelNodes t_levelWeight t_weight) sz) (wd_Re_level cI cZ a_t a_t_arcs a_t_levelArc a_t_levelIn a_t_levelNodes a_t_levelWeight a_t_weight a_t_split a_t_least a_t_most a_t_row a_t_isFree a_t_best a_t_above a_t_ordered a_t_parts t_nodes t_kinds out.2.1 t_size t_base t_arcs out.2.2.1 out.2.2.2.1 out.2.2.2.2.1 out.2.2.2.2.2 t_weight)) (va_A (wd_Re_level cI cZ a_t a_t_arcs a_t_levelArc a_t_levelIn a_t_levelNodes a_t_levelWeight a_t_weight a_t_split a_t_least a_t_most a_t_row a_t_isFree a_t_best a_t_above a_t_ordered a_t_parts t_nodes t_kinds t_levels t_size t_base t_arcs t_levelArc t_levelIn t_levelNodes t_levelWeight t_weight) sz)) 0 0 (va_A (wd_Re_level cI cZ a_t a_t_arcs a_t_levelArc a_t_levelIn a_t_levelNodes a_t_levelWeight a_t_weight a_t_split a_t_least a_t_most a_t_row a_t_isFree a_t_best a_t_above a_t_ordered a_t_parts t_nodes t_kinds t_levels t_size t_base t_arcs t_levelArc t_levelIn t_levelNodes t_levelWeight t_weight) sz) := by
  refine Met.ofW (cc := cc_Re_level) (maxL := 7) (ret := (some .int)) (by decide) rfl ?_
  intro p e s m args below meth c s₁ B hml hv
  obtain ⟨rfl, hsz, hP, hK, hD0, hN⟩ := hv
  have hx := B.exec
  have hb := B.bytes
  have hr := B.returns
  have hts := atoms_spec (ws := wq_Re_level) B.pre
  have hown : s.vm.findClass rr_Re = some m.cls := findClass_of_methodNamed B.named
  have hlocks := B.notSynchronized
  subst hsz
  have hD := hD0.self (sz := s.heap.size)
  generalize hAe : va_A (wd_Re_level cI cZ a_t a_t_arcs a_t_levelArc a_t_levelIn a_t_levelNodes a_t_levelWeight a_t_weight a_t_split a_t_least a_t_most a_t_row a_t_isFree a_t_best a_t_above a_t_ordered a_t_parts t_nodes t_kinds t_levels t_size t_base t_arcs t_levelArc t_levelIn t_levelNodes t_levelWeight t_weight) s.heap.size = A at hD ⊢
  have hA : ∀ q : Nat, s.heap.size ≤ q → A q := fun q h => by rw [← hAe]; exact Or.inr h
  obtain ⟨H, hH⟩ : ∃ H : Heap, H = s.heap := ⟨_, rfl⟩
  have hS : va_S A s.heap H [] := by rw [hH]; exact va_S.rf
  have hl := lv_entry (([.ref a_t, .int x1, .int x2] : List Value)) (n := 7) (Nat.le_of_ble_eq_true rfl)
  rw [lg_entry_eq]
  generalize (lg_sl (([.ref a_t, .int x1, .int x2] : List Value)) ++ List.replicate (7 - (lg_sl (([.ref a_t, .int x1, .int x2] : List Value))).length) Slot.unset).toArray = ls at hl ⊢
  have hl : lv_has ls 7 [(0, .ref a_t), (1, .int x1), (2, .int x2)] := hl
  rw [← hH] at hP ⊢
  have hP : va_P (dC, dI) clsL (wd_Re_level cI cZ a_t a_t_arcs a_t_levelArc a_t_levelIn a_t_levelNodes a_t_levelWeight a_t_weight a_t_split a_t_least a_t_most a_t_row a_t_isFree a_t_best a_t_above a_t_ordered a_t_parts t_nodes t_kinds t_levels t_size t_base t_arcs t_levelArc t_levelIn t_levelNodes t_levelWeight t_weight) H := hP
  unfold f_Re_level at hf
  have h49 : ∀ (n49 : Nat) (x3 : Int32) (x4 : Int32) (t_levels : Int32) (t_levelArc : Nat → Int32) (t_levelIn : Nat → Int32) (t_levelNodes : Nat → Int32) (t_levelWeight : Nat → Int32) (ls : Array Slot) (H : Heap) (locs : List Loc), L_Re_level_49 x1 x2 n49 x3 x4 t_levels t_levelArc t_levelIn t_levelNodes t_levelWeight = some out → lv_has ls 7 [(0, .ref a_t), (1, .int x1), (2, .int x2), (3, .int x3), (4, .int x4)] → va_P (dC, dI) clsL (wd_Re_level cI cZ a_t a_t_arcs a_t_levelArc a_t_levelIn a_t_levelNodes a_t_levelWeight a_t_weight a_t_split a_t_least a_t_most a_t_row a_t_isFree a_t_best a_t_above a_t_ordered a_t_parts t_nodes t_kinds t_levels t_size t_base t_arcs t_levelArc t_levelIn t_levelNodes t_levelWeight t_weight) H → va_D A (wd_Re_level cI cZ a_t a_t_arcs a_t_levelArc a_t_levelIn a_t_levelNodes a_t_levelWeight a_t_weight a_t_split a_t_least a_t_most a_t_row a_t_isFree a_t_best a_t_above a_t_ordered a_t_parts t_nodes t_kinds t_levels t_size t_base t_arcs t_levelArc t_levelIn t_levelNodes t_levelWeight t_weight) → va_S A s.heap H locs → W p l e (headSpec wq_Re_level ({ frames := 3, cells := 0, slots := 0, locals := 81 })).room s m ([.ref a_t, .int x1, .int x2] : List Value).toArray below meth c H locs 0 0 (MQ below (va_Qi (fun (r : Int32) (_ : Unit) => r = out.1) (fun _ => pst (dC, dI) A (wd_Re_level cI cZ a_t a_t_arcs a_t_levelArc a_t_levelIn a_t_levelNodes a_t_levelWeight a_t_weight a_t_split a_t_least a_t_most a_t_row a_t_isFree a_t_best a_t_above a_t_ordered a_t_parts t_nodes t_kinds out.2.1 t_size t_base t_arcs out.2.2.1 out.2.2.2.1 out.2.2.2.2.1 out.2.2.2.2.2 t_weight)) A) ([.ref a_t, .int x1, .int x2] : List Value).toArray s 0 0 A) (F0 m 49 ls []) := by
    intro n49
    induction n49 with
    | zero =>
      intro x3 x4 t_levels t_levelArc t_levelIn t_levelNodes t_levelWeight ls H locs hf
      rw [L_Re_level_49] at hf
      exact absurd hf (fun h => by cases h)
    | succ n49 ih49 =>
      intro x3 x4 t_levels t_levelArc t_levelIn t_levelNodes t_levelWeight ls H locs hf hl hP hD hS
      rw [L_Re_level_49] at hf
      have h63 : ∀ (n63 : Nat) (x3 : Int32) (x4 : Int32) (x5 : Int32) (t_levels : Int32) (t_levelArc : Nat → Int32) (t_levelIn : Nat → Int32) (t_levelNodes : Nat → Int32) (t_levelWeight : Nat → Int32) (ls : Array Slot) (H : Heap) (locs : List Loc), L_Re_level_63 x1 x2 (L_Re_level_49 x1 x2 n49) n63 x3 x4 x5 t_levels t_levelArc t_levelIn t_levelNodes t_levelWeight = some out → lv_has ls 7 [(0, .ref a_t), (1, .int x1), (2, .int x2), (3, .int x3), (4, .int x4), (5, .int x5)] → va_P (dC, dI) clsL (wd_Re_level cI cZ a_t a_t_arcs a_t_levelArc a_t_levelIn a_t_levelNodes a_t_levelWeight a_t_weight a_t_split a_t_least a_t_most a_t_row a_t_isFree a_t_best a_t_above a_t_ordered a_t_parts t_nodes t_kinds t_levels t_size t_base t_arcs t_levelArc t_levelIn t_levelNodes t_levelWeight t_weight) H → va_D A (wd_Re_level cI cZ a_t a_t_arcs a_t_levelArc a_t_levelIn a_t_levelNodes a_t_levelWeight a_t_weight a_t_split a_t_least a_t_most a_t_row a_t_isFree a_t_best a_t_above a_t_ordered a_t_parts t_nodes t_kinds t_levels t_size t_base t_arcs t_levelArc t_levelIn t_levelNodes t_levelWeight t_weight) → va_S A s.heap H locs → W p l e (headSpec wq_Re_level ({ frames := 3, cells := 0, slots := 0, locals := 81 })).room s m ([.ref a_t, .int x1, .int x2] : List Value).toArray below meth c H locs 0 0 (MQ below (va_Qi (fun (r : Int32) (_ : Unit) => r = out.1) (fun _ => pst (dC, dI) A (wd_Re_level cI cZ a_t a_t_arcs a_t_levelArc a_t_levelIn a_t_levelNodes a_t_levelWeight a_t_weight a_t_split a_t_least a_t_most a_t_row a_t_isFree a_t_best a_t_above a_t_ordered a_t_parts t_nodes t_kinds out.2.1 t_size t_base t_arcs out.2.2.1 out.2.2.2.1 out.2.2.2.2.1 out.2.2.2.2.2 t_weight)) A) ([.ref a_t, .int x1, .int x2] : List Value).toArray s 0 0 A) (F0 m 63 ls []) := by
        intro n63
        induction n63 with
        | zero =>
          intro x3 x4 x5 t_levels t_levelArc t_levelIn t_levelNodes t_levelWeight ls H locs hf
          rw [L_Re_level_63] at hf
          exact absurd hf (fun h => by cases h)
        | succ n63 ih63 =>
          intro x3 x4 x5 t_levels t_levelArc t_levelIn t_levelNodes t_levelWeight ls H locs hf hl hP hD hS
          rw [L_Re_level_63] at hf
          refine lv_iload hx hb dd_Re_level_63 (lv_at hl 5 rfl) ?_
          refine lv_iload hx hb dd_Re_level_65 (lv_at hl 4 rfl) ?_
          refine lv_icmp_ge (tgt := 120) hx hb dd_Re_level_67 (by decide) (fun cc => ?_) (fun cc => ?_)
          · skip
            have hf := if_t cc hf
            refine lv_iinc (v := x4 + 1) (lv' := [(4, .int (x4 + 1)), (0, .ref a_t), (1, .int x1), (2, .int x2), (3, .int x3), (5, .int x5)]) hx hb dd_Re_level_120 hl (k := 4) rfl rfl (by decide) rfl (fun ls hl => ?_)
            refine lv_goto (tgt := 49) hx hb dd_Re_level_123 (by decide) ?_
            exact ih49 x3 (x4 + 1) t_levels t_levelArc t_levelIn t_levelNodes t_levelWeight _ _ _ hf (lv_sub hl [1, 2, 3, 4, 0] rfl) hP hD hS
          · skip
            have hf := if_f cc hf
            refine lv_aload_n hx hb dd_Re_level_70 rfl (lv_at hl 0 rfl) ?_
            refine va_get (D := (dC, dI)) (ci := 9) (v := .ref a_t_levelArc) (C := rr_Re) (T := tt_Re) (N := 20) hx hb hts (fun w h => gwc (inn_Re w h)) hown hK hP 0 rfl rfl 10 (by decide) (hts _ (gwc gw_713)) (fun _ h9 => h9) rfl dd_Re_level_71 ?_
            refine lv_sipush (v := 1600) hx hb dd_Re_level_74 (by decide) ?_
            refine lv_iload_n hx hb dd_Re_level_77 rfl (lv_at hl 1 rfl) ?_
            refine lv_imul hx hb dd_Re_level_78 ?_
            refine lv_bipush (v := 40) hx hb dd_Re_level_79 (by decide) ?_
            refine lv_iload hx hb dd_Re_level_81 (lv_at hl 4 rfl) ?_
            refine lv_imul hx hb dd_Re_level_83 ?_
            refine lv_iadd hx hb dd_Re_level_84 ?_
            refine lv_iload hx hb dd_Re_level_85 (lv_at hl 5 rfl) ?_
            refine lv_iadd hx hb dd_Re_level_87 ?_
            obtain ⟨k88, hf⟩ := ck_some hf
            refine va_iald hx hb hK hP 2 0 rfl rfl (okb_in k88) dd_Re_level_88 ?_
            refine lv_istore (lv' := [(6, .int (t_levelArc (((1600 * x1) + (40 * x4)) + x5).toNatClampNeg)), (0, .ref a_t), (1, .int x1), (2, .int x2), (3, .int x3), (4, .int x4), (5, .int x5)]) hx hb dd_Re_level_89 hl (by decide) rfl (fun ls hl => ?_)
            refine lv_iload_n hx hb dd_Re_level_91 rfl (lv_at hl 4 rfl) ?_
            refine lv_iload_n hx hb dd_Re_level_92 rfl (lv_at hl 3 rfl) ?_
            refine lv_iconst (v := 2) hx hb dd_Re_level_93 (by decide) ?_
            refine lv_icmp_ne (tgt := 102) hx hb dd_Re_level_94 (by decide) (fun cc => ?_) (fun cc => ?_)
            · skip
              have hf := if_f cc hf
              refine lv_iload hx hb dd_Re_level_102 (lv_at hl 0 rfl) ?_
              refine lv_if_le (tgt := 111) hx hb dd_Re_level_104 (by decide) (fun cc => ?_) (fun cc => ?_)
              · skip
                have hf := if_t cc hf
                refine lv_iconst (v := 0) hx hb dd_Re_level_111 (by decide) ?_
                refine lv_iadd hx hb dd_Re_level_112 ?_
                refine lv_istore_n (lv' := [(3, .int (x3 + 0)), (6, .int (t_levelArc (((1600 * x1) + (40 * x4)) + x5).toNatClampNeg)), (0, .ref a_t), (1, .int x1), (2, .int x2), (4, .int x4), (5, .int x5)]) hx hb dd_Re_level_113 rfl hl (by decide) rfl (fun ls hl => ?_)
                refine lv_iinc (v := x5 + 1) (lv' := [(5, .int (x5 + 1)), (3, .int (x3 + 0)), (6, .int (t_levelArc (((1600 * x1) + (40 * x4)) + x5).toNatClampNeg)), (0, .ref a_t), (1, .int x1), (2, .int x2), (4, .int x4)]) hx hb dd_Re_level_114 hl (k := 6) rfl rfl (by decide) rfl (fun ls hl => ?_)
                refine lv_goto (tgt := 63) hx hb dd_Re_level_117 (by decide) ?_
                exact ih63 (x3 + 0) x4 (x5 + 1) t_levels t_levelArc t_levelIn t_levelNodes t_levelWeight _ _ _ hf (lv_sub hl [3, 4, 5, 1, 6, 0] rfl) hP hD hS
              · skip
                have hf := if_f cc hf
                refine lv_iconst (v := 1) hx hb dd_Re_level_107 (by decide) ?_
                refine lv_goto (tgt := 112) hx hb dd_Re_level_108 (by decide) ?_
                refine lv_iadd hx hb dd_Re_level_112 ?_
                refine lv_istore_n (lv' := [(3, .int (x3 + 1)), (6, .int (t_levelArc (((1600 * x1) + (40 * x4)) + x5).toNatClampNeg)), (0, .ref a_t), (1, .int x1), (2, .int x2), (4, .int x4), (5, .int x5)]) hx hb dd_Re_level_113 rfl hl (by decide) rfl (fun ls hl => ?_)
                refine lv_iinc (v := x5 + 1) (lv' := [(5, .int (x5 + 1)), (3, .int (x3 + 1)), (6, .int (t_levelArc (((1600 * x1) + (40 * x4)) + x5).toNatClampNeg)), (0, .ref a_t), (1, .int x1), (2, .int x2), (4, .int x4)]) hx hb dd_Re_level_114 hl (k := 6) rfl rfl (by decide) rfl (fun ls hl => ?_)
                refine lv_goto (tgt := 63) hx hb dd_Re_level_117 (by decide) ?_
                exact ih63 (x3 + 1) x4 (x5 + 1) t_levels t_levelArc t_levelIn t_levelNodes t_levelWeight _ _ _ hf (lv_sub hl [3, 4, 5, 1, 6, 0] rfl) hP hD hS
            · skip
              have hf := if_t cc hf
              refine lv_iload hx hb dd_Re_level_97 (lv_at hl 0 rfl) ?_
              refine lv_goto (tgt := 112) hx hb dd_Re_level_99 (by decide) ?_
              refine lv_iadd hx hb dd_Re_level_112 ?_
              refine lv_istore_n (lv' := [(3, .int (x3 + (t_levelArc (((1600 * x1) + (40 * x4)) + x5).toNatClampNeg))), (6, .int (t_levelArc (((1600 * x1) + (40 * x4)) + x5).toNatClampNeg)), (0, .ref a_t), (1, .int x1), (2, .int x2), (4, .int x4), (5, .int x5)]) hx hb dd_Re_level_113 rfl hl (by decide) rfl (fun ls hl => ?_)
              refine lv_iinc (v := x5 + 1) (lv' := [(5, .int (x5 + 1)), (3, .int (x3 + (t_levelArc (((1600 * x1) + (40 * x4)) + x5).toNatClampNeg))), (6, .int (t_levelArc (((1600 * x1) + (40 * x4)) + x5).toNatClampNeg)), (0, .ref a_t), (1, .int x1), (2, .int x2), (4, .int x4)]) hx hb dd_Re_level_114 hl (k := 6) rfl rfl (by decide) rfl (fun ls hl => ?_)
              refine lv_goto (tgt := 63) hx hb dd_Re_level_117 (by decide) ?_
              exact ih63 (x3 + (t_levelArc (((1600 * x1) + (40 * x4)) + x5).toNatClampNeg)) x4 (x5 + 1) t_levels t_levelArc t_levelIn t_levelNodes t_levelWeight _ _ _ hf (lv_sub hl [3, 4, 5, 1, 6, 0] rfl) hP hD hS
      refine lv_iload hx hb dd_Re_level_49 (lv_at hl 4 rfl) ?_
      refine lv_aload_n hx hb dd_Re_level_51 rfl (lv_at hl 0 rfl) ?_
      refine va_get (D := (dC, dI)) (ci := 9) (v := .ref a_t_levelNodes) (C := rr_Re) (T := tt_Re) (N := 20) hx hb hts (fun w h => gwc (inn_Re w h)) hown hK hP 0 rfl rfl 8 (by decide) (hts _ (gwc gw_711)) (fun _ h9 => h9) rfl dd_Re_level_52 ?_
      refine lv_iload_n hx hb dd_Re_level_55 rfl (lv_at hl 1 rfl) ?_
      obtain ⟨k56, hf⟩ := ck_some hf
      refine va_iald hx hb hK hP 4 0 rfl rfl (okb_in k56) dd_Re_level_56 ?_
      refine lv_icmp_ge (tgt := 126) hx hb dd_Re_level_57 (by decide) (fun cc => ?_) (fun cc => ?_)
      · skip
        have hf := if_t cc hf
        refine lv_iload_n hx hb dd_Re_level_126 rfl (lv_at hl 3 rfl) ?_
        have hf := Option.some.inj hf
        subst hf
        exact W.iret hx hb hr (fun t ht hW => ⟨⟨_, (), rfl, rfl, pst_of ht hP hD⟩, hS.F ht⟩) hS.2.2 dd_Re_level_127
      · skip
        have hf := if_f cc hf
        refine lv_iconst (v := 0) hx hb dd_Re_level_60 (by decide) ?_
        refine lv_istore (lv' := [(5, .int 0), (0, .ref a_t), (1, .int x1), (2, .int x2), (3, .int x3), (4, .int x4)]) hx hb dd_Re_level_61 hl (by decide) rfl (fun ls hl => ?_)
        exact h63 64 x3 x4 0 t_levels t_levelArc t_levelIn t_levelNodes t_levelWeight _ _ _ hf (lv_sub hl [1, 2, 3, 4, 5, 0] rfl) hP hD hS
  refine lv_iload_n hx hb dd_Re_level_0 rfl (lv_at hl 1 rfl) ?_
  refine lv_if_lt (tgt := 16) hx hb dd_Re_level_1 (by decide) (fun cc => ?_) (fun cc => ?_)
  · skip
    have hf := if_t cc hf
    refine lv_iconst (v := -1) hx hb dd_Re_level_16 (by decide) ?_
    have hf := Option.some.inj hf
    subst hf
    exact W.iret hx hb hr (fun t ht hW => ⟨⟨_, (), rfl, rfl, pst_of ht hP hD⟩, hS.F ht⟩) hS.2.2 dd_Re_level_17
  · skip
    have hf := if_f cc hf
    refine lv_iload_n hx hb dd_Re_level_4 rfl (lv_at hl 2 rfl) ?_
    refine lv_i2l hx hb dd_Re_level_5 rfl ?_
    refine lv_lconst (v := 0) hx hb dd_Re_level_6 (by decide) ?_
    refine lv_ldc2 (v := 2) hx hb hown (hts _ (gwc gw_697)) dd_Re_level_7 ?_
    obtain ⟨r10, hr10, hf⟩ := bind_some hf
    refine xcalli (rest := []) (wc := (wd_Re_isIn cI cZ)) (w1 := (wd_Re_isIn cI cZ)) (wr := [(a_t, .inr (9, [.int t_nodes, .int t_kinds, .ref a_t_weight, .ref a_t_arcs, .ref a_t_split, .ref a_t_least, .ref a_t_most, .int t_levels, .ref a_t_levelNodes, .ref a_t_levelWeight, .ref a_t_levelArc, .ref a_t_levelIn, .int t_size, .int t_base, .ref a_t_row, .ref a_t_isFree, .ref a_t_best, .ref a_t_above, .ref a_t_ordered, .ref a_t_parts])), (a_t_arcs, .inl (cI, 1600, .inl t_arcs)), (a_t_levelArc, .inl (cI, 65600, .inl t_levelArc)), (a_t_levelIn, .inl (cI, 1640, .inl t_levelIn)), (a_t_levelNodes, .inl (cI, 41, .inl t_levelNodes)), (a_t_levelWeight, .inl (cI, 1640, .inl t_levelWeight)), (a_t_weight, .inl (cI, 40, .inl t_weight))]) (ws' := (wd_Re_level cI cZ a_t a_t_arcs a_t_levelArc a_t_levelIn a_t_levelNodes a_t_levelWeight a_t_weight a_t_split a_t_least a_t_most a_t_row a_t_isFree a_t_best a_t_above a_t_ordered a_t_parts t_nodes t_kinds t_levels t_size t_base t_arcs t_levelArc t_levelIn t_levelNodes t_levelWeight t_weight)) (va_runS (As := [.long x2.toInt64, .long (0 : Int64), .long (2 : Int64)]) ⟨hx, hb, hml, hown, hts⟩ (c_Re_isIn l dC dI cI cZ H.size x2.toInt64 (0 : Int64) (2 : Int64) r10 hr10) (va_cwS 3 hts (gS gw_699 gw_700 gw_61 gw_701) rfl rfl rfl (yd_Re_isIn).2 ⟨Nat.le_of_ble_eq_true rfl, Nat.le_of_ble_eq_true rfl⟩) (mkS hK (hP.sub (ws' := (wd_Re_isIn cI cZ)) [] rfl) (hD.sub (ws' := (wd_Re_isIn cI cZ)) [] (by decide) rfl) hN) rfl rfl hl.1 rfl (lv_room (Nat.le_of_ble_eq_true rfl)) dd_Re_level_10 ⟨Nat.zero_le _, Nat.zero_le _⟩) hP hD hS hA [] [0, 1, 2, 3, 4, 5, 6] [0, 1, 2, 3, 4, 5, 6] rfl rfl (by decide) (by decide) rfl (by decide) rfl (fun H locs hP hD hS => ?_)
    refine lv_if_ne (tgt := 18) hx hb dd_Re_level_13 (by decide) (fun cc => ?_) (fun cc => ?_)
    · skip
      have hf := if_f cc hf
      refine lv_aload_n hx hb dd_Re_level_18 rfl (lv_at hl 0 rfl) ?_
      obtain ⟨r19, hr19, hf⟩ := bind_some hf
      refine xcallv (rest := []) (wc := (wd_Re_makeLevels cI cZ a_t a_t_arcs a_t_levelArc a_t_levelIn a_t_levelNodes a_t_levelWeight a_t_weight a_t_split a_t_least a_t_most a_t_row a_t_isFree a_t_best a_t_above a_t_ordered a_t_parts t_nodes t_kinds t_levels t_size t_base t_arcs t_levelArc t_levelIn t_levelNodes t_levelWeight t_weight)) (w1 := (wd_Re_makeLevels cI cZ a_t a_t_arcs a_t_levelArc a_t_levelIn a_t_levelNodes a_t_levelWeight a_t_weight a_t_split a_t_least a_t_most a_t_row a_t_isFree a_t_best a_t_above a_t_ordered a_t_parts t_nodes t_kinds r19.1 t_size t_base t_arcs r19.2.1 r19.2.2.1 r19.2.2.2.1 r19.2.2.2.2 t_weight)) (wr := []) (ws' := (wd_Re_level cI cZ a_t a_t_arcs a_t_levelArc a_t_levelIn a_t_levelNodes a_t_levelWeight a_t_weight a_t_split a_t_least a_t_most a_t_row a_t_isFree a_t_best a_t_above a_t_ordered a_t_parts t_nodes t_kinds r19.1 t_size t_base t_arcs r19.2.1 r19.2.2.1 r19.2.2.2.1 r19.2.2.2.2 t_weight)) (va_runV (As := []) ⟨hx, hb, hml, hown, hts⟩ (c_Re_makeLevels l dC dI cI cZ a_t a_t_arcs a_t_levelArc a_t_levelIn a_t_levelNodes a_t_levelWeight a_t_weight a_t_split a_t_least a_t_most a_t_row a_t_isFree a_t_best a_t_above a_t_ordered a_t_parts H.size t_nodes t_kinds t_levels t_size t_base t_arcs t_levelArc t_levelIn t_levelNodes t_levelWeight t_weight r19 hr19) (cwV 0 hts (gV gw_796 gw_798 gw_31 gw_61 gw_799) rfl rfl rfl (yd_Re_makeLevels) ⟨Nat.le_of_ble_eq_true rfl, Nat.le_of_ble_eq_true rfl⟩) (mkV hK (hP.sub (ws' := (wd_Re_makeLevels cI cZ a_t a_t_arcs a_t_levelArc a_t_levelIn a_t_levelNodes a_t_levelWeight a_t_weight a_t_split a_t_least a_t_most a_t_row a_t_isFree a_t_best a_t_above a_t_ordered a_t_parts t_nodes t_kinds t_levels t_size t_base t_arcs t_levelArc t_levelIn t_levelNodes t_levelWeight t_weight)) [0, 1, 2, 3, 4, 5, 6] rfl) (hD.sub (ws' := (wd_Re_makeLevels cI cZ a_t a_t_arcs a_t_levelArc a_t_levelIn a_t_levelNodes a_t_levelWeight a_t_weight a_t_split a_t_least a_t_most a_t_row a_t_isFree a_t_best a_t_above a_t_ordered a_t_parts t_nodes t_kinds t_levels t_size t_base t_arcs t_levelArc t_levelIn t_levelNodes t_levelWeight t_weight)) [0, 1, 2, 3, 4, 5, 6] (by decide) rfl) hN (va_recv hK hP (ci := 9) (q0 := 0) rfl rfl)) rfl rfl hl.1 rfl (lv_room (Nat.le_of_ble_eq_true rfl)) dd_Re_level_19 ⟨Nat.zero_le _, Nat.zero_le _⟩) hP hD hS hA [0, 1, 2, 3, 4, 5, 6] [] [0, 1, 2, 3, 4, 5, 6] rfl rfl (by decide) (by decide) rfl (by decide) rfl (fun H locs hP hD hS => ?_)
      refine lv_iload_n hx hb dd_Re_level_22 rfl (lv_at hl 1 rfl) ?_
      refine lv_aload_n hx hb dd_Re_level_23 rfl (lv_at hl 0 rfl) ?_
      refine va_get (D := (dC, dI)) (ci := 9) (v := .int r19.1) (C := rr_Re) (T := tt_Re) (N := 20) hx hb hts (fun w h => gwc (inn_Re w h)) hown hK hP 0 rfl rfl 7 (by decide) (hts _ (gwc gw_710)) (fun _ h9 => h9) rfl dd_Re_level_24 ?_
      refine lv_icmp_lt (tgt := 33) hx hb dd_Re_level_27 (by decide) (fun cc => ?_) (fun cc => ?_)
      · skip
        have hf := if_t cc hf
        refine lv_iload_n hx hb dd_Re_level_33 rfl (lv_at hl 2 rfl) ?_
        refine lv_if_ne (tgt := 44) hx hb dd_Re_level_34 (by decide) (fun cc => ?_) (fun cc => ?_)
        · skip
          have hf := if_f cc hf
          refine lv_iconst (v := 0) hx hb dd_Re_level_44 (by decide) ?_
          refine lv_istore_n (lv' := [(3, .int 0), (0, .ref a_t), (1, .int x1), (2, .int x2)]) hx hb dd_Re_level_45 rfl hl (by decide) rfl (fun ls hl => ?_)
          refine lv_iconst (v := 0) hx hb dd_Re_level_46 (by decide) ?_
          refine lv_istore (lv' := [(4, .int 0), (3, .int 0), (0, .ref a_t), (1, .int x1), (2, .int x2)]) hx hb dd_Re_level_47 hl (by decide) rfl (fun ls hl => ?_)
          exact h49 64 0 0 r19.1 r19.2.1 r19.2.2.1 r19.2.2.2.1 r19.2.2.2.2 _ _ _ hf (lv_sub hl [2, 3, 4, 1, 0] rfl) hP hD hS
        · skip
          have hf := if_t cc hf
          refine lv_aload_n hx hb dd_Re_level_37 rfl (lv_at hl 0 rfl) ?_
          refine va_get (D := (dC, dI)) (ci := 9) (v := .ref a_t_levelNodes) (C := rr_Re) (T := tt_Re) (N := 20) hx hb hts (fun w h => gwc (inn_Re w h)) hown hK hP 0 rfl rfl 8 (by decide) (hts _ (gwc gw_711)) (fun _ h9 => h9) rfl dd_Re_level_38 ?_
          refine lv_iload_n hx hb dd_Re_level_41 rfl (lv_at hl 1 rfl) ?_
          obtain ⟨k42, hf⟩ := ck_some hf
          refine va_iald hx hb hK hP 4 0 rfl rfl (okb_in k42) dd_Re_level_42 ?_
          have hf := Option.some.inj hf
          subst hf
          exact W.iret hx hb hr (fun t ht hW => ⟨⟨_, (), rfl, rfl, pst_of ht hP hD⟩, hS.F ht⟩) hS.2.2 dd_Re_level_43
      · skip
        have hf := if_f cc hf
        refine lv_bipush (v := -2) hx hb dd_Re_level_30 (by decide) ?_
        have hf := Option.some.inj hf
        subst hf
        exact W.iret hx hb hr (fun t ht hW => ⟨⟨_, (), rfl, rfl, pst_of ht hP hD⟩, hS.F ht⟩) hS.2.2 dd_Re_level_32
    · skip
      have hf := if_t cc hf
      refine lv_iconst (v := -1) hx hb dd_Re_level_16 (by decide) ?_
      have hf := Option.some.inj hf
      subst hf
      exact W.iret hx hb hr (fun t ht hW => ⟨⟨_, (), rfl, rfl, pst_of ht hP hD⟩, hS.F ht⟩) hS.2.2 dd_Re_level_17
