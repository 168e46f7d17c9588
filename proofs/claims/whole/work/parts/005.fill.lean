theorem dd_fill_0 : decode cc_fill 0 = .ok (.iconst 0, 1) := by decide +kernel
theorem dd_fill_1 : decode cc_fill 1 = .ok (.istore_n 2, 1) := by decide +kernel
theorem dd_fill_2 : decode cc_fill 2 = .ok (.aload_n 0, 1) := by decide +kernel
theorem dd_fill_3 : decode cc_fill 3 = .ok (.arraylength, 1) := by decide +kernel
theorem dd_fill_4 : decode cc_fill 4 = .ok (.istore_n 3, 1) := by decide +kernel
theorem dd_fill_5 : decode cc_fill 5 = .ok (.iload_n 2, 1) := by decide +kernel
theorem dd_fill_6 : decode cc_fill 6 = .ok (.iload_n 3, 1) := by decide +kernel
theorem dd_fill_7 : decode cc_fill 7 = .ok (.if_icmp .ge 13, 3) := by decide +kernel
theorem dd_fill_10 : decode cc_fill 10 = .ok (.aload_n 0, 1) := by decide +kernel
theorem dd_fill_11 : decode cc_fill 11 = .ok (.iload_n 2, 1) := by decide +kernel
theorem dd_fill_12 : decode cc_fill 12 = .ok (.iload_n 1, 1) := by decide +kernel
theorem dd_fill_13 : decode cc_fill 13 = .ok (.iastore, 1) := by decide +kernel
theorem dd_fill_14 : decode cc_fill 14 = .ok (.iinc 2 1, 3) := by decide +kernel
theorem dd_fill_17 : decode cc_fill 17 = .ok (.goto (-12), 3) := by decide +kernel
theorem dd_fill_20 : decode cc_fill 20 = .ok (.return_, 1) := by decide +kernel
set_option maxRecDepth 100000 in
set_option maxHeartbeats 4000000 in
/-- Arrays.fill(a, v): every place is v -/
theorem c_fill (l : Launch) (dC : Nat → ClassId) (dI : Nat → Nat → Nat) (cI cZ : ClassId) (a sz n : Nat) (hn : n < 2 ^ 31) (f : Nat → Int32) (v : Int32) : Met l yy_fill wq_fill ({ frames := 0, cells := 0, slots := 0, locals := 0 }) (va_Pc [.ref a, .int v] (pre_ (dC, dI) cI cZ sz [(a, .inl (cI, n, .inl f))])) (va_Qv (fun _ : Unit => True) (fun _ => pst (dC, dI) (va_A [(a, .inl (cI, n, .inl f))] sz) [(a, .inl (cI, n, .inl (fun _ => v)))]) (va_A [(a, .inl (cI, n, .inl f))] sz)) 0 0 (va_A [(a, .inl (cI, n, .inl f))] sz) := by
  refine Met.ofW (cc := cc_fill) (maxL := 4) (ret := none) (by decide) rfl ?_
  intro p e s m args below meth c s₁ B hml hv
  obtain ⟨rfl, hsz, hP, hK, hD0, hN⟩ := hv
  have hx := B.exec
  have hb := B.bytes
  have hr := B.returns
  have hlocks := B.notSynchronized
  subst hsz
  have hD := hD0.self (sz := s.heap.size)
  generalize hAe : va_A [(a, .inl (cI, n, .inl f))] s.heap.size = A at hD ⊢
  have hS : va_S A s.heap s.heap [] := va_S.rf
  have hl := lv_entry ([.ref a, .int v]) (n := 4) (Nat.le_of_ble_eq_true rfl)
  rw [lg_entry_eq]
  generalize (lg_sl ([.ref a, .int v]) ++ List.replicate (4 - (lg_sl ([.ref a, .int v])).length) Slot.unset).toArray = ls at hl ⊢
  have hl : lv_has ls 4 [(0, .ref a), (1, .int v)] := hl
  have hL : ∀ (k i : Nat) (g : Nat → Int32) (ls : Array Slot) (H : Heap) (locs : List Loc), i + k = n → (∀ j, j < i → g j = v) → lv_has ls 4 [(0, .ref a), (1, .int v), (2, .int (nI i)), (3, .int (nI n))] → va_P (dC, dI) clsL [(a, .inl (cI, n, .inl g))] H → va_D A [(a, .inl (cI, n, .inl g))] → va_S A s.heap H locs → W p l e (headSpec wq_fill ({ frames := 0, cells := 0, slots := 0, locals := 0 })).room s m [.ref a, .int v].toArray below meth c H locs 0 0 (MQ below (va_Qv (fun _ : Unit => True) (fun _ => pst (dC, dI) A [(a, .inl (cI, n, .inl (fun _ => v)))]) A) [.ref a, .int v].toArray s 0 0 A) (F0 m 5 ls []) := by
    intro k
    induction k with
    | zero =>
      intro i g ls H locs hi hg hl hP hD hS
      refine lv_iload_n hx hb dd_fill_5 rfl (lv_at hl 2 rfl) ?_
      refine lv_iload_n hx hb dd_fill_6 rfl (lv_at hl 3 rfl) ?_
      refine lv_icmp_ge (tgt := 20) hx hb dd_fill_7 (by decide) (fun cc => ?_) (fun cc => absurd (nI_le (by omega) (by omega)) cc)
      have hP := hP.ext (q0 := 0) (g := fun _ => v) rfl (fun j hj => hg j (by omega))
      have hD := hD.set (p := 0) (e := .inl (cI, n, .inl (fun _ => v))) rfl
      exact W.vret hx hb hr (fun t ht hW => ⟨⟨(), rfl, trivial, pst_of ht hP hD⟩, hS.F ht⟩) hS.2.2 dd_fill_20
    | succ k ih =>
      intro i g ls H locs hi hg hl hP hD hS
      refine lv_iload_n hx hb dd_fill_5 rfl (lv_at hl 2 rfl) ?_
      refine lv_iload_n hx hb dd_fill_6 rfl (lv_at hl 3 rfl) ?_
      refine lv_icmp_ge (tgt := 20) hx hb dd_fill_7 (by decide) (fun cc => absurd cc (nI_ge (by omega) (by omega))) (fun cc => ?_)
      refine lv_aload_n hx hb dd_fill_10 rfl (lv_at hl 0 rfl) ?_
      refine lv_iload_n hx hb dd_fill_11 rfl (lv_at hl 2 rfl) ?_
      refine lv_iload_n hx hb dd_fill_12 rfl (lv_at hl 1 rfl) ?_
      refine va_iast hx hb hK hP hD hS 0 0 rfl rfl (vp_in_nI (by omega) hn) dd_fill_13 (fun H locs hP hD hS => ?_)
      rw [nI_clamp (show i < 2 ^ 31 by omega)] at hP hD
      have hP : va_P (dC, dI) clsL [(a, .inl (cI, n, .inl (upd g i v)))] H := hP
      have hD : va_D A [(a, .inl (cI, n, .inl (upd g i v)))] := hD
      refine lv_iinc (v := nI (i + 1)) (lv' := [(2, .int (nI (i + 1))), (0, .ref a), (1, .int v), (3, .int (nI n))]) hx hb dd_fill_14 hl (k := 2) rfl (nI_1 i) (by decide) rfl (fun ls hl => ?_)
      refine lv_goto (tgt := 5) hx hb dd_fill_17 (by decide) ?_
      refine ih (i + 1) (upd g i v) _ _ _ (by omega) (fun j hj => ?_) (lv_sub hl [1, 2, 0, 3] rfl) hP hD hS
      by_cases h : j = i
      · rw [h]; exact pk_us
      · rw [pk_un h]; exact hg j (by omega)
  refine lv_iconst (v := 0) hx hb dd_fill_0 (by decide) ?_
  refine lv_istore_n (lv' := [(2, .int 0), (0, .ref a), (1, .int v)]) hx hb dd_fill_1 rfl hl (by decide) rfl (fun ls hl => ?_)
  refine lv_aload_n hx hb dd_fill_2 rfl (lv_at hl 1 rfl) ?_
  refine va_alen (v := nI n) hx hb hK hP 0 0 rfl rfl rfl dd_fill_3 ?_
  refine lv_istore_n (lv' := [(3, .int (nI n)), (2, .int 0), (0, .ref a), (1, .int v)]) hx hb dd_fill_4 rfl hl (by decide) rfl (fun ls hl => ?_)
  exact hL n 0 f _ _ _ (by omega) (fun j hj => absurd hj (Nat.not_lt_zero j)) (lv_sub hl [2, 3, 1, 0] rfl) hP hD hS

