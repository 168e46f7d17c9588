theorem s_r86 {n k b : Nat} {w : Nat → Int} {A : Nat → Nat → Int} {h lo hi : Nat → Int} {LW LA row least most best free : Nat → Int32} {x3 x5 x7 : Int64} {x9 x10 : Int32} {fr : Nat → Bool} (g : GOK n w A) (hL : RL n b w A LW LA) (hr : RW n h row) (hB : BOK k lo hi) (hb : RB k lo hi least most) (hh : HK n k h) (hfr : FR n fr free) (K : Int64 → Int64 → Int64 → Int64 → Int32 → Int32 → (Nat → Int32) → (Nat → Int32) → (Nat → Int32) → Option (Int32 × (Nat → Int32) × (Nat → Int32) × (Nat → Int32))) : ∃ t : Int32 × Int32 × Int64 × Int64, L_Re_pass_86 (nI k) (nI n) (nI b) least LA LW most K 64 (lI (overI n k w lo hi h)) x3 x5 x7 x9 x10 (-1) 0 (0 : Int64) (0 : Int64) 0 best free row = J_Re_pass_252 (nI n) K x3 x5 x7 x9 x10 t.1 t.2.1 t.2.2.1 t.2.2.2 best free row ∧ RS (oB n k w lo hi h) (gB n A h) (nx n k (oB n k w lo hi h) (gB n A h) (overI n k w lo hi h) h fr) t := by
  have hn := g.1
  obtain ⟨f', t', e, hP⟩ := loopP (fun f i (t : Int32 × Int32 × Int64 × Int64) => L_Re_pass_86 (nI k) (nI n) (nI b) least LA LW most K f (lI (overI n k w lo hi h)) x3 x5 x7 x9 x10 t.1 t.2.1 t.2.2.1 t.2.2.2 (nI i) best free row) n (fun i t => okm n k (overI n k w lo hi h) h fr (oB n k w lo hi h) (fo (fun v s => if fr v = true then fo (mv (oB n k w lo hi h) (gB n A h) (overI n k w lo hi h) h v) k s else s) i none) ∧ RS (oB n k w lo hi h) (gB n A h) (fo (fun v s => if fr v = true then fo (mv (oB n k w lo hi h) (gB n A h) (overI n k w lo hi h) h v) k s else s) i none) t) (by
    intro f i t hik hp
    obtain ⟨p1, p2⟩ := hp
    show ∃ t', L_Re_pass_86 _ _ _ _ _ _ _ _ (f + 1) _ _ _ _ _ _ _ _ _ _ (nI i) _ _ _ = _ ∧ _
    obtain ⟨t', e, hc'⟩ := s_r107 (x3 := x3) (x5 := x5) (x7 := x7) (x9 := x9) (x10 := x10) (best := best) g hL hr hB hb hh hfr hik p1 p2 (L_Re_pass_86 (nI k) (nI n) (nI b) least LA LW most K f)
    rw [L_Re_pass_86, if_neg (nI_ge hik (by omega)), ckn (by omega) (by decide), nI_clamp (by omega), e]
    refine ⟨t', rfl, ?_, by rw [fo_s]; exact hc'⟩
    rw [fo_s]
    by_cases q : fr i = true
    · rw [if_pos q]; exact fo_P k p1 (fun p t hp ht => mv_ok hik hp q ht)
    · rw [if_neg q]; exact p1) n 0 64 (-1, 0, 0, 0) (by omega) (by omega) ⟨trivial, rfl⟩
  have e : L_Re_pass_86 (nI k) (nI n) (nI b) least LA LW most K 64 (lI (overI n k w lo hi h)) x3 x5 x7 x9 x10 (-1) 0 (0 : Int64) (0 : Int64) 0 best free row = L_Re_pass_86 (nI k) (nI n) (nI b) least LA LW most K (f' + 1) (lI (overI n k w lo hi h)) x3 x5 x7 x9 x10 t'.1 t'.2.1 t'.2.2.1 t'.2.2.2 (nI n) best free row := e
  refine ⟨t', ?_, hP.2⟩
  rw [e, L_Re_pass_86, if_pos (nI_le (Nat.le_refl n) (by omega))]
theorem s_r359 {n : Nat} {b : Nat → Int} {best free row : Nat → Int32} {t : Bool} (hn : n ≤ 40) (hb : RW n b best) : ∃ row', L_Re_pass_359 (nI n) 64 (if t = true then 1 else 0) 0 best free row = some ((if t = true then 1 else 0), best, free, row') ∧ RW n b row' := by
  obtain ⟨f', r', e, hP⟩ := loopP (fun f i (r : Nat → Int32) => L_Re_pass_359 (nI n) f (if t = true then 1 else 0) (nI i) best free r) n (fun i r => ∀ j, j < i → r j = best j) (by
    intro f i r hi hp
    show ∃ s', L_Re_pass_359 _ (f + 1) _ (nI i) _ _ r = _ ∧ _
    rw [L_Re_pass_359, if_neg (nI_ge hi (by omega)), ckn (by omega) (by decide), ckn (by omega) (by decide), nI_clamp (by omega), nI_1]
    refine ⟨_, rfl, fun j hj => ?_⟩
    by_cases q : j = i
    · subst q; rw [pk_us]
    · rw [pk_un q]; exact hp j (by omega)) n 0 64 row (by omega) (by omega) (fun j hj => absurd hj (Nat.not_lt_zero j))
  have e : L_Re_pass_359 (nI n) 64 (if t = true then 1 else 0) 0 best free row = L_Re_pass_359 (nI n) (f' + 1) (if t = true then 1 else 0) (nI n) best free r' := e
  refine ⟨r', ?_, fun j hj => by rw [hP j hj]; exact hb j hj⟩
  rw [e, L_Re_pass_359, if_pos (nI_le (Nat.le_refl n) (by omega)), ck_true (by cases t <;> decide)]
theorem s_r321 {n : Nat} {h : Nat → Int} {best free row : Nat → Int32} {x1 x3 x5 x7 : Int64} {x9 x10 : Int32} (hn : n ≤ 40) (hr : RW n h row) (K : Int64 → Int64 → Int64 → Int64 → Int32 → Int32 → (Nat → Int32) → (Nat → Int32) → (Nat → Int32) → Option (Int32 × (Nat → Int32) × (Nat → Int32) × (Nat → Int32))) : ∃ best', L_Re_pass_321 (nI n) K 64 x1 x3 x5 x7 x9 x10 0 best free row = K x1 x3 x5 x7 x9 (x10 + 1) best' free row ∧ RW n h best' := by
  obtain ⟨f', r', e, hP⟩ := loopP (fun f i (r : Nat → Int32) => L_Re_pass_321 (nI n) K f x1 x3 x5 x7 x9 x10 (nI i) r free row) n (fun i r => ∀ j, j < i → r j = row j) (by
    intro f i r hi hp
    show ∃ s', L_Re_pass_321 _ _ (f + 1) _ _ _ _ _ _ (nI i) r _ _ = _ ∧ _
    rw [L_Re_pass_321, if_neg (nI_ge hi (by omega)), ckn (by omega) (by decide), ckn (by omega) (by decide), nI_clamp (by omega), nI_1]
    refine ⟨_, rfl, fun j hj => ?_⟩
    by_cases q : j = i
    · subst q; rw [pk_us]
    · rw [pk_un q]; exact hp j (by omega)) n 0 64 best (by omega) (by omega) (fun j hj => absurd hj (Nat.not_lt_zero j))
  have e : L_Re_pass_321 (nI n) K 64 x1 x3 x5 x7 x9 x10 0 best free row = L_Re_pass_321 (nI n) K (f' + 1) x1 x3 x5 x7 x9 x10 (nI n) r' free row := e
  refine ⟨r', ?_, fun j hj => by rw [hP j hj]; exact hr j hj⟩
  rw [e, L_Re_pass_321, if_pos (nI_le (Nat.le_refl n) (by omega))]
theorem s_r62 {n k b : Nat} {w : Nat → Int} {A : Nat → Nat → Int} {lo hi : Nat → Int} {LW LA least most : Nat → Int32} (g : GOK n w A) (hL : RL n b w A LW LA) (hB : BOK k lo hi) (hb : RB k lo hi least most) : ∀ (m i f : Nat) (h bb : Nat → Int) (fr : Nat → Bool) (t : Bool) (best free row : Nat → Int32), i + m = n → m < f → RW n h row → HK n k h → FR n fr free → RW n bb best → ∃ best' free' row', L_Re_pass_62 (nI k) (nI n) (nI b) least LA LW most f (lI (overI n k w lo hi h)) (lI (cutI n A h)) (lI (overI n k w lo hi bb)) (lI (cutI n A bb)) (if t = true then 1 else 0) (nI i) best free row = some ((if (psL n k w A lo hi m h fr bb t).2 = true then 1 else 0), best', free', row') ∧ RW n (psL n k w A lo hi m h fr bb t).1 row' := by
  have hn := g.1
  intro m
  induction m with
  | zero =>
    intro i f h bb fr t best free row him hf hr hh hfr hbb
    obtain ⟨f, rfl⟩ : ∃ z, f = z + 1 := ⟨f - 1, by omega⟩
    obtain rfl : i = n := by omega
    rw [L_Re_pass_62, if_pos (nI_le (Nat.le_refl i) (by omega))]
    obtain ⟨row', e, hrow⟩ := s_r359 (free := free) (row := row) (t := t) hn hbb
    exact ⟨_, _, row', e, hrow⟩
  | succ m ih =>
    intro i f h bb fr t best free row him hf hr hh hfr hbb
    obtain ⟨f, rfl⟩ : ∃ z, f = z + 1 := ⟨f - 1, by omega⟩
    obtain ⟨q4, e1, hcs⟩ := s_r86 (x3 := lI (cutI n A h)) (x5 := lI (overI n k w lo hi bb)) (x7 := lI (cutI n A bb)) (x9 := (if t = true then 1 else 0)) (x10 := nI i) (best := best) g hL hr hB hb hh hfr (L_Re_pass_62 (nI k) (nI n) (nI b) least LA LW most f)
    have hok := nx_ok (n := n) (k := k) (o := oB n k w lo hi h) (g := gB n A h) (cur := overI n k w lo hi h) (h := h) (fr := fr)
    rw [L_Re_pass_62, if_neg (nI_ge (by omega) (by omega)), e1]
    unfold J_Re_pass_252 psL
    cases hq : nx n k (oB n k w lo hi h) (gB n A h) (overI n k w lo hi h) h fr with
    | none =>
      rw [hq] at hcs
      have h1 : q4.1 = -1 := hcs
      rw [if_neg (show ¬ 0 ≤ q4.1 by rw [h1]; decide)]
      obtain ⟨row', e, hrow⟩ := s_r359 (free := free) (row := row) (t := t) hn hbb
      exact ⟨_, _, row', e, hrow⟩
    | some q =>
      rw [hq] at hcs hok
      obtain ⟨c1, c2, c3, c4⟩ := hcs
      obtain ⟨k1, k2, k3, k4, k5⟩ := hok
      dsimp only
      have hr' : RW n (hs h q.1 q.2) (upd row q.1 (nI q.2)) := by
        have := hr.hs q.1 (q.2 : Int)
        rw [← nI_iI] at this
        exact this
      have hh' : HK n k (hs h q.1 q.2) := HK.hs hh k2
      have o1 := g.over hB (hs h q.1 q.2)
      have o2 := g.over hB bb
      have cu1 := g.cut (hs h q.1 q.2)
      have cu2 := g.cut bb
      have eg : lI (cutI n A h) - lI (gB n A h q.1 q.2) = lI (cutI n A (hs h q.1 q.2)) := by
        rw [lI_sub, cut_hs g.2.2.2.2.2.1 g.2.2.2.2.2.2 k1]
        rfl
      rw [c1, c2, c3, c4, if_pos (nI_pos' (by omega)), ckn (by omega) (by decide), ckn (by omega) (by decide), nI_clamp (by omega), eg]
      have eo : oB n k w lo hi h q.1 q.2 = overI n k w lo hi (hs h q.1 q.2) := rfl
      rw [eo]
      have rest : ∀ (z : btr n k w A lo hi (hs h q.1 q.2) bb = true), ∃ best' free' row', J_Re_pass_309 (nI n) (L_Re_pass_62 (nI k) (nI n) (nI b) least LA LW most f) (lI (overI n k w lo hi (hs h q.1 q.2))) (lI (cutI n A (hs h q.1 q.2))) (nI i) best (upd free q.1 (vp_nar .boolean 0)) (upd row q.1 (nI q.2)) = some ((if (psL n k w A lo hi m (hs h q.1 q.2) (hs fr q.1 false) (hs h q.1 q.2) true).2 = true then 1 else 0), best', free', row') ∧ RW n (psL n k w A lo hi m (hs h q.1 q.2) (hs fr q.1 false) (hs h q.1 q.2) true).1 row' := by
        intro z
        unfold J_Re_pass_309
        obtain ⟨best', e, hbest⟩ := s_r321 (best := best) (free := upd free q.1 (vp_nar .boolean 0)) (x1 := lI (overI n k w lo hi (hs h q.1 q.2))) (x3 := lI (cutI n A (hs h q.1 q.2))) (x5 := lI (overI n k w lo hi (hs h q.1 q.2))) (x7 := lI (cutI n A (hs h q.1 q.2))) (x9 := 1) (x10 := nI i) hn hr' (L_Re_pass_62 (nI k) (nI n) (nI b) least LA LW most f)
        rw [e, nI_1]
        exact ih (i + 1) f (hs h q.1 q.2) (hs h q.1 q.2) (hs fr q.1 false) true best' _ _ (by omega) (by omega) hr' hh' (hfr.hs q.1) hbest
      have other : ∃ best' free' row', L_Re_pass_62 (nI k) (nI n) (nI b) least LA LW most f (lI (overI n k w lo hi (hs h q.1 q.2))) (lI (cutI n A (hs h q.1 q.2))) (lI (overI n k w lo hi bb)) (lI (cutI n A bb)) (if t = true then 1 else 0) (nI i + 1) best (upd free q.1 (vp_nar .boolean 0)) (upd row q.1 (nI q.2)) = some ((if (psL n k w A lo hi m (hs h q.1 q.2) (hs fr q.1 false) bb t).2 = true then 1 else 0), best', free', row') ∧ RW n (psL n k w A lo hi m (hs h q.1 q.2) (hs fr q.1 false) bb t).1 row' := by
        rw [nI_1]
        exact ih (i + 1) f (hs h q.1 q.2) bb (hs fr q.1 false) t best _ _ (by omega) (by omega) hr' hh' (hfr.hs q.1) hbb
      have B : btr n k w A lo hi (hs h q.1 q.2) bb = (decide (overI n k w lo hi (hs h q.1 q.2) < overI n k w lo hi bb) || (decide (overI n k w lo hi (hs h q.1 q.2) = overI n k w lo hi bb) && decide (cutI n A (hs h q.1 q.2) < cutI n A bb))) := rfl
      by_cases q1 : overI n k w lo hi bb < overI n k w lo hi (hs h q.1 q.2)
      · have z : ¬ btr n k w A lo hi (hs h q.1 q.2) bb = true := by
          rw [B]
          simp only [Bool.or_eq_true, Bool.and_eq_true, decide_eq_true_eq]
          omega
        simp only [if_neg z]
        rw [if_pos ((lg_cmp_gt _ _).mpr ((lI_lt ⟨by omega, by omega⟩ ⟨by omega, by omega⟩).mpr q1))]
        exact other
      · rw [if_neg (fun z => q1 ((lI_lt ⟨by omega, by omega⟩ ⟨by omega, by omega⟩).mp ((lg_cmp_gt _ _).mp z)))]
        by_cases q2 : overI n k w lo hi (hs h q.1 q.2) = overI n k w lo hi bb
        · rw [if_pos ((lg_cmp_eq _ _).mpr (by rw [q2]))]
          by_cases q3 : cutI n A (hs h q.1 q.2) < cutI n A bb
          · have z : btr n k w A lo hi (hs h q.1 q.2) bb = true := by
              rw [B]
              simp only [Bool.or_eq_true, Bool.and_eq_true, decide_eq_true_eq]
              omega
            simp only [if_pos z]
            rw [if_pos ((lg_cmp_lt _ _).mpr ((lI_lt ⟨by omega, by omega⟩ ⟨by omega, by omega⟩).mpr q3))]
            exact rest z
          · have z : ¬ btr n k w A lo hi (hs h q.1 q.2) bb = true := by
              rw [B]
              simp only [Bool.or_eq_true, Bool.and_eq_true, decide_eq_true_eq]
              omega
            simp only [if_neg z]
            rw [if_neg (fun z => q3 ((lI_lt ⟨by omega, by omega⟩ ⟨by omega, by omega⟩).mp ((lg_cmp_lt _ _).mp z)))]
            exact other
        · have z : btr n k w A lo hi (hs h q.1 q.2) bb = true := by
            rw [B]
            simp only [Bool.or_eq_true, Bool.and_eq_true, decide_eq_true_eq]
            omega
          simp only [if_pos z]
          rw [if_neg (fun z => q2 ((lI_eq ⟨by omega, by omega⟩ ⟨by omega, by omega⟩).mp ((lg_cmp_eq _ _).mp z)))]
          exact rest z
theorem s_rpass {n k b : Nat} {w : Nat → Int} {A : Nat → Nat → Int} {h lo hi : Nat → Int} {LW LA least most best free row : Nat → Int32} (g : GOK n w A) (hL : RL n b w A LW LA) (hB : BOK k lo hi) (hb : RB k lo hi least most) (hr : RW n h row) (hh : HK n k h) : ∃ best' free' row', f_Re_pass (nI k) (nI n) (nI b) best free least LA LW most row = some ((if (pass1 n k w A lo hi h).2 = true then 1 else 0), best', free', row') ∧ RW n (pass1 n k w A lo hi h).1 row' := by
  have hn := g.1
  unfold f_Re_pass
  rw [s_rowOver g hL hr hB hb hh.ok, Option.bind_some, s_rowCut g hL hr hB.2.1 hh.ok, Option.bind_some]
  obtain ⟨f', s', e, hP⟩ := loopP (fun f i (s : (Nat → Int32) × (Nat → Int32)) => L_Re_pass_19 (nI k) (nI n) (nI b) least LA LW most row f (lI (overI n k w lo hi h)) (lI (cutI n A h)) (lI (overI n k w lo hi h)) (lI (cutI n A h)) (nI i) s.1 s.2) n (fun i s => (∀ j, j < i → s.1 j = row j) ∧ ∀ j, j < i → s.2 j = 1) (by
    intro f i s hi' hp
    obtain ⟨s1, s2⟩ := s
    obtain ⟨p1, p2⟩ := hp
    dsimp only at p1 p2
    show ∃ s', L_Re_pass_19 _ _ _ _ _ _ _ _ (f + 1) _ _ _ _ (nI i) s1 s2 = _ ∧ _
    rw [L_Re_pass_19, if_neg (nI_ge hi' (by omega)), ckn (by omega) (by decide), ckn (by omega) (by decide), ckn (by omega) (by decide), nI_clamp (by omega), nI_1]
    refine ⟨(upd s1 i (row i), upd s2 i (vp_nar .boolean 1)), rfl, fun j hj => ?_, fun j hj => ?_⟩
    · dsimp only
      by_cases q : j = i
      · subst q; rw [pk_us]
      · rw [pk_un q]; exact p1 j (by omega)
    · dsimp only
      by_cases q : j = i
      · subst q; rw [pk_us]; rfl
      · rw [pk_un q]; exact p2 j (by omega)) n 0 64 (best, free) (by omega) (by omega) ⟨fun j hj => absurd hj (Nat.not_lt_zero j), fun j hj => absurd hj (Nat.not_lt_zero j)⟩
  obtain ⟨b1, f1⟩ := s'
  obtain ⟨p1, p2⟩ := hP
  dsimp only at p1 p2
  have e : L_Re_pass_19 (nI k) (nI n) (nI b) least LA LW most row 64 (lI (overI n k w lo hi h)) (lI (cutI n A h)) (lI (overI n k w lo hi h)) (lI (cutI n A h)) 0 best free = L_Re_pass_19 (nI k) (nI n) (nI b) least LA LW most row (f' + 1) (lI (overI n k w lo hi h)) (lI (cutI n A h)) (lI (overI n k w lo hi h)) (lI (cutI n A h)) (nI n) b1 f1 := e
  rw [e, L_Re_pass_19, if_pos (nI_le (Nat.le_refl n) (by omega))]
  exact s_r62 g hL hB hb n 0 64 h h (fun _ => true) false b1 f1 row (by omega) (by omega) hr hh (fun i hi' => by rw [if_pos rfl]; exact p2 i hi') (fun i hi' => by rw [p1 i hi']; exact hr i hi')
theorem s_rpassesL {n k b : Nat} {w : Nat → Int} {A : Nat → Nat → Int} {lo hi : Nat → Int} {LW LA least most : Nat → Int32} (g : GOK n w A) (hL : RL n b w A LW LA) (hB : BOK k lo hi) (hb : RB k lo hi least most) : ∀ (m c f : Nat) (h : Nat → Int) (best free row : Nat → Int32), c + m = 8 → m < f → RW n h row → HK n k h → ∃ best' free' row', L_Re_passes_2 (nI k) (nI n) (nI b) least LA LW most f (nI c) best free row = some (nI (msL n k w A lo hi m c h).2, best', free', row') ∧ RW n (msL n k w A lo hi m c h).1 row' := by
  intro m
  induction m with
  | zero =>
    intro c f h best free row hc hf hr hh
    obtain ⟨f, rfl⟩ : ∃ z, f = z + 1 := ⟨f - 1, by omega⟩
    rw [L_Re_passes_2, if_pos (show (8 : Int32) ≤ nI c from nI_le (show 8 ≤ c by omega) (by omega))]
    exact ⟨_, _, _, rfl, hr⟩
  | succ m ih =>
    intro c f h best free row hc hf hr hh
    obtain ⟨f, rfl⟩ : ∃ z, f = z + 1 := ⟨f - 1, by omega⟩
    obtain ⟨b1, f1, r1, e, hr'⟩ := s_rpass (best := best) (free := free) g hL hB hb hr hh
    rw [L_Re_passes_2, if_neg (show ¬ (8 : Int32) ≤ nI c from nI_ge (show c < 8 by omega) (by decide)), e, Option.bind_some, nI_1]
    dsimp only
    unfold msL
    by_cases z : (pass1 n k w A lo hi h).2 = true
    · simp only [if_pos z]
      rw [if_neg (show ¬ (1 : Int32) = 0 by decide)]
      exact ih (c + 1) f _ _ _ _ (by omega) (by omega) hr' (pass1_HK hh)
    · simp only [if_neg z]
      rw [if_pos trivial]
      exact ⟨_, _, _, rfl, hr'⟩
theorem s_rpasses {n k b : Nat} {w : Nat → Int} {A : Nat → Nat → Int} {h lo hi : Nat → Int} {LW LA least most best free row : Nat → Int32} (g : GOK n w A) (hL : RL n b w A LW LA) (hB : BOK k lo hi) (hb : RB k lo hi least most) (hr : RW n h row) (hh : HK n k h) : ∃ best' free' row', f_Re_passes (nI k) (nI n) (nI b) best free least LA LW most row = some (nI (moves n k w A lo hi h).2, best', free', row') ∧ RW n (moves n k w A lo hi h).1 row' := by
  unfold f_Re_passes moves
  exact s_rpassesL g hL hB hb 8 0 64 h _ _ _ (by omega) (by omega) hr hh
