/-! THE RUN: down and up the levels -/
def fst1 (m k : Nat) (w : Nat → Int) (A : Nat → Nat → Int) (lo hi : Nat → Int) : Nat → Int := if m ≤ 6 then bst m k w A lo hi else grown m k w hi
theorem fst1_HK {m k : Nat} {w : Nat → Int} {A : Nat → Nat → Int} {lo hi : Nat → Int} (hk : 2 ≤ k) : HK m k (fst1 m k w A lo hi) := by
  unfold fst1
  by_cases q : m ≤ 6
  · rw [if_pos q]; exact (bst_ok hk).2
  · rw [if_neg q]; exact grown_HK hk
def rn (n k : Nat) (w : Nat → Int) (A : Nat → Nat → Int) (lo hi : Nat → Int) (c : Nat) : Nat → Nat → Int
  | 0 => (moves (lvN n k w A (c - 1)).1 k (lvW n k w A (c - 1)) (lvA n k w A (c - 1)) lo hi (fst1 (lvN n k w A (c - 1)).1 k (lvW n k w A (c - 1)) (lvA n k w A (c - 1)) lo hi)).1
  | d + 1 => (moves (lvN n k w A (c - 1 - (d + 1))).1 k (lvW n k w A (c - 1 - (d + 1))) (lvA n k w A (c - 1 - (d + 1))) lo hi (fun u => rn n k w A lo hi c d (lvJ n k w A (c - 1 - (d + 1)) u).toNat)).1
theorem lvJ_in {n k l u : Nat} {w : Nat → Int} {A : Nat → Nat → Int} (g : GOK n w A) (hu : u < (lvN n k w A l).1) : 0 ≤ lvJ n k w A l u ∧ lvJ n k w A l u < (lvN n k w A (l + 1)).1 := by
  obtain ⟨i, hi, e⟩ := (lv_HS (k := k) g l).2.1 u hu
  have h := (lv_HS (k := k) g (l + 1)).1 i hi
  have e2 : (lvN n k w A (l + 1)).2 i = lvJ n k w A l u := by
    rw [lvN_s]
    show lvJ n k w A l ((lvN n k w A l).2 i).toNat = _
    rw [e, Int.toNat_natCast]
  rw [e2] at h
  exact h
theorem moves_HK {n k : Nat} {w : Nat → Int} {A : Nat → Nat → Int} {lo hi h : Nat → Int} (hh : HK n k h) : HK n k (moves n k w A lo hi h).1 := msL_HK 8 0 h hh
theorem up_HK {n k l : Nat} {w : Nat → Int} {A : Nat → Nat → Int} {t : Nat → Int} (g : GOK n w A) (h : HK (lvN n k w A (l + 1)).1 k t) : HK (lvN n k w A l).1 k (fun u => t (lvJ n k w A l u).toNat) := by
  intro u hu
  have := lvJ_in g hu
  exact h (lvJ n k w A l u).toNat (by omega)
theorem rn_HK {n k c : Nat} {w : Nat → Int} {A : Nat → Nat → Int} {lo hi : Nat → Int} (g : GOK n w A) (hk : 2 ≤ k) : ∀ d, d < c → HK (lvN n k w A (c - 1 - d)).1 k (rn n k w A lo hi c d) := by
  intro d
  induction d with
  | zero => intro _; exact moves_HK (fst1_HK hk)
  | succ d ih =>
    intro hd
    have h1 := ih (by omega)
    rw [show c - 1 - d = c - 1 - (d + 1) + 1 by omega] at h1
    exact moves_HK (up_HK g h1)
theorem s_bringDown {n k l : Nat} {w : Nat → Int} {A : Nat → Nat → Int} {t : Nat → Int} {ho ls home low : Nat → Int32} (g : GOK n w A) (hl : l + 1 < lvC n k w A) (hV : CV n k (lvC n k w A) w A ho ls) (hr : RW n (fun i => t ((lvN n k w A (l + 1)).2 i).toNat) home) : ∃ low', f_Le_bringDown (nI l) (nI n) ho home low = some low' ∧ RW (lvN n k w A l).1 (fun u => t (lvJ n k w A l u).toNat) low' := by
  have hn := g.1
  have hc := (lvC_ok (k := k) g).2.2.2
  have hS := lv_HS (k := k) g l
  obtain ⟨f', s', e, hP⟩ := loopP (fun f i (s : Nat → Int32) => L_Le_bringDown_3 (nI l) (nI n) ho home f (nI i) s) n (fun i s => ∀ u, u < (lvN n k w A l).1 → (∃ j, j < i ∧ (lvN n k w A l).2 j = (u : Int)) → s u = iI (t (lvJ n k w A l u).toNat)) (by
    intro f i s hi hs'
    show ∃ s', L_Le_bringDown_3 _ _ _ _ (f + 1) (nI i) s = _ ∧ _
    have hr1 := hS.1 i hi
    have hm := hS.2.2
    obtain ⟨q, hq, e1, e2⟩ := iI_pn hr1.1 hr1.2
    have e3 : (lvN n k w A (l + 1)).2 i = lvJ n k w A l q := by
      rw [lvN_s]
      show lvJ n k w A l ((lvN n k w A l).2 i).toNat = _
      rw [e1, Int.toNat_natCast]
    rw [L_Le_bringDown_3, if_neg (nI_ge hi (by omega)), s_holder (by omega) (by omega), Option.bind_some, hV.2 l i (by omega) hi, e2, ckn (by omega) (by decide), ckn (by omega) (by decide), nI_clamp (show q < 2 ^ 31 by omega), nI_clamp (show i < 2 ^ 31 by omega), hr i hi, nI_1]
    refine ⟨upd s q (iI (t ((lvN n k w A (l + 1)).2 i).toNat)), rfl, fun u hu hj => ?_⟩
    by_cases z : u = q
    · subst z; rw [pk_us, e3]
    · rw [pk_un z]
      obtain ⟨j, hj1, hj2⟩ := hj
      refine hs' u hu ⟨j, ?_, hj2⟩
      by_cases y : j = i
      · subst y; rw [e1] at hj2; omega
      · omega) n 0 64 low (by omega) (by omega) (fun u _ ⟨j, hj, _⟩ => absurd hj (Nat.not_lt_zero j))
  have e : L_Le_bringDown_3 (nI l) (nI n) ho home 64 0 low = L_Le_bringDown_3 (nI l) (nI n) ho home (f' + 1) (nI n) s' := e
  refine ⟨s', ?_, fun u hu => hP u hu (hS.2.1 u hu)⟩
  unfold f_Le_bringDown
  rw [e, L_Le_bringDown_3, if_pos (nI_le (Nat.le_refl n) (by omega))]
theorem s_bringUp {n k l : Nat} {w : Nat → Int} {A : Nat → Nat → Int} {t : Nat → Int} {ho ls home low : Nat → Int32} (g : GOK n w A) (hl : l < lvC n k w A) (hV : CV n k (lvC n k w A) w A ho ls) (hr : RW (lvN n k w A l).1 t low) : ∃ home', f_Le_bringUp (nI l) (nI n) ho low home = some home' ∧ RW n (fun i => t ((lvN n k w A l).2 i).toNat) home' := by
  have hn := g.1
  have hc := (lvC_ok (k := k) g).2.2.2
  have hS := lv_HS (k := k) g l
  obtain ⟨f', s', e, hP⟩ := loopP (fun f i (s : Nat → Int32) => L_Le_bringUp_3 (nI l) (nI n) ho low f (nI i) s) n (fun i s => ∀ j, j < i → s j = iI (t ((lvN n k w A l).2 j).toNat)) (by
    intro f i s hi hs'
    show ∃ s', L_Le_bringUp_3 _ _ _ _ (f + 1) (nI i) s = _ ∧ _
    have hr1 := hS.1 i hi
    have hm := hS.2.2
    obtain ⟨q, hq, e1, e2⟩ := iI_pn hr1.1 hr1.2
    rw [L_Le_bringUp_3, if_neg (nI_ge hi (by omega)), s_holder (by omega) (by omega), Option.bind_some, hV.2 l i hl hi, e2, ckn (by omega) (by decide), ckn (by omega) (by decide), nI_clamp (show q < 2 ^ 31 by omega), nI_clamp (show i < 2 ^ 31 by omega), hr q hq, nI_1]
    refine ⟨upd s i (iI (t q)), rfl, fun j hj => ?_⟩
    by_cases z : j = i
    · subst z; rw [pk_us, e1, Int.toNat_natCast]
    · rw [pk_un z]; exact hs' j (by omega)) n 0 64 home (by omega) (by omega) (fun j hj => absurd hj (Nat.not_lt_zero j))
  have e : L_Le_bringUp_3 (nI l) (nI n) ho low 64 0 home = L_Le_bringUp_3 (nI l) (nI n) ho low (f' + 1) (nI n) s' := e
  refine ⟨s', ?_, hP⟩
  unfold f_Le_bringUp
  rw [e, L_Le_bringUp_3, if_pos (nI_le (Nat.le_refl n) (by omega))]
theorem s_splitFirst {n k : Nat} {w : Nat → Int} {A : Nat → Nat → Int} {lo hi : Nat → Int} {wt ar least most home sum sb ss st : Nat → Int32} {s0 s1 : Int32} (g : GOK n w A) (hC : CG n w A wt ar) (hB : BOK k lo hi) (hb : RB k lo hi least most) : ∃ home' o2 o3 o4 o5 o6 o7, f_Ba_splitFirst (nI k) least most (nI n) ar wt home sum s0 s1 sb ss st = some (home', o2, o3, o4, o5, o6, o7) ∧ RW n (fst1 n k w A lo hi) home' := by
  have hn := g.1
  unfold f_Ba_splitFirst fst1
  rw [show (6 : Int32) = nI 6 from rfl]
  by_cases q : n ≤ 6
  · obtain ⟨o1, o2, o3, o4, o5, home', e1, e2⟩ := s_findBest (best := sb) (tried := st) (home := home) g hC hB hb (by omega)
    rw [if_neg (nI_nlt q (by decide)), e1, Option.bind_some, if_pos q]
    exact ⟨_, _, _, _, _, _, _, rfl, e2⟩
  · obtain ⟨home', sum', e1, e2⟩ := s_growAll g hC hB hb
    rw [if_pos (nI_lt (by omega) (by omega)), e1, Option.bind_some, if_neg q]
    exact ⟨_, _, _, _, _, _, _, rfl, e2⟩
theorem s_run60 {n k : Nat} {w : Nat → Int} {A : Nat → Nat → Int} {lo hi : Nat → Int} {wt ar least most ho ls mate nb ll lm : Nat → Int32} (g : GOK n w A) (hC : CG n w A wt ar) (hB : BOK k lo hi) (hb : RB k lo hi least most) (hb2 : RB k lo hi ll lm) (hV : CV n k (lvC n k w A) w A ho ls) : ∀ (l f : Nat) (c0 o0 lsz b0 b1 b2 b3 b4 b5 s0 s1 : Int32) (lar lwt lhome llink lsum mb mf sb ss st home : Nat → Int32), l ≤ lvC n k w A → l < f → (l < lvC n k w A → RW n (fun i => rn n k w A lo hi (lvC n k w A) (lvC n k w A - 1 - l) ((lvN n k w A l).2 i).toNat) home) → (l = 0 → l < lvC n k w A) → ∃ o8 o9 o10 o11 o12 o13 o14 o15 o16 o17 o18 o19 o20 o21 o22 o23 o24 o25 o26 o27 o28 o29 o30 o31 o32 o33 home' o35 o36, L_Ba_run_60 (nI k) least most (nI n) ar wt f (nI (lvC n k w A) - 1) (nI l - 1) 1 (nI (lvC n k w A)) ho mate nb ls c0 o0 (nI k) ll lm lsz lar lwt lhome llink lsum b0 b1 b2 b3 b4 b5 mb mf s0 s1 sb ss st home = some (iI (if overI n k w lo hi (rn n k w A lo hi (lvC n k w A) (lvC n k w A - 1)) = 0 then cutI n A (rn n k w A lo hi (lvC n k w A) (lvC n k w A - 1)) else -10 - overI n k w lo hi (rn n k w A lo hi (lvC n k w A) (lvC n k w A - 1))), 1, nI (lvC n k w A), ho, mate, nb, ls, o8, o9, o10, o11, o12, o13, o14, o15, o16, o17, o18, o19, o20, o21, o22, o23, o24, o25, o26, o27, o28, o29, o30, o31, o32, o33, home', o35, o36) ∧ RW n (rn n k w A lo hi (lvC n k w A) (lvC n k w A - 1)) home' := by
  intro l
  have hc0 := (lvC_ok (k := k) g).1
  have hc := (lvC_ok (k := k) g).2.2.2
  have hn := g.1
  induction l with
  | zero =>
    intro f c0 o0 lsz b0 b1 b2 b3 b4 b5 s0 s1 lar lwt lhome llink lsum mb mf sb ss st home hl hf hr hz
    obtain ⟨f, rfl⟩ : ∃ e, f = e + 1 := ⟨f - 1, by omega⟩
    have hr1 : RW n (rn n k w A lo hi (lvC n k w A) (lvC n k w A - 1)) home := fun i hi' => hr hc0 i hi'
    have hk2 : HK n k (rn n k w A lo hi (lvC n k w A) (lvC n k w A - 1)) := by
      have := rn_HK (c := lvC n k w A) (lo := lo) (hi := hi) g hB.1 (lvC n k w A - 1) (by omega)
      rw [show lvC n k w A - 1 - (lvC n k w A - 1) = 0 by omega] at this
      exact this
    obtain ⟨q1, q2, q3, q4, e3⟩ := s_cutOrMiss g hC hr1 hB hb hk2
    rw [L_Ba_run_60, if_pos (show nI 0 - 1 < 0 by decide)]
    unfold J_Ba_run_180
    rw [e3, Option.bind_some]
    exact ⟨_, _, _, _, _, _, _, _, _, _, _, _, _, _, _, _, _, _, _, _, _, _, _, _, _, _, _, _, _, rfl, hr1⟩
  | succ l ih =>
    intro f c0 o0 lsz b0 b1 b2 b3 b4 b5 s0 s1 lar lwt lhome llink lsum mb mf sb ss st home hl hf hr hz
    obtain ⟨f, rfl⟩ : ∃ e, f = e + 1 := ⟨f - 1, by omega⟩
    obtain ⟨da, dw, e8, e9⟩ := s_drawLv g hC (show l < lvC n k w A by omega) hV
    have gl := lv_G (k := k) g l
    have step : ∀ (x1 : Int32) (lhome' lsum' sb' ss' st' : Nat → Int32) (s0' s1' : Int32) (t : Nat → Int), RW (lvN n k w A l).1 t lhome' → HK (lvN n k w A l).1 k t → rn n k w A lo hi (lvC n k w A) (lvC n k w A - 1 - l) = (moves (lvN n k w A l).1 k (lvW n k w A l) (lvA n k w A l) lo hi t).1 → x1 = nI (lvC n k w A) - 1 → ∃ o8 o9 o10 o11 o12 o13 o14 o15 o16 o17 o18 o19 o20 o21 o22 o23 o24 o25 o26 o27 o28 o29 o30 o31 o32 o33 home' o35 o36, J_Ba_run_130 (nI n) (L_Ba_run_60 (nI k) least most (nI n) ar wt f) x1 (nI l) 1 (nI (lvC n k w A)) ho mate nb ls c0 o0 (nI k) ll lm (nI (lvN n k w A l).1) da dw lhome' llink lsum' b0 b1 b2 b3 b4 b5 mb mf s0' s1' sb' ss' st' home = some (iI (if overI n k w lo hi (rn n k w A lo hi (lvC n k w A) (lvC n k w A - 1)) = 0 then cutI n A (rn n k w A lo hi (lvC n k w A) (lvC n k w A - 1)) else -10 - overI n k w lo hi (rn n k w A lo hi (lvC n k w A) (lvC n k w A - 1))), 1, nI (lvC n k w A), ho, mate, nb, ls, o8, o9, o10, o11, o12, o13, o14, o15, o16, o17, o18, o19, o20, o21, o22, o23, o24, o25, o26, o27, o28, o29, o30, o31, o32, o33, home', o35, o36) ∧ RW n (rn n k w A lo hi (lvC n k w A) (lvC n k w A - 1)) home' := by
      intro x1 lhome' lsum' sb' ss' st' s0' s1' t ht hk2 hrn hx
      obtain ⟨o1, o2, o3, o4, o5, o6, o7, o8, o9, o10, o11, o12, o13, f1, f2⟩ := s_doMoves (bo := b0) (bc := b1) (nn := b2) (np := b3) (no := b4) (ng := b5) (best := mb) (free := mf) (cut := c0) (over := o0) (link := llink) (sum := lsum') gl e9 ht hB hb2 hk2
      obtain ⟨home', f3, f4⟩ := s_bringUp (home := home) g (show l < lvC n k w A by omega) hV f2
      unfold J_Ba_run_130
      rw [f1, Option.bind_some]
      dsimp only
      rw [f3, Option.bind_some, nI_d1, hx]
      rw [← hrn] at f4
      exact ih f _ _ _ _ _ _ _ _ _ _ _ _ _ _ _ _ _ _ _ _ _ home' (by omega) (by omega) (fun _ => f4) (fun _ => by omega)
    rw [nI_p1, L_Ba_run_60, if_neg (nI_pos (by omega)), e8, Option.bind_some]
    dsimp only
    by_cases q : l + 1 = lvC n k w A
    · obtain ⟨h2, p2, p3, p4, p5, p6, p7, f1, f2⟩ := s_splitFirst (home := lhome) (sum := lsum) (sb := sb) (ss := ss) (st := st) (s0 := s0) (s1 := s1) gl e9 hB hb2
      rw [if_pos (show nI l = nI (lvC n k w A) - 1 by rw [← q, nI_p1]), f1, Option.bind_some]
      dsimp only
      refine step _ _ _ _ _ _ _ _ _ f2 (fst1_HK hB.1) ?_ rfl
      rw [show lvC n k w A - 1 - l = 0 by omega, rn, show lvC n k w A - 1 = l by omega]
    · obtain ⟨h2, f1, f2⟩ := s_bringDown (low := lhome) g (show l + 1 < lvC n k w A by omega) hV (hr (by omega))
      have h3 := rn_HK (c := lvC n k w A) (lo := lo) (hi := hi) g hB.1 (lvC n k w A - 1 - (l + 1)) (by omega)
      rw [show lvC n k w A - 1 - (lvC n k w A - 1 - (l + 1)) = l + 1 by omega] at h3
      rw [if_neg (show ¬ nI l = nI (lvC n k w A) - 1 by
        rw [show lvC n k w A = (lvC n k w A - 1) + 1 by omega, nI_p1]
        intro e
        have := (nI_eq (by omega) (by omega)).mp e
        omega), f1, Option.bind_some]
      refine step _ _ _ _ _ _ _ _ _ f2 (up_HK g h3) ?_ rfl
      have e10 : lvC n k w A - 1 - l = (lvC n k w A - 1 - (l + 1)) + 1 := by omega
      rw [e10, rn, show lvC n k w A - 1 - (lvC n k w A - 1 - (l + 1) + 1) = l by omega]
