theorem RW_hs2 {n v u : Nat} {mt : Nat → Int} {mate : Nat → Int32} (h : RW n mt mate) : RW n (hs (hs mt v u) u v) (upd (upd mate v (nI u)) u (nI v)) := by
  rw [nI_iI, nI_iI]
  exact (h.hs v u).hs u v
theorem s_joinAll {n k : Nat} {w : Nat → Int} {A : Nat → Nat → Int} {wt ar : Nat → Int32} (g : GOK n w A) (hC : CG n w A wt ar) (hk1 : 2 ≤ k) (hk : k ≤ 4) : ∃ x mate, f_Le_joinAll (nI k) (nI n) ar wt = some (x, mate) ∧ RW n (jF n w A (limI n k w) n).2.2 mate ∧ ((x = 0 ∧ ∀ u, u < n → (jF n w A (limI n k w) n).2.2 u = -1) ∨ (x = 1 ∧ ∃ u, u < n ∧ (jF n w A (limI n k w) n).2.2 u ≠ -1)) := by
  have hn := g.1
  have hsy := g.2.2.2.2.2.1
  have hd := g.2.2.2.2.2.2
  obtain ⟨f', s', e, hP⟩ := loopP (fun f i (s : Int32 × (Nat → Int32)) => L_Le_joinAll_19 (nI k) (nI n) ar wt f (iI (sI w n)) s.1 (nI i) s.2) n (fun i s => RW n (jF n w A (limI n k w) i).2.2 s.2 ∧ ((s.1 = 0 ∧ ∀ u, u < n → (jF n w A (limI n k w) i).2.2 u = -1) ∨ (s.1 = 1 ∧ ∃ u, u < n ∧ (jF n w A (limI n k w) i).2.2 u ≠ -1))) (by
    intro f i s hi hp
    obtain ⟨x4, mate⟩ := s
    obtain ⟨p1, p2⟩ := hp
    dsimp only at p1 p2
    have hJ := jF_ok (w := w) (lim := limI n k w) hsy hd i (by omega)
    have es : jF n w A (limI n k w) (i + 1) = jS n w A (limI n k w) i (jF n w A (limI n k w) i) := rfl
    show ∃ s', L_Le_joinAll_19 _ _ _ _ (f + 1) _ x4 (nI i) mate = _ ∧ _
    rw [es]
    generalize jF n w A (limI n k w) i = s at hJ p1 p2 ⊢
    obtain ⟨num, many, mt⟩ := s
    obtain ⟨j1, j2, j3, j4, j5, j6, j7, j8, j9⟩ := hJ
    dsimp only at p1 p2 j1 j2 j3 j4 j5 j6 j7 j8 j9
    have hmr : ∀ u, u < n → -1 ≤ mt u ∧ mt u < n := fun u hu => by
      rcases j4 u hu with a | a
      · rw [a]; omega
      · omega
    rw [L_Le_joinAll_19, if_neg (nI_ge hi (by omega)), ckn (by omega) (by decide), nI_clamp (by omega), p1 i hi]
    unfold jS J_Le_joinAll_54
    dsimp only
    by_cases q : 0 ≤ num i
    · have h5 := j5 i (Nat.le_refl i) hi q
      have hne : ¬ iI (mt i) = -1 := fun z => by
        have := (iI_eq (b := -1) ⟨by omega, by omega⟩ ⟨by omega, by omega⟩).mp z
        omega
      rw [if_neg hne, if_pos q, if_pos (show (-1 : Int32) = -1 from rfl), nI_1]
      exact ⟨(x4, mate), rfl, p1, p2⟩
    · have hm1 := j6 i hi (by omega)
      rw [if_pos (show iI (mt i) = -1 by rw [hm1]; rfl), if_neg q, s_bestMate g hC hk1 hk p1 hmr hi, Option.bind_some]
      have ec : mtF n w A (limI n k w) (nM mt) i = mtF n w A (limI n k w) num i := by
        refine mtF_congr n (fun u hu => ?_)
        unfold nM
        by_cases z : mt u = -1
        · rw [if_pos z]
          by_cases y : 0 ≤ num u
          · have hui : u < i := by
              by_cases y2 : u < i
              · exact y2
              · have := j5 u (by omega) hu y; omega
            have h7 := j7 u i hui hu hi z hm1
            rw [hsy i u hi hu]
            omega
          · omega
        · rw [if_neg z]
          rcases j4 u hu with a | a
          · exact absurd a z
          · omega
      rw [ec]
      cases hq : mtF n w A (limI n k w) num i with
      | none =>
        dsimp only
        rw [if_pos (show (-1 : Int32) = -1 from rfl), nI_1]
        exact ⟨(x4, mate), rfl, p1, p2⟩
      | some u =>
        dsimp only
        have c := mtF_ok n (Nat.le_refl n) u hq
        rw [if_neg (nI_m1 u (by omega)), ckn (by omega) (by decide), ckn (by omega) (by decide), nI_clamp (show u < 2 ^ 31 by omega), nI_clamp (show i < 2 ^ 31 by omega), nI_1]
        exact ⟨(1, upd (upd mate i (nI u)) u (nI i)), rfl, RW_hs2 p1, Or.inr ⟨rfl, u, c.1, by rw [hs_s]; omega⟩⟩) n 0 64 (0, fun _ => -1) (by omega) (by omega) ⟨fun i hi => rfl, Or.inl ⟨rfl, fun u _ => rfl⟩⟩
  obtain ⟨x, mate⟩ := s'
  unfold f_Le_joinAll
  rw [s_total g hC, Option.bind_some]
  have e : L_Le_joinAll_19 (nI k) (nI n) ar wt 64 (iI (sI w n)) 0 0 (fun _ => -1) = L_Le_joinAll_19 (nI k) (nI n) ar wt (f' + 1) (iI (sI w n)) x (nI n) mate := e
  have hB : okB x = true := by
    rcases hP.2 with a | a
    · have a := a.1; dsimp only at a; rw [a]; decide
    · have a := a.1; dsimp only at a; rw [a]; decide
  rw [e, L_Le_joinAll_19, if_pos (nI_le (Nat.le_refl n) (by omega)), ck_true hB]
  exact ⟨x, mate, rfl, hP.1, hP.2⟩
theorem s_numberJoined {n : Nat} {w : Nat → Int} {A : Nat → Nat → Int} {lim : Int} {mate number : Nat → Int32} (hn : n ≤ 40) (hsy : ∀ i j, i < n → j < n → A i j = A j i) (hd : ∀ i, i < n → A i i = 0) (hm : RW n (jF n w A lim n).2.2 mate) : ∃ number', f_Le_numberJoined (nI n) mate number = some (nI (jF n w A lim n).2.1, number') ∧ RW n (jF n w A lim n).1 number' := by
  have HJ := jF_ok (w := w) (lim := lim) hsy hd n (Nat.le_refl n)
  obtain ⟨f', s', e, hP⟩ := loopP (fun f i (s : Int32 × (Nat → Int32)) => L_Le_numberJoined_4 (nI n) mate f s.1 (nI i) s.2) n (fun i s => s.1 = nI (jF n w A lim i).2.1 ∧ ∀ u, u < i → s.2 u = iI ((jF n w A lim n).1 u)) (by
    intro f i s hi hp
    obtain ⟨x2, nb⟩ := s
    obtain ⟨p1, p2⟩ := hp
    dsimp only at p1 p2
    have hJ := jF_ok (w := w) (lim := lim) hsy hd i (by omega)
    have es : jF n w A lim (i + 1) = jS n w A lim i (jF n w A lim i) := rfl
    have hJ1 := jF_ok (w := w) (lim := lim) hsy hd (i + 1) (by omega)
    have keep1 := jF_keep (w := w) (A := A) (lim := lim) (v := i + 1) (u := i) (n := n) (hJ1.1 i (by omega)) (n - (i + 1))
    rw [show i + 1 + (n - (i + 1)) = n by omega] at keep1
    show ∃ s', L_Le_numberJoined_4 _ _ (f + 1) x2 (nI i) nb = _ ∧ _
    have hmi := hm i hi
    rw [L_Le_numberJoined_4, if_neg (nI_ge hi (by omega)), ckn (by omega) (by decide), nI_clamp (by omega), hmi]
    unfold J_Le_numberJoined_29 J_Le_numberJoined_34 J_Le_numberJoined_61
    have upn : ∀ y : Int32, y = iI ((jF n w A lim n).1 i) → ∀ u, u < i + 1 → upd nb i y u = iI ((jF n w A lim n).1 u) := by
      intro y hy u hu
      by_cases z : u = i
      · subst z; rw [pk_us, hy]
      · rw [pk_un z]; exact p2 u (by omega)
    by_cases q : 0 ≤ (jF n w A lim i).1 i
    · -- joined with an earlier one
      have keep0 := jF_keep (w := w) (A := A) (lim := lim) (v := i) (u := i) (n := n) q (n - i)
      rw [show i + (n - i) = n by omega] at keep0
      have h5 := hJ.2.2.2.2.1 i (Nat.le_refl i) hi q
      have hM : 0 ≤ (jF n w A lim n).2.2 i ∧ (jF n w A lim n).2.2 i < i := by rw [keep0.2]; exact h5
      have h8 := HJ.2.2.2.2.2.2.2.1 i hi hM.1
      have em : (jF n w A lim (i + 1)).2.1 = (jF n w A lim i).2.1 := by
        rw [es]
        unfold jS
        rw [if_pos q]
      obtain ⟨c, hc, ec, en⟩ := iI_pn (p := i) hM.1 hM.2
      rw [if_neg (show ¬ iI ((jF n w A lim n).2.2 i) = -1 by rw [en]; exact nI_m1 c (by omega)), en, ckn (by omega) (by decide), if_pos (nI_le (by omega) (by omega))]
      simp only [eq_self_iff_true, if_true]
      rw [ckn (by omega) (by decide), nI_clamp (show i < 2 ^ 31 by omega), hmi, en, ckn (by omega) (by decide), ckn (by omega) (by decide), nI_clamp (show c < 2 ^ 31 by omega), nI_1, p1, Int32.add_zero]
      refine ⟨(nI (jF n w A lim i).2.1, upd nb i (nb c)), rfl, by rw [em], upn _ ?_⟩
      rw [p2 c hc]
      rw [ec, Int.toNat_natCast] at h8
      rw [h8]
    · have em : (jF n w A lim (i + 1)).2.1 = (jF n w A lim i).2.1 + 1 ∧ (jF n w A lim (i + 1)).1 i = (jF n w A lim i).2.1 ∧ ((jF n w A lim (i + 1)).2.2 i = -1 ∨ (i : Int) < (jF n w A lim (i + 1)).2.2 i) := by
        have h6 := hJ.2.2.2.2.2.1 i hi (by omega)
        have h1 := hJ.1
        rw [es]
        generalize jF n w A lim i = s at q h6 h1 ⊢
        unfold jS
        rw [if_neg q]
        cases hq : mtF n w A lim s.1 i with
        | none => dsimp only; rw [hs_s]; exact ⟨rfl, rfl, Or.inl h6⟩
        | some u0 =>
          dsimp only
          have c := mtF_ok n (Nat.le_refl n) u0 hq
          have n1 : u0 ≠ i := fun z => by subst z; exact c.2.1 (hd u0 c.1)
          have n2 : ¬ u0 < i := fun z => by have := h1 u0 z; omega
          rw [hs_n (show i ≠ u0 from fun z => n1 z.symm), hs_s, hs_n (show i ≠ u0 from fun z => n1 z.symm), hs_s]
          exact ⟨rfl, rfl, Or.inr (by omega)⟩
      rw [← keep1.2] at em
      have hres : ∃ s' : Int32 × (Nat → Int32), L_Le_numberJoined_4 (nI n) mate f (x2 + 1) (nI i + 1) (upd nb i x2) = L_Le_numberJoined_4 (nI n) mate f s'.1 (nI (i + 1)) s'.2 ∧ s'.1 = nI (jF n w A lim (i + 1)).2.1 ∧ ∀ u, u < i + 1 → s'.2 u = iI ((jF n w A lim n).1 u) := by
        rw [nI_1, p1, nI_1]
        refine ⟨(nI ((jF n w A lim i).2.1 + 1), upd nb i (nI (jF n w A lim i).2.1)), rfl, by rw [em.1], upn _ ?_⟩
        rw [keep1.1, em.2.1, nI_iI]
      have n0 : ¬ (1 : Int32) = 0 := by decide
      rcases em.2.2 with a | a
      · rw [a, if_pos (show iI (-1) = -1 from rfl)]
        simp only [if_neg n0]
        rw [ckn (by omega) (by decide), nI_clamp (show i < 2 ^ 31 by omega)]
        exact hres
      · have hr : (jF n w A lim n).2.2 i < n := by
          rcases HJ.2.2.2.1 i hi with b | b
          · omega
          · exact b.2.1
        rw [if_neg (show ¬ iI ((jF n w A lim n).2.2 i) = -1 from fun z => by
          have := (iI_eq (b := -1) ⟨by omega, by omega⟩ ⟨by omega, by omega⟩).mp z
          omega), ckn (by omega) (by decide), if_neg (show ¬ iI ((jF n w A lim n).2.2 i) ≤ nI i from fun z => by
          rw [nI_iI] at z
          have := (iI_le ⟨by omega, by omega⟩ ⟨by omega, by omega⟩).mp z
          omega)]
        simp only [if_neg n0]
        rw [ckn (by omega) (by decide), nI_clamp (show i < 2 ^ 31 by omega)]
        exact hres) n 0 64 (0, number) (by omega) (by omega) ⟨rfl, fun u hu => absurd hu (Nat.not_lt_zero u)⟩
  obtain ⟨x, nb⟩ := s'
  obtain ⟨p1, p2⟩ := hP
  dsimp only at p1 p2
  have e : L_Le_numberJoined_4 (nI n) mate 64 0 0 number = L_Le_numberJoined_4 (nI n) mate (f' + 1) x (nI n) nb := e
  unfold f_Le_numberJoined
  rw [e, L_Le_numberJoined_4, if_pos (nI_le (Nat.le_refl n) (by omega)), p1]
  exact ⟨nb, rfl, p2⟩
