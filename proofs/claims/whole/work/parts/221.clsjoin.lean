/-! THE CLASS joins a level -/
def limI (n k : Nat) (w : Nat → Int) : Int := sI w n / (2 * k)
theorem lim_iff {n k : Nat} {w : Nat → Int} {a : Int} (hk : 2 ≤ k) : a ≤ limI n k w ↔ a * (2 * k) ≤ sI w n := by
  unfold limI
  exact Int.le_ediv_iff_mul_le (by omega)
theorem s_total {n : Nat} {w : Nat → Int} {A : Nat → Nat → Int} {wt ar : Nat → Int32} (g : GOK n w A) (hC : CG n w A wt ar) : f_Gr_total (nI n) wt = some (iI (sI w n)) := by
  have hn := g.1
  obtain ⟨f', e⟩ := loopS (fun f i s => L_Gr_total_4 (nI n) wt f s (nI i)) n (fun i => iI (sI w i)) (by
    intro f i hi
    show L_Gr_total_4 _ _ (f + 1) _ (nI i) = _
    rw [L_Gr_total_4, if_neg (nI_ge hi (by omega)), ckn (by omega) (by decide), nI_clamp (by omega), hC.1 i hi, sI_s, iI_add, nI_1]) n 0 64 (by omega) (by omega)
  unfold f_Gr_total
  have e : L_Gr_total_4 (nI n) wt 64 0 0 = _ := e
  rw [e]
  show L_Gr_total_4 _ _ (f' + 1) _ (nI n) = _
  rw [L_Gr_total_4, if_pos (nI_le (Nat.le_refl n) (by omega))]
def nM (mt : Nat → Int) : Nat → Int := fun u => if mt u = -1 then -1 else 0
theorem s_bestMate {n k v : Nat} {w : Nat → Int} {A : Nat → Nat → Int} {mt : Nat → Int} {wt ar mate : Nat → Int32} (g : GOK n w A) (hC : CG n w A wt ar) (hk1 : 2 ≤ k) (hk : k ≤ 4) (hm : RW n mt mate) (hmr : ∀ u, u < n → -1 ≤ mt u ∧ mt u < n) (hv : v < n) : f_Le_bestMate (nI v) (iI (sI w n)) (2 * nI k) mate (nI n) ar wt = some (match mtF n w A (limI n k w) (nM mt) v with | none => -1 | some u => nI u) := by
  have hn := g.1
  have hwv := g.w32 hv
  have e2k : (2 : Int32) * nI k = iI (2 * k) := by rw [nI_iI, show (2 : Int32) = iI 2 from rfl, iI_mul]
  rw [e2k]
  have tot := g.2.2.1
  have tot0 : 0 ≤ sI w n := sI_nn (fun j hj => by have := g.2.1 j hj; omega)
  obtain ⟨f', s', e, hP⟩ := loopP (fun f i (s : Int32 × Int32 × Int32) => L_Le_bestMate_12 (nI v) (iI (sI w n)) (iI (2 * k)) mate (nI n) ar wt f s.1 s.2.1 s.2.2 (nI i)) n (fun i s => match fo (mtS w A (limI n k w) (nM mt) v) i none with | none => s.1 = -1 ∧ s.2.1 = 0 | some b => s.1 = nI b ∧ s.2.1 = iI (A v b) ∧ s.2.2 = iI (w b) ∧ b < n ∧ 0 < A v b) (by
    intro f i s hi hp
    obtain ⟨x5, x6, x7⟩ := s
    have ha := g.a32 hv hi
    have hw := g.w32 hi
    have hmi := hmr i hi
    have hlim := lim_iff (n := n) (w := w) (a := w v + w i) hk1
    show ∃ s', L_Le_bestMate_12 _ _ _ _ _ _ _ (f + 1) x5 x6 x7 (nI i) = _ ∧ _
    rw [fo_s]
    generalize fo (mtS w A (limI n k w) (nM mt) v) i none = S at hp ⊢
    -- the arc that counts
    have arcv : ∀ K : Int32 → Int32 → Int32 → Int32 → Option Int32, (∃ s' : Int32 × Int32 × Int32, J_Le_bestMate_43 (nI v) (iI (sI w n)) (iI (2 * k)) wt K (iI (if mt i = -1 then A v i else 0)) x5 x6 x7 (nI i) = K s'.1 s'.2.1 s'.2.2 (nI (i + 1)) ∧ match mtS w A (limI n k w) (nM mt) v i S with | none => s'.1 = -1 ∧ s'.2.1 = 0 | some b => s'.1 = nI b ∧ s'.2.1 = iI (A v b) ∧ s'.2.2 = iI (w b) ∧ b < n ∧ 0 < A v b) := by
      intro K
      have ra : r32 (if mt i = -1 then A v i else 0) := by
        by_cases z : mt i = -1
        · rw [if_pos z]; exact ⟨by omega, by omega⟩
        · rw [if_neg z]; exact ⟨by omega, by omega⟩
      unfold J_Le_bestMate_43
      rw [ckn (by omega) (by decide), ckn (by omega) (by decide), nI_clamp (by omega), nI_clamp (show i < 2 ^ 31 by omega), hC.1 v hv, hC.1 i hi, iI_add, iI_mul]
      unfold J_Le_bestMate_75 J_Le_bestMate_103 J_Le_bestMate_107 J_Le_bestMate_108
      rw [nI_1]
      have rm : r32 ((w v + w i) * (2 * k)) := by
        have : (w v + w i) * (2 * k) ≤ 80000 * 8 := Int.mul_le_mul (by omega) (by omega) (by omega) (by omega)
        have : 0 ≤ (w v + w i) * (2 * k) := Int.mul_nonneg (by omega) (by omega)
        exact ⟨by omega, by omega⟩
      have skip : mtS w A (limI n k w) (nM mt) v i S = S → ∀ b, (x5, x6, x7) = b → ∃ s' : Int32 × Int32 × Int32, K x5 x6 x7 (nI (i + 1)) = K s'.1 s'.2.1 s'.2.2 (nI (i + 1)) ∧ match mtS w A (limI n k w) (nM mt) v i S with | none => s'.1 = -1 ∧ s'.2.1 = 0 | some b => s'.1 = nI b ∧ s'.2.1 = iI (A v b) ∧ s'.2.2 = iI (w b) ∧ b < n ∧ 0 < A v b := by
        intro es b _
        rw [es]
        exact ⟨(x5, x6, x7), rfl, hp⟩
      by_cases ql : sI w n < (w v + w i) * (2 * k)
      · rw [if_pos ((iI_lt ⟨by omega, by omega⟩ rm).mpr ql)]
        simp only [eq_self_iff_true, if_true, ite_self]
        refine skip ?_ _ rfl
        unfold mtS
        rw [if_pos (Or.inr (Or.inr (by omega)))]
      · rw [if_neg (fun z => ql ((iI_lt ⟨by omega, by omega⟩ rm).mp z))]
        simp only [if_neg (show ¬ (1 : Int32) = 0 by decide), eq_self_iff_true, if_true]
        by_cases qm : mt i = -1
        · rw [if_pos qm]
          have nmi : nM mt i = -1 := if_pos qm
          by_cases qz : A v i = 0
          · have es : mtS w A (limI n k w) (nM mt) v i S = S := by
              unfold mtS
              rw [if_pos (Or.inl qz)]
            rw [qz]
            have z6 : ¬ x6 < iI 0 := by
              cases S with
              | none => have h6 : x6 = 0 := hp.2; rw [h6]; decide
              | some b =>
                have hb := hp.2.2.2.1
                have hb2 := hp.2.2.2.2
                have := g.a32 hv hb
                have h6 : x6 = iI (A v b) := hp.2.1
                rw [h6]
                exact fun z => absurd ((iI_lt ⟨by omega, by omega⟩ ⟨by omega, by omega⟩).mp z) (by omega)
            rw [if_neg z6, if_pos (show iI 0 ≤ 0 by decide)]
            exact skip es _ rfl
          · have nc : ¬ (A v i = 0 ∨ 0 ≤ nM mt i ∨ limI n k w < w v + w i) := by
              rw [nmi]
              have := hlim.mpr (by omega)
              omega
            cases S with
            | none =>
              obtain ⟨c1, c2⟩ := hp
              dsimp only at c1 c2
              rw [c2, if_pos (show (0 : Int32) < iI (A v i) from (iI_lt (a := 0) ⟨by omega, by omega⟩ ⟨by omega, by omega⟩).mpr (by omega))]
              refine ⟨(nI i, iI (A v i), iI (w i)), rfl, ?_⟩
              unfold mtS
              rw [if_neg nc]
              exact ⟨rfl, rfl, rfl, hi, by omega⟩
            | some b =>
              obtain ⟨c1, c2, c3, c4, c5⟩ := hp
              dsimp only at c1 c2 c3
              have hab := g.a32 hv c4
              have hwb := g.w32 c4
              rw [c2, c3]
              by_cases y1 : A v b < A v i
              · rw [if_pos ((iI_lt ⟨by omega, by omega⟩ ⟨by omega, by omega⟩).mpr y1)]
                refine ⟨(nI i, iI (A v i), iI (w i)), rfl, ?_⟩
                unfold mtS
                rw [if_neg nc]
                dsimp only
                rw [if_pos (Or.inl y1)]
                exact ⟨rfl, rfl, rfl, hi, by omega⟩
              · rw [if_neg (fun z => y1 ((iI_lt ⟨by omega, by omega⟩ ⟨by omega, by omega⟩).mp z)), if_neg (show ¬ iI (A v i) ≤ 0 from fun z => absurd ((iI_le (b := 0) ⟨by omega, by omega⟩ ⟨by omega, by omega⟩).mp z) (by omega))]
                by_cases y2 : A v i = A v b
                · rw [if_pos (show iI (A v i) = iI (A v b) by rw [y2])]
                  by_cases y3 : w i < w b
                  · rw [if_neg (fun z => absurd ((iI_le ⟨by omega, by omega⟩ ⟨by omega, by omega⟩).mp z) (by omega))]
                    refine ⟨(nI i, iI (A v i), iI (w i)), rfl, ?_⟩
                    unfold mtS
                    rw [if_neg nc]
                    dsimp only
                    rw [if_pos (Or.inr ⟨y2, y3⟩)]
                    exact ⟨rfl, rfl, rfl, hi, by omega⟩
                  · rw [if_pos ((iI_le ⟨by omega, by omega⟩ ⟨by omega, by omega⟩).mpr (by omega))]
                    refine ⟨(x5, iI (A v b), iI (w b)), rfl, ?_⟩
                    unfold mtS
                    rw [if_neg nc]
                    dsimp only
                    rw [if_neg (by omega)]
                    exact ⟨c1, rfl, rfl, c4, c5⟩
                · rw [if_neg (fun z => y2 ((iI_eq ⟨by omega, by omega⟩ ⟨by omega, by omega⟩).mp z))]
                  refine ⟨(x5, iI (A v b), iI (w b)), rfl, ?_⟩
                  unfold mtS
                  rw [if_neg nc]
                  dsimp only
                  rw [if_neg (by omega)]
                  exact ⟨c1, rfl, rfl, c4, c5⟩
        · rw [if_neg qm]
          have nmi : nM mt i = 0 := if_neg qm
          have es : mtS w A (limI n k w) (nM mt) v i S = S := by
            unfold mtS
            rw [if_pos (Or.inr (Or.inl (by omega)))]
          have z6 : ¬ x6 < iI 0 := by
            cases S with
            | none => have h6 : x6 = 0 := hp.2; rw [h6]; decide
            | some b =>
              have hb := hp.2.2.2.1
              have hb2 := hp.2.2.2.2
              have := g.a32 hv hb
              have h6 : x6 = iI (A v b) := hp.2.1
              rw [h6]
              exact fun z => absurd ((iI_lt ⟨by omega, by omega⟩ ⟨by omega, by omega⟩).mp z) (by omega)
          rw [if_neg z6, if_pos (show iI 0 ≤ 0 by decide)]
          exact skip es _ rfl
    rw [L_Le_bestMate_12, if_neg (nI_ge hi (by omega)), ckn (by omega) (by decide), nI_clamp (by omega), hm i hi]
    by_cases qm : mt i = -1
    · rw [if_pos (show iI (mt i) = -1 by rw [qm]; rfl), s_garc (by omega) (by omega), Option.bind_some, hC.2 v i hv hi]
      have := arcv (L_Le_bestMate_12 (nI v) (iI (sI w n)) (iI (2 * k)) mate (nI n) ar wt f)
      rw [if_pos qm] at this
      exact this
    · rw [if_neg (show ¬ iI (mt i) = -1 from fun z => qm ((iI_eq (b := -1) ⟨by omega, by omega⟩ ⟨by omega, by omega⟩).mp z))]
      have := arcv (L_Le_bestMate_12 (nI v) (iI (sI w n)) (iI (2 * k)) mate (nI n) ar wt f)
      rw [if_neg qm] at this
      exact this) n 0 64 (-1, 0, 0) (by omega) (by omega) ⟨rfl, rfl⟩
  obtain ⟨x5, x6, x7⟩ := s'
  have e : L_Le_bestMate_12 (nI v) (iI (sI w n)) (iI (2 * k)) mate (nI n) ar wt 64 (-1) 0 0 0 = L_Le_bestMate_12 (nI v) (iI (sI w n)) (iI (2 * k)) mate (nI n) ar wt (f' + 1) x5 x6 x7 (nI n) := e
  unfold f_Le_bestMate mtF
  rw [e, L_Le_bestMate_12, if_pos (nI_le (Nat.le_refl n) (by omega))]
  generalize fo (mtS w A (limI n k w) (nM mt) v) n none = S at hP ⊢
  cases S with
  | none => have hP : x5 = -1 := hP.1; rw [hP]
  | some u => have hP : x5 = nI u := hP.1; rw [hP]
