/-! THE REFERENCE joins a level -/
def RI (n l : Nat) (num : Nat → Int) (LI : Nat → Int32) : Prop := ∀ u, u < n → LI (40 * l + u) = iI (num u)
theorem s_rmate {n l v : Nat} {w : Nat → Int} {A : Nat → Nat → Int} {num : Nat → Int} {lim : Int} {LW LA LI LN : Nat → Int32} (g : GOK n w A) (hL : RL n l w A LW LA) (hLN : LN l = nI n) (hI : RI n l num LI) (hnr : ∀ u, u < n → -1 ≤ num u ∧ num u < 100) (hlr : r64 lim) (hv : v < n) : f_Re_mate (nI l) (nI v) (lI lim) LA LI LN LW = some (match mtF n w A lim num v with | none => -1 | some u => nI u) := by
  have hn := g.1
  have hl := hL.1
  have hwv := g.w32 hv
  obtain ⟨f', s', e, hP⟩ := loopP (fun f i (s : Int32 × Int32) => L_Re_mate_9 (nI l) (nI v) (lI lim) LA LI LN LW f s.1 s.2 (nI i)) n (fun i s => match fo (mtS w A lim num v) i none with | none => s.1 = -1 | some b => s.1 = nI b ∧ s.2 = iI (A v b) ∧ b < n) (by
    intro f i s hi hp
    obtain ⟨x5, x6⟩ := s
    have ha := g.a32 hv hi
    have hw := g.w32 hi
    have hni := hnr i hi
    show ∃ s', L_Re_mate_9 _ _ _ _ _ _ _ (f + 1) x5 x6 (nI i) = _ ∧ _
    rw [L_Re_mate_9, ckn (by omega) (by decide), nI_clamp (by omega), hLN, if_neg (nI_ge hi (by omega)), n1600, ckn (by omega) (by decide), nI_clamp (by omega), hL.2.2 v i hv hi, nI_1, fo_s]
    generalize fo (mtS w A lim num v) i none = S at hp ⊢
    have stay : mtS w A lim num v i S = S → ∃ s' : Int32 × Int32, L_Re_mate_9 (nI l) (nI v) (lI lim) LA LI LN LW f x5 x6 (nI (i + 1)) = L_Re_mate_9 (nI l) (nI v) (lI lim) LA LI LN LW f s'.1 s'.2 (nI (i + 1)) ∧ match mtS w A lim num v i S with | none => s'.1 = -1 | some b => s'.1 = nI b ∧ s'.2 = iI (A v b) ∧ b < n := by
      intro es
      rw [es]
      exact ⟨(x5, x6), rfl, hp⟩
    by_cases q0 : i = v
    · rw [if_pos (by rw [q0])]
      refine stay ?_
      unfold mtS
      rw [if_pos (Or.inl (by rw [q0]; exact g.2.2.2.2.2.2 v hv))]
    · rw [if_neg (fun z => q0 ((nI_eq (by omega) (by omega)).mp z))]
      by_cases q1 : A v i = 0
      · rw [if_pos (show iI (A v i) = 0 by rw [q1]; rfl)]
        refine stay ?_
        unfold mtS
        rw [if_pos (Or.inl q1)]
      · rw [if_neg (show ¬ iI (A v i) = 0 from fun z => q1 ((iI_eq (b := 0) ⟨by omega, by omega⟩ ⟨by omega, by omega⟩).mp z)), n40', ckn (by omega) (by decide), nI_clamp (by omega), hI i hi]
        by_cases q2 : 0 ≤ num i
        · rw [if_pos (show 0 ≤ iI (num i) from (iI_le (a := 0) ⟨by omega, by omega⟩ ⟨by omega, by omega⟩).mpr q2)]
          refine stay ?_
          unfold mtS
          rw [if_pos (Or.inr (Or.inl q2))]
        · rw [if_neg (show ¬ 0 ≤ iI (num i) from fun z => q2 ((iI_le (a := 0) ⟨by omega, by omega⟩ ⟨by omega, by omega⟩).mp z)), n40', ckn (by omega) (by decide), ckn (by omega) (by decide), nI_clamp (show 40 * l + v < 2 ^ 31 by omega), hL.2.1 v hv, hL.2.1 i hi, iI_add, iI_l ⟨by omega, by omega⟩]
          by_cases q3 : w v + w i ≤ lim
          · rw [if_pos ((lg_cmp_le _ _).mpr ((lI_le ⟨by omega, by omega⟩ hlr).mpr q3))]
            have nc : ¬ (A v i = 0 ∨ 0 ≤ num i ∨ lim < w v + w i) := by omega
            unfold J_Re_mate_145 J_Re_mate_149 J_Re_mate_150
            simp only [if_neg (show ¬ (1 : Int32) = 0 by decide), eq_self_iff_true, if_true]
            rw [nI_1]
            cases S with
            | none =>
              have hp : x5 = -1 := hp
              rw [if_pos (show x5 < 0 by rw [hp]; decide)]
              refine ⟨(nI i, iI (A v i)), rfl, ?_⟩
              unfold mtS
              rw [if_neg nc]
              exact ⟨rfl, rfl, hi⟩
            | some b =>
              obtain ⟨c1, c2, c3⟩ := hp
              dsimp only at c1 c2
              have hab := g.a32 hv c3
              have hwb := g.w32 c3
              rw [c1, c2, if_neg (nI_pos (by omega))]
              by_cases y1 : A v b < A v i
              · rw [if_pos ((iI_lt ⟨by omega, by omega⟩ ⟨by omega, by omega⟩).mpr y1)]
                refine ⟨(nI i, iI (A v i)), rfl, ?_⟩
                unfold mtS
                rw [if_neg nc]
                dsimp only
                rw [if_pos (Or.inl y1)]
                exact ⟨rfl, rfl, hi⟩
              · rw [if_neg (fun z => y1 ((iI_lt ⟨by omega, by omega⟩ ⟨by omega, by omega⟩).mp z))]
                by_cases y2 : A v i = A v b
                · rw [if_pos (show iI (A v i) = iI (A v b) by rw [y2]), ckn (by omega) (by decide), n40', ckn (by omega) (by decide), nI_clamp (show 40 * l + b < 2 ^ 31 by omega), hL.2.1 b c3]
                  by_cases y3 : w i < w b
                  · rw [if_neg (fun z => absurd ((iI_le ⟨by omega, by omega⟩ ⟨by omega, by omega⟩).mp z) (by omega))]
                    refine ⟨(nI i, iI (A v i)), rfl, ?_⟩
                    unfold mtS
                    rw [if_neg nc]
                    dsimp only
                    rw [if_pos (Or.inr ⟨y2, y3⟩)]
                    exact ⟨rfl, rfl, hi⟩
                  · rw [if_pos ((iI_le ⟨by omega, by omega⟩ ⟨by omega, by omega⟩).mpr (by omega))]
                    refine ⟨(nI b, iI (A v b)), rfl, ?_⟩
                    unfold mtS
                    rw [if_neg nc]
                    dsimp only
                    rw [if_neg (by omega)]
                    exact ⟨rfl, rfl, c3⟩
                · rw [if_neg (fun z => y2 ((iI_eq ⟨by omega, by omega⟩ ⟨by omega, by omega⟩).mp z))]
                  refine ⟨(nI b, iI (A v b)), rfl, ?_⟩
                  unfold mtS
                  rw [if_neg nc]
                  dsimp only
                  rw [if_neg (by omega)]
                  exact ⟨rfl, rfl, c3⟩
          · rw [if_neg (fun z => q3 ((lI_le ⟨by omega, by omega⟩ hlr).mp ((lg_cmp_le _ _).mp z)))]
            refine stay ?_
            unfold mtS
            rw [if_pos (Or.inr (Or.inr (by omega)))]) n 0 64 (-1, 0) (by omega) (by omega) rfl
  obtain ⟨x5, x6⟩ := s'
  have e : L_Re_mate_9 (nI l) (nI v) (lI lim) LA LI LN LW 64 (-1) 0 0 = L_Re_mate_9 (nI l) (nI v) (lI lim) LA LI LN LW (f' + 1) x5 x6 (nI n) := e
  unfold f_Re_mate mtF
  rw [e, L_Re_mate_9, ckn (by omega) (by decide), nI_clamp (by omega), hLN, if_pos (nI_le (Nat.le_refl n) (by omega))]
  generalize fo (mtS w A lim num v) n none = S at hP ⊢
  cases S with
  | none => have hP : x5 = -1 := hP; rw [hP]
  | some u => have hP : x5 = nI u := hP.1; rw [hP]
theorem RI_hs {n l v : Nat} {num : Nat → Int} {x : Int} {LI : Nat → Int32} (h : RI n l num LI) : RI n l (hs num v x) (upd LI (40 * l + v) (iI x)) := by
  intro u hu
  by_cases z : u = v
  · subst z; rw [pk_us, hs_s]
  · rw [pk_un (by omega), hs_n z]; exact h u hu
/-- the numbers of the next level -/
theorem s_r70 {n l : Nat} {w : Nat → Int} {A : Nat → Nat → Int} {lim : Int} {LW LA LI LN : Nat → Int32} {lv : Int32} (g : GOK n w A) (hL : RL n l w A LW LA) (hLN : LN l = nI n) (hI : RI n l (fun _ => -1) LI) (hlr : r64 lim) : ∃ LI', L_Re_next_70 (nI l) lv LA LN LW 64 (nI n) (lI lim) 0 0 LI = J_Re_next_147 (nI l) lv LA LN LW (nI n) (nI (jF n w A lim n).2.1) LI' ∧ RI n l (jF n w A lim n).1 LI' ∧ ∀ j, (j < 40 * l ∨ 40 * l + n ≤ j) → LI' j = LI j := by
  have hn := g.1
  have hl := hL.1
  have hsy := g.2.2.2.2.2.1
  have hd := g.2.2.2.2.2.2
  obtain ⟨f', s', e, hP⟩ := loopP (fun f i (s : Int32 × (Nat → Int32)) => L_Re_next_70 (nI l) lv LA LN LW f (nI n) (lI lim) s.1 (nI i) s.2) n (fun i s => s.1 = nI (jF n w A lim i).2.1 ∧ RI n l (jF n w A lim i).1 s.2 ∧ ∀ j, (j < 40 * l ∨ 40 * l + n ≤ j) → s.2 j = LI j) (by
    intro f i s hi hp
    obtain ⟨x7, li⟩ := s
    obtain ⟨p1, p2, p3⟩ := hp
    dsimp only at p1 p2 p3
    have hJ := jF_ok (w := w) (lim := lim) hsy hd i (by omega)
    have es : jF n w A lim (i + 1) = jS n w A lim i (jF n w A lim i) := rfl
    show ∃ s', L_Re_next_70 _ _ _ _ _ (f + 1) _ _ x7 (nI i) li = _ ∧ _
    rw [es]
    generalize jF n w A lim i = s at hJ p1 p2 ⊢
    obtain ⟨num, many, mt⟩ := s
    obtain ⟨j1, j2, j3, j4, j5, j6, j7, j8, j9⟩ := hJ
    dsimp only at p1 p2 j1 j2 j3 j4 j5 j6 j7 j8 j9
    have hnr : ∀ u, u < n → -1 ≤ num u ∧ num u < 100 := fun u hu => by
      have a1 := j2 u hu
      by_cases z : num u < 0
      · have := j9 u hu z; omega
      · omega
    have hni := hnr i hi
    rw [L_Re_next_70, if_neg (nI_ge hi (by omega)), n40', ckn (by omega) (by decide), nI_clamp (by omega), p2 i hi]
    unfold jS
    dsimp only
    by_cases q : 0 ≤ num i
    · rw [if_neg (show ¬ iI (num i) < 0 from fun z => absurd ((iI_lt (b := 0) ⟨by omega, by omega⟩ ⟨by omega, by omega⟩).mp z) (by omega)), if_pos q, nI_1]
      exact ⟨(x7, li), rfl, p1, p2, p3⟩
    · rw [if_pos (show iI (num i) < 0 from (iI_lt (b := 0) ⟨by omega, by omega⟩ ⟨by omega, by omega⟩).mpr (by omega)), if_neg q, s_rmate g hL hLN p2 hnr hlr hi, Option.bind_some, ckn (by omega) (by decide)]
      have r1 : RI n l (hs num i many) (upd li (40 * l + i) (nI many)) := by rw [nI_iI]; exact RI_hs p2
      have o1 : ∀ j, (j < 40 * l ∨ 40 * l + n ≤ j) → upd li (40 * l + i) (nI many) j = LI j := fun j hj => by rw [pk_un (by omega)]; exact p3 j hj
      cases hq : mtF n w A lim num i with
      | none =>
        dsimp only
        rw [if_pos (show (-1 : Int32) < 0 by decide), nI_1, p1, nI_1]
        exact ⟨(nI (many + 1), upd li (40 * l + i) (nI many)), rfl, rfl, r1, o1⟩
      | some u =>
        dsimp only
        have c := mtF_ok n (Nat.le_refl n) u hq
        rw [if_neg (nI_pos (by omega)), n40', ckn (by omega) (by decide), nI_clamp (show 40 * l + u < 2 ^ 31 by omega), nI_1, p1, nI_1]
        refine ⟨(nI (many + 1), upd (upd li (40 * l + i) (nI many)) (40 * l + u) (nI many)), rfl, rfl, ?_, fun j hj => ?_⟩
        · have := RI_hs (v := u) (x := (many : Int)) r1
          rw [← nI_iI] at this
          exact this
        · dsimp only
          rw [pk_un (by omega)]; exact o1 j hj) n 0 64 (0, LI) (by omega) (by omega) ⟨rfl, hI, fun j _ => rfl⟩
  obtain ⟨x7, li⟩ := s'
  obtain ⟨p1, p2, p3⟩ := hP
  dsimp only at p1 p2 p3
  have e : L_Re_next_70 (nI l) lv LA LN LW 64 (nI n) (lI lim) 0 0 LI = L_Re_next_70 (nI l) lv LA LN LW (f' + 1) (nI n) (lI lim) x7 (nI n) li := e
  refine ⟨li, ?_, p2, p3⟩
  rw [e, L_Re_next_70, if_pos (nI_le (Nat.le_refl n) (by omega)), p1]
