/-- what the class holds of the levels 0 .. c - 1 -/
def CV (n k c : Nat) (w : Nat → Int) (A : Nat → Nat → Int) (ho ls : Nat → Int32) : Prop := (∀ l, l < c → ls l = nI (lvN n k w A l).1) ∧ ∀ l i, l < c → i < n → ho (l * 40 + i) = iI ((lvN n k w A l).2 i)
theorem s_ml55 {n l : Nat} {hold num : Nat → Int} {m : Nat} {ho mate nb ls p4a p4w : Nat → Int32} {p4s : Int32} (hn : n ≤ 40) (hl : l + 1 < 40) (hm : m ≤ 40) (hr : ∀ i, i < n → 0 ≤ hold i ∧ hold i < m) (hH : ∀ i, i < n → ho (l * 40 + i) = iI (hold i)) (hN : RW m num nb) : ∃ ho', L_Le_makeLevel_55 (nI (l + 1)) (nI n) 64 0 ho mate nb ls p4s p4a p4w = some (1, ho', mate, nb, ls, p4s, p4a, p4w) ∧ (∀ i, i < n → ho' ((l + 1) * 40 + i) = iI (cmp num hold i)) ∧ ∀ j, j < (l + 1) * 40 → ho' j = ho j := by
  obtain ⟨f', s', e, hP⟩ := loopP (fun f i (s : Nat → Int32) => L_Le_makeLevel_55 (nI (l + 1)) (nI n) f (nI i) s mate nb ls p4s p4a p4w) n (fun i s => (∀ u, u < i → s ((l + 1) * 40 + u) = iI (cmp num hold u)) ∧ ∀ j, j < (l + 1) * 40 → s j = ho j) (by
    intro f i s hi hp
    obtain ⟨p1, p2⟩ := hp
    have hhi := hr i hi
    obtain ⟨c, hc, ec, en⟩ := iI_pn (p := m) hhi.1 hhi.2
    show ∃ s', L_Le_makeLevel_55 _ _ (f + 1) (nI i) s _ _ _ _ _ _ = _ ∧ _
    rw [L_Le_makeLevel_55, if_neg (nI_ge hi (by omega)), show nI (l + 1) - 1 = nI l from nI_pred l, s_holder (by omega) (by omega), Option.bind_some, p2 _ (by omega), hH i hi, en, ckn (by omega) (by decide), n40, ckn (by omega) (by decide), nI_clamp (show (l + 1) * 40 + i < 2 ^ 31 by omega), nI_clamp (show c < 2 ^ 31 by omega), nI_1, hN c hc]
    refine ⟨upd s ((l + 1) * 40 + i) (iI (num c)), rfl, fun u hu => ?_, fun j hj => ?_⟩
    · by_cases q : u = i
      · subst q; rw [pk_us]; unfold cmp; rw [ec, Int.toNat_natCast]
      · rw [pk_un (by omega)]; exact p1 u (by omega)
    · rw [pk_un (by omega)]; exact p2 j hj) n 0 64 ho (by omega) (by omega) ⟨fun u hu => absurd hu (Nat.not_lt_zero u), fun j _ => rfl⟩
  have e : L_Le_makeLevel_55 (nI (l + 1)) (nI n) 64 0 ho mate nb ls p4s p4a p4w = L_Le_makeLevel_55 (nI (l + 1)) (nI n) (f' + 1) (nI n) s' mate nb ls p4s p4a p4w := e
  refine ⟨s', ?_, hP.1, hP.2⟩
  rw [e, L_Le_makeLevel_55, if_pos (nI_le (Nat.le_refl n) (by omega))]
theorem s_makeLevel {n k l : Nat} {w : Nat → Int} {A : Nat → Nat → Int} {wt ar ho mate nb ls p4a p4w : Nat → Int32} {p4s : Int32} (g : GOK n w A) (hC : CG n w A wt ar) (hk1 : 2 ≤ k) (hk : k ≤ 4) (hl : l + 1 < 40) (hV : CV n k (l + 1) w A ho ls) : (lvGo n k w A l = false → ∃ o3 o4 o6 o7 o8, f_Le_makeLevel (nI (l + 1)) (nI k) ho mate nb ls (nI n) ar wt p4s p4a p4w = some (0, ho, o3, o4, ls, o6, o7, o8)) ∧ (lvGo n k w A l = true → ∃ ho' o3 o4 ls' o6 o7 o8, f_Le_makeLevel (nI (l + 1)) (nI k) ho mate nb ls (nI n) ar wt p4s p4a p4w = some (1, ho', o3, o4, ls', o6, o7, o8) ∧ CV n k (l + 2) w A ho' ls') := by
  have hn := g.1
  have gl := lv_G (k := k) g l
  have hS := lv_HS (k := k) g l
  have hm := gl.1
  have hsy := gl.2.2.2.2.2.1
  have hd := gl.2.2.2.2.2.2
  unfold f_Le_makeLevel
  rw [show nI (l + 1) - 1 = nI l from nI_pred l, ckn (by omega) (by decide), nI_clamp (by omega), hV.1 l (by omega)]
  by_cases q : 6 < (lvN n k w A l).1
  · obtain ⟨da, dw, e1, hCG⟩ := s_drawInto (ls := ls) g hC (show l < 40 by omega) hS (fun i hi => hV.2 l i (by omega) hi) (hV.1 l (by omega))
    obtain ⟨x, mt, e2, hmt, hx⟩ := s_joinAll gl hCG hk1 hk
    have hcnt := jF_cnt (w := lvW n k w A l) (lim := limI (lvN n k w A l).1 k (lvW n k w A l)) hsy hd _ (Nat.le_refl _)
    have hJ := jF_ok (w := lvW n k w A l) (lim := limI (lvN n k w A l).1 k (lvW n k w A l)) hsy hd _ (Nat.le_refl _)
    have hall := cN_all hJ.1
    rw [hall] at hcnt
    have eM : (jF (lvN n k w A l).1 (lvW n k w A l) (lvA n k w A l) (limI (lvN n k w A l).1 k (lvW n k w A l)) (lvN n k w A l).1).2.1 = (lvN n k w A (l + 1)).1 := rfl
    rw [eM] at hcnt
    rw [if_pos (show (6 : Int32) < nI (lvN n k w A l).1 from nI_lt q (by omega)), e1, Option.bind_some]
    dsimp only
    rw [e2, Option.bind_some]
    dsimp only
    constructor
    · intro hg
      have hmm : (lvN n k w A (l + 1)).1 = (lvN n k w A l).1 := by
        unfold lvGo at hg
        simp [q] at hg
        exact hg
      have hx0 : x = 0 := by
        rcases hx with a | a
        · exact a.1
        · rcases hcnt with b | b
          · obtain ⟨u, hu, e⟩ := a.2
            exact absurd (b.1 u hu) e
          · have := b.2; omega
      rw [if_pos hx0]
      exact ⟨_, _, _, _, _, rfl⟩
    · intro hg
      have hmm : (lvN n k w A (l + 1)).1 ≠ (lvN n k w A l).1 := by
        unfold lvGo at hg
        simp only [Bool.and_eq_true, decide_eq_true_eq] at hg
        exact hg.2
      have hx1 : x = 1 := by
        rcases hx with a | a
        · rcases hcnt with b | b
          · exact absurd (by have := b.2; omega) hmm
          · obtain ⟨u, hu, e⟩ := b.1
            exact absurd (a.2 u hu) e
        · exact a.1
      obtain ⟨nb', e3, hnb⟩ := s_numberJoined (number := nb) hm hsy hd hmt
      rw [if_neg (show ¬ x = 0 by rw [hx1]; decide), e3, Option.bind_some, ckn (by omega) (by decide), nI_clamp (by omega)]
      dsimp only
      obtain ⟨ho', e4, h1, h2⟩ := s_ml55 (num := lvJ n k w A l) (mate := mt) (nb := nb') (ls := upd ls (l + 1) (nI (jF (lvN n k w A l).1 (lvW n k w A l) (lvA n k w A l) (limI (lvN n k w A l).1 k (lvW n k w A l)) (lvN n k w A l).1).2.1)) (p4s := nI (lvN n k w A l).1) (p4a := da) (p4w := dw) hn hl hm hS.1 (fun i hi => hV.2 l i (by omega) hi) hnb
      refine ⟨ho', _, _, _, _, _, _, e4, fun j hj => ?_, fun j i hj hi => ?_⟩
      · by_cases z : j = l + 1
        · subst z; rw [pk_us]; rfl
        · rw [pk_un z]; exact hV.1 j (by omega)
      · by_cases z : j = l + 1
        · subst z; exact h1 i hi
        · rw [h2 _ (by omega)]; exact hV.2 j i (by omega) hi
  · rw [if_neg (show ¬ (6 : Int32) < nI (lvN n k w A l).1 from nI_nlt (show (lvN n k w A l).1 ≤ 6 by omega) (by decide))]
    constructor
    · intro _; exact ⟨_, _, _, _, _, rfl⟩
    · intro hg
      unfold lvGo at hg
      simp [q] at hg
theorem s_rn58 {n k : Nat} {w : Nat → Int} {A : Nat → Nat → Int} {wt ar : Nat → Int32} (g : GOK n w A) (hC : CG n w A wt ar) (hk1 : 2 ≤ k) (hk : k ≤ 4) : ∀ (d l f : Nat) (ho mate nb ls p3a p3w : Nat → Int32) (fr p3s : Int32), l + d = 39 → d < f → (∀ j, j < l → lvGo n k w A j = true) → CV n k (l + 1) w A ho ls → ∃ ho' o4 o5 ls' o7 o8 o9, L_Le_renew_58 (nI k) (nI n) ar wt f (nI (l + 1)) fr (nI (l + 1)) ho mate nb ls p3s p3a p3w = some (fr, nI (lvC n k w A), ho', o4, o5, ls', o7, o8, o9) ∧ CV n k (lvC n k w A) w A ho' ls' := by
  intro d
  induction d with
  | zero =>
    intro l f ho mate nb ls p3a p3w fr p3s hl hf hgo hV
    have := lv_few g (fun j hj => hgo j (by omega)) (hgo (l - 1) (by omega))
    omega
  | succ d ih =>
    intro l f ho mate nb ls p3a p3w fr p3s hl hf hgo hV
    obtain ⟨f, rfl⟩ : ∃ z, f = z + 1 := ⟨f - 1, by omega⟩
    obtain ⟨h1, h2⟩ := s_makeLevel (mate := mate) (nb := nb) (p4s := p3s) (p4a := p3a) (p4w := p3w) g hC hk1 hk (show l + 1 < 40 by omega) hV
    rw [L_Le_renew_58, if_neg (show ¬ (40 : Int32) ≤ nI (l + 1) from nI_ge (show l + 1 < 40 by omega) (by decide))]
    by_cases q : lvGo n k w A l = true
    · obtain ⟨ho', o3, o4, ls', o6, o7, o8, e, hV2⟩ := h2 q
      rw [e, Option.bind_some]
      dsimp only
      rw [if_neg (show ¬ (1 : Int32) = 0 by decide), nI_1]
      exact ih (l + 1) f ho' _ _ ls' _ _ fr _ (by omega) (by omega) (fun j hj => by
        by_cases y : j = l
        · rw [y]; exact q
        · exact hgo j (by omega)) hV2
    · have q : lvGo n k w A l = false := by simpa using q
      obtain ⟨o3, o4, o6, o7, o8, e⟩ := h1 q
      have hc : lvC n k w A = l + 1 := lvC_eq g hgo q
      rw [e, Option.bind_some]
      dsimp only
      rw [if_pos rfl, hc]
      exact ⟨_, _, _, _, _, _, _, rfl, hV⟩
/-- the class renews its levels -/
theorem s_renew {n k : Nat} {w : Nat → Int} {A : Nat → Nat → Int} {wt ar ho mate nb ls p3a p3w : Nat → Int32} {fr ct p3s : Int32} (g : GOK n w A) (hC : CG n w A wt ar) (hk1 : 2 ≤ k) (hk : k ≤ 4) (hF : fr = 0 ∨ (fr = 1 ∧ ct = nI (lvC n k w A) ∧ CV n k (lvC n k w A) w A ho ls)) : ∃ ho' o4 o5 ls' o7 o8 o9, f_Le_renew (nI k) fr ct ho mate nb ls (nI n) ar wt p3s p3a p3w = some (1, nI (lvC n k w A), ho', o4, o5, ls', o7, o8, o9) ∧ CV n k (lvC n k w A) w A ho' ls' := by
  have hn := g.1
  unfold f_Le_renew
  rcases hF with h | h
  · obtain ⟨f', s', e, hP⟩ := loopP (fun f i (s : Nat → Int32) => L_Le_renew_31 (nI k) mate nb (nI n) ar wt p3s p3a p3w f (nI i) 1 1 s (upd ls 0 (nI n))) n (fun i s => ∀ u, u < i → s u = nI u) (by
      intro f i s hi hp
      show ∃ s', L_Le_renew_31 _ _ _ _ _ _ _ _ _ (f + 1) (nI i) _ _ s _ = _ ∧ _
      rw [L_Le_renew_31, if_neg (nI_ge hi (by omega)), ckn (by omega) (by decide), nI_clamp (by omega), nI_1]
      refine ⟨upd s i (nI i), rfl, fun u hu => ?_⟩
      by_cases q : u = i
      · subst q; rw [pk_us]
      · rw [pk_un q]; exact hp u (by omega)) n 0 64 ho (by omega) (by omega) (fun u hu => absurd hu (Nat.not_lt_zero u))
    have e : L_Le_renew_31 (nI k) mate nb (nI n) ar wt p3s p3a p3w 64 0 1 1 ho (upd ls 0 (nI n)) = L_Le_renew_31 (nI k) mate nb (nI n) ar wt p3s p3a p3w (f' + 1) (nI n) 1 1 s' (upd ls 0 (nI n)) := e
    rw [if_pos h]
    show ∃ ho' o4 o5 ls' o7 o8 o9, ck (okb (nI 0) 40) (L_Le_renew_31 (nI k) mate nb (nI n) ar wt p3s p3a p3w 64 0 1 1 ho (upd ls 0 (nI n))) = _ ∧ _
    rw [ckn (by decide) (by decide), e, L_Le_renew_31, if_pos (nI_le (Nat.le_refl n) (by omega))]
    refine s_rn58 g hC hk1 hk 39 0 64 s' mate nb (upd ls 0 (nI n)) p3a p3w 1 p3s rfl (by omega) (fun j hj => absurd hj (Nat.not_lt_zero j)) ⟨fun l hl => ?_, fun l i hl hi => ?_⟩
    · obtain rfl : l = 0 := by omega
      rw [pk_us]; rfl
    · obtain rfl : l = 0 := by omega
      rw [show 0 * 40 + i = i by omega, hP i hi, nI_iI]; rfl
  · rw [if_neg (show ¬ fr = 0 by rw [h.1]; decide), h.1, h.2.1]
    exact ⟨_, _, _, _, _, _, _, rfl, h.2.2⟩
