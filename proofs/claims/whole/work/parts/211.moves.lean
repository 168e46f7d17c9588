/-- a pass: the best split in it, and whether it is better -/
def pass1 (n k : Nat) (w : Nat → Int) (A : Nat → Nat → Int) (lo hi : Nat → Int) (h : Nat → Int) : (Nat → Int) × Bool := psL n k w A lo hi n h (fun _ => true) h false
def msL (n k : Nat) (w : Nat → Int) (A : Nat → Nat → Int) (lo hi : Nat → Int) : Nat → Nat → (Nat → Int) → (Nat → Int) × Nat
  | 0, c, h => (h, c)
  | m + 1, c, h => if (pass1 n k w A lo hi h).2 = true then msL n k w A lo hi m (c + 1) (pass1 n k w A lo hi h).1 else ((pass1 n k w A lo hi h).1, c)
def moves (n k : Nat) (w : Nat → Int) (A : Nat → Nat → Int) (lo hi : Nat → Int) (h : Nat → Int) : (Nat → Int) × Nat := msL n k w A lo hi 8 0 h
theorem pass1_HK {n k : Nat} {w : Nat → Int} {A : Nat → Nat → Int} {lo hi h : Nat → Int} (hh : HK n k h) : HK n k (pass1 n k w A lo hi h).1 := psL_HK n h _ h false hh hh
theorem msL_HK {n k : Nat} {w : Nat → Int} {A : Nat → Nat → Int} {lo hi : Nat → Int} : ∀ m c h, HK n k h → HK n k (msL n k w A lo hi m c h).1 := by
  intro m
  induction m with
  | zero => intro c h hh; exact hh
  | succ m ih =>
    intro c h hh
    unfold msL
    by_cases z : (pass1 n k w A lo hi h).2 = true
    · rw [if_pos z]; exact ih _ _ (pass1_HK hh)
    · rw [if_neg z]; exact pass1_HK hh
theorem msL_le {n k : Nat} {w : Nat → Int} {A : Nat → Nat → Int} {lo hi : Nat → Int} : ∀ m c h, (msL n k w A lo hi m c h).2 ≤ c + m := by
  intro m
  induction m with
  | zero => intro c h; exact Nat.le_refl c
  | succ m ih =>
    intro c h
    unfold msL
    by_cases z : (pass1 n k w A lo hi h).2 = true
    · rw [if_pos z]; have := ih (c + 1) (pass1 n k w A lo hi h).1; omega
    · rw [if_neg z]; show c ≤ _; omega
theorem s_doPass {n k : Nat} {w : Nat → Int} {A : Nat → Nat → Int} {h lo hi : Nat → Int} {wt ar home least most best free : Nat → Int32} {nn np no ng : Int32} (g : GOK n w A) (hC : CG n w A wt ar) (hr : RW n h home) (hB : BOK k lo hi) (hb : RB k lo hi least most) (hh : HK n k h) : ∃ o1 o2 o3 o4 o5 o6 o7 o8 o9 o10 o11 o12 o13, f_Mo_doPass nn np no ng best free (nI k) least most (nI n) ar wt home = some ((if (pass1 n k w A lo hi h).2 = true then 1 else 0), o1, o2, o3, o4, o5, o6, o7, o8, o9, o10, o11, o12, o13) ∧ RW n (pass1 n k w A lo hi h).1 o11 := by
  have hn := g.1
  obtain ⟨link, sum, cut, over, e1, hS⟩ := s_recount g hC hr hB hb hh
  unfold f_Mo_doPass
  rw [e1, Option.bind_some]
  dsimp only
  obtain ⟨f', fr', e, hP⟩ := loopP (fun f i (s : Nat → Int32) => L_Mo_doPass_6 nn np no ng best (nI k) least most (nI n) ar wt home f (nI i) s cut over link sum) 40 (fun i s => ∀ j, j < i → s j = 1) (by
    intro f i s hi' hs
    show ∃ s', L_Mo_doPass_6 _ _ _ _ _ _ _ _ _ _ _ _ (f + 1) (nI i) s _ _ _ _ = _ ∧ _
    rw [L_Mo_doPass_6, if_neg (show ¬ (40 : Int32) ≤ nI i from nI_ge hi' (by decide)), ckn hi' (by decide), nI_clamp (by omega), nI_1]
    refine ⟨_, rfl, fun j hj => ?_⟩
    by_cases q : j = i
    · subst q; rw [pk_us]; rfl
    · rw [pk_un q]; exact hs j (by omega)) 40 0 64 free (by omega) (by omega) (fun j hj => absurd hj (Nat.not_lt_zero j))
  have e : L_Mo_doPass_6 nn np no ng best (nI k) least most (nI n) ar wt home 64 0 free cut over link sum = L_Mo_doPass_6 nn np no ng best (nI k) least most (nI n) ar wt home (f' + 1) (nI 40) fr' cut over link sum := e
  rw [e, L_Mo_doPass_6, if_pos (show (40 : Int32) ≤ nI 40 from nI_le (Nat.le_refl 40) (by decide))]
  unfold J_Mo_doPass_25
  rw [s_keepBest, Option.bind_some]
  refine s_pass34 g hC hB hb n 0 64 h h (fun _ => true) false _ _ _ _ _ _ _ _ _ _ _ _ _ _ (by omega) (by omega) hr hh hS (fun i hi' => ?_) (fun j hj => ?_) hS.2.2.2 hS.2.2.1 rfl
  · rw [if_pos rfl]; exact hP i (by omega)
  · dsimp only
    rw [cpy40 (by omega)]
    exact hr j hj
theorem s_movesL {n k : Nat} {w : Nat → Int} {A : Nat → Nat → Int} {lo hi : Nat → Int} {wt ar least most : Nat → Int32} (g : GOK n w A) (hC : CG n w A wt ar) (hB : BOK k lo hi) (hb : RB k lo hi least most) : ∀ (m c f : Nat) (h : Nat → Int) (bo bc nn np no ng cut over : Int32) (best free home link sum : Nat → Int32), c + m = 8 → m < f → RW n h home → HK n k h → ∃ o1 o2 o3 o4 o5 o6 o7 o8 o9 o10 o11 o12 o13, L_Mo_doMoves_2 (nI k) least most (nI n) ar wt f (nI c) bo bc nn np no ng best free cut over home link sum = some (nI (msL n k w A lo hi m c h).2, o1, o2, o3, o4, o5, o6, o7, o8, o9, o10, o11, o12, o13) ∧ RW n (msL n k w A lo hi m c h).1 o11 := by
  have hn := g.1
  intro m
  induction m with
  | zero =>
    intro c f h bo bc nn np no ng cut over best free home link sum hc hf hr hh
    obtain ⟨f, rfl⟩ : ∃ z, f = z + 1 := ⟨f - 1, by omega⟩
    rw [L_Mo_doMoves_2, if_pos (show (8 : Int32) ≤ nI c from nI_le (show 8 ≤ c by omega) (by omega))]
    exact ⟨_, _, _, _, _, _, _, _, _, _, _, _, _, rfl, hr⟩
  | succ m ih =>
    intro c f h bo bc nn np no ng cut over best free home link sum hc hf hr hh
    obtain ⟨f, rfl⟩ : ∃ z, f = z + 1 := ⟨f - 1, by omega⟩
    obtain ⟨o1, o2, o3, o4, o5, o6, o7, o8, o9, o10, o11, o12, o13, e, hr'⟩ := s_doPass (nn := nn) (np := np) (no := no) (ng := ng) (best := best) (free := free) g hC hr hB hb hh
    rw [L_Mo_doMoves_2, if_neg (show ¬ (8 : Int32) ≤ nI c from nI_ge (show c < 8 by omega) (by decide)), e, Option.bind_some, nI_1]
    dsimp only
    unfold msL
    by_cases z : (pass1 n k w A lo hi h).2 = true
    · simp only [if_pos z]
      rw [if_neg (show ¬ (1 : Int32) = 0 by decide)]
      exact ih (c + 1) f _ _ _ _ _ _ _ _ _ _ _ _ _ _ (by omega) (by omega) hr' (pass1_HK hh)
    · simp only [if_neg z]
      rw [if_pos trivial]
      exact ⟨_, _, _, _, _, _, _, _, _, _, _, _, _, rfl, hr'⟩
theorem s_doMoves {n k : Nat} {w : Nat → Int} {A : Nat → Nat → Int} {h lo hi : Nat → Int} {wt ar home least most best free link sum : Nat → Int32} {bo bc nn np no ng cut over : Int32} (g : GOK n w A) (hC : CG n w A wt ar) (hr : RW n h home) (hB : BOK k lo hi) (hb : RB k lo hi least most) (hh : HK n k h) : ∃ o1 o2 o3 o4 o5 o6 o7 o8 o9 o10 o11 o12 o13, f_Mo_doMoves bo bc nn np no ng best free cut over (nI k) least most (nI n) ar wt home link sum = some (nI (moves n k w A lo hi h).2, o1, o2, o3, o4, o5, o6, o7, o8, o9, o10, o11, o12, o13) ∧ RW n (moves n k w A lo hi h).1 o11 := by
  unfold f_Mo_doMoves moves
  exact s_movesL g hC hB hb 8 0 64 h _ _ _ _ _ _ _ _ _ _ _ _ _ (by omega) (by omega) hr hh
