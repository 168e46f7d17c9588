def fo1 (h : Nat → Int) : Nat → Bool := fun i => decide (h i = -1)
theorem FR_place {n v : Nat} {h : Nat → Int} {x : Int} {free : Nat → Int32} (hf : FR n (fo1 h) free) (hx : x ≠ -1) : FR n (fo1 (hs h v x)) (upd free v (vp_nar .boolean 0)) := by
  intro i hi
  by_cases q : i = v
  · subst q
    rw [pk_us]
    unfold fo1
    rw [hs_s, if_neg (by simp [hx])]
    rfl
  · rw [pk_un q, hf i hi]
    unfold fo1
    rw [hs_n q]
theorem s_r44 {n k b : Nat} {w : Nat → Int} {A : Nat → Nat → Int} {h : Nat → Int} {LW LA most row free : Nat → Int32} {x1 : Int32} (g : GOK n w A) (hL : RL n b w A LW LA) (hf : FR n (fo1 h) free) {j : Nat} (hj : heav n w h = some j) (K : Int32 → (Nat → Int32) → (Nat → Int32) → Option ((Nat → Int32) × (Nat → Int32))) : L_Re_grows_44 (nI k) (nI n) (nI b) LW most K 64 x1 (-1) 0 free row = L_Re_grows_91 (nI k) (nI n) (nI b) LW most K 64 x1 (nI j) 0 1 free row := by
  have hn := g.1
  obtain ⟨f', s', e, hP⟩ := loopP (fun f i (s : Int32) => L_Re_grows_44 (nI k) (nI n) (nI b) LW most K f x1 s (nI i) free row) n (fun i s => match fo (hvS w h) i none with | none => s = -1 | some j => s = nI j ∧ j < n) (by
    intro f i s hi hp
    have hw := g.w32 hi
    show ∃ s', L_Re_grows_44 _ _ _ _ _ _ (f + 1) _ s (nI i) _ _ = _ ∧ _
    rw [L_Re_grows_44, if_neg (nI_ge hi (by omega)), ckn (by omega) (by decide), nI_clamp (by omega), hf i hi, nI_1, fo_s]
    generalize fo (hvS w h) i none = S at hp ⊢
    unfold hvS fo1
    by_cases q : h i = -1
    · simp only [q, decide_true, if_true]
      rw [if_neg (show ¬ (1 : Int32) = 0 by decide)]
      cases S with
      | none =>
        have hp : s = -1 := hp
        rw [if_pos (show s < 0 by rw [hp]; decide)]
        exact ⟨nI i, rfl, rfl, hi⟩
      | some u =>
        obtain ⟨e1, hu⟩ := hp
        have hwu := g.w32 hu
        rw [e1, if_neg (nI_pos (by omega)), s_weightOf (by omega) hL.1, Option.bind_some, s_weightOf (by omega) hL.1, Option.bind_some, hL.2.1 i hi, hL.2.1 u hu]
        dsimp only
        by_cases z : w u < w i
        · rw [if_pos z, if_neg (fun y => absurd ((iI_le ⟨by omega, by omega⟩ ⟨by omega, by omega⟩).mp y) (by omega))]
          exact ⟨nI i, rfl, rfl, hi⟩
        · rw [if_neg z, if_pos ((iI_le ⟨by omega, by omega⟩ ⟨by omega, by omega⟩).mpr (by omega))]
          exact ⟨nI u, rfl, rfl, hu⟩
    · simp only [q, decide_false, if_false, Bool.false_eq_true, if_true]
      exact ⟨s, rfl, hp⟩) n 0 64 (-1) (by omega) (by omega) rfl
  have hj2 : fo (hvS w h) n none = some j := hj
  rw [hj2] at hP
  obtain ⟨e1, hu⟩ := hP
  have e : L_Re_grows_44 (nI k) (nI n) (nI b) LW most K 64 x1 (-1) 0 free row = L_Re_grows_44 (nI k) (nI n) (nI b) LW most K (f' + 1) x1 s' (nI n) free row := e
  rw [e, e1, L_Re_grows_44, if_pos (nI_le (Nat.le_refl n) (by omega))]
theorem s_r91 {n k b : Nat} {w : Nat → Int} {A : Nat → Nat → Int} {h lo hi : Nat → Int} {LW LA most least row free : Nat → Int32} {x1 x2 : Int32} (g : GOK n w A) (hL : RL n b w A LW LA) (hr : RW n h row) (hB : BOK k lo hi) (hb : RB k lo hi least most) (hh : HOK n k h) (K : Int32 → (Nat → Int32) → (Nat → Int32) → Option ((Nat → Int32) × (Nat → Int32))) : L_Re_grows_91 (nI k) (nI n) (nI b) LW most K 64 x1 x2 0 1 free row = J_Re_grows_141 K x1 x2 (nI (room k (fun p => hi p - pS n w h p))) free row := by
  have hn := g.1
  have hk1 := hB.1
  have hk := hB.2.1
  obtain ⟨f', e⟩ := loopS (fun f i (s : Int32) => L_Re_grows_91 (nI k) (nI n) (nI b) LW most K f x1 x2 s (nI (i + 1)) free row) (k - 1) (fun i => nI (fo (rmS (fun p => hi p - pS n w h p)) i 0)) (by
    intro f i hi'
    show L_Re_grows_91 _ _ _ _ _ _ (f + 1) _ _ _ (nI (i + 1)) _ _ = _
    have hr2 := room_ok (val := fun p => hi p - pS n w h p) i
    rw [fo_s]
    generalize fo (rmS (fun p => hi p - pS n w h p)) i 0 = c at hr2 ⊢
    have hb1 := hB.2.2 c (by omega)
    have hb2 := hB.2.2 (i + 1) (by omega)
    have p1 := g.ps h c
    have p2 := g.ps h (i + 1 : Nat)
    rw [L_Re_grows_91, if_neg (nI_ge (by omega) (by omega)), ckn (by omega) (by decide), s_sumOf g hL hr hk hh (by omega), Option.bind_some, ckn (by omega) (by decide), s_sumOf g hL hr hk hh (by omega), Option.bind_some, nI_clamp (by omega), nI_clamp (show c < 2 ^ 31 by omega), (hb c (by omega)).2, (hb (i + 1) (by omega)).2, iI_l ⟨by omega, by omega⟩, iI_l ⟨by omega, by omega⟩, lI_sub, lI_sub, nI_1]
    unfold rmS
    by_cases z : hi c - pS n w h c < hi (i + 1) - pS n w h (i + 1 : Nat)
    · rw [if_neg (fun y => absurd ((lI_le ⟨by omega, by omega⟩ ⟨by omega, by omega⟩).mp ((lg_cmp_le _ _).mp y)) (by omega)), if_pos z]
    · rw [if_pos ((lg_cmp_le _ _).mpr ((lI_le ⟨by omega, by omega⟩ ⟨by omega, by omega⟩).mpr (by omega))), if_neg z]) (k - 1) 0 64 (by omega) (by omega)
  have e : L_Re_grows_91 (nI k) (nI n) (nI b) LW most K 64 x1 x2 0 1 free row = L_Re_grows_91 (nI k) (nI n) (nI b) LW most K (f' + 1) x1 x2 (nI (fo (rmS (fun p => hi p - pS n w h p)) (k - 1) 0)) (nI (k - 1 + 1)) free row := e
  rw [e, L_Re_grows_91, if_pos (nI_le (by omega) (by omega))]
  rfl
theorem s_rgrows {n k b : Nat} {w : Nat → Int} {A : Nat → Nat → Int} {lo hi : Nat → Int} {LW LA most least row free : Nat → Int32} (g : GOK n w A) (hL : RL n b w A LW LA) (hB : BOK k lo hi) (hb : RB k lo hi least most) : ∃ free' row', f_Re_grows (nI k) (nI n) (nI b) free LW most row = some (free', row') ∧ RW n (grown n k w hi) row' := by
  have hn := g.1
  have hk1 := hB.1
  have hk := hB.2.1
  obtain ⟨f1, s1, e1, hP1⟩ := loopP (fun f i (s : (Nat → Int32) × (Nat → Int32)) => L_Re_grows_2 (nI k) (nI n) (nI b) LW most f (nI i) s.1 s.2) n (fun i s => ∀ j, j < i → s.1 j = 1 ∧ s.2 j = -1) (by
    intro f i s hi' hp
    obtain ⟨a, c⟩ := s
    dsimp only at hp
    show ∃ s', L_Re_grows_2 _ _ _ _ _ (f + 1) (nI i) a c = _ ∧ _
    rw [L_Re_grows_2, if_neg (nI_ge hi' (by omega)), ckn (by omega) (by decide), ckn (by omega) (by decide), nI_clamp (by omega), nI_1]
    refine ⟨(upd a i (vp_nar .boolean 1), upd c i (-1)), rfl, fun j hj => ?_⟩
    dsimp only
    by_cases q : j = i
    · subst q; rw [pk_us, pk_us]; exact ⟨rfl, rfl⟩
    · rw [pk_un q, pk_un q]; exact hp j (by omega)) n 0 64 (free, row) (by omega) (by omega) (fun j hj => absurd hj (Nat.not_lt_zero j))
  obtain ⟨fa, ra⟩ := s1
  dsimp only at hP1
  obtain ⟨f', s', e, hP⟩ := loopP (fun f i (s : (Nat → Int32) × (Nat → Int32)) => L_Re_grows_32 (nI k) (nI n) (nI b) LW most f (nI i) s.1 s.2) n (fun i s => FR n (fo1 (fo (gwS n k w hi) i (fun _ => -1))) s.1 ∧ RW n (fo (gwS n k w hi) i (fun _ => -1)) s.2) (by
    intro f i s hi' hp
    obtain ⟨a, c⟩ := s
    obtain ⟨p1, p2⟩ := hp
    dsimp only at p1 p2
    have hg := gw_all (n := n) (w := w) (hi := hi) hk1 i (by omega)
    rw [fo_s]
    generalize fo (gwS n k w hi) i (fun _ => -1) = h at hg p1 p2 ⊢
    obtain ⟨j, ej, hj, ho, hroom, e2, h2⟩ := gw_step (w := w) (hi := hi) hk1 hi' hg
    show ∃ s', L_Re_grows_32 _ _ _ _ _ (f + 1) (nI i) a c = _ ∧ _
    rw [L_Re_grows_32, if_neg (nI_ge hi' (by omega)), s_r44 g hL p1 ej, s_r91 g hL p2 hB hb hg.1]
    unfold J_Re_grows_141
    rw [ckn (by omega) (by decide), ckn (by omega) (by decide), nI_clamp (by omega), nI_1, e2]
    refine ⟨(_, _), rfl, FR_place p1 (show ((room k (fun p => hi p - pS n w h p) : Nat) : Int) ≠ -1 by omega), ?_⟩
    have := p2.hs j (room k (fun p => hi p - pS n w h p) : Nat)
    rw [← nI_iI] at this
    exact this) n 0 64 (fa, ra) (by omega) (by omega) ⟨fun i hi' => (hP1 i hi').1.trans (by show (1 : Int32) = if fo1 (fun _ => -1) i = true then 1 else 0; rw [if_pos (show fo1 (fun _ => -1) i = true from rfl)]), fun i hi' => (hP1 i hi').2.trans (show (-1 : Int32) = iI (-1) from rfl)⟩
  obtain ⟨a, c⟩ := s'
  unfold f_Re_grows
  have e1 : L_Re_grows_2 (nI k) (nI n) (nI b) LW most 64 0 free row = L_Re_grows_2 (nI k) (nI n) (nI b) LW most (f1 + 1) (nI n) fa ra := e1
  have e : L_Re_grows_32 (nI k) (nI n) (nI b) LW most 64 0 fa ra = L_Re_grows_32 (nI k) (nI n) (nI b) LW most (f' + 1) (nI n) a c := e
  rw [e1, L_Re_grows_2, if_pos (nI_le (Nat.le_refl n) (by omega)), e, L_Re_grows_32, if_pos (nI_le (Nat.le_refl n) (by omega))]
  exact ⟨a, c, rfl, hP.2⟩
