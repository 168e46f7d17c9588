/-! THE REFERENCE'S TRIES: an odometer -/
def TB (n k : Nat) (w : Nat → Int) (A : Nat → Nat → Int) (lo hi : Nat → Int) (b : Option (Nat → Int)) (x1 x3 : Int64) (best : Nat → Int32) : Prop := match b with
  | none => x1 = (-1 : Int64)
  | some g => x1 = lI (overI n k w lo hi g) ∧ x3 = lI (cutI n A g) ∧ RW n g best
theorem s_t102 {n : Nat} {h : Nat → Int} {best row : Nat → Int32} {x1 x3 : Int64} {kd : Int32} (hn : n ≤ 40) (hr : RW n h row) (K : Int64 → Int64 → Int32 → (Nat → Int32) → (Nat → Int32) → Option ((Nat → Int32) × (Nat → Int32))) : ∃ best', L_Re_tries_102 kd (nI n) K 64 x1 x3 0 best row = L_Re_tries_139 kd K 64 x1 x3 (nI n - 1) best' row ∧ RW n h best' := by
  obtain ⟨f', s', e, hP⟩ := loopP (fun f i (s : Nat → Int32) => L_Re_tries_102 kd (nI n) K f x1 x3 (nI i) s row) n (fun i s => ∀ j, j < i → s j = iI (h j)) (by
    intro f i s hi hs'
    show ∃ s', L_Re_tries_102 _ _ _ (f + 1) _ _ (nI i) s row = _ ∧ _
    rw [L_Re_tries_102, if_neg (nI_ge hi (by omega)), ckn (by omega) (by decide), ckn (by omega) (by decide), nI_clamp (by omega), nI_1]
    refine ⟨upd s i (row i), rfl, fun j hj => ?_⟩
    by_cases q : j = i
    · subst q; rw [pk_us]; exact hr j hi
    · rw [pk_un q]; exact hs' j (by omega)) n 0 64 best (by omega) (by omega) (fun j hj => absurd hj (Nat.not_lt_zero j))
  have e : L_Re_tries_102 kd (nI n) K 64 x1 x3 0 best row = L_Re_tries_102 kd (nI n) K (f' + 1) x1 x3 (nI n) s' row := e
  refine ⟨s', ?_, hP⟩
  rw [e, L_Re_tries_102, if_pos (nI_le (Nat.le_refl n) (by omega))]
theorem s_tstep {n k b0 : Nat} {w : Nat → Int} {A : Nat → Nat → Int} {lo hi h : Nat → Int} {LW LA least most best row : Nat → Int32} {b : Option (Nat → Int)} {x1 x3 : Int64} (g : GOK n w A) (hL : RL n b0 w A LW LA) (hB : BOK k lo hi) (hb : RB k lo hi least most) (hr : RW n h row) (hh : HK n k h) (ht : TB n k w A lo hi b x1 x3 best) (f : Nat) : ∃ x1' x3' best', L_Re_tries_32 (nI k) (nI n) (nI b0) least LA LW most (f + 1) x1 x3 1 best row = L_Re_tries_139 (nI k) (L_Re_tries_32 (nI k) (nI n) (nI b0) least LA LW most f) 64 x1' x3' (nI n - 1) best' row ∧ TB n k w A lo hi (up1 n k w A lo hi h b) x1' x3' best' := by
  have hn := g.1
  have hk := hB.2.1
  have ho := g.over hB h
  have hc := g.cut h
  obtain ⟨bs, eb, hbs⟩ := s_t102 (kd := nI k) (best := best) (x1 := lI (overI n k w lo hi h)) (x3 := lI (cutI n A h)) hn hr (L_Re_tries_32 (nI k) (nI n) (nI b0) least LA LW most f)
  rw [L_Re_tries_32, if_neg (show ¬ (1 : Int32) = 0 by decide), s_rowOver g hL hr hB hb hh.ok, Option.bind_some]
  have e56 : ∀ y1 y3 z, J_Re_tries_56 (nI k) (nI n) (nI b0) LA (L_Re_tries_32 (nI k) (nI n) (nI b0) least LA LW most f) y1 y3 z best row = J_Re_tries_64 (nI k) (nI n) (L_Re_tries_32 (nI k) (nI n) (nI b0) least LA LW most f) (lI (cutI n A h)) y1 y3 z best row := by
    intro y1 y3 z
    unfold J_Re_tries_56
    rw [s_rowCut g hL hr hk hh.ok, Option.bind_some]
  cases b with
  | none =>
    have ht : x1 = (-1 : Int64) := ht
    subst ht
    rw [if_pos (show lg_cmp (-1 : Int64) (0 : Int64) < 0 by decide), e56]
    unfold J_Re_tries_64
    rw [if_pos (show lg_cmp (-1 : Int64) (0 : Int64) < 0 by decide), eb]
    exact ⟨_, _, _, rfl, rfl, rfl, hbs⟩
  | some t =>
    have ht' := ht
    obtain ⟨h1, h2, h3⟩ := ht
    subst h1
    subst h2
    have ho2 := g.over hB t
    have hc2 := g.cut t
    have z0 : ¬ lg_cmp (lI (overI n k w lo hi t)) (0 : Int64) < 0 := by
      rw [lg_cmp_lt, ← lI_0, lI_lt ⟨by omega, by omega⟩ ⟨by omega, by omega⟩]; omega
    rw [if_neg z0]
    have e0 : up1 n k w A lo hi h (some t) = if btr n k w A lo hi h t = true then some h else some t := rfl
    rw [e0]
    by_cases q1 : overI n k w lo hi t < overI n k w lo hi h
    · rw [if_pos (by rw [lg_cmp_gt, lI_lt ⟨by omega, by omega⟩ ⟨by omega, by omega⟩]; exact q1), if_neg (by rw [btr_iff]; omega)]
      unfold J_Re_tries_64
      rw [if_neg z0, if_neg (by rw [lg_cmp_lt, lI_lt ⟨by omega, by omega⟩ ⟨by omega, by omega⟩]; omega), if_neg (by rw [lg_cmp_eq, lI_eq ⟨by omega, by omega⟩ ⟨by omega, by omega⟩]; omega)]
      exact ⟨_, _, _, rfl, ht'⟩
    · rw [if_neg (by rw [lg_cmp_gt, lI_lt ⟨by omega, by omega⟩ ⟨by omega, by omega⟩]; exact q1), e56]
      unfold J_Re_tries_64
      rw [if_neg z0]
      by_cases q2 : overI n k w lo hi h < overI n k w lo hi t
      · rw [if_pos (by rw [lg_cmp_lt, lI_lt ⟨by omega, by omega⟩ ⟨by omega, by omega⟩]; exact q2), if_pos (by rw [btr_iff]; omega), eb]
        exact ⟨_, _, _, rfl, rfl, rfl, hbs⟩
      · rw [if_neg (by rw [lg_cmp_lt, lI_lt ⟨by omega, by omega⟩ ⟨by omega, by omega⟩]; exact q2), if_pos (by rw [lg_cmp_eq, lI_eq ⟨by omega, by omega⟩ ⟨by omega, by omega⟩]; omega)]
        by_cases q3 : cutI n A h < cutI n A t
        · rw [if_neg (by rw [lg_cmp_ge, lI_le ⟨by omega, by omega⟩ ⟨by omega, by omega⟩]; omega), if_pos (by rw [btr_iff]; omega), eb]
          exact ⟨_, _, _, rfl, rfl, rfl, hbs⟩
        · rw [if_pos (by rw [lg_cmp_ge, lI_le ⟨by omega, by omega⟩ ⟨by omega, by omega⟩]; omega), if_neg (by rw [btr_iff]; omega)]
          exact ⟨_, _, _, rfl, ht'⟩
theorem s_tall {n k b0 : Nat} {w : Nat → Int} {A : Nat → Nat → Int} {lo hi : Nat → Int} {LW LA least most : Nat → Int32} (g : GOK n w A) (hL : RL n b0 w A LW LA) (hB : BOK k lo hi) (hb : RB k lo hi least most) : ∀ (r v f : Nat) (h : Nat → Int) (b : Option (Nat → Int)) (x1 x3 : Int64) (best row : Nat → Int32), v + r = n → RW v h row → (∀ i, v ≤ i → i < n → row i = 0) → HK v k h → TB n k w A lo hi b x1 x3 best → ∃ x1' x3' best' row' F, L_Re_tries_32 (nI k) (nI n) (nI b0) least LA LW most (f + k ^ r) x1 x3 1 best row = L_Re_tries_139 (nI k) (L_Re_tries_32 (nI k) (nI n) (nI b0) least LA LW most f) F x1' x3' (nI v - 1) best' row' ∧ TB n k w A lo hi (tr n k w A lo hi r h b) x1' x3' best' ∧ (∀ i, i < v → row' i = row i) ∧ (∀ i, v ≤ i → i < n → row' i = 0) ∧ 64 ≤ F + r := by
  intro r
  have hn := g.1
  have hk := hB.2.1
  have hk2 := hB.1
  induction r with
  | zero =>
    intro v f h b x1 x3 best row hv hr hz hh ht
    have : v = n := by omega
    subst this
    obtain ⟨y1, y3, bs, e1, e2⟩ := s_tstep g hL hB hb hr hh ht f
    exact ⟨y1, y3, bs, row, 64, e1, e2, fun _ _ => rfl, fun i h1 h2 => absurd h2 (by omega), by omega⟩
  | succ r ih =>
    intro v f h b x1 x3 best row hv hr hz hh ht
    have ev : n - (r + 1) = v := by omega
    have key : ∀ (m p : Nat) (x1 x3 : Int64) (best rw1 : Nat → Int32), p + m + 1 = k → (∀ i, i < v → rw1 i = row i) → rw1 v = nI p → (∀ i, v + 1 ≤ i → i < n → rw1 i = 0) → TB n k w A lo hi (fo (fun p b => tr n k w A lo hi r (hs h v (p : Int)) b) p b) x1 x3 best → ∃ x1' x3' best' row' F, L_Re_tries_32 (nI k) (nI n) (nI b0) least LA LW most (f + (m + 1) * k ^ r) x1 x3 1 best rw1 = L_Re_tries_139 (nI k) (L_Re_tries_32 (nI k) (nI n) (nI b0) least LA LW most f) F x1' x3' (nI v - 1) best' row' ∧ TB n k w A lo hi (fo (fun p b => tr n k w A lo hi r (hs h v (p : Int)) b) k b) x1' x3' best' ∧ (∀ i, i < v → row' i = row i) ∧ (∀ i, v ≤ i → i < n → row' i = 0) ∧ 64 ≤ F + (r + 1) := by
      intro m
      induction m with
      | zero =>
        intro p x1 x3 best rw1 hp hlow hd hz1 ht
        have hr1 : RW (v + 1) (hs h v (p : Int)) rw1 := by
          intro i hi
          by_cases q : i = v
          · subst q; rw [hd, hs_s, nI_iI]
          · rw [hs_n q, hlow i (by omega)]; exact hr i (by omega)
        obtain ⟨y1, y3, bs, ro, F, e1, e2, e3, e4, e5⟩ := ih (v + 1) f (hs h v (p : Int)) _ x1 x3 best rw1 (by omega) hr1 hz1 (HK_in hh (by omega)) ht
        obtain ⟨F, rfl⟩ : ∃ e, F = e + 1 := ⟨F - 1, by omega⟩
        have ep : k = p + 1 := by omega
        rw [show f + (0 + 1) * k ^ r = f + k ^ r by omega, e1, ← nI_1, show nI v + 1 - 1 = nI v by rw [Int32.add_sub_cancel], L_Re_tries_139, if_neg (nI_pos (by omega)), ckn (by omega) (by decide), nI_clamp (by omega), e3 v (by omega), hd, if_pos (show nI p = nI k - 1 by rw [ep, ← nI_1, Int32.add_sub_cancel]), ckn (by omega) (by decide), show nI v + (-1) = nI v - 1 from (Int32.sub_eq_add_neg ..).symm]
        refine ⟨y1, y3, bs, upd ro v 0, F, rfl, ?_, ?_, ?_, by omega⟩
        · have e2' : fo (fun p b => tr n k w A lo hi r (hs h v (p : Int)) b) k b = tr n k w A lo hi r (hs h v (p : Int)) (fo (fun p b => tr n k w A lo hi r (hs h v (p : Int)) b) p b) := by
            have := fo_s (fun (p : Nat) b => tr n k w A lo hi r (hs h v (p : Int)) b) p b
            rw [← ep] at this
            exact this
          rw [e2']
          exact e2
        · intro i hi
          rw [pk_un (by omega), e3 i (by omega), hlow i hi]
        · intro i h1 h2
          by_cases q : i = v
          · subst q; rw [pk_us]
          · rw [pk_un q]; exact e4 i (by omega) h2
      | succ m ihm =>
        intro p x1 x3 best rw1 hp hlow hd hz1 ht
        have hr1 : RW (v + 1) (hs h v (p : Int)) rw1 := by
          intro i hi
          by_cases q : i = v
          · subst q; rw [hd, hs_s, nI_iI]
          · rw [hs_n q, hlow i (by omega)]; exact hr i (by omega)
        obtain ⟨y1, y3, bs, ro, F, e1, e2, e3, e4, e5⟩ := ih (v + 1) (f + (m + 1) * k ^ r) (hs h v (p : Int)) _ x1 x3 best rw1 (by omega) hr1 hz1 (HK_in hh (by omega)) ht
        obtain ⟨F, rfl⟩ : ∃ e, F = e + 1 := ⟨F - 1, by omega⟩
        rw [show f + (m + 1 + 1) * k ^ r = f + (m + 1) * k ^ r + k ^ r by rw [Nat.add_mul (m + 1) 1, Nat.one_mul]; omega, e1, ← nI_1, show nI v + 1 - 1 = nI v by rw [Int32.add_sub_cancel], L_Re_tries_139, if_neg (nI_pos (by omega)), ckn (by omega) (by decide), nI_clamp (by omega), e3 v (by omega), hd, if_neg (show ¬ nI p = nI k - 1 by
          rw [show k = (k - 1) + 1 by omega, ← nI_1, Int32.add_sub_cancel]
          intro q
          have := (nI_eq (by omega) (by omega)).mp q
          omega)]
        unfold J_Re_tries_174
        rw [if_neg (nI_pos (by omega))]
        unfold J_Re_tries_184
        rw [if_neg (show ¬ (1 : Int32) = 0 by decide), ckn (by omega) (by decide), ckn (by omega) (by decide), nI_clamp (by omega), e3 v (by omega), hd, nI_1]
        refine ihm (p + 1) y1 y3 bs (upd ro v (nI (p + 1))) (by omega) ?_ pk_us ?_ e2
        · intro i hi
          rw [pk_un (by omega), e3 i (by omega), hlow i hi]
        · intro i h1 h2
          rw [pk_un (by omega)]; exact e4 i h1 h2
    obtain ⟨y1, y3, bs, ro, F, e1, e2, e3, e4, e5⟩ := key (k - 1) 0 x1 x3 best row (by omega) (fun _ _ => rfl) (hz v (by omega) (by omega)) (fun i h1 h2 => hz i (by omega) h2) ht
    rw [show k - 1 + 1 = k by omega] at e1
    refine ⟨y1, y3, bs, ro, F, ?_, ?_, e3, e4, e5⟩
    · rw [Nat.pow_succ, Nat.mul_comm (k ^ r) k]; exact e1
    · rw [tr, ev]; exact e2
theorem s_t208 {n : Nat} {h : Nat → Int} {best row : Nat → Int32} (hn : n ≤ 40) (hr : RW n h best) : ∃ row', L_Re_tries_208 (nI n) 64 0 best row = some (best, row') ∧ RW n h row' := by
  obtain ⟨f', s', e, hP⟩ := loopP (fun f i (s : Nat → Int32) => L_Re_tries_208 (nI n) f (nI i) best s) n (fun i s => ∀ j, j < i → s j = iI (h j)) (by
    intro f i s hi hs'
    show ∃ s', L_Re_tries_208 _ (f + 1) (nI i) best s = _ ∧ _
    rw [L_Re_tries_208, if_neg (nI_ge hi (by omega)), ckn (by omega) (by decide), ckn (by omega) (by decide), nI_clamp (by omega), nI_1]
    refine ⟨upd s i (best i), rfl, fun j hj => ?_⟩
    by_cases q : j = i
    · subst q; rw [pk_us]; exact hr j hi
    · rw [pk_un q]; exact hs' j (by omega)) n 0 64 row (by omega) (by omega) (fun j hj => absurd hj (Nat.not_lt_zero j))
  have e : L_Re_tries_208 (nI n) 64 0 best row = L_Re_tries_208 (nI n) (f' + 1) (nI n) best s' := e
  refine ⟨s', ?_, hP⟩
  rw [e, L_Re_tries_208, if_pos (nI_le (Nat.le_refl n) (by omega))]
theorem s_rtries {n k b0 : Nat} {w : Nat → Int} {A : Nat → Nat → Int} {lo hi : Nat → Int} {LW LA least most best row : Nat → Int32} (g : GOK n w A) (hL : RL n b0 w A LW LA) (hB : BOK k lo hi) (hb : RB k lo hi least most) (hkn : k ^ n ≤ 60000) : ∃ best' row', f_Re_tries (nI k) (nI n) (nI b0) best least LA LW most row = some (best', row') ∧ RW n (bst n k w A lo hi) row' := by
  have hn := g.1
  obtain ⟨f', s', e, hP⟩ := loopP (fun f i (s : Nat → Int32) => L_Re_tries_2 (nI k) (nI n) (nI b0) best least LA LW most f (nI i) s) n (fun i s => ∀ j, j < i → s j = 0) (by
    intro f i s hi hs'
    show ∃ s', L_Re_tries_2 _ _ _ _ _ _ _ _ (f + 1) (nI i) s = _ ∧ _
    rw [L_Re_tries_2, if_neg (nI_ge hi (by omega)), ckn (by omega) (by decide), nI_clamp (by omega), nI_1]
    refine ⟨upd s i 0, rfl, fun j hj => ?_⟩
    by_cases q : j = i
    · subst q; rw [pk_us]
    · rw [pk_un q]; exact hs' j (by omega)) n 0 64 row (by omega) (by omega) (fun j hj => absurd hj (Nat.not_lt_zero j))
  unfold f_Re_tries
  have e : L_Re_tries_2 (nI k) (nI n) (nI b0) best least LA LW most 64 0 row = L_Re_tries_2 (nI k) (nI n) (nI b0) best least LA LW most (f' + 1) (nI n) s' := e
  obtain ⟨y1, y3, bs, ro, F, e1, e2, e3, e4, e5⟩ := s_tall g hL hB hb n 0 (70000 - k ^ n) P0 none (-1 : Int64) (0 : Int64) best s' (by omega) (fun i hi => absurd hi (Nat.not_lt_zero i)) (fun i _ hi => hP i hi) (fun i hi => absurd hi (Nat.not_lt_zero i)) rfl
  rw [show 70000 - k ^ n + k ^ n = 70000 by omega] at e1
  obtain ⟨F, rfl⟩ : ∃ e, F = e + 1 := ⟨F - 1, by omega⟩
  obtain ⟨G, eG⟩ : ∃ G, 70000 - k ^ n = G + 1 := ⟨70000 - k ^ n - 1, by omega⟩
  rw [(bst_ok hB.1).1] at e2
  obtain ⟨ro', e6, e7⟩ := s_t208 (row := ro) hn e2.2.2
  refine ⟨bs, ro', ?_, e7⟩
  rw [e, L_Re_tries_2, if_pos (nI_le (Nat.le_refl n) (by omega)), e1, L_Re_tries_139, if_pos (show nI 0 - 1 < 0 by decide)]
  unfold J_Re_tries_174
  rw [if_pos (show nI 0 - 1 < 0 by decide)]
  unfold J_Re_tries_184
  rw [if_pos rfl, eG, L_Re_tries_32, if_pos rfl, e6]
theorem s_rtold {n k b0 : Nat} {w : Nat → Int} {A : Nat → Nat → Int} {lo hi h : Nat → Int} {LW LA least most row : Nat → Int32} (g : GOK n w A) (hL : RL n b0 w A LW LA) (hB : BOK k lo hi) (hb : RB k lo hi least most) (hr : RW n h row) (hh : HK n k h) : f_Re_told (nI k) (nI n) (nI b0) least LA LW most row = some (iI (if overI n k w lo hi h = 0 then cutI n A h else -10 - overI n k w lo hi h)) := by
  have ho := g.over hB h
  unfold f_Re_told
  rw [s_rowOver g hL hr hB hb hh.ok, Option.bind_some]
  by_cases q : overI n k w lo hi h = 0
  · rw [if_pos (by rw [q]; decide), s_rowCut g hL hr hB.2.1 hh.ok, Option.bind_some, if_pos q, lI_i]
  · rw [if_neg (by rw [lg_cmp_eq, ← lI_0, lI_eq ⟨by omega, by omega⟩ ⟨by omega, by omega⟩]; exact q), if_neg q, show (-10 : Int64) = lI (-10) from rfl, lI_sub, lI_i]
