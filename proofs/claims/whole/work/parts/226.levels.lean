/-! ALL LEVELS -/
def lvN (n k : Nat) (w : Nat → Int) (A : Nat → Nat → Int) : Nat → Nat × (Nat → Int)
  | 0 => (n, fun i => (i : Int))
  | l + 1 => ((jF (lvN n k w A l).1 (fun a => pS n w (lvN n k w A l).2 a) (fun a b => qA n A (lvN n k w A l).2 a b) (limI (lvN n k w A l).1 k (fun a => pS n w (lvN n k w A l).2 a)) (lvN n k w A l).1).2.1, cmp (jF (lvN n k w A l).1 (fun a => pS n w (lvN n k w A l).2 a) (fun a b => qA n A (lvN n k w A l).2 a b) (limI (lvN n k w A l).1 k (fun a => pS n w (lvN n k w A l).2 a)) (lvN n k w A l).1).1 (lvN n k w A l).2)
def lvJ (n k : Nat) (w : Nat → Int) (A : Nat → Nat → Int) (l : Nat) : Nat → Int := (jF (lvN n k w A l).1 (fun a => pS n w (lvN n k w A l).2 a) (fun a b => qA n A (lvN n k w A l).2 a b) (limI (lvN n k w A l).1 k (fun a => pS n w (lvN n k w A l).2 a)) (lvN n k w A l).1).1
def lvW (n k : Nat) (w : Nat → Int) (A : Nat → Nat → Int) (l : Nat) : Nat → Int := fun a => pS n w (lvN n k w A l).2 a
def lvA (n k : Nat) (w : Nat → Int) (A : Nat → Nat → Int) (l : Nat) : Nat → Nat → Int := fun a b => qA n A (lvN n k w A l).2 a b
theorem lvN_s (n k : Nat) (w : Nat → Int) (A : Nat → Nat → Int) (l : Nat) : lvN n k w A (l + 1) = ((jF (lvN n k w A l).1 (lvW n k w A l) (lvA n k w A l) (limI (lvN n k w A l).1 k (lvW n k w A l)) (lvN n k w A l).1).2.1, cmp (lvJ n k w A l) (lvN n k w A l).2) := rfl
theorem lvJ_e (n k : Nat) (w : Nat → Int) (A : Nat → Nat → Int) (l : Nat) : lvJ n k w A l = (jF (lvN n k w A l).1 (lvW n k w A l) (lvA n k w A l) (limI (lvN n k w A l).1 k (lvW n k w A l)) (lvN n k w A l).1).1 := rfl
/-- there is a level behind l -/
def lvGo (n k : Nat) (w : Nat → Int) (A : Nat → Nat → Int) (l : Nat) : Bool := decide (6 < (lvN n k w A l).1) && decide ((lvN n k w A (l + 1)).1 ≠ (lvN n k w A l).1)
def lvCnt (n k : Nat) (w : Nat → Int) (A : Nat → Nat → Int) : Nat → Nat → Nat
  | 0, l => l + 1
  | f + 1, l => if lvGo n k w A l = true then lvCnt n k w A f (l + 1) else l + 1
def lvC (n k : Nat) (w : Nat → Int) (A : Nat → Nat → Int) : Nat := lvCnt n k w A 38 0
theorem lv_HS {n k : Nat} {w : Nat → Int} {A : Nat → Nat → Int} (g : GOK n w A) : ∀ l, HS n (lvN n k w A l).1 (lvN n k w A l).2 := by
  intro l
  induction l with
  | zero => exact ⟨fun i hi => by show 0 ≤ (i : Int) ∧ (i : Int) < n; omega, fun a ha => ⟨a, ha, rfl⟩, Nat.le_refl n⟩
  | succ l ih =>
    have gq := GOK_q g ih
    exact HS_cmp ih gq.2.2.2.2.2.1 gq.2.2.2.2.2.2
theorem lv_G {n k : Nat} {w : Nat → Int} {A : Nat → Nat → Int} (g : GOK n w A) (l : Nat) : GOK (lvN n k w A l).1 (lvW n k w A l) (lvA n k w A l) := GOK_q g (lv_HS g l)
theorem lv_le {n k : Nat} {w : Nat → Int} {A : Nat → Nat → Int} (g : GOK n w A) (l : Nat) : (lvN n k w A (l + 1)).1 ≤ (lvN n k w A l).1 := by
  have gq := lv_G (k := k) g l
  exact (jF_ok (w := lvW n k w A l) (lim := limI (lvN n k w A l).1 k (lvW n k w A l)) gq.2.2.2.2.2.1 gq.2.2.2.2.2.2 _ (Nat.le_refl _)).2.2.1
theorem lv_down {n k : Nat} {w : Nat → Int} {A : Nat → Nat → Int} (g : GOK n w A) : ∀ l, (∀ j, j < l → lvGo n k w A j = true) → (lvN n k w A l).1 + l ≤ n := by
  intro l
  induction l with
  | zero => intro _; show n + 0 ≤ n; omega
  | succ l ih =>
    intro h
    have h1 := ih (fun j hj => h j (by omega))
    have h2 := h l (by omega)
    have h3 := lv_le (k := k) g l
    unfold lvGo at h2
    simp only [Bool.and_eq_true, decide_eq_true_eq] at h2
    omega
theorem lv_few {n k : Nat} {w : Nat → Int} {A : Nat → Nat → Int} (g : GOK n w A) {l : Nat} (h : ∀ j, j < l → lvGo n k w A j = true) (hg : lvGo n k w A l = true) : l < 34 := by
  have h1 := lv_down g l h
  unfold lvGo at hg
  simp only [Bool.and_eq_true, decide_eq_true_eq] at hg
  have := g.1
  omega
theorem lvCnt_ok {n k : Nat} {w : Nat → Int} {A : Nat → Nat → Int} (g : GOK n w A) : ∀ f l, l + f = 38 → (∀ j, j < l → lvGo n k w A j = true) → l < lvCnt n k w A f l ∧ (∀ j, j + 1 < lvCnt n k w A f l → lvGo n k w A j = true) ∧ lvGo n k w A (lvCnt n k w A f l - 1) = false ∧ lvCnt n k w A f l < 36 := by
  intro f
  induction f with
  | zero =>
    intro l hl h
    have := lv_few g (fun j hj => h j (by omega)) (h (l - 1) (by omega))
    omega
  | succ f ih =>
    intro l hl h
    unfold lvCnt
    by_cases q : lvGo n k w A l = true
    · rw [if_pos q]
      have h2 := ih (l + 1) (by omega) (fun j hj => by
        by_cases z : j = l
        · rw [z]; exact q
        · exact h j (by omega))
      exact ⟨by omega, h2.2.1, h2.2.2.1, h2.2.2.2⟩
    · rw [if_neg q]
      refine ⟨by omega, fun j hj => h j (by omega), ?_, ?_⟩
      · rw [show l + 1 - 1 = l by omega]; simpa using q
      · by_cases z : l = 0
        · omega
        · have := lv_few g (fun j hj => h j (by omega)) (h (l - 1) (by omega))
          omega
theorem lvC_ok {n k : Nat} {w : Nat → Int} {A : Nat → Nat → Int} (g : GOK n w A) : 0 < lvC n k w A ∧ (∀ j, j + 1 < lvC n k w A → lvGo n k w A j = true) ∧ lvGo n k w A (lvC n k w A - 1) = false ∧ lvC n k w A < 36 := lvCnt_ok g 38 0 rfl (fun j hj => absurd hj (Nat.not_lt_zero j))
/-- the count is the first level with none behind it -/
theorem lvC_eq {n k l : Nat} {w : Nat → Int} {A : Nat → Nat → Int} (g : GOK n w A) (h1 : ∀ j, j < l → lvGo n k w A j = true) (h2 : lvGo n k w A l = false) : lvC n k w A = l + 1 := by
  obtain ⟨c0, c1, c2, c3⟩ := lvC_ok (k := k) g
  by_cases q : lvC n k w A < l + 1
  · have := h1 (lvC n k w A - 1) (by omega)
    rw [c2] at this
    exact absurd this (by decide)
  · by_cases z : l + 1 < lvC n k w A
    · have := c1 l z
      rw [h2] at this
      exact absurd this (by decide)
    · omega
theorem pS_id {n a : Nat} {w : Nat → Int} : a < n → pS n w (fun i => (i : Int)) a = w a := by
  unfold pS
  intro ha
  have e : sI (fun i => if (i : Int) = (a : Int) then w i else 0) n = sI (fun i => if (a : Int) = (i : Int) then w a else 0) n := by
    refine sI_congr (fun i hi => ?_)
    by_cases q : i = a
    · subst q; rw [if_pos rfl]
    · rw [if_neg (by omega), if_neg (by omega)]
  rw [e, sI_ind (by omega) (by omega)]
theorem qA_id {n a b : Nat} {A : Nat → Nat → Int} (hd : ∀ i, i < n → A i i = 0) (ha : a < n) (hb : b < n) : qA n A (fun i => (i : Int)) a b = A a b := by
  unfold qA
  by_cases q : a = b
  · rw [if_pos q, q, hd b hb]
  · rw [if_neg q]
    have e : sI (fun i => if (i : Int) = (a : Int) then lk n A (fun i => (i : Int)) i b else 0) n = lk n A (fun i => (i : Int)) a b := pS_id (w := fun i => lk n A (fun i => (i : Int)) i b) ha
    have e2 : lk n A (fun i => (i : Int)) a b = A a b := pS_id (w := fun i => A a i) hb
    rw [e, e2]
/-- what the reference holds of the levels 0 .. c - 1 -/
def RV (n k c : Nat) (w : Nat → Int) (A : Nat → Nat → Int) (LA LI LN LW : Nat → Int32) : Prop := (∀ l, l < c → LN l = nI (lvN n k w A l).1) ∧ (∀ l, l < c → RL (lvN n k w A l).1 l (lvW n k w A l) (lvA n k w A l) LW LA) ∧ ∀ l, l + 1 < c → RI (lvN n k w A l).1 l (lvJ n k w A l) LI
theorem RV_step {n k l : Nat} {w : Nat → Int} {A : Nat → Nat → Int} {LA LI LN LW LA' LI' LW' : Nat → Int32} (g : GOK n w A) (h : RV n k (l + 1) w A LA LI LN LW) (hl : l + 1 < 41) (h1 : RL (lvN n k w A (l + 1)).1 (l + 1) (fun a => pS (lvN n k w A l).1 (lvW n k w A l) (lvJ n k w A l) a) (fun a b => qA (lvN n k w A l).1 (lvA n k w A l) (lvJ n k w A l) a b) LW' LA') (h2 : RI (lvN n k w A l).1 l (lvJ n k w A l) LI') (h3 : ∀ j, (j < 40 * l ∨ 40 * l + (lvN n k w A l).1 ≤ j) → LI' j = LI j) (h4 : ∀ j, j < 1600 * (l + 1) → LA' j = LA j) (h5 : ∀ j, j < 40 * (l + 1) → LW' j = LW j) : RV n k (l + 2) w A LA' LI' (upd LN (l + 1) (nI (lvN n k w A (l + 1)).1)) LW' := by
  obtain ⟨a1, a2, a3⟩ := h
  have hn := g.1
  have hm : ∀ j, (lvN n k w A j).1 ≤ 40 := fun j => (lv_G g j).1
  refine ⟨fun j hj => ?_, fun j hj => ?_, fun j hj => ?_⟩
  · by_cases q : j = l + 1
    · subst q; rw [pk_us]
    · rw [pk_un q]; exact a1 j (by omega)
  · by_cases q : j = l + 1
    · subst q
      refine ⟨by omega, fun i hi => ?_, fun i u hi hu => ?_⟩
      · rw [h1.2.1 i hi]
        congr 1
        exact pS_cmp (lv_HS g l)
      · rw [h1.2.2 i u hi hu]
        congr 1
        exact qA_cmp (lv_HS g l)
    · have b := a2 j (by omega)
      have := hm j
      refine ⟨b.1, fun i hi => ?_, fun i u hi hu => ?_⟩
      · rw [h5 _ (by omega)]; exact b.2.1 i hi
      · rw [h4 _ (by omega)]; exact b.2.2 i u hi hu
  · by_cases q : j = l
    · subst q; exact h2
    · intro u hu
      have := hm j
      rw [h3 _ (by omega)]; exact a3 j (by omega) u hu
theorem s_r96 {n k : Nat} {w : Nat → Int} {A : Nat → Nat → Int} (g : GOK n w A) (hk1 : 2 ≤ k) (hk : k ≤ 4) : ∀ (d l f : Nat) (LA LI LN LW : Nat → Int32), l + d = 40 → d < f → (∀ j, j < l → lvGo n k w A j = true) → RV n k (l + 1) w A LA LI LN LW → ∃ LA' LI' LN' LW', L_Re_makeLevels_96 (nI k) f (if 6 < (lvN n k w A l).1 then 1 else 0) (nI (l + 1)) LA LI LN LW = some (nI (lvC n k w A), LA', LI', LN', LW') ∧ RV n k (lvC n k w A) w A LA' LI' LN' LW' := by
  intro d
  induction d with
  | zero =>
    intro l f LA LI LN LW hl hf hgo hR
    have := lv_few g (fun j hj => hgo j (by omega)) (hgo (l - 1) (by omega))
    omega
  | succ d ih =>
    intro l f LA LI LN LW hl hf hgo hR
    obtain ⟨f, rfl⟩ : ∃ z, f = z + 1 := ⟨f - 1, by omega⟩
    by_cases q : 6 < (lvN n k w A l).1
    · rw [if_pos q, L_Re_makeLevels_96, if_neg (show ¬ (1 : Int32) = 0 by decide), show nI (l + 1) - 1 = nI l from nI_pred l]
      obtain ⟨n1, n2⟩ := s_rnext (k := k) (LI := LI) (lv_G g l) (hR.2.1 l (by omega)) (hR.1 l (by omega)) (by omega) hk1 hk _ rfl
      have eM : (jF (lvN n k w A l).1 (lvW n k w A l) (lvA n k w A l) (limI (lvN n k w A l).1 k (lvW n k w A l)) (lvN n k w A l).1).2.1 = (lvN n k w A (l + 1)).1 := rfl
      rw [eM] at n1 n2
      by_cases z : (lvN n k w A (l + 1)).1 = (lvN n k w A l).1
      · obtain ⟨LI', e, hLI⟩ := n1 z
        have hc : lvC n k w A = l + 1 := lvC_eq g hgo (by unfold lvGo; simp [z])
        rw [e, Option.bind_some]
        dsimp only
        rw [if_pos rfl]
        obtain ⟨f, rfl⟩ : ∃ y, f = y + 1 := ⟨f - 1, by omega⟩
        rw [L_Re_makeLevels_96, if_pos rfl, hc]
        refine ⟨LA, LI', LN, LW, rfl, hR.1, hR.2.1, fun j hj u hu => ?_⟩
        have := (lv_G (k := k) g j).1
        rw [hLI _ (by omega)]
        exact hR.2.2 j hj u hu
      · obtain ⟨LA', LI', LW', e, r1, r2, r3, r4, r5⟩ := n2 z
        have hg : lvGo n k w A l = true := by unfold lvGo; simp [q, z]
        have hlt := lv_few g hgo hg
        have hR2 := RV_step g hR (by omega) r1 r2 r3 r4 r5
        have hgo2 : ∀ j, j < l + 1 → lvGo n k w A j = true := fun j hj => by
          by_cases y : j = l
          · rw [y]; exact hg
          · exact hgo j (by omega)
        have h3 := ih (l + 1) f LA' LI' _ LW' (by omega) (by omega) hgo2 hR2
        have hm := (lv_G (k := k) g (l + 1)).1
        rw [e, Option.bind_some]
        dsimp only
        rw [if_neg (show ¬ (1 : Int32) = 0 by decide), show nI (l + 2) - 1 = nI (l + 1) from nI_pred (l + 1), ckn (by omega) (by decide), nI_clamp (by omega)]
        simp only [pk_us]
        by_cases y : 6 < (lvN n k w A (l + 1)).1
        · rw [if_neg (show ¬ nI (lvN n k w A (l + 1)).1 ≤ 6 from nI_ge y (by omega))]
          rw [if_pos y] at h3
          exact h3
        · rw [if_pos (show nI (lvN n k w A (l + 1)).1 ≤ 6 from nI_le (show (lvN n k w A (l + 1)).1 ≤ 6 by omega) (by decide))]
          rw [if_neg y] at h3
          exact h3
    · have hc : lvC n k w A = l + 1 := lvC_eq g hgo (by unfold lvGo; simp [q])
      rw [if_neg q, L_Re_makeLevels_96, if_pos rfl, hc]
      exact ⟨LA, LI, LN, LW, rfl, hR⟩
theorem s_r39 {n i : Nat} {ar LA LN LW : Nat → Int32} {lv : Int32} (hn : n ≤ 40) (hi : i < n) (K : Int32 → Int32 → (Nat → Int32) → (Nat → Int32) → (Nat → Int32) → Option (Int32 × (Nat → Int32) × (Nat → Int32) × (Nat → Int32) × (Nat → Int32))) : ∃ LA', L_Re_makeLevels_39 (nI n) ar K 64 (nI i) 0 lv LA LN LW = K (nI (i + 1)) lv LA' LN LW ∧ (∀ b, b < n → LA' (40 * i + b) = ar (40 * i + b)) ∧ ∀ j, j < 40 * i → LA' j = LA j := by
  obtain ⟨f', s', e, hP⟩ := loopP (fun f u (s : Nat → Int32) => L_Re_makeLevels_39 (nI n) ar K f (nI i) (nI u) lv s LN LW) n (fun u s => (∀ b, b < u → s (40 * i + b) = ar (40 * i + b)) ∧ ∀ j, j < 40 * i → s j = LA j) (by
    intro f u s hu hp
    obtain ⟨p1, p2⟩ := hp
    show ∃ s', L_Re_makeLevels_39 _ _ _ (f + 1) _ (nI u) _ s _ _ = _ ∧ _
    rw [L_Re_makeLevels_39, if_neg (nI_ge hu (by omega)), n40', ckn (by omega) (by decide), ckn (by omega) (by decide), nI_clamp (by omega), nI_1]
    refine ⟨upd s (40 * i + u) (ar (40 * i + u)), rfl, fun b hb => ?_, fun j hj => ?_⟩
    · by_cases q : b = u
      · subst q; rw [pk_us]
      · rw [pk_un (by omega)]; exact p1 b (by omega)
    · rw [pk_un (by omega)]; exact p2 j hj) n 0 64 LA (by omega) (by omega) ⟨fun b hb => absurd hb (Nat.not_lt_zero b), fun j _ => rfl⟩
  have e : L_Re_makeLevels_39 (nI n) ar K 64 (nI i) 0 lv LA LN LW = L_Re_makeLevels_39 (nI n) ar K (f' + 1) (nI i) (nI n) lv s' LN LW := e
  refine ⟨s', ?_, hP.1, hP.2⟩
  rw [e, L_Re_makeLevels_39, if_pos (nI_le (Nat.le_refl n) (by omega)), nI_1]
/-- the reference makes its levels -/
theorem s_makeLevels {n k : Nat} {w : Nat → Int} {A : Nat → Nat → Int} {wt ar LA LI LN LW : Nat → Int32} (g : GOK n w A) (hk1 : 2 ≤ k) (hk : k ≤ 4) (hW : ∀ i, i < n → wt i = iI (w i)) (hA : ∀ i j, i < n → j < n → ar (40 * i + j) = iI (A i j)) : ∃ LA' LI' LN' LW', f_Re_makeLevels (nI n) (nI k) ar LA LI LN LW wt = some (nI (lvC n k w A), LA', LI', LN', LW') ∧ RV n k (lvC n k w A) w A LA' LI' LN' LW' := by
  have hn := g.1
  obtain ⟨f', s', e, hP⟩ := loopP (fun f i (s : (Nat → Int32) × (Nat → Int32)) => L_Re_makeLevels_17 (nI n) (nI k) ar LI wt f (nI i) 1 s.1 (upd LN 0 (nI n)) s.2) n (fun i s => (∀ a b, a < i → b < n → s.1 (40 * a + b) = ar (40 * a + b)) ∧ ∀ a, a < i → s.2 a = wt a) (by
    intro f i s hi hp
    obtain ⟨la, lw⟩ := s
    obtain ⟨p1, p2⟩ := hp
    dsimp only at p1 p2
    obtain ⟨la', e1, q1, q2⟩ := s_r39 (ar := ar) (LA := la) (LN := upd LN 0 (nI n)) (LW := upd lw i (wt i)) (lv := 1) hn hi (L_Re_makeLevels_17 (nI n) (nI k) ar LI wt f)
    show ∃ s', L_Re_makeLevels_17 _ _ _ _ _ (f + 1) (nI i) _ la _ lw = _ ∧ _
    rw [L_Re_makeLevels_17, if_neg (nI_ge hi (by omega)), ckn (by omega) (by decide), ckn (by omega) (by decide), nI_clamp (by omega), e1]
    refine ⟨(la', upd lw i (wt i)), rfl, fun a b ha hb => ?_, fun a ha => ?_⟩
    · dsimp only
      by_cases q : a = i
      · subst q; exact q1 b hb
      · rw [q2 _ (by omega)]; exact p1 a b (by omega) hb
    · dsimp only
      by_cases q : a = i
      · subst q; rw [pk_us]
      · rw [pk_un q]; exact p2 a (by omega)) n 0 64 (LA, LW) (by omega) (by omega) ⟨fun a b ha => absurd ha (Nat.not_lt_zero a), fun a ha => absurd ha (Nat.not_lt_zero a)⟩
  obtain ⟨la, lw⟩ := s'
  obtain ⟨p1, p2⟩ := hP
  dsimp only at p1 p2
  have e : L_Re_makeLevels_17 (nI n) (nI k) ar LI wt 64 0 1 LA (upd LN 0 (nI n)) LW = L_Re_makeLevels_17 (nI n) (nI k) ar LI wt (f' + 1) (nI n) 1 la (upd LN 0 (nI n)) lw := e
  have hR : RV n k 1 w A la LI (upd LN 0 (nI n)) lw := by
    refine ⟨fun l hl => ?_, fun l hl => ?_, fun l hl => absurd hl (by omega)⟩
    · obtain rfl : l = 0 := by omega
      rw [pk_us]; rfl
    · obtain rfl : l = 0 := by omega
      refine ⟨by omega, fun i hi => ?_, fun i j hi hj => ?_⟩
      · have hi : i < n := hi
        rw [show 40 * 0 + i = i by omega, p2 i hi, hW i hi]
        congr 1
        exact (pS_id hi).symm
      · have hi : i < n := hi
        have hj : j < n := hj
        rw [show 1600 * 0 + 40 * i + j = 40 * i + j by omega, p1 i j hi hj, hA i j hi hj]
        congr 1
        exact (qA_id g.2.2.2.2.2.2 hi hj).symm
  have h96 := s_r96 g hk1 hk 40 0 64 la LI (upd LN 0 (nI n)) lw rfl (by omega) (fun j hj => absurd hj (Nat.not_lt_zero j)) hR
  unfold f_Re_makeLevels
  show ∃ LA' LI' LN' LW', ck (okb (nI 0) 41) (L_Re_makeLevels_17 (nI n) (nI k) ar LI wt 64 0 1 LA (upd LN 0 (nI n)) LW) = _ ∧ _
  rw [ckn (by decide) (by decide), e, L_Re_makeLevels_17, if_pos (nI_le (Nat.le_refl n) (by omega))]
  unfold J_Re_makeLevels_81
  have e0 : (lvN n k w A 0).1 = n := rfl
  rw [e0] at h96
  by_cases q : 6 < n
  · rw [if_neg (show ¬ nI n ≤ 6 from nI_ge q (by omega))]
    rw [if_pos q] at h96
    exact h96
  · rw [if_pos (show nI n ≤ 6 from nI_le (show n ≤ 6 by omega) (by decide))]
    rw [if_neg q] at h96
    exact h96
