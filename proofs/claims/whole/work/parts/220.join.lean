/-! THE NEXT LEVEL: which nodes are joined, and their numbers -/
def mtS (w : Nat → Int) (A : Nat → Nat → Int) (lim : Int) (num : Nat → Int) (v u : Nat) (s : Option Nat) : Option Nat := if A v u = 0 ∨ 0 ≤ num u ∨ lim < w v + w u then s else match s with
  | none => some u
  | some b => if A v b < A v u ∨ (A v u = A v b ∧ w u < w b) then some u else some b
def mtF (n : Nat) (w : Nat → Int) (A : Nat → Nat → Int) (lim : Int) (num : Nat → Int) (v : Nat) : Option Nat := fo (mtS w A lim num v) n none
theorem mtF_ok {n v : Nat} {w : Nat → Int} {A : Nat → Nat → Int} {lim : Int} {num : Nat → Int} : ∀ m, m ≤ n → ∀ j, fo (mtS w A lim num v) m none = some j → j < n ∧ A v j ≠ 0 ∧ num j < 0 ∧ w v + w j ≤ lim := by
  intro m
  induction m with
  | zero => intro _ j e; cases e
  | succ m ih =>
    intro hm j e
    rw [fo_s] at e
    generalize hq : fo (mtS w A lim num v) m none = S at e
    unfold mtS at e
    by_cases q : A v m = 0 ∨ 0 ≤ num m ∨ lim < w v + w m
    · rw [if_pos q] at e
      exact ih (by omega) j (hq.trans e)
    · rw [if_neg q] at e
      have me : m < n ∧ A v m ≠ 0 ∧ num m < 0 ∧ w v + w m ≤ lim := ⟨by omega, fun z => q (Or.inl z), by omega, by omega⟩
      cases S with
      | none => cases e; exact me
      | some u =>
        have hu := ih (by omega) u hq
        dsimp only at e
        by_cases z : A v u < A v m ∨ (A v m = A v u ∧ w m < w u)
        · rw [if_pos z] at e; cases e; exact me
        · rw [if_neg z] at e; cases e; exact hu
theorem mtF_none {v : Nat} {w : Nat → Int} {A : Nat → Nat → Int} {lim : Int} {num : Nat → Int} : ∀ m, fo (mtS w A lim num v) m none = none → ∀ u, u < m → A v u = 0 ∨ 0 ≤ num u ∨ lim < w v + w u := by
  intro m
  induction m with
  | zero => intro _ u hu; omega
  | succ m ih =>
    intro e u hu
    rw [fo_s] at e
    generalize hq : fo (mtS w A lim num v) m none = S at e
    unfold mtS at e
    by_cases q : A v m = 0 ∨ 0 ≤ num m ∨ lim < w v + w m
    · rw [if_pos q] at e
      by_cases z : u = m
      · subst z; exact q
      · exact ih (hq.trans e) u (by omega)
    · rw [if_neg q] at e
      cases S with
      | none => cases e
      | some b =>
        dsimp only at e
        by_cases z : A v b < A v m ∨ (A v m = A v b ∧ w m < w b)
        · rw [if_pos z] at e; cases e
        · rw [if_neg z] at e; cases e
/-- two numberings that let the same nodes be taken choose the same one -/
theorem mtF_congr {v : Nat} {w : Nat → Int} {A : Nat → Nat → Int} {lim : Int} {num num' : Nat → Int} : ∀ m, (∀ u, u < m → ((A v u = 0 ∨ 0 ≤ num u ∨ lim < w v + w u) ↔ (A v u = 0 ∨ 0 ≤ num' u ∨ lim < w v + w u))) → fo (mtS w A lim num v) m none = fo (mtS w A lim num' v) m none := by
  intro m
  induction m with
  | zero => intro _; rfl
  | succ m ih =>
    intro h
    rw [fo_s, fo_s, ih (fun u hu => h u (by omega))]
    unfold mtS
    by_cases q : A v m = 0 ∨ 0 ≤ num m ∨ lim < w v + w m
    · rw [if_pos q, if_pos ((h m (by omega)).mp q)]
    · rw [if_neg q, if_neg (fun z => q ((h m (by omega)).mpr z))]
def jS (n : Nat) (w : Nat → Int) (A : Nat → Nat → Int) (lim : Int) (v : Nat) (s : (Nat → Int) × Nat × (Nat → Int)) : (Nat → Int) × Nat × (Nat → Int) := if 0 ≤ s.1 v then s else match mtF n w A lim s.1 v with
  | none => (hs s.1 v s.2.1, s.2.1 + 1, s.2.2)
  | some u => (hs (hs s.1 v s.2.1) u s.2.1, s.2.1 + 1, hs (hs s.2.2 v u) u v)
def jF (n : Nat) (w : Nat → Int) (A : Nat → Nat → Int) (lim : Int) (v : Nat) : (Nat → Int) × Nat × (Nat → Int) := fo (jS n w A lim) v (fun _ => -1, 0, fun _ => -1)
/-- what holds when the nodes below v have been gone through -/
def JI (n : Nat) (w : Nat → Int) (A : Nat → Nat → Int) (lim : Int) (v : Nat) (s : (Nat → Int) × Nat × (Nat → Int)) : Prop :=
  (∀ u, u < v → 0 ≤ s.1 u) ∧ (∀ u, u < n → s.1 u < s.2.1) ∧ s.2.1 ≤ v ∧
  (∀ u, u < n → s.2.2 u = -1 ∨ (0 ≤ s.2.2 u ∧ s.2.2 u < n ∧ 0 ≤ s.1 u)) ∧
  (∀ u, v ≤ u → u < n → 0 ≤ s.1 u → 0 ≤ s.2.2 u ∧ s.2.2 u < v) ∧
  (∀ u, u < n → s.1 u < 0 → s.2.2 u = -1) ∧
  (∀ u x, u < v → u < n → x < n → s.2.2 u = -1 → s.2.2 x = -1 → A u x = 0 ∨ lim < w u + w x) ∧
  (∀ u, u < n → 0 ≤ s.2.2 u → s.1 (s.2.2 u).toNat = s.1 u) ∧
  (∀ u, u < n → s.1 u < 0 → s.1 u = -1)
theorem jS_ok {n v : Nat} {w : Nat → Int} {A : Nat → Nat → Int} {lim : Int} {s : (Nat → Int) × Nat × (Nat → Int)} (hsy : ∀ i j, i < n → j < n → A i j = A j i) (hd : ∀ i, i < n → A i i = 0) (hv : v < n) (h : JI n w A lim v s) : JI n w A lim (v + 1) (jS n w A lim v s) := by
  obtain ⟨num, many, mt⟩ := s
  obtain ⟨j1, j2, j3, j4, j5, j6, j7, j8, j9⟩ := h
  dsimp only at j1 j2 j3 j4 j5 j6 j7 j8 j9
  unfold jS
  dsimp only
  by_cases q : 0 ≤ num v
  · rw [if_pos q]
    have m5 := j5 v (Nat.le_refl v) hv q
    refine ⟨fun u hu => ?_, j2, by dsimp only; omega, j4, fun u h1 h2 h3 => ?_, j6, fun u x h1 h2 h3 h4 h5 => ?_, j8, j9⟩
    · by_cases z : u = v
      · subst z; exact q
      · exact j1 u (by omega)
    · have := j5 u (by omega) h2 h3; dsimp only at this ⊢; omega
    · by_cases z : u = v
      · subst z; dsimp only at h4; omega
      · exact j7 u x (by omega) h2 h3 h4 h5
  · rw [if_neg q]
    have mv : mt v = -1 := j6 v hv (by omega)
    cases hm : mtF n w A lim num v with
    | none =>
      dsimp only
      have hno := mtF_none n hm
      refine ⟨fun u hu => ?_, fun u hu => ?_, by dsimp only; omega, fun u hu => ?_, fun u h1 h2 h3 => ?_, fun u hu h1 => ?_, fun u x h1 h2 h3 h4 h5 => ?_, fun u hu h1 => ?_, fun u hu h1 => ?_⟩
      · dsimp only
        by_cases z : u = v
        · subst z; rw [hs_s]; omega
        · rw [hs_n z]; exact j1 u (by omega)
      · dsimp only
        by_cases z : u = v
        · subst z; rw [hs_s]; omega
        · rw [hs_n z]; have := j2 u hu; omega
      · dsimp only
        rcases j4 u hu with a | a
        · exact Or.inl a
        · refine Or.inr ⟨a.1, a.2.1, ?_⟩
          by_cases z : u = v
          · subst z; rw [hs_s]; omega
          · rw [hs_n z]; exact a.2.2
      · dsimp only at h3 ⊢
        rw [hs_n (by omega)] at h3
        have := j5 u (by omega) h2 h3
        omega
      · dsimp only at h1 ⊢
        by_cases z : u = v
        · subst z; exact mv
        · rw [hs_n z] at h1; exact j6 u hu h1
      · dsimp only at h4 h5
        by_cases z : u = v
        · subst z
          rcases hno x h3 with a | a | a
          · exact Or.inl a
          · by_cases y : x < u
            · rcases j7 x u y h3 h2 h5 mv with b | b
              · exact Or.inl (by rw [hsy u x h2 h3]; exact b)
              · exact Or.inr (by omega)
            · have := j5 x (by omega) h3 a; omega
          · exact Or.inr a
        · exact j7 u x (by omega) h2 h3 h4 h5
      · dsimp only at h1 ⊢
        have n1 : u ≠ v := fun z => by subst z; omega
        have e8 := j8 u hu h1
        rcases j4 u hu with a | a
        · omega
        · have n2 : (mt u).toNat ≠ v := fun z => by rw [z] at e8; omega
          rw [hs_n n1, hs_n n2]; exact e8
      · dsimp only at h1 ⊢
        by_cases z : u = v
        · subst z; rw [hs_s] at h1; omega
        · rw [hs_n z] at h1 ⊢; exact j9 u hu h1
    | some u0 =>
      dsimp only
      obtain ⟨c1, c2, c3, c4⟩ := mtF_ok n (Nat.le_refl n) u0 hm
      have nuv : u0 ≠ v := fun z => by subst z; exact c2 (hd u0 c1)
      have hgt : v < u0 := by
        by_cases y : u0 < v
        · have := j1 u0 y; omega
        · omega
      have mu : mt u0 = -1 := j6 u0 c1 c3
      refine ⟨fun u hu => ?_, fun u hu => ?_, by dsimp only; omega, fun u hu => ?_, fun u h1 h2 h3 => ?_, fun u hu h1 => ?_, fun u x h1 h2 h3 h4 h5 => ?_, fun u hu h1 => ?_, fun u hu h1 => ?_⟩
      · dsimp only
        rw [hs_n (by omega)]
        by_cases z : u = v
        · subst z; rw [hs_s]; omega
        · rw [hs_n z]; exact j1 u (by omega)
      · dsimp only
        by_cases z : u = u0
        · subst z; rw [hs_s]; omega
        · rw [hs_n z]
          by_cases z2 : u = v
          · subst z2; rw [hs_s]; omega
          · rw [hs_n z2]; have := j2 u hu; omega
      · dsimp only
        by_cases z : u = u0
        · subst z; rw [hs_s, hs_s]; exact Or.inr ⟨by omega, by omega, by omega⟩
        · rw [hs_n z, hs_n z]
          by_cases z2 : u = v
          · subst z2; rw [hs_s, hs_s]; exact Or.inr ⟨by omega, by omega, by omega⟩
          · rw [hs_n z2, hs_n z2]; exact j4 u hu
      · dsimp only at h3 ⊢
        by_cases z : u = u0
        · subst z; rw [hs_s]; omega
        · rw [hs_n z, hs_n (by omega)]
          rw [hs_n z, hs_n (by omega)] at h3
          have := j5 u (by omega) h2 h3
          omega
      · dsimp only at h1 ⊢
        by_cases z : u = u0
        · subst z; rw [hs_s] at h1; omega
        · rw [hs_n z] at h1 ⊢
          by_cases z2 : u = v
          · subst z2; rw [hs_s] at h1; omega
          · rw [hs_n z2] at h1 ⊢; exact j6 u hu h1
      · dsimp only at h4 h5
        by_cases z : u = u0
        · omega
        · rw [hs_n z] at h4
          by_cases z2 : u = v
          · subst z2; rw [hs_s] at h4; omega
          · rw [hs_n z2] at h4
            by_cases y : x = u0
            · subst y; rw [hs_s] at h5; omega
            · rw [hs_n y] at h5
              by_cases y2 : x = v
              · subst y2; rw [hs_s] at h5; omega
              · rw [hs_n y2] at h5; exact j7 u x (by omega) h2 h3 h4 h5
      · dsimp only at h1 ⊢
        by_cases z : u = u0
        · subst z; rw [hs_s, hs_s, Int.toNat_natCast, hs_n (by omega), hs_s]
        · rw [hs_n z] at h1
          rw [hs_n z, hs_n z]
          by_cases z2 : u = v
          · subst z2; rw [hs_s, hs_s, Int.toNat_natCast, hs_s]
          · rw [hs_n z2] at h1
            rw [hs_n z2, hs_n z2]
            have e8 := j8 u hu h1
            rcases j4 u hu with a | a
            · omega
            · have n2 : (mt u).toNat ≠ v := fun y => by rw [y] at e8; omega
              have n3 : (mt u).toNat ≠ u0 := fun y => by rw [y] at e8; omega
              rw [hs_n n3, hs_n n2]; exact e8
      · dsimp only at h1 ⊢
        by_cases z : u = u0
        · subst z; rw [hs_s] at h1; omega
        · rw [hs_n z] at h1 ⊢
          by_cases z2 : u = v
          · subst z2; rw [hs_s] at h1; omega
          · rw [hs_n z2] at h1 ⊢; exact j9 u hu h1
theorem jF_ok {n : Nat} {w : Nat → Int} {A : Nat → Nat → Int} {lim : Int} (hsy : ∀ i j, i < n → j < n → A i j = A j i) (hd : ∀ i, i < n → A i i = 0) : ∀ v, v ≤ n → JI n w A lim v (jF n w A lim v) := by
  intro v
  induction v with
  | zero =>
    intro _
    refine ⟨fun u hu => absurd hu (Nat.not_lt_zero u), fun u _ => show (-1 : Int) < 0 by omega, Nat.le_refl 0, fun u _ => Or.inl rfl, fun u _ _ h => ?_, fun u _ _ => rfl, fun u x hu => absurd hu (Nat.not_lt_zero u), fun u _ h => ?_, fun u _ _ => rfl⟩
    · have h : (0 : Int) ≤ -1 := h; omega
    · have h : (0 : Int) ≤ -1 := h; omega
  | succ v ih => intro hv; exact jS_ok hsy hd (by omega) (ih (by omega))
/-- what is numbered stays -/
theorem jS_keep {n v u : Nat} {w : Nat → Int} {A : Nat → Nat → Int} {lim : Int} {s : (Nat → Int) × Nat × (Nat → Int)} (hu : 0 ≤ s.1 u) : (jS n w A lim v s).1 u = s.1 u ∧ (jS n w A lim v s).2.2 u = s.2.2 u := by
  unfold jS
  by_cases q : 0 ≤ s.1 v
  · rw [if_pos q]; exact ⟨rfl, rfl⟩
  · rw [if_neg q]
    have n1 : u ≠ v := fun z => q (by rw [← z]; exact hu)
    cases hm : mtF n w A lim s.1 v with
    | none => dsimp only; rw [hs_n n1]; exact ⟨rfl, rfl⟩
    | some u0 =>
      dsimp only
      have c := mtF_ok n (Nat.le_refl n) u0 hm
      have n2 : u ≠ u0 := fun z => by rw [z] at hu; omega
      rw [hs_n n2, hs_n n1, hs_n n2, hs_n n1]
      exact ⟨rfl, rfl⟩
theorem jF_keep {n u : Nat} {w : Nat → Int} {A : Nat → Nat → Int} {lim : Int} {v : Nat} (hu : 0 ≤ (jF n w A lim v).1 u) : ∀ d, (jF n w A lim (v + d)).1 u = (jF n w A lim v).1 u ∧ (jF n w A lim (v + d)).2.2 u = (jF n w A lim v).2.2 u := by
  intro d
  induction d with
  | zero => exact ⟨rfl, rfl⟩
  | succ d ih =>
    have e : jF n w A lim (v + (d + 1)) = jS n w A lim (v + d) (jF n w A lim (v + d)) := rfl
    have k := jS_keep (n := n) (v := v + d) (w := w) (A := A) (lim := lim) (s := jF n w A lim (v + d)) (u := u) (by rw [ih.1]; exact hu)
    rw [e, k.1, k.2]
    exact ih
/-- how many are joined in pairs -/
def cN (n : Nat) (num : Nat → Int) : Int := sI (fun u => if 0 ≤ num u then 1 else 0) n
theorem cN_hs {n v : Nat} {num : Nat → Int} {x : Int} (hv : v < n) (h1 : num v < 0) (h2 : 0 ≤ x) : cN n (hs num v x) = cN n num + 1 := by
  unfold cN
  rw [sI_hs (F := fun u y => if 0 ≤ y then 1 else 0) n hv, if_neg (by omega), if_pos h2]
  omega
/-- the pairs so far: none as long as the numbers count all -/
theorem jF_cnt {n : Nat} {w : Nat → Int} {A : Nat → Nat → Int} {lim : Int} (hsy : ∀ i j, i < n → j < n → A i j = A j i) (hd : ∀ i, i < n → A i i = 0) : ∀ v, v ≤ n → ((∀ u, u < n → (jF n w A lim v).2.2 u = -1) ∧ cN n (jF n w A lim v).1 = (jF n w A lim v).2.1) ∨ ((∃ u, u < n ∧ (jF n w A lim v).2.2 u ≠ -1) ∧ ((jF n w A lim v).2.1 : Int) < cN n (jF n w A lim v).1) := by
  intro v
  induction v with
  | zero =>
    intro _
    refine Or.inl ⟨fun u _ => rfl, ?_⟩
    show cN n (fun _ => -1) = 0
    unfold cN
    rw [sI_congr (g := fun _ => 0) (fun i hi => if_neg (show ¬ (0 : Int) ≤ -1 by omega)), sI_zero]
  | succ v ih =>
    intro hv
    have hJ := jF_ok (w := w) (lim := lim) hsy hd v (by omega)
    have ih := ih (by omega)
    have e : jF n w A lim (v + 1) = jS n w A lim v (jF n w A lim v) := rfl
    rw [e]
    generalize jF n w A lim v = s at hJ ih ⊢
    obtain ⟨num, many, mt⟩ := s
    obtain ⟨j1, j2, j3, j4, j5, j6, j7, j8, j9⟩ := hJ
    dsimp only at ih j1 j2 j3 j4 j5 j6 j7 j8 j9
    unfold jS
    dsimp only
    by_cases q : 0 ≤ num v
    · rw [if_pos q]; exact ih
    · rw [if_neg q]
      cases hm : mtF n w A lim num v with
      | none =>
        dsimp only
        rw [cN_hs (by omega) (by omega) (by omega)]
        rcases ih with a | a
        · exact Or.inl ⟨a.1, by rw [a.2]; omega⟩
        · exact Or.inr ⟨a.1, by have := a.2; omega⟩
      | some u0 =>
        dsimp only
        obtain ⟨c1, c2, c3, c4⟩ := mtF_ok n (Nat.le_refl n) u0 hm
        have nuv : u0 ≠ v := fun z => by subst z; exact c2 (hd u0 c1)
        rw [cN_hs c1 (by rw [hs_n nuv]; omega) (by omega), cN_hs (by omega) (by omega) (by omega)]
        refine Or.inr ⟨⟨u0, c1, by rw [hs_s]; omega⟩, ?_⟩
        rcases ih with a | a
        · rw [a.2]; omega
        · have := a.2; omega
theorem cN_all {n : Nat} {num : Nat → Int} (h : ∀ u, u < n → 0 ≤ num u) : cN n num = n := by
  unfold cN
  rw [sI_congr (g := fun _ => 1) (fun i hi => if_pos (h i hi)), sI_const]; omega
