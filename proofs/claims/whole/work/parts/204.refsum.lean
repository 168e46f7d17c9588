/-! THE REFERENCE'S SUMS -/
theorem sI_mem {f : Nat → Int} {n v : Nat} (h : ∀ i, i < n → 0 ≤ f i) (hv : v < n) : f v ≤ sI f n := by
  induction n with
  | zero => omega
  | succ n ih =>
    rw [sI_s]
    have h0 : 0 ≤ sI f n := by
      have := sI_le (f := fun _ => 0) (g := f) (n := n) (fun i hi => h i (by omega))
      rw [sI_zero] at this; exact this
    by_cases q : v = n
    · subst q; omega
    · have := ih (fun i hi => h i (by omega)) (by omega); have := h n (by omega); omega
theorem sI_nn {f : Nat → Int} {n : Nat} (h : ∀ i, i < n → 0 ≤ f i) : 0 ≤ sI f n := by
  have := sI_le (f := fun _ => 0) (g := f) (n := n) h
  rw [sI_zero] at this; exact this
theorem sI_part {f g : Nat → Int} {n : Nat} (h : ∀ i, i < n → 0 ≤ f i) (hg : ∀ i, i < n → g i = f i ∨ g i = 0) : 0 ≤ sI g n ∧ sI g n ≤ sI f n := by
  refine ⟨sI_nn (fun i hi => ?_), sI_le (fun i hi => ?_)⟩
  · rcases hg i hi with q | q <;> rw [q]
    · exact h i hi
    · exact Int.le_refl 0
  · rcases hg i hi with q | q <;> rw [q]
    · exact Int.le_refl _
    · exact h i hi
/-- a graph within its bounds -/
def GOK (n : Nat) (w : Nat → Int) (A : Nat → Nat → Int) : Prop := n ≤ 40 ∧ (∀ i, i < n → 1 ≤ w i) ∧ sI w n ≤ 40000 ∧ (∀ i j, i < n → j < n → 0 ≤ A i j) ∧ sI (fun i => sI (fun j => A i j) n) n ≤ 1560000000 ∧ (∀ i j, i < n → j < n → A i j = A j i) ∧ (∀ i, i < n → A i i = 0)
def BOK (k : Nat) (lo hi : Nat → Int) : Prop := 2 ≤ k ∧ k ≤ 4 ∧ ∀ p, p < k → 0 ≤ lo p ∧ lo p ≤ hi p ∧ hi p ≤ 1000000
def HOK (n k : Nat) (h : Nat → Int) : Prop := ∀ i, i < n → -1 ≤ h i ∧ h i < k
theorem GOK.w32 {n : Nat} {w : Nat → Int} {A : Nat → Nat → Int} (g : GOK n w A) {i : Nat} (hi : i < n) : 1 ≤ w i ∧ w i ≤ 40000 := by
  have h1 := g.2.1 i hi
  have h2 := sI_mem (f := w) (fun j hj => by have := g.2.1 j hj; omega) hi
  have h3 := g.2.2.1
  omega
theorem GOK.row {n : Nat} {w : Nat → Int} {A : Nat → Nat → Int} (g : GOK n w A) {i : Nat} (hi : i < n) : 0 ≤ sI (fun j => A i j) n ∧ sI (fun j => A i j) n ≤ 1560000000 := by
  have h1 := sI_nn (f := fun j => A i j) (n := n) (fun j hj => g.2.2.2.1 i j hi hj)
  have h2 := sI_mem (f := fun i => sI (fun j => A i j) n) (fun a ha => sI_nn (fun j hj => g.2.2.2.1 a j ha hj)) hi
  have h3 := g.2.2.2.2.1
  exact ⟨h1, Int.le_trans h2 h3⟩
theorem GOK.a32 {n : Nat} {w : Nat → Int} {A : Nat → Nat → Int} (g : GOK n w A) {i j : Nat} (hi : i < n) (hj : j < n) : 0 ≤ A i j ∧ A i j ≤ 1560000000 := by
  have h1 := g.2.2.2.1 i j hi hj
  have h2 := sI_mem (f := fun j => A i j) (fun a ha => g.2.2.2.1 i a hi ha) hj
  exact ⟨h1, Int.le_trans h2 (g.row hi).2⟩
theorem GOK.lnk {n : Nat} {w : Nat → Int} {A : Nat → Nat → Int} (g : GOK n w A) {i : Nat} (hi : i < n) (h : Nat → Int) (p : Int) : 0 ≤ lk n A h i p ∧ lk n A h i p ≤ 1560000000 := by
  have h1 := sI_part (f := fun j => A i j) (g := fun j => if h j = p then A i j else 0) (n := n) (fun j hj => g.2.2.2.1 i j hi hj) (fun j hj => by by_cases q : h j = p <;> simp [q])
  exact ⟨h1.1, Int.le_trans h1.2 (g.row hi).2⟩
theorem GOK.ps {n : Nat} {w : Nat → Int} {A : Nat → Nat → Int} (g : GOK n w A) (h : Nat → Int) (p : Int) : 0 ≤ pS n w h p ∧ pS n w h p ≤ 40000 := by
  have h1 := sI_part (f := w) (g := fun j => if h j = p then w j else 0) (n := n) (fun j hj => by have := g.2.1 j hj; omega) (fun j hj => by by_cases q : h j = p <;> simp [q])
  exact ⟨h1.1, Int.le_trans h1.2 g.2.2.1⟩
theorem GOK.cut {n : Nat} {w : Nat → Int} {A : Nat → Nat → Int} (g : GOK n w A) (h : Nat → Int) : 0 ≤ cutI n A h ∧ cutI n A h ≤ 780000000 := by
  have e := cut_full (h := h) g.2.2.2.2.2.1 g.2.2.2.2.2.2
  have h1 : ∀ a, a < n → 0 ≤ sI (fun b => if h a = h b then 0 else A a b) n ∧ sI (fun b => if h a = h b then 0 else A a b) n ≤ sI (fun b => A a b) n := fun a ha => sI_part (f := fun b => A a b) (fun b hb => g.2.2.2.1 a b ha hb) (fun b hb => by by_cases q : h a = h b <;> simp [q])
  have h2 := sI_nn (fun a ha => (h1 a ha).1)
  have h3 := sI_le (fun a ha => (h1 a ha).2)
  have h4 := g.2.2.2.2.1
  omega
theorem miss_bnd {k : Nat} {lo hi : Nat → Int} (b : BOK k lo hi) {p : Nat} (hp : p < k) {s : Int} (h0 : 0 ≤ s) (h1 : s ≤ 80000) : 0 ≤ miss lo hi p s ∧ miss lo hi p s ≤ 1000000 := by
  have := b.2.2 p hp
  unfold miss
  by_cases q1 : s < lo p
  · rw [if_pos q1]; omega
  · rw [if_neg q1]
    by_cases q2 : hi p < s
    · rw [if_pos q2]; omega
    · rw [if_neg q2]; omega
theorem GOK.over {n k : Nat} {w : Nat → Int} {A : Nat → Nat → Int} {lo hi : Nat → Int} (g : GOK n w A) (b : BOK k lo hi) (h : Nat → Int) : 0 ≤ overI n k w lo hi h ∧ overI n k w lo hi h ≤ 4000000 := by
  have h1 := sI_bnd (f := fun p => miss lo hi p (pS n w h p)) (n := k) (c := 1000000) (fun p hp => miss_bnd b hp (g.ps h p).1 (by have := (g.ps h p).2; omega))
  have h2 := b.2.1
  unfold overI
  omega
def RL (n b : Nat) (w : Nat → Int) (A : Nat → Nat → Int) (LW LA : Nat → Int32) : Prop := b < 41 ∧ (∀ i, i < n → LW (40 * b + i) = iI (w i)) ∧ ∀ i j, i < n → j < n → LA (1600 * b + 40 * i + j) = iI (A i j)
def RW (n : Nat) (h : Nat → Int) (row : Nat → Int32) : Prop := ∀ i, i < n → row i = iI (h i)
def RB (k : Nat) (lo hi : Nat → Int) (least most : Nat → Int32) : Prop := ∀ p, p < k → least p = iI (lo p) ∧ most p = iI (hi p)
theorem s_sumOf {n b p k : Nat} {w : Nat → Int} {A : Nat → Nat → Int} {h : Nat → Int} {LW LA row : Nat → Int32} (g : GOK n w A) (hL : RL n b w A LW LA) (hr : RW n h row) (hk : k ≤ 4) (hh : HOK n k h) (hp : p < 40) : f_Re_sumOf (nI p) (nI n) (nI b) LW row = some (lI (pS n w h p)) := by
  have hn := g.1
  obtain ⟨f', e⟩ := loopS (fun f i s => L_Re_sumOf_5 (nI p) (nI n) (nI b) LW row f s (nI i)) n (fun i => lI (sI (fun i => if h i = (p : Int) then w i else 0) i)) (by
    intro f i hi
    show L_Re_sumOf_5 _ _ _ _ _ (f + 1) _ (nI i) = _
    have hw := g.w32 hi
    have hhi := hh i hi
    rw [L_Re_sumOf_5, if_neg (nI_ge hi (by omega)), ckn (by omega) (by decide), nI_clamp (by omega), hr i hi, sI_s, ← lI_add, nI_1]
    by_cases q : h i = (p : Int)
    · rw [if_pos (by rw [q, nI_iI]), if_pos q, s_weightOf (by omega) hL.1, hL.2.1 i hi]
      show L_Re_sumOf_5 _ _ _ _ _ f (_ + (iI (w i)).toInt64) _ = _
      rw [iI_l ⟨by omega, by omega⟩]
    · rw [if_neg (fun e => q (by rw [nI_iI] at e; exact (iI_eq ⟨by omega, by omega⟩ ⟨by omega, by omega⟩).mp e)), if_neg q]
      rfl) n 0 64 (by omega) (by omega)
  unfold f_Re_sumOf
  have e : L_Re_sumOf_5 (nI p) (nI n) (nI b) LW row 64 (0 : Int64) 0 = _ := e
  rw [e]
  show L_Re_sumOf_5 _ _ _ _ _ (f' + 1) _ (nI n) = _
  rw [L_Re_sumOf_5, if_pos (nI_le (Nat.le_refl n) (by omega))]
  rfl
theorem s_rowOver {n b k : Nat} {w : Nat → Int} {A : Nat → Nat → Int} {h lo hi : Nat → Int} {LW LA row least most : Nat → Int32} (g : GOK n w A) (hL : RL n b w A LW LA) (hr : RW n h row) (hB : BOK k lo hi) (hb : RB k lo hi least most) (hh : HOK n k h) : f_Re_rowOver (nI k) (nI n) (nI b) least LW most row = some (lI (overI n k w lo hi h)) := by
  have hn := g.1
  have hk := hB.2.1
  obtain ⟨f', e⟩ := loopS (fun f i s => L_Re_rowOver_4 (nI k) (nI n) (nI b) least LW most row f s (nI i)) k (fun i => lI (sI (fun p => miss lo hi p (pS n w h p)) i)) (by
    intro f i hi'
    show L_Re_rowOver_4 _ _ _ _ _ _ _ (f + 1) _ (nI i) = _
    have hs1 := g.ps h i
    have hb1 := hB.2.2 i hi'
    rw [L_Re_rowOver_4, if_neg (nI_ge hi' (by omega)), s_sumOf g hL hr hk hh (by omega), Option.bind_some, ckn (by omega) (by decide), nI_clamp (by omega), (hb i hi').1, (hb i hi').2, iI_l ⟨by omega, by omega⟩, iI_l ⟨by omega, by omega⟩, sI_s, ← lI_add, nI_1]
    unfold miss
    by_cases q1 : pS n w h i < lo i
    · rw [if_neg (fun z => absurd ((lI_le ⟨by omega, by omega⟩ ⟨by omega, by omega⟩).mp ((lg_cmp_ge _ _).mp z)) (by omega)), ckn (by omega) (by decide), if_pos q1, lI_sub]
    · rw [if_pos ((lg_cmp_ge _ _).mpr ((lI_le ⟨by omega, by omega⟩ ⟨by omega, by omega⟩).mpr (by omega))), ckn (by omega) (by decide), if_neg q1]
      by_cases q2 : hi i < pS n w h i
      · rw [if_neg (fun z => absurd ((lI_le ⟨by omega, by omega⟩ ⟨by omega, by omega⟩).mp ((lg_cmp_le _ _).mp z)) (by omega)), ckn (by omega) (by decide), if_pos q2, lI_sub]
      · rw [if_pos ((lg_cmp_le _ _).mpr ((lI_le ⟨by omega, by omega⟩ ⟨by omega, by omega⟩).mpr (by omega))), if_neg q2]
        rfl) k 0 64 (by omega) (by omega)
  unfold f_Re_rowOver
  have e : L_Re_rowOver_4 (nI k) (nI n) (nI b) least LW most row 64 (0 : Int64) 0 = _ := e
  rw [e]
  show L_Re_rowOver_4 _ _ _ _ _ _ _ (f' + 1) _ (nI k) = _
  rw [L_Re_rowOver_4, if_pos (nI_le (Nat.le_refl k) (by omega))]
  rfl
theorem s_rowCut {n b k : Nat} {w : Nat → Int} {A : Nat → Nat → Int} {h : Nat → Int} {LW LA row : Nat → Int32} (g : GOK n w A) (hL : RL n b w A LW LA) (hr : RW n h row) (hk : k ≤ 4) (hh : HOK n k h) : f_Re_rowCut (nI n) (nI b) LA row = some (lI (cutI n A h)) := by
  have hn := g.1
  have inner : ∀ (K : Int64 → Int32 → Option Int64) (a : Nat) (z : Int), a < n → L_Re_rowCut_15 (nI b) LA row K 64 (lI z) (nI a) 0 = K (lI (z + sI (fun c => if h a = h c then 0 else A a c) a)) (nI (a + 1)) := by
    intro K a z ha
    obtain ⟨f', e⟩ := loopS (fun f i s => L_Re_rowCut_15 (nI b) LA row K f s (nI a) (nI i)) a (fun i => lI (z + sI (fun c => if h a = h c then 0 else A a c) i)) (by
      intro f i hi
      show L_Re_rowCut_15 _ _ _ _ (f + 1) _ _ (nI i) = _
      have hw := g.a32 ha (show i < n by omega)
      have h1 := hh i (by omega)
      have h2 := hh a ha
      rw [L_Re_rowCut_15, if_neg (nI_ge hi (by omega)), ckn (by omega) (by decide), ckn (by omega) (by decide), nI_clamp (by omega), nI_clamp (by omega), hr i (by omega), hr a ha, sI_s, ← Int.add_assoc, ← lI_add _ (if h a = h i then 0 else A a i), nI_1]
      by_cases q : h a = h i
      · rw [if_pos (by rw [q]), if_pos q]
        rfl
      · rw [if_neg (fun e => q ((iI_eq ⟨by omega, by omega⟩ ⟨by omega, by omega⟩).mp e)), if_neg q, s_arcOf (by omega) (by omega) hL.1, Option.bind_some, hL.2.2 a i ha (by omega), iI_l ⟨by omega, by omega⟩]) a 0 64 (by omega) (by omega)
    have e : L_Re_rowCut_15 (nI b) LA row K 64 (lI (z + 0)) (nI a) 0 = _ := e
    rw [Int.add_zero] at e
    rw [e]
    show L_Re_rowCut_15 _ _ _ _ (f' + 1) _ _ (nI a) = _
    rw [L_Re_rowCut_15, if_pos (nI_le (Nat.le_refl a) (by omega)), nI_1]
  obtain ⟨f', e⟩ := loopS (fun f i s => L_Re_rowCut_4 (nI n) (nI b) LA row f s (nI i)) n (fun i => lI (sI (fun a => sI (fun c => if h a = h c then 0 else A a c) a) i)) (by
    intro f i hi
    show L_Re_rowCut_4 _ _ _ _ (f + 1) _ (nI i) = _
    rw [L_Re_rowCut_4, if_neg (nI_ge hi (by omega)), inner _ i _ hi]
    rfl) n 0 64 (by omega) (by omega)
  unfold f_Re_rowCut
  have e : L_Re_rowCut_4 (nI n) (nI b) LA row 64 (0 : Int64) 0 = _ := e
  rw [e]
  show L_Re_rowCut_4 _ _ _ _ (f' + 1) _ (nI n) = _
  rw [L_Re_rowCut_4, if_pos (nI_le (Nat.le_refl n) (by omega))]
  rfl
