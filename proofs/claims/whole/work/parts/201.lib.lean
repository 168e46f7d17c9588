/-! LOOPS and SUMS -/
theorem loopS {σ ρ : Type} (L : Nat → Nat → σ → Option ρ) (n : Nat) (spec : Nat → σ) (hs : ∀ f i, i < n → L (f + 1) i (spec i) = L f (i + 1) (spec (i + 1))) : ∀ m i f, i + m = n → m < f → ∃ f', L f i (spec i) = L (f' + 1) n (spec n) := by
  intro m
  induction m with
  | zero =>
    intro i f hi hf
    obtain ⟨g, rfl⟩ : ∃ g, f = g + 1 := ⟨f - 1, by omega⟩
    have : i = n := by omega
    subst this
    exact ⟨g, rfl⟩
  | succ m ih =>
    intro i f hi hf
    obtain ⟨g, rfl⟩ : ∃ g, f = g + 1 := ⟨f - 1, by omega⟩
    obtain ⟨f', h⟩ := ih (i + 1) g (by omega) (by omega)
    exact ⟨f', by rw [hs g i (by omega)]; exact h⟩
/-- a loop whose states keep P: it comes to its end -/
theorem loopP {σ ρ : Type} (L : Nat → Nat → σ → Option ρ) (n : Nat) (P : Nat → σ → Prop) (hs : ∀ f i s, i < n → P i s → ∃ s', L (f + 1) i s = L f (i + 1) s' ∧ P (i + 1) s') : ∀ m i f s, i + m = n → m < f → P i s → ∃ f' s', L f i s = L (f' + 1) n s' ∧ P n s' := by
  intro m
  induction m with
  | zero =>
    intro i f s hi hf hp
    obtain ⟨g, rfl⟩ : ∃ g, f = g + 1 := ⟨f - 1, by omega⟩
    have : i = n := by omega
    subst this
    exact ⟨g, s, rfl, hp⟩
  | succ m ih =>
    intro i f s hi hf hp
    obtain ⟨g, rfl⟩ : ∃ g, f = g + 1 := ⟨f - 1, by omega⟩
    obtain ⟨s1, h1, hp1⟩ := hs g i s (by omega) hp
    obtain ⟨f', s', h2, hp2⟩ := ih (i + 1) g s1 (by omega) (by omega) hp1
    exact ⟨f', s', h1.trans h2, hp2⟩
def sI (f : Nat → Int) : Nat → Int
  | 0 => 0
  | n + 1 => sI f n + f n
theorem sI_s (f : Nat → Int) (n : Nat) : sI f (n + 1) = sI f n + f n := rfl
theorem sI_congr {f g : Nat → Int} {n : Nat} (h : ∀ i, i < n → f i = g i) : sI f n = sI g n := by
  induction n with
  | zero => rfl
  | succ n ih => rw [sI_s, sI_s, ih (fun i hi => h i (by omega)), h n (by omega)]
theorem sI_add (f g : Nat → Int) (n : Nat) : sI (fun i => f i + g i) n = sI f n + sI g n := by
  induction n with
  | zero => rfl
  | succ n ih => rw [sI_s, sI_s, sI_s, ih]; omega
theorem sI_sub (f g : Nat → Int) (n : Nat) : sI (fun i => f i - g i) n = sI f n - sI g n := by
  induction n with
  | zero => rfl
  | succ n ih => rw [sI_s, sI_s, sI_s, ih]; omega
theorem sI_zero (n : Nat) : sI (fun _ => 0) n = 0 := by
  induction n with
  | zero => rfl
  | succ n ih => rw [sI_s, ih]; rfl
theorem sI_le {f g : Nat → Int} {n : Nat} (h : ∀ i, i < n → f i ≤ g i) : sI f n ≤ sI g n := by
  induction n with
  | zero => exact Int.le_refl _
  | succ n ih => rw [sI_s, sI_s]; have := ih (fun i hi => h i (by omega)); have := h n (by omega); omega
theorem sI_const (c : Int) (n : Nat) : sI (fun _ => c) n = n * c := by
  induction n with
  | zero => simp [sI]
  | succ n ih => rw [sI_s, ih, Int.natCast_succ, Int.add_mul]; omega
theorem sI_bnd {f : Nat → Int} {n : Nat} {c : Int} (h : ∀ i, i < n → 0 ≤ f i ∧ f i ≤ c) : 0 ≤ sI f n ∧ sI f n ≤ n * c := by
  have h1 := sI_le (f := fun _ => 0) (g := f) (n := n) (fun i hi => (h i hi).1)
  have h2 := sI_le (f := f) (g := fun _ => c) (n := n) (fun i hi => (h i hi).2)
  rw [sI_zero] at h1
  rw [sI_const] at h2
  exact ⟨h1, h2⟩
theorem ckn {α : Type} {i n : Nat} (h : i < n) (hn : n < 2 ^ 31) (x : Option α) : ck (okb (nI i) n) x = x := ck_true (okb_nI h hn) x
theorem n40 (a b : Nat) : nI a * 40 + nI b = nI (a * 40 + b) := by rw [show (40 : Int32) = nI 40 from rfl, pk_mul, nI_add]
theorem n40' (a b : Nat) : 40 * nI a + nI b = nI (40 * a + b) := by rw [show (40 : Int32) = nI 40 from rfl, pk_mul, nI_add]
theorem n4 (a b : Nat) : nI a * 4 + nI b = nI (a * 4 + b) := by rw [show (4 : Int32) = nI 4 from rfl, pk_mul, nI_add]
theorem n1600 (l a b : Nat) : 1600 * nI l + 40 * nI a + nI b = nI (1600 * l + 40 * a + b) := by rw [show (40 : Int32) = nI 40 from rfl, show (1600 : Int32) = nI 1600 from rfl, pk_mul, pk_mul, nI_add, nI_add]
theorem iI_0 : iI 0 = 0 := rfl
theorem iI_1 : iI 1 = 1 := rfl
theorem lI_0 : lI 0 = 0 := rfl
theorem nI_m1 (a : Nat) (h : a < 2 ^ 31 - 1) : ¬ nI a = -1 := by
  intro q
  have h1 := congrArg Int32.toInt q
  rw [nI_toInt (by omega)] at h1
  exact absurd h1 (by intro h2; have : (a : Int) = -1 := h2; omega)
