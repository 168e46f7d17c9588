/-! THE NUMBERS OF A SPLIT: n nodes of weights w, arcs A, parts h (an integer: -1 is nowhere) -/
def hs {α : Type} (h : Nat → α) (v : Nat) (x : α) : Nat → α := fun i => if i = v then x else h i
theorem hs_s {α : Type} (h : Nat → α) (v : Nat) (x : α) : hs h v x v = x := if_pos rfl
theorem hs_n {α : Type} {h : Nat → α} {v i : Nat} {x : α} (q : i ≠ v) : hs h v x i = h i := if_neg q
theorem sI_out {F : Nat → Int → Int} {h : Nat → Int} {v : Nat} {x : Int} : ∀ n, n ≤ v → sI (fun i => F i (hs h v x i)) n = sI (fun i => F i (h i)) n := fun n hn => sI_congr (fun i hi => by rw [hs_n (by omega)])
theorem sI_hs {F : Nat → Int → Int} {h : Nat → Int} {v : Nat} {x : Int} : ∀ n, v < n → sI (fun i => F i (hs h v x i)) n = sI (fun i => F i (h i)) n - F v (h v) + F v x := by
  intro n
  induction n with
  | zero => intro hv; omega
  | succ n ih =>
    intro hv
    rw [sI_s, sI_s]
    by_cases q : n = v
    · subst q
      rw [sI_out n (Nat.le_refl n), hs_s]
      omega
    · rw [ih (by omega), hs_n q]
      omega
theorem sI_mulc (c : Int) (f : Nat → Int) (n : Nat) : sI (fun i => c * f i) n = c * sI f n := by
  induction n with
  | zero => simp [sI]
  | succ n ih => rw [sI_s, sI_s, ih, Int.mul_add]
theorem sI_swap (f : Nat → Nat → Int) (n : Nat) : ∀ m, sI (fun a => sI (fun b => f a b) m) n = sI (fun b => sI (fun a => f a b) n) m := by
  intro m
  induction m with
  | zero => exact sI_zero n
  | succ m ih =>
    rw [sI_s, ← ih, ← sI_add]
    rfl
/-- the sum of ordered pairs is twice that of the lower ones -/
theorem sI_half {C : Nat → Nat → Int} : ∀ n, (∀ a b, a < n → b < n → C a b = C b a) → (∀ a, a < n → C a a = 0) → sI (fun a => sI (fun b => C a b) n) n = 2 * sI (fun a => sI (fun b => C a b) a) n := by
  intro n
  induction n with
  | zero => intro _ _; rfl
  | succ n ih =>
    intro hsym hd
    have e1 : sI (fun a => sI (fun b => C a b) (n + 1)) n = sI (fun a => sI (fun b => C a b) n) n + sI (fun a => C a n) n := by
      rw [← sI_add]; rfl
    have e2 : sI (fun a => C a n) n = sI (fun b => C n b) n := sI_congr (fun i hi => hsym i n (by omega) (by omega))
    rw [sI_s, sI_s, e1, ih (fun a b ha hb => hsym a b (by omega) (by omega)) (fun a ha => hd a (by omega)), e2]
    have e3 : sI (fun a => sI (fun b => C a b) a) (n + 1) = sI (fun a => sI (fun b => C a b) a) n + sI (fun b => C n b) n := rfl
    rw [e3, hd n (by omega)]
    omega
def lk (n : Nat) (A : Nat → Nat → Int) (h : Nat → Int) (v : Nat) (p : Int) : Int := sI (fun i => if h i = p then A v i else 0) n
def cutI (n : Nat) (A : Nat → Nat → Int) (h : Nat → Int) : Int := sI (fun a => sI (fun b => if h a = h b then 0 else A a b) a) n
def miss (lo hi : Nat → Int) (p : Nat) (s : Int) : Int := if s < lo p then lo p - s else if hi p < s then s - hi p else 0
def pS (n : Nat) (w : Nat → Int) (h : Nat → Int) (p : Int) : Int := sI (fun i => if h i = p then w i else 0) n
def overI (n k : Nat) (w : Nat → Int) (lo hi : Nat → Int) (h : Nat → Int) : Int := sI (fun p => miss lo hi p (pS n w h p)) k
theorem pS_hs {n v : Nat} {w : Nat → Int} {h : Nat → Int} {x p : Int} (hv : v < n) : pS n w (hs h v x) p = pS n w h p - (if h v = p then w v else 0) + (if x = p then w v else 0) := sI_hs (F := fun i y => if y = p then w i else 0) n hv
theorem lk_hs {n v u : Nat} {A : Nat → Nat → Int} {h : Nat → Int} {x p : Int} (hv : v < n) : lk n A (hs h v x) u p = lk n A h u p - (if h v = p then A u v else 0) + (if x = p then A u v else 0) := sI_hs (F := fun i y => if y = p then A u i else 0) n hv
theorem cut_full {n : Nat} {A : Nat → Nat → Int} {h : Nat → Int} (hsy : ∀ i j, i < n → j < n → A i j = A j i) (hd : ∀ i, i < n → A i i = 0) : 2 * cutI n A h = sI (fun a => sI (fun b => if h a = h b then 0 else A a b) n) n := by
  unfold cutI
  refine (sI_half n (fun a b ha hb => ?_) (fun a ha => if_pos rfl)).symm
  by_cases q : h a = h b
  · rw [if_pos q, if_pos q.symm]
  · rw [if_neg q, if_neg (fun e => q e.symm), hsy a b ha hb]
/-- a node moves: the cut falls by its links there less its links here -/
theorem cut_hs {n v : Nat} {A : Nat → Nat → Int} {h : Nat → Int} {x : Int} (hsy : ∀ i j, i < n → j < n → A i j = A j i) (hd : ∀ i, i < n → A i i = 0) (hv : v < n) : cutI n A (hs h v x) = cutI n A h - (lk n A h v x - lk n A h v (h v)) := by
  have e0 := cut_full (h := h) hsy hd
  have e1 := cut_full (h := hs h v x) hsy hd
  -- inner sums
  have i1 : ∀ a : Nat, ∀ y : Int, sI (fun b => if y = hs h v x b then 0 else A a b) n = sI (fun b => if y = h b then 0 else A a b) n - (if y = h v then 0 else A a v) + (if y = x then 0 else A a v) := fun a y => sI_hs (F := fun b z => if y = z then 0 else A a b) n hv
  have i2 : sI (fun a => sI (fun b => if hs h v x a = hs h v x b then 0 else A a b) n) n = sI (fun a => (fun (a : Nat) (y : Int) => sI (fun b => if y = h b then 0 else A a b) n - (if y = h v then 0 else A a v) + (if y = x then 0 else A a v)) a (hs h v x a)) n := sI_congr (fun a ha => i1 a (hs h v x a))
  have i3 := sI_hs (F := fun (a : Nat) (y : Int) => sI (fun b => if y = h b then 0 else A a b) n - (if y = h v then 0 else A a v) + (if y = x then 0 else A a v)) (h := h) (v := v) (x := x) n hv
  rw [i2, i3] at e1
  have d0 := hd v hv
  -- the sum of the changes
  have j1 : sI (fun a => sI (fun b => if h a = h b then 0 else A a b) n - (if h a = h v then 0 else A a v) + (if h a = x then 0 else A a v)) n = sI (fun a => sI (fun b => if h a = h b then 0 else A a b) n) n + (lk n A h v (h v) - lk n A h v x) := by
    unfold lk
    rw [← sI_sub, ← sI_add]
    refine sI_congr (fun a ha => ?_)
    have s1 := hsy a v ha hv
    by_cases q1 : h a = h v
    · by_cases q2 : h a = x
      · rw [if_pos q1, if_pos q2, if_pos q1, if_pos q2]; omega
      · rw [if_pos q1, if_neg q2, if_pos q1, if_neg q2]; omega
    · by_cases q2 : h a = x
      · rw [if_neg q1, if_pos q2, if_neg q1, if_pos q2]; omega
      · rw [if_neg q1, if_neg q2, if_neg q1, if_neg q2]; omega
  have j2 : ∀ y : Int, sI (fun b => if y = h b then 0 else A v b) n = sI (fun b => A v b) n - lk n A h v y := by
    intro y
    unfold lk
    rw [← sI_sub]
    refine sI_congr (fun b hb => ?_)
    by_cases q : y = h b
    · rw [if_pos q, if_pos q.symm]; omega
    · rw [if_neg q, if_neg (fun e => q e.symm)]; omega
  have j3 := j2 (h v)
  have j4 := j2 x
  simp only [d0, ite_self] at e1
  rw [j1] at e1
  rw [j3, j4] at e1
  omega
theorem over_hs {n k v : Nat} {w : Nat → Int} {lo hi : Nat → Int} {h : Nat → Int} {f t : Nat} (hv : v < n) (hf : f < k) (ht : t < k) (hne : f ≠ t) (hh : h v = f) : overI n k w lo hi (hs h v t) = overI n k w lo hi h - miss lo hi f (pS n w h f) - miss lo hi t (pS n w h t) + miss lo hi f (pS n w h f - w v) + miss lo hi t (pS n w h t + w v) := by
  unfold overI
  have e : ∀ m, sI (fun p => miss lo hi p (pS n w (hs h v t) p)) m = sI (fun p => miss lo hi p (pS n w h p)) m + (if f < m then miss lo hi f (pS n w h f - w v) - miss lo hi f (pS n w h f) else 0) + (if t < m then miss lo hi t (pS n w h t + w v) - miss lo hi t (pS n w h t) else 0) := by
    intro m
    induction m with
    | zero => rfl
    | succ m ih =>
      rw [sI_s, sI_s, ih, pS_hs hv, hh]
      by_cases q1 : m = f
      · subst q1
        rw [if_pos rfl, if_neg (show ¬ ((t : Int) = (m : Int)) by omega), if_neg (Nat.lt_irrefl m), if_pos (Nat.lt_succ_self m)]
        simp only [Int.add_zero]
        by_cases q3 : t < m
        · rw [if_pos q3, if_pos (show t < m + 1 by omega)]; omega
        · rw [if_neg q3, if_neg (show ¬ t < m + 1 by omega)]; omega
      · by_cases q2 : m = t
        · subst q2
          rw [if_neg (show ¬ ((f : Int) = (m : Int)) by omega), if_pos rfl, if_neg (Nat.lt_irrefl m), if_pos (Nat.lt_succ_self m), Int.sub_zero]
          by_cases q3 : f < m
          · rw [if_pos q3, if_pos (show f < m + 1 by omega)]; omega
          · rw [if_neg q3, if_neg (show ¬ f < m + 1 by omega)]; omega
        · rw [if_neg (show ¬ ((f : Int) = (m : Int)) by omega), if_neg (show ¬ ((t : Int) = (m : Int)) by omega), Int.sub_zero, Int.add_zero]
          have a1 : (f < m + 1) ↔ (f < m) := by omega
          have a2 : (t < m + 1) ↔ (t < m) := by omega
          simp only [a1, a2]
          omega
  rw [e k, if_pos hf, if_pos ht]
  omega
