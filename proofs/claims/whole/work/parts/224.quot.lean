/-! A LEVEL as a quotient of the graph: hold i is the node of the level that i is in -/
theorem sI_ind {m : Nat} {x c : Int} : 0 ≤ x → x < m → sI (fun a => if x = (a : Int) then c else 0) m = c := by
  induction m with
  | zero => intro h0 h1; omega
  | succ m ih =>
    intro h0 h1
    rw [sI_s]
    by_cases q : x = (m : Int)
    · rw [if_pos q, sI_congr (g := fun _ => 0) (fun i hi => if_neg (by omega)), sI_zero]; omega
    · rw [if_neg q, ih h0 (by omega)]; omega
theorem sI_ite (p : Prop) [Decidable p] (f : Nat → Int) (n : Nat) : (if p then sI f n else 0) = sI (fun i => if p then f i else 0) n := by
  by_cases q : p
  · rw [if_pos q]; exact sI_congr (fun i hi => by rw [if_pos q])
  · rw [if_neg q, sI_congr (g := fun _ => 0) (fun i hi => if_neg q), sI_zero]
/-- regrouping -/
theorem sI_group {n m : Nat} {hold num : Nat → Int} {F : Nat → Int} {a : Int} (hr : ∀ i, i < n → 0 ≤ hold i ∧ hold i < m) : sI (fun c => if num c = a then sI (fun i => if hold i = (c : Int) then F i else 0) n else 0) m = sI (fun i => if num (hold i).toNat = a then F i else 0) n := by
  have e1 : sI (fun c => if num c = a then sI (fun i => if hold i = (c : Int) then F i else 0) n else 0) m = sI (fun c => sI (fun i => if num c = a then (if hold i = (c : Int) then F i else 0) else 0) n) m := sI_congr (fun c hc => sI_ite (num c = a) _ n)
  rw [e1, sI_swap]
  refine sI_congr (fun i hi => ?_)
  have h := hr i hi
  have e2 : sI (fun c => if num c = a then (if hold i = (c : Int) then F i else 0) else 0) m = sI (fun c => if hold i = (c : Int) then (if num (hold i).toNat = a then F i else 0) else 0) m := by
    refine sI_congr (fun c hc => ?_)
    by_cases q : hold i = (c : Int)
    · rw [q, Int.toNat_natCast, if_pos rfl, if_pos rfl]
    · rw [if_neg q, if_neg q, ite_self]
  rw [e2, sI_ind h.1 h.2]
def qA (n : Nat) (A : Nat → Nat → Int) (hold : Nat → Int) (a b : Nat) : Int := if a = b then 0 else sI (fun i => if hold i = (a : Int) then lk n A hold i b else 0) n
def HS (n m : Nat) (hold : Nat → Int) : Prop := (∀ i, i < n → 0 ≤ hold i ∧ hold i < m) ∧ (∀ a, a < m → ∃ i, i < n ∧ hold i = (a : Int)) ∧ m ≤ n
def cmp (num hold : Nat → Int) : Nat → Int := fun i => num (hold i).toNat
theorem pS_cmp {n m a : Nat} {w hold num : Nat → Int} (h : HS n m hold) : pS m (fun c => pS n w hold c) num a = pS n w (cmp num hold) a := sI_group h.1
theorem lk_cmp {n m i : Nat} {A : Nat → Nat → Int} {hold num : Nat → Int} {b : Int} (h : HS n m hold) : sI (fun d => if num d = b then lk n A hold i d else 0) m = lk n A (cmp num hold) i b := sI_group h.1
theorem qA_cmp {n m a b : Nat} {A : Nat → Nat → Int} {hold num : Nat → Int} (h : HS n m hold) : qA m (fun c d => qA n A hold c d) num a b = qA n A (cmp num hold) a b := by
  unfold qA
  by_cases q : a = b
  · rw [if_pos q, if_pos q]
  · rw [if_neg q, if_neg q]
    have e : sI (fun i => if num i = (a : Int) then lk m (fun c d => if c = d then 0 else sI (fun i => if hold i = (c : Int) then lk n A hold i d else 0) n) num i b else 0) m = sI (fun c => if num c = (a : Int) then sI (fun i => if hold i = (c : Int) then lk n A (cmp num hold) i b else 0) n else 0) m := by
      refine sI_congr (fun c hc => ?_)
      by_cases z : num c = (a : Int)
      · rw [if_pos z, if_pos z]
        have e2 : lk m (fun c d => if c = d then 0 else sI (fun i => if hold i = (c : Int) then lk n A hold i d else 0) n) num c b = sI (fun d => sI (fun i => if hold i = (c : Int) then (if num d = (b : Int) then lk n A hold i d else 0) else 0) n) m := by
          unfold lk
          refine sI_congr (fun d hd => ?_)
          by_cases y : num d = (b : Int)
          · have hne : ¬ c = d := fun x => q (by rw [x, y] at z; omega)
            rw [if_pos y]
            dsimp only
            rw [if_neg hne]
            refine sI_congr (fun i hi => ?_)
            rw [if_pos y]
          · rw [if_neg y, sI_congr (g := fun _ => 0) (fun i hi => by rw [if_neg y, ite_self]), sI_zero]
        rw [e2, sI_swap]
        refine sI_congr (fun i hi => ?_)
        by_cases x : hold i = (c : Int)
        · rw [if_pos x, ← lk_cmp h]
          exact sI_congr (fun d hd => by rw [if_pos x])
        · rw [if_neg x, sI_congr (g := fun _ => 0) (fun d hd => if_neg x), sI_zero]
      · rw [if_neg z, if_neg z]
    rw [e]
    exact sI_group h.1
theorem lk_sum {n m i : Nat} {A : Nat → Nat → Int} {hold : Nat → Int} (h : HS n m hold) : sI (fun d => lk n A hold i d) m = sI (fun j => A i j) n := by
  unfold lk
  rw [sI_swap]
  exact sI_congr (fun j hj => sI_ind (h.1 j hj).1 (h.1 j hj).2)
theorem qA_sym {n : Nat} {A : Nat → Nat → Int} {hold : Nat → Int} (hsy : ∀ i j, i < n → j < n → A i j = A j i) (a b : Nat) : qA n A hold a b = qA n A hold b a := by
  unfold qA
  by_cases q : a = b
  · rw [if_pos q, if_pos q.symm]
  · rw [if_neg q, if_neg (fun z => q z.symm)]
    unfold lk
    have e1 : ∀ x y : Nat, sI (fun i => if hold i = (x : Int) then sI (fun j => if hold j = (y : Int) then A i j else 0) n else 0) n = sI (fun i => sI (fun j => if hold i = (x : Int) then (if hold j = (y : Int) then A i j else 0) else 0) n) n := fun x y => sI_congr (fun i hi => sI_ite _ _ n)
    rw [e1, e1, sI_swap]
    refine sI_congr (fun i hi => sI_congr (fun j hj => ?_))
    by_cases z1 : hold i = (b : Int)
    · by_cases z2 : hold j = (a : Int)
      · rw [if_pos z1, if_pos z2, if_pos z1, if_pos z2, hsy i j hi hj]
      · rw [if_pos z1, if_neg z2, if_neg z2, ite_self]
    · rw [if_neg z1, if_neg z1, ite_self]
theorem GOK_q {n m : Nat} {w : Nat → Int} {A : Nat → Nat → Int} {hold : Nat → Int} (g : GOK n w A) (h : HS n m hold) : GOK m (fun a => pS n w hold a) (fun a b => qA n A hold a b) := by
  have hn := g.1
  have hm := h.2.2
  have lk0 : ∀ i d, i < n → 0 ≤ lk n A hold i d := fun i d hi => (g.lnk hi hold d).1
  have q0 : ∀ a b, 0 ≤ qA n A hold a b := by
    intro a b
    unfold qA
    by_cases q : a = b
    · rw [if_pos q]; exact Int.le_refl 0
    · rw [if_neg q]
      refine sI_nn (fun i hi => ?_)
      by_cases z : hold i = (a : Int)
      · rw [if_pos z]; exact lk0 i b hi
      · rw [if_neg z]; exact Int.le_refl 0
  refine ⟨by omega, fun a ha => ?_, ?_, fun a b _ _ => q0 a b, ?_, fun a b _ _ => qA_sym g.2.2.2.2.2.1 a b, fun a _ => if_pos rfl⟩
  · obtain ⟨i, hi, e⟩ := h.2.1 a ha
    have h1 := sI_mem (f := fun j => if hold j = (a : Int) then w j else 0) (n := n) (fun j hj => by
      by_cases z : hold j = (a : Int)
      · rw [if_pos z]; have := g.2.1 j hj; omega
      · rw [if_neg z]; exact Int.le_refl 0) hi
    rw [if_pos e] at h1
    have h2 := g.2.1 i hi
    show 1 ≤ sI (fun j => if hold j = (a : Int) then w j else 0) n
    omega
  · have e : sI (fun a => pS n w hold a) m = sI w n := by
      unfold pS
      rw [sI_swap]
      exact sI_congr (fun j hj => sI_ind (h.1 j hj).1 (h.1 j hj).2)
    rw [e]; exact g.2.2.1
  · have e1 : sI (fun a => sI (fun b => qA n A hold a b) m) m ≤ sI (fun a => sI (fun i => if hold i = (a : Int) then sI (fun j => A i j) n else 0) n) m := by
      refine sI_le (fun a ha => ?_)
      have e2 : sI (fun b => sI (fun i => if hold i = (a : Int) then lk n A hold i b else 0) n) m = sI (fun i => if hold i = (a : Int) then sI (fun j => A i j) n else 0) n := by
        rw [sI_swap]
        refine sI_congr (fun i hi => ?_)
        by_cases z : hold i = (a : Int)
        · rw [if_pos z, ← lk_sum h]
          exact sI_congr (fun d hd => by rw [if_pos z])
        · rw [if_neg z, sI_congr (g := fun _ => 0) (fun d hd => if_neg z), sI_zero]
      rw [← e2]
      refine sI_le (fun b hb => ?_)
      unfold qA
      by_cases q : a = b
      · rw [if_pos q]
        refine sI_nn (fun i hi => ?_)
        by_cases z : hold i = (a : Int)
        · rw [if_pos z]; exact lk0 i b hi
        · rw [if_neg z]; exact Int.le_refl 0
      · rw [if_neg q]; exact Int.le_refl _
    have e3 : sI (fun a => sI (fun i => if hold i = (a : Int) then sI (fun j => A i j) n else 0) n) m = sI (fun i => sI (fun j => A i j) n) n := by
      rw [sI_swap]
      exact sI_congr (fun j hj => sI_ind (h.1 j hj).1 (h.1 j hj).2)
    exact Int.le_trans e1 (by rw [e3]; exact g.2.2.2.2.1)
/-- the numbers of a joining are a new quotient -/
theorem jF_sur {n : Nat} {w : Nat → Int} {A : Nat → Nat → Int} {lim : Int} : ∀ v, v ≤ n → ∀ a : Nat, a < (jF n w A lim v).2.1 → ∃ u, u < n ∧ (jF n w A lim v).1 u = (a : Int) := by
  intro v
  induction v with
  | zero => intro _ a ha; exact absurd ha (Nat.not_lt_zero a)
  | succ v ih =>
    intro hv a ha
    have e : jF n w A lim (v + 1) = jS n w A lim v (jF n w A lim v) := rfl
    have ih := ih (by omega)
    have keep := fun u (hu : 0 ≤ (jF n w A lim v).1 u) => (jS_keep (n := n) (v := v) (w := w) (A := A) (lim := lim) hu).1
    rw [e] at ha ⊢
    have old : a < (jF n w A lim v).2.1 → ∃ u, u < n ∧ (jS n w A lim v (jF n w A lim v)).1 u = (a : Int) := by
      intro h
      obtain ⟨u, hu, eu⟩ := ih a h
      exact ⟨u, hu, by rw [keep u (by omega)]; exact eu⟩
    by_cases q : a < (jF n w A lim v).2.1
    · exact old q
    · refine ⟨v, by omega, ?_⟩
      generalize jF n w A lim v = s at ha q ⊢
      unfold jS at ha ⊢
      by_cases z : 0 ≤ s.1 v
      · rw [if_pos z] at ha; omega
      · rw [if_neg z] at ha ⊢
        cases hq : mtF n w A lim s.1 v with
        | none => rw [hq] at ha; dsimp only at ha ⊢; rw [hs_s]; omega
        | some u0 =>
          rw [hq] at ha
          dsimp only at ha ⊢
          by_cases y : v = u0
          · rw [y, hs_s]; omega
          · rw [hs_n y, hs_s]; omega
theorem HS_cmp {n m : Nat} {hold : Nat → Int} {w : Nat → Int} {A : Nat → Nat → Int} {lim : Int} (h : HS n m hold) (hsy : ∀ i j, i < m → j < m → A i j = A j i) (hd : ∀ i, i < m → A i i = 0) : HS n (jF m w A lim m).2.1 (cmp (jF m w A lim m).1 hold) := by
  have hJ := jF_ok (w := w) (lim := lim) hsy hd m (Nat.le_refl m)
  refine ⟨fun i hi => ?_, fun a ha => ?_, by have := hJ.2.2.1; have := h.2.2; omega⟩
  · have h1 := h.1 i hi
    unfold cmp
    exact ⟨hJ.1 _ (by omega), hJ.2.1 _ (by omega)⟩
  · obtain ⟨u, hu, eu⟩ := jF_sur m (Nat.le_refl m) a ha
    obtain ⟨i, hi, ei⟩ := h.2.1 u hu
    refine ⟨i, hi, ?_⟩
    unfold cmp
    rw [ei, Int.toNat_natCast, eu]
