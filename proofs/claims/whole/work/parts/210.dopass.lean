/-! PASSES -/
def btr (n k : Nat) (w : Nat → Int) (A : Nat → Nat → Int) (lo hi : Nat → Int) (h b : Nat → Int) : Bool := decide (overI n k w lo hi h < overI n k w lo hi b) || (decide (overI n k w lo hi h = overI n k w lo hi b) && decide (cutI n A h < cutI n A b))
def psL (n k : Nat) (w : Nat → Int) (A : Nat → Nat → Int) (lo hi : Nat → Int) : Nat → (Nat → Int) → (Nat → Bool) → (Nat → Int) → Bool → (Nat → Int) × Bool
  | 0, _, _, b, t => (b, t)
  | m + 1, h, fr, b, t => match nx n k (oB n k w lo hi h) (gB n A h) (overI n k w lo hi h) h fr with
    | none => (b, t)
    | some q => if btr n k w A lo hi (hs h q.1 q.2) b = true then psL n k w A lo hi m (hs h q.1 q.2) (hs fr q.1 false) (hs h q.1 q.2) true else psL n k w A lo hi m (hs h q.1 q.2) (hs fr q.1 false) b t
def HK (n k : Nat) (h : Nat → Int) : Prop := ∀ i, i < n → 0 ≤ h i ∧ h i < k
theorem HK.hs {n k v p : Nat} {h : Nat → Int} (hh : HK n k h) (hp : p < k) : HK n k (hs h v p) := by
  intro i hi
  by_cases q : i = v
  · subst q; rw [hs_s]; omega
  · rw [hs_n q]; exact hh i hi
theorem psL_HK {n k : Nat} {w : Nat → Int} {A : Nat → Nat → Int} {lo hi : Nat → Int} : ∀ m h fr b t, HK n k h → HK n k b → HK n k (psL n k w A lo hi m h fr b t).1 := by
  intro m
  induction m with
  | zero => intro h fr b t _ hb; exact hb
  | succ m ih =>
    intro h fr b t hh hb
    unfold psL
    have h1 := nx_ok (n := n) (k := k) (o := oB n k w lo hi h) (g := gB n A h) (cur := overI n k w lo hi h) (h := h) (fr := fr)
    cases hq : nx n k (oB n k w lo hi h) (gB n A h) (overI n k w lo hi h) h fr with
    | none => exact hb
    | some q =>
      rw [hq] at h1
      dsimp only
      have h2 := hh.hs (v := q.1) h1.2.1
      by_cases z : btr n k w A lo hi (hs h q.1 q.2) b = true
      · rw [if_pos z]; exact ih _ _ _ _ h2 h2
      · rw [if_neg z]; exact ih _ _ _ _ h2 hb
theorem cpy40 {f g : Nat → Int32} {j : Nat} (h : j < 40) : va_cpy f g (0 : Int32).toNatClampNeg (0 : Int32).toNatClampNeg (40 : Int32).toNatClampNeg j = f j := by
  show va_cpy f g 0 0 40 j = f j
  exact sb_cpy0 h
theorem s_keepBest {best home : Nat → Int32} {cut over : Int32} : f_Mo_keepBest best cut over home = some (over, cut, va_cpy home best (0 : Int32).toNatClampNeg (0 : Int32).toNatClampNeg (40 : Int32).toNatClampNeg) := by
  unfold f_Mo_keepBest
  rw [ck_true (by decide)]
theorem FR.hs {n : Nat} {fr : Nat → Bool} {free : Nat → Int32} (h : FR n fr free) (v : Nat) : FR n (hs fr v false) (upd free v (vp_nar .boolean 0)) := by
  intro i hi
  by_cases q : i = v
  · subst q; rw [pk_us, hs_s]; rfl
  · rw [pk_un q, hs_n q]; exact h i hi
theorem s_isBetter {n k : Nat} {w : Nat → Int} {A : Nat → Nat → Int} {lo hi h b : Nat → Int} (g : GOK n w A) (hB : BOK k lo hi) : f_Mo_isBetter (iI (overI n k w lo hi b)) (iI (cutI n A b)) (iI (cutI n A h)) (iI (overI n k w lo hi h)) = some (if btr n k w A lo hi h b = true then 1 else 0) := by
  have o1 := g.over hB h
  have o2 := g.over hB b
  have c1 := g.cut h
  have c2 := g.cut b
  unfold f_Mo_isBetter btr
  by_cases q1 : overI n k w lo hi h < overI n k w lo hi b
  · rw [if_pos ((iI_lt ⟨by omega, by omega⟩ ⟨by omega, by omega⟩).mpr q1), if_pos (by simp [q1])]
  · rw [if_neg (fun z => q1 ((iI_lt ⟨by omega, by omega⟩ ⟨by omega, by omega⟩).mp z))]
    by_cases q2 : overI n k w lo hi h = overI n k w lo hi b
    · rw [if_pos (show iI (overI n k w lo hi h) = iI (overI n k w lo hi b) by rw [q2])]
      by_cases q3 : cutI n A h < cutI n A b
      · rw [if_neg (show ¬ iI (cutI n A b) ≤ iI (cutI n A h) from fun z => absurd ((iI_le ⟨by omega, by omega⟩ ⟨by omega, by omega⟩).mp z) (by omega)), if_pos (by simp [q2, q3])]
      · rw [if_pos (show iI (cutI n A b) ≤ iI (cutI n A h) from (iI_le ⟨by omega, by omega⟩ ⟨by omega, by omega⟩).mpr (by omega)), if_neg (by simp [q1, q3])]
    · rw [if_neg (show ¬ iI (overI n k w lo hi h) = iI (overI n k w lo hi b) from fun z => q2 ((iI_eq ⟨by omega, by omega⟩ ⟨by omega, by omega⟩).mp z)), if_neg (by simp [q1, q2])]
/-- the steps of a pass -/
theorem s_pass34 {n k : Nat} {w : Nat → Int} {A : Nat → Nat → Int} {lo hi : Nat → Int} {wt ar least most : Nat → Int32} (g : GOK n w A) (hC : CG n w A wt ar) (hB : BOK k lo hi) (hb : RB k lo hi least most) : ∀ (m i f : Nat) (h b : Nat → Int) (fr : Nat → Bool) (t : Bool) (x2 bo bc nn np no ng cut over : Int32) (best free home link sum : Nat → Int32), i + m = n → m < f → RW n h home → HK n k h → SP n k w A lo hi h sum link cut over → FR n fr free → RW n b best → bo = iI (overI n k w lo hi b) → bc = iI (cutI n A b) → x2 = (if t = true then 1 else 0) → ∃ o1 o2 o3 o4 o5 o6 o7 o8 o9 o10 o11 o12 o13, L_Mo_doPass_34 (nI k) least most (nI n) ar wt f x2 (nI i) bo bc nn np no ng best free cut over home link sum = some ((if (psL n k w A lo hi m h fr b t).2 = true then 1 else 0), o1, o2, o3, o4, o5, o6, o7, o8, o9, o10, o11, o12, o13) ∧ RW n (psL n k w A lo hi m h fr b t).1 o11 := by
  have hn := g.1
  have fin : ∀ (x2 bo bc nn np no ng cut over : Int32) (best free home link sum : Nat → Int32) (b : Nat → Int) (t : Bool), RW n b best → x2 = (if t = true then 1 else 0) → ∃ o1 o2 o3 o4 o5 o6 o7 o8 o9 o10 o11 o12 o13, J_Mo_doPass_96 x2 bo bc nn np no ng best free cut over home link sum = some ((if t = true then 1 else 0), o1, o2, o3, o4, o5, o6, o7, o8, o9, o10, o11, o12, o13) ∧ RW n b o11 := by
    intro x2 bo bc nn np no ng cut over best free home link sum b t hbb hx
    unfold J_Mo_doPass_96
    rw [ck_true (by decide), ck_true (show okB x2 = true by rw [hx]; cases t <;> decide), hx]
    refine ⟨_, _, _, _, _, _, _, _, _, _, _, _, _, rfl, ?_⟩
    intro j hj
    rw [cpy40 (by omega)]
    exact hbb j hj
  intro m
  induction m with
  | zero =>
    intro i f h b fr t x2 bo bc nn np no ng cut over best free home link sum hi' hf hr hh hS hfr hbb hbo hbc hx
    obtain ⟨f, rfl⟩ : ∃ z, f = z + 1 := ⟨f - 1, by omega⟩
    obtain rfl : i = n := by omega
    rw [L_Mo_doPass_34, if_pos (nI_le (Nat.le_refl i) (by omega))]
    exact fin _ _ _ _ _ _ _ _ _ _ _ _ _ _ _ _ hbb hx
  | succ m ih =>
    intro i f h b fr t x2 bo bc nn np no ng cut over best free home link sum hi' hf hr hh hS hfr hbb hbo hbc hx
    obtain ⟨f, rfl⟩ : ∃ z, f = z + 1 := ⟨f - 1, by omega⟩
    obtain ⟨x, q4, e1, e2, hcs⟩ := s_findNext (np := np) g hC hr hB hb hh hS hfr
    have hok := nx_ok (n := n) (k := k) (o := oB n k w lo hi h) (g := gB n A h) (cur := overI n k w lo hi h) (h := h) (fr := fr)
    rw [L_Mo_doPass_34, if_neg (nI_ge (by omega) (by omega)), e1, Option.bind_some, nI_1]
    unfold psL
    cases hq : nx n k (oB n k w lo hi h) (gB n A h) (overI n k w lo hi h) h fr with
    | none =>
      rw [hq] at e2
      rw [if_pos rfl] at e2
      dsimp only
      rw [if_pos e2]
      exact fin _ _ _ _ _ _ _ _ _ _ _ _ _ _ _ _ hbb hx
    | some q =>
      rw [hq] at e2 hcs hok
      rw [if_neg (by simp)] at e2
      obtain ⟨c1, c2, c3, c4⟩ := hcs
      obtain ⟨k1, k2, k3, k4, k5⟩ := hok
      dsimp only
      rw [if_neg (show ¬ x = 0 by rw [e2]; decide), c1, c2]
      obtain ⟨cut', over', home', link', sum', e3, hS', eh⟩ := s_shift g hC hr hB hb hh hS k1 k2 k3
      rw [e3, Option.bind_some, ckn (by omega) (by decide), nI_clamp (by omega)]
      dsimp only
      have hr' : RW n (hs h q.1 q.2) home' := by
        rw [eh, nI_iI]; exact hr.hs q.1 q.2
      have hh' : HK n k (hs h q.1 q.2) := HK.hs hh k2
      rw [hbo, hbc, hS'.2.2.1, hS'.2.2.2, s_isBetter g hB, Option.bind_some]
      by_cases z : btr n k w A lo hi (hs h q.1 q.2) b = true
      · simp only [if_pos z]
        rw [if_neg (show ¬ (1 : Int32) = 0 by decide), s_keepBest, Option.bind_some]
        refine ih (i + 1) f (hs h q.1 q.2) (hs h q.1 q.2) (hs fr q.1 false) true _ _ _ _ _ _ _ _ _ _ _ _ _ _ (by omega) (by omega) hr' hh' ⟨hS'.1, hS'.2.1, rfl, rfl⟩ (hfr.hs q.1) (fun j hj => ?_) rfl rfl rfl
        dsimp only
        rw [cpy40 (by omega)]
        exact hr' j hj
      · simp only [if_neg z]
        rw [if_pos trivial]
        exact ih (i + 1) f (hs h q.1 q.2) b (hs fr q.1 false) t _ _ _ _ _ _ _ _ _ _ _ _ _ _ (by omega) (by omega) hr' hh' ⟨hS'.1, hS'.2.1, rfl, rfl⟩ (hfr.hs q.1) hbb rfl rfl hx
