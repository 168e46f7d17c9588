/-! THE NEXT MOVE: of all free nodes and parts, by over, then gain, then the first -/
def fo {σ : Type} (f : Nat → σ → σ) : Nat → σ → σ
  | 0, s => s
  | n + 1, s => f n (fo f n s)
theorem fo_s {σ : Type} (f : Nat → σ → σ) (n : Nat) (s : σ) : fo f (n + 1) s = f n (fo f n s) := rfl
theorem fo_P {σ : Type} {f : Nat → σ → σ} {P : σ → Prop} {s : σ} (n : Nat) (h0 : P s) (hs : ∀ i t, i < n → P t → P (f i t)) : P (fo f n s) := by
  induction n with
  | zero => exact h0
  | succ n ih => rw [fo_s]; exact hs n _ (by omega) (ih (fun i t hi => hs i t (by omega)))
def bt (o g : Nat → Nat → Int) (v p : Nat) : Option (Nat × Nat) → Bool
  | none => true
  | some q => decide (o v p < o q.1 q.2) || (decide (o v p = o q.1 q.2) && decide (g q.1 q.2 < g v p))
def mv (o g : Nat → Nat → Int) (cur : Int) (h : Nat → Int) (v p : Nat) (s : Option (Nat × Nat)) : Option (Nat × Nat) := if h v = p then s else if o v p ≤ cur then (if bt o g v p s = true then some (v, p) else s) else s
def nx (n k : Nat) (o g : Nat → Nat → Int) (cur : Int) (h : Nat → Int) (fr : Nat → Bool) : Option (Nat × Nat) := fo (fun v s => if fr v = true then fo (mv o g cur h v) k s else s) n none
def oB (n k : Nat) (w : Nat → Int) (lo hi h : Nat → Int) (v p : Nat) : Int := overI n k w lo hi (hs h v p)
def gB (n : Nat) (A : Nat → Nat → Int) (h : Nat → Int) (v p : Nat) : Int := lk n A h v p - lk n A h v (h v)
def okm (n k : Nat) (cur : Int) (h : Nat → Int) (fr : Nat → Bool) (o : Nat → Nat → Int) : Option (Nat × Nat) → Prop
  | none => True
  | some q => q.1 < n ∧ q.2 < k ∧ h q.1 ≠ q.2 ∧ fr q.1 = true ∧ o q.1 q.2 ≤ cur
theorem mv_ok {n k v p : Nat} {o g : Nat → Nat → Int} {cur : Int} {h : Nat → Int} {fr : Nat → Bool} {s : Option (Nat × Nat)} (hv : v < n) (hp : p < k) (hf : fr v = true) (hs : okm n k cur h fr o s) : okm n k cur h fr o (mv o g cur h v p s) := by
  unfold mv
  by_cases q1 : h v = p
  · rw [if_pos q1]; exact hs
  · rw [if_neg q1]
    by_cases q2 : o v p ≤ cur
    · rw [if_pos q2]
      by_cases q3 : bt o g v p s = true
      · rw [if_pos q3]; exact ⟨hv, hp, q1, hf, q2⟩
      · rw [if_neg q3]; exact hs
    · rw [if_neg q2]; exact hs
theorem nx_ok {n k : Nat} {o g : Nat → Nat → Int} {cur : Int} {h : Nat → Int} {fr : Nat → Bool} : okm n k cur h fr o (nx n k o g cur h fr) := by
  unfold nx
  refine fo_P n trivial (fun v s hv hs => ?_)
  by_cases q : fr v = true
  · rw [if_pos q]; exact fo_P k hs (fun p t hp ht => mv_ok hv hp q ht)
  · rw [if_neg q]; exact hs
/-- the class's four fields for the move that it holds -/
def CS (o g : Nat → Nat → Int) (cur : Int) (s : Option (Nat × Nat)) (t : Int32 × Int32 × Int32 × Int32) : Prop := match s with
  | none => t.1 = -1 ∧ t.2.2.1 = iI cur
  | some q => t.1 = nI q.1 ∧ t.2.1 = nI q.2 ∧ t.2.2.1 = iI (o q.1 q.2) ∧ t.2.2.2 = iI (g q.1 q.2)
theorem g_r32 {n v p : Nat} {w : Nat → Int} {A : Nat → Nat → Int} (g : GOK n w A) {h : Nat → Int} (hv : v < n) : r32 (gB n A h v p) := by
  have h1 := g.lnk hv h p
  have h2 := g.lnk hv h (h v)
  unfold gB
  exact ⟨by omega, by omega⟩
theorem o_r32 {n k v p : Nat} {w : Nat → Int} {A : Nat → Nat → Int} {lo hi : Nat → Int} (g : GOK n w A) (hB : BOK k lo hi) {h : Nat → Int} : r32 (oB n k w lo hi h v p) := by
  have h1 := g.over hB (hs h v p)
  unfold oB
  exact ⟨by omega, by omega⟩
theorem s_weigh {n k v p : Nat} {w : Nat → Int} {A : Nat → Nat → Int} {h lo hi : Nat → Int} {wt ar home sum link least most : Nat → Int32} {cut over : Int32} {fr : Nat → Bool} (g : GOK n w A) (hC : CG n w A wt ar) (hr : RW n h home) (hB : BOK k lo hi) (hb : RB k lo hi least most) (hh : ∀ i, i < n → 0 ≤ h i ∧ h i < k) (hS : SP n k w A lo hi h sum link cut over) (hv : v < n) (hp : p < k) (hne : h v ≠ p) {s : Option (Nat × Nat)} {t : Int32 × Int32 × Int32 × Int32} (hs : okm n k (overI n k w lo hi h) h fr (oB n k w lo hi h) s) (hc : CS (oB n k w lo hi h) (gB n A h) (overI n k w lo hi h) s t) : ∃ t', f_Mo_weigh (nI v) (nI p) t.1 t.2.1 t.2.2.1 t.2.2.2 over least most wt home link sum = some t' ∧ CS (oB n k w lo hi h) (gB n A h) (overI n k w lo hi h) (mv (oB n k w lo hi h) (gB n A h) (overI n k w lo hi h) h v p s) t' := by
  have hn := g.1
  have hk := hB.2.1
  have ro := o_r32 (v := v) (p := p) g hB (h := h)
  have rg := g_r32 (p := p) g (h := h) hv
  have rc := g.over hB h
  obtain ⟨a, b, c, d⟩ := t
  unfold f_Mo_weigh
  rw [s_overBehind g hC hr hB hb hh hS hv hp, Option.bind_some, s_gainOf g hr hk hh hS hv hp, Option.bind_some]
  show ∃ t', (if a = -1 then J_Mo_weigh_33 (nI v) (nI p) a b c d (iI (oB n k w lo hi h v p)) (iI (gB n A h v p)) else if iI (gB n A h v p) ≤ d then J_Mo_weigh_38 (nI v) (nI p) a b c d 0 (iI (oB n k w lo hi h v p)) (iI (gB n A h v p)) else J_Mo_weigh_33 (nI v) (nI p) a b c d (iI (oB n k w lo hi h v p)) (iI (gB n A h v p))) = some t' ∧ _
  unfold J_Mo_weigh_33 J_Mo_weigh_38 J_Mo_weigh_63 mv
  rw [if_neg hne]
  cases s with
  | none =>
    obtain ⟨h1, h2⟩ := hc
    dsimp only at h1 h2
    subst h1
    subst h2
    rw [if_pos rfl]
    by_cases q1 : oB n k w lo hi h v p < overI n k w lo hi h
    · rw [if_pos ((iI_lt ro ⟨by omega, by omega⟩).mpr q1), if_pos (show oB n k w lo hi h v p ≤ overI n k w lo hi h by omega)]
      exact ⟨_, rfl, rfl, rfl, rfl, rfl⟩
    · rw [if_neg (fun z => q1 ((iI_lt ro ⟨by omega, by omega⟩).mp z))]
      by_cases q2 : oB n k w lo hi h v p = overI n k w lo hi h
      · rw [if_pos (show iI (oB n k w lo hi h v p) = iI (overI n k w lo hi h) by rw [q2]), if_neg (show ¬ (1 : Int32) = 0 by decide), if_pos (show oB n k w lo hi h v p ≤ overI n k w lo hi h by omega)]
        exact ⟨_, rfl, rfl, rfl, rfl, rfl⟩
      · rw [if_neg (fun z => q2 ((iI_eq ro ⟨by omega, by omega⟩).mp z)), if_neg (show ¬ oB n k w lo hi h v p ≤ overI n k w lo hi h by omega)]
        exact ⟨_, rfl, rfl, rfl⟩
  | some q =>
    obtain ⟨h1, h2, h3, h4⟩ := hc
    dsimp only at h1 h2 h3 h4
    subst h1
    subst h2
    subst h3
    subst h4
    obtain ⟨k1, k2, k3, k4, k5⟩ := hs
    have ro2 := o_r32 (v := q.1) (p := q.2) g hB (h := h)
    have rg2 := g_r32 (p := q.2) g (h := h) k1
    rw [if_neg (nI_m1 q.1 (by omega))]
    have B : bt (oB n k w lo hi h) (gB n A h) v p (some q) = (decide (oB n k w lo hi h v p < oB n k w lo hi h q.1 q.2) || (decide (oB n k w lo hi h v p = oB n k w lo hi h q.1 q.2) && decide (gB n A h q.1 q.2 < gB n A h v p))) := rfl
    by_cases q1 : oB n k w lo hi h v p < oB n k w lo hi h q.1 q.2
    · have hbt : bt (oB n k w lo hi h) (gB n A h) v p (some q) = true := by rw [B]; simp [q1]
      rw [if_pos (show oB n k w lo hi h v p ≤ overI n k w lo hi h by omega), if_pos hbt, if_pos ((iI_lt ro ro2).mpr q1), if_pos ((iI_lt ro ro2).mpr q1), ite_self]
      exact ⟨_, rfl, rfl, rfl, rfl, rfl⟩
    · have z1 : ¬ iI (oB n k w lo hi h v p) < iI (oB n k w lo hi h q.1 q.2) := fun z => q1 ((iI_lt ro ro2).mp z)
      rw [if_neg z1, if_neg z1]
      by_cases q2 : oB n k w lo hi h v p = oB n k w lo hi h q.1 q.2
      · have z2 : iI (oB n k w lo hi h v p) = iI (oB n k w lo hi h q.1 q.2) := by rw [q2]
        rw [if_pos z2, if_pos z2, if_pos (show oB n k w lo hi h v p ≤ overI n k w lo hi h by omega), if_pos (show (0 : Int32) = 0 from rfl), if_neg (show ¬ (1 : Int32) = 0 by decide)]
        by_cases q3 : gB n A h q.1 q.2 < gB n A h v p
        · have hbt : bt (oB n k w lo hi h) (gB n A h) v p (some q) = true := by rw [B]; simp [q2, q3]
          have z3 : ¬ iI (gB n A h v p) ≤ iI (gB n A h q.1 q.2) := fun z => absurd ((iI_le rg rg2).mp z) (by omega)
          rw [if_pos hbt, if_neg z3]
          exact ⟨_, rfl, rfl, rfl, rfl, rfl⟩
        · have hbt : ¬ bt (oB n k w lo hi h) (gB n A h) v p (some q) = true := by rw [B]; simp [q1, q3]
          have z3 : iI (gB n A h v p) ≤ iI (gB n A h q.1 q.2) := (iI_le rg rg2).mpr (by omega)
          rw [if_neg hbt, if_pos z3]
          exact ⟨_, rfl, rfl, rfl, rfl, rfl⟩
      · have z2 : ¬ iI (oB n k w lo hi h v p) = iI (oB n k w lo hi h q.1 q.2) := fun z => q2 ((iI_eq ro ro2).mp z)
        rw [if_neg z2, if_neg z2, ite_self]
        by_cases q4 : oB n k w lo hi h v p ≤ overI n k w lo hi h
        · have hbt : ¬ bt (oB n k w lo hi h) (gB n A h) v p (some q) = true := by rw [B]; simp [q1, q2]
          rw [if_pos q4, if_neg hbt]
          exact ⟨_, rfl, rfl, rfl, rfl, rfl⟩
        · rw [if_neg q4]
          exact ⟨_, rfl, rfl, rfl, rfl, rfl⟩
