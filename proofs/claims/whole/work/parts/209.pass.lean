/-! A PASS of the class -/
def FR (n : Nat) (fr : Nat → Bool) (free : Nat → Int32) : Prop := ∀ i, i < n → free i = if fr i = true then 1 else 0
theorem mv_here {o g : Nat → Nat → Int} {cur : Int} {h : Nat → Int} {v p : Nat} {s : Option (Nat × Nat)} (q : h v = p) : mv o g cur h v p s = s := by
  unfold mv
  rw [if_pos q]
theorem s_fnIn {n k v : Nat} {w : Nat → Int} {A : Nat → Nat → Int} {h lo hi : Nat → Int} {wt ar home sum link least most free : Nat → Int32} {cut over : Int32} {fr : Nat → Bool} (g : GOK n w A) (hC : CG n w A wt ar) (hr : RW n h home) (hB : BOK k lo hi) (hb : RB k lo hi least most) (hh : ∀ i, i < n → 0 ≤ h i ∧ h i < k) (hS : SP n k w A lo hi h sum link cut over) (hfr : FR n fr free) (hv : v < n) {s : Option (Nat × Nat)} {t : Int32 × Int32 × Int32 × Int32} (hs : okm n k (overI n k w lo hi h) h fr (oB n k w lo hi h) s) (hc : CS (oB n k w lo hi h) (gB n A h) (overI n k w lo hi h) s t) (K : Int32 → Int32 → Int32 → Int32 → Int32 → Option (Int32 × Int32 × Int32 × Int32 × Int32)) : ∃ t' : Int32 × Int32 × Int32 × Int32, L_Mo_findNext_33 free over (nI k) least most wt home link sum K 64 (nI v) 0 t.1 t.2.1 t.2.2.1 t.2.2.2 = K (nI (v + 1)) t'.1 t'.2.1 t'.2.2.1 t'.2.2.2 ∧ CS (oB n k w lo hi h) (gB n A h) (overI n k w lo hi h) (if fr v = true then fo (mv (oB n k w lo hi h) (gB n A h) (overI n k w lo hi h) h v) k s else s) t' := by
  have hn := g.1
  have hk := hB.2.1
  have hhv := hh v hv
  by_cases qf : fr v = true
  · have h1 : free v = 1 := by rw [hfr v hv, if_pos qf]
    obtain ⟨f', t', e, hP⟩ := loopP (fun f i (t : Int32 × Int32 × Int32 × Int32) => L_Mo_findNext_33 free over (nI k) least most wt home link sum K f (nI v) (nI i) t.1 t.2.1 t.2.2.1 t.2.2.2) k (fun i t => okm n k (overI n k w lo hi h) h fr (oB n k w lo hi h) (fo (mv (oB n k w lo hi h) (gB n A h) (overI n k w lo hi h) h v) i s) ∧ CS (oB n k w lo hi h) (gB n A h) (overI n k w lo hi h) (fo (mv (oB n k w lo hi h) (gB n A h) (overI n k w lo hi h) h v) i s) t) (by
      intro f i t hi hp
      obtain ⟨a, b, c, d⟩ := t
      obtain ⟨p1, p2⟩ := hp
      show ∃ t', L_Mo_findNext_33 _ _ _ _ _ _ _ _ _ _ (f + 1) (nI v) (nI i) a b c d = _ ∧ _
      rw [L_Mo_findNext_33, ckn (by omega) (by decide), nI_clamp (by omega), h1, if_neg (show ¬ (1 : Int32) = 0 by decide), if_neg (nI_ge hi (by omega)), ckn (by omega) (by decide), hr v hv, nI_1]
      by_cases q : h v = (i : Int)
      · rw [if_pos (show nI i = iI (h v) by rw [q, nI_iI])]
        refine ⟨(a, b, c, d), rfl, ?_⟩
        rw [fo_s]
        rw [mv_here q]
        exact ⟨p1, p2⟩
      · have z : ¬ nI i = iI (h v) := fun z => q (by rw [nI_iI] at z; exact ((iI_eq ⟨by omega, by omega⟩ ⟨by omega, by omega⟩).mp z).symm)
        rw [if_neg z]
        obtain ⟨t', e, hc'⟩ := s_weigh (fr := fr) g hC hr hB hb hh hS hv hi q p1 p2
        dsimp only at e
        rw [e, Option.bind_some]
        exact ⟨t', rfl, by rw [fo_s]; exact mv_ok hv hi qf p1, by rw [fo_s]; exact hc'⟩) k 0 64 t (by omega) (by omega) ⟨hs, hc⟩
    have e : L_Mo_findNext_33 free over (nI k) least most wt home link sum K 64 (nI v) 0 t.1 t.2.1 t.2.2.1 t.2.2.2 = _ := e
    rw [e, if_pos qf]
    refine ⟨t', ?_, hP.2⟩
    show L_Mo_findNext_33 _ _ _ _ _ _ _ _ _ _ (f' + 1) (nI v) (nI k) _ _ _ _ = _
    rw [L_Mo_findNext_33, ckn (by omega) (by decide), nI_clamp (by omega), h1, if_neg (show ¬ (1 : Int32) = 0 by decide), if_pos (nI_le (Nat.le_refl k) (by omega)), nI_1]
  · have h1 : free v = 0 := by rw [hfr v hv, if_neg qf]
    rw [if_neg qf]
    refine ⟨t, ?_, hc⟩
    show L_Mo_findNext_33 _ _ _ _ _ _ _ _ _ _ (63 + 1) (nI v) 0 _ _ _ _ = _
    rw [L_Mo_findNext_33, ckn (by omega) (by decide), nI_clamp (by omega), h1, if_pos (show (0 : Int32) = 0 from rfl), nI_1]
theorem s_findNext {n k : Nat} {w : Nat → Int} {A : Nat → Nat → Int} {h lo hi : Nat → Int} {wt ar home sum link least most free : Nat → Int32} {cut over np : Int32} {fr : Nat → Bool} (g : GOK n w A) (hC : CG n w A wt ar) (hr : RW n h home) (hB : BOK k lo hi) (hb : RB k lo hi least most) (hh : ∀ i, i < n → 0 ≤ h i ∧ h i < k) (hS : SP n k w A lo hi h sum link cut over) (hfr : FR n fr free) : ∃ (x : Int32) (t : Int32 × Int32 × Int32 × Int32), f_Mo_findNext np free over (nI k) least most (nI n) wt home link sum = some (x, t) ∧ x = (if nx n k (oB n k w lo hi h) (gB n A h) (overI n k w lo hi h) h fr = none then 0 else 1) ∧ CS (oB n k w lo hi h) (gB n A h) (overI n k w lo hi h) (nx n k (oB n k w lo hi h) (gB n A h) (overI n k w lo hi h) h fr) t := by
  have hn := g.1
  obtain ⟨f', t', e, hP⟩ := loopP (fun f i (t : Int32 × Int32 × Int32 × Int32) => L_Mo_findNext_20 free over (nI k) least most (nI n) wt home link sum f (nI i) t.1 t.2.1 t.2.2.1 t.2.2.2) n (fun i t => okm n k (overI n k w lo hi h) h fr (oB n k w lo hi h) (fo (fun v s => if fr v = true then fo (mv (oB n k w lo hi h) (gB n A h) (overI n k w lo hi h) h v) k s else s) i none) ∧ CS (oB n k w lo hi h) (gB n A h) (overI n k w lo hi h) (fo (fun v s => if fr v = true then fo (mv (oB n k w lo hi h) (gB n A h) (overI n k w lo hi h) h v) k s else s) i none) t) (by
    intro f i t hi hp
    obtain ⟨p1, p2⟩ := hp
    show ∃ t', L_Mo_findNext_20 _ _ _ _ _ _ _ _ _ _ (f + 1) (nI i) _ _ _ _ = _ ∧ _
    obtain ⟨t', e, hc'⟩ := s_fnIn g hC hr hB hb hh hS hfr hi p1 p2 (L_Mo_findNext_20 free over (nI k) least most (nI n) wt home link sum f)
    rw [L_Mo_findNext_20, if_neg (nI_ge hi (by omega)), e]
    refine ⟨t', rfl, ?_, by rw [fo_s]; exact hc'⟩
    rw [fo_s]
    by_cases q : fr i = true
    · rw [if_pos q]; exact fo_P k p1 (fun p t hp ht => mv_ok hi hp q ht)
    · rw [if_neg q]; exact p1) n 0 64 (-1, np, over, 0) (by omega) (by omega) ⟨trivial, ⟨rfl, hS.2.2.2⟩⟩
  obtain ⟨a, b, c, d⟩ := t'
  obtain ⟨p1, p2⟩ := hP
  have e : L_Mo_findNext_20 free over (nI k) least most (nI n) wt home link sum 64 0 (-1) np over 0 = L_Mo_findNext_20 free over (nI k) least most (nI n) wt home link sum (f' + 1) (nI n) a b c d := e
  unfold f_Mo_findNext
  rw [e, L_Mo_findNext_20, if_pos (nI_le (Nat.le_refl n) (by omega))]
  unfold J_Mo_findNext_82
  change CS _ _ _ (nx n k (oB n k w lo hi h) (gB n A h) (overI n k w lo hi h) h fr) _ at p2
  change okm _ _ _ _ _ _ (nx n k (oB n k w lo hi h) (gB n A h) (overI n k w lo hi h) h fr) at p1
  cases hq : nx n k (oB n k w lo hi h) (gB n A h) (overI n k w lo hi h) h fr with
  | none =>
    rw [hq] at p2
    have h1 : a = -1 := p2.1
    rw [if_pos h1]
    exact ⟨_, _, rfl, by rw [if_pos rfl], p2⟩
  | some q =>
    rw [hq] at p2 p1
    have h1 : a = nI q.1 := p2.1
    have h2 : q.1 < n := p1.1
    rw [if_neg (by rw [h1]; exact nI_m1 q.1 (by omega))]
    exact ⟨_, _, rfl, by rw [if_neg (by simp)], p2⟩
