/-! A PASS of the reference -/
def RS (o g : Nat → Nat → Int) (s : Option (Nat × Nat)) (t : Int32 × Int32 × Int64 × Int64) : Prop := match s with
  | none => t.1 = -1
  | some q => t.1 = nI q.1 ∧ t.2.1 = nI q.2 ∧ t.2.2.1 = lI (o q.1 q.2) ∧ t.2.2.2 = lI (g q.1 q.2)
theorem HK.ok {n k : Nat} {h : Nat → Int} (hh : HK n k h) : HOK n k h := fun i hi => by have := hh i hi; omega
theorem upd_back {f : Nat → Int32} {v : Nat} {x : Int32} : upd (upd f v x) v (f v) = f := by
  funext j
  by_cases q : j = v
  · subst q; rw [pk_us]
  · rw [pk_un q, pk_un q]
theorem r64_of {z : Int} (h : r32 z) : r64 z := ⟨by have := h.1; omega, by have := h.2; omega⟩
theorem s_r107 {n k b v : Nat} {w : Nat → Int} {A : Nat → Nat → Int} {h lo hi : Nat → Int} {LW LA row least most best free : Nat → Int32} {x3 x5 x7 : Int64} {x9 x10 : Int32} {fr : Nat → Bool} (g : GOK n w A) (hL : RL n b w A LW LA) (hr : RW n h row) (hB : BOK k lo hi) (hb : RB k lo hi least most) (hh : HK n k h) (hfr : FR n fr free) (hv : v < n) {s : Option (Nat × Nat)} {t : Int32 × Int32 × Int64 × Int64} (hs : okm n k (overI n k w lo hi h) h fr (oB n k w lo hi h) s) (hc : RS (oB n k w lo hi h) (gB n A h) s t) (K : Int64 → Int64 → Int64 → Int64 → Int32 → Int32 → Int32 → Int32 → Int64 → Int64 → Int32 → (Nat → Int32) → (Nat → Int32) → (Nat → Int32) → Option (Int32 × (Nat → Int32) × (Nat → Int32) × (Nat → Int32))) : ∃ t' : Int32 × Int32 × Int64 × Int64, L_Re_pass_107 (nI k) (nI n) (nI b) least LA LW most K 64 (lI (overI n k w lo hi h)) x3 x5 x7 x9 x10 t.1 t.2.1 t.2.2.1 t.2.2.2 (nI v) (row v) 0 best free row = K (lI (overI n k w lo hi h)) x3 x5 x7 x9 x10 t'.1 t'.2.1 t'.2.2.1 t'.2.2.2 (nI (v + 1)) best free row ∧ RS (oB n k w lo hi h) (gB n A h) (if fr v = true then fo (mv (oB n k w lo hi h) (gB n A h) (overI n k w lo hi h) h v) k s else s) t' := by
  have hn := g.1
  have hk := hB.2.1
  have hk2 := hB.1
  have hhv := hh v hv
  have rc := g.over hB h
  by_cases qf : fr v = true
  · have h1 : free v = 1 := by rw [hfr v hv, if_pos qf]
    obtain ⟨f', t', e, hP⟩ := loopP (fun f i (t : Int32 × Int32 × Int64 × Int64) => L_Re_pass_107 (nI k) (nI n) (nI b) least LA LW most K f (lI (overI n k w lo hi h)) x3 x5 x7 x9 x10 t.1 t.2.1 t.2.2.1 t.2.2.2 (nI v) (row v) (nI i) best free row) k (fun i t => okm n k (overI n k w lo hi h) h fr (oB n k w lo hi h) (fo (mv (oB n k w lo hi h) (gB n A h) (overI n k w lo hi h) h v) i s) ∧ RS (oB n k w lo hi h) (gB n A h) (fo (mv (oB n k w lo hi h) (gB n A h) (overI n k w lo hi h) h v) i s) t) (by
      intro f i t hik hp
      obtain ⟨a, b', c, d⟩ := t
      obtain ⟨p1, p2⟩ := hp
      show ∃ t', L_Re_pass_107 _ _ _ _ _ _ _ _ (f + 1) _ _ _ _ _ _ a b' c d (nI v) (row v) (nI i) _ _ _ = _ ∧ _
      rw [L_Re_pass_107, if_neg (nI_ge hik (by omega)), ckn (by omega) (by decide), nI_clamp (by omega), h1, if_neg (show ¬ (1 : Int32) = 0 by decide), nI_1]
      by_cases q : h v = (i : Int)
      · rw [if_pos (show nI i = row v by rw [hr v hv, q, nI_iI])]
        refine ⟨(a, b', c, d), rfl, ?_⟩
        rw [fo_s, mv_here q]
        exact ⟨p1, p2⟩
      · have z : ¬ nI i = row v := fun z => q (by rw [hr v hv, nI_iI] at z; exact ((iI_eq ⟨by omega, by omega⟩ ⟨by omega, by omega⟩).mp z).symm)
        have ro := o_r32 (v := v) (p := i) g hB (h := h)
        have rg := g_r32 (p := i) g (h := h) hv
        have hr2 : RW n (_root_.id (fun j => if j = v then (i : Int) else h j)) (upd row v (nI i)) := by
          have := hr.hs v (i : Int)
          rw [← nI_iI] at this
          exact this
        have hh2 : HK n k (fun j => if j = v then (i : Int) else h j) := HK.hs hh hik
        have eo : f_Re_rowOver (nI k) (nI n) (nI b) least LW most (upd row v (nI i)) = some (lI (oB n k w lo hi h v i)) := s_rowOver g hL hr2 hB hb hh2.ok
        have eg : f_Re_rowGain (nI v) (nI i) (nI n) (nI b) LA row = some (lI (gB n A h v i)) := s_rowGain g hL hr hk hh.ok hv hik
        rw [if_neg z, eg, Option.bind_some, ckn (by omega) (by decide), eo, Option.bind_some, ckn (by omega) (by decide), upd_back]
        unfold J_Re_pass_209 J_Re_pass_213 J_Re_pass_214
        rw [fo_s]
        have okn := mv_ok (g := gB n A h) hv hik qf p1
        by_cases q1 : oB n k w lo hi h v i ≤ overI n k w lo hi h
        · rw [if_pos ((lg_cmp_le _ _).mpr ((lI_le (r64_of ro) ⟨by omega, by omega⟩).mpr q1)), if_neg (show ¬ (1 : Int32) = 0 by decide), if_pos (show (0 : Int32) = 0 from rfl), nI_1]
          generalize hS : fo (mv (oB n k w lo hi h) (gB n A h) (overI n k w lo hi h) h v) i s = S at p1 p2 okn ⊢
          have em : mv (oB n k w lo hi h) (gB n A h) (overI n k w lo hi h) h v i S = if bt (oB n k w lo hi h) (gB n A h) v i S = true then some (v, i) else S := by
            unfold mv
            rw [if_neg q, if_pos q1]
          cases S with
          | none =>
            have ha : a = -1 := p2
            rw [if_pos (show a < 0 by rw [ha]; decide)]
            refine ⟨(nI v, nI i, lI (oB n k w lo hi h v i), lI (gB n A h v i)), rfl, okn, ?_⟩
            rw [em]
            exact ⟨rfl, rfl, rfl, rfl⟩
          | some u =>
            obtain ⟨c1, c2, c3, c4⟩ := p2
            dsimp only at c1 c2 c3 c4
            obtain ⟨k1, k2, k3, k4, k5⟩ := p1
            have ro2 := o_r32 (v := u.1) (p := u.2) g hB (h := h)
            have rg2 := g_r32 (p := u.2) g (h := h) k1
            have B : bt (oB n k w lo hi h) (gB n A h) v i (some u) = (decide (oB n k w lo hi h v i < oB n k w lo hi h u.1 u.2) || (decide (oB n k w lo hi h v i = oB n k w lo hi h u.1 u.2) && decide (gB n A h u.1 u.2 < gB n A h v i))) := rfl
            rw [if_neg (show ¬ a < 0 by rw [c1]; exact nI_pos (by omega)), c3, c4]
            by_cases q2 : oB n k w lo hi h v i < oB n k w lo hi h u.1 u.2
            · have hbt : bt (oB n k w lo hi h) (gB n A h) v i (some u) = true := by rw [B]; simp [q2]
              rw [if_pos ((lg_cmp_lt _ _).mpr ((lI_lt (r64_of ro) (r64_of ro2)).mpr q2))]
              refine ⟨(nI v, nI i, lI (oB n k w lo hi h v i), lI (gB n A h v i)), rfl, okn, ?_⟩
              rw [em, if_pos hbt]
              exact ⟨rfl, rfl, rfl, rfl⟩
            · rw [if_neg (fun z => q2 ((lI_lt (r64_of ro) (r64_of ro2)).mp ((lg_cmp_lt _ _).mp z)))]
              by_cases q3 : oB n k w lo hi h v i = oB n k w lo hi h u.1 u.2
              · rw [if_pos ((lg_cmp_eq _ _).mpr (by rw [q3]))]
                by_cases q4 : gB n A h u.1 u.2 < gB n A h v i
                · have hbt : bt (oB n k w lo hi h) (gB n A h) v i (some u) = true := by rw [B]; simp [q3, q4]
                  rw [if_neg (fun z => absurd ((lI_le (r64_of rg) (r64_of rg2)).mp ((lg_cmp_le _ _).mp z)) (by omega))]
                  refine ⟨(nI v, nI i, lI (oB n k w lo hi h v i), lI (gB n A h v i)), rfl, okn, ?_⟩
                  rw [em, if_pos hbt]
                  exact ⟨rfl, rfl, rfl, rfl⟩
                · have hbt : ¬ bt (oB n k w lo hi h) (gB n A h) v i (some u) = true := by rw [B]; simp [q2, q4]
                  rw [if_pos ((lg_cmp_le _ _).mpr ((lI_le (r64_of rg) (r64_of rg2)).mpr (by omega)))]
                  refine ⟨(a, b', lI (oB n k w lo hi h u.1 u.2), lI (gB n A h u.1 u.2)), rfl, okn, ?_⟩
                  rw [em, if_neg hbt]
                  exact ⟨c1, c2, rfl, rfl⟩
              · have hbt : ¬ bt (oB n k w lo hi h) (gB n A h) v i (some u) = true := by rw [B]; simp [q2, q3]
                rw [if_neg (fun z => q3 ((lI_eq (r64_of ro) (r64_of ro2)).mp ((lg_cmp_eq _ _).mp z)))]
                refine ⟨(a, b', lI (oB n k w lo hi h u.1 u.2), lI (gB n A h u.1 u.2)), rfl, okn, ?_⟩
                rw [em, if_neg hbt]
                exact ⟨c1, c2, rfl, rfl⟩
        · rw [if_neg (fun z => q1 ((lI_le (r64_of ro) ⟨by omega, by omega⟩).mp ((lg_cmp_le _ _).mp z)))]
          refine ⟨(a, b', c, d), rfl, okn, ?_⟩
          have em : mv (oB n k w lo hi h) (gB n A h) (overI n k w lo hi h) h v i (fo (mv (oB n k w lo hi h) (gB n A h) (overI n k w lo hi h) h v) i s) = fo (mv (oB n k w lo hi h) (gB n A h) (overI n k w lo hi h) h v) i s := by
            generalize fo (mv (oB n k w lo hi h) (gB n A h) (overI n k w lo hi h) h v) i s = S
            unfold mv
            rw [if_neg q, if_neg q1]
          rw [em]
          exact p2) k 0 64 t (by omega) (by omega) ⟨hs, hc⟩
    have e : L_Re_pass_107 (nI k) (nI n) (nI b) least LA LW most K 64 (lI (overI n k w lo hi h)) x3 x5 x7 x9 x10 t.1 t.2.1 t.2.2.1 t.2.2.2 (nI v) (row v) 0 best free row = _ := e
    rw [e, if_pos qf]
    refine ⟨t', ?_, hP.2⟩
    show L_Re_pass_107 _ _ _ _ _ _ _ _ (f' + 1) _ _ _ _ _ _ _ _ _ _ (nI v) (row v) (nI k) _ _ _ = _
    rw [L_Re_pass_107, if_pos (nI_le (Nat.le_refl k) (by omega)), nI_1]
  · have h1 : free v = 0 := by rw [hfr v hv, if_neg qf]
    rw [if_neg qf]
    refine ⟨t, ?_, hc⟩
    show L_Re_pass_107 _ _ _ _ _ _ _ _ (63 + 1) _ _ _ _ _ _ _ _ _ _ (nI v) (row v) 0 _ _ _ = _
    rw [L_Re_pass_107, if_neg (show ¬ nI k ≤ 0 from nI_nle (by omega) (by omega)), ckn (by omega) (by decide), nI_clamp (by omega), h1, if_pos (show (0 : Int32) = 0 from rfl), nI_1]
