theorem s_rowGain {n b k v p : Nat} {w : Nat → Int} {A : Nat → Nat → Int} {h : Nat → Int} {LW LA row : Nat → Int32} (g : GOK n w A) (hL : RL n b w A LW LA) (hr : RW n h row) (hk : k ≤ 4) (hh : HOK n k h) (hv : v < n) (hp : p < k) : f_Re_rowGain (nI v) (nI p) (nI n) (nI b) LA row = some (lI (lk n A h v p - lk n A h v (h v))) := by
  have hn := g.1
  have hhv := hh v hv
  obtain ⟨f', e⟩ := loopS (fun f i s => L_Re_rowGain_5 (nI v) (nI p) (nI n) (nI b) LA row f s (nI i)) n (fun i => lI (sI (fun i => if i = v then 0 else if h i = (p : Int) then A v i else if h i = h v then - A v i else 0) i)) (by
    intro f i hi
    show L_Re_rowGain_5 _ _ _ _ _ _ (f + 1) _ (nI i) = _
    have hw := g.a32 hv hi
    have hhi := hh i hi
    rw [L_Re_rowGain_5, if_neg (nI_ge hi (by omega)), sI_s, ← lI_add, nI_1]
    by_cases q0 : i = v
    · rw [if_pos (by rw [q0]), if_pos q0, lI_0, Int64.add_zero]
    · rw [if_neg (fun e => q0 ((nI_eq (by omega) (by omega)).mp e)), if_neg q0, ckn (by omega) (by decide), nI_clamp (by omega), hr i hi]
      by_cases q1 : h i = (p : Int)
      · rw [if_pos (by rw [q1, nI_iI]), if_pos q1, s_arcOf (by omega) (by omega) hL.1, Option.bind_some, hL.2.2 v i hv hi, iI_l ⟨by omega, by omega⟩]
      · rw [if_neg (fun e => q1 (by rw [nI_iI] at e; exact (iI_eq ⟨by omega, by omega⟩ ⟨by omega, by omega⟩).mp e)), if_neg q1, ckn (by omega) (by decide), ckn (by omega) (by decide), nI_clamp (show v < 2 ^ 31 by omega), hr v hv]
        by_cases q2 : h i = h v
        · rw [if_pos (by rw [q2]), if_pos q2, s_arcOf (by omega) (by omega) hL.1, Option.bind_some, hL.2.2 v i hv hi, iI_neg, iI_l ⟨by omega, by omega⟩]
        · rw [if_neg (fun e => q2 ((iI_eq ⟨by omega, by omega⟩ ⟨by omega, by omega⟩).mp e)), if_neg q2, lI_0]) n 0 64 (by omega) (by omega)
  unfold f_Re_rowGain
  have e : L_Re_rowGain_5 (nI v) (nI p) (nI n) (nI b) LA row 64 (0 : Int64) 0 = _ := e
  rw [e]
  show L_Re_rowGain_5 _ _ _ _ _ _ (f' + 1) _ (nI n) = _
  rw [L_Re_rowGain_5, if_pos (nI_le (Nat.le_refl n) (by omega))]
  unfold J_Re_rowGain_80
  rw [ckn (by omega) (by decide), nI_clamp (by omega), hr v hv]
  by_cases q : (p : Int) = h v
  · rw [if_pos (by rw [nI_iI, q]), q, Int.sub_self]
    rfl
  · rw [if_neg (fun e => q (by rw [nI_iI] at e; exact (iI_eq ⟨by omega, by omega⟩ ⟨by omega, by omega⟩).mp e))]
    congr 2
    unfold lk
    rw [← sI_sub]
    refine sI_congr (fun i hi => ?_)
    by_cases q0 : i = v
    · subst q0
      rw [if_pos rfl, g.2.2.2.2.2.2 i hi, ite_self, ite_self]
      rfl
    · rw [if_neg q0]
      by_cases q1 : h i = (p : Int)
      · rw [if_pos q1, if_pos q1, if_neg (fun e => q (by rw [← q1, e])), Int.sub_zero]
      · rw [if_neg q1, if_neg q1]
        by_cases q2 : h i = h v
        · rw [if_pos q2, if_pos q2]; omega
        · rw [if_neg q2, if_neg q2]; rfl
/-! THE CLASS'S SPLIT: what it counts -/
def CG (n : Nat) (w : Nat → Int) (A : Nat → Nat → Int) (wt ar : Nat → Int32) : Prop := (∀ i, i < n → wt i = iI (w i)) ∧ ∀ i j, i < n → j < n → ar (i * 40 + j) = iI (A i j)
theorem s_garc {a c : Nat} {ar : Nat → Int32} (ha : a < 40) (hc : c < 40) : f_Gr_arcOf (nI a) (nI c) ar = some (ar (a * 40 + c)) := by
  unfold f_Gr_arcOf
  rw [n40, ckn (by omega) (by decide), nI_clamp (by omega)]
theorem s_miss {k p : Nat} {lo hi : Nat → Int} {least most : Nat → Int32} {s : Int} (hB : BOK k lo hi) (hb : RB k lo hi least most) (hp : p < k) (h0 : r32 s) : f_Bo_miss (nI p) (iI s) least most = some (iI (miss lo hi p s)) := by
  have hk := hB.2.1
  have h1 := hB.2.2 p hp
  have h2 := h0.1
  have h3 := h0.2
  unfold f_Bo_miss
  rw [ckn (by omega) (by decide), ckn (by omega) (by decide), ckn (by omega) (by decide), nI_clamp (by omega), (hb p hp).1, (hb p hp).2]
  unfold miss
  by_cases q1 : s < lo p
  · rw [if_neg (fun z => absurd ((iI_le ⟨by omega, by omega⟩ h0).mp z) (by omega)), if_pos q1, ckn (by omega) (by decide), iI_sub]
  · rw [if_pos ((iI_le ⟨by omega, by omega⟩ h0).mpr (by omega)), if_neg q1]
    by_cases q2 : hi p < s
    · rw [if_neg (fun z => absurd ((iI_le h0 ⟨by omega, by omega⟩).mp z) (by omega)), if_pos q2, iI_sub]
    · rw [if_pos ((iI_le h0 ⟨by omega, by omega⟩).mpr (by omega)), if_neg q2]
      rfl
theorem iI_pn {z : Int} {p : Nat} (h0 : 0 ≤ z) (h1 : z < p) : ∃ q : Nat, q < p ∧ z = q ∧ iI z = nI q := ⟨z.toNat, by omega, by omega, iI_nat (by omega)⟩
/-- the links of a row, counted -/
theorem s_recountLinks {n k v : Nat} {w : Nat → Int} {A : Nat → Nat → Int} {h : Nat → Int} {wt ar home link : Nat → Int32} {z : Int} (g : GOK n w A) (hC : CG n w A wt ar) (hr : RW n h home) (hk : k ≤ 4) (hh : ∀ i, i < n → 0 ≤ h i ∧ h i < k) (hv : v < n) (l0 : ∀ p, p < 4 → link (v * 4 + p) = 0) : ∃ link', f_Sp_recountLinks (nI v) (iI z) (nI n) ar home link = some (iI (z + sI (fun c => if h v = h c then 0 else A v c) v), link') ∧ (∀ p : Nat, p < 4 → link' (v * 4 + p) = iI (lk n A h v p)) ∧ ∀ j, (j < v * 4 ∨ v * 4 + 4 ≤ j) → link' j = link j := by
  have hn := g.1
  have hhv := hh v hv
  obtain ⟨f', s', e, hP⟩ := loopP (fun f i (s : Int32 × (Nat → Int32)) => L_Sp_recountLinks_2 (nI v) (nI n) ar home f (nI i) s.1 s.2) n (fun i s => s.1 = iI (z + sI (fun c => if h v = h c then 0 else A v c) (if i ≤ v then i else v)) ∧ (∀ p : Nat, p < 4 → s.2 (v * 4 + p) = iI (sI (fun j => if h j = (p : Int) then A v j else 0) i)) ∧ ∀ j, (j < v * 4 ∨ v * 4 + 4 ≤ j) → s.2 j = link j) (by
    intro f i s hi hs
    obtain ⟨c, l⟩ := s
    obtain ⟨hc, hl, ho⟩ := hs
    dsimp only at hc hl ho
    have hhi := hh i hi
    obtain ⟨q, hq, eq, en⟩ := iI_pn (p := 4) hhi.1 (by omega)
    show ∃ s', L_Sp_recountLinks_2 _ _ _ _ (f + 1) (nI i) c l = _ ∧ _
    rw [L_Sp_recountLinks_2, if_neg (nI_ge hi (by omega)), s_garc (by omega) (by omega), Option.bind_some, ckn (by omega) (by decide), nI_clamp (by omega), hr i hi, en, n4, ckn (by omega) (by decide), ckn (by omega) (by decide), nI_clamp (show v * 4 + q < 2 ^ 31 by omega), nI_1, hC.2 v i hv hi]
    have hl2 : ∀ p : Nat, p < 4 → upd l (v * 4 + q) (l (v * 4 + q) + iI (A v i)) (v * 4 + p) = iI (sI (fun j => if h j = (p : Int) then A v j else 0) (i + 1)) := by
      intro p hp
      rw [sI_s]
      by_cases qp : p = q
      · subst qp
        rw [pk_us, hl p hp, if_pos eq, iI_add]
      · rw [pk_un (by omega), hl p hp, if_neg (by omega), Int.add_zero]
    have ho2 : ∀ j, (j < v * 4 ∨ v * 4 + 4 ≤ j) → upd l (v * 4 + q) (l (v * 4 + q) + iI (A v i)) j = link j := by
      intro j hj
      rw [pk_un (by omega), ho j hj]
    by_cases q1 : v ≤ i
    · rw [if_pos (nI_le q1 (by omega))]
      refine ⟨(c, _), rfl, ?_, hl2, ho2⟩
      show c = _
      rw [hc]
      by_cases q2 : i = v
      · subst q2; rw [if_pos (Nat.le_refl i), if_neg (by omega)]
      · rw [if_neg (by omega), if_neg (by omega)]
    · rw [if_neg (nI_ge (by omega) (by omega)), ckn (by omega) (by decide), ckn (by omega) (by decide), nI_clamp (show v < 2 ^ 31 by omega), hr v hv]
      rw [if_pos (show i ≤ v by omega)] at hc
      by_cases q3 : h v = h i
      · rw [if_pos (by rw [q3, en])]
        refine ⟨(c, _), rfl, ?_, hl2, ho2⟩
        show c = _
        rw [hc, if_pos (show i + 1 ≤ v by omega), sI_s, if_pos q3, Int.add_zero]
      · rw [if_neg (fun z => q3 (by rw [← en] at z; exact ((iI_eq ⟨by omega, by omega⟩ ⟨by omega, by omega⟩).mp z).symm))]
        refine ⟨(c + iI (A v i), _), rfl, ?_, hl2, ho2⟩
        show c + iI (A v i) = _
        rw [hc, if_pos (show i + 1 ≤ v by omega), sI_s, if_neg q3, iI_add, Int.add_assoc]) n 0 64 (iI z, link) (by omega) (by omega) ⟨by rw [if_pos (Nat.zero_le v)]; show iI z = iI (z + 0); rw [Int.add_zero], fun p hp => (l0 p hp).trans iI_0.symm, fun j _ => rfl⟩
  obtain ⟨c, l⟩ := s'
  obtain ⟨hc, hl, ho⟩ := hP
  dsimp only at hc hl ho
  refine ⟨l, ?_, hl, ho⟩
  unfold f_Sp_recountLinks
  have e : L_Sp_recountLinks_2 (nI v) (nI n) ar home 64 0 (iI z) link = _ := e
  rw [e]
  show L_Sp_recountLinks_2 _ _ _ _ (f' + 1) (nI n) c l = _
  rw [L_Sp_recountLinks_2, if_pos (nI_le (Nat.le_refl n) (by omega))]
  have hc : c = _ := hc
  rw [hc, if_neg (by omega)]
