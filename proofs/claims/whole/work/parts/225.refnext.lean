theorem lI_lN (n : Nat) : lI (n : Int) = lN n := by
  unfold lI lN
  exact Int64.ofInt_eq_ofNat
theorem lI_div {a b : Int} (h0 : 0 ≤ a) (h1 : a ≤ 1000000) (h2 : 0 < b) (h3 : b ≤ 1000000) : lI a / lI b = lI (a / b) := by
  obtain ⟨x, rfl⟩ : ∃ x : Nat, a = x := ⟨a.toNat, by omega⟩
  obtain ⟨y, rfl⟩ : ∃ y : Nat, b = y := ⟨b.toNat, by omega⟩
  rw [lI_lN, lI_lN, pk_lDiv (by omega) (by omega) (by omega), ← lI_lN]
  rfl
theorem n1600' (l a b : Nat) : nI (1600 * l + 40 * a + b) = 1600 * nI l + 40 * nI a + nI b := (n1600 l a b).symm
/-- one row of arcs comes to the next level -/
theorem s_r293 {m M l v : Nat} {AA : Nat → Nat → Int} {num : Nat → Int} {LA LI LN LW : Nat → Int32} {G : Nat → Nat → Int} (hm : m ≤ 40) (hM : M ≤ m) (hl : l + 1 < 41) (hv : v < m) (hI : RI m l num LI) (hnum : ∀ u, u < m → 0 ≤ num u ∧ num u < M) (hA : ∀ i j, i < m → j < m → LA (1600 * l + 40 * i + j) = iI (AA i j)) (hG : ∀ a b, a < M → b < M → LA (1600 * (l + 1) + 40 * a + b) = iI (G a b)) (K : Int32 → Int32 → (Nat → Int32) → (Nat → Int32) → (Nat → Int32) → (Nat → Int32) → Option (Int32 × Int32 × (Nat → Int32) × (Nat → Int32) × (Nat → Int32) × (Nat → Int32))) : ∃ LA', L_Re_next_293 (nI l) (nI (l + 1)) K 64 (nI m) (nI v) (iI (num v)) 0 LA LI LN LW = K (nI m) (nI (v + 1)) LA' LI LN LW ∧ (∀ a b : Nat, a < M → b < M → LA' (1600 * (l + 1) + 40 * a + b) = iI (G a b + (if num v = (a : Int) ∧ a ≠ b then lk m AA num v b else 0))) ∧ ∀ j, j < 1600 * (l + 1) → LA' j = LA j := by
  have hnv := hnum v hv
  obtain ⟨av, hav, eav, env⟩ := iI_pn (p := M) hnv.1 hnv.2
  obtain ⟨f', s', e, hP⟩ := loopP (fun f i (s : Nat → Int32) => L_Re_next_293 (nI l) (nI (l + 1)) K f (nI m) (nI v) (nI av) (nI i) s LI LN LW) m (fun i s => (∀ a b : Nat, a < M → b < M → s (1600 * (l + 1) + 40 * a + b) = iI (G a b + (if num v = (a : Int) ∧ a ≠ b then sI (fun j => if num j = (b : Int) then AA v j else 0) i else 0))) ∧ ∀ j, j < 1600 * (l + 1) → s j = LA j) (by
    intro f i s hi hp
    obtain ⟨p1, p2⟩ := hp
    have hni := hnum i hi
    obtain ⟨c, hc, ec, en⟩ := iI_pn (p := M) hni.1 hni.2
    show ∃ s', L_Re_next_293 _ _ _ (f + 1) _ _ _ (nI i) s _ _ _ = _ ∧ _
    rw [L_Re_next_293, if_neg (nI_ge hi (by omega)), n40', ckn (by omega) (by decide), nI_clamp (by omega), hI i hi, en, nI_1]
    by_cases q : c = av
    · rw [if_pos (by rw [q])]
      refine ⟨s, rfl, fun a b ha hb => ?_, p2⟩
      rw [p1 a b ha hb, sI_s]
      by_cases z : num v = (a : Int) ∧ a ≠ b
      · rw [if_pos z, if_pos z, if_neg (show ¬ num i = (b : Int) from fun y => z.2 (by omega)), Int.add_zero]
      · rw [if_neg z, if_neg z]
    · rw [if_neg (fun z => q ((nI_eq (by omega) (by omega)).mp z)), ckn (by omega) (by decide), n1600, n1600, ckn (by omega) (by decide), ckn (by omega) (by decide), ckn (by omega) (by decide), nI_clamp (show 1600 * (l + 1) + 40 * av + c < 2 ^ 31 by omega), nI_clamp (show 1600 * l + 40 * v + i < 2 ^ 31 by omega), p2 (1600 * l + 40 * v + i) (by omega), hA v i hv hi, p1 av c hav hc]
      refine ⟨upd s (1600 * (l + 1) + 40 * av + c) (iI (G av c + (if num v = (av : Int) ∧ av ≠ c then sI (fun j => if num j = (c : Int) then AA v j else 0) i else 0)) + iI (AA v i)), rfl, fun a b ha hb => ?_, fun j hj => ?_⟩
      · rw [sI_s]
        by_cases y : a = av ∧ b = c
        · obtain ⟨y1, y2⟩ := y
          subst y1
          subst y2
          rw [pk_us, if_pos ⟨eav, fun x => q x.symm⟩, if_pos ⟨eav, fun x => q x.symm⟩, if_pos ec, iI_add, Int.add_assoc]
        · rw [pk_un (by omega), p1 a b ha hb]
          by_cases z : num v = (a : Int) ∧ a ≠ b
          · rw [if_pos z, if_pos z, if_neg (show ¬ num i = (b : Int) from fun x => y ⟨by omega, by omega⟩), Int.add_zero]
          · rw [if_neg z, if_neg z]
      · rw [pk_un (by omega)]; exact p2 j hj) m 0 64 LA (by omega) (by omega) ⟨fun a b ha hb => by
      rw [hG a b ha hb]
      have : sI (fun j => if num j = (b : Int) then AA v j else 0) 0 = 0 := rfl
      rw [this, ite_self, Int.add_zero], fun j _ => rfl⟩
  have e : L_Re_next_293 (nI l) (nI (l + 1)) K 64 (nI m) (nI v) (nI av) 0 LA LI LN LW = L_Re_next_293 (nI l) (nI (l + 1)) K (f' + 1) (nI m) (nI v) (nI av) (nI m) s' LI LN LW := e
  refine ⟨s', ?_, hP.1, hP.2⟩
  rw [env, e, L_Re_next_293, if_pos (nI_le (Nat.le_refl m) (by omega)), nI_1]
theorem s_r240 {m M l : Nat} {W : Nat → Int} {AA : Nat → Nat → Int} {num : Nat → Int} {LA LI LN LW : Nat → Int32} (hm : m ≤ 40) (hM : M ≤ m) (hl : l + 1 < 41) (hI : RI m l num LI) (hnum : ∀ u, u < m → 0 ≤ num u ∧ num u < M) (hL : RL m l W AA LW LA) (h0 : ∀ a b, a < M → b < M → LA (1600 * (l + 1) + 40 * a + b) = 0) (hw0 : ∀ a, a < M → LW (40 * (l + 1) + a) = 0) : ∃ LA' LW', L_Re_next_240 (nI l) (nI (l + 1)) 64 (nI m) 0 LA LI LN LW = some (1, nI (l + 2), LA', LI, LN, LW') ∧ RL M (l + 1) (fun a => pS m W num a) (fun a b => qA m AA num a b) LW' LA' ∧ (∀ j, j < 1600 * (l + 1) → LA' j = LA j) ∧ ∀ j, j < 40 * (l + 1) → LW' j = LW j := by
  obtain ⟨f', s', e, hP⟩ := loopP (fun f i (s : (Nat → Int32) × (Nat → Int32)) => L_Re_next_240 (nI l) (nI (l + 1)) f (nI m) (nI i) s.1 LI LN s.2) m (fun i s => (∀ a b : Nat, a < M → b < M → s.1 (1600 * (l + 1) + 40 * a + b) = iI (sI (fun v => if num v = (a : Int) ∧ a ≠ b then lk m AA num v b else 0) i)) ∧ (∀ a : Nat, a < M → s.2 (40 * (l + 1) + a) = iI (sI (fun v => if num v = (a : Int) then W v else 0) i)) ∧ (∀ j, j < 1600 * (l + 1) → s.1 j = LA j) ∧ ∀ j, j < 40 * (l + 1) → s.2 j = LW j) (by
    intro f i s hi hp
    obtain ⟨la, lw⟩ := s
    obtain ⟨p1, p2, p3, p4⟩ := hp
    dsimp only at p1 p2 p3 p4
    have hni := hnum i hi
    obtain ⟨c, hc, ec, en⟩ := iI_pn (p := M) hni.1 hni.2
    show ∃ s', L_Re_next_240 _ _ (f + 1) _ (nI i) la _ _ lw = _ ∧ _
    obtain ⟨la', e1, q1, q2⟩ := s_r293 (LW := upd lw (40 * (l + 1) + c) (lw (40 * (l + 1) + c) + lw (40 * l + i))) (LN := LN) hm hM hl hi hI hnum (fun a b ha hb => by rw [p3 _ (by omega)]; exact hL.2.2 a b ha hb) p1 (L_Re_next_240 (nI l) (nI (l + 1)) f)
    rw [L_Re_next_240, if_neg (nI_ge hi (by omega)), n40', ckn (by omega) (by decide), nI_clamp (by omega), hI i hi]
    rw [en] at e1 ⊢
    rw [n40', ckn (by omega) (by decide), ckn (by omega) (by decide), ckn (by omega) (by decide), nI_clamp (show 40 * (l + 1) + c < 2 ^ 31 by omega), e1]
    refine ⟨(la', _), rfl, q1, fun a ha => ?_, fun j hj => ?_, fun j hj => ?_⟩
    · show upd lw (40 * (l + 1) + c) (lw (40 * (l + 1) + c) + lw (40 * l + i)) (40 * (l + 1) + a) = _
      rw [sI_s]
      by_cases y : a = c
      · subst y; rw [pk_us, p2 a ha, p4 _ (by omega), hL.2.1 i hi, if_pos ec, iI_add]
      · rw [pk_un (by omega), p2 a ha, if_neg (by omega), Int.add_zero]
    · show la' j = LA j
      rw [q2 j hj]; exact p3 j hj
    · show upd lw (40 * (l + 1) + c) (lw (40 * (l + 1) + c) + lw (40 * l + i)) j = LW j
      rw [pk_un (by omega)]; exact p4 j hj) m 0 64 (LA, LW) (by omega) (by omega) ⟨fun a b ha hb => (h0 a b ha hb).trans iI_0.symm, fun a ha => (hw0 a ha).trans iI_0.symm, fun j _ => rfl, fun j _ => rfl⟩
  obtain ⟨la, lw⟩ := s'
  obtain ⟨p1, p2, p3, p4⟩ := hP
  dsimp only at p1 p2 p3 p4
  have e : L_Re_next_240 (nI l) (nI (l + 1)) 64 (nI m) 0 LA LI LN LW = L_Re_next_240 (nI l) (nI (l + 1)) (f' + 1) (nI m) (nI m) la LI LN lw := e
  refine ⟨la, lw, ?_, ⟨by omega, p2, fun a b ha hb => ?_⟩, p3, p4⟩
  · rw [e, L_Re_next_240, if_pos (nI_le (Nat.le_refl m) (by omega))]
    unfold J_Re_next_382
    rw [nI_1]
  · rw [p1 a b ha hb]
    congr 1
    unfold qA
    dsimp only
    by_cases q : a = b
    · rw [if_pos q, sI_congr (g := fun _ => 0) (fun i hi => if_neg (fun z => z.2 q)), sI_zero]
    · rw [if_neg q]
      refine sI_congr (fun i hi => ?_)
      by_cases z : num i = (a : Int)
      · rw [if_pos z, if_pos ⟨z, q⟩]
      · rw [if_neg z, if_neg (fun y => z y.1)]
theorem s_r195 {m M l v : Nat} {LA LI LN LW : Nat → Int32} (hM : M ≤ 40) (hl : l + 1 < 41) (hv : v < M) (K : Int32 → Int32 → Int32 → (Nat → Int32) → (Nat → Int32) → (Nat → Int32) → (Nat → Int32) → Option (Int32 × Int32 × (Nat → Int32) × (Nat → Int32) × (Nat → Int32) × (Nat → Int32))) : ∃ LA', L_Re_next_195 (nI (l + 1)) K 64 (nI m) (nI M) (nI v) 0 LA LI LN LW = K (nI m) (nI M) (nI (v + 1)) LA' LI LN LW ∧ (∀ b, b < M → LA' (1600 * (l + 1) + 40 * v + b) = 0) ∧ ∀ j, (j < 1600 * (l + 1) + 40 * v ∨ 1600 * (l + 1) + 40 * v + M ≤ j) → LA' j = LA j := by
  obtain ⟨f', s', e, hP⟩ := loopP (fun f i (s : Nat → Int32) => L_Re_next_195 (nI (l + 1)) K f (nI m) (nI M) (nI v) (nI i) s LI LN LW) M (fun i s => (∀ b, b < i → s (1600 * (l + 1) + 40 * v + b) = 0) ∧ ∀ j, (j < 1600 * (l + 1) + 40 * v ∨ 1600 * (l + 1) + 40 * v + M ≤ j) → s j = LA j) (by
    intro f i s hi hp
    obtain ⟨p1, p2⟩ := hp
    show ∃ s', L_Re_next_195 _ _ (f + 1) _ _ _ (nI i) s _ _ _ = _ ∧ _
    rw [L_Re_next_195, if_neg (nI_ge hi (by omega)), n1600, ckn (by omega) (by decide), nI_clamp (by omega), nI_1]
    refine ⟨upd s (1600 * (l + 1) + 40 * v + i) 0, rfl, fun b hb => ?_, fun j hj => ?_⟩
    · by_cases q : b = i
      · subst q; rw [pk_us]
      · rw [pk_un (by omega)]; exact p1 b (by omega)
    · rw [pk_un (by omega)]; exact p2 j hj) M 0 64 LA (by omega) (by omega) ⟨fun b hb => absurd hb (Nat.not_lt_zero b), fun j _ => rfl⟩
  have e : L_Re_next_195 (nI (l + 1)) K 64 (nI m) (nI M) (nI v) 0 LA LI LN LW = L_Re_next_195 (nI (l + 1)) K (f' + 1) (nI m) (nI M) (nI v) (nI M) s' LI LN LW := e
  refine ⟨s', ?_, hP.1, hP.2⟩
  rw [e, L_Re_next_195, if_pos (nI_le (Nat.le_refl M) (by omega)), nI_1]
theorem s_r169 {m M l : Nat} {LA LI LN LW : Nat → Int32} (hM : M ≤ 40) (hl : l + 1 < 41) : ∃ LA' LW', L_Re_next_169 (nI l) (nI (l + 1)) 64 (nI m) (nI M) 0 LA LI LN LW = L_Re_next_240 (nI l) (nI (l + 1)) 64 (nI m) 0 LA' LI LN LW' ∧ (∀ a b, a < M → b < M → LA' (1600 * (l + 1) + 40 * a + b) = 0) ∧ (∀ a, a < M → LW' (40 * (l + 1) + a) = 0) ∧ (∀ j, j < 1600 * (l + 1) → LA' j = LA j) ∧ ∀ j, j < 40 * (l + 1) → LW' j = LW j := by
  obtain ⟨f', s', e, hP⟩ := loopP (fun f i (s : (Nat → Int32) × (Nat → Int32)) => L_Re_next_169 (nI l) (nI (l + 1)) f (nI m) (nI M) (nI i) s.1 LI LN s.2) M (fun i s => (∀ a b, a < i → b < M → s.1 (1600 * (l + 1) + 40 * a + b) = 0) ∧ (∀ a, a < i → s.2 (40 * (l + 1) + a) = 0) ∧ (∀ j, j < 1600 * (l + 1) → s.1 j = LA j) ∧ ∀ j, j < 40 * (l + 1) → s.2 j = LW j) (by
    intro f i s hi hp
    obtain ⟨la, lw⟩ := s
    obtain ⟨p1, p2, p3, p4⟩ := hp
    dsimp only at p1 p2 p3 p4
    obtain ⟨la', e1, q1, q2⟩ := s_r195 (m := m) (LA := la) (LI := LI) (LN := LN) (LW := upd lw (40 * (l + 1) + i) 0) hM hl hi (L_Re_next_169 (nI l) (nI (l + 1)) f)
    show ∃ s', L_Re_next_169 _ _ (f + 1) _ _ (nI i) la _ _ lw = _ ∧ _
    rw [L_Re_next_169, if_neg (nI_ge hi (by omega)), n40', ckn (by omega) (by decide), nI_clamp (by omega), e1]
    refine ⟨(la', upd lw (40 * (l + 1) + i) 0), rfl, fun a b ha hb => ?_, fun a ha => ?_, fun j hj => ?_, fun j hj => ?_⟩
    · dsimp only
      by_cases q : a = i
      · subst q; exact q1 b hb
      · rw [q2 _ (by omega)]; exact p1 a b (by omega) hb
    · dsimp only
      by_cases q : a = i
      · subst q; rw [pk_us]
      · rw [pk_un (by omega)]; exact p2 a (by omega)
    · dsimp only
      rw [q2 _ (by omega)]; exact p3 j hj
    · dsimp only
      rw [pk_un (by omega)]; exact p4 j hj) M 0 64 (LA, LW) (by omega) (by omega) ⟨fun a b ha => absurd ha (Nat.not_lt_zero a), fun a ha => absurd ha (Nat.not_lt_zero a), fun j _ => rfl, fun j _ => rfl⟩
  obtain ⟨la, lw⟩ := s'
  obtain ⟨p1, p2, p3, p4⟩ := hP
  have e : L_Re_next_169 (nI l) (nI (l + 1)) 64 (nI m) (nI M) 0 LA LI LN LW = L_Re_next_169 (nI l) (nI (l + 1)) (f' + 1) (nI m) (nI M) (nI M) la LI LN lw := e
  refine ⟨la, lw, ?_, p1, p2, p3, p4⟩
  rw [e, L_Re_next_169, if_pos (nI_le (Nat.le_refl M) (by omega))]
theorem s_rnext {m k l : Nat} {W : Nat → Int} {AA : Nat → Nat → Int} {LA LI LN LW : Nat → Int32} (g : GOK m W AA) (hL : RL m l W AA LW LA) (hLN : LN l = nI m) (hl : l + 1 < 41) (hk1 : 2 ≤ k) (hk : k ≤ 4) : (∀ M, M = (jF m W AA (limI m k W) m).2.1 → ((M = m → ∃ LI', f_Re_next (nI l) (nI k) (nI (l + 1)) LA LI LN LW = some (0, nI (l + 1), LA, LI', LN, LW) ∧ ∀ j, (j < 40 * l ∨ 40 * l + m ≤ j) → LI' j = LI j) ∧ (M ≠ m → ∃ LA' LI' LW', f_Re_next (nI l) (nI k) (nI (l + 1)) LA LI LN LW = some (1, nI (l + 2), LA', LI', upd LN (l + 1) (nI M), LW') ∧ RL M (l + 1) (fun a => pS m W (jF m W AA (limI m k W) m).1 a) (fun a b => qA m AA (jF m W AA (limI m k W) m).1 a b) LW' LA' ∧ RI m l (jF m W AA (limI m k W) m).1 LI' ∧ (∀ j, (j < 40 * l ∨ 40 * l + m ≤ j) → LI' j = LI j) ∧ (∀ j, j < 1600 * (l + 1) → LA' j = LA j) ∧ ∀ j, j < 40 * (l + 1) → LW' j = LW j))) := by
  have hm := g.1
  have hsy := g.2.2.2.2.2.1
  have hd := g.2.2.2.2.2.2
  have tot := g.2.2.1
  have tot0 : 0 ≤ sI W m := sI_nn (fun j hj => by have := g.2.1 j hj; omega)
  have hJ := jF_ok (w := W) (lim := limI m k W) hsy hd m (Nat.le_refl m)
  have hlim : r64 (limI m k W) := by
    unfold limI
    have h1 : 0 ≤ sI W m / (2 * k) := Int.ediv_nonneg tot0 (by omega)
    have h2 : sI W m / (2 * k) ≤ sI W m := Int.ediv_le_self _ tot0
    exact ⟨by omega, by omega⟩
  obtain ⟨f1, s1, e1, hP1⟩ := loopP (fun f i (s : Int64 × (Nat → Int32)) => L_Re_next_12 (nI l) (nI k) (nI (l + 1)) LA LN LW f (nI m) s.1 (nI i) s.2) m (fun i s => s.1 = lI (sI W i) ∧ (∀ u, u < i → s.2 (40 * l + u) = -1) ∧ ∀ j, (j < 40 * l ∨ 40 * l + m ≤ j) → s.2 j = LI j) (by
    intro f i s hi hp
    obtain ⟨x3, li⟩ := s
    obtain ⟨p1, p2, p3⟩ := hp
    dsimp only at p1 p2 p3
    have hw := g.w32 hi
    show ∃ s', L_Re_next_12 _ _ _ _ _ _ (f + 1) _ x3 (nI i) li = _ ∧ _
    rw [L_Re_next_12, if_neg (nI_ge hi (by omega)), n40', ckn (by omega) (by decide), ckn (by omega) (by decide), nI_clamp (by omega), hL.2.1 i hi, iI_l ⟨by omega, by omega⟩, p1, lI_add, nI_1]
    refine ⟨(lI (sI W i + W i), upd li (40 * l + i) (-1)), rfl, rfl, fun u hu => ?_, fun j hj => ?_⟩
    · dsimp only
      by_cases q : u = i
      · subst q; rw [pk_us]
      · rw [pk_un (by omega)]; exact p2 u (by omega)
    · dsimp only
      rw [pk_un (by omega)]; exact p3 j hj) m 0 64 (0, LI) (by omega) (by omega) ⟨rfl, fun u hu => absurd hu (Nat.not_lt_zero u), fun j _ => rfl⟩
  obtain ⟨x3, li⟩ := s1
  obtain ⟨p1, p2, p3⟩ := hP1
  dsimp only at p1 p2 p3
  have e1 : L_Re_next_12 (nI l) (nI k) (nI (l + 1)) LA LN LW 64 (nI m) (0 : Int64) 0 LI = L_Re_next_12 (nI l) (nI k) (nI (l + 1)) LA LN LW (f1 + 1) (nI m) x3 (nI m) li := e1
  obtain ⟨LI', e2, q1, q2⟩ := s_r70 (lv := nI (l + 1)) g hL hLN (LI := li) (fun u hu => p2 u hu) hlim
  have ek : ((2 : Int32) * nI k).toInt64 = lI (2 * k) := by
    rw [nI_iI, show (2 : Int32) = iI 2 from rfl, iI_mul, iI_l ⟨by omega, by omega⟩]
  have eq : f_Re_next (nI l) (nI k) (nI (l + 1)) LA LI LN LW = J_Re_next_147 (nI l) (nI (l + 1)) LA LN LW (nI m) (nI (jF m W AA (limI m k W) m).2.1) LI' := by
    unfold f_Re_next
    rw [ckn (by omega) (by decide), nI_clamp (by omega), hLN, e1, L_Re_next_12, if_pos (nI_le (Nat.le_refl m) (by omega))]
    unfold J_Re_next_53
    rw [ek, p1, lI_div tot0 (by omega) (by omega) (by omega), ck_true (by
      unfold nzl
      have : ¬ lI (2 * k) = 0 := fun z => absurd ((lI_eq (b := 0) ⟨by omega, by omega⟩ ⟨by omega, by omega⟩).mp z) (by omega)
      simp [this])]
    exact e2
  intro M hM
  rw [← hM] at eq
  have hMm : M ≤ m := by rw [hM]; exact hJ.2.2.1
  rw [eq]
  unfold J_Re_next_147
  constructor
  · intro h
    rw [if_pos (by rw [h])]
    exact ⟨LI', rfl, fun j hj => by rw [q2 j hj]; exact p3 j hj⟩
  · intro h
    rw [if_neg (fun z => h ((nI_eq (by omega) (by omega)).mp z)), ckn (by omega) (by decide), nI_clamp (by omega)]
    obtain ⟨LA1, LW1, e3, r1, r2, r3, r4⟩ := s_r169 (m := m) (M := M) (LA := LA) (LI := LI') (LN := upd LN (l + 1) (nI M)) (LW := LW) (l := l) (by omega) hl
    rw [e3]
    obtain ⟨LA2, LW2, e4, t1, t2, t3⟩ := s_r240 (LN := upd LN (l + 1) (nI M)) hm hMm hl q1 (fun u hu => ⟨hJ.1 u hu, by rw [hM]; exact hJ.2.1 u hu⟩) (W := W) (AA := AA) (LA := LA1) (LW := LW1) ⟨hL.1, fun i hi => by rw [r4 _ (by omega)]; exact hL.2.1 i hi, fun i j hi hj => by rw [r3 _ (by omega)]; exact hL.2.2 i j hi hj⟩ r1 r2
    exact ⟨LA2, LI', LW2, e4, t1, q1, fun j hj => by rw [q2 j hj]; exact p3 j hj, fun j hj => by rw [t2 j hj]; exact r3 j hj, fun j hj => by rw [t3 j hj]; exact r4 j hj⟩
