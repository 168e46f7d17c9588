/-! ORDER -/
def nxx (x : Int32) : Int32 := (x * 1103515245) + 12345
def om (x : Int32) : Nat := (ushr x 16).toBitVec.toNat % 2 ^ 15
theorem om_and (x : Int32) : ushr x 16 &&& 32767 = nI (om x) := pk_and (ushr x 16) 15 (by decide)
theorem om_lt (x : Int32) : om x < 32768 := Nat.mod_lt _ (by decide)
theorem om_rem (x : Int32) {l : Nat} (h0 : 0 < l) (hl : l < 2 ^ 31) : (ushr x 16 &&& 32767) - (ushr x 16 &&& 32767) / nI l * nI l = nI (om x % l) := by
  rw [om_and]
  exact pk_rem (by have := om_lt x; omega) h0 hl
def wsh (W : Nat → Nat) (a l : Nat) : Nat → Nat := fun j => if a ≤ j ∧ j < l - 1 then W (j + 1) else W j
def orS (n i : Nat) (s : Int32 × (Nat → Nat) × (Nat → Nat)) : Int32 × (Nat → Nat) × (Nat → Nat) := (nxx s.1, wsh s.2.1 (om (nxx s.1) % (n - i)) (n - i), hs s.2.2 i (s.2.1 (om (nxx s.1) % (n - i))))
def orF (n : Nat) (x : Int32) (i : Nat) : Int32 × (Nat → Nat) × (Nat → Nat) := fo (orS n) i (x, fun j => j, fun _ => 0)
def ordr (n : Nat) (x : Int32) (i : Nat) : Nat := (orF n x n).2.2 i
/-- what waits is n - i different nodes, none of them placed -/
def ORI (n i : Nat) (s : Int32 × (Nat → Nat) × (Nat → Nat)) : Prop := (∀ j, j < n - i → s.2.1 j < n) ∧ (∀ j j', j < n - i → j' < n - i → s.2.1 j = s.2.1 j' → j = j') ∧ (∀ j, j < i → s.2.2 j < n) ∧ (∀ j j', j < i → j' < i → s.2.2 j = s.2.2 j' → j = j') ∧ ∀ j j', j < i → j' < n - i → s.2.2 j ≠ s.2.1 j'
theorem orS_ok {n i : Nat} {s : Int32 × (Nat → Nat) × (Nat → Nat)} (hi : i < n) (h : ORI n i s) : ORI n (i + 1) (orS n i s) := by
  obtain ⟨x, W, O⟩ := s
  obtain ⟨h1, h2, h3, h4, h5⟩ := h
  dsimp only at h1 h2 h3 h4 h5
  have ha : om (nxx x) % (n - i) < n - i := Nat.mod_lt _ (by omega)
  unfold orS
  dsimp only
  generalize om (nxx x) % (n - i) = a at ha ⊢
  have src : ∀ j, j < n - (i + 1) → ∃ j2, wsh W a (n - i) j = W j2 ∧ j2 < n - i ∧ j2 ≠ a ∧ (j < a → j2 = j) ∧ (a ≤ j → j2 = j + 1) := by
    intro j hj
    unfold wsh
    by_cases q : a ≤ j
    · rw [if_pos ⟨q, by omega⟩]; exact ⟨j + 1, rfl, by omega, by omega, by omega, fun _ => rfl⟩
    · rw [if_neg (by omega)]; exact ⟨j, rfl, by omega, by omega, fun _ => rfl, by omega⟩
  refine ⟨?_, ?_, ?_, ?_, ?_⟩
  · intro j hj
    obtain ⟨j2, e, b1, _⟩ := src j hj
    show wsh W a (n - i) j < n
    rw [e]; exact h1 j2 b1
  · intro j j' hj hj' e
    obtain ⟨j2, e2, b1, b2, b3, b4⟩ := src j hj
    obtain ⟨j3, e3, c1, c2, c3, c4⟩ := src j' hj'
    have e : wsh W a (n - i) j = wsh W a (n - i) j' := e
    rw [e2, e3] at e
    have := h2 j2 j3 b1 c1 e
    by_cases q : a ≤ j <;> by_cases q' : a ≤ j' <;> omega
  · intro j hj
    show hs O i (W a) j < n
    by_cases q : j = i
    · subst q; rw [hs_s]; exact h1 a ha
    · rw [hs_n q]; exact h3 j (by omega)
  · intro j j' hj hj' e
    have e : hs O i (W a) j = hs O i (W a) j' := e
    by_cases q : j = i
    · by_cases q' : j' = i
      · omega
      · subst q; rw [hs_s, hs_n q'] at e; exact absurd e.symm (h5 j' a (by omega) ha)
    · by_cases q' : j' = i
      · subst q'; rw [hs_s, hs_n q] at e; exact absurd e (h5 j a (by omega) ha)
      · rw [hs_n q, hs_n q'] at e; exact h4 j j' (by omega) (by omega) e
  · intro j j' hj hj' e
    obtain ⟨j3, e3, c1, c2, c3, c4⟩ := src j' hj'
    have e : hs O i (W a) j = wsh W a (n - i) j' := e
    rw [e3] at e
    by_cases q : j = i
    · subst q; rw [hs_s] at e; exact c2 (h2 a j3 ha c1 e).symm
    · rw [hs_n q] at e; exact h5 j j3 (by omega) c1 e
theorem orF_ok {n : Nat} {x : Int32} : ∀ i, i ≤ n → ORI n i (orF n x i) := by
  intro i
  induction i with
  | zero => intro _; exact ⟨fun j hj => by show j < n; omega, fun j j' _ _ e => e, fun j hj => absurd hj (Nat.not_lt_zero j), fun j _ hj => absurd hj (Nat.not_lt_zero j), fun j _ hj => absurd hj (Nat.not_lt_zero j)⟩
  | succ i ih => intro hi; exact orS_ok (by omega) (ih (by omega))
theorem ordr_lt {n i : Nat} {x : Int32} (hi : i < n) : ordr n x i < n := (orF_ok n (Nat.le_refl n)).2.2.1 i hi
theorem ordr_inj {n i j : Nat} {x : Int32} (hi : i < n) (hj : j < n) (e : ordr n x i = ordr n x j) : i = j := (orF_ok n (Nat.le_refl n)).2.2.2.1 i j hi hj e
theorem s_draw {n : Nat} {x : Int32} {row wt : Nat → Int32} (hn : n ≤ 40) : ∃ row' wt', f_Od_draw x (nI n) row wt = some (row', wt') ∧ ∀ i, i < n → row' i = nI (ordr n x i) := by
  obtain ⟨f1, w1, e1, hP1⟩ := loopP (fun f i (s : Nat → Int32) => L_Od_draw_2 x (nI n) row f (nI i) s) n (fun i s => ∀ j, j < i → s j = nI j) (by
    intro f i s hi hp
    show ∃ s', L_Od_draw_2 _ _ _ (f + 1) (nI i) s = _ ∧ _
    rw [L_Od_draw_2, if_neg (nI_ge hi (by omega)), ckn (by omega) (by decide), nI_clamp (by omega), nI_1]
    refine ⟨_, rfl, fun j hj => ?_⟩
    by_cases q : j = i
    · subst q; rw [pk_us]
    · rw [pk_un q]; exact hp j (by omega)) n 0 64 wt (by omega) (by omega) (fun j hj => absurd hj (Nat.not_lt_zero j))
  obtain ⟨f', s', e, hP⟩ := loopP (fun f i (s : Int32 × (Nat → Int32) × (Nat → Int32)) => L_Od_draw_25 (nI n) f s.1 (nI (n - i)) s.2.1 s.2.2) n (fun i s => s.1 = (orF n x i).1 ∧ (∀ j, j < i → s.2.1 j = nI ((orF n x i).2.2 j)) ∧ ∀ j, j < n - i → s.2.2 j = nI ((orF n x i).2.1 j)) (by
    intro f i s hi hp
    obtain ⟨a, r, u⟩ := s
    obtain ⟨p1, p2, p3⟩ := hp
    dsimp only at p1 p2 p3
    subst p1
    have ha : om (nxx (orF n x i).1) % (n - i) < n - i := Nat.mod_lt _ (by omega)
    have step : orF n x (i + 1) = (nxx (orF n x i).1, wsh (orF n x i).2.1 (om (nxx (orF n x i).1) % (n - i)) (n - i), hs (orF n x i).2.2 i ((orF n x i).2.1 (om (nxx (orF n x i).1) % (n - i)))) := rfl
    have e0 : nI n - nI (n - i) = nI i := by rw [pk_sub (by omega)]; congr 1; omega
    have en : (orF n x i).1 * 1103515245 + 12345 = nxx (orF n x i).1 := by unfold nxx; with_reducible rfl
    show ∃ s', L_Od_draw_25 _ (f + 1) _ (nI (n - i)) r u = _ ∧ _
    rw [L_Od_draw_25, if_neg (nI_nle (by omega) (by omega)), ck_true (show nz (nI (n - i)) = true by simp [nz, nI_ne0 (show 0 < n - i by omega) (show n - i < 2 ^ 31 by omega)]), en, om_rem (nxx (orF n x i).1) (l := n - i) (by omega) (by omega), step]
    generalize nxx (orF n x i).1 = y at ha ⊢
    generalize om y % (n - i) = c at ha ⊢
    have e1 : nI (n - i) - 1 - nI c = nI (n - i - 1 - c) := by
      rw [show (1 : Int32) = nI 1 from rfl, pk_sub (by omega), pk_sub (by omega)]
    have e2 : nI (n - i) + -1 = nI (n - (i + 1)) := by
      rw [show n - i = (n - (i + 1)) + 1 by omega, pk_m1]
    rw [ckn (by omega) (by decide), e0, ckn (by omega) (by decide), nI_1, e1, ck_true (show okc (nI (c + 1)) (nI c) (nI (n - i - 1 - c)) 40 40 = true by
      unfold okc
      simp only [Bool.and_eq_true, decide_eq_true_eq]
      rw [nI_clamp (by omega), nI_clamp (by omega), nI_clamp (by omega)]
      exact ⟨⟨nI_pos (by omega), nI_pos (by omega)⟩, nI_pos (by omega), by omega, by omega⟩), e2, nI_clamp (by omega), nI_clamp (show c + 1 < 2 ^ 31 by omega), nI_clamp (show c < 2 ^ 31 by omega), nI_clamp (show n - i - 1 - c < 2 ^ 31 by omega)]
    refine ⟨(y, upd r i (u c), va_cpy u u (c + 1) c (n - i - 1 - c)), rfl, rfl, ?_, ?_⟩
    · intro j hj
      dsimp only
      by_cases q : j = i
      · subst q; rw [pk_us, hs_s]; exact p3 c ha
      · rw [pk_un q, hs_n q]; exact p2 j (by omega)
    · intro j hj
      dsimp only
      unfold wsh
      by_cases q : c ≤ j
      · rw [pk_cpy_in q (by omega), if_pos ⟨q, by omega⟩, show c + 1 + (j - c) = j + 1 by omega]; exact p3 (j + 1) (by omega)
      · rw [pk_cpy_out (Or.inl (by omega)), if_neg (by omega)]; exact p3 j (by omega)) n 0 64 (x, row, w1) (by omega) (by omega) ⟨rfl, fun j hj => absurd hj (Nat.not_lt_zero j), fun j hj => hP1 j (by omega)⟩
  obtain ⟨a, r, u⟩ := s'
  obtain ⟨p1, p2, p3⟩ := hP
  unfold f_Od_draw
  have e1 : L_Od_draw_2 x (nI n) row 64 0 wt = L_Od_draw_2 x (nI n) row (f1 + 1) (nI n) w1 := e1
  have e : L_Od_draw_25 (nI n) 64 x (nI n) row w1 = L_Od_draw_25 (nI n) (f' + 1) a (nI (n - n)) r u := e
  rw [e1, L_Od_draw_2, if_pos (nI_le (Nat.le_refl n) (by omega)), e, Nat.sub_self, L_Od_draw_25, if_pos (show nI 0 ≤ 0 by decide)]
  exact ⟨r, u, rfl, p2⟩
