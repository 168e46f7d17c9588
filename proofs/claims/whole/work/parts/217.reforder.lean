theorem s_r82 {n i c : Nat} {x : Int32} {above ord : Nat → Int32} (hn : n ≤ 40) (hi : i < n) (hc : c < n - i) (K : Int32 → Int32 → (Nat → Int32) → (Nat → Int32) → Option ((Nat → Int32) × (Nat → Int32))) : ∃ ab', L_Re_makeOrder_82 K 64 x (nI i) (nI (n - i)) (nI c) above ord = K x (nI (i + 1)) ab' ord ∧ ∀ j, ab' j = if c ≤ j ∧ j < n - i - 1 then above (j + 1) else above j := by
  have e1 : nI (n - i) - 1 = nI (n - i - 1) := by rw [show (1 : Int32) = nI 1 from rfl, pk_sub (by omega)]
  obtain ⟨f', s', e, hP⟩ := loopP (fun f d (s : Nat → Int32) => L_Re_makeOrder_82 K f x (nI i) (nI (n - i)) (nI (c + d)) s ord) (n - i - 1 - c) (fun d s => ∀ j, s j = if c ≤ j ∧ j < c + d then above (j + 1) else above j) (by
    intro f d s hd hp
    show ∃ s', L_Re_makeOrder_82 _ (f + 1) _ _ _ (nI (c + d)) s _ = _ ∧ _
    rw [L_Re_makeOrder_82, e1, if_neg (nI_ge (by omega) (by omega)), nI_1, ckn (by omega) (by decide), ckn (by omega) (by decide), nI_clamp (by omega), nI_clamp (by omega)]
    refine ⟨upd s (c + d) (s (c + d + 1)), rfl, fun j => ?_⟩
    by_cases q : j = c + d
    · subst q; rw [pk_us, hp, if_neg (by omega), if_pos ⟨by omega, by omega⟩]
    · rw [pk_un q, hp]
      by_cases z : c ≤ j ∧ j < c + d
      · rw [if_pos z, if_pos ⟨by omega, by omega⟩]
      · rw [if_neg z, if_neg (by omega)]) (n - i - 1 - c) 0 64 above (by omega) (by omega) (fun j => by rw [if_neg (by omega)])
  have e : L_Re_makeOrder_82 K 64 x (nI i) (nI (n - i)) (nI c) above ord = L_Re_makeOrder_82 K (f' + 1) x (nI i) (nI (n - i)) (nI (c + (n - i - 1 - c))) s' ord := e
  refine ⟨s', ?_, fun j => ?_⟩
  · rw [e, L_Re_makeOrder_82, e1, if_pos (nI_le (by omega) (by omega)), nI_1]
  · rw [hP j, show c + (n - i - 1 - c) = n - i - 1 by omega]
theorem s_makeOrder {n : Nat} {x : Int32} {ab od : Nat → Int32} (hn : n ≤ 40) : ∃ ab' od', f_Re_makeOrder x (nI n) ab od = some (ab', od') ∧ ∀ i, i < n → od' i = nI (ordr n x i) := by
  obtain ⟨f1, w1, e1, hP1⟩ := loopP (fun f i (s : Nat → Int32) => L_Re_makeOrder_4 (nI n) od f x (nI i) s) n (fun i s => ∀ j, j < i → s j = nI j) (by
    intro f i s hi hp
    show ∃ s', L_Re_makeOrder_4 _ _ (f + 1) _ (nI i) s = _ ∧ _
    rw [L_Re_makeOrder_4, if_neg (nI_ge hi (by omega)), ckn (by omega) (by decide), nI_clamp (by omega), nI_1]
    refine ⟨_, rfl, fun j hj => ?_⟩
    by_cases q : j = i
    · subst q; rw [pk_us]
    · rw [pk_un q]; exact hp j (by omega)) n 0 64 ab (by omega) (by omega) (fun j hj => absurd hj (Nat.not_lt_zero j))
  obtain ⟨f', s', e, hP⟩ := loopP (fun f i (s : Int32 × (Nat → Int32) × (Nat → Int32)) => L_Re_makeOrder_27 (nI n) f s.1 (nI i) s.2.1 s.2.2) n (fun i s => s.1 = (orF n x i).1 ∧ (∀ j, j < n - i → s.2.1 j = nI ((orF n x i).2.1 j)) ∧ ∀ j, j < i → s.2.2 j = nI ((orF n x i).2.2 j)) (by
    intro f i s hi hp
    obtain ⟨a, u, r⟩ := s
    obtain ⟨p1, p3, p2⟩ := hp
    dsimp only at p1 p2 p3
    subst p1
    have ha : om (nxx (orF n x i).1) % (n - i) < n - i := Nat.mod_lt _ (by omega)
    have step : orF n x (i + 1) = (nxx (orF n x i).1, wsh (orF n x i).2.1 (om (nxx (orF n x i).1) % (n - i)) (n - i), hs (orF n x i).2.2 i ((orF n x i).2.1 (om (nxx (orF n x i).1) % (n - i)))) := rfl
    have e0 : nI n - nI i = nI (n - i) := by rw [pk_sub (by omega)]
    have en : (orF n x i).1 * 1103515245 + 12345 = nxx (orF n x i).1 := by unfold nxx; with_reducible rfl
    show ∃ s', L_Re_makeOrder_27 _ (f + 1) _ (nI i) u r = _ ∧ _
    rw [L_Re_makeOrder_27, if_neg (nI_ge hi (by omega)), e0, ck_true (show nz (nI (n - i)) = true by simp [nz, nI_ne0 (show 0 < n - i by omega) (show n - i < 2 ^ 31 by omega)]), en, om_rem (nxx (orF n x i).1) (l := n - i) (by omega) (by omega), step]
    generalize nxx (orF n x i).1 = y at ha ⊢
    generalize om y % (n - i) = c at ha ⊢
    rw [ckn (by omega) (by decide), ckn (by omega) (by decide), nI_clamp (show c < 2 ^ 31 by omega), nI_clamp (show i < 2 ^ 31 by omega)]
    obtain ⟨ab', e2, hab⟩ := s_r82 (x := y) (above := u) (ord := upd r i (u c)) hn hi ha (L_Re_makeOrder_27 (nI n) f)
    rw [e2]
    refine ⟨(y, ab', upd r i (u c)), rfl, rfl, ?_, ?_⟩
    · intro j hj
      dsimp only
      unfold wsh
      rw [hab]
      by_cases q : c ≤ j
      · rw [if_pos ⟨q, by omega⟩, if_pos ⟨q, by omega⟩]; exact p3 (j + 1) (by omega)
      · rw [if_neg (by omega), if_neg (by omega)]; exact p3 j (by omega)
    · intro j hj
      dsimp only
      by_cases q : j = i
      · subst q; rw [pk_us, hs_s]; exact p3 c ha
      · rw [pk_un q, hs_n q]; exact p2 j (by omega)) n 0 64 (x, w1, od) (by omega) (by omega) ⟨rfl, fun j hj => hP1 j (by omega), fun j hj => absurd hj (Nat.not_lt_zero j)⟩
  obtain ⟨a, u, r⟩ := s'
  obtain ⟨p1, p3, p2⟩ := hP
  unfold f_Re_makeOrder
  have e1 : L_Re_makeOrder_4 (nI n) od 64 x 0 ab = L_Re_makeOrder_4 (nI n) od (f1 + 1) x (nI n) w1 := e1
  have e : L_Re_makeOrder_27 (nI n) 64 x 0 w1 od = L_Re_makeOrder_27 (nI n) (f' + 1) a (nI n) u r := e
  rw [e1, L_Re_makeOrder_4, if_pos (nI_le (Nat.le_refl n) (by omega)), e, L_Re_makeOrder_27, if_pos (nI_le (Nat.le_refl n) (by omega))]
  exact ⟨u, r, rfl, p2⟩
/-! STREAM: the part that a node goes to -/
def stS (k : Nat) (fit : Nat → Bool) (val : Nat → Int) (p : Nat) (s : Option Nat) : Option Nat := if fit p = true then (match s with | none => some p | some b => if val b < val p then some p else some b) else s
def stP (n k : Nat) (w : Nat → Int) (A : Nat → Nat → Int) (hi h : Nat → Int) (al : Int) (v : Nat) : Nat := match fo (stS k (fun p => decide (pS n w h p + w v ≤ hi p)) (fun p => 1000 * lk n A h v p - al * pS n w h p)) k none with
  | none => room k (fun p => - pS n w h p)
  | some p => p
theorem stS_ok {k : Nat} {fit : Nat → Bool} {val : Nat → Int} : ∀ m, m ≤ k → ∀ j, fo (stS k fit val) m none = some j → j < k := by
  intro m
  induction m with
  | zero => intro _ j e; cases e
  | succ m ih =>
    intro hm j e
    rw [fo_s] at e
    generalize hq : fo (stS k fit val) m none = S at e
    unfold stS at e
    by_cases q : fit m = true
    · rw [if_pos q] at e
      cases S with
      | none => cases e; omega
      | some u =>
        have := ih (by omega) u hq
        dsimp only at e
        by_cases z : val u < val m
        · rw [if_pos z] at e; cases e; omega
        · rw [if_neg z] at e; cases e; exact this
    · rw [if_neg q] at e
      exact ih (by omega) j (hq.trans e)
theorem stP_lt {n k : Nat} {w : Nat → Int} {A : Nat → Nat → Int} {hi h : Nat → Int} {al : Int} {v : Nat} (hk : 2 ≤ k) : stP n k w A hi h al v < k := by
  unfold stP
  cases hq : fo (stS k (fun p => decide (pS n w h p + w v ≤ hi p)) (fun p => 1000 * lk n A h v p - al * pS n w h p)) k none with
  | none => have := room_ok (val := fun p => - pS n w h p) (k - 1); unfold room; dsimp only; omega
  | some p => exact stS_ok k (Nat.le_refl k) p hq
def stF (n k : Nat) (w : Nat → Int) (A : Nat → Nat → Int) (hi : Nat → Int) (al : Int) (x : Int32) : Nat → Nat → Int := fun i => fo (fun i h => hs h (ordr n x i) (stP n k w A hi h al (ordr n x i))) i (fun _ => -1)
theorem stF_out {n k : Nat} {w : Nat → Int} {A : Nat → Nat → Int} {hi : Nat → Int} {al : Int} {x : Int32} (hk : 2 ≤ k) : ∀ i, i ≤ n → (∀ j, i ≤ j → j < n → stF n k w A hi al x i (ordr n x j) = -1) ∧ HOK n k (stF n k w A hi al x i) ∧ ∀ j, j < i → 0 ≤ stF n k w A hi al x i (ordr n x j) := by
  intro i
  induction i with
  | zero => intro _; exact ⟨fun j _ _ => rfl, fun a ha => ⟨show (-1 : Int) ≤ -1 by omega, show (-1 : Int) < k by omega⟩, fun j hj => absurd hj (Nat.not_lt_zero j)⟩
  | succ i ih =>
    intro hi'
    obtain ⟨h1, h2, h3⟩ := ih (by omega)
    have e : stF n k w A hi al x (i + 1) = hs (stF n k w A hi al x i) (ordr n x i) (stP n k w A hi (stF n k w A hi al x i) al (ordr n x i)) := rfl
    have hp := stP_lt (n := n) (w := w) (A := A) (hi := hi) (h := stF n k w A hi al x i) (al := al) (v := ordr n x i) hk
    rw [e]
    refine ⟨fun j hj hjn => ?_, fun a ha => ?_, fun j hj => ?_⟩
    · rw [hs_n (fun z => by have := ordr_inj hjn (show i < n by omega) z; omega)]; exact h1 j (by omega) hjn
    · by_cases q : a = ordr n x i
      · subst q; rw [hs_s]; omega
      · rw [hs_n q]; exact h2 a ha
    · by_cases q : j = i
      · subst q; rw [hs_s]; omega
      · rw [hs_n (fun z => q (ordr_inj (show j < n by omega) (show i < n by omega) z))]; exact h3 j (by omega)
