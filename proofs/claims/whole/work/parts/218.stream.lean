theorem stF_cnt {n k : Nat} {w : Nat → Int} {A : Nat → Nat → Int} {hi : Nat → Int} {al : Int} {x : Int32} (hk : 2 ≤ k) : ∀ i, i ≤ n → pS n (fun _ => 1) (stF n k w A hi al x i) (-1) = n - i := by
  intro i
  induction i with
  | zero => intro _; exact (gw_start (n := n) (k := k)).2
  | succ i ih =>
    intro hi'
    have e : stF n k w A hi al x (i + 1) = hs (stF n k w A hi al x i) (ordr n x i) (stP n k w A hi (stF n k w A hi al x i) al (ordr n x i)) := rfl
    have hp := stP_lt (n := n) (w := w) (A := A) (hi := hi) (h := stF n k w A hi al x i) (al := al) (v := ordr n x i) hk
    rw [e, cnt_hs (ordr_lt (by omega)) (by omega) ((stF_out hk i (by omega)).1 i (Nat.le_refl i) (by omega)), ih (by omega)]
    omega
theorem stF_HK {n k : Nat} {w : Nat → Int} {A : Nat → Nat → Int} {hi : Nat → Int} {al : Int} {x : Int32} (hk : 2 ≤ k) : HK n k (stF n k w A hi al x n) := by
  intro i hi'
  have h2 := (stF_out (w := w) (A := A) (hi := hi) (al := al) (x := x) hk n (Nat.le_refl n)).2.1 i hi'
  have h3 := cnt_none (by rw [stF_cnt (w := w) (A := A) (hi := hi) (al := al) (x := x) hk n (Nat.le_refl n)]; omega) i hi'
  omega
theorem s_arcsInto {n k v p : Nat} {w : Nat → Int} {A : Nat → Nat → Int} {h : Nat → Int} {wt ar home : Nat → Int32} (g : GOK n w A) (hC : CG n w A wt ar) (hr : RW n h home) (hk : k ≤ 4) (hh : HOK n k h) (hv : v < n) (hp : p < k) : f_Sp_arcsInto (nI v) (nI p) (nI n) ar home = some (iI (lk n A h v p)) := by
  have hn := g.1
  obtain ⟨f', e⟩ := loopS (fun f i s => L_Sp_arcsInto_5 (nI v) (nI p) (nI n) ar home f s (nI i)) n (fun i => iI (sI (fun i => if h i = (p : Int) then A v i else 0) i)) (by
    intro f i hi
    show L_Sp_arcsInto_5 _ _ _ _ _ (f + 1) _ (nI i) = _
    have hhi := hh i hi
    rw [L_Sp_arcsInto_5, if_neg (nI_ge hi (by omega)), ckn (by omega) (by decide), nI_clamp (by omega), hr i hi, sI_s, ← iI_add, nI_1]
    by_cases q : h i = (p : Int)
    · rw [if_pos (by rw [q, nI_iI]), if_pos q, s_garc (by omega) (by omega), Option.bind_some, hC.2 v i hv hi]
    · rw [if_neg (fun e => q (by rw [nI_iI] at e; exact (iI_eq ⟨by omega, by omega⟩ ⟨by omega, by omega⟩).mp e)), if_neg q, iI_0, Int32.add_zero]) n 0 64 (by omega) (by omega)
  unfold f_Sp_arcsInto
  have e : L_Sp_arcsInto_5 (nI v) (nI p) (nI n) ar home 64 0 0 = _ := e
  rw [e]
  show L_Sp_arcsInto_5 _ _ _ _ _ (f' + 1) _ (nI n) = _
  rw [L_Sp_arcsInto_5, if_pos (nI_le (Nat.le_refl n) (by omega))]
  rfl
theorem val_r {n v p : Nat} {w : Nat → Int} {A : Nat → Nat → Int} (g : GOK n w A) {h : Nat → Int} {al : Int} (h0 : 0 ≤ al) (h1 : al ≤ 1000) (hv : v < n) : r64 (1000 * lk n A h v p - al * pS n w h p) := by
  have a1 := g.lnk hv h p
  have a2 := g.ps h p
  have a3 : 0 ≤ al * pS n w h p := Int.mul_nonneg h0 a2.1
  have a4 : al * pS n w h p ≤ 1000 * 40000 := Int.mul_le_mul h1 a2.2 a2.1 (by omega)
  exact ⟨by omega, by omega⟩
theorem s_likedPart {n k v : Nat} {w : Nat → Int} {A : Nat → Nat → Int} {h lo hi : Nat → Int} {wt ar home sum most least : Nat → Int32} {al : Int} (g : GOK n w A) (hC : CG n w A wt ar) (hr : RW n h home) (hB : BOK k lo hi) (hb : RB k lo hi least most) (hh : HOK n k h) (hs1 : ∀ p : Nat, p < 4 → sum p = iI (pS n w h p)) (h0 : 0 ≤ al) (h1 : al ≤ 1000) (hv : v < n) : f_Sp_likedPart (nI v) (iI al) (nI k) most (nI n) ar wt home sum = some (match fo (stS k (fun p => decide (pS n w h p + w v ≤ hi p)) (fun p => 1000 * lk n A h v p - al * pS n w h p)) k none with | none => -1 | some p => nI p) := by
  have hn := g.1
  have hk1 := hB.1
  have hk := hB.2.1
  have hwv := g.w32 hv
  obtain ⟨f', s', e, hP⟩ := loopP (fun f i (s : Int32 × Int64) => L_Sp_likedPart_8 (nI v) (iI al) (nI k) most (nI n) ar wt home sum f s.1 s.2 (nI i)) k (fun i s => match fo (stS k (fun p => decide (pS n w h p + w v ≤ hi p)) (fun p => 1000 * lk n A h v p - al * pS n w h p)) i none with | none => s.1 = -1 | some p => s.1 = nI p ∧ s.2 = lI (1000 * lk n A h v p - al * pS n w h p) ∧ p < k) (by
    intro f i s hi' hp
    obtain ⟨a, b⟩ := s
    have p1 := g.ps h i
    have b1 := hB.2.2 i hi'
    have l1 := g.lnk hv h i
    have vr := val_r (p := i) g (h := h) h0 h1 hv
    show ∃ s', L_Sp_likedPart_8 _ _ _ _ _ _ _ _ _ (f + 1) a b (nI i) = _ ∧ _
    rw [L_Sp_likedPart_8, if_neg (nI_ge hi' (by omega)), ckn (by omega) (by decide), ckn (by omega) (by decide), ckn (by omega) (by decide), nI_clamp (by omega), nI_clamp (show v < 2 ^ 31 by omega), (hb i hi').2, hs1 i (by omega), hC.1 v hv, iI_add, nI_1, fo_s]
    generalize fo (stS k (fun p => decide (pS n w h p + w v ≤ hi p)) (fun p => 1000 * lk n A h v p - al * pS n w h p)) i none = S at hp ⊢
    unfold stS
    by_cases q : pS n w h i + w v ≤ hi i
    · have ev : (1000 : Int64) * (iI (lk n A h v i)).toInt64 - (iI al).toInt64 * (iI (pS n w h i)).toInt64 = lI (1000 * lk n A h v i - al * pS n w h i) := by
        rw [iI_l ⟨by omega, by omega⟩, iI_l ⟨by omega, by omega⟩, iI_l ⟨by omega, by omega⟩, show (1000 : Int64) = lI 1000 from rfl, lI_mul, lI_mul, lI_sub]
      rw [if_neg (fun z => absurd ((iI_lt ⟨by omega, by omega⟩ ⟨by omega, by omega⟩).mp z) (by omega)), if_pos (show decide (pS n w h i + w v ≤ hi i) = true by simp [q]), s_arcsInto g hC hr hk hh hv hi', Option.bind_some, ckn (by omega) (by decide), ev]
      cases S with
      | none =>
        have hp : a = -1 := hp
        rw [if_pos hp]
        exact ⟨(_, _), rfl, rfl, rfl, hi'⟩
      | some u =>
        obtain ⟨c1, c2, c3⟩ := hp
        dsimp only at c1 c2
        have vr2 := val_r (p := u) g (h := h) h0 h1 hv
        rw [c1, c2, if_neg (nI_m1 u (by omega))]
        dsimp only
        by_cases z : 1000 * lk n A h v u - al * pS n w h u < 1000 * lk n A h v i - al * pS n w h i
        · rw [if_pos z, if_neg (fun y => absurd ((lI_le vr vr2).mp ((lg_cmp_le _ _).mp y)) (by omega))]
          exact ⟨(_, _), rfl, rfl, rfl, hi'⟩
        · rw [if_neg z, if_pos ((lg_cmp_le _ _).mpr ((lI_le vr vr2).mpr (by omega)))]
          exact ⟨(_, _), rfl, rfl, rfl, c3⟩
    · rw [if_pos ((iI_lt ⟨by omega, by omega⟩ ⟨by omega, by omega⟩).mpr (by omega)), if_neg (show ¬ decide (pS n w h i + w v ≤ hi i) = true by simp [q])]
      exact ⟨(a, b), rfl, hp⟩) k 0 64 (-1, 0) (by omega) (by omega) rfl
  obtain ⟨a, b⟩ := s'
  unfold f_Sp_likedPart
  have e : L_Sp_likedPart_8 (nI v) (iI al) (nI k) most (nI n) ar wt home sum 64 (-1) (0 : Int64) 0 = L_Sp_likedPart_8 (nI v) (iI al) (nI k) most (nI n) ar wt home sum (f' + 1) a b (nI k) := e
  rw [e, L_Sp_likedPart_8, if_pos (nI_le (Nat.le_refl k) (by omega))]
  generalize fo (stS k (fun p => decide (pS n w h p + w v ≤ hi p)) (fun p => 1000 * lk n A h v p - al * pS n w h p)) k none = S at hP ⊢
  cases S with
  | none => have hP : a = -1 := hP; rw [hP]
  | some u => have hP : a = nI u := hP.1; rw [hP]
theorem s_lightest {n k : Nat} {w : Nat → Int} {A : Nat → Nat → Int} {h lo hi : Nat → Int} {sum : Nat → Int32} (g : GOK n w A) (hB : BOK k lo hi) (hs : ∀ p : Nat, p < 4 → sum p = iI (pS n w h p)) : f_Sp_lightestPart (nI k) sum = some (nI (room k (fun p => - pS n w h p))) := by
  have hk1 := hB.1
  have hk := hB.2.1
  obtain ⟨f', e⟩ := loopS (fun f i (s : Int32) => L_Sp_lightestPart_4 (nI k) sum f s (nI (i + 1))) (k - 1) (fun i => nI (fo (rmS (fun p => - pS n w h p)) i 0)) (by
    intro f i hi'
    show L_Sp_lightestPart_4 _ _ (f + 1) _ (nI (i + 1)) = _
    have hr := room_ok (val := fun p => - pS n w h p) i
    rw [fo_s]
    generalize fo (rmS (fun p => - pS n w h p)) i 0 = b at hr ⊢
    have p1 := g.ps h b
    have p2 := g.ps h (i + 1 : Nat)
    rw [L_Sp_lightestPart_4, if_neg (nI_ge (by omega) (by omega)), ckn (by omega) (by decide), ckn (by omega) (by decide), nI_clamp (show b < 2 ^ 31 by omega), nI_clamp (show i + 1 < 2 ^ 31 by omega), hs b (by omega), hs (i + 1) (by omega), nI_1]
    unfold rmS
    by_cases z : - pS n w h b < - pS n w h (i + 1 : Nat)
    · rw [if_neg (fun y => absurd ((iI_le ⟨by omega, by omega⟩ ⟨by omega, by omega⟩).mp y) (by omega)), if_pos z]
    · rw [if_pos ((iI_le ⟨by omega, by omega⟩ ⟨by omega, by omega⟩).mpr (by omega)), if_neg z]) (k - 1) 0 64 (by omega) (by omega)
  have e : L_Sp_lightestPart_4 (nI k) sum 64 0 1 = L_Sp_lightestPart_4 (nI k) sum (f' + 1) (nI (fo (rmS (fun p => - pS n w h p)) (k - 1) 0)) (nI (k - 1 + 1)) := e
  unfold f_Sp_lightestPart
  rw [e, L_Sp_lightestPart_4, if_pos (nI_le (by omega) (by omega))]
  rfl
theorem pS_out {n p : Nat} {w : Nat → Int} : pS n w (fun _ => -1) p = 0 := by
  unfold pS
  rw [sI_congr (g := fun _ => 0) (fun i hi' => if_neg (show ¬ (-1 : Int) = p by omega)), sI_zero]
theorem s_streamAll {n k : Nat} {w : Nat → Int} {A : Nat → Nat → Int} {lo hi : Nat → Int} {wt ar most least row : Nat → Int32} {al : Int} {x : Int32} (g : GOK n w A) (hC : CG n w A wt ar) (hB : BOK k lo hi) (hb : RB k lo hi least most) (h0 : 0 ≤ al) (h1 : al ≤ 1000) (ho : ∀ i, i < n → row i = nI (ordr n x i)) : ∃ home sum, f_Sp_streamAll (iI al) (nI k) most (nI n) ar wt row = some (home, sum) ∧ RW n (stF n k w A hi al x n) home := by
  have hn := g.1
  have hk1 := hB.1
  have hk := hB.2.1
  obtain ⟨f', s', e, hP⟩ := loopP (fun f i (s : (Nat → Int32) × (Nat → Int32)) => L_Sp_streamAll_6 (iI al) (nI k) most (nI n) ar wt row f (nI i) s.1 s.2) n (fun i s => RW n (stF n k w A hi al x i) s.1 ∧ ∀ p : Nat, p < 4 → s.2 p = iI (pS n w (stF n k w A hi al x i) p)) (by
    intro f i s hi' hp
    obtain ⟨a, b⟩ := s
    obtain ⟨p1, p2⟩ := hp
    dsimp only at p1 p2
    have hso := stF_out (w := w) (A := A) (hi := hi) (al := al) (x := x) hk1 i (Nat.le_of_lt hi')
    have hol := ordr_lt (x := x) hi'
    have hneg := hso.1 i (Nat.le_refl i) hi'
    have hlt := stP_lt (n := n) (w := w) (A := A) (hi := hi) (h := stF n k w A hi al x i) (al := al) (v := ordr n x i) hk1
    have es : stF n k w A hi al x (i + 1) = hs (stF n k w A hi al x i) (ordr n x i) (stP n k w A hi (stF n k w A hi al x i) al (ordr n x i)) := rfl
    show ∃ s', L_Sp_streamAll_6 _ _ _ _ _ _ _ (f + 1) (nI i) a b = _ ∧ _
    rw [L_Sp_streamAll_6, if_neg (nI_ge hi' (by omega)), ckn (by omega) (by decide), nI_clamp (by omega), ho i hi', s_likedPart g hC p1 hB hb hso.2.1 p2 h0 h1 hol, Option.bind_some, es]
    generalize stF n k w A hi al x i = h at p1 p2 hneg hlt ⊢
    generalize ordr n x i = v at hol hneg hlt ⊢
    have fin : ∀ p, p < k → ∃ s' : (Nat → Int32) × (Nat → Int32), J_Sp_streamAll_49 wt (L_Sp_streamAll_6 (iI al) (nI k) most (nI n) ar wt row f) (nI v) (nI p) (nI i) a b = L_Sp_streamAll_6 (iI al) (nI k) most (nI n) ar wt row f (nI (i + 1)) s'.1 s'.2 ∧ RW n (hs h v p) s'.1 ∧ ∀ t : Nat, t < 4 → s'.2 t = iI (pS n w (hs h v p) t) := by
      intro p hpk
      unfold J_Sp_streamAll_49
      rw [s_place hn hC hol (by omega), Option.bind_some, nI_1]
      refine ⟨(_, _), rfl, ?_, place_sum hol hneg p2 (by omega)⟩
      have := p1.hs v (p : Int)
      rw [← nI_iI] at this
      exact this
    unfold stP at hlt ⊢
    cases hq : fo (stS k (fun p => decide (pS n w h p + w v ≤ hi p)) (fun p => 1000 * lk n A h v p - al * pS n w h p)) k none with
    | none =>
      rw [hq] at hlt
      dsimp only at hlt ⊢
      rw [if_pos rfl, s_lightest g hB p2, Option.bind_some]
      exact fin _ hlt
    | some p =>
      rw [hq] at hlt
      dsimp only at hlt ⊢
      rw [if_neg (nI_m1 p (by omega))]
      exact fin _ hlt) n 0 64 (fun _ => -1, fun _ => 0) (by omega) (by omega) ⟨fun i hi' => rfl, fun p hp => by
      show (0 : Int32) = iI (pS n w (fun _ => -1) p)
      rw [pS_out]; rfl⟩
  obtain ⟨a, b⟩ := s'
  unfold f_Sp_streamAll f_Sp_takeAllOut
  rw [Option.bind_some]
  have e : L_Sp_streamAll_6 (iI al) (nI k) most (nI n) ar wt row 64 0 (fun _ => -1) (fun _ => 0) = L_Sp_streamAll_6 (iI al) (nI k) most (nI n) ar wt row (f' + 1) (nI n) a b := e
  rw [e, L_Sp_streamAll_6, if_pos (nI_le (Nat.le_refl n) (by omega))]
  exact ⟨a, b, rfl, hP.1⟩
