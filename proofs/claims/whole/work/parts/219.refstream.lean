/-! STREAM of the reference -/
theorem s_rs127 {n k v p : Nat} {w : Nat → Int} {A : Nat → Nat → Int} {h : Nat → Int} {ar row above LA LI LN LW od : Nat → Int32} {x3 x5 lv sz bs : Int32} {x6 : Int64} {z : Int} (g : GOK n w A) (hA : ∀ i j, i < n → j < n → ar (40 * i + j) = iI (A i j)) (hr : RW n h row) (hk : k ≤ 4) (hh : HOK n k h) (hv : v < n) (hp : p < k) (K : Int32 → Int32 → Int32 → Int64 → Int32 → Int32 → Int32 → Int32 → (Nat → Int32) → (Nat → Int32) → (Nat → Int32) → (Nat → Int32) → (Nat → Int32) → (Nat → Int32) → (Nat → Int32) → Option (Int32 × Int32 × Int32 × Int32 × (Nat → Int32) × (Nat → Int32) × (Nat → Int32) × (Nat → Int32) × (Nat → Int32) × (Nat → Int32) × (Nat → Int32) × (Nat → Int32))) : L_Re_stream_127 (nI n) ar K 64 x3 (nI v) x5 x6 (nI p) (lI z) 0 lv sz bs above LA LI LN LW od row = J_Re_stream_177 K x3 (nI v) x5 x6 (nI p) (lI (z + 1000 * lk n A h v p)) lv sz bs above LA LI LN LW od row := by
  have hn := g.1
  obtain ⟨f', e⟩ := loopS (fun f i s => L_Re_stream_127 (nI n) ar K f x3 (nI v) x5 x6 (nI p) s (nI i) lv sz bs above LA LI LN LW od row) n (fun i => lI (z + 1000 * sI (fun j => if h j = (p : Int) then A v j else 0) i)) (by
    intro f i hi
    show L_Re_stream_127 _ _ _ (f + 1) _ _ _ _ _ _ (nI i) _ _ _ _ _ _ _ _ _ _ = _
    have hhi := hh i hi
    have hw := g.a32 hv hi
    rw [L_Re_stream_127, if_neg (nI_ge hi (by omega)), ckn (by omega) (by decide), nI_clamp (by omega), hr i hi, sI_s, nI_1]
    by_cases q : h i = (p : Int)
    · rw [if_pos (by rw [q, nI_iI]), if_pos q, n40', ckn (by omega) (by decide), nI_clamp (by omega), hA v i hv hi, iI_l ⟨by omega, by omega⟩, show (1000 : Int64) = lI 1000 from rfl, lI_mul, lI_add, Int.mul_add, Int.add_assoc]
    · rw [if_neg (fun e => q (by rw [nI_iI] at e; exact (iI_eq ⟨by omega, by omega⟩ ⟨by omega, by omega⟩).mp e)), if_neg q, Int.add_zero]) n 0 64 (by omega) (by omega)
  have e : L_Re_stream_127 (nI n) ar K 64 x3 (nI v) x5 x6 (nI p) (lI (z + 1000 * 0)) 0 lv sz bs above LA LI LN LW od row = _ := e
  rw [Int.mul_zero, Int.add_zero] at e
  rw [e]
  show L_Re_stream_127 _ _ _ (f' + 1) _ _ _ _ _ _ (nI n) _ _ _ _ _ _ _ _ _ _ = _
  rw [L_Re_stream_127, if_pos (nI_le (Nat.le_refl n) (by omega))]
  rfl
theorem s_rs218 {n k b : Nat} {w : Nat → Int} {A : Nat → Nat → Int} {h lo hi : Nat → Int} {LW LA row above LI LN od : Nat → Int32} {x3 x4 lv : Int32} (g : GOK n w A) (hL : RL n b w A LW LA) (hr : RW n h row) (hB : BOK k lo hi) (hh : HOK n k h) (K : Int32 → Int32 → Int32 → Int32 → (Nat → Int32) → (Nat → Int32) → (Nat → Int32) → (Nat → Int32) → (Nat → Int32) → (Nat → Int32) → (Nat → Int32) → Option (Int32 × Int32 × Int32 × Int32 × (Nat → Int32) × (Nat → Int32) × (Nat → Int32) × (Nat → Int32) × (Nat → Int32) × (Nat → Int32) × (Nat → Int32) × (Nat → Int32))) : L_Re_stream_218 (nI k) K 64 x3 x4 0 1 lv (nI n) (nI b) above LA LI LN LW od row = J_Re_stream_253 K x3 x4 (nI (room k (fun p => - pS n w h p))) lv (nI n) (nI b) above LA LI LN LW od row := by
  have hn := g.1
  have hk1 := hB.1
  have hk := hB.2.1
  obtain ⟨f', e⟩ := loopS (fun f i (s : Int32) => L_Re_stream_218 (nI k) K f x3 x4 s (nI (i + 1)) lv (nI n) (nI b) above LA LI LN LW od row) (k - 1) (fun i => nI (fo (rmS (fun p => - pS n w h p)) i 0)) (by
    intro f i hi'
    show L_Re_stream_218 _ _ (f + 1) _ _ _ (nI (i + 1)) _ _ _ _ _ _ _ _ _ _ = _
    have hr2 := room_ok (val := fun p => - pS n w h p) i
    rw [fo_s]
    generalize fo (rmS (fun p => - pS n w h p)) i 0 = c at hr2 ⊢
    have p1 := g.ps h c
    have p2 := g.ps h (i + 1 : Nat)
    rw [L_Re_stream_218, if_neg (nI_ge (by omega) (by omega)), s_sumOf g hL hr hk hh (by omega), Option.bind_some, s_sumOf g hL hr hk hh (by omega), Option.bind_some, nI_1]
    unfold rmS
    by_cases z : - pS n w h c < - pS n w h (i + 1 : Nat)
    · rw [if_neg (fun y => absurd ((lI_le ⟨by omega, by omega⟩ ⟨by omega, by omega⟩).mp ((lg_cmp_ge _ _).mp y)) (by omega)), if_pos z]
    · rw [if_pos ((lg_cmp_ge _ _).mpr ((lI_le ⟨by omega, by omega⟩ ⟨by omega, by omega⟩).mpr (by omega))), if_neg z]) (k - 1) 0 64 (by omega) (by omega)
  have e : L_Re_stream_218 (nI k) K 64 x3 x4 0 1 lv (nI n) (nI b) above LA LI LN LW od row = L_Re_stream_218 (nI k) K (f' + 1) x3 x4 (nI (fo (rmS (fun p => - pS n w h p)) (k - 1) 0)) (nI (k - 1 + 1)) lv (nI n) (nI b) above LA LI LN LW od row := e
  rw [e, L_Re_stream_218, if_pos (nI_le (by omega) (by omega))]
  rfl
theorem s_rs73 {n k b v : Nat} {w : Nat → Int} {A : Nat → Nat → Int} {h lo hi : Nat → Int} {LW LA row above LI LN od ar wt most least : Nat → Int32} {x3 lv : Int32} {al : Int} (g : GOK n w A) (hL : RL n b w A LW LA) (hr : RW n h row) (hB : BOK k lo hi) (hb : RB k lo hi least most) (hh : HOK n k h) (hA : ∀ i j, i < n → j < n → ar (40 * i + j) = iI (A i j)) (hW : ∀ i, i < n → wt i = iI (w i)) (h0 : 0 ≤ al) (h1 : al ≤ 1000) (hv : v < n) (K : Int32 → Int32 → Int32 → Int32 → (Nat → Int32) → (Nat → Int32) → (Nat → Int32) → (Nat → Int32) → (Nat → Int32) → (Nat → Int32) → (Nat → Int32) → Option (Int32 × Int32 × Int32 × Int32 × (Nat → Int32) × (Nat → Int32) × (Nat → Int32) × (Nat → Int32) × (Nat → Int32) × (Nat → Int32) × (Nat → Int32) × (Nat → Int32))) : L_Re_stream_73 (iI al) (nI n) (nI k) ar most wt K 64 x3 (nI v) (-1) (0 : Int64) 0 lv (nI n) (nI b) above LA LI LN LW od row = K (x3 + 1) lv (nI n) (nI b) above LA LI LN LW od (upd row v (nI (stP n k w A hi h al v))) := by
  have hn := g.1
  have hk1 := hB.1
  have hk := hB.2.1
  have hwv := g.w32 hv
  obtain ⟨f', s', e, hP⟩ := loopP (fun f i (s : Int32 × Int64) => L_Re_stream_73 (iI al) (nI n) (nI k) ar most wt K f x3 (nI v) s.1 s.2 (nI i) lv (nI n) (nI b) above LA LI LN LW od row) k (fun i s => match fo (stS k (fun p => decide (pS n w h p + w v ≤ hi p)) (fun p => 1000 * lk n A h v p - al * pS n w h p)) i none with | none => s.1 = -1 | some p => s.1 = nI p ∧ s.2 = lI (1000 * lk n A h v p - al * pS n w h p) ∧ p < k) (by
    intro f i s hi' hp
    obtain ⟨a, c⟩ := s
    have p1 := g.ps h i
    have b1 := hB.2.2 i hi'
    have l1 := g.lnk hv h i
    have vr := val_r (p := i) g (h := h) h0 h1 hv
    show ∃ s', L_Re_stream_73 _ _ _ _ _ _ _ (f + 1) _ _ a c (nI i) _ _ _ _ _ _ _ _ _ _ = _ ∧ _
    rw [L_Re_stream_73, if_neg (nI_ge hi' (by omega)), s_sumOf g hL hr hk hh (by omega), Option.bind_some, ckn (by omega) (by decide), ckn (by omega) (by decide), nI_clamp (show v < 2 ^ 31 by omega), nI_clamp (show i < 2 ^ 31 by omega), (hb i hi').2, hW v hv, iI_l ⟨by omega, by omega⟩, iI_l ⟨by omega, by omega⟩, lI_add, fo_s]
    generalize fo (stS k (fun p => decide (pS n w h p + w v ≤ hi p)) (fun p => 1000 * lk n A h v p - al * pS n w h p)) i none = S at hp ⊢
    unfold stS
    by_cases q : pS n w h i + w v ≤ hi i
    · have ev : -(iI al).toInt64 * lI (pS n w h i) = lI (-al * pS n w h i) := by
        rw [iI_l ⟨by omega, by omega⟩, lI_neg, lI_mul]
      have ev2 : -al * pS n w h i + 1000 * lk n A h v i = 1000 * lk n A h v i - al * pS n w h i := by
        rw [Int.neg_mul]; omega
      rw [if_pos ((lg_cmp_le _ _).mpr ((lI_le ⟨by omega, by omega⟩ ⟨by omega, by omega⟩).mpr q)), if_pos (show decide (pS n w h i + w v ≤ hi i) = true by simp [q]), ev, s_rs127 g hA hr hk hh hv hi', ev2]
      unfold J_Re_stream_177
      rw [nI_1]
      cases S with
      | none =>
        have hp : a = -1 := hp
        rw [if_pos (show a < 0 by rw [hp]; decide)]
        exact ⟨(_, _), rfl, rfl, rfl, hi'⟩
      | some u =>
        obtain ⟨c1, c2, c3⟩ := hp
        dsimp only at c1 c2
        have vr2 := val_r (p := u) g (h := h) h0 h1 hv
        rw [c1, c2, if_neg (nI_pos (by omega))]
        dsimp only
        by_cases z : 1000 * lk n A h v u - al * pS n w h u < 1000 * lk n A h v i - al * pS n w h i
        · rw [if_pos z, if_pos ((lg_cmp_gt _ _).mpr ((lI_lt vr2 vr).mpr z))]
          exact ⟨(_, _), rfl, rfl, rfl, hi'⟩
        · rw [if_neg z, if_neg (fun y => z ((lI_lt vr2 vr).mp ((lg_cmp_gt _ _).mp y)))]
          exact ⟨(_, _), rfl, rfl, rfl, c3⟩
    · rw [if_neg (fun y => q ((lI_le ⟨by omega, by omega⟩ ⟨by omega, by omega⟩).mp ((lg_cmp_le _ _).mp y))), if_neg (show ¬ decide (pS n w h i + w v ≤ hi i) = true by simp [q]), nI_1]
      exact ⟨(a, c), rfl, hp⟩) k 0 64 (-1, 0) (by omega) (by omega) rfl
  obtain ⟨a, c⟩ := s'
  have e : L_Re_stream_73 (iI al) (nI n) (nI k) ar most wt K 64 x3 (nI v) (-1) (0 : Int64) 0 lv (nI n) (nI b) above LA LI LN LW od row = L_Re_stream_73 (iI al) (nI n) (nI k) ar most wt K (f' + 1) x3 (nI v) a c (nI k) lv (nI n) (nI b) above LA LI LN LW od row := e
  rw [e, L_Re_stream_73, if_pos (nI_le (Nat.le_refl k) (by omega))]
  unfold J_Re_stream_207 stP
  generalize fo (stS k (fun p => decide (pS n w h p + w v ≤ hi p)) (fun p => 1000 * lk n A h v p - al * pS n w h p)) k none = S at hP ⊢
  cases S with
  | none =>
    have hP : a = -1 := hP
    rw [if_neg (show ¬ 0 ≤ a by rw [hP]; decide), s_rs218 g hL hr hB hh]
    unfold J_Re_stream_253
    rw [ckn (by omega) (by decide), nI_clamp (by omega)]
  | some u =>
    have hu : u < k := hP.2.2
    have hP : a = nI u := hP.1
    rw [hP, if_pos (nI_pos' (by omega))]
    unfold J_Re_stream_253
    rw [ckn (by omega) (by decide), nI_clamp (by omega)]
