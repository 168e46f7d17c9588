/-! THE SEARCH: all splits in order, the first best one -/
def up1 (n k : Nat) (w : Nat → Int) (A : Nat → Nat → Int) (lo hi : Nat → Int) (h : Nat → Int) (b : Option (Nat → Int)) : Option (Nat → Int) := match b with
  | none => some h
  | some g => if btr n k w A lo hi h g = true then some h else some g
def tr (n k : Nat) (w : Nat → Int) (A : Nat → Nat → Int) (lo hi : Nat → Int) : Nat → (Nat → Int) → Option (Nat → Int) → Option (Nat → Int)
  | 0, h, b => up1 n k w A lo hi h b
  | r + 1, h, b => fo (fun p b => tr n k w A lo hi r (hs h (n - (r + 1)) (p : Int)) b) k b
def abv (k : Nat) (hi : Nat → Int) (v : Nat) (w h : Nat → Int) : Nat → Int := sI (fun p => max 0 (pS v w h p - hi p))
def blw (lo : Nat → Int) (v : Nat) (w h : Nat → Int) : Nat → Int := sI (fun p => max 0 (lo p - pS v w h p))
def flo (n k : Nat) (w lo hi : Nat → Int) (v : Nat) (h : Nat → Int) : Int := abv k hi v w h k + max 0 (blw lo v w h k - (sI w n - sI w v))
theorem pS_in {v : Nat} {w h : Nat → Int} {x p : Int} : pS (v + 1) w (hs h v x) p = pS v w h p + (if x = p then w v else 0) := by
  unfold pS
  rw [sI_s, sI_out (F := fun i y => if y = p then w i else 0) v (Nat.le_refl v), hs_s]
theorem cut_in {v : Nat} {A : Nat → Nat → Int} {h : Nat → Int} {x : Int} : cutI (v + 1) A (hs h v x) = cutI v A h + sI (fun c => if x = h c then 0 else A v c) v := by
  unfold cutI
  rw [sI_s]
  have e1 : sI (fun a => sI (fun b => if hs h v x a = hs h v x b then 0 else A a b) a) v = sI (fun a => sI (fun b => if h a = h b then 0 else A a b) a) v := sI_congr (fun a ha => by
    refine sI_congr (fun b hb => ?_)
    rw [hs_n (by omega), hs_n (by omega)])
  have e2 : sI (fun b => if hs h v x v = hs h v x b then 0 else A v b) v = sI (fun c => if x = h c then 0 else A v c) v := sI_congr (fun b hb => by rw [hs_s, hs_n (by omega)])
  rw [e1, e2]
theorem flo_end {n k : Nat} {w lo hi h : Nat → Int} (hB : BOK k lo hi) : flo n k w lo hi n h = overI n k w lo hi h := by
  unfold flo abv blw overI
  rw [Int.sub_self, Int.sub_zero]
  have h0 : 0 ≤ sI (fun p => max 0 (lo p - pS n w h p)) k := sI_nn (fun i _ => by omega)
  rw [show max 0 (sI (fun p => max 0 (lo p - pS n w h p)) k) = sI (fun p => max 0 (lo p - pS n w h p)) k by omega, ← sI_add]
  refine sI_congr (fun p hp => ?_)
  have := hB.2.2 p hp
  unfold miss
  by_cases q1 : pS n w h p < lo p
  · rw [if_pos q1]; omega
  · rw [if_neg q1]
    by_cases q2 : hi p < pS n w h p
    · rw [if_pos q2]; omega
    · rw [if_neg q2]; omega
theorem flo_up {n k v p : Nat} {w : Nat → Int} {A : Nat → Nat → Int} {lo hi h : Nat → Int} (g : GOK n w A) (hv : v < n) (hp : p < k) : flo n k w lo hi v h ≤ flo n k w lo hi (v + 1) (hs h v (p : Int)) := by
  have hw := (g.w32 hv).1
  unfold flo abv blw
  have e1 : sI (fun q => max 0 (pS v w h q - hi q)) k ≤ sI (fun q => max 0 (pS (v + 1) w (hs h v (p : Int)) q - hi q)) k := sI_le (fun q hq => by
    rw [pS_in]
    by_cases z : (p : Int) = (q : Int)
    · rw [if_pos z]; omega
    · rw [if_neg z]; omega)
  have e2 : ∀ m, sI (fun q => max 0 (lo q - pS v w h q)) m ≤ sI (fun q => max 0 (lo q - pS (v + 1) w (hs h v (p : Int)) q)) m + (if p < m then w v else 0) := by
    intro m
    induction m with
    | zero => rw [if_neg (Nat.not_lt_zero p)]; exact Int.le_refl _
    | succ m ih =>
      rw [sI_s, sI_s, pS_in]
      by_cases z : (p : Int) = (m : Int)
      · have : ¬ p < m := by omega
        rw [if_neg this] at ih
        rw [if_pos z, if_pos (show p < m + 1 by omega)]
        omega
      · rw [if_neg z]
        by_cases z2 : p < m
        · rw [if_pos z2] at ih; rw [if_pos (show p < m + 1 by omega)]; omega
        · rw [if_neg z2] at ih; rw [if_neg (show ¬ p < m + 1 by omega)]; omega
  have e3 := e2 k
  rw [if_pos hp] at e3
  rw [sI_s w v]
  omega
theorem cut_up {n v : Nat} {w : Nat → Int} {A : Nat → Nat → Int} {h : Nat → Int} {x : Int} (g : GOK n w A) (hv : v < n) : cutI v A h ≤ cutI (v + 1) A (hs h v x) := by
  rw [cut_in]
  have := sI_nn (f := fun c => if x = h c then 0 else A v c) (n := v) (fun i hi => by
    have := g.2.2.2.1 v i hv (by omega)
    by_cases q : x = h i
    · rw [if_pos q]; exact Int.le_refl _
    · rw [if_neg q]; exact this)
  omega
def wrs (n k : Nat) (w : Nat → Int) (A : Nat → Nat → Int) (lo hi : Nat → Int) (v : Nat) (h g : Nat → Int) : Prop := overI n k w lo hi g < flo n k w lo hi v h ∨ (flo n k w lo hi v h = overI n k w lo hi g ∧ cutI n A g ≤ cutI v A h)
theorem btr_iff {n k : Nat} {w : Nat → Int} {A : Nat → Nat → Int} {lo hi h b : Nat → Int} : btr n k w A lo hi h b = true ↔ (overI n k w lo hi h < overI n k w lo hi b ∨ (overI n k w lo hi h = overI n k w lo hi b ∧ cutI n A h < cutI n A b)) := by
  unfold btr
  simp only [Bool.or_eq_true, Bool.and_eq_true, decide_eq_true_eq]
/-- nothing below a worse start is better -/
theorem tr_prune {n k : Nat} {w : Nat → Int} {A : Nat → Nat → Int} {lo hi : Nat → Int} (g : GOK n w A) (hB : BOK k lo hi) {b : Nat → Int} : ∀ r v h, v + r = n → wrs n k w A lo hi v h b → tr n k w A lo hi r h (some b) = some b := by
  intro r
  induction r with
  | zero =>
    intro v h hv hw
    have : v = n := by omega
    subst this
    show up1 _ _ _ _ _ _ _ _ = _
    unfold up1
    dsimp only
    refine if_neg (fun q => ?_)
    rw [btr_iff] at q
    unfold wrs at hw
    rw [flo_end hB] at hw
    omega
  | succ r ih =>
    intro v h hv hw
    show fo _ k (some b) = some b
    refine fo_P (P := fun t => t = some b) k rfl (fun p t hp ht => ?_)
    subst ht
    have e : n - (r + 1) = v := by omega
    rw [e]
    refine ih (v + 1) _ (by omega) ?_
    have h1 := flo_up (lo := lo) (hi := hi) (h := h) g (show v < n by omega) hp
    have h2 := cut_up (h := h) (x := (p : Int)) g (show v < n by omega)
    unfold wrs at hw ⊢
    omega
theorem mx_iI {z : Int} (h : r32 z) : mx 0 (iI z) = iI (max 0 z) := by
  unfold mx
  rw [← iI_0]
  by_cases q : 0 < z
  · rw [if_pos ((iI_lt ⟨by omega, by omega⟩ h).mpr q), show max 0 z = z by omega]
  · rw [if_neg (fun e => q ((iI_lt ⟨by omega, by omega⟩ h).mp e)), show max 0 z = 0 by omega]
theorem pS_pre {n v : Nat} {w : Nat → Int} {A : Nat → Nat → Int} (g : GOK n w A) (hv : v ≤ n) (h : Nat → Int) (p : Int) : 0 ≤ pS v w h p ∧ pS v w h p ≤ 40000 := by
  have h1 := sI_part (f := w) (g := fun j => if h j = p then w j else 0) (n := v) (fun j hj => by have := g.2.1 j (by omega); omega) (fun j hj => by by_cases q : h j = p <;> simp [q])
  have h2 : sI w v ≤ sI w n := by
    have : ∀ d, sI w v ≤ sI w (v + d) ∨ n < v + d := by
      intro d
      induction d with
      | zero => exact Or.inl (Int.le_refl _)
      | succ d ih =>
        by_cases z : n < v + (d + 1)
        · exact Or.inr z
        · rcases ih with e | e
          · refine Or.inl ?_
            rw [show v + (d + 1) = (v + d) + 1 by omega, sI_s]
            have := g.2.1 (v + d) (by omega)
            omega
          · omega
    rcases this (n - v) with e | e
    · rwa [show v + (n - v) = n by omega] at e
    · omega
  exact ⟨h1.1, by have := g.2.2.1; have := h1.2; unfold pS; omega⟩
theorem sw_pre {n v : Nat} {w : Nat → Int} {A : Nat → Nat → Int} (g : GOK n w A) (hv : v ≤ n) : 0 ≤ sI w v ∧ sI w v ≤ 40000 := by
  have := pS_pre g hv (fun _ => 0) 0
  unfold pS at this
  have e : sI (fun i => if (fun _ : Nat => (0 : Int)) i = 0 then w i else 0) v = sI w v := sI_congr (fun i _ => if_pos rfl)
  rw [e] at this
  exact this
theorem flo_bnd {n k v : Nat} {w : Nat → Int} {A : Nat → Nat → Int} {lo hi h : Nat → Int} (g : GOK n w A) (hB : BOK k lo hi) (hv : v ≤ n) : (0 ≤ flo n k w lo hi v h ∧ flo n k w lo hi v h ≤ 9000000) := by
  have h1 := sI_bnd (f := fun p => max 0 (pS v w h p - hi p)) (n := k) (c := 40000) (fun p hp => by have := pS_pre g hv h p; have := hB.2.2 p hp; omega)
  have h2 := sI_bnd (f := fun p => max 0 (lo p - pS v w h p)) (n := k) (c := 1000000) (fun p hp => by have := pS_pre g hv h p; have := hB.2.2 p hp; omega)
  have h3 := sw_pre g hv
  have h4 := sw_pre g (Nat.le_refl n)
  have := hB.2.1
  unfold flo abv blw
  omega
theorem s_leastOver {n k v : Nat} {w : Nat → Int} {A : Nat → Nat → Int} {lo hi h : Nat → Int} {sum least most : Nat → Int32} (g : GOK n w A) (hB : BOK k lo hi) (hb : RB k lo hi least most) (hv : v ≤ n) (hs1 : ∀ p : Nat, p < 4 → sum p = iI (pS v w h p)) : f_Se_leastOver (iI (sI w n - sI w v)) sum (nI k) least most = some (iI (flo n k w lo hi v h)) := by
  have hk := hB.2.1
  obtain ⟨f', e⟩ := loopS (fun f i (s : Int32 × Int32) => L_Se_leastOver_8 (iI (sI w n - sI w v)) sum (nI k) least most f s.1 s.2 (nI i)) k (fun i => (iI (blw lo v w h i), iI (abv k hi v w h i))) (by
    intro f i hi'
    show L_Se_leastOver_8 _ _ _ _ _ (f + 1) _ _ (nI i) = _
    have hps := pS_pre g hv h i
    have hb1 := hB.2.2 i hi'
    rw [L_Se_leastOver_8, if_neg (nI_ge hi' (by omega)), ckn (by omega) (by decide), ckn (by omega) (by decide), ckn (by omega) (by decide), ckn (by omega) (by decide), nI_clamp (by omega), hs1 i (by omega), (hb i hi').1, (hb i hi').2, iI_sub, iI_sub, mx_iI ⟨by omega, by omega⟩, mx_iI ⟨by omega, by omega⟩, iI_add, iI_add, nI_1]
    rfl) k 0 64 (by omega) (by omega)
  unfold f_Se_leastOver
  have e : L_Se_leastOver_8 (iI (sI w n - sI w v)) sum (nI k) least most 64 0 0 0 = _ := e
  rw [e]
  show L_Se_leastOver_8 _ _ _ _ _ (f' + 1) _ _ (nI k) = _
  rw [L_Se_leastOver_8, if_pos (nI_le (Nat.le_refl k) (by omega))]
  unfold J_Se_leastOver_69
  have h2 := sI_bnd (f := fun p => max 0 (lo p - pS v w h p)) (n := k) (c := 1000000) (fun p hp => by have := pS_pre g hv h p; have := hB.2.2 p hp; omega)
  have h3 := sw_pre g hv
  have h4 := sw_pre g (Nat.le_refl n)
  show some (iI (abv k hi v w h k) + mx 0 (iI (blw lo v w h k) - iI (sI w n - sI w v))) = _
  rw [iI_sub, mx_iI (by unfold blw r32; omega), iI_add]
  rfl
theorem s_cutBehind {n k v p : Nat} {w : Nat → Int} {A : Nat → Nat → Int} {h : Nat → Int} {tried wt ar : Nat → Int32} (g : GOK n w A) (hC : CG n w A wt ar) (hk : k ≤ 4) (hr : RW v h tried) (hh : HK v k h) (hv : v < n) (hp : p < k) : f_Se_cutBehind (nI v) (upd tried v (nI p)) ar = some (iI (sI (fun c => if (p : Int) = h c then 0 else A v c) v)) := by
  have hn := g.1
  obtain ⟨f', e⟩ := loopS (fun f i s => L_Se_cutBehind_5 (nI v) (upd tried v (nI p)) ar f s (nI i)) v (fun i => iI (sI (fun c => if (p : Int) = h c then 0 else A v c) i)) (by
    intro f i hi
    show L_Se_cutBehind_5 _ _ _ (f + 1) _ (nI i) = _
    have h1 := hh i hi
    rw [L_Se_cutBehind_5, if_neg (nI_ge hi (by omega)), ckn (by omega) (by decide), ckn (by omega) (by decide), nI_clamp (by omega), nI_clamp (by omega), pk_us, pk_un (by omega), hr i hi, sI_s, ← iI_add _ (if (p : Int) = h i then 0 else A v i), nI_1]
    by_cases q : (p : Int) = h i
    · rw [if_pos (by rw [← q, nI_iI]), if_pos q, iI_0, Int32.add_zero]
    · rw [if_neg (fun e => q (by rw [nI_iI] at e; exact ((iI_eq ⟨by omega, by omega⟩ ⟨by omega, by omega⟩).mp e).symm)), if_neg q, s_garc (by omega) (by omega), Option.bind_some, hC.2 v i hv (by omega)]) v 0 64 (by omega) (by omega)
  unfold f_Se_cutBehind
  have e : L_Se_cutBehind_5 (nI v) (upd tried v (nI p)) ar 64 0 0 = _ := e
  rw [e]
  show L_Se_cutBehind_5 _ _ _ (f' + 1) _ (nI v) = _
  rw [L_Se_cutBehind_5, if_pos (nI_le (Nat.le_refl v) (by omega))]
