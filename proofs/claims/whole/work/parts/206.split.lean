/-- what a class's split has counted -/
def SP (n k : Nat) (w : Nat → Int) (A : Nat → Nat → Int) (lo hi h : Nat → Int) (sum link : Nat → Int32) (cut over : Int32) : Prop := (∀ p : Nat, p < 4 → sum p = iI (pS n w h p)) ∧ (∀ i p : Nat, i < n → p < 4 → link (i * 4 + p) = iI (lk n A h i p)) ∧ cut = iI (cutI n A h) ∧ over = iI (overI n k w lo hi h)
theorem s_recount {n k : Nat} {w : Nat → Int} {A : Nat → Nat → Int} {h lo hi : Nat → Int} {wt ar home least most : Nat → Int32} (g : GOK n w A) (hC : CG n w A wt ar) (hr : RW n h home) (hB : BOK k lo hi) (hb : RB k lo hi least most) (hh : ∀ i, i < n → 0 ≤ h i ∧ h i < k) : ∃ link sum cut over, f_Sp_recount (nI k) least most (nI n) ar wt home = some (cut, over, link, sum) ∧ SP n k w A lo hi h sum link cut over := by
  have hn := g.1
  have hk := hB.2.1
  obtain ⟨f', s', e, hP⟩ := loopP (fun f i (s : Int32 × (Nat → Int32) × (Nat → Int32)) => L_Sp_recount_23 (nI k) least most (nI n) ar wt home f (nI i) s.1 s.2.1 s.2.2) n (fun i s => s.1 = iI (sI (fun a => sI (fun c => if h a = h c then 0 else A a c) a) i) ∧ (∀ a p : Nat, a < i → p < 4 → s.2.1 (a * 4 + p) = iI (lk n A h a p)) ∧ (∀ j, i * 4 ≤ j → s.2.1 j = 0) ∧ ∀ p : Nat, p < 4 → s.2.2 p = iI (sI (fun j => if h j = (p : Int) then w j else 0) i)) (by
    intro f i s hi hs
    obtain ⟨c, l, u⟩ := s
    obtain ⟨hc, hl, ho, hu⟩ := hs
    dsimp only at hc hl ho hu
    have hhi := hh i hi
    obtain ⟨q, hq, eq, en⟩ := iI_pn (p := 4) hhi.1 (by omega)
    show ∃ s', L_Sp_recount_23 _ _ _ _ _ _ _ (f + 1) (nI i) c l u = _ ∧ _
    obtain ⟨l2, e2, hl2, ho2⟩ := s_recountLinks (z := sI (fun a => sI (fun c => if h a = h c then 0 else A a c) a) i) (link := l) g hC hr hk hh hi (fun p hp => ho _ (by omega))
    rw [L_Sp_recount_23, if_neg (nI_ge hi (by omega)), ckn (by omega) (by decide), nI_clamp (by omega), hr i hi, en, ckn (by omega) (by decide), ckn (by omega) (by decide), ckn (by omega) (by decide), nI_clamp (show q < 2 ^ 31 by omega), hc, e2, Option.bind_some, nI_1, hC.1 i hi]
    refine ⟨(_, l2, _), rfl, rfl, ?_, ?_, ?_⟩
    · intro a p ha hp
      by_cases qa : a = i
      · subst qa; exact hl2 p hp
      · show l2 (a * 4 + p) = _
        rw [ho2 _ (by omega)]; exact hl a p (by omega) hp
    · intro j hj
      show l2 j = 0
      rw [ho2 _ (by omega)]; exact ho j (by omega)
    · intro p hp
      show upd u q (u q + iI (w i)) p = _
      rw [sI_s]
      by_cases qp : p = q
      · subst qp; rw [pk_us, hu p hp, if_pos eq, iI_add]
      · rw [pk_un qp, hu p hp, if_neg (by omega), Int.add_zero]) n 0 64 (0, fun _ => 0, fun _ => 0) (by omega) (by omega) ⟨rfl, fun a p ha _ => absurd ha (Nat.not_lt_zero a), fun j _ => rfl, fun p hp => rfl⟩
  obtain ⟨c, l, u⟩ := s'
  obtain ⟨hc, hl, ho, hu⟩ := hP
  dsimp only at hc hl ho hu
  obtain ⟨f2, e2⟩ := loopS (fun f i s => L_Sp_recount_75 (nI k) least most f (nI i) c s l u) k (fun i => iI (sI (fun p => miss lo hi p (pS n w h p)) i)) (by
    intro f i hi'
    show L_Sp_recount_75 _ _ _ (f + 1) (nI i) _ _ _ _ = _
    have hps := g.ps h i
    have hu1 : u i = iI (pS n w h i) := hu i (by omega)
    rw [L_Sp_recount_75, if_neg (nI_ge hi' (by omega)), ckn (by omega) (by decide), nI_clamp (by omega), hu1, s_miss hB hb hi' ⟨by omega, by omega⟩, Option.bind_some, sI_s, iI_add, nI_1]) k 0 64 (by omega) (by omega)
  refine ⟨l, u, c, iI (overI n k w lo hi h), ?_, hu, hl, hc, rfl⟩
  unfold f_Sp_recount
  have e : L_Sp_recount_23 (nI k) least most (nI n) ar wt home 64 0 0 (fun _ => 0) (fun _ => 0) = _ := e
  rw [e]
  show L_Sp_recount_23 _ _ _ _ _ _ _ (f' + 1) (nI n) c l u = _
  rw [L_Sp_recount_23, if_pos (nI_le (Nat.le_refl n) (by omega))]
  have e2 : L_Sp_recount_75 (nI k) least most 64 0 c 0 l u = _ := e2
  rw [e2]
  show L_Sp_recount_75 _ _ _ (f2 + 1) (nI k) _ _ _ _ = _
  rw [L_Sp_recount_75, if_pos (nI_le (Nat.le_refl k) (by omega))]
  rfl
theorem s_gainOf {n k v p : Nat} {w : Nat → Int} {A : Nat → Nat → Int} {h lo hi : Nat → Int} {home sum link : Nat → Int32} {cut over : Int32} (g : GOK n w A) (hr : RW n h home) (hk : k ≤ 4) (hh : ∀ i, i < n → 0 ≤ h i ∧ h i < k) (hS : SP n k w A lo hi h sum link cut over) (hv : v < n) (hp : p < k) : f_Sp_gainOf (nI v) (nI p) home link = some (iI (lk n A h v p - lk n A h v (h v))) := by
  have hn := g.1
  have hhi := hh v hv
  obtain ⟨q, hq, eq, en⟩ := iI_pn (p := 4) hhi.1 (by omega)
  unfold f_Sp_gainOf
  rw [n4, ckn (by omega) (by decide), ckn (by omega) (by decide), nI_clamp (show v * 4 + p < 2 ^ 31 by omega), nI_clamp (show v < 2 ^ 31 by omega), hr v hv, en, n4, ckn (by omega) (by decide), nI_clamp (by omega), hS.2.1 v p hv (by omega), hS.2.1 v q hv hq, iI_sub, eq]
theorem s_overBehind {n k v p : Nat} {w : Nat → Int} {A : Nat → Nat → Int} {h lo hi : Nat → Int} {wt ar home sum link least most : Nat → Int32} {cut over : Int32} (g : GOK n w A) (hC : CG n w A wt ar) (hr : RW n h home) (hB : BOK k lo hi) (hb : RB k lo hi least most) (hh : ∀ i, i < n → 0 ≤ h i ∧ h i < k) (hS : SP n k w A lo hi h sum link cut over) (hv : v < n) (hp : p < k) : f_Sp_overBehind (nI v) (nI p) over least most wt home sum = some (iI (overI n k w lo hi (hs h v p))) := by
  have hn := g.1
  have hk := hB.2.1
  have hhi := hh v hv
  have hwv := g.w32 hv
  obtain ⟨q, hq, eq, en⟩ := iI_pn (p := k) hhi.1 hhi.2
  have hpq := g.ps h q
  have hpp := g.ps h p
  unfold f_Sp_overBehind
  rw [ckn (by omega) (by decide), nI_clamp (by omega), hr v hv, en]
  by_cases qp : q = p
  · subst qp
    rw [if_pos rfl, hS.2.2.2]
    have : hs h v (q : Int) = h := by
      funext i
      by_cases z : i = v
      · subst z; rw [hs_s, eq]
      · rw [hs_n z]
    rw [this]
  · rw [if_neg (fun z => qp ((nI_eq (by omega) (by omega)).mp z)), ckn (by omega) (by decide), ckn (by omega) (by decide), nI_clamp (show q < 2 ^ 31 by omega), nI_clamp (show p < 2 ^ 31 by omega), hS.1 q (by omega), hS.1 p (by omega), s_miss hB hb hq ⟨by omega, by omega⟩, Option.bind_some, ckn (by omega) (by decide), s_miss hB hb hp ⟨by omega, by omega⟩, Option.bind_some, ckn (by omega) (by decide), hC.1 v hv, iI_sub, iI_add, s_miss hB hb hq ⟨by omega, by omega⟩, Option.bind_some, ckn (by omega) (by decide), s_miss hB hb hp ⟨by omega, by omega⟩, Option.bind_some, hS.2.2.2, iI_sub, iI_sub, iI_add, iI_add, over_hs hv hq hp qp eq]
