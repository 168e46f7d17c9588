/-! GROWING -/
def hvS (w h : Nat → Int) (i : Nat) (s : Option Nat) : Option Nat := if h i = -1 then (match s with | none => some i | some j => if w j < w i then some i else some j) else s
def heav (n : Nat) (w h : Nat → Int) : Option Nat := fo (hvS w h) n none
def rmS (val : Nat → Int) (i b : Nat) : Nat := if val b < val (i + 1) then i + 1 else b
def room (k : Nat) (val : Nat → Int) : Nat := fo (rmS val) (k - 1) 0
def gwS (n k : Nat) (w hi : Nat → Int) (_ : Nat) (h : Nat → Int) : Nat → Int := match heav n w h with
  | none => h
  | some j => hs h j (room k (fun p => hi p - pS n w h p))
def grown (n k : Nat) (w hi : Nat → Int) : Nat → Int := fo (gwS n k w hi) n (fun _ => -1)
theorem heav_ok {n : Nat} {w h : Nat → Int} : ∀ m, m ≤ n → ∀ j, fo (hvS w h) m none = some j → j < n ∧ h j = -1 := by
  intro m
  induction m with
  | zero => intro _ j e; cases e
  | succ m ih =>
    intro hm j e
    rw [fo_s] at e
    unfold hvS at e
    by_cases q : h m = -1
    · rw [if_pos q] at e
      cases hq : fo (hvS w h) m none with
      | none =>
        unfold hvS at hq
        rw [hq] at e
        cases e
        exact ⟨by omega, q⟩
      | some u =>
        have := ih (by omega) u hq
        unfold hvS at hq
        rw [hq] at e
        dsimp only at e
        by_cases z : w u < w m
        · rw [if_pos z] at e; cases e; exact ⟨by omega, q⟩
        · rw [if_neg z] at e; cases e; exact this
    · rw [if_neg q] at e
      exact ih (by omega) j e
theorem heav_some {w h : Nat → Int} {i : Nat} (hi : h i = -1) : ∀ m, i < m → ∃ j, fo (hvS w h) m none = some j := by
  intro m
  induction m with
  | zero => intro q; omega
  | succ m ih =>
    intro q
    rw [fo_s]
    unfold hvS
    by_cases z : h m = -1
    · rw [if_pos z]
      cases hq : fo (hvS w h) m none with
      | none => unfold hvS at hq; rw [hq]; exact ⟨_, rfl⟩
      | some u =>
        unfold hvS at hq
        rw [hq]
        dsimp only
        by_cases y : w u < w m
        · rw [if_pos y]; exact ⟨_, rfl⟩
        · rw [if_neg y]; exact ⟨_, rfl⟩
    · rw [if_neg z]
      have him : i < m := by
        by_cases y : i = m
        · subst y; exact absurd hi z
        · omega
      obtain ⟨j, e⟩ := ih him
      exact ⟨j, e⟩
theorem room_ok {val : Nat → Int} : ∀ m, fo (rmS val) m 0 ≤ m := by
  intro m
  induction m with
  | zero => exact Nat.le_refl 0
  | succ m ih =>
    rw [fo_s]
    unfold rmS
    by_cases q : val (fo (rmS val) m 0) < val (m + 1)
    · unfold rmS at q; rw [if_pos q]; exact Nat.le_refl _
    · unfold rmS at q; rw [if_neg q]; unfold rmS at ih; omega
/-- as many are out as have not been placed -/
theorem cnt_hs {n v : Nat} {h : Nat → Int} {x : Int} (hv : v < n) (hx : x ≠ -1) (ho : h v = -1) : pS n (fun _ => 1) (hs h v x) (-1) = pS n (fun _ => 1) h (-1) - 1 := by
  rw [pS_hs hv, if_pos ho, if_neg hx]; omega
theorem cnt_ex {n : Nat} {h : Nat → Int} : 0 < pS n (fun _ => 1) h (-1) → ∃ i, i < n ∧ h i = -1 := by
  unfold pS
  induction n with
  | zero => intro q; simp [sI] at q
  | succ n ih =>
    intro q
    rw [sI_s] at q
    by_cases z : h n = -1
    · exact ⟨n, by omega, z⟩
    · rw [if_neg z] at q
      obtain ⟨i, a, b⟩ := ih (by omega)
      exact ⟨i, by omega, b⟩
def GWI (n k : Nat) (h : Nat → Int) (i : Nat) : Prop := HOK n k h ∧ pS n (fun _ => 1) h (-1) = n - i
theorem gw_step {n k : Nat} {w hi h : Nat → Int} {i : Nat} (hk : 2 ≤ k) (hi' : i < n) (hg : GWI n k h i) : ∃ j, heav n w h = some j ∧ j < n ∧ h j = -1 ∧ room k (fun p => hi p - pS n w h p) < k ∧ gwS n k w hi i h = hs h j (room k (fun p => hi p - pS n w h p)) ∧ GWI n k (hs h j (room k (fun p => hi p - pS n w h p))) (i + 1) := by
  obtain ⟨u, hu, hu2⟩ := cnt_ex (n := n) (h := h) (by rw [hg.2]; omega)
  obtain ⟨j, e⟩ := heav_some (w := w) hu2 n hu
  have hj := heav_ok n (Nat.le_refl n) j e
  have hr := room_ok (val := fun p => hi p - pS n w h p) (k - 1)
  have hr2 : room k (fun p => hi p - pS n w h p) < k := by unfold room; omega
  refine ⟨j, e, hj.1, hj.2, hr2, ?_, ?_, ?_⟩
  · unfold gwS
    have e2 : heav n w h = some j := e
    rw [e2]
  · intro a ha
    by_cases q : a = j
    · subst q; rw [hs_s]; omega
    · rw [hs_n q]; exact hg.1 a ha
  · rw [cnt_hs hj.1 (by omega) hj.2, hg.2]; omega
theorem gw_start {n k : Nat} : GWI n k (fun _ => -1) 0 := by
  refine ⟨fun a ha => ⟨show (-1 : Int) ≤ -1 by omega, show (-1 : Int) < k by omega⟩, ?_⟩
  unfold pS
  have : sI (fun _ => if (-1 : Int) = -1 then (1 : Int) else 0) n = n := by
    rw [sI_congr (g := fun _ => 1) (fun i hi => by rw [if_pos rfl]), sI_const]; omega
  rw [this]; omega
theorem gw_all {n k : Nat} {w hi : Nat → Int} (hk : 2 ≤ k) : ∀ i, i ≤ n → GWI n k (fo (gwS n k w hi) i (fun _ => -1)) i := by
  intro i
  induction i with
  | zero => intro _; exact gw_start
  | succ i ih =>
    intro hi'
    rw [fo_s]
    obtain ⟨j, _, _, _, _, e2, h2⟩ := gw_step (w := w) (hi := hi) hk (show i < n by omega) (ih (by omega))
    rw [e2]; exact h2
theorem cnt_none {n : Nat} {h : Nat → Int} : pS n (fun _ => 1) h (-1) = 0 → ∀ i, i < n → h i ≠ -1 := by
  intro q i hi e
  have h1 := sI_mem (f := fun j => if h j = -1 then (1 : Int) else 0) (n := n) (fun j hj => by by_cases z : h j = -1 <;> simp [z]) hi
  have h2 : pS n (fun _ => 1) h (-1) = sI (fun j => if h j = -1 then (1 : Int) else 0) n := rfl
  rw [if_pos e, ← h2, q] at h1
  omega
theorem grown_HK {n k : Nat} {w hi : Nat → Int} (hk : 2 ≤ k) : HK n k (grown n k w hi) := by
  have h1 := gw_all (w := w) (hi := hi) hk n (Nat.le_refl n)
  intro i hi'
  have h2 := h1.1 i hi'
  have h3 := cnt_none (by rw [h1.2]; omega) i hi'
  unfold grown
  omega
theorem s_heav {n k : Nat} {w : Nat → Int} {A : Nat → Nat → Int} {h : Nat → Int} {wt ar home : Nat → Int32} (g : GOK n w A) (hC : CG n w A wt ar) (hr : RW n h home) (hk : k ≤ 4) (hh : HOK n k h) {j : Nat} (hj : heav n w h = some j) : f_Sp_heaviestOutside (nI n) wt home = some (nI j) := by
  have hn := g.1
  obtain ⟨f', s', e, hP⟩ := loopP (fun f i (s : Int32 × Int32) => L_Sp_heaviestOutside_6 (nI n) wt home f s.1 s.2 (nI i)) n (fun i s => match fo (hvS w h) i none with | none => s = (0, 0) | some j => s = (nI j, iI (w j)) ∧ j < n) (by
    intro f i s hi hp
    obtain ⟨a, b⟩ := s
    have hw := g.w32 hi
    have hhi := hh i hi
    show ∃ s', L_Sp_heaviestOutside_6 _ _ _ (f + 1) a b (nI i) = _ ∧ _
    rw [L_Sp_heaviestOutside_6, if_neg (nI_ge hi (by omega)), ckn (by omega) (by decide), nI_clamp (by omega), hr i hi, nI_1, fo_s]
    generalize fo (hvS w h) i none = S at hp ⊢
    unfold hvS
    by_cases q : h i = -1
    · rw [if_pos (show iI (h i) = -1 by rw [q]; rfl), if_pos q, ckn (by omega) (by decide), ckn (by omega) (by decide), hC.1 i hi]
      cases S with
      | none =>
        cases hp
        rw [if_neg (show ¬ iI (w i) ≤ 0 from fun z => absurd ((iI_le (a := w i) (b := 0) ⟨by omega, by omega⟩ ⟨by omega, by omega⟩).mp z) (by omega))]
        exact ⟨(nI i, iI (w i)), rfl, rfl, hi⟩
      | some u =>
        obtain ⟨e1, hu⟩ := hp
        cases e1
        have hwu := g.w32 hu
        dsimp only
        by_cases z : w u < w i
        · rw [if_pos z, if_neg (fun y => absurd ((iI_le ⟨by omega, by omega⟩ ⟨by omega, by omega⟩).mp y) (by omega))]
          exact ⟨(nI i, iI (w i)), rfl, rfl, hi⟩
        · rw [if_neg z, if_pos ((iI_le ⟨by omega, by omega⟩ ⟨by omega, by omega⟩).mpr (by omega))]
          exact ⟨(nI u, iI (w u)), rfl, rfl, hu⟩
    · rw [if_neg (show ¬ iI (h i) = -1 from fun z => q ((iI_eq (b := -1) ⟨by omega, by omega⟩ ⟨by omega, by omega⟩).mp z)), if_neg q]
      exact ⟨(a, b), rfl, hp⟩) n 0 64 (0, 0) (by omega) (by omega) rfl
  obtain ⟨a, b⟩ := s'
  have hj2 : fo (hvS w h) n none = some j := hj
  rw [hj2] at hP
  obtain ⟨e1, hu⟩ := hP
  cases e1
  have e : L_Sp_heaviestOutside_6 (nI n) wt home 64 0 0 0 = L_Sp_heaviestOutside_6 (nI n) wt home (f' + 1) (nI j) (iI (w j)) (nI n) := e
  unfold f_Sp_heaviestOutside
  rw [e, L_Sp_heaviestOutside_6, if_pos (nI_le (Nat.le_refl n) (by omega))]
theorem s_room {n k : Nat} {w : Nat → Int} {A : Nat → Nat → Int} {h lo hi : Nat → Int} {most least sum : Nat → Int32} (g : GOK n w A) (hB : BOK k lo hi) (hb : RB k lo hi least most) (hs : ∀ p : Nat, p < 4 → sum p = iI (pS n w h p)) : f_Sp_roomiestPart (nI k) most sum = some (nI (room k (fun p => hi p - pS n w h p))) := by
  have hk1 := hB.1
  have hk := hB.2.1
  obtain ⟨f', e⟩ := loopS (fun f i (s : Int32) => L_Sp_roomiestPart_4 (nI k) most sum f s (nI (i + 1))) (k - 1) (fun i => nI (fo (rmS (fun p => hi p - pS n w h p)) i 0)) (by
    intro f i hi'
    show L_Sp_roomiestPart_4 _ _ _ (f + 1) _ (nI (i + 1)) = _
    have hr := room_ok (val := fun p => hi p - pS n w h p) i
    rw [fo_s]
    generalize fo (rmS (fun p => hi p - pS n w h p)) i 0 = b at hr ⊢
    have hb1 := hB.2.2 b (by omega)
    have hb2 := hB.2.2 (i + 1) (by omega)
    have p1 := g.ps h b
    have p2 := g.ps h (i + 1 : Nat)
    rw [L_Sp_roomiestPart_4, if_neg (nI_ge (by omega) (by omega)), ckn (by omega) (by decide), ckn (by omega) (by decide), ckn (by omega) (by decide), ckn (by omega) (by decide), nI_clamp (by omega), nI_clamp (show b < 2 ^ 31 by omega), (hb b (by omega)).2, (hb (i + 1) (by omega)).2, hs b (by omega), hs (i + 1) (by omega), iI_sub, iI_sub, nI_1]
    unfold rmS
    by_cases z : hi b - pS n w h b < hi (i + 1) - pS n w h (i + 1 : Nat)
    · rw [if_neg (fun y => absurd ((iI_le ⟨by omega, by omega⟩ ⟨by omega, by omega⟩).mp y) (by omega)), if_pos z]
    · rw [if_pos ((iI_le ⟨by omega, by omega⟩ ⟨by omega, by omega⟩).mpr (by omega)), if_neg z]) (k - 1) 0 64 (by omega) (by omega)
  have e : L_Sp_roomiestPart_4 (nI k) most sum 64 0 1 = L_Sp_roomiestPart_4 (nI k) most sum (f' + 1) (nI (fo (rmS (fun p => hi p - pS n w h p)) (k - 1) 0)) (nI (k - 1 + 1)) := e
  unfold f_Sp_roomiestPart
  rw [e, L_Sp_roomiestPart_4, if_pos (nI_le (by omega) (by omega))]
  rfl
theorem s_place {n v p : Nat} {w : Nat → Int} {A : Nat → Nat → Int} {wt ar home sum : Nat → Int32} (hn : n ≤ 40) (hC : CG n w A wt ar) (hv : v < n) (hp : p < 4) : f_Sp_place (nI v) (nI p) wt home sum = some (upd home v (nI p), upd sum p (sum p + iI (w v))) := by
  unfold f_Sp_place
  rw [ckn (by omega) (by decide), ckn (by omega) (by decide), ckn (by omega) (by decide), ckn (by omega) (by decide), nI_clamp (by omega), nI_clamp (by omega), hC.1 v hv]
theorem place_sum {n v p : Nat} {w h : Nat → Int} {sum : Nat → Int32} (hv : v < n) (ho : h v = -1) (hs1 : ∀ p : Nat, p < 4 → sum p = iI (pS n w h p)) (hp : p < 4) : ∀ t : Nat, t < 4 → upd sum p (sum p + iI (w v)) t = iI (pS n w (hs h v p) t) := by
  intro t ht
  rw [pS_hs hv, ho, if_neg (by omega), Int.sub_zero]
  by_cases q : t = p
  · subst q; rw [pk_us, hs1 t ht, if_pos rfl, iI_add]
  · rw [pk_un q, hs1 t ht, if_neg (by omega), Int.add_zero]
theorem s_growAll {n k : Nat} {w : Nat → Int} {A : Nat → Nat → Int} {lo hi : Nat → Int} {wt ar most least : Nat → Int32} (g : GOK n w A) (hC : CG n w A wt ar) (hB : BOK k lo hi) (hb : RB k lo hi least most) : ∃ home sum, f_Sp_growAll (nI k) most (nI n) wt = some (home, sum) ∧ RW n (grown n k w hi) home := by
  have hn := g.1
  have hk1 := hB.1
  have hk := hB.2.1
  obtain ⟨f', s', e, hP⟩ := loopP (fun f i (s : (Nat → Int32) × (Nat → Int32)) => L_Sp_growAll_6 (nI k) most (nI n) wt f (nI i) s.1 s.2) n (fun i s => RW n (fo (gwS n k w hi) i (fun _ => -1)) s.1 ∧ ∀ p : Nat, p < 4 → s.2 p = iI (pS n w (fo (gwS n k w hi) i (fun _ => -1)) p)) (by
    intro f i s hi' hp
    obtain ⟨a, b⟩ := s
    obtain ⟨p1, p2⟩ := hp
    dsimp only at p1 p2
    have hg := gw_all (n := n) (w := w) (hi := hi) hk1 i (by omega)
    rw [fo_s]
    generalize fo (gwS n k w hi) i (fun _ => -1) = h at hg p1 p2 ⊢
    obtain ⟨j, ej, hj, ho, hroom, e2, h2⟩ := gw_step (w := w) (hi := hi) hk1 hi' hg
    show ∃ s', L_Sp_growAll_6 _ _ _ _ (f + 1) (nI i) a b = _ ∧ _
    rw [L_Sp_growAll_6, if_neg (nI_ge hi' (by omega)), s_heav g hC p1 hk hg.1 ej, Option.bind_some, s_room g hB hb p2, Option.bind_some, s_place hn hC hj (by omega), Option.bind_some, nI_1, e2]
    refine ⟨(_, _), rfl, ?_, place_sum hj ho p2 (by omega)⟩
    have := p1.hs j (room k (fun p => hi p - pS n w h p) : Nat)
    rw [← nI_iI] at this
    exact this) n 0 64 (fun _ => -1, fun _ => 0) (by omega) (by omega) ⟨fun i hi' => rfl, fun p hp => by
      show (0 : Int32) = _
      have : pS n w (fun _ => -1) p = 0 := by
        unfold pS
        rw [sI_congr (g := fun _ => 0) (fun i hi' => if_neg (show ¬ (-1 : Int) = p by omega)), sI_zero]
      show 0 = iI (pS n w (fun _ => -1) p)
      rw [this]; rfl⟩
  obtain ⟨a, b⟩ := s'
  unfold f_Sp_growAll f_Sp_takeAllOut
  rw [Option.bind_some]
  have e : L_Sp_growAll_6 (nI k) most (nI n) wt 64 0 (fun _ => -1) (fun _ => 0) = L_Sp_growAll_6 (nI k) most (nI n) wt (f' + 1) (nI n) a b := e
  rw [e, L_Sp_growAll_6, if_pos (nI_le (Nat.le_refl n) (by omega))]
  exact ⟨a, b, rfl, hP.1⟩
