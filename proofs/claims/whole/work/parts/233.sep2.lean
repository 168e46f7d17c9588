def toP (w E : Nat → Int) (i : Nat) : Option Nat := if 0 < i ∧ 0 < E (bz E w (i - 1)) then some (bz E w (i - 1)) else none
def spS (n : Nat) (w : Nat → Int) (A : Nat → Nat → Int) (h : Nat → Int) (S : Nat → Bool) : Nat → Bool := match toP w (eS n A h S) n with
  | none => S
  | some v => hs S v true
def spF (n : Nat) (w : Nat → Int) (A : Nat → Nat → Int) (h : Nat → Int) (m : Nat) (S : Nat → Bool) : Nat → Bool := fo (fun _ S => spS n w A h S) m S
theorem toP_ok {n v : Nat} {w : Nat → Int} {A : Nat → Nat → Int} {h : Nat → Int} {S : Nat → Bool} (e : toP w (eS n A h S) n = some v) : v < n ∧ S v = false ∧ 0 < eS n A h S v := by
  unfold toP at e
  by_cases q : 0 < n ∧ 0 < eS n A h S (bz (eS n A h S) w (n - 1))
  · rw [if_pos q] at e
    have e := Option.some.inj e
    have hb := bz_le (E := eS n A h S) (w := w) (n - 1)
    rw [e] at q hb
    refine ⟨by omega, ?_, q.2⟩
    cases sv : S v with
    | false => rfl
    | true =>
      have := q.2
      unfold eS at this
      rw [if_pos sv] at this
      omega
  · rw [if_neg q] at e; cases e
def anyB (P : Nat → Bool) : Nat → Bool
  | 0 => false
  | n + 1 => anyB P n || P n
theorem anyB_iff {P : Nat → Bool} {n : Nat} : anyB P n = true ↔ ∃ u, u < n ∧ P u = true := by
  induction n with
  | zero => exact ⟨fun e => (by cases e), fun ⟨u, h, _⟩ => absurd h (Nat.not_lt_zero u)⟩
  | succ n ih =>
    show (anyB P n || P n) = true ↔ _
    rw [Bool.or_eq_true, ih]
    constructor
    · rintro (⟨u, h1, h2⟩ | h2)
      · exact ⟨u, by omega, h2⟩
      · exact ⟨n, by omega, h2⟩
    · rintro ⟨u, h1, h2⟩
      by_cases q : u = n
      · subst q; exact Or.inr h2
      · exact Or.inl ⟨u, by omega, h2⟩
def ndB (n : Nat) (A : Nat → Nat → Int) (h : Nat → Int) (S : Nat → Bool) (v : Nat) : Bool := anyB (fun u => cB A h v u && !S u) n
def rdS (n : Nat) (A : Nat → Nat → Int) (h : Nat → Int) (v : Nat) (S : Nat → Bool) : Nat → Bool := hs S v (S v && ndB n A h S v)
def rdF (n : Nat) (A : Nat → Nat → Int) (h : Nat → Int) : Nat → (Nat → Bool) → Nat → Bool
  | 0, S => S
  | m + 1, S => rdF n A h m (rdS n A h m S)
def sepF (n : Nat) (w : Nat → Int) (A : Nat → Nat → Int) (h : Nat → Int) : Nat → Bool := rdF n A h n (spF n w A h n (fun _ => false))
theorem s_isNeeded {n k v : Nat} {w : Nat → Int} {A : Nat → Nat → Int} {h : Nat → Int} {wt ar home ins : Nat → Int32} {S : Nat → Bool} (g : GOK n w A) (hC : CG n w A wt ar) (hr : RW n h home) (hk : k ≤ 4) (hh : HK n k h) (hv : v < n) (hS : FR n S ins) : f_Di_isNeeded (nI v) (nI n) ins ar home = some (if ndB n A h S v = true then 1 else 0) := by
  have hn := g.1
  have key : ∀ m i f, i + m = n → m < f → (∀ u, u < i → ¬ (cB A h v u && !S u) = true) → L_Di_isNeeded_2 (nI v) (nI n) ins ar home f (nI i) = some (if ndB n A h S v = true then 1 else 0) := by
    intro m
    induction m with
    | zero =>
      intro i f hi hf hu
      obtain ⟨f, rfl⟩ : ∃ e, f = e + 1 := ⟨f - 1, by omega⟩
      have : i = n := by omega
      subst this
      rw [L_Di_isNeeded_2, if_pos (nI_le (Nat.le_refl i) (by omega)), if_neg (fun e => by
        obtain ⟨u, h1, h2⟩ := anyB_iff.mp e
        exact hu u h1 h2)]
    | succ m ih =>
      intro i f hi hf hu
      obtain ⟨f, rfl⟩ : ∃ e, f = e + 1 := ⟨f - 1, by omega⟩
      have hin : i < n := by omega
      have next : ¬ (cB A h v i && !S i) = true → L_Di_isNeeded_2 (nI v) (nI n) ins ar home f (nI (i + 1)) = some (if ndB n A h S v = true then 1 else 0) := fun hq => ih (i + 1) f (by omega) (by omega) (fun u hu1 => by
        by_cases q : u = i
        · subst q; exact hq
        · exact hu u (by omega))
      rw [L_Di_isNeeded_2, if_neg (nI_ge hin (by omega)), ckn (by omega) (by decide), nI_clamp (by omega), hS i hin, nI_1]
      cases si : S i with
      | true =>
        rw [if_neg (show ¬ (if true = true then (1 : Int32) else 0) = 0 by decide)]
        exact next (by rw [si]; simp)
      | false =>
        rw [if_pos (show (if false = true then (1 : Int32) else 0) = 0 by decide), s_isCut g hC hr hk hh hv hin, Option.bind_some]
        by_cases q : cB A h v i = true
        · rw [if_pos q, if_neg (show ¬ (1 : Int32) = 0 by decide), if_pos (show ndB n A h S v = true from anyB_iff.mpr ⟨i, hin, by rw [q, si]; rfl⟩)]
        · rw [if_neg q, if_pos rfl]
          exact next (by simp [q])
  exact key n 0 64 (by omega) (by omega) (fun u hu => absurd hu (Nat.not_lt_zero u))
theorem nI_p1 (m : Nat) : nI (m + 1) - 1 = nI m := by rw [← nI_1, Int32.add_sub_cancel]
theorem nI_d1 (m : Nat) : nI m + (-1) = nI m - 1 := (Int32.sub_eq_add_neg ..).symm
theorem s_find63 {n k : Nat} {w : Nat → Int} {A : Nat → Nat → Int} {h : Nat → Int} {wt ar home : Nat → Int32} (g : GOK n w A) (hC : CG n w A wt ar) (hr : RW n h home) (hk : k ≤ 4) (hh : HK n k h) : ∀ m f (S : Nat → Bool) (ins opn : Nat → Int32), m ≤ n → m < f → FR n S ins → ∃ ins' opn', L_Di_find_63 ar home f (nI m - 1) (nI n) ins opn = some (nI n, ins', opn') ∧ FR n (rdF n A h m S) ins' := by
  have hn := g.1
  intro m
  induction m with
  | zero =>
    intro f S ins opn hm hf hS
    obtain ⟨f, rfl⟩ : ∃ e, f = e + 1 := ⟨f - 1, by omega⟩
    rw [L_Di_find_63, if_pos (show nI 0 - 1 < 0 by decide)]
    exact ⟨_, _, rfl, hS⟩
  | succ m ih =>
    intro f S ins opn hm hf hS
    obtain ⟨f, rfl⟩ : ∃ e, f = e + 1 := ⟨f - 1, by omega⟩
    have hmn : m < n := by omega
    rw [nI_p1, L_Di_find_63, if_neg (nI_pos (by omega)), ckn (by omega) (by decide), nI_clamp (by omega), hS m hmn, nI_d1]
    show ∃ ins' opn', _ ∧ FR n (rdF n A h m (rdS n A h m S)) ins'
    unfold rdS
    cases sm : S m with
    | false =>
      rw [if_pos (show (if false = true then (1 : Int32) else 0) = 0 by decide), ckn (by omega) (by decide)]
      exact ih f (hs S m (false && ndB n A h S m)) (upd ins m (vp_nar .boolean 0)) opn (by omega) (by omega) (FR_set hS m false)
    | true =>
      rw [if_neg (show ¬ (if true = true then (1 : Int32) else 0) = 0 by decide), s_isNeeded g hC hr hk hh hmn hS, Option.bind_some, Bool.true_and]
      cases nd : ndB n A h S m with
      | false =>
        rw [if_pos (show (if false = true then (1 : Int32) else 0) = 0 by decide), ckn (by omega) (by decide)]
        exact ih f (hs S m false) (upd ins m (vp_nar .boolean 0)) opn (by omega) (by omega) (FR_set hS m false)
      | true =>
        rw [if_neg (show ¬ (if true = true then (1 : Int32) else 0) = 0 by decide), ckn (by omega) (by decide)]
        exact ih f (hs S m true) (upd ins m (vp_nar .boolean 1)) opn (by omega) (by omega) (FR_set hS m true)
theorem s_find {n k : Nat} {w : Nat → Int} {A : Nat → Nat → Int} {h : Nat → Int} {wt ar home ins opn : Nat → Int32} (g : GOK n w A) (hC : CG n w A wt ar) (hr : RW n h home) (hk : k ≤ 4) (hh : HK n k h) : ∃ ins' opn', f_Di_find ins opn (nI n) ar wt home = some (nI n, ins', opn') ∧ FR n (sepF n w A h) ins' := by
  have hn := g.1
  obtain ⟨i1, o1, e1, h1, h2⟩ := s_dstart (ins := ins) (opn := opn) g hC hr hk hh
  unfold f_Di_find
  rw [e1, Option.bind_some]
  obtain ⟨f', s', e, hP⟩ := loopP (fun f i (s : (Nat → Int32) × (Nat → Int32)) => L_Di_find_18 ar wt home f (nI i) (nI n) s.1 s.2) n (fun i s => FR n (spF n w A h i (fun _ => false)) s.1 ∧ ∀ j, j < n → s.2 j = iI (eS n A h (spF n w A h i (fun _ => false)) j)) (by
    intro f i s hi hs'
    obtain ⟨s1, s2⟩ := s
    obtain ⟨p1, p2⟩ := hs'
    dsimp only at p1 p2
    show ∃ s', L_Di_find_18 _ _ _ (f + 1) (nI i) _ s1 s2 = _ ∧ _
    have es : spF n w A h (i + 1) (fun _ => false) = spS n w A h (spF n w A h i (fun _ => false)) := rfl
    have hb := bz_le (E := eS n A h (spF n w A h i (fun _ => false))) (w := w) (n - 1)
    have hE := eS_bnd (n := n) (A := A) (h := h) (S := spF n w A h i (fun _ => false)) (v := bz (eS n A h (spF n w A h i (fun _ => false))) w (n - 1))
    rw [L_Di_find_18, if_neg (nI_ge hi (by omega)), s_busiest g hC p2 (fun j hj => by have := eS_bnd (n := n) (A := A) (h := h) (S := spF n w A h i (fun _ => false)) (v := j); omega) (by omega), Option.bind_some, ckn (by omega) (by decide), nI_clamp (by omega), p2 _ (by omega), nI_1, ← iI_0]
    by_cases q : 0 < eS n A h (spF n w A h i (fun _ => false)) (bz (eS n A h (spF n w A h i (fun _ => false))) w (n - 1))
    · have et : toP w (eS n A h (spF n w A h i (fun _ => false))) n = some (bz (eS n A h (spF n w A h i (fun _ => false))) w (n - 1)) := if_pos ⟨by omega, q⟩
      have hok := toP_ok et
      obtain ⟨i2, o2, e2, h3, h4⟩ := s_takeIn g hC hr hk hh hok.1 p1 hok.2.1 p2
      have es2 : spS n w A h (spF n w A h i (fun _ => false)) = hs (spF n w A h i (fun _ => false)) (bz (eS n A h (spF n w A h i (fun _ => false))) w (n - 1)) true := by
        unfold spS
        rw [et]
      rw [if_neg (by rw [iI_le ⟨by omega, by omega⟩ ⟨by omega, by omega⟩]; omega), e2, Option.bind_some]
      refine ⟨(i2, o2), rfl, ?_, ?_⟩
      · rw [es, es2]; exact h3
      · rw [es, es2]; exact h4
    · have et : toP w (eS n A h (spF n w A h i (fun _ => false))) n = none := if_neg (fun e => q e.2)
      have es2 : spS n w A h (spF n w A h i (fun _ => false)) = spF n w A h i (fun _ => false) := by
        unfold spS
        rw [et]
      rw [if_pos (by rw [iI_le ⟨by omega, by omega⟩ ⟨by omega, by omega⟩]; omega)]
      refine ⟨(s1, s2), rfl, ?_, ?_⟩
      · rw [es, es2]; exact p1
      · rw [es, es2]; exact p2) n 0 64 (i1, o1) (by omega) (by omega) ⟨h1, h2⟩
  obtain ⟨s1, s2⟩ := s'
  obtain ⟨p1, p2⟩ := hP
  dsimp only at p1 p2
  have e : L_Di_find_18 ar wt home 64 0 (nI n) i1 o1 = L_Di_find_18 ar wt home (f' + 1) (nI n) (nI n) s1 s2 := e
  obtain ⟨i3, o3, e3, h3⟩ := s_find63 g hC hr hk hh n 64 _ s1 s2 (Nat.le_refl n) (by omega) p1
  refine ⟨i3, o3, ?_, h3⟩
  show L_Di_find_18 ar wt home 64 0 (nI n) i1 o1 = _
  rw [e, L_Di_find_18, if_pos (nI_le (Nat.le_refl n) (by omega)), e3]
