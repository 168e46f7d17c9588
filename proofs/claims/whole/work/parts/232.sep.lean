/-! THE SEPARATOR -/
def cB (A : Nat → Nat → Int) (h : Nat → Int) (a b : Nat) : Bool := decide (0 < A a b) && !decide (h a = h b)
theorem cB_iff {A : Nat → Nat → Int} {h : Nat → Int} {a b : Nat} : cB A h a b = true ↔ (0 < A a b ∧ h a ≠ h b) := by
  unfold cB
  simp only [Bool.and_eq_true, decide_eq_true_eq, Bool.not_eq_true', decide_eq_false_iff_not]
theorem cB_sym {n : Nat} {A : Nat → Nat → Int} {h : Nat → Int} {a b : Nat} (hsy : ∀ i j, i < n → j < n → A i j = A j i) (ha : a < n) (hb : b < n) : cB A h a b = cB A h b a := by
  rw [Bool.eq_iff_iff, cB_iff, cB_iff, hsy a b ha hb]
  exact ⟨fun q => ⟨q.1, fun e => q.2 e.symm⟩, fun q => ⟨q.1, fun e => q.2 e.symm⟩⟩
theorem cB_self {A : Nat → Nat → Int} {h : Nat → Int} {a : Nat} : cB A h a a = false := by
  cases q : cB A h a a with
  | false => rfl
  | true => exact absurd rfl (cB_iff.mp q).2
def eS (n : Nat) (A : Nat → Nat → Int) (h : Nat → Int) (S : Nat → Bool) (v : Nat) : Int := if S v = true then 0 else sI (fun u => if cB A h v u = true ∧ S u = false then 1 else 0) n
theorem eS_bnd {n v : Nat} {A : Nat → Nat → Int} {h : Nat → Int} {S : Nat → Bool} : 0 ≤ eS n A h S v ∧ eS n A h S v ≤ n := by
  unfold eS
  by_cases q : S v = true
  · rw [if_pos q]; omega
  · rw [if_neg q]
    have := sI_bnd (f := fun u => if cB A h v u = true ∧ S u = false then (1 : Int) else 0) (n := n) (c := 1) (fun i _ => by
      by_cases z : cB A h v i = true ∧ S i = false
      · rw [if_pos z]; omega
      · rw [if_neg z]; omega)
    omega
theorem s_isCut {n k a b : Nat} {w : Nat → Int} {A : Nat → Nat → Int} {h : Nat → Int} {wt ar home : Nat → Int32} (g : GOK n w A) (hC : CG n w A wt ar) (hr : RW n h home) (hk : k ≤ 4) (hh : HK n k h) (ha : a < n) (hb : b < n) : f_Di_isCut (nI a) (nI b) ar home = some (if cB A h a b = true then 1 else 0) := by
  have hn := g.1
  have h1 := g.a32 ha hb
  have h2 := hh a ha
  have h3 := hh b hb
  unfold f_Di_isCut
  rw [s_garc (by omega) (by omega), Option.bind_some, hC.2 a b ha hb, ← iI_0]
  by_cases q : 0 < A a b
  · rw [if_neg (by rw [iI_le ⟨by omega, by omega⟩ ⟨by omega, by omega⟩]; omega), ckn (by omega) (by decide), ckn (by omega) (by decide), nI_clamp (by omega), nI_clamp (by omega), hr a ha, hr b hb]
    by_cases z : h a = h b
    · rw [if_pos (by rw [z]), if_neg (by rw [cB_iff]; exact fun e => e.2 z)]
    · rw [if_neg (by rw [iI_eq ⟨by omega, by omega⟩ ⟨by omega, by omega⟩]; exact z), if_pos (by rw [cB_iff]; exact ⟨q, z⟩)]
  · rw [if_pos (by rw [iI_le ⟨by omega, by omega⟩ ⟨by omega, by omega⟩]; omega), if_neg (by rw [cB_iff]; exact fun e => q e.1)]
theorem s_isOpen {n k a b : Nat} {w : Nat → Int} {A : Nat → Nat → Int} {h : Nat → Int} {ar split parts : Nat → Int32} {S : Nat → Bool} (g : GOK n w A) (hA : ∀ i j, i < n → j < n → ar (40 * i + j) = iI (A i j)) (hr : RW n h split) (hk : k ≤ 4) (hh : HK n k h) (hS : FR n S parts) (ha : a < n) (hb : b < n) : f_Re_isOpen (nI a) (nI b) ar parts split = some (if cB A h a b = true ∧ S a = false ∧ S b = false then 1 else 0) := by
  have hn := g.1
  have h1 := g.a32 ha hb
  have h2 := hh a ha
  have h3 := hh b hb
  unfold f_Re_isOpen
  rw [n40', ckn (by omega) (by decide), nI_clamp (show 40 * a + b < 2 ^ 31 by omega), hA a b ha hb, ← iI_0]
  by_cases q : 0 < A a b
  · rw [if_neg (by rw [iI_le ⟨by omega, by omega⟩ ⟨by omega, by omega⟩]; omega), ckn (by omega) (by decide), ckn (by omega) (by decide), nI_clamp (by omega), nI_clamp (by omega), hr a ha, hr b hb]
    by_cases z : h a = h b
    · rw [if_pos (by rw [z]), if_neg (by rw [cB_iff]; exact fun e => e.1.2 z)]
    · rw [if_neg (by rw [iI_eq ⟨by omega, by omega⟩ ⟨by omega, by omega⟩]; exact z), ckn (by omega) (by decide), hS a ha]
      have zz : cB A h a b = true := cB_iff.mpr ⟨q, z⟩
      cases sa : S a with
      | true =>
        rw [if_neg (show ¬ (if true = true then (1 : Int32) else 0) = iI 0 by decide), if_neg (fun e => by cases e.2.1)]
      | false =>
        rw [if_pos (show (if false = true then (1 : Int32) else 0) = iI 0 by decide), ckn (by omega) (by decide), hS b hb]
        cases sb : S b with
        | true => rw [if_neg (show ¬ (if true = true then (1 : Int32) else 0) = iI 0 by decide), if_neg (fun e => by cases e.2.2)]
        | false => rw [if_pos (show (if false = true then (1 : Int32) else 0) = iI 0 by decide), if_pos ⟨zz, rfl, rfl⟩]
  · rw [if_pos (by rw [iI_le ⟨by omega, by omega⟩ ⟨by omega, by omega⟩]; omega), if_neg (by rw [cB_iff]; exact fun e => q e.1.1)]
theorem s_ds26 {n k v : Nat} {w : Nat → Int} {A : Nat → Nat → Int} {h : Nat → Int} {wt ar home ins opn : Nat → Int32} (g : GOK n w A) (hC : CG n w A wt ar) (hr : RW n h home) (hk : k ≤ 4) (hh : HK n k h) (hv : v < n) (h0 : opn v = 0) (K : Int32 → (Nat → Int32) → (Nat → Int32) → Option ((Nat → Int32) × (Nat → Int32))) : ∃ opn', L_Di_start_26 (nI n) ar home K 64 (nI v) 0 ins opn = K (nI (v + 1)) ins opn' ∧ opn' v = iI (sI (fun u => if cB A h v u = true then 1 else 0) n) ∧ ∀ j, j ≠ v → opn' j = opn j := by
  have hn := g.1
  obtain ⟨f', s', e, hP⟩ := loopP (fun f i (s : Nat → Int32) => L_Di_start_26 (nI n) ar home K f (nI v) (nI i) ins s) n (fun i s => s v = iI (sI (fun u => if cB A h v u = true then 1 else 0) i) ∧ ∀ j, j ≠ v → s j = opn j) (by
    intro f i s hi hs'
    show ∃ s', L_Di_start_26 _ _ _ _ (f + 1) _ (nI i) ins s = _ ∧ _
    rw [L_Di_start_26, if_neg (nI_ge hi (by omega)), s_isCut g hC hr hk hh hv hi, Option.bind_some, nI_1]
    by_cases q : cB A h v i = true
    · rw [if_pos q, if_neg (show ¬ (1 : Int32) = 0 by decide), ckn (by omega) (by decide), ckn (by omega) (by decide), nI_clamp (by omega)]
      refine ⟨upd s v (s v + 1), rfl, ?_, fun j hj => ?_⟩
      · rw [pk_us, sI_s, if_pos q, hs'.1, ← iI_1, iI_add]
      · rw [pk_un hj]; exact hs'.2 j hj
    · rw [if_neg q, if_pos rfl]
      exact ⟨s, rfl, by rw [sI_s, if_neg q, Int.add_zero]; exact hs'.1, hs'.2⟩) n 0 64 opn (by omega) (by omega) ⟨h0, fun _ _ => rfl⟩
  have e : L_Di_start_26 (nI n) ar home K 64 (nI v) 0 ins opn = L_Di_start_26 (nI n) ar home K (f' + 1) (nI v) (nI n) ins s' := e
  refine ⟨s', ?_, hP⟩
  rw [e, L_Di_start_26, if_pos (nI_le (Nat.le_refl n) (by omega)), nI_1]
theorem FR_set {n : Nat} {fr : Nat → Bool} {free : Nat → Int32} (h : FR n fr free) (v : Nat) (b : Bool) : FR n (hs fr v b) (upd free v (if b = true then 1 else 0)) := by
  intro i hi
  by_cases q : i = v
  · subst q; rw [pk_us, hs_s]
  · rw [pk_un q, hs_n q]; exact h i hi
theorem s_dstart {n k : Nat} {w : Nat → Int} {A : Nat → Nat → Int} {h : Nat → Int} {wt ar home ins opn : Nat → Int32} (g : GOK n w A) (hC : CG n w A wt ar) (hr : RW n h home) (hk : k ≤ 4) (hh : HK n k h) : ∃ ins' opn', f_Di_start (nI n) ins opn ar home = some (ins', opn') ∧ FR n (fun _ => false) ins' ∧ ∀ i, i < n → opn' i = iI (eS n A h (fun _ => false) i) := by
  have hn := g.1
  obtain ⟨f', s', e, hP⟩ := loopP (fun f i (s : (Nat → Int32) × (Nat → Int32)) => L_Di_start_2 (nI n) ar home f (nI i) s.1 s.2) n (fun i s => ∀ j, j < i → s.1 j = 0 ∧ s.2 j = iI (eS n A h (fun _ => false) j)) (by
    intro f i s hi hs'
    obtain ⟨s1, s2⟩ := s
    dsimp only at hs'
    show ∃ s', L_Di_start_2 _ _ _ (f + 1) (nI i) s1 s2 = _ ∧ _
    obtain ⟨o, e1, e2, e3⟩ := s_ds26 (ins := upd s1 i (vp_nar .boolean 0)) (opn := upd s2 i 0) g hC hr hk hh hi pk_us (L_Di_start_2 (nI n) ar home f)
    rw [L_Di_start_2, if_neg (nI_ge hi (by omega)), ckn (by omega) (by decide), ckn (by omega) (by decide), nI_clamp (by omega), e1]
    refine ⟨(upd s1 i (vp_nar .boolean 0), o), rfl, fun j hj => ?_⟩
    dsimp only
    by_cases q : j = i
    · subst q
      rw [pk_us, e2]
      refine ⟨rfl, ?_⟩
      unfold eS
      rw [if_neg (show ¬ false = true by decide)]
      congr 1
      refine sI_congr (fun u hu => ?_)
      simp only [and_true]
    · rw [pk_un q, e3 j q, pk_un q]; exact hs' j (by omega)) n 0 64 (ins, opn) (by omega) (by omega) (fun j hj => absurd hj (Nat.not_lt_zero j))
  obtain ⟨s1, s2⟩ := s'
  dsimp only at hP
  have e : L_Di_start_2 (nI n) ar home 64 0 ins opn = L_Di_start_2 (nI n) ar home (f' + 1) (nI n) s1 s2 := e
  refine ⟨s1, s2, ?_, fun i hi => (hP i hi).1, fun i hi => (hP i hi).2⟩
  unfold f_Di_start
  rw [e, L_Di_start_2, if_pos (nI_le (Nat.le_refl n) (by omega))]
def bzS (E w : Nat → Int) (i b : Nat) : Nat := if E b < E (i + 1) ∨ (E (i + 1) = E b ∧ w (i + 1) < w b) then i + 1 else b
def bz (E w : Nat → Int) (m : Nat) : Nat := fo (bzS E w) m 0
theorem bz_le {E w : Nat → Int} : ∀ m, bz E w m ≤ m := by
  intro m
  induction m with
  | zero => exact Nat.le_refl 0
  | succ m ih =>
    unfold bz at *
    rw [fo_s]
    unfold bzS
    by_cases q : E (fo (bzS E w) m 0) < E (m + 1) ∨ (E (m + 1) = E (fo (bzS E w) m 0) ∧ w (m + 1) < w (fo (bzS E w) m 0))
    · rw [if_pos (by unfold bzS at q; exact q)]; omega
    · rw [if_neg (by unfold bzS at q; exact q)]; exact Nat.le_trans ih (by omega)
theorem bz_s {E w : Nat → Int} (m : Nat) : bz E w (m + 1) = if E (bz E w m) < E (m + 1) ∨ (E (m + 1) = E (bz E w m) ∧ w (m + 1) < w (bz E w m)) then m + 1 else bz E w m := rfl
theorem s_busiest {n : Nat} {w : Nat → Int} {A : Nat → Nat → Int} {E : Nat → Int} {wt ar opn : Nat → Int32} (g : GOK n w A) (hC : CG n w A wt ar) (hE : ∀ i, i < n → opn i = iI (E i)) (hr : ∀ i, i < n → 0 ≤ E i ∧ E i ≤ 40) (h0 : 0 < n) : f_Di_busiest (nI n) opn wt = some (nI (bz E w (n - 1))) := by
  have hn := g.1
  obtain ⟨f', e⟩ := loopS (fun f i s => L_Di_busiest_4 (nI n) opn wt f s (nI (i + 1))) (n - 1) (fun i => nI (bz E w i)) (by
    intro f i hi
    show L_Di_busiest_4 _ _ _ (f + 1) _ (nI (i + 1)) = _
    have hb := bz_le (E := E) (w := w) i
    have hbn : bz E w i < n := by omega
    have w1 := g.w32 hbn
    have w2 := g.w32 (show i + 1 < n by omega)
    have r1 := hr (bz E w i) hbn
    have r2 := hr (i + 1) (by omega)
    have step : ∀ y : Int32, ((y = 0 ∧ ¬ w (i + 1) < w (bz E w i)) ∨ (y = 1 ∧ w (i + 1) < w (bz E w i))) → J_Di_busiest_32 opn (L_Di_busiest_4 (nI n) opn wt f) y (nI (bz E w i)) (nI (i + 1)) = L_Di_busiest_4 (nI n) opn wt f (nI (bz E w (i + 1))) (nI (i + 1 + 1)) := by
      intro y hy
      unfold J_Di_busiest_32
      rw [ckn (by omega) (by decide), ckn (by omega) (by decide), nI_clamp (show bz E w i < 2 ^ 31 by omega), nI_clamp (show i + 1 < 2 ^ 31 by omega), hE _ hbn, hE (i + 1) (by omega), bz_s, nI_1]
      by_cases q1 : E (bz E w i) < E (i + 1)
      · rw [if_pos ((iI_lt ⟨by omega, by omega⟩ ⟨by omega, by omega⟩).mpr q1), if_pos (Or.inl q1)]
      · rw [if_neg (fun e => q1 ((iI_lt ⟨by omega, by omega⟩ ⟨by omega, by omega⟩).mp e)), ckn (by omega) (by decide), ckn (by omega) (by decide)]
        by_cases q2 : E (i + 1) = E (bz E w i)
        · rw [if_pos (by rw [q2])]
          rcases hy with ⟨y1, y2⟩ | ⟨y1, y2⟩
          · rw [if_pos y1, if_neg (by omega)]
          · rw [if_neg (by rw [y1]; decide), if_pos (by omega)]
        · rw [if_neg (fun e => q2 ((iI_eq ⟨by omega, by omega⟩ ⟨by omega, by omega⟩).mp e)), if_neg (by omega)]
    rw [L_Di_busiest_4, if_neg (nI_ge (show i + 1 < n by omega) (by omega)), ckn (by omega) (by decide), ckn (by omega) (by decide), nI_clamp (show bz E w i < 2 ^ 31 by omega), nI_clamp (show i + 1 < 2 ^ 31 by omega), hC.1 _ hbn, hC.1 (i + 1) (by omega)]
    by_cases q : w (i + 1) < w (bz E w i)
    · rw [if_neg (fun e => absurd ((iI_le ⟨by omega, by omega⟩ ⟨by omega, by omega⟩).mp e) (by omega)), step 1 (Or.inr ⟨rfl, q⟩)]
    · rw [if_pos ((iI_le ⟨by omega, by omega⟩ ⟨by omega, by omega⟩).mpr (by omega)), step 0 (Or.inl ⟨rfl, q⟩)]) (n - 1) 0 64 (by omega) (by omega)
  unfold f_Di_busiest
  have e : L_Di_busiest_4 (nI n) opn wt 64 0 1 = _ := e
  rw [e]
  show L_Di_busiest_4 _ _ _ (f' + 1) _ (nI (n - 1 + 1)) = _
  rw [show n - 1 + 1 = n by omega, L_Di_busiest_4, if_pos (nI_le (Nat.le_refl n) (by omega))]
theorem eS_take {n u v : Nat} {A : Nat → Nat → Int} {h : Nat → Int} {S : Nat → Bool} (hv : v < n) (hu : u < n) (hsy : ∀ i j, i < n → j < n → A i j = A j i) (hS : S v = false) : eS n A h (hs S v true) u = if u = v then 0 else if hs S v true u = false ∧ cB A h v u = true then eS n A h S u - 1 else eS n A h S u := by
  by_cases q : u = v
  · subst q
    rw [if_pos rfl]
    unfold eS
    rw [hs_s, if_pos rfl]
  · rw [if_neg q]
    have e0 : hs S v true u = S u := hs_n q
    rw [e0]
    unfold eS
    rw [e0]
    cases su : S u with
    | true =>
      rw [if_pos rfl, if_neg (fun e => by cases e.1)]
      rfl
    | false =>
      rw [if_neg (show ¬ false = true by decide)]
      have key : ∀ m, m ≤ n → sI (fun x => if cB A h u x = true ∧ hs S v true x = false then (1 : Int) else 0) m = sI (fun x => if cB A h u x = true ∧ S x = false then (1 : Int) else 0) m - (if v < m ∧ cB A h v u = true then 1 else 0) := by
        intro m
        induction m with
        | zero => intro _; rw [if_neg (fun e => absurd e.1 (Nat.not_lt_zero v))]; rfl
        | succ m ih =>
          intro hm
          rw [sI_s, sI_s, ih (by omega)]
          by_cases z : m = v
          · subst z
            rw [hs_s, if_neg (show ¬ (m < m ∧ cB A h m u = true) from fun e => absurd e.1 (Nat.lt_irrefl m)), if_neg (show ¬ (cB A h u m = true ∧ true = false) from fun e => absurd e.2 (by decide)), cB_sym hsy hu hv, hS]
            by_cases zz : cB A h m u = true
            · rw [if_pos (show cB A h m u = true ∧ false = false from ⟨zz, rfl⟩), if_pos (show m < m + 1 ∧ cB A h m u = true from ⟨Nat.lt_succ_self m, zz⟩)]; omega
            · rw [if_neg (show ¬ (cB A h m u = true ∧ false = false) from fun e => zz e.1), if_neg (show ¬ (m < m + 1 ∧ cB A h m u = true) from fun e => zz e.2)]; omega
          · rw [hs_n z]
            by_cases zz : v < m ∧ cB A h v u = true
            · rw [if_pos zz, if_pos (show v < m + 1 ∧ cB A h v u = true from ⟨by omega, zz.2⟩)]; omega
            · rw [if_neg zz, if_neg (show ¬ (v < m + 1 ∧ cB A h v u = true) from fun e => zz ⟨by omega, e.2⟩)]; omega
      rw [key n (Nat.le_refl n)]
      by_cases zz : cB A h v u = true
      · rw [if_pos ⟨hv, zz⟩, if_pos ⟨rfl, zz⟩, if_neg (show ¬ false = true by decide)]
      · rw [if_neg (fun e => zz e.2), if_neg (fun e => zz e.2), if_neg (show ¬ false = true by decide), Int.sub_zero]
theorem s_takeIn {n k v : Nat} {w : Nat → Int} {A : Nat → Nat → Int} {h : Nat → Int} {wt ar home ins opn : Nat → Int32} {S : Nat → Bool} (g : GOK n w A) (hC : CG n w A wt ar) (hr : RW n h home) (hk : k ≤ 4) (hh : HK n k h) (hv : v < n) (hS : FR n S ins) (hv0 : S v = false) (hE : ∀ i, i < n → opn i = iI (eS n A h S i)) : ∃ ins' opn', f_Di_takeIn (nI v) (nI n) ins opn ar home = some (ins', opn') ∧ FR n (hs S v true) ins' ∧ ∀ i, i < n → opn' i = iI (eS n A h (hs S v true) i) := by
  have hn := g.1
  have hS1 : FR n (hs S v true) (upd ins v (vp_nar .boolean 1)) := FR_set hS v true
  obtain ⟨f', s', e, hP⟩ := loopP (fun f i (s : Nat → Int32) => L_Di_takeIn_16 (nI v) (nI n) ar home f (nI i) (upd ins v (vp_nar .boolean 1)) s) n (fun i s => (∀ j, j < i → s j = iI (eS n A h (hs S v true) j)) ∧ ∀ j, i ≤ j → j < n → s j = upd opn v 0 j) (by
    intro f i s hi hs'
    show ∃ s', L_Di_takeIn_16 _ _ _ _ (f + 1) (nI i) _ s = _ ∧ _
    rw [L_Di_takeIn_16, if_neg (nI_ge hi (by omega)), ckn (by omega) (by decide), nI_clamp (by omega), hS1 i hi, nI_1]
    have ex := eS_take (h := h) hv hi g.2.2.2.2.2.1 hv0
    have si := hs'.2 i (Nat.le_refl i) hi
    have keep : (∀ j, j < i → s j = iI (eS n A h (hs S v true) j)) → s i = iI (eS n A h (hs S v true) i) → (∀ j, j < i + 1 → s j = iI (eS n A h (hs S v true) j)) ∧ ∀ j, i + 1 ≤ j → j < n → s j = upd opn v 0 j := by
      intro h1 h2
      refine ⟨fun j hj => ?_, fun j h3 h4 => hs'.2 j (by omega) h4⟩
      by_cases q : j = i
      · subst q; exact h2
      · exact h1 j (by omega)
    by_cases qi : i = v
    · subst qi
      rw [if_pos rfl] at ex
      rw [hs_s, if_neg (show ¬ (if true = true then (1 : Int32) else 0) = 0 by decide)]
      exact ⟨s, rfl, keep hs'.1 (by rw [si, pk_us, ex, iI_0])⟩
    · rw [if_neg qi] at ex
      rw [pk_un qi, hE i hi] at si
      cases sv : hs S v true i with
      | true =>
        rw [if_neg (show ¬ (if true = true then (1 : Int32) else 0) = 0 by decide)]
        rw [sv, if_neg (fun e => by cases e.1)] at ex
        exact ⟨s, rfl, keep hs'.1 (by rw [si, ex])⟩
      | false =>
        rw [if_pos (show (if false = true then (1 : Int32) else 0) = 0 by decide), s_isCut g hC hr hk hh hv hi, Option.bind_some]
        rw [sv] at ex
        by_cases zz : cB A h v i = true
        · rw [if_pos ⟨rfl, zz⟩] at ex
          rw [if_pos zz, if_neg (show ¬ (1 : Int32) = 0 by decide), ckn (by omega) (by decide), ckn (by omega) (by decide)]
          refine ⟨upd s i (s i - 1), rfl, fun j hj => ?_, fun j h3 h4 => ?_⟩
          · by_cases q : j = i
            · subst q; rw [pk_us, si, ex, ← iI_1, iI_sub]
            · rw [pk_un q]; exact hs'.1 j (by omega)
          · rw [pk_un (by omega)]; exact hs'.2 j (by omega) h4
        · rw [if_neg (fun e => zz e.2)] at ex
          rw [if_neg zz, if_pos rfl]
          exact ⟨s, rfl, keep hs'.1 (by rw [si, ex])⟩) n 0 64 (upd opn v 0) (by omega) (by omega) ⟨fun j hj => absurd hj (Nat.not_lt_zero j), fun _ _ _ => rfl⟩
  have e : L_Di_takeIn_16 (nI v) (nI n) ar home 64 0 (upd ins v (vp_nar .boolean 1)) (upd opn v 0) = L_Di_takeIn_16 (nI v) (nI n) ar home (f' + 1) (nI n) (upd ins v (vp_nar .boolean 1)) s' := e
  refine ⟨_, s', ?_, hS1, hP.1⟩
  unfold f_Di_takeIn
  rw [ckn (by omega) (by decide), ckn (by omega) (by decide), nI_clamp (by omega), e, L_Di_takeIn_16, if_pos (nI_le (Nat.le_refl n) (by omega))]
