/-! THE REFERENCE'S SEPARATOR -/
def TP (E : Nat → Int) (t : Option Nat) (s : Int32 × Int32) : Prop := match t with
  | none => s.1 = -1 ∧ s.2 = 0
  | some b => s.1 = nI b ∧ s.2 = iI (E b)
theorem eS_open {n v : Nat} {A : Nat → Nat → Int} {h : Nat → Int} {S : Nat → Bool} : sI (fun u => if cB A h v u = true ∧ S v = false ∧ S u = false then (1 : Int) else 0) n = eS n A h S v := by
  unfold eS
  cases sv : S v with
  | true =>
    rw [if_pos rfl]
    refine Eq.trans ?_ (sI_zero n)
    exact sI_congr (fun u _ => if_neg (show ¬ (cB A h v u = true ∧ true = false ∧ S u = false) from fun e => absurd e.2.1 (by decide)))
  | false =>
    rw [if_neg (show ¬ false = true by decide)]
    refine sI_congr (fun u _ => ?_)
    by_cases q : cB A h v u = true ∧ S u = false
    · rw [if_pos q, if_pos ⟨q.1, rfl, q.2⟩]
    · rw [if_neg q, if_neg (fun e => q ⟨e.1, e.2.2⟩)]
theorem s_r43 {n k v : Nat} {w : Nat → Int} {A : Nat → Nat → Int} {h : Nat → Int} {ar split parts wt : Nat → Int32} {S : Nat → Bool} {x1 x2 : Int32} (g : GOK n w A) (hA : ∀ i j, i < n → j < n → ar (40 * i + j) = iI (A i j)) (hr : RW n h split) (hk : k ≤ 4) (hh : HK n k h) (hS : FR n S parts) (hv : v < n) (K : Int32 → Int32 → Int32 → (Nat → Int32) → Option (Nat → Int32)) : L_Re_separate_43 (nI n) ar split wt K 64 x1 x2 (nI v) 0 0 parts = J_Re_separate_78 wt K x1 x2 (nI v) (iI (eS n A h S v)) parts := by
  have hn := g.1
  obtain ⟨f', e⟩ := loopS (fun f i s => L_Re_separate_43 (nI n) ar split wt K f x1 x2 (nI v) s (nI i) parts) n (fun i => iI (sI (fun u => if cB A h v u = true ∧ S v = false ∧ S u = false then (1 : Int) else 0) i)) (by
    intro f i hi
    show L_Re_separate_43 _ _ _ _ _ (f + 1) _ _ _ _ (nI i) _ = _
    rw [L_Re_separate_43, if_neg (nI_ge hi (by omega)), s_isOpen g hA hr hk hh hS hv hi, Option.bind_some, nI_1, sI_s]
    by_cases q : cB A h v i = true ∧ S v = false ∧ S i = false
    · rw [if_pos q, if_neg (show ¬ (1 : Int32) = 0 by decide), if_pos q, ← iI_1, iI_add]
    · rw [if_neg q, if_pos rfl, if_neg q, ← iI_0, iI_add]) n 0 64 (by omega) (by omega)
  have e : L_Re_separate_43 (nI n) ar split wt K 64 x1 x2 (nI v) 0 0 parts = _ := e
  rw [e]
  show L_Re_separate_43 _ _ _ _ _ (f' + 1) _ _ _ _ (nI n) _ = _
  rw [L_Re_separate_43, if_pos (nI_le (Nat.le_refl n) (by omega)), eS_open]
theorem toP_val {w E : Nat → Int} (i : Nat) : toP w E (i + 1) = if 0 < E (bz E w i) then some (bz E w i) else none := by
  by_cases z : 0 < E (bz E w i)
  · rw [if_pos z]; exact if_pos ⟨Nat.succ_pos i, z⟩
  · rw [if_neg z]; exact if_neg (fun e => z e.2)
theorem toP_s {w E : Nat → Int} {i : Nat} (hE : ∀ j, 0 ≤ E j) : toP w E (i + 1) = (if E i = 0 then toP w E i else match toP w E i with | none => some i | some b => if E i < E b then some b else if E i = E b then (if w i < w b then some i else some b) else some i) := by
  cases i with
  | zero =>
    have h0 := hE 0
    have e0 : toP w E 0 = none := if_neg (fun e => absurd e.1 (Nat.lt_irrefl 0))
    have e1 : bz E w 0 = 0 := rfl
    rw [toP_val, e0, e1]
    by_cases q : E 0 = 0
    · rw [if_pos q, if_neg (by omega)]
    · rw [if_neg q, if_pos (by omega)]
  | succ j =>
    have hj := hE (j + 1)
    have hb := hE (bz E w j)
    rw [toP_val, toP_val]
    by_cases zz : E (bz E w j) < E (j + 1) ∨ (E (j + 1) = E (bz E w j) ∧ w (j + 1) < w (bz E w j))
    · have eb : bz E w (j + 1) = j + 1 := by rw [bz_s, if_pos zz]
      rw [eb]
      by_cases q : E (j + 1) = 0
      · rw [if_pos q, if_neg (by omega), if_neg (by omega)]
      · rw [if_neg q, if_pos (by omega)]
        by_cases z : 0 < E (bz E w j)
        · rw [if_pos z]
          dsimp only
          rw [if_neg (by omega)]
          by_cases a2 : E (j + 1) = E (bz E w j)
          · rw [if_pos a2, if_pos (by omega)]
          · rw [if_neg a2]
        · rw [if_neg z]
    · have eb : bz E w (j + 1) = bz E w j := by rw [bz_s, if_neg zz]
      rw [eb]
      by_cases q : E (j + 1) = 0
      · rw [if_pos q]
      · rw [if_neg q]
        have z : 0 < E (bz E w j) := by omega
        rw [if_pos z]
        dsimp only
        by_cases a1 : E (j + 1) < E (bz E w j)
        · rw [if_pos a1]
        · rw [if_neg a1, if_pos (show E (j + 1) = E (bz E w j) by omega), if_neg (by omega)]
theorem toP_lt {w E : Nat → Int} {i b : Nat} (e : toP w E i = some b) : b < i ∧ 0 < E b := by
  unfold toP at e
  by_cases q : 0 < i ∧ 0 < E (bz E w (i - 1))
  · rw [if_pos q] at e
    have e := Option.some.inj e
    have hb := bz_le (E := E) (w := w) (i - 1)
    rw [e] at q hb
    exact ⟨by omega, q.2⟩
  · rw [if_neg q] at e; cases e
theorem s_r29 {n k : Nat} {w : Nat → Int} {A : Nat → Nat → Int} {h : Nat → Int} {ar split parts wt : Nat → Int32} {S : Nat → Bool} (g : GOK n w A) (hW : ∀ i, i < n → wt i = iI (w i)) (hA : ∀ i j, i < n → j < n → ar (40 * i + j) = iI (A i j)) (hr : RW n h split) (hk : k ≤ 4) (hh : HK n k h) (hS : FR n S parts) (K : (Nat → Int32) → Option (Nat → Int32)) : ∃ s, L_Re_separate_29 (nI n) ar split wt K 64 (-1) 0 0 parts = J_Re_separate_124 (nI n) ar split K s parts ∧ s = (match toP w (eS n A h S) n with | none => -1 | some b => nI b) := by
  have hn := g.1
  obtain ⟨f', s', e, hP⟩ := loopP (fun f i (s : Int32 × Int32) => L_Re_separate_29 (nI n) ar split wt K f s.1 s.2 (nI i) parts) n (fun i s => TP (eS n A h S) (toP w (eS n A h S) i) s) (by
    intro f i s hi hs'
    obtain ⟨s1, s2⟩ := s
    show ∃ s', L_Re_separate_29 _ _ _ _ _ (f + 1) s1 s2 (nI i) _ = _ ∧ _
    have hEi := eS_bnd (n := n) (A := A) (h := h) (S := S) (v := i)
    rw [L_Re_separate_29, if_neg (nI_ge hi (by omega)), s_r43 g hA hr hk hh hS hi, toP_s (fun j => (eS_bnd (n := n) (v := j)).1)]
    unfold J_Re_separate_78
    rw [nI_1]
    by_cases q : eS n A h S i = 0
    · rw [if_pos (by rw [q, iI_0]), if_pos q]
      exact ⟨(s1, s2), rfl, hs'⟩
    · rw [if_neg (by rw [← iI_0, iI_eq ⟨by omega, by omega⟩ ⟨by omega, by omega⟩]; exact q), if_neg q]
      cases ht : toP w (eS n A h S) i with
      | none =>
        rw [ht] at hs'
        obtain ⟨h1, h2⟩ := hs'
        dsimp only at h1 h2
        rw [h2, if_neg (by rw [← iI_0, iI_lt ⟨by omega, by omega⟩ ⟨by omega, by omega⟩]; omega), if_neg (by rw [← iI_0, iI_eq ⟨by omega, by omega⟩ ⟨by omega, by omega⟩]; exact q)]
        exact ⟨(_, _), rfl, rfl, rfl⟩
      | some b =>
        have hb := toP_lt ht
        rw [ht] at hs'
        obtain ⟨h1, h2⟩ := hs'
        dsimp only at h1 h2
        have hEb := eS_bnd (n := n) (A := A) (h := h) (S := S) (v := b)
        have w1 := g.w32 hi
        have w2 := g.w32 (show b < n by omega)
        rw [h2]
        dsimp only
        by_cases a1 : eS n A h S i < eS n A h S b
        · rw [if_pos ((iI_lt ⟨by omega, by omega⟩ ⟨by omega, by omega⟩).mpr a1), if_pos a1, ← h2]
          exact ⟨(s1, s2), rfl, h1, h2⟩
        · rw [if_neg (fun e => a1 ((iI_lt ⟨by omega, by omega⟩ ⟨by omega, by omega⟩).mp e)), if_neg a1]
          by_cases a2 : eS n A h S i = eS n A h S b
          · rw [if_pos (by rw [a2]), if_pos a2, ckn (by omega) (by decide), h1, ckn (by omega) (by decide), nI_clamp (by omega), nI_clamp (by omega), hW i hi, hW b (by omega)]
            by_cases a3 : w i < w b
            · rw [if_pos ((iI_lt ⟨by omega, by omega⟩ ⟨by omega, by omega⟩).mpr a3), if_pos a3]
              exact ⟨(_, _), rfl, rfl, rfl⟩
            · rw [if_neg (fun e => a3 ((iI_lt ⟨by omega, by omega⟩ ⟨by omega, by omega⟩).mp e)), if_neg a3]
              exact ⟨(_, _), rfl, rfl, rfl⟩
          · rw [if_neg (fun e => a2 ((iI_eq ⟨by omega, by omega⟩ ⟨by omega, by omega⟩).mp e)), if_neg a2]
            exact ⟨(_, _), rfl, rfl, rfl⟩) n 0 64 (-1, 0) (by omega) (by omega) ⟨rfl, rfl⟩
  obtain ⟨s1, s2⟩ := s'
  have e : L_Re_separate_29 (nI n) ar split wt K 64 (-1) 0 0 parts = L_Re_separate_29 (nI n) ar split wt K (f' + 1) s1 s2 (nI n) parts := e
  refine ⟨s1, ?_, ?_⟩
  · rw [e, L_Re_separate_29, if_pos (nI_le (Nat.le_refl n) (by omega))]
  · cases ht : toP w (eS n A h S) n with
    | none => rw [ht] at hP; exact hP.1
    | some b => rw [ht] at hP; exact hP.1
theorem s_r175 {n k v : Nat} {w : Nat → Int} {A : Nat → Nat → Int} {h : Nat → Int} {ar split parts : Nat → Int32} {S : Nat → Bool} (g : GOK n w A) (hA : ∀ i j, i < n → j < n → ar (40 * i + j) = iI (A i j)) (hr : RW n h split) (hk : k ≤ 4) (hh : HK n k h) (hS : FR n (hs S v false) parts) (hv : v < n) (K : Int32 → (Nat → Int32) → Option (Nat → Int32)) : L_Re_separate_175 (nI n) ar split K 64 (nI v) 0 0 parts = K (nI v - 1) (upd parts v (if ndB n A h S v = true then 1 else 0)) := by
  have hn := g.1
  obtain ⟨f', e⟩ := loopS (fun f i s => L_Re_separate_175 (nI n) ar split K f (nI v) s (nI i) parts) n (fun i => if anyB (fun u => cB A h v u && !S u) i = true then (1 : Int32) else 0) (by
    intro f i hi
    show L_Re_separate_175 _ _ _ _ (f + 1) _ _ (nI i) _ = _
    rw [L_Re_separate_175, if_neg (nI_ge hi (by omega)), s_isOpen g hA hr hk hh hS hv hi, Option.bind_some, nI_1]
    have e1 : (cB A h v i = true ∧ hs S v false v = false ∧ hs S v false i = false) ↔ (cB A h v i && !S i) = true := by
      rw [hs_s]
      by_cases q : i = v
      · subst q
        rw [cB_self]
        simp
      · rw [hs_n q]
        simp
    have e2 : anyB (fun u => cB A h v u && !S u) (i + 1) = (anyB (fun u => cB A h v u && !S u) i || (cB A h v i && !S i)) := rfl
    rw [e2]
    congr 1
    cases anyB (fun u => cB A h v u && !S u) i with
    | true =>
      by_cases q : (cB A h v i && !S i) = true
      · rw [if_pos (e1.mpr q), q]; rfl
      · rw [if_neg (fun e => q (e1.mp e)), Bool.eq_false_iff.mpr q]; rfl
    | false =>
      by_cases q : (cB A h v i && !S i) = true
      · rw [if_pos (e1.mpr q), q]; rfl
      · rw [if_neg (fun e => q (e1.mp e)), Bool.eq_false_iff.mpr q]; rfl) n 0 64 (by omega) (by omega)
  have e : L_Re_separate_175 (nI n) ar split K 64 (nI v) 0 0 parts = _ := e
  rw [e]
  show L_Re_separate_175 _ _ _ _ (f' + 1) _ (if ndB n A h S v = true then (1 : Int32) else 0) (nI n) _ = _
  rw [L_Re_separate_175, if_pos (nI_le (Nat.le_refl n) (by omega))]
  unfold J_Re_separate_198
  rw [ckn (by omega) (by decide), nI_clamp (by omega), nI_d1]
  cases ndB n A h S v <;> rfl
theorem s_r148 {n k : Nat} {w : Nat → Int} {A : Nat → Nat → Int} {h : Nat → Int} {ar split : Nat → Int32} (g : GOK n w A) (hA : ∀ i j, i < n → j < n → ar (40 * i + j) = iI (A i j)) (hr : RW n h split) (hk : k ≤ 4) (hh : HK n k h) : ∀ m f (S : Nat → Bool) (parts : Nat → Int32), m ≤ n → m < f → FR n S parts → ∃ parts', L_Re_separate_148 (nI n) ar split f (nI m - 1) parts = some parts' ∧ FR n (rdF n A h m S) parts' := by
  have hn := g.1
  intro m
  induction m with
  | zero =>
    intro f S parts hm hf hS
    obtain ⟨f, rfl⟩ : ∃ e, f = e + 1 := ⟨f - 1, by omega⟩
    rw [L_Re_separate_148, if_pos (show nI 0 - 1 < 0 by decide)]
    exact ⟨_, rfl, hS⟩
  | succ m ih =>
    intro f S parts hm hf hS
    obtain ⟨f, rfl⟩ : ∃ e, f = e + 1 := ⟨f - 1, by omega⟩
    have hmn : m < n := by omega
    rw [nI_p1, L_Re_separate_148, if_neg (nI_pos (by omega)), ckn (by omega) (by decide), nI_clamp (by omega), hS m hmn, nI_d1]
    show ∃ parts', _ ∧ FR n (rdF n A h m (rdS n A h m S)) parts'
    unfold rdS
    cases sm : S m with
    | false =>
      rw [if_pos (show (if false = true then (1 : Int32) else 0) = 0 by decide)]
      refine ih f (hs S m (false && ndB n A h S m)) parts (by omega) (by omega) ?_
      intro i hi
      by_cases q : i = m
      · subst q; rw [hs_s, hS i hi, sm]; rfl
      · rw [hs_n q]; exact hS i hi
    | true =>
      have hS2 : FR n (hs S m false) (upd parts m (vp_nar .boolean 0)) := FR_set hS m false
      rw [if_neg (show ¬ (if true = true then (1 : Int32) else 0) = 0 by decide), ckn (by omega) (by decide), s_r175 g hA hr hk hh hS2 hmn, Bool.true_and]
      refine ih f (hs S m (ndB n A h S m)) _ (by omega) (by omega) ?_
      intro i hi
      by_cases q : i = m
      · subst q; rw [hs_s, pk_us]
      · rw [hs_n q, pk_un q, pk_un q]; exact hS i hi
def cF (n : Nat) (S : Nat → Bool) : Int := sI (fun u => if S u = true then 0 else 1) n
theorem cF_take {n v : Nat} {S : Nat → Bool} (hv : v < n) (hS : S v = false) : cF n (hs S v true) = cF n S - 1 := by
  unfold cF
  have key : ∀ m, sI (fun u => if hs S v true u = true then (0 : Int) else 1) m = sI (fun u => if S u = true then (0 : Int) else 1) m - (if v < m then 1 else 0) := by
    intro m
    induction m with
    | zero => rw [if_neg (Nat.not_lt_zero v)]; rfl
    | succ m ih =>
      rw [sI_s, sI_s, ih]
      by_cases q : m = v
      · subst q
        rw [hs_s, if_pos rfl, if_neg (Nat.lt_irrefl m), if_pos (Nat.lt_succ_self m), hS, if_neg (show ¬ false = true by decide)]
        omega
      · rw [hs_n q]
        by_cases z : v < m
        · rw [if_pos z, if_pos (show v < m + 1 by omega)]; omega
        · rw [if_neg z, if_neg (show ¬ v < m + 1 by omega)]; omega
  rw [key n, if_pos hv]
theorem cF_pos {n v : Nat} {S : Nat → Bool} (hv : v < n) (hS : S v = false) : 0 < cF n S := by
  have := sI_mem (f := fun u => if S u = true then (0 : Int) else 1) (n := n) (v := v) (fun i _ => by
    by_cases q : S i = true
    · rw [if_pos q]; omega
    · rw [if_neg q]; omega) hv
  rw [hS, if_neg (show ¬ false = true by decide)] at this
  unfold cF
  omega
theorem spF_s {n m : Nat} {w : Nat → Int} {A : Nat → Nat → Int} {h : Nat → Int} {S : Nat → Bool} : spF n w A h (m + 1) S = spF n w A h m (spS n w A h S) := by
  unfold spF
  induction m with
  | zero => rfl
  | succ m ih => rw [fo_s, ih]; rfl
theorem spF_none {n m : Nat} {w : Nat → Int} {A : Nat → Nat → Int} {h : Nat → Int} {S : Nat → Bool} (e : toP w (eS n A h S) n = none) : spF n w A h m S = S := by
  have e1 : spS n w A h S = S := by
    unfold spS
    rw [e]
  induction m with
  | zero => rfl
  | succ m ih => rw [spF_s, e1, ih]
theorem s_r23 {n k : Nat} {w : Nat → Int} {A : Nat → Nat → Int} {h : Nat → Int} {ar split wt : Nat → Int32} (g : GOK n w A) (hW : ∀ i, i < n → wt i = iI (w i)) (hA : ∀ i j, i < n → j < n → ar (40 * i + j) = iI (A i j)) (hr : RW n h split) (hk : k ≤ 4) (hh : HK n k h) : ∀ (m f : Nat) (S : Nat → Bool) (parts : Nat → Int32), cF n S ≤ m → m < f → FR n S parts → ∃ parts', L_Re_separate_23 (nI n) ar split wt f parts = some parts' ∧ FR n (rdF n A h n (spF n w A h m S)) parts' := by
  have hn := g.1
  intro m
  induction m with
  | zero =>
    intro f S parts hm hf hS
    obtain ⟨f, rfl⟩ : ∃ e, f = e + 1 := ⟨f - 1, by omega⟩
    obtain ⟨s, e1, e2⟩ := s_r29 g hW hA hr hk hh hS (L_Re_separate_23 (nI n) ar split wt f)
    cases ht : toP w (eS n A h S) n with
    | some b =>
      have hb := toP_ok ht
      have := cF_pos hb.1 hb.2.1
      omega
    | none =>
      rw [ht] at e2
      have e2 : s = -1 := e2
      obtain ⟨p, e3, e4⟩ := s_r148 g hA hr hk hh n 64 S parts (Nat.le_refl n) (by omega) hS
      refine ⟨p, ?_, by rw [spF_none ht]; exact e4⟩
      rw [L_Re_separate_23, e1, e2]
      unfold J_Re_separate_124
      rw [if_neg (show ¬ (0 : Int32) ≤ -1 by decide), e3]
  | succ m ih =>
    intro f S parts hm hf hS
    obtain ⟨f, rfl⟩ : ∃ e, f = e + 1 := ⟨f - 1, by omega⟩
    obtain ⟨s, e1, e2⟩ := s_r29 g hW hA hr hk hh hS (L_Re_separate_23 (nI n) ar split wt f)
    cases ht : toP w (eS n A h S) n with
    | some b =>
      rw [ht] at e2
      have e2 : s = nI b := e2
      have hb := toP_ok ht
      have hc := cF_take hb.1 hb.2.1
      have es : spS n w A h S = hs S b true := by
        unfold spS
        rw [ht]
      obtain ⟨p, e3, e4⟩ := ih f (hs S b true) (upd parts b (vp_nar .boolean 1)) (by omega) (by omega) (FR_set hS b true)
      refine ⟨p, ?_, by rw [spF_s, es]; exact e4⟩
      rw [L_Re_separate_23, e1, e2]
      unfold J_Re_separate_124
      rw [if_pos (nI_pos' (by omega)), ckn (by omega) (by decide), nI_clamp (by omega), e3]
    | none =>
      rw [ht] at e2
      have e2 : s = -1 := e2
      obtain ⟨p, e3, e4⟩ := s_r148 g hA hr hk hh n 64 S parts (Nat.le_refl n) (by omega) hS
      refine ⟨p, ?_, by rw [spF_none ht]; exact e4⟩
      rw [L_Re_separate_23, e1, e2]
      unfold J_Re_separate_124
      rw [if_neg (show ¬ (0 : Int32) ≤ -1 by decide), e3]
theorem s_separate {n k : Nat} {w : Nat → Int} {A : Nat → Nat → Int} {h : Nat → Int} {ar split wt parts : Nat → Int32} (g : GOK n w A) (hW : ∀ i, i < n → wt i = iI (w i)) (hA : ∀ i j, i < n → j < n → ar (40 * i + j) = iI (A i j)) (hr : RW n h split) (hk : k ≤ 4) (hh : HK n k h) : ∃ parts', f_Re_separate (nI n) ar parts split wt = some parts' ∧ FR n (sepF n w A h) parts' := by
  have hn := g.1
  obtain ⟨f', s', e, hP⟩ := loopP (fun f i (s : Nat → Int32) => L_Re_separate_2 (nI n) ar split wt f (nI i) s) n (fun i s => ∀ j, j < i → s j = 0) (by
    intro f i s hi hs'
    show ∃ s', L_Re_separate_2 _ _ _ _ (f + 1) (nI i) s = _ ∧ _
    rw [L_Re_separate_2, if_neg (nI_ge hi (by omega)), ckn (by omega) (by decide), nI_clamp (by omega), nI_1]
    refine ⟨upd s i (vp_nar .boolean 0), rfl, fun j hj => ?_⟩
    by_cases q : j = i
    · subst q; rw [pk_us]; rfl
    · rw [pk_un q]; exact hs' j (by omega)) n 0 64 parts (by omega) (by omega) (fun j hj => absurd hj (Nat.not_lt_zero j))
  have e : L_Re_separate_2 (nI n) ar split wt 64 0 parts = L_Re_separate_2 (nI n) ar split wt (f' + 1) (nI n) s' := e
  have hc : cF n (fun _ => false) ≤ n := by
    have := sI_bnd (f := fun u => if (fun _ : Nat => false) u = true then (0 : Int) else 1) (n := n) (c := 1) (fun i _ => ⟨by show (0 : Int) ≤ if false = true then 0 else 1; decide, by show (if false = true then (0 : Int) else 1) ≤ 1; decide⟩)
    unfold cF
    omega
  obtain ⟨p, e3, e4⟩ := s_r23 g hW hA hr hk hh n 64 (fun _ => false) s' hc (by omega) hP
  refine ⟨p, ?_, e4⟩
  unfold f_Re_separate
  rw [e, L_Re_separate_2, if_pos (nI_le (Nat.le_refl n) (by omega)), e3]
