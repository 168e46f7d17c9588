def BS (n k : Nat) (w : Nat → Int) (A : Nat → Nat → Int) (lo hi : Nat → Int) (b : Option (Nat → Int)) (bo bc : Int32) (best : Nat → Int32) : Prop := match b with
  | none => bo = 2000000000 ∧ bc = 2000000000
  | some g => bo = iI (overI n k w lo hi g) ∧ bc = iI (cutI n A g) ∧ RW n g best
theorem cut_pre {n v : Nat} {w : Nat → Int} {A : Nat → Nat → Int} (g : GOK n w A) (hv : v ≤ n) (h : Nat → Int) : 0 ≤ cutI v A h ∧ cutI v A h ≤ 780000000 := by
  have h0 : ∀ m, m ≤ n → 0 ≤ cutI m A h := fun m hm => sI_nn (fun a ha => sI_nn (fun b hb => by
    have := g.2.2.2.1 a b (by omega) (by omega)
    by_cases q : h a = h b
    · rw [if_pos q]; exact Int.le_refl _
    · rw [if_neg q]; exact this))
  have h1 : ∀ d, v + d ≤ n → cutI v A h ≤ cutI (v + d) A h := by
    intro d
    induction d with
    | zero => intro _; exact Int.le_refl _
    | succ d ih =>
      intro hd
      have e : cutI (v + (d + 1)) A h = cutI (v + d) A h + sI (fun b => if h (v + d) = h b then 0 else A (v + d) b) (v + d) := rfl
      have := ih (by omega)
      have := sI_nn (f := fun b => if h (v + d) = h b then 0 else A (v + d) b) (n := v + d) (fun b hb => by
        have := g.2.2.2.1 (v + d) b (by omega) (by omega)
        by_cases q : h (v + d) = h b
        · rw [if_pos q]; exact Int.le_refl _
        · rw [if_neg q]; exact this)
      omega
  have h2 := h1 (n - v) (by omega)
  rw [show v + (n - v) = n by omega] at h2
  have := (g.cut h).2
  exact ⟨h0 v hv, by omega⟩
theorem RW_in {v : Nat} {h : Nat → Int} {tried : Nat → Int32} (hr : RW v h tried) (p : Nat) : RW (v + 1) (hs h v (p : Int)) (upd tried v (nI p)) := by
  intro i hi
  by_cases q : i = v
  · subst q; rw [pk_us, hs_s, nI_iI]
  · rw [pk_un q, hs_n q]; exact hr i (by omega)
theorem HK_in {v k p : Nat} {h : Nat → Int} (hh : HK v k h) (hp : p < k) : HK (v + 1) k (hs h v (p : Int)) := by
  intro i hi
  by_cases q : i = v
  · subst q; rw [hs_s]; omega
  · rw [hs_n q]; exact hh i (by omega)
theorem s_tryFrom {n k : Nat} {w : Nat → Int} {A : Nat → Nat → Int} {lo hi : Nat → Int} {wt ar least most : Nat → Int32} (g : GOK n w A) (hC : CG n w A wt ar) (hB : BOK k lo hi) (hb : RB k lo hi least most) (hn16 : n ≤ 16) : ∀ (r v d : Nat) (h : Nat → Int) (b : Option (Nat → Int)) (bo bc : Int32) (best sum tried : Nat → Int32), v + r = n → r < d → RW v h tried → HK v k h → (∀ p : Nat, p < 4 → sum p = iI (pS v w h p)) → BS n k w A lo hi b bo bc best → ∃ bo' bc' best' sum' tried', f_Se_tryFrom d (nI v) (iI (cutI v A h)) (iI (sI w n - sI w v)) bo bc best sum tried (nI k) least most (nI n) ar wt = some (bo', bc', best', sum', tried') ∧ BS n k w A lo hi (tr n k w A lo hi r h b) bo' bc' best' ∧ (∀ p : Nat, p < 4 → sum' p = sum p) ∧ ∀ i, i < v → tried' i = tried i := by
  intro r
  have hk := hB.2.1
  induction r with
  | zero =>
    intro v d h b bo bc best sum tried hv hd hr hh hsum hbs
    obtain ⟨d, rfl⟩ : ∃ e, d = e + 1 := ⟨d - 1, by omega⟩
    have : v = n := by omega
    subst this
    rw [f_Se_tryFrom, s_leastOver g hB hb (Nat.le_refl v) hsum, Option.bind_some, flo_end hB]
    have ho := g.over hB h
    have hc := g.cut h
    have leaf : ∃ bo' bc' best' sum' tried', J_Se_tryFrom_39 (f_Se_tryFrom d) (nI v) (iI (cutI v A h)) (iI (sI w v - sI w v)) bo bc best sum tried (nI k) least most (nI v) ar wt (iI (overI v k w lo hi h)) = some (bo', bc', best', sum', tried') ∧ BS v k w A lo hi (some h) bo' bc' best' ∧ (∀ p : Nat, p < 4 → sum' p = sum p) ∧ ∀ i, i < v → tried' i = tried i := by
      unfold J_Se_tryFrom_39
      rw [if_pos (nI_le (Nat.le_refl v) (by omega))]
      unfold J_Se_tryFrom_56
      rw [ck_true (by decide)]
      exact ⟨_, _, _, _, _, rfl, ⟨rfl, rfl, fun i hi => by rw [cpy40 (by omega)]; exact hr i hi⟩, fun _ _ => rfl, fun _ _ => rfl⟩
    cases b with
    | none =>
      obtain ⟨h1, h2⟩ := hbs
      rw [h1, h2] at leaf ⊢
      have e : (2000000000 : Int32) = iI 2000000000 := rfl
      rw [if_neg (by rw [e, iI_lt ⟨by omega, by omega⟩ ⟨by omega, by omega⟩]; omega), if_neg (by rw [e, iI_eq ⟨by omega, by omega⟩ ⟨by omega, by omega⟩]; omega)]
      exact leaf
    | some t =>
      obtain ⟨h1, h2, h3⟩ := hbs
      have ho2 := g.over hB t
      have hc2 := g.cut t
      have e0 : tr v k w A lo hi 0 h (some t) = if btr v k w A lo hi h t = true then some h else some t := rfl
      rw [e0]
      by_cases q1 : overI v k w lo hi t < overI v k w lo hi h
      · rw [if_pos (by rw [h1, iI_lt ⟨by omega, by omega⟩ ⟨by omega, by omega⟩]; exact q1), if_neg (by rw [btr_iff]; omega)]
        exact ⟨_, _, _, _, _, rfl, ⟨h1, h2, h3⟩, fun _ _ => rfl, fun _ _ => rfl⟩
      · rw [if_neg (by rw [h1, iI_lt ⟨by omega, by omega⟩ ⟨by omega, by omega⟩]; exact q1)]
        by_cases q2 : overI v k w lo hi h = overI v k w lo hi t
        · rw [if_pos (by rw [h1, q2])]
          by_cases q3 : cutI v A h < cutI v A t
          · rw [if_pos (by rw [h2, iI_lt ⟨by omega, by omega⟩ ⟨by omega, by omega⟩]; exact q3), if_pos (by rw [btr_iff]; omega)]
            exact leaf
          · rw [if_neg (by rw [h2, iI_lt ⟨by omega, by omega⟩ ⟨by omega, by omega⟩]; exact q3), if_neg (by rw [btr_iff]; omega)]
            exact ⟨_, _, _, _, _, rfl, ⟨h1, h2, h3⟩, fun _ _ => rfl, fun _ _ => rfl⟩
        · rw [if_neg (by rw [h1, iI_eq ⟨by omega, by omega⟩ ⟨by omega, by omega⟩]; exact q2), if_pos (by rw [btr_iff]; omega)]
          exact leaf
  | succ r ih =>
    intro v d h b bo bc best sum tried hv hd hr hh hsum hbs
    obtain ⟨d, rfl⟩ : ∃ e, d = e + 1 := ⟨d - 1, by omega⟩
    rw [f_Se_tryFrom, s_leastOver g hB hb (by omega) hsum, Option.bind_some]
    have hf := flo_bnd (h := h) g hB (show v ≤ n by omega)
    have hcv := cut_pre g (show v ≤ n by omega) h
    have ev : n - (r + 1) = v := by omega
    have hvn : v < n := by omega
    have go : ∃ bo' bc' best' sum' tried', J_Se_tryFrom_39 (f_Se_tryFrom d) (nI v) (iI (cutI v A h)) (iI (sI w n - sI w v)) bo bc best sum tried (nI k) least most (nI n) ar wt (iI (flo n k w lo hi v h)) = some (bo', bc', best', sum', tried') ∧ BS n k w A lo hi (tr n k w A lo hi (r + 1) h b) bo' bc' best' ∧ (∀ p : Nat, p < 4 → sum' p = sum p) ∧ ∀ i, i < v → tried' i = tried i := by
      unfold J_Se_tryFrom_39
      rw [if_neg (nI_ge hvn (by omega)), if_pos (show nI v < (16 : Int32) from (nI_lt (b := 16) (by omega) (by decide))), ckn (by omega) (by decide), nI_clamp (by omega), hC.1 v hvn]
      obtain ⟨f', s', e, hP⟩ := loopP (fun f i (s : Int32 × Int32 × (Nat → Int32) × (Nat → Int32) × (Nat → Int32)) => L_Se_tryFrom_97 (f_Se_tryFrom d) (nI v) (iI (cutI v A h)) (iI (sI w n - sI w v)) (nI k) least most (nI n) ar wt f (iI (w v)) (nI i) s.1 s.2.1 s.2.2.1 s.2.2.2.1 s.2.2.2.2) k (fun i s => BS n k w A lo hi (fo (fun p b => tr n k w A lo hi r (hs h v (p : Int)) b) i b) s.1 s.2.1 s.2.2.1 ∧ (∀ p : Nat, p < 4 → s.2.2.2.1 p = sum p) ∧ ∀ i, i < v → s.2.2.2.2 i = tried i) (by
        intro f i s hi' hs'
        obtain ⟨so, sc, sb, ss, st⟩ := s
        obtain ⟨p1, p2, p3⟩ := hs'
        dsimp only at p1 p2 p3
        show ∃ s', L_Se_tryFrom_97 _ _ _ _ _ _ _ _ _ _ (f + 1) _ (nI i) so sc sb ss st = _ ∧ _
        have hr1 : RW v h st := fun j hj => by rw [p3 j hj]; exact hr j hj
        have hsum1 : ∀ p : Nat, p < 4 → upd ss i (ss i + iI (w v)) p = iI (pS (v + 1) w (hs h v (i : Int)) p) := by
          intro p hp
          rw [pS_in]
          by_cases q : p = i
          · subst q; rw [pk_us, if_pos rfl, p2 p hp, hsum p hp, iI_add]
          · rw [pk_un q, if_neg (by omega), Int.add_zero, p2 p hp, hsum p hp]
        obtain ⟨o1, o2, o3, o4, o5, e1, e2, e3, e4⟩ := ih (v + 1) d (hs h v (i : Int)) (fo (fun p b => tr n k w A lo hi r (hs h v (p : Int)) b) i b) so sc sb (upd ss i (ss i + iI (w v))) (upd st v (nI i)) (by omega) (by omega) (RW_in hr1 i) (HK_in hh hi') hsum1 p1
        rw [L_Se_tryFrom_97, if_neg (nI_ge hi' (by omega)), ckn (by omega) (by decide), ckn (by omega) (by decide), ckn (by omega) (by decide), nI_clamp (show v < 2 ^ 31 by omega), nI_clamp (show i < 2 ^ 31 by omega), s_cutBehind g hC hk hr1 hh hvn hi', Option.bind_some, iI_add, ← cut_in, iI_sub, nI_1, show sI w n - sI w v - w v = sI w n - sI w (v + 1) by rw [sI_s]; omega, e1, Option.bind_some, ckn (by omega) (by decide), ckn (by omega) (by decide), nI_1]
        refine ⟨(o1, o2, o3, upd o4 i (o4 i - iI (w v)), o5), rfl, e2, ?_, ?_⟩
        · intro p hp
          show upd o4 i (o4 i - iI (w v)) p = sum p
          by_cases q : p = i
          · subst q
            rw [pk_us, e3 p hp, pk_us, p2 p hp, hsum p hp, iI_add, iI_sub]
            congr 1
            omega
          · rw [pk_un q, e3 p hp, pk_un q, p2 p hp]
        · intro j hj
          show o5 j = tried j
          rw [e4 j (by omega), pk_un (by omega), p3 j hj]) k 0 64 (bo, bc, best, sum, tried) (by omega) (by omega) ⟨hbs, fun _ _ => rfl, fun _ _ => rfl⟩
      obtain ⟨so, sc, sb, ss, st⟩ := s'
      obtain ⟨p1, p2, p3⟩ := hP
      dsimp only at p1 p2 p3
      have e : L_Se_tryFrom_97 (f_Se_tryFrom d) (nI v) (iI (cutI v A h)) (iI (sI w n - sI w v)) (nI k) least most (nI n) ar wt 64 (iI (w v)) 0 bo bc best sum tried = L_Se_tryFrom_97 (f_Se_tryFrom d) (nI v) (iI (cutI v A h)) (iI (sI w n - sI w v)) (nI k) least most (nI n) ar wt (f' + 1) (iI (w v)) (nI k) so sc sb ss st := e
      rw [e, L_Se_tryFrom_97, if_pos (nI_le (Nat.le_refl k) (by omega))]
      refine ⟨so, sc, sb, ss, st, rfl, ?_, p2, p3⟩
      rw [tr, ev]
      exact p1
    cases b with
    | none =>
      obtain ⟨h1, h2⟩ := hbs
      rw [h1, h2] at go ⊢
      have e : (2000000000 : Int32) = iI 2000000000 := rfl
      rw [if_neg (by rw [e, iI_lt ⟨by omega, by omega⟩ ⟨by omega, by omega⟩]; omega), if_neg (by rw [e, iI_eq ⟨by omega, by omega⟩ ⟨by omega, by omega⟩]; omega)]
      exact go
    | some t =>
      have hbs' := hbs
      obtain ⟨h1, h2, h3⟩ := hbs
      have ho2 := g.over hB t
      have hc2 := g.cut t
      have cut1 : wrs n k w A lo hi v h t → tr n k w A lo hi (r + 1) h (some t) = some t := tr_prune g hB (r + 1) v h hv
      unfold wrs at cut1
      by_cases q1 : overI n k w lo hi t < flo n k w lo hi v h
      · rw [if_pos (by rw [h1, iI_lt ⟨by omega, by omega⟩ ⟨by omega, by omega⟩]; exact q1), cut1 (Or.inl q1)]
        exact ⟨_, _, _, _, _, rfl, hbs', fun _ _ => rfl, fun _ _ => rfl⟩
      · rw [if_neg (by rw [h1, iI_lt ⟨by omega, by omega⟩ ⟨by omega, by omega⟩]; exact q1)]
        by_cases q2 : flo n k w lo hi v h = overI n k w lo hi t
        · rw [if_pos (by rw [h1, q2])]
          by_cases q3 : cutI v A h < cutI n A t
          · rw [if_pos (by rw [h2, iI_lt ⟨by omega, by omega⟩ ⟨by omega, by omega⟩]; exact q3)]
            exact go
          · rw [if_neg (by rw [h2, iI_lt ⟨by omega, by omega⟩ ⟨by omega, by omega⟩]; exact q3), cut1 (Or.inr ⟨q2, by omega⟩)]
            exact ⟨_, _, _, _, _, rfl, hbs', fun _ _ => rfl, fun _ _ => rfl⟩
        · rw [if_neg (by rw [h1, iI_eq ⟨by omega, by omega⟩ ⟨by omega, by omega⟩]; exact q2)]
          exact go
def P0 : Nat → Int := fun _ => 0
theorem tr_some {n k : Nat} {w : Nat → Int} {A : Nat → Nat → Int} {lo hi : Nat → Int} (hk : 2 ≤ k) : ∀ r v h (b : Option (Nat → Int)), v + r = n → HK v k h → (∀ t, b = some t → HK n k t) → ∃ t, tr n k w A lo hi r h b = some t ∧ HK n k t := by
  intro r
  induction r with
  | zero =>
    intro v h b hv hh hb
    have : v = n := by omega
    subst this
    show ∃ t, up1 _ _ _ _ _ _ _ _ = _ ∧ _
    unfold up1
    cases b with
    | none => exact ⟨h, rfl, hh⟩
    | some t =>
      dsimp only
      by_cases q : btr v k w A lo hi h t = true
      · rw [if_pos q]; exact ⟨h, rfl, hh⟩
      · rw [if_neg q]; exact ⟨t, rfl, hb t rfl⟩
  | succ r ih =>
    intro v h b hv hh hb
    have ev : n - (r + 1) = v := by omega
    rw [tr, ev]
    obtain ⟨k, rfl⟩ : ∃ e, k = e + 1 := ⟨k - 1, by omega⟩
    rw [fo_s]
    refine ih (v + 1) _ _ (by omega) (HK_in hh (by omega)) ?_
    refine fo_P (P := fun b => ∀ t, b = some t → HK n (k + 1) t) k hb (fun p b hp hb' => ?_)
    intro t ht
    obtain ⟨t2, e1, e2⟩ := ih (v + 1) (hs h v (p : Int)) b (by omega) (HK_in hh (by omega)) hb'
    rw [e1] at ht
    rw [← Option.some.inj ht]
    exact e2
/-- the best split of all -/
def bst (n k : Nat) (w : Nat → Int) (A : Nat → Nat → Int) (lo hi : Nat → Int) : Nat → Int := match tr n k w A lo hi n P0 none with
  | none => P0
  | some t => t
theorem bst_ok {n k : Nat} {w : Nat → Int} {A : Nat → Nat → Int} {lo hi : Nat → Int} (hk : 2 ≤ k) : tr n k w A lo hi n P0 none = some (bst n k w A lo hi) ∧ HK n k (bst n k w A lo hi) := by
  obtain ⟨t, e1, e2⟩ := tr_some (n := n) (w := w) (A := A) (lo := lo) (hi := hi) hk n 0 P0 none (by omega) (fun i hi => absurd hi (Nat.not_lt_zero i)) (fun t ht => by cases ht)
  unfold bst
  rw [e1]
  exact ⟨rfl, e2⟩
theorem s_findBest {n k : Nat} {w : Nat → Int} {A : Nat → Nat → Int} {lo hi : Nat → Int} {wt ar least most best tried home : Nat → Int32} (g : GOK n w A) (hC : CG n w A wt ar) (hB : BOK k lo hi) (hb : RB k lo hi least most) (hn16 : n ≤ 16) : ∃ o1 o2 o3 o4 o5 home', f_Se_findBest best tried (nI k) least most (nI n) ar wt home = some (o1, o2, o3, o4, o5, home') ∧ RW n (bst n k w A lo hi) home' := by
  unfold f_Se_findBest
  rw [s_total g hC, Option.bind_some]
  obtain ⟨o1, o2, o3, o4, o5, e1, e2, e3, e4⟩ := s_tryFrom g hC hB hb hn16 n 0 20 P0 none 2000000000 2000000000 best (fun _ => 0) tried (by omega) (by omega) (fun i hi => absurd hi (Nat.not_lt_zero i)) (fun i hi => absurd hi (Nat.not_lt_zero i)) (fun p hp => rfl) ⟨rfl, rfl⟩
  have e1 : f_Se_tryFrom 20 0 0 (iI (sI w n - 0)) 2000000000 2000000000 best (fun _ => 0) tried (nI k) least most (nI n) ar wt = _ := e1
  rw [Int.sub_zero] at e1
  have okn : okc 0 0 (nI n) 40 40 = true := by
    unfold okc
    rw [nI_clamp (by omega)]
    simp only [Bool.and_eq_true, decide_eq_true_eq]
    exact ⟨⟨by decide, by decide⟩, nI_pos (by omega), by show 0 + n ≤ 40; omega, by show 0 + n ≤ 40; omega⟩
  rw [e1, Option.bind_some, ck_true okn]
  refine ⟨_, _, _, _, _, _, rfl, ?_⟩
  rw [(bst_ok hB.1).1] at e2
  intro i hi'
  show va_cpy o3 home (0 : Int32).toNatClampNeg (0 : Int32).toNatClampNeg (nI n).toNatClampNeg i = _
  rw [← e2.2.2 i hi', nI_clamp (by omega)]
  unfold va_cpy
  rw [show (0 : Int32).toNatClampNeg = 0 from rfl, if_pos (show 0 ≤ i ∧ i < 0 + n by omega), Nat.zero_add, Nat.sub_zero]
