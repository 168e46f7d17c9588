/-! WHAT HOLDS BETWEEN TWO CALLS, on both sides -/
theorem iI_ex (x : Int32) : ∃ z, r32 z ∧ x = iI z := by
  have h1 := Int32.minValue_le_toInt x
  have h2 := Int32.toInt_le x
  have hz : r32 x.toInt := ⟨h1, by have : x.toInt < 2147483648 := by { have := x.toInt_lt; exact this }; omega⟩
  exact ⟨x.toInt, hz, by rw [← Int32.toInt_inj, iI_toInt hz]⟩
theorem s_isIn {a b c : Int} (ha : r64 a) (hb : r64 b) (hc : r64 c) : f_Re_isIn (lI a) (lI b) (lI c) = some (if b ≤ a ∧ a ≤ c then 1 else 0) := by
  unfold f_Re_isIn
  by_cases q1 : a < b
  · rw [if_pos (by rw [lg_cmp_lt, lI_lt ha hb]; exact q1), if_neg (by omega)]
  · rw [if_neg (by rw [lg_cmp_lt, lI_lt ha hb]; exact q1)]
    by_cases q2 : c < a
    · rw [if_pos (by rw [lg_cmp_gt, lI_lt hc ha]; exact q2), if_neg (by omega)]
    · rw [if_neg (by rw [lg_cmp_gt, lI_lt hc ha]; exact q2), if_pos (by omega)]
theorem nI_m (n : Nat) : nI n - 1 = iI ((n : Int) - 1) := by rw [nI_iI, ← iI_1, iI_sub]
theorem r64_m {n : Nat} (hn : n ≤ 100) : r64 ((n : Int) - 1) := ⟨by omega, by omega⟩
theorem s_in0 {z : Int} {n : Nat} (hz : r32 z) (hn : n ≤ 100) : f_Re_isIn (iI z).toInt64 (0 : Int64) ((nI n - 1).toInt64) = some (if 0 ≤ z ∧ z < n then 1 else 0) := by
  rw [iI_l hz, nI_m, iI_l ⟨by omega, by omega⟩, ← lI_0, s_isIn (r64_of hz) ⟨by omega, by omega⟩ (r64_m hn)]
  by_cases q : 0 ≤ z ∧ z < n
  · rw [if_pos q, if_pos (by omega)]
  · rw [if_neg q, if_neg (by omega)]
theorem s_isNode {z : Int} {n : Nat} (hz : r32 z) (hn : n ≤ 100) : f_Re_isNode (iI z) (nI n) = some (if 0 ≤ z ∧ z < n then 1 else 0) := by
  unfold f_Re_isNode
  rw [s_in0 hz hn, Option.bind_some]
  by_cases q : 0 ≤ z ∧ z < n
  · rw [if_pos q]; rfl
  · rw [if_neg q]; rfl
theorem s_isPart {z : Int} {n : Nat} (hz : r32 z) (hn : n ≤ 100) : f_Re_isPart (iI z) (nI n) = some (if 0 ≤ z ∧ z < n then 1 else 0) := by
  unfold f_Re_isPart
  rw [s_in0 hz hn, Option.bind_some]
  by_cases q : 0 ≤ z ∧ z < n
  · rw [if_pos q]; rfl
  · rw [if_neg q]; rfl
theorem s_has {z : Int} {n : Nat} (hz : r32 z) (hn : n ≤ 100) : f_Gr_has (iI z) (nI n) = some (if 0 ≤ z ∧ z < n then 1 else 0) := by
  unfold f_Gr_has
  rw [nI_iI, ← iI_0]
  by_cases q1 : z < 0
  · rw [if_pos ((iI_lt hz ⟨by omega, by omega⟩).mpr q1), if_neg (by omega)]
  · rw [if_neg (fun e => q1 ((iI_lt hz ⟨by omega, by omega⟩).mp e))]
    by_cases q2 : (n : Int) ≤ z
    · rw [if_pos ((iI_le ⟨by omega, by omega⟩ hz).mpr q2), if_neg (by omega)]
    · rw [if_neg (fun e => q2 ((iI_le ⟨by omega, by omega⟩ hz).mp e)), if_pos (by omega)]
theorem s_bhas {z : Int} {n : Nat} (hz : r32 z) (hn : n ≤ 100) : f_Bo_has (iI z) (nI n) = some (if 0 ≤ z ∧ z < n then 1 else 0) := s_has hz hn
/-- the numbers behind both sides -/
def MOK (n k : Nat) (w : Nat → Int) (A : Nat → Nat → Int) (lo hi h : Nat → Int) : Prop := n ≤ 40 ∧ (∀ i, i < n → 1 ≤ w i ∧ w i ≤ 1000) ∧ (∀ i j, i < n → j < n → 0 ≤ A i j ∧ A i j ≤ 1000000) ∧ (∀ i j, i < n → j < n → A i j = A j i) ∧ (∀ i, i < n → A i i = 0) ∧ BOK k lo hi ∧ HK n k h
theorem sI_gap {f : Nat → Int} {c : Int} {v : Nat} (hc : 0 ≤ c) : ∀ n, (∀ i, i < n → f i ≤ c) → f v = 0 → v < n → sI f n ≤ (n - 1) * c := by
  intro n
  induction n with
  | zero => intro _ _ hv; exact absurd hv (Nat.not_lt_zero v)
  | succ n ih =>
    intro h1 h2 hv
    rw [sI_s]
    by_cases q : v = n
    · subst q
      have := sI_le (f := f) (g := fun _ => c) (n := v) (fun i hi => h1 i (by omega))
      rw [sI_const] at this
      rw [h2, show ((v + 1 : Nat) : Int) - 1 = (v : Int) by omega]
      omega
    · have e1 := ih (fun i hi => h1 i (by omega)) h2 (by omega)
      have e2 := h1 n (by omega)
      rw [show ((n + 1 : Nat) : Int) - 1 = ((n : Int) - 1) + 1 by omega, Int.add_mul, Int.one_mul]
      omega
theorem MOK.g {n k : Nat} {w : Nat → Int} {A : Nat → Nat → Int} {lo hi h : Nat → Int} (m : MOK n k w A lo hi h) : GOK n w A := by
  obtain ⟨m1, m2, m3, m4, m5, m6, m7⟩ := m
  have hw := sI_bnd (f := w) (n := n) (c := 1000) (fun i hi => ⟨by have := m2 i hi; omega, (m2 i hi).2⟩)
  refine ⟨m1, fun i hi => (m2 i hi).1, by omega, fun i j hi hj => (m3 i j hi hj).1, ?_, m4, m5⟩
  have hr : ∀ i, i < n → sI (fun j => A i j) n ≤ 39000000 := by
    intro i hi
    have e := sI_gap (f := fun j => A i j) (c := 1000000) (v := i) (by omega) n (fun j hj => (m3 i j hi hj).2) (m5 i hi) hi
    have : ((n : Int) - 1) * 1000000 ≤ 39000000 := by omega
    exact Int.le_trans e this
  have e := sI_le (f := fun i => sI (fun j => A i j) n) (g := fun _ => 39000000) (n := n) hr
  rw [sI_const] at e
  have : (n : Int) * 39000000 ≤ 1560000000 := by omega
  exact Int.le_trans e this
def CI (n k : Nat) (w : Nat → Int) (A : Nat → Nat → Int) (lo hi h : Nat → Int) (fr ct : Int32) (ho ls : Nat → Int32) (kk : Int32) (least most : Nat → Int32) (sz : Int32) (ar wt home : Nat → Int32) : Prop := sz = nI n ∧ kk = nI k ∧ CG n w A wt ar ∧ (∀ i j, i < 40 → j < 40 → (n ≤ i ∨ n ≤ j) → ar (i * 40 + j) = 0) ∧ RB k lo hi least most ∧ RW n h home ∧ (fr = 0 ∨ (fr = 1 ∧ ct = nI (lvC n k w A) ∧ CV n k (lvC n k w A) w A ho ls))
def RI2 (n k : Nat) (w : Nat → Int) (A : Nat → Nat → Int) (lo hi h : Nat → Int) (nd kd : Int32) (arcs least most split weight : Nat → Int32) : Prop := nd = nI n ∧ kd = nI k ∧ (∀ i, i < n → weight i = iI (w i)) ∧ (∀ i j, i < n → j < n → arcs (40 * i + j) = iI (A i j)) ∧ RB k lo hi least most ∧ RW n h split
def INV (fr ct : Int32) (ho ls : Nat → Int32) (kk : Int32) (least most : Nat → Int32) (sz : Int32) (ar wt home : Nat → Int32) (nd kd : Int32) (arcs rleast rmost split weight : Nat → Int32) : Prop := ∃ (n k : Nat) (w : Nat → Int) (A : Nat → Nat → Int) (lo hi h : Nat → Int), MOK n k w A lo hi h ∧ CI n k w A lo hi h fr ct ho ls kk least most sz ar wt home ∧ RI2 n k w A lo hi h nd kd arcs rleast rmost split weight
theorem iI_q {z : Int} {n : Nat} (h : 0 ≤ z ∧ z < n) : ∃ q : Nat, q < n ∧ z = q ∧ iI z = nI q := iI_pn h.1 h.2
theorem sim_put {x1 x2 fr ct kk sz nd kd : Int32} {ho ls least most ar wt home arcs rleast rmost split weight : Nat → Int32} (hI : INV fr ct ho ls kk least most sz ar wt home nd kd arcs rleast rmost split weight) : ∃ a home' split', f_Ba_put x1 x2 kk sz home = some (a, home') ∧ f_Re_put x1 x2 nd kd split = some (a, split') ∧ INV fr ct ho ls kk least most sz ar wt home' nd kd arcs rleast rmost split' weight := by
  have hI' := hI
  obtain ⟨n, k, w, A, lo, hi, h, m, ⟨c1, c2, c3, c4, c5, c6, c7⟩, r1, r2, r3, r4, r5, r6⟩ := hI
  have hn := m.1
  have hk := m.2.2.2.2.2.1.2.1
  obtain ⟨z1, hz1, rfl⟩ := iI_ex x1
  obtain ⟨z2, hz2, rfl⟩ := iI_ex x2
  subst c1 c2 r1 r2
  unfold f_Ba_put f_Re_put
  rw [s_has hz1 (by omega), s_isNode hz1 (by omega), Option.bind_some, Option.bind_some]
  by_cases q1 : 0 ≤ z1 ∧ z1 < n
  · rw [if_pos q1, if_neg (show ¬ (1 : Int32) = 0 by decide), if_neg (show ¬ (1 : Int32) = 0 by decide), s_bhas hz2 (by omega), s_isPart hz2 (by omega), Option.bind_some, Option.bind_some]
    by_cases q2 : 0 ≤ z2 ∧ z2 < k
    · obtain ⟨v, hv, e1, e2⟩ := iI_q q1
      rw [if_pos q2, if_neg (show ¬ (1 : Int32) = 0 by decide), if_neg (show ¬ (1 : Int32) = 0 by decide), e2, ckn (by omega) (by decide), ckn (by omega) (by decide), ckn (by omega) (by decide), ckn (by omega) (by decide), nI_clamp (by omega), c6 v hv, r6 v hv]
      refine ⟨_, _, _, rfl, rfl, n, k, w, A, lo, hi, hs h v z2, ⟨m.1, m.2.1, m.2.2.1, m.2.2.2.1, m.2.2.2.2.1, m.2.2.2.2.2.1, ?_⟩, ⟨rfl, rfl, c3, c4, c5, RW.hs c6 v z2, c7⟩, rfl, rfl, r3, r4, r5, RW.hs r6 v z2⟩
      intro i hi'
      by_cases z : i = v
      · subst z; rw [hs_s]; exact q2
      · rw [hs_n z]; exact m.2.2.2.2.2.2 i hi'
    · rw [if_neg q2, if_pos rfl, if_pos rfl]
      exact ⟨_, _, _, rfl, rfl, hI'⟩
  · rw [if_neg q1, if_pos rfl, if_pos rfl]
    exact ⟨_, _, _, rfl, rfl, hI'⟩
theorem sim_bound {x1 x2 x3 fr ct kk sz nd kd : Int32} {ho ls least most ar wt home arcs rleast rmost split weight : Nat → Int32} (hI : INV fr ct ho ls kk least most sz ar wt home nd kd arcs rleast rmost split weight) : ∃ a least' most' rleast' rmost', f_Ba_bound x1 x2 x3 kk least most = some (a, least', most') ∧ f_Re_bound x1 x2 x3 kd rleast rmost = some (a, rleast', rmost') ∧ INV fr ct ho ls kk least' most' sz ar wt home nd kd arcs rleast' rmost' split weight := by
  have hI' := hI
  obtain ⟨n, k, w, A, lo, hi, h, m, ⟨c1, c2, c3, c4, c5, c6, c7⟩, r1, r2, r3, r4, r5, r6⟩ := hI
  have hk := m.2.2.2.2.2.1.2.1
  obtain ⟨z1, hz1, rfl⟩ := iI_ex x1
  obtain ⟨z2, hz2, rfl⟩ := iI_ex x2
  obtain ⟨z3, hz3, rfl⟩ := iI_ex x3
  subst c1 c2 r1 r2
  have i1 : r32 1000000 := ⟨by omega, by omega⟩
  have i0 : r32 0 := ⟨by omega, by omega⟩
  unfold f_Ba_bound f_Re_bound
  rw [s_bhas hz1 (by omega), s_isPart hz1 (by omega), Option.bind_some, Option.bind_some]
  by_cases q1 : 0 ≤ z1 ∧ z1 < k
  · rw [if_pos q1, if_neg (show ¬ (1 : Int32) = 0 by decide), if_neg (show ¬ (1 : Int32) = 0 by decide), iI_l hz2, iI_l hz3, show (1000000 : Int64) = lI 1000000 from rfl, ← lI_0, s_isIn (r64_of hz2) (r64_of i0) (r64_of i1), s_isIn (r64_of hz3) (r64_of hz2) (r64_of i1), Option.bind_some, show (1000000 : Int32) = iI 1000000 from rfl, ← iI_0]
    by_cases q2 : z2 < 0
    · rw [if_pos ((iI_lt hz2 i0).mpr q2), if_neg (show ¬ (0 ≤ z2 ∧ z2 ≤ 1000000) by omega), if_pos rfl]
      exact ⟨_, _, _, _, _, rfl, rfl, hI'⟩
    · rw [if_neg (fun e => q2 ((iI_lt hz2 i0).mp e))]
      by_cases q3 : 1000000 < z3
      · rw [if_pos ((iI_lt i1 hz3).mpr q3), if_neg (show ¬ (z2 ≤ z3 ∧ z3 ≤ 1000000) by omega)]
        by_cases q4 : 0 ≤ z2 ∧ z2 ≤ 1000000
        · rw [if_pos q4, if_neg (show ¬ (1 : Int32) = iI 0 by decide), Option.bind_some, if_pos rfl]
          exact ⟨_, _, _, _, _, rfl, rfl, hI'⟩
        · rw [if_neg q4, if_pos rfl]
          exact ⟨_, _, _, _, _, rfl, rfl, hI'⟩
      · rw [if_neg (fun e => q3 ((iI_lt i1 hz3).mp e))]
        by_cases q4 : z2 ≤ z3
        · obtain ⟨v, hv, e1, e2⟩ := iI_q q1
          rw [if_pos ((iI_le hz2 hz3).mpr q4), if_pos (show 0 ≤ z2 ∧ z2 ≤ 1000000 by omega), if_pos (show z2 ≤ z3 ∧ z3 ≤ 1000000 by omega), if_neg (show ¬ (1 : Int32) = iI 0 by decide), Option.bind_some, if_neg (show ¬ (1 : Int32) = iI 0 by decide), e2, ckn (by omega) (by decide), ckn (by omega) (by decide), ckn (by omega) (by decide), ckn (by omega) (by decide), nI_clamp (by omega)]
          refine ⟨_, _, _, _, _, rfl, rfl, n, k, w, A, hs lo v z2, hs hi v z3, h, ⟨m.1, m.2.1, m.2.2.1, m.2.2.2.1, m.2.2.2.2.1, ⟨m.2.2.2.2.2.1.1, hk, ?_⟩, m.2.2.2.2.2.2⟩, ⟨rfl, rfl, c3, c4, ?_, c6, c7⟩, rfl, rfl, r3, r4, ?_, r6⟩
          · intro p hp
            by_cases z : p = v
            · subst z; rw [hs_s, hs_s]; omega
            · rw [hs_n z, hs_n z]; exact m.2.2.2.2.2.1.2.2 p hp
          · intro p hp
            by_cases z : p = v
            · subst z; rw [hs_s, hs_s, pk_us, pk_us]; exact ⟨rfl, rfl⟩
            · rw [hs_n z, hs_n z, pk_un z, pk_un z]; exact c5 p hp
          · intro p hp
            by_cases z : p = v
            · subst z; rw [hs_s, hs_s, pk_us, pk_us]; exact ⟨rfl, rfl⟩
            · rw [hs_n z, hs_n z, pk_un z, pk_un z]; exact r5 p hp
        · rw [if_neg (fun e => q4 ((iI_le hz2 hz3).mp e)), if_neg (show ¬ (z2 ≤ z3 ∧ z3 ≤ 1000000) by omega)]
          by_cases q5 : 0 ≤ z2 ∧ z2 ≤ 1000000
          · rw [if_pos q5, if_neg (show ¬ (1 : Int32) = iI 0 by decide), Option.bind_some, if_pos rfl]
            exact ⟨_, _, _, _, _, rfl, rfl, hI'⟩
          · rw [if_neg q5, if_pos rfl]
            exact ⟨_, _, _, _, _, rfl, rfl, hI'⟩
  · rw [if_neg q1, if_pos rfl, if_pos rfl]
    exact ⟨_, _, _, _, _, rfl, rfl, hI'⟩
theorem sim_between {x1 x2 fr ct kk sz nd kd : Int32} {ho ls least most ar wt home arcs rleast rmost split weight : Nat → Int32} (hI : INV fr ct ho ls kk least most sz ar wt home nd kd arcs rleast rmost split weight) : ∃ a, f_Ba_between x1 x2 sz ar = some a ∧ f_Re_between x1 x2 nd arcs = some a := by
  obtain ⟨n, k, w, A, lo, hi, h, m, ⟨c1, c2, c3, c4, c5, c6, c7⟩, r1, r2, r3, r4, r5, r6⟩ := hI
  have hn := m.1
  obtain ⟨z1, hz1, rfl⟩ := iI_ex x1
  obtain ⟨z2, hz2, rfl⟩ := iI_ex x2
  subst c1 c2 r1 r2
  unfold f_Ba_between f_Re_between
  rw [s_has hz1 (by omega), s_isNode hz1 (by omega), Option.bind_some, Option.bind_some]
  by_cases q1 : 0 ≤ z1 ∧ z1 < n
  · rw [if_pos q1, if_neg (show ¬ (1 : Int32) = 0 by decide), if_neg (show ¬ (1 : Int32) = 0 by decide), s_has hz2 (by omega), s_isNode hz2 (by omega), Option.bind_some, Option.bind_some]
    by_cases q2 : 0 ≤ z2 ∧ z2 < n
    · obtain ⟨v, hv, e1, e2⟩ := iI_q q1
      obtain ⟨u, hu, e3, e4⟩ := iI_q q2
      rw [if_pos q2, if_neg (show ¬ (1 : Int32) = 0 by decide), if_neg (show ¬ (1 : Int32) = 0 by decide), e2, e4, s_garc (by omega) (by omega), Option.bind_some, n40', ckn (by omega) (by decide), nI_clamp (by omega), c3.2 v u hv hu, r4 v u hv hu]
      exact ⟨_, rfl, rfl⟩
    · rw [if_neg q2, if_pos rfl, if_pos rfl]
      exact ⟨_, rfl, rfl⟩
  · rw [if_neg q1, if_pos rfl, if_pos rfl]
    exact ⟨_, rfl, rfl⟩
