theorem s_rs48 {n k : Nat} {w : Nat → Int} {A : Nat → Nat → Int} {lo hi : Nat → Int} {LW LA above LI LN od ar wt most least split row : Nat → Int32} {lv x : Int32} {al : Int} (g : GOK n w A) (hL : RL n 0 w A LW LA) (hB : BOK k lo hi) (hb : RB k lo hi least most) (hA : ∀ i j, i < n → j < n → ar (40 * i + j) = iI (A i j)) (hW : ∀ i, i < n → wt i = iI (w i)) (h0 : 0 ≤ al) (h1 : al ≤ 1000) (ho : ∀ i, i < n → od i = nI (ordr n x i)) (hr : RW n (fun _ => -1) row) : ∃ row', L_Re_stream_48 (iI al) (nI n) (nI k) ar most split wt 64 0 lv (nI n) (nI 0) above LA LI LN LW od row = J_Re_stream_268 (nI n) split lv (nI n) (nI 0) above LA LI LN LW od row' ∧ RW n (stF n k w A hi al x n) row' := by
  have hn := g.1
  obtain ⟨f', s', e, hP⟩ := loopP (fun f i (s : Nat → Int32) => L_Re_stream_48 (iI al) (nI n) (nI k) ar most split wt f (nI i) lv (nI n) (nI 0) above LA LI LN LW od s) n (fun i s => RW n (stF n k w A hi al x i) s) (by
    intro f i s hi' hs'
    show ∃ s', L_Re_stream_48 _ _ _ _ _ _ _ (f + 1) (nI i) _ _ _ _ _ _ _ _ _ s = _ ∧ _
    have hv := ordr_lt (x := x) hi'
    have hok := (stF_out (n := n) (k := k) (w := w) (A := A) (hi := hi) (al := al) (x := x) hB.1 i (by omega)).2.1
    rw [L_Re_stream_48, if_neg (nI_ge hi' (by omega)), ckn (by omega) (by decide), nI_clamp (by omega), ho i hi', s_rs73 g hL hs' hB hb hok hA hW h0 h1 hv, nI_1]
    refine ⟨upd s (ordr n x i) (nI (stP n k w A hi (stF n k w A hi al x i) al (ordr n x i))), rfl, ?_⟩
    have := RW.hs hs' (ordr n x i) (stP n k w A hi (stF n k w A hi al x i) al (ordr n x i) : Int)
    rw [← nI_iI] at this
    exact this) n 0 64 row (by omega) (by omega) hr
  have e : L_Re_stream_48 (iI al) (nI n) (nI k) ar most split wt 64 0 lv (nI n) (nI 0) above LA LI LN LW od row = L_Re_stream_48 (iI al) (nI n) (nI k) ar most split wt (f' + 1) (nI n) lv (nI n) (nI 0) above LA LI LN LW od s' := e
  refine ⟨s', ?_, hP⟩
  rw [e, L_Re_stream_48, if_pos (nI_le (Nat.le_refl n) (by omega))]
theorem s_rs25 {n : Nat} {LW LA above LI LN od ar wt most split row : Nat → Int32} {lv al kd sz bs : Int32} (hn : n ≤ 40) : ∃ row', L_Re_stream_25 al (nI n) kd ar most split wt 64 0 lv sz bs above LA LI LN LW od row = L_Re_stream_48 al (nI n) kd ar most split wt 64 0 lv sz bs above LA LI LN LW od row' ∧ RW n (fun _ => -1) row' := by
  obtain ⟨f', s', e, hP⟩ := loopP (fun f i (s : Nat → Int32) => L_Re_stream_25 al (nI n) kd ar most split wt f (nI i) lv sz bs above LA LI LN LW od s) n (fun i s => ∀ j, j < i → s j = -1) (by
    intro f i s hi' hs'
    show ∃ s', L_Re_stream_25 _ _ _ _ _ _ _ (f + 1) (nI i) _ _ _ _ _ _ _ _ _ s = _ ∧ _
    rw [L_Re_stream_25, if_neg (nI_ge hi' (by omega)), ckn (by omega) (by decide), nI_clamp (by omega), nI_1]
    refine ⟨upd s i (-1), rfl, fun j hj => ?_⟩
    by_cases q : j = i
    · subst q; rw [pk_us]
    · rw [pk_un q]; exact hs' j (by omega)) n 0 64 row (by omega) (by omega) (fun j hj => absurd hj (Nat.not_lt_zero j))
  have e : L_Re_stream_25 al (nI n) kd ar most split wt 64 0 lv sz bs above LA LI LN LW od row = L_Re_stream_25 al (nI n) kd ar most split wt (f' + 1) (nI n) lv sz bs above LA LI LN LW od s' := e
  refine ⟨s', ?_, fun i hi' => hP i hi'⟩
  rw [e, L_Re_stream_25, if_pos (nI_le (Nat.le_refl n) (by omega))]
theorem sim_stream {x1 x2 c0 o0 lv sz0 bs fr ct kk sz nd kd : Int32} {orow owt link0 sum0 ho ls least most ar wt home arcs rleast rmost split weight LA LI LN LW row above od : Nat → Int32} (hI : INV fr ct ho ls kk least most sz ar wt home nd kd arcs rleast rmost split weight) : ∃ a o1 o2 o3 o4 home' o6 o7 p1 p2 p3 p4 p5 p6 p7 p8 p9 p10 split', f_Ba_stream x1 x2 orow owt c0 o0 kk least most sz ar wt home link0 sum0 = some (a, o1, o2, o3, o4, home', o6, o7) ∧ f_Re_stream x1 x2 nd kd lv sz0 bs above arcs LA LI LN LW rmost od row split weight = some (a, p1, p2, p3, p4, p5, p6, p7, p8, p9, p10, split') ∧ INV fr ct ho ls kk least most sz ar wt home' nd kd arcs rleast rmost split' weight := by
  have hI' := hI
  obtain ⟨n, k, w, A, lo, hi, h, m, ⟨c1, c2, c3, c4, c5, c6, c7⟩, r1, r2, r3, r4, r5, r6⟩ := hI
  have g := m.g
  have hn := m.1
  have hB := m.2.2.2.2.2.1
  have hh := m.2.2.2.2.2.2
  obtain ⟨z, hz, rfl⟩ := iI_ex x2
  subst c1 c2 r1 r2
  unfold f_Ba_stream f_Re_stream
  rw [iI_l hz, show (1000 : Int64) = lI 1000 from rfl, ← lI_0, s_isIn (r64_of hz) ⟨by omega, by omega⟩ ⟨by omega, by omega⟩, Option.bind_some, show (1000 : Int32) = iI 1000 from rfl]
  by_cases q1 : z < 0
  · rw [if_pos (show iI z < (0 : Int32) from (iI_lt (b := 0) hz ⟨by omega, by omega⟩).mpr q1), if_neg (show ¬ (0 ≤ z ∧ z ≤ 1000) by omega), if_pos rfl]
    exact ⟨_, _, _, _, _, _, _, _, _, _, _, _, _, _, _, _, _, _, _, rfl, rfl, hI'⟩
  · rw [if_neg (show ¬ iI z < (0 : Int32) from fun e => q1 ((iI_lt (b := 0) hz ⟨by omega, by omega⟩).mp e))]
    by_cases q2 : z ≤ 1000
    · obtain ⟨ro, wa, e1, e2⟩ := s_draw (x := x1) (row := orow) (wt := owt) hn
      obtain ⟨ab, od', e3, e4⟩ := s_makeOrder (x := x1) (ab := above) (od := od) hn
      obtain ⟨LA', LI', LN', LW', row', e5, e6, e7⟩ := s_takeSplit (LA := LA) (LI := LI) (LN := LN) (LW := LW) (row := row) g hB.1 hB.2.1 r3 r4 r6
      obtain ⟨home', sum', e8, e9⟩ := s_streamAll (al := z) g c3 hB c5 (by omega) q2 e2
      have hk2 : HK n k (stF n k w A hi z x1 n) := stF_HK hB.1
      obtain ⟨link, sum, cut, over, e1', e2'⟩ := s_recount g c3 e9 hB c5 hk2
      obtain ⟨row1, f1, f2⟩ := s_rs25 (LW := LW') (LA := LA') (above := ab) (LI := LI') (LN := LN') (od := od') (ar := arcs) (wt := weight) (most := rmost) (split := split) (row := row') (lv := nI (lvC n k w A)) (al := iI z) (kd := nI k) (sz := nI n) (bs := nI 0) hn
      obtain ⟨row2, f3, f4⟩ := s_rs48 (above := ab) (LI := LI') (LN := LN') (split := split) (lv := nI (lvC n k w A)) g e6 hB r5 r4 r3 (show 0 ≤ z by omega) q2 e4 f2
      obtain ⟨sp2, f5, f6⟩ := s_giveSplit (split := split) hn f4
      rw [if_pos ((iI_le hz ⟨by omega, by omega⟩).mpr q2), if_pos (show 0 ≤ z ∧ z ≤ 1000 by omega), if_neg (show ¬ (1 : Int32) = 0 by decide), e1, Option.bind_some, e8, Option.bind_some]
      dsimp only
      rw [e1', Option.bind_some, e3, Option.bind_some, e5, Option.bind_some]
      dsimp only
      rw [f1, f3]
      unfold J_Re_stream_268
      rw [f5, Option.bind_some, s_rowCut g e6 f4 hB.2.1 (HK.ok hk2), Option.bind_some, lI_i, e2'.2.2.1]
      exact ⟨_, _, _, _, _, _, _, _, _, _, _, _, _, _, _, _, _, _, _, rfl, rfl, n, k, w, A, lo, hi, _, ⟨m.1, m.2.1, m.2.2.1, m.2.2.2.1, m.2.2.2.2.1, hB, hk2⟩, ⟨rfl, rfl, c3, c4, c5, e9, c7⟩, rfl, rfl, r3, r4, r5, f6⟩
    · rw [if_neg (fun e => q2 ((iI_le hz ⟨by omega, by omega⟩).mp e)), if_neg (show ¬ (0 ≤ z ∧ z ≤ 1000) by omega), if_pos rfl]
      exact ⟨_, _, _, _, _, _, _, _, _, _, _, _, _, _, _, _, _, _, _, rfl, rfl, hI'⟩
theorem pow_up {k i n : Nat} (hk : 2 ≤ k) (h : i ≤ n) : k ^ i ≤ k ^ n := Nat.pow_le_pow_right (by omega) h
theorem s_tooMany {n k : Nat} (hn : n ≤ 40) (hk1 : 2 ≤ k) (hk : k ≤ 4) : f_Ba_hasTooManySplits (nI k) (nI n) = some (if k ^ n ≤ 60000 then 0 else 1) := by
  have key : ∀ m i f, i + m = n → m < f → k ^ i ≤ 240000 → L_Ba_hasTooManySplits_4 (nI k) (nI n) f (nI (k ^ i)) (nI i) = some (if k ^ n ≤ 60000 then 0 else 1) := by
    intro m
    induction m with
    | zero =>
      intro i f hi hf hp
      obtain ⟨f, rfl⟩ : ∃ e, f = e + 1 := ⟨f - 1, by omega⟩
      have : i = n := by omega
      subst this
      rw [L_Ba_hasTooManySplits_4, if_pos (nI_le (Nat.le_refl i) (by omega))]
      unfold J_Ba_hasTooManySplits_43
      rw [show (60000 : Int32) = nI 60000 from rfl]
      by_cases q : k ^ i ≤ 60000
      · rw [if_pos (nI_le q (by decide)), if_pos q]
      · rw [if_neg (nI_ge (by omega) (by omega)), if_neg q]
    | succ m ih =>
      intro i f hi hf hp
      obtain ⟨f, rfl⟩ : ∃ e, f = e + 1 := ⟨f - 1, by omega⟩
      rw [L_Ba_hasTooManySplits_4, if_neg (nI_ge (show i < n by omega) (by omega)), show (60000 : Int32) = nI 60000 from rfl]
      by_cases q : 60000 < k ^ i
      · have := pow_up (n := n) hk1 (show i ≤ n by omega)
        rw [if_pos (nI_lt q (by omega)), if_neg (by omega)]
        unfold J_Ba_hasTooManySplits_43
        rw [show (60000 : Int32) = nI 60000 from rfl, if_neg (nI_ge q (by omega))]
      · have e : k ^ (i + 1) = k ^ i * k := Nat.pow_succ ..
        have b : k ^ i * k ≤ 60000 * 4 := Nat.mul_le_mul (by omega) hk
        rw [if_neg (nI_nlt (by omega) (by decide)), pk_mul, nI_1, ← e]
        exact ih (i + 1) f (by omega) (by omega) (by omega)
  exact key n 0 64 (by omega) (by omega) (by simp)
theorem s_cutOrMiss {n k : Nat} {w : Nat → Int} {A : Nat → Nat → Int} {h lo hi : Nat → Int} {wt ar home least most : Nat → Int32} (g : GOK n w A) (hC : CG n w A wt ar) (hr : RW n h home) (hB : BOK k lo hi) (hb : RB k lo hi least most) (hh : HK n k h) : ∃ o1 o2 o3 o4, f_Ba_cutOrMiss (nI k) least most (nI n) ar wt home = some (iI (if overI n k w lo hi h = 0 then cutI n A h else -10 - overI n k w lo hi h), o1, o2, o3, o4) := by
  obtain ⟨link, sum, cut, over, e1, e2⟩ := s_recount g hC hr hB hb hh
  have ho := g.over hB h
  unfold f_Ba_cutOrMiss
  rw [e1, Option.bind_some]
  dsimp only
  rw [e2.2.2.2, e2.2.2.1]
  by_cases q : overI n k w lo hi h = 0
  · rw [if_pos (by rw [q]; rfl), if_pos q]
    exact ⟨_, _, _, _, rfl⟩
  · rw [if_neg (by rw [← iI_0, iI_eq ⟨by omega, by omega⟩ ⟨by omega, by omega⟩]; exact q), if_neg q, show (-10 : Int32) = iI (-10) from rfl, iI_sub]
    exact ⟨_, _, _, _, rfl⟩
theorem few16 {n k : Nat} (hk1 : 2 ≤ k) (h : k ^ n ≤ 60000) : n ≤ 16 := by
  have h1 : 2 ^ n ≤ k ^ n := Nat.pow_le_pow_left hk1 n
  by_cases q : n ≤ 16
  · exact q
  · have : 2 ^ 16 ≤ 2 ^ n := Nat.pow_le_pow_right (by omega) (by omega)
    omega
theorem s_rexact {n k : Nat} {a0 a1 a2 : Int32} {f0 f1 f2 f3 f4 f5 f6 f7 f8 f9 f10 : Nat → Int32} (hn : n ≤ 40) (hk1 : 2 ≤ k) (hk : k ≤ 4) : f_Re_exact (nI n) (nI k) a0 a1 a2 f0 f1 f2 f3 f4 f5 f6 f7 f8 f9 f10 = J_Re_exact_34 (nI n) (nI k) a0 a1 a2 f0 f1 f2 f3 f4 f5 f6 f7 f8 f9 f10 (lI (k ^ n : Nat)) ∧ k ^ n ≤ 240000 ∨ (¬ k ^ n ≤ 60000 ∧ f_Re_exact (nI n) (nI k) a0 a1 a2 f0 f1 f2 f3 f4 f5 f6 f7 f8 f9 f10 = J_Re_exact_34 (nI n) (nI k) a0 a1 a2 f0 f1 f2 f3 f4 f5 f6 f7 f8 f9 f10 (lI 60001)) := by
  have key : ∀ m i f, i + m = n → m < f → k ^ i ≤ 240000 → L_Re_exact_4 (nI n) (nI k) a0 a1 a2 f0 f1 f2 f3 f4 f5 f6 f7 f8 f9 f10 f (lI (k ^ i : Nat)) (nI i) = J_Re_exact_34 (nI n) (nI k) a0 a1 a2 f0 f1 f2 f3 f4 f5 f6 f7 f8 f9 f10 (lI (k ^ n : Nat)) ∧ k ^ n ≤ 240000 ∨ (¬ k ^ n ≤ 60000 ∧ L_Re_exact_4 (nI n) (nI k) a0 a1 a2 f0 f1 f2 f3 f4 f5 f6 f7 f8 f9 f10 f (lI (k ^ i : Nat)) (nI i) = J_Re_exact_34 (nI n) (nI k) a0 a1 a2 f0 f1 f2 f3 f4 f5 f6 f7 f8 f9 f10 (lI 60001)) := by
    intro m
    induction m with
    | zero =>
      intro i f hi hf hp
      obtain ⟨f, rfl⟩ : ∃ e, f = e + 1 := ⟨f - 1, by omega⟩
      have : i = n := by omega
      subst this
      rw [L_Re_exact_4, if_pos (nI_le (Nat.le_refl i) (by omega))]
      exact Or.inl ⟨rfl, hp⟩
    | succ m ih =>
      intro i f hi hf hp
      obtain ⟨f, rfl⟩ : ∃ e, f = e + 1 := ⟨f - 1, by omega⟩
      rw [L_Re_exact_4, if_neg (nI_ge (show i < n by omega) (by omega)), show (60000 : Int64) = lI 60000 from rfl]
      by_cases q : 60000 < k ^ i
      · have := pow_up (n := n) hk1 (show i ≤ n by omega)
        rw [if_pos (by rw [lg_cmp_gt, lI_lt ⟨by omega, by omega⟩ ⟨by omega, by omega⟩]; omega)]
        refine Or.inr ⟨by omega, ?_⟩
        unfold J_Re_exact_34
        rw [show (60000 : Int64) = lI 60000 from rfl, if_neg (by rw [lg_cmp_le, lI_le ⟨by omega, by omega⟩ ⟨by omega, by omega⟩]; omega), if_neg (by rw [lg_cmp_le, lI_le ⟨by omega, by omega⟩ ⟨by omega, by omega⟩]; omega)]
      · have e : k ^ (i + 1) = k ^ i * k := Nat.pow_succ ..
        have b : k ^ i * k ≤ 60000 * 4 := Nat.mul_le_mul (by omega) hk
        rw [if_neg (by rw [lg_cmp_gt, lI_lt ⟨by omega, by omega⟩ ⟨by omega, by omega⟩]; omega), nI_iI k, iI_l ⟨by omega, by omega⟩, lI_mul, nI_1, ← Int.natCast_mul, ← e, ← nI_iI k]
        exact ih (i + 1) f (by omega) (by omega) (by omega)
  exact key n 0 64 (by omega) (by omega) (by simp)
theorem sim_exact {s0 s1 c0 o0 lv sz0 bs fr ct kk sz nd kd : Int32} {sb ss st link0 sum0 ho ls least most ar wt home arcs rleast rmost split weight LA LI LN LW row rbest : Nat → Int32} (hI : INV fr ct ho ls kk least most sz ar wt home nd kd arcs rleast rmost split weight) : ∃ a o1 o2 o3 o4 o5 o6 o7 home' o9 o10 p1 p2 p3 p4 p5 p6 p7 p8 p9 split', f_Ba_exact s0 s1 sb ss st c0 o0 kk least most sz ar wt home link0 sum0 = some (a, o1, o2, o3, o4, o5, o6, o7, home', o9, o10) ∧ f_Re_exact nd kd lv sz0 bs arcs rbest rleast LA LI LN LW rmost row split weight = some (a, p1, p2, p3, p4, p5, p6, p7, p8, p9, split') ∧ INV fr ct ho ls kk least most sz ar wt home' nd kd arcs rleast rmost split' weight := by
  have hI' := hI
  obtain ⟨n, k, w, A, lo, hi, h, m, ⟨c1, c2, c3, c4, c5, c6, c7⟩, r1, r2, r3, r4, r5, r6⟩ := hI
  have g := m.g
  have hn := m.1
  have hB := m.2.2.2.2.2.1
  have hh := m.2.2.2.2.2.2
  subst c1 c2 r1 r2
  unfold f_Ba_exact
  rw [s_tooMany hn hB.1 hB.2.1, Option.bind_some]
  by_cases q : k ^ n ≤ 60000
  · obtain ⟨o1, o2, o3, o4, o5, home', e1, e2⟩ := s_findBest (best := sb) (tried := st) (home := home) g c3 hB c5 (few16 hB.1 q)
    have hk2 : HK n k (bst n k w A lo hi) := (bst_ok hB.1).2
    obtain ⟨q1, q2, q3, q4, e3⟩ := s_cutOrMiss g c3 e2 hB c5 hk2
    obtain ⟨LA', LI', LN', LW', row', e5, e6, e7⟩ := s_takeSplit (LA := LA) (LI := LI) (LN := LN) (LW := LW) (row := row) g hB.1 hB.2.1 r3 r4 r6
    obtain ⟨b2, row2, e8, e9⟩ := s_rtries (best := rbest) (row := row') g e6 hB r5 q
    obtain ⟨sp2, f5, f6⟩ := s_giveSplit (split := split) hn e9
    rw [if_pos q, if_pos rfl, e1, Option.bind_some]
    dsimp only
    rw [e3, Option.bind_some]
    rcases s_rexact (a0 := lv) (a1 := sz0) (a2 := bs) (f0 := arcs) (f1 := rbest) (f2 := rleast) (f3 := LA) (f4 := LI) (f5 := LN) (f6 := LW) (f7 := rmost) (f8 := row) (f9 := split) (f10 := weight) hn hB.1 hB.2.1 with ⟨e, _⟩ | ⟨e, _⟩
    · rw [e]
      unfold J_Re_exact_34
      rw [show (60000 : Int64) = lI 60000 from rfl, if_pos (show lg_cmp (lI (k ^ n : Nat)) (lI 60000) ≤ 0 by rw [lg_cmp_le, lI_le ⟨by omega, by omega⟩ ⟨by omega, by omega⟩]; omega), e5, Option.bind_some]
      dsimp only
      rw [e8, Option.bind_some]
      dsimp only
      rw [f5, Option.bind_some, s_rtold g e6 hB r5 e9 hk2, Option.bind_some]
      exact ⟨_, _, _, _, _, _, _, _, _, _, _, _, _, _, _, _, _, _, _, _, _, rfl, rfl, n, k, w, A, lo, hi, _, ⟨m.1, m.2.1, m.2.2.1, m.2.2.2.1, m.2.2.2.2.1, hB, hk2⟩, ⟨rfl, rfl, c3, c4, c5, e2, c7⟩, rfl, rfl, r3, r4, r5, f6⟩
    · exact absurd q e
  · rw [if_neg q, if_neg (show ¬ (1 : Int32) = 0 by decide)]
    have fin : ∀ z : Int, 60000 < z → z ≤ 100000000000000000 → J_Re_exact_34 (nI n) (nI k) lv sz0 bs arcs rbest rleast LA LI LN LW rmost row split weight (lI z) = some (-4, lv, sz0, bs, rbest, LA, LI, LN, LW, row, split) := by
      intro z h1 h2
      unfold J_Re_exact_34
      rw [show (60000 : Int64) = lI 60000 from rfl, if_neg (by rw [lg_cmp_le, lI_le ⟨by omega, by omega⟩ ⟨by omega, by omega⟩]; omega)]
    rcases s_rexact (a0 := lv) (a1 := sz0) (a2 := bs) (f0 := arcs) (f1 := rbest) (f2 := rleast) (f3 := LA) (f4 := LI) (f5 := LN) (f6 := LW) (f7 := rmost) (f8 := row) (f9 := split) (f10 := weight) hn hB.1 hB.2.1 with ⟨e, eb⟩ | ⟨_, e⟩
    · rw [e, fin _ (by omega) (by omega)]
      exact ⟨_, _, _, _, _, _, _, _, _, _, _, _, _, _, _, _, _, _, _, _, _, rfl, rfl, hI'⟩
    · rw [e, fin 60001 (by omega) (by omega)]
      exact ⟨_, _, _, _, _, _, _, _, _, _, _, _, _, _, _, _, _, _, _, _, _, rfl, rfl, hI'⟩
