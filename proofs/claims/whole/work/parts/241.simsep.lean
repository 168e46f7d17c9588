theorem s_nodeAt {n : Nat} {S : Nat → Bool} {ins parts : Nat → Int32} {z : Int} (hn : n ≤ 40) (h1 : FR n S ins) (h2 : FR n S parts) (hz : r32 z) (h0 : 0 ≤ z) : ∀ m j c f f', j + m = n → c ≤ j → (c : Int) ≤ z → m < f → m < f' → ∃ r, L_Di_nodeAt_4 (iI z) (nI n) ins f (nI c) (nI j) = some r ∧ L_Re_separator_8 (iI z) (nI n) f' (iI (z - c)) (nI j) parts = some (r, parts) := by
  intro m
  induction m with
  | zero =>
    intro j c f f' hj hc hcz hf hf'
    obtain ⟨f, rfl⟩ : ∃ e, f = e + 1 := ⟨f - 1, by omega⟩
    obtain ⟨f', rfl⟩ : ∃ e, f' = e + 1 := ⟨f' - 1, by omega⟩
    have : j = n := by omega
    subst this
    rw [L_Di_nodeAt_4, if_pos (nI_le (Nat.le_refl j) (by omega)), L_Re_separator_8, if_pos (nI_le (Nat.le_refl j) (by omega))]
    exact ⟨_, rfl, rfl⟩
  | succ m ih =>
    intro j c f f' hj hc hcz hf hf'
    obtain ⟨f, rfl⟩ : ∃ e, f = e + 1 := ⟨f - 1, by omega⟩
    obtain ⟨f', rfl⟩ : ∃ e, f' = e + 1 := ⟨f' - 1, by omega⟩
    have hjn : j < n := by omega
    have zr := hz.2
    rw [L_Di_nodeAt_4, if_neg (nI_ge hjn (by omega)), ckn (by omega) (by decide), nI_clamp (by omega), h1 j hjn, L_Re_separator_8, if_neg (nI_ge hjn (by omega)), if_neg (show ¬ iI z < (0 : Int32) from fun e => by have := (iI_lt (b := 0) hz ⟨by omega, by omega⟩).mp e; omega), ckn (by omega) (by decide), nI_clamp (by omega), h2 j hjn, nI_1]
    cases sj : S j with
    | false =>
      rw [if_pos (show (if false = true then (1 : Int32) else 0) = 0 by decide), if_pos (show (if false = true then (1 : Int32) else 0) = 0 by decide)]
      exact ih (j + 1) c f f' (by omega) (by omega) hcz (by omega) (by omega)
    | true =>
      rw [if_neg (show ¬ (if true = true then (1 : Int32) else 0) = 0 by decide), if_neg (show ¬ (if true = true then (1 : Int32) else 0) = 0 by decide)]
      by_cases q : (c : Int) = z
      · rw [if_pos (show nI c = iI z by rw [nI_iI, q]), if_pos (show iI (z - c) = (0 : Int32) by rw [q, Int.sub_self]; rfl)]
        exact ⟨_, rfl, rfl⟩
      · rw [if_neg (show ¬ nI c = iI z by rw [nI_iI, iI_eq ⟨by omega, by omega⟩ hz]; exact q), if_neg (show ¬ iI (z - c) = (0 : Int32) from fun e => by have := (iI_eq (b := 0) ⟨by omega, by omega⟩ ⟨by omega, by omega⟩).mp e; omega), nI_1, show (-1 : Int32) = iI (-1) from rfl, iI_add, show z - (c : Int) + -1 = z - ((c + 1 : Nat) : Int) by omega]
        exact ih (j + 1) (c + 1) f f' (by omega) (by omega) (by omega) (by omega) (by omega)
theorem s_nodeNeg {n : Nat} {S : Nat → Bool} {ins : Nat → Int32} {z : Int} (hn : n ≤ 40) (h1 : FR n S ins) (hz : r32 z) (h0 : z < 0) : ∀ m j c f, j + m = n → c ≤ j → m < f → L_Di_nodeAt_4 (iI z) (nI n) ins f (nI c) (nI j) = some (-2) := by
  intro m
  induction m with
  | zero =>
    intro j c f hj hc hf
    obtain ⟨f, rfl⟩ : ∃ e, f = e + 1 := ⟨f - 1, by omega⟩
    have : j = n := by omega
    subst this
    rw [L_Di_nodeAt_4, if_pos (nI_le (Nat.le_refl j) (by omega))]
  | succ m ih =>
    intro j c f hj hc hf
    obtain ⟨f, rfl⟩ : ∃ e, f = e + 1 := ⟨f - 1, by omega⟩
    have hjn : j < n := by omega
    rw [L_Di_nodeAt_4, if_neg (nI_ge hjn (by omega)), ckn (by omega) (by decide), nI_clamp (by omega), h1 j hjn, nI_1]
    cases sj : S j with
    | false =>
      rw [if_pos (show (if false = true then (1 : Int32) else 0) = 0 by decide)]
      exact ih (j + 1) c f (by omega) (by omega) (by omega)
    | true =>
      rw [if_neg (show ¬ (if true = true then (1 : Int32) else 0) = 0 by decide), if_neg (show ¬ nI c = iI z by rw [nI_iI, iI_eq ⟨by omega, by omega⟩ hz]; omega), nI_1]
      exact ih (j + 1) (c + 1) f (by omega) (by omega) (by omega)
theorem sim_separator {x1 fr ct kk sz nd kd : Int32} {ins opn parts ho ls least most ar wt home arcs rleast rmost split weight : Nat → Int32} (hI : INV fr ct ho ls kk least most sz ar wt home nd kd arcs rleast rmost split weight) : ∃ a oc orr, f_Ba_separator x1 ins opn sz ar wt home = some (a, oc) ∧ f_Re_separator x1 nd arcs parts split weight = some (a, orr) := by
  obtain ⟨n, k, w, A, lo, hi, h, m, ⟨c1, c2, c3, c4, c5, c6, c7⟩, r1, r2, r3, r4, r5, r6⟩ := hI
  have g := m.g
  have hn := m.1
  have hB := m.2.2.2.2.2.1
  have hh := m.2.2.2.2.2.2
  have hk := hB.2.1
  obtain ⟨z, hz, rfl⟩ := iI_ex x1
  subst c1 c2 r1 r2
  obtain ⟨i1, o1, e1, e2⟩ := s_find (ins := ins) (opn := opn) g c3 c6 hk hh
  obtain ⟨p1, e3, e4⟩ := s_separate (parts := parts) g r3 r4 r6 hk hh
  unfold f_Ba_separator f_Re_separator
  rw [e1, Option.bind_some, e3, Option.bind_some]
  dsimp only
  unfold f_Di_nodeAt
  by_cases q : 0 ≤ z
  · obtain ⟨r, f1, f2⟩ := s_nodeAt hn e2 e4 hz q n 0 0 64 64 (by omega) (Nat.le_refl 0) (by omega) (by omega) (by omega)
    have f1 : L_Di_nodeAt_4 (iI z) (nI n) i1 64 0 0 = some r := f1
    have f2 : L_Re_separator_8 (iI z) (nI n) 64 (iI (z - 0)) 0 p1 = some (r, p1) := f2
    rw [Int.sub_zero] at f2
    rw [f1, f2, Option.bind_some]
    exact ⟨_, _, _, rfl, rfl⟩
  · have f1 := s_nodeNeg hn e2 hz (by omega) n 0 0 64 (by omega) (Nat.le_refl 0) (by omega)
    have f1 : L_Di_nodeAt_4 (iI z) (nI n) i1 64 0 0 = some (-2) := f1
    have f2 : L_Re_separator_8 (iI z) (nI n) 64 (iI z) 0 p1 = some (-2, p1) := by
      rw [L_Re_separator_8]
      by_cases y : nI n ≤ 0
      · rw [if_pos y]
      · rw [if_neg y, if_pos (show iI z < (0 : Int32) from (iI_lt (b := 0) hz ⟨by omega, by omega⟩).mpr (by omega))]
    rw [f1, f2, Option.bind_some]
    exact ⟨_, _, _, rfl, rfl⟩
theorem s_held {n : Nat} {S : Nat → Bool} {ins : Nat → Int32} (hn : n ≤ 40) (h1 : FR n S ins) : f_Di_held (nI n) ins = some (iI (sI (fun i => if S i = true then 1 else 0) n)) := by
  obtain ⟨f', e⟩ := loopS (fun f i s => L_Di_held_4 (nI n) ins f s (nI i)) n (fun i => iI (sI (fun i => if S i = true then 1 else 0) i)) (by
    intro f i hi
    show L_Di_held_4 _ _ (f + 1) _ (nI i) = _
    rw [L_Di_held_4, if_neg (nI_ge hi (by omega)), ckn (by omega) (by decide), nI_clamp (by omega), h1 i hi, nI_1, sI_s]
    cases S i with
    | true => rw [if_neg (show ¬ (if true = true then (1 : Int32) else 0) = 0 by decide), if_pos rfl, ← iI_1, iI_add]
    | false => rw [if_pos (show (if false = true then (1 : Int32) else 0) = 0 by decide), if_neg (show ¬ false = true by decide), ← iI_0, iI_add]) n 0 64 (by omega) (by omega)
  unfold f_Di_held
  have e : L_Di_held_4 (nI n) ins 64 0 0 = _ := e
  rw [e]
  show L_Di_held_4 _ _ (f' + 1) _ (nI n) = _
  rw [L_Di_held_4, if_pos (nI_le (Nat.le_refl n) (by omega))]
theorem s_rc121 {n : Nat} {S : Nat → Bool} {lv : Int32} {LA LI LN LW parts : Nat → Int32} (hn : n ≤ 40) (h1 : FR n S parts) : L_Re_count_121 (nI n) lv LA LI LN LW 64 0 0 parts = some (iI (sI (fun i => if S i = true then 1 else 0) n), lv, LA, LI, LN, LW, parts) := by
  obtain ⟨f', e⟩ := loopS (fun f i s => L_Re_count_121 (nI n) lv LA LI LN LW f s (nI i) parts) n (fun i => iI (sI (fun i => if S i = true then 1 else 0) i)) (by
    intro f i hi
    show L_Re_count_121 _ _ _ _ _ _ (f + 1) _ (nI i) _ = _
    rw [L_Re_count_121, if_neg (nI_ge hi (by omega)), ckn (by omega) (by decide), nI_clamp (by omega), h1 i hi, nI_1, sI_s]
    cases S i with
    | true => rw [if_neg (show ¬ (if true = true then (1 : Int32) else 0) = 0 by decide), if_pos rfl, ← iI_1, iI_add]
    | false => rw [if_pos (show (if false = true then (1 : Int32) else 0) = 0 by decide), if_neg (show ¬ false = true by decide), ← iI_0, iI_add]) n 0 64 (by omega) (by omega)
  have e : L_Re_count_121 (nI n) lv LA LI LN LW 64 0 0 parts = _ := e
  rw [e]
  show L_Re_count_121 _ _ _ _ _ _ (f' + 1) _ (nI n) _ = _
  rw [L_Re_count_121, if_pos (nI_le (Nat.le_refl n) (by omega))]
theorem s_rc156 {n k : Nat} {w : Nat → Int} {A : Nat → Nat → Int} {h : Nat → Int} {lv : Int32} {arcs LA LI LN LW parts split weight : Nat → Int32} (g : GOK n w A) (hA : ∀ i j, i < n → j < n → arcs (40 * i + j) = iI (A i j)) (hk : k ≤ 4) (hr : RW n h split) (hh : HK n k h) : L_Re_count_156 (nI n) (nI k) lv arcs LA LI LN LW parts split weight 64 0 0 = some (iI (sI (volI n k A h) n), lv, LA, LI, LN, LW, parts) := by
  have hn := g.1
  obtain ⟨f', e⟩ := loopS (fun f i s => L_Re_count_156 (nI n) (nI k) lv arcs LA LI LN LW parts split weight f s (nI i)) n (fun i => iI (sI (volI n k A h) i)) (by
    intro f i hi
    show L_Re_count_156 _ _ _ _ _ _ _ _ _ _ _ (f + 1) _ (nI i) = _
    rw [L_Re_count_156, if_neg (nI_ge hi (by omega)), s_rof2 g hA hk hr hh hi, Option.bind_some, iI_add, nI_1, sI_s]) n 0 64 (by omega) (by omega)
  have e : L_Re_count_156 (nI n) (nI k) lv arcs LA LI LN LW parts split weight 64 0 0 = _ := e
  rw [e]
  show L_Re_count_156 _ _ _ _ _ _ _ _ _ _ _ (f' + 1) _ (nI n) = _
  rw [L_Re_count_156, if_pos (nI_le (Nat.le_refl n) (by omega))]
theorem sim_count {x1 dn lsz c0 o0 lv fr ct kk sz nd kd : Int32} {ins opn mate nb lar lwt link0 sum0 LA LI LN LW parts ho ls least most ar wt home arcs rleast rmost split weight : Nat → Int32} (hI : INV fr ct ho ls kk least most sz ar wt home nd kd arcs rleast rmost split weight) : ∃ a o1 o2 o3 fr' ct' ho' o7 o8 ls' o10 o11 o12 o13 o14 o15 o16 orr, f_Ba_count x1 dn ins opn fr ct ho mate nb ls lsz lar lwt c0 o0 kk least most sz ar wt home link0 sum0 = some (a, o1, o2, o3, fr', ct', ho', o7, o8, ls', o10, o11, o12, o13, o14, o15, o16) ∧ f_Re_count x1 nd kd lv arcs LA LI LN LW parts split weight = some (a, orr) ∧ INV fr' ct' ho' ls' kk least most sz ar wt home nd kd arcs rleast rmost split weight := by
  have hI' := hI
  obtain ⟨n, k, w, A, lo, hi, h, m, ⟨c1, c2, c3, c4, c5, c6, c7⟩, r1, r2, r3, r4, r5, r6⟩ := hI
  have g := m.g
  have hn := m.1
  have hB := m.2.2.2.2.2.1
  have hh := m.2.2.2.2.2.2
  have hk := hB.2.1
  subst c1 c2 r1 r2
  unfold f_Ba_count f_Re_count
  by_cases a0 : x1 = 0
  · rw [if_pos a0, if_pos a0]
    exact ⟨_, _, _, _, _, _, _, _, _, _, _, _, _, _, _, _, _, _, rfl, rfl, hI'⟩
  · rw [if_neg a0, if_neg a0]
    by_cases a1 : x1 = 1
    · rw [if_pos a1, if_pos a1]
      exact ⟨_, _, _, _, _, _, _, _, _, _, _, _, _, _, _, _, _, _, rfl, rfl, hI'⟩
    · rw [if_neg a1, if_neg a1]
      by_cases a2 : x1 = 2
      · rw [if_pos a2, if_pos a2, s_arcCount g c3, Option.bind_some, s_rc52 g r4]
        exact ⟨_, _, _, _, _, _, _, _, _, _, _, _, _, _, _, _, _, _, rfl, rfl, hI'⟩
      · rw [if_neg a2, if_neg a2]
        by_cases a3 : x1 = 3
        · obtain ⟨LA', LI', LN', LW', e1, e2⟩ := s_makeLevels (LA := LA) (LI := LI) (LN := LN) (LW := LW) g hB.1 hB.2.1 r3 r4
          obtain ⟨ho', p4, p5, ls', p7, p8, p9, e3, e4⟩ := s_renew (mate := mate) (nb := nb) (p3s := lsz) (p3a := lar) (p3w := lwt) g c3 hB.1 hB.2.1 c7
          rw [if_pos a3, if_pos a3, e1, Option.bind_some, e3, Option.bind_some]
          exact ⟨_, _, _, _, _, _, _, _, _, _, _, _, _, _, _, _, _, _, rfl, rfl, n, k, w, A, lo, hi, h, m, ⟨rfl, rfl, c3, c4, c5, c6, Or.inr ⟨rfl, rfl, e4⟩⟩, rfl, rfl, r3, r4, r5, r6⟩
        · rw [if_neg a3, if_neg a3]
          by_cases a4 : x1 = 4
          · obtain ⟨i1, o1, e1, e2⟩ := s_find (ins := ins) (opn := opn) g c3 c6 hk hh
            obtain ⟨p1, e3, e4⟩ := s_separate (parts := parts) g r3 r4 r6 hk hh
            rw [if_pos a4, if_pos a4, e1, Option.bind_some, e3, Option.bind_some]
            dsimp only
            rw [s_held hn e2, Option.bind_some, s_rc121 hn e4]
            exact ⟨_, _, _, _, _, _, _, _, _, _, _, _, _, _, _, _, _, _, rfl, rfl, hI'⟩
          · rw [if_neg a4, if_neg a4]
            by_cases a5 : x1 = 5
            · obtain ⟨link, sum, cut, over, e1, e2⟩ := s_recount g c3 c6 hB c5 hh
              rw [if_pos a5, if_pos a5, e1, Option.bind_some]
              dsimp only
              rw [s_volumes g hk c6 hh e2, Option.bind_some, s_rc156 g r4 hk r6 hh]
              exact ⟨_, _, _, _, _, _, _, _, _, _, _, _, _, _, _, _, _, _, rfl, rfl, hI'⟩
            · rw [if_neg a5, if_neg a5]
              exact ⟨_, _, _, _, _, _, _, _, _, _, _, _, _, _, _, _, _, _, rfl, rfl, hI'⟩
