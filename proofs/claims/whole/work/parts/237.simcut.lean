theorem RL_0 {n k c : Nat} {w : Nat → Int} {A : Nat → Nat → Int} {LA LI LN LW : Nat → Int32} (g : GOK n w A) (hc : 0 < c) (h : RV n k c w A LA LI LN LW) : RL n 0 w A LW LA := by
  obtain ⟨h1, h2, h3⟩ := h.2.1 0 hc
  refine ⟨h1, fun i hi => ?_, fun i j hi hj => ?_⟩
  · rw [h2 i hi]
    show iI (pS n w (fun i => (i : Int)) i) = _
    rw [pS_id hi]
  · rw [h3 i j hi hj]
    show iI (qA n A (fun i => (i : Int)) i j) = _
    rw [qA_id g.2.2.2.2.2.2 hi hj]
theorem s_takeSplit {n k : Nat} {w : Nat → Int} {A : Nat → Nat → Int} {h : Nat → Int} {wt ar LA LI LN LW row split : Nat → Int32} (g : GOK n w A) (hk1 : 2 ≤ k) (hk : k ≤ 4) (hW : ∀ i, i < n → wt i = iI (w i)) (hA : ∀ i j, i < n → j < n → ar (40 * i + j) = iI (A i j)) (hr : RW n h split) : ∃ LA' LI' LN' LW' row', f_Re_takeSplit (nI n) (nI k) ar LA LI LN LW row split wt = some (nI (lvC n k w A), nI n, nI 0, LA', LI', LN', LW', row') ∧ RL n 0 w A LW' LA' ∧ RW n h row' := by
  have hn := g.1
  obtain ⟨LA', LI', LN', LW', e1, e2⟩ := s_makeLevels (LA := LA) (LI := LI) (LN := LN) (LW := LW) g hk1 hk hW hA
  have hc := (lvC_ok (k := k) g).1
  have e3 : LN' 0 = nI n := e2.1 0 hc
  obtain ⟨f', s', e, hP⟩ := loopP (fun f i (s : Nat → Int32) => L_Re_takeSplit_11 (nI n) split f (nI i) (nI (lvC n k w A)) (nI n) (nI 0) LA' LI' LN' LW' s) n (fun i s => ∀ j, j < i → s j = iI (h j)) (by
    intro f i s hi hs'
    show ∃ s', L_Re_takeSplit_11 _ _ (f + 1) (nI i) _ _ _ _ _ _ _ s = _ ∧ _
    rw [L_Re_takeSplit_11, if_neg (nI_ge hi (by omega)), ckn (by omega) (by decide), ckn (by omega) (by decide), nI_clamp (by omega), nI_1]
    refine ⟨upd s i (split i), rfl, fun j hj => ?_⟩
    by_cases q : j = i
    · subst q; rw [pk_us]; exact hr j hi
    · rw [pk_un q]; exact hs' j (by omega)) n 0 64 row (by omega) (by omega) (fun j hj => absurd hj (Nat.not_lt_zero j))
  have e : L_Re_takeSplit_11 (nI n) split 64 0 (nI (lvC n k w A)) (nI n) 0 LA' LI' LN' LW' row = L_Re_takeSplit_11 (nI n) split (f' + 1) (nI n) (nI (lvC n k w A)) (nI n) (nI 0) LA' LI' LN' LW' s' := e
  refine ⟨LA', LI', LN', LW', s', ?_, RL_0 g hc e2, hP⟩
  unfold f_Re_takeSplit
  rw [e1, Option.bind_some]
  unfold f_Re_take
  rw [ck_true (by decide), Option.bind_some]
  show L_Re_takeSplit_11 (nI n) split 64 0 (nI (lvC n k w A)) (LN' 0) 0 LA' LI' LN' LW' row = _
  rw [e3, e, L_Re_takeSplit_11, if_pos (nI_le (Nat.le_refl n) (by omega))]
theorem s_giveSplit {n : Nat} {h : Nat → Int} {row split : Nat → Int32} (hn : n ≤ 40) (hr : RW n h row) : ∃ split', f_Re_giveSplit (nI n) row split = some split' ∧ RW n h split' := by
  obtain ⟨f', s', e, hP⟩ := loopP (fun f i (s : Nat → Int32) => L_Re_giveSplit_2 (nI n) row f (nI i) s) n (fun i s => ∀ j, j < i → s j = iI (h j)) (by
    intro f i s hi hs'
    show ∃ s', L_Re_giveSplit_2 _ _ (f + 1) (nI i) s = _ ∧ _
    rw [L_Re_giveSplit_2, if_neg (nI_ge hi (by omega)), ckn (by omega) (by decide), ckn (by omega) (by decide), nI_clamp (by omega), nI_1]
    refine ⟨upd s i (row i), rfl, fun j hj => ?_⟩
    by_cases q : j = i
    · subst q; rw [pk_us]; exact hr j hi
    · rw [pk_un q]; exact hs' j (by omega)) n 0 64 split (by omega) (by omega) (fun j hj => absurd hj (Nat.not_lt_zero j))
  have e : L_Re_giveSplit_2 (nI n) row 64 0 split = L_Re_giveSplit_2 (nI n) row (f' + 1) (nI n) s' := e
  refine ⟨s', ?_, hP⟩
  unfold f_Re_giveSplit
  rw [e, L_Re_giveSplit_2, if_pos (nI_le (Nat.le_refl n) (by omega))]
theorem sim_cut {fr ct kk sz nd kd : Int32} {ho ls least most ar wt home arcs rleast rmost split weight LA LI LN LW row : Nat → Int32} (hI : INV fr ct ho ls kk least most sz ar wt home nd kd arcs rleast rmost split weight) : ∃ a oc orr, f_Ba_cut kk least most sz ar wt home = some (a, oc) ∧ f_Re_cut nd kd arcs LA LI LN LW row split weight = some (a, orr) := by
  obtain ⟨n, k, w, A, lo, hi, h, m, ⟨c1, c2, c3, c4, c5, c6, c7⟩, r1, r2, r3, r4, r5, r6⟩ := hI
  have g := m.g
  have hB := m.2.2.2.2.2.1
  have hh := m.2.2.2.2.2.2
  subst c1 c2 r1 r2
  obtain ⟨link, sum, cut, over, e1, e2⟩ := s_recount g c3 c6 hB c5 hh
  obtain ⟨LA', LI', LN', LW', row', e3, e4, e5⟩ := s_takeSplit (LA := LA) (LI := LI) (LN := LN) (LW := LW) (row := row) g hB.1 hB.2.1 r3 r4 r6
  unfold f_Ba_cut f_Re_cut
  rw [e1, Option.bind_some, e3, Option.bind_some]
  dsimp only
  rw [s_rowCut g e4 e5 hB.2.1 (HK.ok hh), Option.bind_some, lI_i, e2.2.2.1]
  exact ⟨_, _, _, rfl, rfl⟩
theorem sim_over {fr ct kk sz nd kd : Int32} {ho ls least most ar wt home arcs rleast rmost split weight LA LI LN LW row : Nat → Int32} (hI : INV fr ct ho ls kk least most sz ar wt home nd kd arcs rleast rmost split weight) : ∃ a oc orr, f_Ba_over kk least most sz ar wt home = some (a, oc) ∧ f_Re_over nd kd arcs rleast LA LI LN LW rmost row split weight = some (a, orr) := by
  obtain ⟨n, k, w, A, lo, hi, h, m, ⟨c1, c2, c3, c4, c5, c6, c7⟩, r1, r2, r3, r4, r5, r6⟩ := hI
  have g := m.g
  have hB := m.2.2.2.2.2.1
  have hh := m.2.2.2.2.2.2
  subst c1 c2 r1 r2
  obtain ⟨link, sum, cut, over, e1, e2⟩ := s_recount g c3 c6 hB c5 hh
  obtain ⟨LA', LI', LN', LW', row', e3, e4, e5⟩ := s_takeSplit (LA := LA) (LI := LI) (LN := LN) (LW := LW) (row := row) g hB.1 hB.2.1 r3 r4 r6
  unfold f_Ba_over f_Re_over
  rw [e1, Option.bind_some, e3, Option.bind_some]
  dsimp only
  rw [s_rowOver g e4 e5 hB r5 (HK.ok hh), Option.bind_some, lI_i, e2.2.2.2]
  exact ⟨_, _, _, rfl, rfl⟩
theorem sim_gain {x1 x2 c0 o0 lv sz0 bs fr ct kk sz nd kd : Int32} {ho ls least most ar wt home link0 sum0 arcs rleast rmost split weight LA LI LN LW row : Nat → Int32} (hI : INV fr ct ho ls kk least most sz ar wt home nd kd arcs rleast rmost split weight) : ∃ a oc orr, f_Ba_gain x1 x2 c0 o0 kk least most sz ar wt home link0 sum0 = some (a, oc) ∧ f_Re_gain x1 x2 nd kd lv sz0 bs arcs LA LI LN LW row split weight = some (a, orr) := by
  obtain ⟨n, k, w, A, lo, hi, h, m, ⟨c1, c2, c3, c4, c5, c6, c7⟩, r1, r2, r3, r4, r5, r6⟩ := hI
  have g := m.g
  have hn := m.1
  have hB := m.2.2.2.2.2.1
  have hh := m.2.2.2.2.2.2
  have hk := hB.2.1
  obtain ⟨z1, hz1, rfl⟩ := iI_ex x1
  obtain ⟨z2, hz2, rfl⟩ := iI_ex x2
  subst c1 c2 r1 r2
  obtain ⟨link, sum, cut, over, e1, e2⟩ := s_recount g c3 c6 hB c5 hh
  obtain ⟨LA', LI', LN', LW', row', e3, e4, e5⟩ := s_takeSplit (LA := LA) (LI := LI) (LN := LN) (LW := LW) (row := row) g hB.1 hB.2.1 r3 r4 r6
  unfold f_Ba_gain f_Re_gain
  rw [s_has hz1 (by omega), s_isNode hz1 (by omega), Option.bind_some, Option.bind_some]
  by_cases q1 : 0 ≤ z1 ∧ z1 < n
  · rw [if_pos q1, if_neg (show ¬ (1 : Int32) = 0 by decide), if_neg (show ¬ (1 : Int32) = 0 by decide), s_bhas hz2 (by omega), s_isPart hz2 (by omega), Option.bind_some, Option.bind_some]
    by_cases q2 : 0 ≤ z2 ∧ z2 < k
    · obtain ⟨v, hv, e6, e7⟩ := iI_q q1
      obtain ⟨p, hp, e8, e9⟩ := iI_q q2
      rw [if_pos q2, if_neg (show ¬ (1 : Int32) = 0 by decide), if_neg (show ¬ (1 : Int32) = 0 by decide), e1, Option.bind_some, e3, Option.bind_some, e7, e9]
      dsimp only
      rw [s_gainOf g c6 hk hh e2 hv hp, Option.bind_some, s_rowGain g e4 e5 hk (HK.ok hh) hv hp, Option.bind_some, lI_i]
      exact ⟨_, _, _, rfl, rfl⟩
    · rw [if_neg q2, if_pos rfl, if_pos rfl]
      exact ⟨_, _, _, rfl, rfl⟩
  · rw [if_neg q1, if_pos rfl, if_pos rfl]
    exact ⟨_, _, _, rfl, rfl⟩
theorem sim_refine {bo bc nn np no ng c0 o0 fr ct kk sz nd kd : Int32} {best free ho ls least most ar wt home link0 sum0 arcs rleast rmost split weight LA LI LN LW row rbest rfree : Nat → Int32} (hI : INV fr ct ho ls kk least most sz ar wt home nd kd arcs rleast rmost split weight) : ∃ a o1 o2 o3 o4 o5 o6 o7 o8 o9 o10 home' o12 o13 p1 p2 p3 p4 p5 p6 p7 p8 p9 p10 split', f_Ba_refine bo bc nn np no ng best free c0 o0 kk least most sz ar wt home link0 sum0 = some (a, o1, o2, o3, o4, o5, o6, o7, o8, o9, o10, home', o12, o13) ∧ f_Re_refine nd kd arcs rbest rfree rleast LA LI LN LW rmost row split weight = some (a, p1, p2, p3, p4, p5, p6, p7, p8, p9, p10, split') ∧ INV fr ct ho ls kk least most sz ar wt home' nd kd arcs rleast rmost split' weight := by
  obtain ⟨n, k, w, A, lo, hi, h, m, ⟨c1, c2, c3, c4, c5, c6, c7⟩, r1, r2, r3, r4, r5, r6⟩ := hI
  have g := m.g
  have hn := m.1
  have hB := m.2.2.2.2.2.1
  have hh := m.2.2.2.2.2.2
  subst c1 c2 r1 r2
  obtain ⟨o1, o2, o3, o4, o5, o6, o7, o8, o9, o10, o11, o12, o13, e1, e2⟩ := s_doMoves (bo := bo) (bc := bc) (nn := nn) (np := np) (no := no) (ng := ng) (best := best) (free := free) (cut := c0) (over := o0) (link := link0) (sum := sum0) g c3 c6 hB c5 hh
  obtain ⟨LA', LI', LN', LW', row', e3, e4, e5⟩ := s_takeSplit (LA := LA) (LI := LI) (LN := LN) (LW := LW) (row := row) g hB.1 hB.2.1 r3 r4 r6
  obtain ⟨b2, f2, row2, e6, e7⟩ := s_rpasses (best := rbest) (free := rfree) g e4 hB r5 e5 hh
  obtain ⟨sp2, e8, e9⟩ := s_giveSplit (split := split) hn e7
  unfold f_Ba_refine f_Re_refine
  rw [e1, Option.bind_some, e3, Option.bind_some]
  dsimp only
  rw [e6, Option.bind_some]
  dsimp only
  rw [e8, Option.bind_some]
  exact ⟨_, _, _, _, _, _, _, _, _, _, _, _, _, _, _, _, _, _, _, _, _, _, _, _, _, rfl, rfl, n, k, w, A, lo, hi, _, ⟨m.1, m.2.1, m.2.2.1, m.2.2.2.1, m.2.2.2.2.1, hB, msL_HK 8 0 h hh⟩, ⟨rfl, rfl, c3, c4, c5, e2, c7⟩, rfl, rfl, r3, r4, r5, e9⟩
theorem sim_grow {fr ct kk sz nd kd : Int32} {ho ls least most ar wt home arcs rleast rmost split weight LA LI LN LW row rfree : Nat → Int32} (hI : INV fr ct ho ls kk least most sz ar wt home nd kd arcs rleast rmost split weight) : ∃ a o1 o2 home' o4 o5 p1 p2 p3 p4 p5 p6 p7 p8 p9 split', f_Ba_grow kk least most sz ar wt = some (a, o1, o2, home', o4, o5) ∧ f_Re_grow nd kd arcs rfree LA LI LN LW rmost row split weight = some (a, p1, p2, p3, p4, p5, p6, p7, p8, p9, split') ∧ INV fr ct ho ls kk least most sz ar wt home' nd kd arcs rleast rmost split' weight := by
  obtain ⟨n, k, w, A, lo, hi, h, m, ⟨c1, c2, c3, c4, c5, c6, c7⟩, r1, r2, r3, r4, r5, r6⟩ := hI
  have g := m.g
  have hn := m.1
  have hB := m.2.2.2.2.2.1
  have hh := m.2.2.2.2.2.2
  subst c1 c2 r1 r2
  obtain ⟨home', sum', e1, e2⟩ := s_growAll g c3 hB c5
  have hk2 : HK n k (grown n k w hi) := grown_HK hB.1
  obtain ⟨link, sum, cut, over, e1', e2'⟩ := s_recount g c3 e2 hB c5 hk2
  obtain ⟨LA', LI', LN', LW', row', e3, e4, e5⟩ := s_takeSplit (LA := LA) (LI := LI) (LN := LN) (LW := LW) (row := row) g hB.1 hB.2.1 r3 r4 r6
  obtain ⟨f2, row2, e6, e7⟩ := s_rgrows (row := row') (free := rfree) g e4 hB r5
  obtain ⟨sp2, e8, e9⟩ := s_giveSplit (split := split) hn e7
  unfold f_Ba_grow f_Re_grow
  rw [e1, Option.bind_some]
  dsimp only
  rw [e1', Option.bind_some, e3, Option.bind_some]
  dsimp only
  rw [e6, Option.bind_some]
  dsimp only
  rw [e8, Option.bind_some, s_rowCut g e4 e7 hB.2.1 (HK.ok hk2), Option.bind_some, lI_i, e2'.2.2.1]
  exact ⟨_, _, _, _, _, _, _, _, _, _, _, _, _, _, _, _, rfl, rfl, n, k, w, A, lo, hi, _, ⟨m.1, m.2.1, m.2.2.1, m.2.2.2.1, m.2.2.2.2.1, hB, hk2⟩, ⟨rfl, rfl, c3, c4, c5, e2, c7⟩, rfl, rfl, r3, r4, r5, e9⟩
theorem sim_order {x1 x2 fr ct kk sz nd kd : Int32} {ho ls least most ar wt home arcs rleast rmost split weight orow owt above od : Nat → Int32} (hI : INV fr ct ho ls kk least most sz ar wt home nd kd arcs rleast rmost split weight) : ∃ a oc orr, f_Ba_order x1 x2 orow owt sz = some (a, oc) ∧ f_Re_order x1 x2 nd above od = some (a, orr) := by
  obtain ⟨n, k, w, A, lo, hi, h, m, ⟨c1, c2, c3, c4, c5, c6, c7⟩, r1, r2, r3, r4, r5, r6⟩ := hI
  have hn := m.1
  obtain ⟨z2, hz2, rfl⟩ := iI_ex x2
  subst c1 c2 r1 r2
  obtain ⟨ro, wa, e1, e2⟩ := s_draw (x := x1) (row := orow) (wt := owt) hn
  obtain ⟨ab, od', e3, e4⟩ := s_makeOrder (x := x1) (ab := above) (od := od) hn
  unfold f_Ba_order f_Re_order
  rw [e3, Option.bind_some, s_has hz2 (by omega), s_in0 hz2 (by omega), Option.bind_some, Option.bind_some]
  by_cases q : 0 ≤ z2 ∧ z2 < n
  · obtain ⟨v, hv, e6, e7⟩ := iI_q q
    rw [if_pos q, if_neg (show ¬ (1 : Int32) = 0 by decide), if_neg (show ¬ (1 : Int32) = 0 by decide), e1, Option.bind_some, e7, ckn (by omega) (by decide), ckn (by omega) (by decide), nI_clamp (by omega)]
    dsimp only
    rw [e2 v hv, e4 v hv]
    exact ⟨_, _, _, rfl, rfl⟩
  · rw [if_neg q, if_pos rfl, if_pos rfl]
    exact ⟨_, _, _, rfl, rfl⟩
