theorem s_rn48 {n : Nat} {arcs split weight : Nat → Int32} (hn : n < 40) : ∃ arcs', L_Re_node_48 (nI n) 64 0 arcs split weight = some (nI n, nI (n + 1), arcs', split, weight) ∧ (∀ i j, i < n → j < n → arcs' (40 * i + j) = arcs (40 * i + j)) ∧ ∀ j, j < n + 1 → arcs' (40 * n + j) = 0 ∧ arcs' (40 * j + n) = 0 := by
  obtain ⟨f', s', e, hP⟩ := loopP (fun f i (s : Nat → Int32) => L_Re_node_48 (nI n) f (nI i) s split weight) (n + 1) (fun i s => (∀ a b, a < n → b < n → s (40 * a + b) = arcs (40 * a + b)) ∧ ∀ j, j < i → s (40 * n + j) = 0 ∧ s (40 * j + n) = 0) (by
    intro f i s hi hs'
    show ∃ s', L_Re_node_48 _ (f + 1) (nI i) s _ _ = _ ∧ _
    rw [L_Re_node_48, if_neg (nI_nlt (by omega) (by omega)), n40', n40', ckn (by omega) (by decide), ckn (by omega) (by decide), nI_clamp (by omega), nI_clamp (by omega), nI_1]
    refine ⟨upd (upd s (40 * n + i) 0) (40 * i + n) 0, rfl, fun a b ha hb => ?_, fun j hj => ?_⟩
    · rw [pk_un (by omega), pk_un (by omega)]; exact hs'.1 a b ha hb
    · by_cases q : j = i
      · subst q
        rw [pk_us]
        refine ⟨?_, rfl⟩
        by_cases z : 40 * n + j = 40 * j + n
        · rw [z, pk_us]
        · rw [pk_un z, pk_us]
      · have := hs'.2 j (by omega)
        rw [pk_un (show 40 * j + n ≠ 40 * i + n by omega)]
        constructor
        · by_cases z : 40 * n + j = 40 * i + n
          · rw [z, pk_us]
          · rw [pk_un z, pk_un (by omega)]; exact this.1
        · by_cases z : 40 * j + n = 40 * n + i
          · rw [z, pk_us]
          · rw [pk_un z]; exact this.2) (n + 1) 0 64 arcs (by omega) (by omega) ⟨fun _ _ _ _ => rfl, fun j hj => absurd hj (Nat.not_lt_zero j)⟩
  have e : L_Re_node_48 (nI n) 64 0 arcs split weight = L_Re_node_48 (nI n) (f' + 1) (nI (n + 1)) s' split weight := e
  refine ⟨s', ?_, hP.1, hP.2⟩
  rw [e, L_Re_node_48, if_pos (nI_lt (by omega) (by omega))]
  unfold J_Re_node_92
  rw [nI_1]
theorem sim_node {x1 fr ct kk sz nd kd : Int32} {ho ls least most ar wt home arcs rleast rmost split weight : Nat → Int32} (hI : INV fr ct ho ls kk least most sz ar wt home nd kd arcs rleast rmost split weight) : ∃ a fr' sz' wt' home' nd' arcs' split' weight', f_Ba_node x1 fr sz wt home = some (a, fr', sz', wt', home') ∧ f_Re_node x1 nd arcs split weight = some (a, nd', arcs', split', weight') ∧ INV fr' ct ho ls kk least most sz' ar wt' home' nd' kd arcs' rleast rmost split' weight' := by
  have hI' := hI
  obtain ⟨n, k, w, A, lo, hi, h, m, ⟨c1, c2, c3, c4, c5, c6, c7⟩, r1, r2, r3, r4, r5, r6⟩ := hI
  have hn := m.1
  have hk2 := m.2.2.2.2.2.1.1
  obtain ⟨z, hz, rfl⟩ := iI_ex x1
  subst c1 c2 r1 r2
  unfold f_Ba_node f_Re_node
  rw [iI_l hz, show (1000 : Int64) = lI 1000 from rfl, show (1 : Int64) = lI 1 from rfl, s_isIn (r64_of hz) ⟨by omega, by omega⟩ ⟨by omega, by omega⟩, Option.bind_some, show (1000 : Int32) = iI 1000 from rfl]
  by_cases q1 : z < 1
  · rw [if_pos (show iI z < (1 : Int32) from (iI_lt (b := 1) hz ⟨by omega, by omega⟩).mpr q1), if_neg (show ¬ (1 ≤ z ∧ z ≤ 1000) by omega), if_pos rfl]
    exact ⟨_, _, _, _, _, _, _, _, _, rfl, rfl, hI'⟩
  · rw [if_neg (show ¬ iI z < (1 : Int32) from fun e => q1 ((iI_lt (b := 1) hz ⟨by omega, by omega⟩).mp e))]
    by_cases q2 : z ≤ 1000
    · rw [if_pos ((iI_le hz ⟨by omega, by omega⟩).mpr q2), if_pos (show 1 ≤ z ∧ z ≤ 1000 by omega), if_neg (show ¬ (1 : Int32) = 0 by decide), show (40 : Int32) = nI 40 from rfl]
      by_cases q3 : n < 40
      · obtain ⟨arcs', e1, e2, e3⟩ := s_rn48 (arcs := arcs) (split := upd split n 0) (weight := upd weight n (iI z)) q3
        rw [if_pos (nI_lt q3 (by decide)), if_neg (fun e => by have := (nI_eq (by omega) (by decide)).mp e; omega), ckn (by omega) (by decide), ckn (by omega) (by decide), ckn (by omega) (by decide), ckn (by omega) (by decide), nI_clamp (by omega), e1, nI_1]
        refine ⟨_, _, _, _, _, _, _, _, _, rfl, rfl, n + 1, k, hs w n z, fun i j => if i = n ∨ j = n then 0 else A i j, lo, hi, hs h n 0, ⟨by omega, ?_, ?_, ?_, ?_, m.2.2.2.2.2.1, ?_⟩, ⟨rfl, rfl, ⟨?_, ?_⟩, ?_, c5, ?_, Or.inl rfl⟩, rfl, rfl, ?_, ?_, r5, ?_⟩
        · intro i hi'
          try dsimp only
          by_cases q : i = n
          · subst q; rw [hs_s]; omega
          · rw [hs_n q]; exact m.2.1 i (by omega)
        · intro i j hi' hj
          try dsimp only
          by_cases q : i = n ∨ j = n
          · rw [if_pos q]; omega
          · rw [if_neg q]; exact m.2.2.1 i j (by omega) (by omega)
        · intro i j hi' hj
          try dsimp only
          by_cases q : i = n ∨ j = n
          · rw [if_pos q, if_pos (show j = n ∨ i = n by omega)]
          · rw [if_neg q, if_neg (show ¬ (j = n ∨ i = n) by omega)]; exact m.2.2.2.1 i j (by omega) (by omega)
        · intro i hi'
          try dsimp only
          by_cases q : i = n ∨ i = n
          · rw [if_pos q]
          · rw [if_neg q]; exact m.2.2.2.2.1 i (by omega)
        · intro i hi'
          try dsimp only
          by_cases q : i = n
          · subst q; rw [hs_s]; omega
          · rw [hs_n q]; exact m.2.2.2.2.2.2 i (by omega)
        · intro i hi'
          try dsimp only
          by_cases q : i = n
          · subst q; rw [hs_s, pk_us]
          · rw [hs_n q, pk_un q]; exact c3.1 i (by omega)
        · intro i j hi' hj
          try dsimp only
          by_cases q : i = n ∨ j = n
          · rw [if_pos q]; exact c4 i j (by omega) (by omega) (by omega)
          · rw [if_neg q]; exact c3.2 i j (by omega) (by omega)
        · intro i j hi' hj hq
          try dsimp only
          exact c4 i j hi' hj (by omega)
        · intro i hi'
          try dsimp only
          by_cases q : i = n
          · subst q; rw [hs_s, pk_us]; rfl
          · rw [hs_n q, pk_un q]; exact c6 i (by omega)
        · intro i hi'
          try dsimp only
          by_cases q : i = n
          · subst q; rw [hs_s, pk_us]
          · rw [hs_n q, pk_un q]; exact r3 i (by omega)
        · intro i j hi' hj
          try dsimp only
          by_cases q : i = n ∨ j = n
          · rw [if_pos q]
            rcases q with q | q
            · subst q; exact (e3 j hj).1
            · subst q; exact (e3 i hi').2
          · rw [if_neg q, e2 i j (by omega) (by omega)]; exact r4 i j (by omega) (by omega)
        · intro i hi'
          try dsimp only
          by_cases q : i = n
          · subst q; rw [hs_s, pk_us]; rfl
          · rw [hs_n q, pk_un q]; exact r6 i (by omega)
      · have : n = 40 := by omega
        subst this
        rw [if_neg (nI_nlt (Nat.le_refl 40) (by decide)), if_pos rfl]
        exact ⟨_, _, _, _, _, _, _, _, _, rfl, rfl, hI'⟩
    · rw [if_neg (fun e => q2 ((iI_le hz ⟨by omega, by omega⟩).mp e)), if_neg (show ¬ (1 ≤ z ∧ z ≤ 1000) by omega), if_pos rfl]
      exact ⟨_, _, _, _, _, _, _, _, _, rfl, rfl, hI'⟩
theorem sim_arc {x1 x2 x3 fr ct kk sz nd kd : Int32} {ho ls least most ar wt home arcs rleast rmost split weight : Nat → Int32} (hI : INV fr ct ho ls kk least most sz ar wt home nd kd arcs rleast rmost split weight) : ∃ a fr' ar' arcs', f_Ba_arc x1 x2 x3 fr sz ar = some (a, fr', ar') ∧ f_Re_arc x1 x2 x3 nd arcs = some (a, arcs') ∧ INV fr' ct ho ls kk least most sz ar' wt home nd kd arcs' rleast rmost split weight := by
  have hI' := hI
  obtain ⟨n, k, w, A, lo, hi, h, m, ⟨c1, c2, c3, c4, c5, c6, c7⟩, r1, r2, r3, r4, r5, r6⟩ := hI
  have hn := m.1
  obtain ⟨z1, hz1, rfl⟩ := iI_ex x1
  obtain ⟨z2, hz2, rfl⟩ := iI_ex x2
  obtain ⟨z, hz, rfl⟩ := iI_ex x3
  subst c1 c2 r1 r2
  unfold f_Ba_arc f_Re_arc
  rw [s_has hz1 (by omega), s_isNode hz1 (by omega), Option.bind_some, Option.bind_some]
  by_cases q1 : 0 ≤ z1 ∧ z1 < n
  · rw [if_pos q1, if_neg (show ¬ (1 : Int32) = 0 by decide), if_neg (show ¬ (1 : Int32) = 0 by decide), s_has hz2 (by omega), s_isNode hz2 (by omega), Option.bind_some, Option.bind_some]
    by_cases q2 : 0 ≤ z2 ∧ z2 < n
    · rw [if_pos q2, if_neg (show ¬ (1 : Int32) = 0 by decide), if_neg (show ¬ (1 : Int32) = 0 by decide)]
      by_cases q3 : z1 = z2
      · rw [if_pos (by rw [q3]), if_pos (by rw [q3])]
        exact ⟨_, _, _, _, rfl, rfl, hI'⟩
      · rw [if_neg (fun e => q3 ((iI_eq hz1 hz2).mp e)), if_neg (fun e => q3 ((iI_eq hz1 hz2).mp e)), iI_l hz, show (1000 : Int64) = lI 1000 from rfl, show (1 : Int64) = lI 1 from rfl, s_isIn (r64_of hz) ⟨by omega, by omega⟩ ⟨by omega, by omega⟩, Option.bind_some, show (1000 : Int32) = iI 1000 from rfl]
        by_cases q4 : z < 1
        · rw [if_pos (show iI z < (1 : Int32) from (iI_lt (b := 1) hz ⟨by omega, by omega⟩).mpr q4), if_neg (show ¬ (1 ≤ z ∧ z ≤ 1000) by omega), if_pos rfl]
          exact ⟨_, _, _, _, rfl, rfl, hI'⟩
        · rw [if_neg (show ¬ iI z < (1 : Int32) from fun e => q4 ((iI_lt (b := 1) hz ⟨by omega, by omega⟩).mp e))]
          by_cases q5 : z ≤ 1000
          · obtain ⟨v, hv, e1, e2⟩ := iI_q q1
            obtain ⟨u, hu, e3, e4⟩ := iI_q q2
            have hne : v ≠ u := by omega
            have hA := m.2.2.1 v u hv hu
            have hA2 := m.2.2.2.1 v u hv hu
            rw [if_pos ((iI_le hz ⟨by omega, by omega⟩).mpr q5), if_pos (show 1 ≤ z ∧ z ≤ 1000 by omega), if_neg (show ¬ (1 : Int32) = 0 by decide), e2, e4, s_garc (by omega) (by omega), Option.bind_some, n40', n40', ckn (by omega) (by decide), nI_clamp (show 40 * v + u < 2 ^ 31 by omega), nI_clamp (show 40 * u + v < 2 ^ 31 by omega), c3.2 v u hv hu, r4 v u hv hu, iI_add, show (1000000 : Int32) = iI 1000000 from rfl]
            by_cases q6 : A v u + z ≤ 1000000
            · rw [if_pos ((iI_le ⟨by omega, by omega⟩ ⟨by omega, by omega⟩).mpr q6), if_pos ((iI_le ⟨by omega, by omega⟩ ⟨by omega, by omega⟩).mpr q6), s_addArc (by omega) (by omega) hne, Option.bind_some, ckn (by omega) (by decide), ckn (by omega) (by decide), c3.2 v u hv hu, c3.2 u v hu hv, iI_add, iI_add]
              refine ⟨_, _, _, _, rfl, rfl, n, k, w, fun i j => if (i = v ∧ j = u) ∨ (i = u ∧ j = v) then A v u + z else A i j, lo, hi, h, ⟨hn, m.2.1, ?_, ?_, ?_, m.2.2.2.2.2.1, m.2.2.2.2.2.2⟩, ⟨rfl, rfl, ⟨c3.1, ?_⟩, ?_, c5, c6, Or.inl rfl⟩, rfl, rfl, r3, ?_, r5, r6⟩
              · intro i j hi' hj
                try dsimp only
                by_cases q : (i = v ∧ j = u) ∨ (i = u ∧ j = v)
                · rw [if_pos q]; omega
                · rw [if_neg q]; exact m.2.2.1 i j hi' hj
              · intro i j hi' hj
                try dsimp only
                by_cases q : (i = v ∧ j = u) ∨ (i = u ∧ j = v)
                · rw [if_pos q, if_pos (show (j = v ∧ i = u) ∨ (j = u ∧ i = v) by omega)]
                · rw [if_neg q, if_neg (show ¬ ((j = v ∧ i = u) ∨ (j = u ∧ i = v)) by omega)]; exact m.2.2.2.1 i j hi' hj
              · intro i hi'
                try dsimp only
                rw [if_neg (show ¬ ((i = v ∧ i = u) ∨ (i = u ∧ i = v)) by omega)]; exact m.2.2.2.2.1 i hi'
              · intro i j hi' hj
                try dsimp only
                by_cases qa : i = u ∧ j = v
                · rw [if_pos (Or.inr qa), qa.1, qa.2, pk_us, hA2]
                · by_cases qb : i = v ∧ j = u
                  · rw [if_pos (Or.inl qb), qb.1, qb.2, pk_un (by omega), pk_us]
                  · rw [if_neg (by omega), pk_un (by omega), pk_un (by omega)]; exact c3.2 i j hi' hj
              · intro i j hi' hj hq
                try dsimp only
                rw [pk_un (by omega), pk_un (by omega)]; exact c4 i j hi' hj hq
              · intro i j hi' hj
                try dsimp only
                by_cases qa : i = u ∧ j = v
                · rw [if_pos (Or.inr qa), qa.1, qa.2, pk_us]
                · by_cases qb : i = v ∧ j = u
                  · rw [if_pos (Or.inl qb), qb.1, qb.2, pk_un (by omega), pk_us]
                  · rw [if_neg (by omega), pk_un (by omega), pk_un (by omega)]; exact r4 i j hi' hj
            · rw [if_neg (fun e => q6 ((iI_le ⟨by omega, by omega⟩ ⟨by omega, by omega⟩).mp e)), if_neg (fun e => q6 ((iI_le ⟨by omega, by omega⟩ ⟨by omega, by omega⟩).mp e))]
              exact ⟨_, _, _, _, rfl, rfl, hI'⟩
          · rw [if_neg (fun e => q5 ((iI_le hz ⟨by omega, by omega⟩).mp e)), if_neg (show ¬ (1 ≤ z ∧ z ≤ 1000) by omega), if_pos rfl]
            exact ⟨_, _, _, _, rfl, rfl, hI'⟩
    · rw [if_neg q2, if_pos rfl, if_pos rfl]
      exact ⟨_, _, _, _, rfl, rfl, hI'⟩
  · rw [if_neg q1, if_pos rfl, if_pos rfl]
    exact ⟨_, _, _, _, rfl, rfl, hI'⟩
theorem s_rparts {n : Nat} {z : Int} {x2 : Int32} {least most split : Nat → Int32} (hn : n ≤ 40) : ∃ least' most' split', L_Re_parts_28 (nI n) split 64 x2 0 (iI z) least most = some (x2, iI z, least', most', split') ∧ (∀ p, p < 4 → least' p = 0 ∧ most' p = 1000000) ∧ ∀ i, i < n → split' i = 0 := by
  obtain ⟨f', s', e, hP⟩ := loopP (fun f i (s : (Nat → Int32) × (Nat → Int32)) => L_Re_parts_28 (nI n) split f x2 (nI i) (iI z) s.1 s.2) 4 (fun i s => ∀ p, p < i → s.1 p = 0 ∧ s.2 p = 1000000) (by
    intro f i s hi hs'
    obtain ⟨s1, s2⟩ := s
    dsimp only at hs'
    show ∃ s', L_Re_parts_28 _ _ (f + 1) _ (nI i) _ s1 s2 = _ ∧ _
    rw [L_Re_parts_28, if_neg (show ¬ (4 : Int32) ≤ nI i from nI_ge (b := 4) hi (by omega)), ckn (by omega) (by decide), ckn (by omega) (by decide), nI_clamp (by omega), nI_1]
    refine ⟨(upd s1 i 0, upd s2 i 1000000), rfl, fun p hp => ?_⟩
    dsimp only
    by_cases q : p = i
    · subst q; rw [pk_us, pk_us]; exact ⟨rfl, rfl⟩
    · rw [pk_un q, pk_un q]; exact hs' p (by omega)) 4 0 64 (least, most) (by omega) (by omega) (fun p hp => absurd hp (Nat.not_lt_zero p))
  obtain ⟨s1, s2⟩ := s'
  dsimp only at hP
  have e : L_Re_parts_28 (nI n) split 64 x2 0 (iI z) least most = L_Re_parts_28 (nI n) split (f' + 1) x2 (nI 4) (iI z) s1 s2 := e
  obtain ⟨f2, s3, e2, hP2⟩ := loopP (fun f i (s : Nat → Int32) => L_Re_parts_56 (nI n) f x2 (nI i) (iI z) s1 s2 s) n (fun i s => ∀ p, p < i → s p = 0) (by
    intro f i s hi hs'
    show ∃ s', L_Re_parts_56 _ (f + 1) _ (nI i) _ _ _ s = _ ∧ _
    rw [L_Re_parts_56, if_neg (nI_ge hi (by omega)), ckn (by omega) (by decide), nI_clamp (by omega), nI_1]
    refine ⟨upd s i 0, rfl, fun p hp => ?_⟩
    by_cases q : p = i
    · subst q; rw [pk_us]
    · rw [pk_un q]; exact hs' p (by omega)) n 0 64 split (by omega) (by omega) (fun p hp => absurd hp (Nat.not_lt_zero p))
  have e2 : L_Re_parts_56 (nI n) 64 x2 0 (iI z) s1 s2 split = L_Re_parts_56 (nI n) (f2 + 1) x2 (nI n) (iI z) s1 s2 s3 := e2
  refine ⟨s1, s2, s3, ?_, hP, hP2⟩
  rw [e, L_Re_parts_28, if_pos (show (4 : Int32) ≤ nI 4 by decide), e2, L_Re_parts_56, if_pos (nI_le (Nat.le_refl n) (by omega))]
theorem BOK_new {k : Nat} (h1 : 2 ≤ k) (h2 : k ≤ 4) : BOK k (fun _ => 0) (fun _ => 1000000) := ⟨h1, h2, fun p _ => ⟨Int.le_refl 0, by show (0 : Int) ≤ 1000000; omega, Int.le_refl 1000000⟩⟩
theorem sim_parts {x1 fr ct kk sz nd kd : Int32} {ho ls least most ar wt home arcs rleast rmost split weight : Nat → Int32} (hI : INV fr ct ho ls kk least most sz ar wt home nd kd arcs rleast rmost split weight) : ∃ a fr' kk' least' most' home' kd' rleast' rmost' split', f_Ba_parts x1 fr kk least most home = some (a, fr', kk', least', most', home') ∧ f_Re_parts x1 nd kd rleast rmost split = some (a, kd', rleast', rmost', split') ∧ INV fr' ct ho ls kk' least' most' sz ar wt home' nd kd' arcs rleast' rmost' split' weight := by
  have hI' := hI
  obtain ⟨n, k, w, A, lo, hi, h, m, ⟨c1, c2, c3, c4, c5, c6, c7⟩, r1, r2, r3, r4, r5, r6⟩ := hI
  have hn := m.1
  obtain ⟨z, hz, rfl⟩ := iI_ex x1
  subst c1 c2 r1 r2
  unfold f_Ba_parts f_Re_parts
  rw [iI_l hz, show (2 : Int64) = lI 2 from rfl, show (4 : Int64) = lI 4 from rfl, s_isIn (r64_of hz) ⟨by omega, by omega⟩ ⟨by omega, by omega⟩, Option.bind_some, show (2 : Int32) = iI 2 from rfl, show (4 : Int32) = iI 4 from rfl]
  by_cases q1 : z < 2
  · rw [if_pos ((iI_lt hz ⟨by omega, by omega⟩).mpr q1), if_neg (show ¬ (2 ≤ z ∧ z ≤ 4) by omega), if_pos rfl]
    exact ⟨_, _, _, _, _, _, _, _, _, _, rfl, rfl, hI'⟩
  · rw [if_neg (fun e => q1 ((iI_lt hz ⟨by omega, by omega⟩).mp e))]
    by_cases q2 : z ≤ 4
    · obtain ⟨v, hv, e1, e2⟩ := iI_pn (p := 5) (show 0 ≤ z by omega) (by omega)
      obtain ⟨l', m', s', e3, e4, e5⟩ := s_rparts (z := z) (x2 := nI k) (least := rleast) (most := rmost) (split := split) hn
      rw [if_pos ((iI_le hz ⟨by omega, by omega⟩).mpr q2), if_pos (show 2 ≤ z ∧ z ≤ 4 by omega), if_neg (show ¬ (1 : Int32) = 0 by decide), e3]
      unfold f_Ba_startParts f_Bo_start
      rw [Option.bind_some, Option.bind_some]
      refine ⟨_, _, _, _, _, _, _, _, _, _, rfl, rfl, n, v, w, A, fun _ => 0, fun _ => 1000000, fun _ => 0, ⟨hn, m.2.1, m.2.2.1, m.2.2.2.1, m.2.2.2.2.1, BOK_new (by omega) (by omega), fun i _ => ⟨Int.le_refl 0, by show (0 : Int) < (v : Int); omega⟩⟩, ⟨rfl, e2, c3, c4, fun p _ => ⟨rfl, rfl⟩, fun i _ => rfl, Or.inl rfl⟩, rfl, e2, r3, r4, fun p hp => e4 p (by omega), fun i hi' => e5 i hi'⟩
    · rw [if_neg (fun e => q2 ((iI_le hz ⟨by omega, by omega⟩).mp e)), if_neg (show ¬ (2 ≤ z ∧ z ≤ 4) by omega), if_pos rfl]
      exact ⟨_, _, _, _, _, _, _, _, _, _, rfl, rfl, hI'⟩
theorem sim_clear {fr ct kk sz nd kd : Int32} {ho ls least most ar wt home arcs rleast rmost split weight : Nat → Int32} (hI : INV fr ct ho ls kk least most sz ar wt home nd kd arcs rleast rmost split weight) : ∃ a fr' kk' least' most' sz' ar' wt' home' nd' kd' rleast' rmost' split', f_Ba_clear sz = some (a, fr', kk', least', most', sz', ar', wt', home') ∧ f_Re_clear nd kd rleast rmost split = some (a, nd', kd', rleast', rmost', split') ∧ INV fr' ct ho ls kk' least' most' sz' ar' wt' home' nd' kd' arcs rleast' rmost' split' weight := by
  obtain ⟨n, k, w, A, lo, hi, h, m, ⟨c1, c2, c3, c4, c5, c6, c7⟩, r1, r2, r3, r4, r5, r6⟩ := hI
  subst c1 c2 r1 r2
  obtain ⟨l', m', s', e3, e4, e5⟩ := s_rparts (n := 0) (z := 2) (x2 := nI k) (least := rleast) (most := rmost) (split := split) (by omega)
  have e3 : L_Re_parts_28 0 split 64 (nI k) 0 2 rleast rmost = some (nI k, 2, l', m', s') := e3
  unfold f_Ba_clear f_Re_clear f_Re_parts f_Gr_empty f_Ba_startParts f_Bo_start
  rw [show f_Re_isIn (2 : Int32).toInt64 (2 : Int64) (4 : Int64) = some 1 from rfl, Option.bind_some, Option.bind_some, Option.bind_some, Option.bind_some, if_neg (show ¬ (1 : Int32) = 0 by decide), e3, Option.bind_some]
  refine ⟨_, _, _, _, _, _, _, _, _, _, _, _, _, _, rfl, rfl, 0, 2, fun _ => 0, fun _ _ => 0, fun _ => 0, fun _ => 1000000, fun _ => 0, ⟨by omega, fun i hi' => absurd hi' (Nat.not_lt_zero i), fun i j hi' => absurd hi' (Nat.not_lt_zero i), fun i j hi' => absurd hi' (Nat.not_lt_zero i), fun i hi' => absurd hi' (Nat.not_lt_zero i), BOK_new (by omega) (by omega), fun i hi' => absurd hi' (Nat.not_lt_zero i)⟩, ⟨rfl, rfl, ⟨fun i hi' => absurd hi' (Nat.not_lt_zero i), fun i j hi' => absurd hi' (Nat.not_lt_zero i)⟩, fun _ _ _ _ _ => rfl, fun p _ => ⟨rfl, rfl⟩, fun i hi' => absurd hi' (Nat.not_lt_zero i), Or.inl rfl⟩, rfl, rfl, fun i hi' => absurd hi' (Nat.not_lt_zero i), fun i j hi' => absurd hi' (Nat.not_lt_zero i), fun p hp => e4 p (by omega), fun i hi' => absurd hi' (Nat.not_lt_zero i)⟩
