theorem lk_pos {n v : Nat} {w : Nat → Int} {A : Nat → Nat → Int} {h : Nat → Int} {p : Int} (g : GOK n w A) (hv : v < n) : 0 < lk n A h v p ↔ anyB (fun u => decide (0 < A v u) && decide (h u = p)) n = true := by
  unfold lk
  rw [anyB_iff]
  have hnn : ∀ i, i < n → 0 ≤ (if h i = p then A v i else 0) := fun i hi => by
    have := g.2.2.2.1 v i hv hi
    by_cases q : h i = p
    · rw [if_pos q]; exact this
    · rw [if_neg q]; exact Int.le_refl 0
  constructor
  · intro hp
    by_cases q : ∃ u, u < n ∧ (decide (0 < A v u) && decide (h u = p)) = true
    · exact q
    · have : sI (fun i => if h i = p then A v i else 0) n = 0 := by
        refine Eq.trans (sI_congr (g := fun _ => 0) (fun i hi => ?_)) (sI_zero n)
        have h0 := g.2.2.2.1 v i hv hi
        by_cases z : h i = p
        · rw [if_pos z]
          by_cases zz : 0 < A v i
          · exact absurd ⟨i, hi, by simp [z, zz]⟩ q
          · omega
        · rw [if_neg z]
      omega
  · rintro ⟨u, hu, he⟩
    simp only [Bool.and_eq_true, decide_eq_true_eq] at he
    have := sI_mem (f := fun i => if h i = p then A v i else 0) hnn hu
    rw [if_pos he.2] at this
    omega
theorem s_volume {n k v : Nat} {w : Nat → Int} {A : Nat → Nat → Int} {lo hi h : Nat → Int} {home sum link : Nat → Int32} {cut over : Int32} (g : GOK n w A) (hk : k ≤ 4) (hr : RW n h home) (hh : HK n k h) (hS : SP n k w A lo hi h sum link cut over) (hv : v < n) : f_Sp_volume (nI v) (nI k) home link = some (iI (volI n k A h v)) := by
  have hn := g.1
  obtain ⟨f', e⟩ := loopS (fun f i s => L_Sp_volume_4 (nI v) (nI k) home link f s (nI i)) k (fun i => iI (sI (fun p => if (p : Int) = h v then 0 else if 0 < lk n A h v p then 1 else 0) i)) (by
    intro f i hi'
    show L_Sp_volume_4 _ _ _ _ (f + 1) _ (nI i) = _
    have h1 := hh v hv
    have h2 := g.lnk hv h (i : Int)
    rw [L_Sp_volume_4, if_neg (nI_ge hi' (by omega)), ckn (by omega) (by decide), nI_clamp (show v < 2 ^ 31 by omega), hr v hv, nI_1, sI_s]
    by_cases q : (i : Int) = h v
    · rw [if_pos (by rw [nI_iI, q]), if_pos q, Int.add_zero]
    · rw [if_neg (by rw [nI_iI, iI_eq ⟨by omega, by omega⟩ ⟨by omega, by omega⟩]; exact q), if_neg q, n4, ckn (by omega) (by decide), nI_clamp (by omega), hS.2.1 v i hv (by omega), ← iI_0]
      by_cases z : 0 < lk n A h v i
      · rw [if_neg (by rw [iI_le ⟨by omega, by omega⟩ ⟨by omega, by omega⟩]; omega), if_pos z, ← iI_1, iI_add]
      · rw [if_pos (by rw [iI_le ⟨by omega, by omega⟩ ⟨by omega, by omega⟩]; omega), if_neg z, Int.add_zero]) k 0 64 (by omega) (by omega)
  unfold f_Sp_volume
  have e : L_Sp_volume_4 (nI v) (nI k) home link 64 0 0 = _ := e
  rw [e]
  show L_Sp_volume_4 _ _ _ _ (f' + 1) _ (nI k) = _
  rw [L_Sp_volume_4, if_pos (nI_le (Nat.le_refl k) (by omega))]
  rfl
theorem s_volumes {n k : Nat} {w : Nat → Int} {A : Nat → Nat → Int} {lo hi h : Nat → Int} {home sum link : Nat → Int32} {cut over : Int32} (g : GOK n w A) (hk : k ≤ 4) (hr : RW n h home) (hh : HK n k h) (hS : SP n k w A lo hi h sum link cut over) : f_Sp_volumes (nI k) (nI n) home link = some (iI (sI (volI n k A h) n)) := by
  have hn := g.1
  obtain ⟨f', e⟩ := loopS (fun f i s => L_Sp_volumes_4 (nI k) (nI n) home link f s (nI i)) n (fun i => iI (sI (volI n k A h) i)) (by
    intro f i hi'
    show L_Sp_volumes_4 _ _ _ _ (f + 1) _ (nI i) = _
    rw [L_Sp_volumes_4, if_neg (nI_ge hi' (by omega)), s_volume g hk hr hh hS hi', Option.bind_some, iI_add, nI_1, sI_s]) n 0 64 (by omega) (by omega)
  unfold f_Sp_volumes
  have e : L_Sp_volumes_4 (nI k) (nI n) home link 64 0 0 = _ := e
  rw [e]
  show L_Sp_volumes_4 _ _ _ _ (f' + 1) _ (nI n) = _
  rw [L_Sp_volumes_4, if_pos (nI_le (Nat.le_refl n) (by omega))]
theorem s_ro65 {n k v p : Nat} {w : Nat → Int} {A : Nat → Nat → Int} {h : Nat → Int} {arcs split : Nat → Int32} {x3 : Int32} (g : GOK n w A) (hA : ∀ i j, i < n → j < n → arcs (40 * i + j) = iI (A i j)) (hk : k ≤ 4) (hr : RW n h split) (hh : HK n k h) (hv : v < n) (hp : p < k) (K : Int32 → Int32 → Option Int32) : L_Re_of_65 (nI v) (nI n) arcs split K 64 x3 (nI p) 0 0 = J_Re_of_117 (nI v) split K x3 (nI p) (if anyB (fun u => decide (0 < A v u) && decide (h u = (p : Int))) n = true then 1 else 0) := by
  have hn := g.1
  obtain ⟨f', e⟩ := loopS (fun f i s => L_Re_of_65 (nI v) (nI n) arcs split K f x3 (nI p) s (nI i)) n (fun i => if anyB (fun u => decide (0 < A v u) && decide (h u = (p : Int))) i = true then (1 : Int32) else 0) (by
    intro f i hi
    show L_Re_of_65 _ _ _ _ _ (f + 1) _ _ _ (nI i) = _
    have h1 := hh i hi
    have h2 := g.a32 hv hi
    have e2 : anyB (fun u => decide (0 < A v u) && decide (h u = (p : Int))) (i + 1) = (anyB (fun u => decide (0 < A v u) && decide (h u = (p : Int))) i || (decide (0 < A v i) && decide (h i = (p : Int)))) := rfl
    have o0 : ∀ b : Bool, (if b = true then (1 : Int32) else 0) ||| 0 = if b = true then (1 : Int32) else 0 := fun b => by cases b <;> rfl
    have o1 : ∀ b : Bool, (if b = true then (1 : Int32) else 0) ||| 1 = 1 := fun b => by cases b <;> rfl
    rw [L_Re_of_65, if_neg (nI_ge hi (by omega)), n40', ckn (by omega) (by decide), nI_clamp (show 40 * v + i < 2 ^ 31 by omega), hA v i hv hi, nI_1, e2]
    by_cases q : 0 < A v i
    · rw [if_neg (show ¬ iI (A v i) ≤ (0 : Int32) from fun e => by have := (iI_le (b := 0) ⟨by omega, by omega⟩ ⟨by omega, by omega⟩).mp e; omega), ckn (by omega) (by decide), nI_clamp (by omega), hr i hi, nI_iI p]
      by_cases z : h i = (p : Int)
      · rw [if_pos (by rw [z]), o1, decide_eq_true q, decide_eq_true z, Bool.and_self, Bool.or_true, if_pos rfl]
      · rw [if_neg (by rw [iI_eq ⟨by omega, by omega⟩ ⟨by omega, by omega⟩]; exact z), o0, decide_eq_false z, Bool.and_false, Bool.or_false]
    · rw [if_pos (show iI (A v i) ≤ (0 : Int32) from (iI_le (b := 0) ⟨by omega, by omega⟩ ⟨by omega, by omega⟩).mpr (by omega)), o0, decide_eq_false q, Bool.false_and, Bool.or_false]) n 0 64 (by omega) (by omega)
  have e : L_Re_of_65 (nI v) (nI n) arcs split K 64 x3 (nI p) 0 0 = _ := e
  rw [e]
  show L_Re_of_65 _ _ _ _ _ (f' + 1) _ _ _ (nI n) = _
  rw [L_Re_of_65, if_pos (nI_le (Nat.le_refl n) (by omega))]
theorem s_ro153 {n v : Nat} {w : Nat → Int} {A : Nat → Nat → Int} {arcs : Nat → Int32} {x2 x3 : Int32} (g : GOK n w A) (hA : ∀ i j, i < n → j < n → arcs (40 * i + j) = iI (A i j)) (hv : v < n) : L_Re_of_153 (nI v) x2 (nI n) arcs 64 x3 0 0 = J_Re_of_193 x2 x3 (iI (nbI n A v)) := by
  have hn := g.1
  obtain ⟨f', e⟩ := loopS (fun f i s => L_Re_of_153 (nI v) x2 (nI n) arcs f x3 s (nI i)) n (fun i => iI (sI (fun u => if 0 < A v u then 1 else 0) i)) (by
    intro f i hi
    show L_Re_of_153 _ _ _ _ (f + 1) _ _ (nI i) = _
    have h1 := g.a32 hv hi
    rw [L_Re_of_153, if_neg (nI_ge hi (by omega)), n40', ckn (by omega) (by decide), nI_clamp (by omega), hA v i hv hi, nI_1, sI_s, ← iI_0, ← iI_1]
    by_cases q : 0 < A v i
    · rw [if_neg (by rw [iI_le ⟨by omega, by omega⟩ ⟨by omega, by omega⟩]; omega), if_pos q, iI_add]
    · rw [if_pos (by rw [iI_le ⟨by omega, by omega⟩ ⟨by omega, by omega⟩]; omega), if_neg q, iI_add]) n 0 64 (by omega) (by omega)
  have e : L_Re_of_153 (nI v) x2 (nI n) arcs 64 x3 0 0 = _ := e
  rw [e]
  show L_Re_of_153 _ _ _ _ (f' + 1) _ _ (nI n) = _
  rw [L_Re_of_153, if_pos (nI_le (Nat.le_refl n) (by omega))]
  rfl
theorem s_ro50 {n k v : Nat} {w : Nat → Int} {A : Nat → Nat → Int} {h : Nat → Int} {arcs split : Nat → Int32} {x2 : Int32} (g : GOK n w A) (hA : ∀ i j, i < n → j < n → arcs (40 * i + j) = iI (A i j)) (hk : k ≤ 4) (hr : RW n h split) (hh : HK n k h) (hv : v < n) : L_Re_of_50 (nI v) x2 (nI n) (nI k) arcs split 64 0 0 = J_Re_of_193 x2 (iI (volI n k A h v)) (iI (nbI n A v)) := by
  have hn := g.1
  obtain ⟨f', e⟩ := loopS (fun f i s => L_Re_of_50 (nI v) x2 (nI n) (nI k) arcs split f s (nI i)) k (fun i => iI (sI (fun p => if (p : Int) = h v then 0 else if 0 < lk n A h v p then 1 else 0) i)) (by
    intro f i hi'
    show L_Re_of_50 _ _ _ _ _ _ (f + 1) _ (nI i) = _
    have h1 := hh v hv
    rw [L_Re_of_50, if_neg (nI_ge hi' (by omega)), s_ro65 g hA hk hr hh hv hi', sI_s]
    unfold J_Re_of_117
    rw [nI_1]
    by_cases z : 0 < lk n A h v i
    · rw [if_pos ((lk_pos g hv).mp z), if_neg (show ¬ (1 : Int32) = 0 by decide), ckn (by omega) (by decide), nI_clamp (by omega), hr v hv, if_pos z, ← iI_0, ← iI_1]
      by_cases q : (i : Int) = h v
      · rw [if_pos (by rw [nI_iI, q]), if_pos q, iI_add]
      · rw [if_neg (by rw [nI_iI, iI_eq ⟨by omega, by omega⟩ ⟨by omega, by omega⟩]; exact q), if_neg q, iI_add]
    · rw [if_neg (fun e => z ((lk_pos g hv).mpr e)), if_pos rfl, if_neg z, ite_self, ← iI_0, iI_add]) k 0 64 (by omega) (by omega)
  have e : L_Re_of_50 (nI v) x2 (nI n) (nI k) arcs split 64 0 0 = _ := e
  rw [e]
  show L_Re_of_50 _ _ _ _ _ _ (f' + 1) _ (nI k) = _
  rw [L_Re_of_50, if_pos (nI_le (Nat.le_refl k) (by omega)), s_ro153 g hA hv]
  rfl
theorem s_rof2 {n k v : Nat} {w : Nat → Int} {A : Nat → Nat → Int} {h : Nat → Int} {arcs split weight : Nat → Int32} (g : GOK n w A) (hA : ∀ i j, i < n → j < n → arcs (40 * i + j) = iI (A i j)) (hk : k ≤ 4) (hr : RW n h split) (hh : HK n k h) (hv : v < n) : f_Re_of (nI v) 2 (nI n) (nI k) arcs split weight = some (iI (volI n k A h v)) := by
  have hn := g.1
  unfold f_Re_of
  rw [nI_iI v, s_isNode ⟨by omega, by omega⟩ (by omega), Option.bind_some, if_pos (show 0 ≤ (v : Int) ∧ (v : Int) < n by omega), if_neg (show ¬ (1 : Int32) = 0 by decide), show f_Re_isIn (2 : Int32).toInt64 (0 : Int64) (3 : Int64) = some 1 from rfl, Option.bind_some, if_neg (show ¬ (1 : Int32) = 0 by decide), if_neg (show ¬ (2 : Int32) = 0 by decide), if_neg (show ¬ (2 : Int32) = 1 by decide), ← nI_iI v, s_ro50 g hA hk hr hh hv]
  unfold J_Re_of_193
  rw [if_pos rfl]
theorem sim_of {x1 x2 c0 o0 fr ct kk sz nd kd : Int32} {ho ls least most ar wt home link0 sum0 arcs rleast rmost split weight : Nat → Int32} (hI : INV fr ct ho ls kk least most sz ar wt home nd kd arcs rleast rmost split weight) : ∃ a oc, f_Ba_of x1 x2 c0 o0 kk least most sz ar wt home link0 sum0 = some (a, oc) ∧ f_Re_of x1 x2 nd kd arcs split weight = some a := by
  obtain ⟨n, k, w, A, lo, hi, h, m, ⟨c1, c2, c3, c4, c5, c6, c7⟩, r1, r2, r3, r4, r5, r6⟩ := hI
  have g := m.g
  have hn := m.1
  have hB := m.2.2.2.2.2.1
  have hh := m.2.2.2.2.2.2
  have hk := hB.2.1
  obtain ⟨z1, hz1, rfl⟩ := iI_ex x1
  obtain ⟨z2, hz2, rfl⟩ := iI_ex x2
  subst c1 c2 r1 r2
  obtain ⟨link, sum, cut, over, e1, e2⟩ := s_recount g c3 c6 hB c5 hh
  unfold f_Ba_of f_Re_of
  rw [s_has hz1 (by omega), s_isNode hz1 (by omega), Option.bind_some, Option.bind_some]
  have j0 : r32 0 := ⟨by omega, by omega⟩
  have j1 : r32 1 := ⟨by omega, by omega⟩
  have j2 : r32 2 := ⟨by omega, by omega⟩
  have j3 : r32 3 := ⟨by omega, by omega⟩
  by_cases q1 : 0 ≤ z1 ∧ z1 < n
  · obtain ⟨v, hv, e6, e7⟩ := iI_q q1
    rw [if_pos q1, if_neg (show ¬ (1 : Int32) = 0 by decide), if_neg (show ¬ (1 : Int32) = 0 by decide), e7, iI_l hz2, show (3 : Int64) = lI 3 from rfl, ← lI_0, s_isIn (r64_of hz2) (r64_of j0) (r64_of j3), Option.bind_some, show (3 : Int32) = iI 3 from rfl, show (2 : Int32) = iI 2 from rfl]
    by_cases q2 : 0 ≤ z2 ∧ z2 ≤ 3
    · rw [if_pos q2, if_neg (show ¬ (1 : Int32) = 0 by decide)]
      by_cases a0 : z2 = 0
      · rw [if_pos (show iI z2 = 0 by rw [a0]; rfl), if_pos (show iI z2 = 0 by rw [a0]; rfl), ckn (by omega) (by decide), ckn (by omega) (by decide), nI_clamp (by omega), c3.1 v hv, r3 v hv]
        exact ⟨_, _, rfl, rfl⟩
      · have b0 : ¬ iI z2 = (0 : Int32) := fun e => a0 ((iI_eq hz2 j0).mp e)
        rw [if_neg b0, if_neg b0]
        by_cases a1 : z2 = 1
        · rw [if_pos (show iI z2 = 1 by rw [a1]; rfl), if_pos (show iI z2 = 1 by rw [a1]; rfl), ckn (by omega) (by decide), ckn (by omega) (by decide), nI_clamp (by omega), c6 v hv, r6 v hv]
          exact ⟨_, _, rfl, rfl⟩
        · have b1 : ¬ iI z2 = (1 : Int32) := fun e => a1 ((iI_eq hz2 j1).mp e)
          rw [if_neg b1, if_neg b1, s_ro50 g r4 hk r6 hh hv]
          unfold J_Re_of_193
          rw [show (2 : Int32) = iI 2 from rfl]
          by_cases a2 : z2 = 2
          · rw [if_pos (by rw [a2]), if_pos (by rw [a2]), e1, Option.bind_some]
            dsimp only
            rw [s_volume g hk c6 hh e2 hv, Option.bind_some]
            exact ⟨_, _, rfl, rfl⟩
          · rw [if_neg (fun e => a2 ((iI_eq hz2 j2).mp e)), if_neg (fun e => a2 ((iI_eq hz2 j2).mp e)), if_pos (show iI z2 = iI 3 by rw [show z2 = 3 by omega]), s_neigh g c3 hv, Option.bind_some]
            exact ⟨_, _, rfl, rfl⟩
    · rw [if_neg q2, if_pos rfl, if_neg (show ¬ iI z2 = (0 : Int32) from fun e => by have := (iI_eq hz2 j0).mp e; omega), if_neg (show ¬ iI z2 = (1 : Int32) from fun e => by have := (iI_eq hz2 j1).mp e; omega), if_neg (show ¬ iI z2 = iI 2 from fun e => by have := (iI_eq hz2 j2).mp e; omega), if_neg (show ¬ iI z2 = iI 3 from fun e => by have := (iI_eq hz2 j3).mp e; omega)]
      exact ⟨_, _, rfl, rfl⟩
  · rw [if_neg q1, if_pos rfl, if_pos rfl]
    exact ⟨_, _, rfl, rfl⟩
