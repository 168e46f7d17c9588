def nbI (n : Nat) (A : Nat → Nat → Int) (v : Nat) : Int := sI (fun u => if 0 < A v u then 1 else 0) n
def volI (n k : Nat) (A : Nat → Nat → Int) (h : Nat → Int) (v : Nat) : Int := sI (fun p => if (p : Int) = h v then 0 else if 0 < lk n A h v p then 1 else 0) k
def acI (n : Nat) (A : Nat → Nat → Int) : Int := sI (fun a => sI (fun b => if 0 < A a b then 1 else 0) a) n
theorem i01 {p : Prop} [Decidable p] : 0 ≤ (if p then (1 : Int) else 0) ∧ (if p then (1 : Int) else 0) ≤ 1 := by
  by_cases q : p
  · rw [if_pos q]; omega
  · rw [if_neg q]; omega
theorem s_neigh {n v : Nat} {w : Nat → Int} {A : Nat → Nat → Int} {wt ar : Nat → Int32} (g : GOK n w A) (hC : CG n w A wt ar) (hv : v < n) : f_Gr_neighbours (nI v) (nI n) ar = some (iI (nbI n A v)) := by
  have hn := g.1
  obtain ⟨f', e⟩ := loopS (fun f i s => L_Gr_neighbours_4 (nI v) (nI n) ar f s (nI i)) n (fun i => iI (sI (fun u => if 0 < A v u then 1 else 0) i)) (by
    intro f i hi
    show L_Gr_neighbours_4 _ _ _ (f + 1) _ (nI i) = _
    have h1 := g.a32 hv hi
    rw [L_Gr_neighbours_4, if_neg (nI_ge hi (by omega)), s_garc (by omega) (by omega), Option.bind_some, hC.2 v i hv hi, nI_1, sI_s, ← iI_0]
    by_cases q : 0 < A v i
    · rw [if_neg (by rw [iI_le ⟨by omega, by omega⟩ ⟨by omega, by omega⟩]; omega), if_pos q, ← iI_1, iI_add]
    · rw [if_pos (by rw [iI_le ⟨by omega, by omega⟩ ⟨by omega, by omega⟩]; omega), if_neg q, Int.add_zero]) n 0 64 (by omega) (by omega)
  unfold f_Gr_neighbours
  have e : L_Gr_neighbours_4 (nI v) (nI n) ar 64 0 0 = _ := e
  rw [e]
  show L_Gr_neighbours_4 _ _ _ (f' + 1) _ (nI n) = _
  rw [L_Gr_neighbours_4, if_pos (nI_le (Nat.le_refl n) (by omega))]
  rfl
theorem ac_half {n : Nat} {w : Nat → Int} {A : Nat → Nat → Int} (g : GOK n w A) : sI (fun a => nbI n A a) n = 2 * acI n A := by
  unfold nbI acI
  refine sI_half (C := fun a b => if 0 < A a b then 1 else 0) n (fun a b ha hb => ?_) (fun a ha => ?_)
  · rw [g.2.2.2.2.2.1 a b ha hb]
  · rw [g.2.2.2.2.2.2 a ha]; rfl
theorem ac_bnd {n : Nat} {A : Nat → Nat → Int} (hn : n ≤ 40) : 0 ≤ acI n A ∧ acI n A ≤ 1600 := by
  unfold acI
  have := sI_bnd (f := fun a => sI (fun b => if 0 < A a b then (1 : Int) else 0) a) (n := n) (c := 40) (fun a ha => by
    have := sI_bnd (f := fun b => if 0 < A a b then (1 : Int) else 0) (n := a) (c := 1) (fun b _ => i01)
    omega)
  omega
theorem s_arcCount {n : Nat} {w : Nat → Int} {A : Nat → Nat → Int} {wt ar : Nat → Int32} (g : GOK n w A) (hC : CG n w A wt ar) : f_Gr_arcCount (nI n) ar = some (iI (acI n A)) := by
  have hn := g.1
  obtain ⟨f', e⟩ := loopS (fun f i s => L_Gr_arcCount_4 (nI n) ar f s (nI i)) n (fun i => iI (sI (fun a => nbI n A a) i)) (by
    intro f i hi
    show L_Gr_arcCount_4 _ _ (f + 1) _ (nI i) = _
    rw [L_Gr_arcCount_4, if_neg (nI_ge hi (by omega)), s_neigh g hC hi, Option.bind_some, iI_add, nI_1, sI_s]) n 0 64 (by omega) (by omega)
  unfold f_Gr_arcCount
  have e : L_Gr_arcCount_4 (nI n) ar 64 0 0 = _ := e
  rw [e]
  show L_Gr_arcCount_4 _ _ (f' + 1) _ (nI n) = _
  rw [L_Gr_arcCount_4, if_pos (nI_le (Nat.le_refl n) (by omega)), ac_half g]
  have hb := ac_bnd (A := A) hn
  obtain ⟨q, hq, e1, e2⟩ := iI_pn (p := 1601) hb.1 (by omega)
  rw [e1, show (2 * (q : Int)) = ((2 * q : Nat) : Int) by omega, ← nI_iI, pk_shrN (by omega) (1 &&& 31) 1 (by decide), show 2 * q / 2 ^ 1 = q by omega, nI_iI]
theorem s_rc63 {n v : Nat} {w : Nat → Int} {A : Nat → Nat → Int} {arcs : Nat → Int32} {z : Int} (g : GOK n w A) (hA : ∀ i j, i < n → j < n → arcs (40 * i + j) = iI (A i j)) (hv : v < n) (K : Int32 → Int32 → Option (Int32 × Int32 × (Nat → Int32) × (Nat → Int32) × (Nat → Int32) × (Nat → Int32) × (Nat → Int32))) : L_Re_count_63 arcs K 64 (iI z) (nI v) 0 = K (iI (z + sI (fun b => if 0 < A v b then 1 else 0) v)) (nI (v + 1)) := by
  have hn := g.1
  obtain ⟨f', e⟩ := loopS (fun f i s => L_Re_count_63 arcs K f s (nI v) (nI i)) v (fun i => iI (z + sI (fun b => if 0 < A v b then 1 else 0) i)) (by
    intro f i hi
    show L_Re_count_63 _ _ (f + 1) _ _ (nI i) = _
    have h1 := g.a32 hv (show i < n by omega)
    rw [L_Re_count_63, if_neg (nI_ge hi (by omega)), n40', ckn (by omega) (by decide), nI_clamp (by omega), hA v i hv (by omega), nI_1, sI_s, ← iI_0, ← iI_1]
    by_cases q : 0 < A v i
    · rw [if_neg (by rw [iI_le ⟨by omega, by omega⟩ ⟨by omega, by omega⟩]; omega), if_pos q, iI_add, Int.add_assoc]
    · rw [if_pos (by rw [iI_le ⟨by omega, by omega⟩ ⟨by omega, by omega⟩]; omega), if_neg q, iI_add, Int.add_assoc]) v 0 64 (by omega) (by omega)
  have e : L_Re_count_63 arcs K 64 (iI (z + 0)) (nI v) 0 = _ := e
  rw [Int.add_zero] at e
  rw [e]
  show L_Re_count_63 _ _ (f' + 1) _ _ (nI v) = _
  rw [L_Re_count_63, if_pos (nI_le (Nat.le_refl v) (by omega)), nI_1]
theorem s_rc52 {n : Nat} {w : Nat → Int} {A : Nat → Nat → Int} {lv : Int32} {arcs LA LI LN LW parts : Nat → Int32} (g : GOK n w A) (hA : ∀ i j, i < n → j < n → arcs (40 * i + j) = iI (A i j)) : L_Re_count_52 (nI n) lv arcs LA LI LN LW parts 64 0 0 = some (iI (acI n A), lv, LA, LI, LN, LW, parts) := by
  have hn := g.1
  obtain ⟨f', e⟩ := loopS (fun f i s => L_Re_count_52 (nI n) lv arcs LA LI LN LW parts f s (nI i)) n (fun i => iI (sI (fun a => sI (fun b => if 0 < A a b then 1 else 0) a) i)) (by
    intro f i hi
    show L_Re_count_52 _ _ _ _ _ _ _ _ (f + 1) _ (nI i) = _
    rw [L_Re_count_52, if_neg (nI_ge hi (by omega)), s_rc63 g hA hi, sI_s]) n 0 64 (by omega) (by omega)
  have e : L_Re_count_52 (nI n) lv arcs LA LI LN LW parts 64 0 0 = _ := e
  rw [e]
  show L_Re_count_52 _ _ _ _ _ _ _ _ (f' + 1) _ (nI n) = _
  rw [L_Re_count_52, if_pos (nI_le (Nat.le_refl n) (by omega))]
  rfl
theorem s_nodesIn {n k p : Nat} {h : Nat → Int} {home : Nat → Int32} (hn : n ≤ 40) (hk : k ≤ 4) (hr : RW n h home) (hh : HK n k h) (hp : p < k) : f_Sp_nodesIn (nI p) (nI n) home = some (iI (pS n (fun _ => 1) h p)) := by
  obtain ⟨f', e⟩ := loopS (fun f i s => L_Sp_nodesIn_4 (nI p) (nI n) home f s (nI i)) n (fun i => iI (sI (fun i => if h i = (p : Int) then 1 else 0) i)) (by
    intro f i hi
    show L_Sp_nodesIn_4 _ _ _ (f + 1) _ (nI i) = _
    have h1 := hh i hi
    rw [L_Sp_nodesIn_4, if_neg (nI_ge hi (by omega)), ckn (by omega) (by decide), nI_clamp (by omega), hr i hi, nI_1, sI_s, nI_iI p]
    by_cases q : h i = (p : Int)
    · rw [if_pos (by rw [q]), if_pos q, ← iI_1, iI_add]
    · rw [if_neg (by rw [iI_eq ⟨by omega, by omega⟩ ⟨by omega, by omega⟩]; exact q), if_neg q, Int.add_zero]) n 0 64 (by omega) (by omega)
  unfold f_Sp_nodesIn
  have e : L_Sp_nodesIn_4 (nI p) (nI n) home 64 0 0 = _ := e
  rw [e]
  show L_Sp_nodesIn_4 _ _ _ (f' + 1) _ (nI n) = _
  rw [L_Sp_nodesIn_4, if_pos (nI_le (Nat.le_refl n) (by omega))]
  rfl
theorem s_rp31 {n k p : Nat} {h : Nat → Int} {x2 lv sz bs : Int32} {least most split LA LI LN LW row : Nat → Int32} (hn : n ≤ 40) (hk : k ≤ 4) (hr : RW n h split) (hh : HK n k h) (hp : p < k) : L_Re_part_31 (nI p) x2 (nI n) least most split 64 0 0 lv sz bs LA LI LN LW row = J_Re_part_65 (nI p) x2 least most (iI (pS n (fun _ => 1) h p)) lv sz bs LA LI LN LW row := by
  obtain ⟨f', e⟩ := loopS (fun f i s => L_Re_part_31 (nI p) x2 (nI n) least most split f s (nI i) lv sz bs LA LI LN LW row) n (fun i => iI (sI (fun i => if h i = (p : Int) then 1 else 0) i)) (by
    intro f i hi
    show L_Re_part_31 _ _ _ _ _ _ (f + 1) _ (nI i) _ _ _ _ _ _ _ _ = _
    have h1 := hh i hi
    rw [L_Re_part_31, if_neg (nI_ge hi (by omega)), ckn (by omega) (by decide), nI_clamp (by omega), hr i hi, nI_1, sI_s, nI_iI p, ← iI_0, ← iI_1]
    by_cases q : h i = (p : Int)
    · rw [if_pos (by rw [q]), if_pos q, iI_add]
    · rw [if_neg (by rw [iI_eq ⟨by omega, by omega⟩ ⟨by omega, by omega⟩]; exact q), if_neg q, iI_add]) n 0 64 (by omega) (by omega)
  have e : L_Re_part_31 (nI p) x2 (nI n) least most split 64 0 0 lv sz bs LA LI LN LW row = _ := e
  rw [e]
  show L_Re_part_31 _ _ _ _ _ _ (f' + 1) _ (nI n) _ _ _ _ _ _ _ _ = _
  rw [L_Re_part_31, if_pos (nI_le (Nat.le_refl n) (by omega))]
  rfl
theorem iI_ne {z : Int} (hz : r32 z) (c : Int) (hc : r32 c) : (iI z = iI c) = (z = c) := propext (iI_eq hz hc)
theorem sim_part {x1 x2 c0 o0 lv sz0 bs fr ct kk sz nd kd : Int32} {ho ls least most ar wt home link0 sum0 arcs rleast rmost split weight LA LI LN LW row : Nat → Int32} (hI : INV fr ct ho ls kk least most sz ar wt home nd kd arcs rleast rmost split weight) : ∃ a oc orr, f_Ba_part x1 x2 c0 o0 kk least most sz ar wt home link0 sum0 = some (a, oc) ∧ f_Re_part x1 x2 nd kd lv sz0 bs arcs rleast LA LI LN LW rmost row split weight = some (a, orr) := by
  obtain ⟨n, k, w, A, lo, hi, h, m, ⟨c1, c2, c3, c4, c5, c6, c7⟩, r1, r2, r3, r4, r5, r6⟩ := hI
  have g := m.g
  have hn := m.1
  have hB := m.2.2.2.2.2.1
  have hh := m.2.2.2.2.2.2
  have hk := hB.2.1
  obtain ⟨z1, hz1, rfl⟩ := iI_ex x1
  obtain ⟨z2, hz2, rfl⟩ := iI_ex x2
  subst c1 c2 r1 r2
  obtain ⟨link, sum, cut, over, e1, e2⟩ := s_recount g c3 c6 hB c5 hh
  obtain ⟨LA', LI', LN', LW', row', e3, e4, e5⟩ := s_takeSplit (LA := LA) (LI := LI) (LN := LN) (LW := LW) (row := row) g hB.1 hB.2.1 r3 r4 r6
  unfold f_Ba_part f_Re_part
  rw [s_bhas hz1 (by omega), s_isPart hz1 (by omega), Option.bind_some, Option.bind_some]
  by_cases q1 : 0 ≤ z1 ∧ z1 < k
  · obtain ⟨v, hv, e6, e7⟩ := iI_q q1
    have j0 : r32 0 := ⟨by omega, by omega⟩
    have j1 : r32 1 := ⟨by omega, by omega⟩
    have j2 : r32 2 := ⟨by omega, by omega⟩
    have j3 : r32 3 := ⟨by omega, by omega⟩
    rw [if_pos q1, if_neg (show ¬ (1 : Int32) = 0 by decide), if_neg (show ¬ (1 : Int32) = 0 by decide), e7, iI_l hz2, show (3 : Int64) = lI 3 from rfl, ← lI_0, s_isIn (r64_of hz2) (r64_of j0) (r64_of j3), Option.bind_some, show (3 : Int32) = iI 3 from rfl, show (2 : Int32) = iI 2 from rfl]
    by_cases q2 : 0 ≤ z2 ∧ z2 ≤ 3
    · rw [if_pos q2, if_neg (show ¬ (1 : Int32) = 0 by decide), e3, Option.bind_some]
      dsimp only
      rw [s_rp31 hn hk r6 hh hv]
      unfold J_Re_part_65
      rw [show (2 : Int32) = iI 2 from rfl]
      by_cases a0 : z2 = 0
      · rw [if_pos (show iI z2 = 0 by rw [a0]; rfl), if_pos (show iI z2 = 0 by rw [a0]; rfl), e1, Option.bind_some, ckn (by omega) (by decide), nI_clamp (by omega), s_sumOf g e4 e5 hk (HK.ok hh) (by omega), Option.bind_some, lI_i]
        dsimp only
        rw [e2.1 v (by omega)]
        exact ⟨_, _, _, rfl, rfl⟩
      · have b0 : ¬ iI z2 = (0 : Int32) := fun e => a0 ((iI_eq hz2 j0).mp e)
        rw [if_neg b0, if_neg b0]
        by_cases a1 : z2 = 1
        · rw [if_pos (show iI z2 = 1 by rw [a1]; rfl), if_pos (show iI z2 = 1 by rw [a1]; rfl), s_nodesIn hn hk c6 hh hv, Option.bind_some]
          exact ⟨_, _, _, rfl, rfl⟩
        · have b1 : ¬ iI z2 = (1 : Int32) := fun e => a1 ((iI_eq hz2 j1).mp e)
          rw [if_neg b1, if_neg b1]
          by_cases a2 : z2 = 2
          · rw [if_pos (by rw [a2]), if_pos (by rw [a2]), ckn (by omega) (by decide), ckn (by omega) (by decide), nI_clamp (by omega), (c5 v hv).1, (r5 v hv).1]
            exact ⟨_, _, _, rfl, rfl⟩
          · rw [if_neg (fun e => a2 ((iI_eq hz2 j2).mp e)), if_neg (fun e => a2 ((iI_eq hz2 j2).mp e)), if_pos (show iI z2 = iI 3 by rw [show z2 = 3 by omega]), ckn (by omega) (by decide), ckn (by omega) (by decide), nI_clamp (by omega), (c5 v hv).2, (r5 v hv).2]
            exact ⟨_, _, _, rfl, rfl⟩
    · rw [if_neg q2, if_pos rfl, if_neg (show ¬ iI z2 = (0 : Int32) from fun e => by have := (iI_eq hz2 j0).mp e; omega), if_neg (show ¬ iI z2 = (1 : Int32) from fun e => by have := (iI_eq hz2 j1).mp e; omega), if_neg (show ¬ iI z2 = iI 2 from fun e => by have := (iI_eq hz2 j2).mp e; omega), if_neg (show ¬ iI z2 = iI 3 from fun e => by have := (iI_eq hz2 j3).mp e; omega)]
      exact ⟨_, _, _, rfl, rfl⟩
  · rw [if_neg q1, if_pos rfl, if_pos rfl]
    exact ⟨_, _, _, rfl, rfl⟩
