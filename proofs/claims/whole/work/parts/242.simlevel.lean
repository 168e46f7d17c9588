theorem s_hasLevel {n k : Nat} {w : Nat → Int} {A : Nat → Nat → Int} {wt ar ho mate nb ls p3a p3w : Nat → Int32} {fr ct p3s : Int32} {z : Int} (g : GOK n w A) (hC : CG n w A wt ar) (hk1 : 2 ≤ k) (hk : k ≤ 4) (hF : fr = 0 ∨ (fr = 1 ∧ ct = nI (lvC n k w A) ∧ CV n k (lvC n k w A) w A ho ls)) (hz : r32 z) : ∃ ho' o4 o5 ls' o7 o8 o9, f_Ba_hasLevel (iI z) fr ct ho mate nb ls p3s p3a p3w (nI k) (nI n) ar wt = some (if 0 ≤ z ∧ z < lvC n k w A then 1 else 0, 1, nI (lvC n k w A), ho', o4, o5, ls', o7, o8, o9) ∧ CV n k (lvC n k w A) w A ho' ls' := by
  obtain ⟨ho', o4, o5, ls', o7, o8, o9, e1, e2⟩ := s_renew (mate := mate) (nb := nb) (p3s := p3s) (p3a := p3a) (p3w := p3w) g hC hk1 hk hF
  have hc := (lvC_ok (k := k) g).2.2.2
  refine ⟨ho', o4, o5, ls', o7, o8, o9, ?_, e2⟩
  unfold f_Ba_hasLevel
  rw [e1, Option.bind_some]
  dsimp only
  rw [nI_iI]
  by_cases q1 : z < 0
  · rw [if_pos (show iI z < (0 : Int32) from (iI_lt (b := 0) hz ⟨by omega, by omega⟩).mpr q1), if_neg (by omega)]
  · rw [if_neg (show ¬ iI z < (0 : Int32) from fun e => q1 ((iI_lt (b := 0) hz ⟨by omega, by omega⟩).mp e))]
    by_cases q2 : (lvC n k w A : Int) ≤ z
    · rw [if_pos ((iI_le ⟨by omega, by omega⟩ hz).mpr q2), if_neg (by omega)]
    · rw [if_neg (fun e => q2 ((iI_le ⟨by omega, by omega⟩ hz).mp e)), if_pos (by omega)]
theorem s_drawLv {n k l : Nat} {w : Nat → Int} {A : Nat → Nat → Int} {wt ar ho ls : Nat → Int32} (g : GOK n w A) (hC : CG n w A wt ar) (hl : l < lvC n k w A) (hV : CV n k (lvC n k w A) w A ho ls) : ∃ da dw, f_Le_drawInto (nI l) ho ls (nI n) ar wt = some (nI (lvN n k w A l).1, da, dw) ∧ CG (lvN n k w A l).1 (lvW n k w A l) (lvA n k w A l) dw da := by
  have hc := (lvC_ok (k := k) g).2.2.2
  exact s_drawInto g hC (by omega) (lv_HS g l) (fun i hi => hV.2 l i hl hi) (hV.1 l hl)
def asI (n : Nat) (A : Nat → Nat → Int) : Int := sI (fun a => sI (fun b => A a b) a) n
theorem as_up {n : Nat} {w : Nat → Int} {A : Nat → Nat → Int} (g : GOK n w A) : sI (fun a => sI (fun b => if a < b then A a b else 0) n) n = asI n A := by
  have h1 := sI_upper (C := A) (n := n) g.2.2.2.2.2.2
  have h2 := sI_half (C := A) n g.2.2.2.2.2.1 g.2.2.2.2.2.2
  have h3 : sI (fun a => sI (fun b => if a < b then A a b + A b a else 0) n) n = 2 * sI (fun a => sI (fun b => if a < b then A a b else 0) n) n := by
    rw [← sI_mulc]
    refine sI_congr (fun a ha => ?_)
    rw [← sI_mulc]
    refine sI_congr (fun b hb => ?_)
    by_cases q : a < b
    · rw [if_pos q, if_pos q, g.2.2.2.2.2.1 b a hb ha]; omega
    · rw [if_neg q, if_neg q]; rfl
  unfold asI
  omega
theorem up_0 {A : Nat → Nat → Int} {a : Nat} : ∀ m, m ≤ a + 1 → sI (fun b => if a < b then A a b else 0) m = 0 := by
  intro m
  induction m with
  | zero => intro _; rfl
  | succ m ih =>
    intro hm
    rw [sI_s, ih (by omega), if_neg (by omega)]
    rfl
theorem s_as16 {n v : Nat} {w : Nat → Int} {A : Nat → Nat → Int} {wt ar : Nat → Int32} {z : Int} (g : GOK n w A) (hC : CG n w A wt ar) (hv : v < n) (K : Int32 → Int32 → Option Int32) : L_Gr_arcSum_16 (nI n) ar K 64 (iI z) (nI v) (nI (v + 1)) = K (iI (z + sI (fun b => if v < b then A v b else 0) n)) (nI (v + 1)) := by
  have hn := g.1
  obtain ⟨f', e⟩ := loopS (fun f i s => L_Gr_arcSum_16 (nI n) ar K f s (nI v) (nI (v + 1 + i))) (n - (v + 1)) (fun i => iI (z + sI (fun b => if v < b then A v b else 0) (v + 1 + i))) (by
    intro f i hi
    show L_Gr_arcSum_16 _ _ _ (f + 1) _ _ (nI (v + 1 + i)) = _
    rw [L_Gr_arcSum_16, if_neg (nI_ge (show v + 1 + i < n by omega) (by omega)), s_garc (by omega) (by omega), Option.bind_some, hC.2 v (v + 1 + i) hv (by omega), nI_1, iI_add, show v + 1 + (i + 1) = v + 1 + i + 1 by omega, sI_s, if_pos (show v < v + 1 + i by omega), Int.add_assoc]) (n - (v + 1)) 0 64 (by omega) (by omega)
  have e : L_Gr_arcSum_16 (nI n) ar K 64 (iI (z + sI (fun b => if v < b then A v b else 0) (v + 1))) (nI v) (nI (v + 1)) = _ := e
  rw [up_0 (v + 1) (Nat.le_refl _), Int.add_zero] at e
  rw [e]
  show L_Gr_arcSum_16 _ _ _ (f' + 1) _ _ (nI (v + 1 + (n - (v + 1)))) = _
  rw [show v + 1 + (n - (v + 1)) = n by omega, L_Gr_arcSum_16, if_pos (nI_le (Nat.le_refl n) (by omega)), nI_1]
theorem s_arcSum {n : Nat} {w : Nat → Int} {A : Nat → Nat → Int} {wt ar : Nat → Int32} (g : GOK n w A) (hC : CG n w A wt ar) : f_Gr_arcSum (nI n) ar = some (iI (asI n A)) := by
  have hn := g.1
  obtain ⟨f', e⟩ := loopS (fun f i s => L_Gr_arcSum_4 (nI n) ar f s (nI i)) n (fun i => iI (sI (fun a => sI (fun b => if a < b then A a b else 0) n) i)) (by
    intro f i hi
    show L_Gr_arcSum_4 _ _ (f + 1) _ (nI i) = _
    rw [L_Gr_arcSum_4, if_neg (nI_ge hi (by omega)), nI_1, s_as16 g hC hi, sI_s]) n 0 64 (by omega) (by omega)
  unfold f_Gr_arcSum
  have e : L_Gr_arcSum_4 (nI n) ar 64 0 0 = _ := e
  rw [e]
  show L_Gr_arcSum_4 _ _ (f' + 1) _ (nI n) = _
  rw [L_Gr_arcSum_4, if_pos (nI_le (Nat.le_refl n) (by omega)), as_up g]
theorem s_rl63 {n l v : Nat} {w : Nat → Int} {A : Nat → Nat → Int} {LA LI LN LW : Nat → Int32} {lv : Int32} {z : Int} {t : Bool} (g : GOK n w A) (hL : RL n l w A LW LA) (hv : v < n) (K : Int32 → Int32 → Int32 → (Nat → Int32) → (Nat → Int32) → (Nat → Int32) → (Nat → Int32) → Option (Int32 × Int32 × (Nat → Int32) × (Nat → Int32) × (Nat → Int32) × (Nat → Int32))) : L_Re_level_63 (nI l) (if t = true then 2 else 1) K 64 (iI z) (nI v) 0 lv LA LI LN LW = K (iI (z + sI (fun b => if t = true then A v b else if 0 < A v b then 1 else 0) v)) (nI (v + 1)) lv LA LI LN LW := by
  have hn := g.1
  have hl := hL.1
  obtain ⟨f', e⟩ := loopS (fun f i s => L_Re_level_63 (nI l) (if t = true then 2 else 1) K f s (nI v) (nI i) lv LA LI LN LW) v (fun i => iI (z + sI (fun b => if t = true then A v b else if 0 < A v b then 1 else 0) i)) (by
    intro f i hi
    show L_Re_level_63 _ _ _ (f + 1) _ _ (nI i) _ _ _ _ _ = _
    have h1 := g.a32 hv (show i < n by omega)
    rw [L_Re_level_63, if_neg (nI_ge hi (by omega)), n1600, ckn (by omega) (by decide), nI_clamp (by omega), hL.2.2 v i hv (by omega), nI_1, sI_s, ← Int.add_assoc]
    cases t with
    | true =>
      rw [if_pos (show (if true = true then (2 : Int32) else 1) = 2 by decide), if_pos rfl, iI_add]
      rfl
    | false =>
      rw [if_neg (show ¬ (if false = true then (2 : Int32) else 1) = 2 by decide), if_neg (show ¬ false = true by decide), ← iI_0, ← iI_1]
      by_cases q : 0 < A v i
      · rw [if_neg (show ¬ iI (A v i) ≤ iI 0 by rw [iI_le ⟨by omega, by omega⟩ ⟨by omega, by omega⟩]; omega), if_pos q, iI_add]; rfl
      · rw [if_pos (show iI (A v i) ≤ iI 0 by rw [iI_le ⟨by omega, by omega⟩ ⟨by omega, by omega⟩]; omega), if_neg q, iI_add]; rfl) v 0 64 (by omega) (by omega)
  have e : L_Re_level_63 (nI l) (if t = true then 2 else 1) K 64 (iI (z + 0)) (nI v) 0 lv LA LI LN LW = _ := e
  rw [Int.add_zero] at e
  rw [e]
  show L_Re_level_63 _ _ _ (f' + 1) _ _ (nI v) _ _ _ _ _ = _
  rw [L_Re_level_63, if_pos (nI_le (Nat.le_refl v) (by omega)), nI_1]
theorem s_rl49 {n l : Nat} {w : Nat → Int} {A : Nat → Nat → Int} {LA LI LN LW : Nat → Int32} {lv : Int32} {t : Bool} (g : GOK n w A) (hL : RL n l w A LW LA) (hN : LN l = nI n) : L_Re_level_49 (nI l) (if t = true then 2 else 1) 64 0 0 lv LA LI LN LW = some (iI (if t = true then asI n A else acI n A), lv, LA, LI, LN, LW) := by
  have hn := g.1
  have hl := hL.1
  obtain ⟨f', e⟩ := loopS (fun f i s => L_Re_level_49 (nI l) (if t = true then 2 else 1) f s (nI i) lv LA LI LN LW) n (fun i => iI (sI (fun a => sI (fun b => if t = true then A a b else if 0 < A a b then 1 else 0) a) i)) (by
    intro f i hi
    show L_Re_level_49 _ _ (f + 1) _ (nI i) _ _ _ _ _ = _
    rw [L_Re_level_49, ckn (by omega) (by decide), nI_clamp (by omega), hN, if_neg (nI_ge hi (by omega)), s_rl63 g hL hi, sI_s]) n 0 64 (by omega) (by omega)
  have e : L_Re_level_49 (nI l) (if t = true then 2 else 1) 64 0 0 lv LA LI LN LW = _ := e
  rw [e]
  show L_Re_level_49 _ _ (f' + 1) _ (nI n) _ _ _ _ _ = _
  rw [L_Re_level_49, ckn (by omega) (by decide), nI_clamp (by omega), hN, if_pos (nI_le (Nat.le_refl n) (by omega))]
  cases t <;> rfl
theorem sim_level {x1 x2 lsz lv fr ct kk sz nd kd : Int32} {mate nb lar lwt LA LI LN LW ho ls least most ar wt home arcs rleast rmost split weight : Nat → Int32} (hI : INV fr ct ho ls kk least most sz ar wt home nd kd arcs rleast rmost split weight) : ∃ a fr' ct' ho' o4 o5 ls' o7 o8 o9 orr, f_Ba_level x1 x2 fr ct ho mate nb ls lsz lar lwt kk sz ar wt = some (a, fr', ct', ho', o4, o5, ls', o7, o8, o9) ∧ f_Re_level x1 x2 nd kd lv arcs LA LI LN LW weight = some (a, orr) ∧ INV fr' ct' ho' ls' kk least most sz ar wt home nd kd arcs rleast rmost split weight := by
  have hI' := hI
  obtain ⟨n, k, w, A, lo, hi, h, m, ⟨c1, c2, c3, c4, c5, c6, c7⟩, r1, r2, r3, r4, r5, r6⟩ := hI
  have g := m.g
  have hB := m.2.2.2.2.2.1
  have hc := (lvC_ok (k := k) g).2.2.2
  obtain ⟨z1, hz1, rfl⟩ := iI_ex x1
  obtain ⟨z2, hz2, rfl⟩ := iI_ex x2
  subst c1 c2 r1 r2
  have j0 : r32 0 := ⟨by omega, by omega⟩
  have j1 : r32 1 := ⟨by omega, by omega⟩
  have j2 : r32 2 := ⟨by omega, by omega⟩
  unfold f_Ba_level f_Re_level
  by_cases q1 : z1 < 0
  · rw [if_pos (show iI z1 < (0 : Int32) from (iI_lt (b := 0) hz1 j0).mpr q1), if_pos (show iI z1 < (0 : Int32) from (iI_lt (b := 0) hz1 j0).mpr q1)]
    exact ⟨_, _, _, _, _, _, _, _, _, _, _, rfl, rfl, hI'⟩
  · rw [if_neg (show ¬ iI z1 < (0 : Int32) from fun e => q1 ((iI_lt (b := 0) hz1 j0).mp e)), if_neg (show ¬ iI z1 < (0 : Int32) from fun e => q1 ((iI_lt (b := 0) hz1 j0).mp e)), iI_l hz2, show (2 : Int64) = lI 2 from rfl, ← lI_0, s_isIn (r64_of hz2) (r64_of j0) (r64_of j2), Option.bind_some]
    by_cases q2 : z2 < 0
    · rw [if_pos (show iI z2 < (0 : Int32) from (iI_lt (b := 0) hz2 j0).mpr q2), if_neg (show ¬ (0 ≤ z2 ∧ z2 ≤ 2) by omega), if_pos rfl]
      exact ⟨_, _, _, _, _, _, _, _, _, _, _, rfl, rfl, hI'⟩
    · rw [if_neg (show ¬ iI z2 < (0 : Int32) from fun e => q2 ((iI_lt (b := 0) hz2 j0).mp e))]
      by_cases q3 : z2 ≤ 2
      · obtain ⟨LA', LI', LN', LW', e1, e2⟩ := s_makeLevels (LA := LA) (LI := LI) (LN := LN) (LW := LW) g hB.1 hB.2.1 r3 r4
        obtain ⟨ho', p4, p5, ls', p7, p8, p9, e3, e4⟩ := s_hasLevel (mate := mate) (nb := nb) (p3s := lsz) (p3a := lar) (p3w := lwt) g c3 hB.1 hB.2.1 c7 hz1
        have fin : INV 1 (nI (lvC n k w A)) ho' ls' (nI k) least most (nI n) ar wt home (nI n) (nI k) arcs rleast rmost split weight := ⟨n, k, w, A, lo, hi, h, m, ⟨rfl, rfl, c3, c4, c5, c6, Or.inr ⟨rfl, rfl, e4⟩⟩, rfl, rfl, r3, r4, r5, r6⟩
        rw [if_pos (show iI z2 ≤ (2 : Int32) from (iI_le (b := 2) hz2 j2).mpr q3), if_pos (show 0 ≤ z2 ∧ z2 ≤ 2 by omega), if_neg (show ¬ (1 : Int32) = 0 by decide), e1, Option.bind_some, e3, Option.bind_some]
        dsimp only
        rw [nI_iI (lvC n k w A)]
        by_cases q4 : z1 < lvC n k w A
        · obtain ⟨l, hl, e6, e7⟩ := iI_pn (p := lvC n k w A) (show 0 ≤ z1 by omega) q4
          obtain ⟨da, dw, e8, e9⟩ := s_drawLv g c3 hl e4
          have gl := lv_G (k := k) g l
          rw [if_pos (show 0 ≤ z1 ∧ z1 < (lvC n k w A : Int) by omega), if_neg (show ¬ (1 : Int32) = 0 by decide), if_pos ((iI_lt hz1 ⟨by omega, by omega⟩).mpr q4), e7, e8, Option.bind_some]
          dsimp only
          by_cases a0 : z2 = 0
          · rw [if_pos (show iI z2 = 0 by rw [a0]; rfl), if_pos (show iI z2 = 0 by rw [a0]; rfl), ckn (by omega) (by decide), nI_clamp (by omega), e2.1 l hl, ← nI_iI]
            exact ⟨_, _, _, _, _, _, _, _, _, _, _, rfl, rfl, fin⟩
          · rw [if_neg (show ¬ iI z2 = (0 : Int32) from fun e => a0 ((iI_eq hz2 j0).mp e)), if_neg (show ¬ iI z2 = (0 : Int32) from fun e => a0 ((iI_eq hz2 j0).mp e))]
            by_cases a1 : z2 = 1
            · have f1 := s_rl49 (t := false) (LI := LI') (lv := iI (lvC n k w A)) gl (e2.2.1 l hl) (e2.1 l hl)
              have f1 : L_Re_level_49 (nI l) 1 64 0 0 (iI (lvC n k w A)) LA' LI' LN' LW' = some (iI (acI (lvN n k w A l).1 (lvA n k w A l)), iI (lvC n k w A), LA', LI', LN', LW') := f1
              rw [if_pos (show iI z2 = 1 by rw [a1]; rfl), show iI z2 = 1 by rw [a1]; rfl, f1, s_arcCount gl e9, Option.bind_some, ← nI_iI]
              exact ⟨_, _, _, _, _, _, _, _, _, _, _, rfl, rfl, fin⟩
            · have f1 := s_rl49 (t := true) (LI := LI') (lv := iI (lvC n k w A)) gl (e2.2.1 l hl) (e2.1 l hl)
              have f1 : L_Re_level_49 (nI l) 2 64 0 0 (iI (lvC n k w A)) LA' LI' LN' LW' = some (iI (asI (lvN n k w A l).1 (lvA n k w A l)), iI (lvC n k w A), LA', LI', LN', LW') := f1
              rw [if_neg (show ¬ iI z2 = (1 : Int32) from fun e => a1 ((iI_eq hz2 j1).mp e)), show iI z2 = 2 by rw [show z2 = 2 by omega]; rfl, f1, s_arcSum gl e9, Option.bind_some, ← nI_iI]
              exact ⟨_, _, _, _, _, _, _, _, _, _, _, rfl, rfl, fin⟩
        · rw [if_neg (show ¬ (0 ≤ z1 ∧ z1 < (lvC n k w A : Int)) by omega), if_pos rfl, if_neg (fun e => q4 ((iI_lt hz1 ⟨by omega, by omega⟩).mp e)), ← nI_iI]
          exact ⟨_, _, _, _, _, _, _, _, _, _, _, rfl, rfl, fin⟩
      · rw [if_neg (show ¬ iI z2 ≤ (2 : Int32) from fun e => q3 ((iI_le (b := 2) hz2 j2).mp e)), if_neg (show ¬ (0 ≤ z2 ∧ z2 ≤ 2) by omega), if_pos rfl]
        exact ⟨_, _, _, _, _, _, _, _, _, _, _, rfl, rfl, hI'⟩
theorem s_ril35 {n k l v : Nat} {w : Nat → Int} {A : Nat → Nat → Int} {LA LI LN LW : Nat → Int32} {lv : Int32} (g : GOK n w A) (hl : l < lvC n k w A) (hV : RV n k (lvC n k w A) w A LA LI LN LW) (hv : v < n) : L_Re_inLevel_35 (nI l) 64 (nI v) 0 lv LA LI LN LW = some (iI ((lvN n k w A l).2 v), lv, LA, LI, LN, LW) := by
  have hn := g.1
  have hc := (lvC_ok (k := k) g).2.2.2
  obtain ⟨f', e⟩ := loopS (fun f i s => L_Re_inLevel_35 (nI l) f s (nI i) lv LA LI LN LW) l (fun i => iI ((lvN n k w A i).2 v)) (by
    intro f i hi
    show L_Re_inLevel_35 _ (f + 1) _ (nI i) _ _ _ _ _ = _
    have hS := lv_HS (k := k) g i
    have hr := hS.1 v hv
    obtain ⟨q, hq, e1, e2⟩ := iI_pn hr.1 hr.2
    have hm := hS.2.2
    rw [L_Re_inLevel_35, if_neg (nI_ge hi (by omega)), e2, n40', ckn (by omega) (by decide), nI_clamp (by omega), hV.2.2 i (by omega) q hq, nI_1]
    have e3 : (lvN n k w A (i + 1)).2 v = lvJ n k w A i q := by
      rw [lvN_s]
      show lvJ n k w A i ((lvN n k w A i).2 v).toNat = _
      rw [e1, Int.toNat_natCast]
    rw [e3]) l 0 64 (by omega) (by omega)
  have e : L_Re_inLevel_35 (nI l) 64 (iI (v : Int)) 0 lv LA LI LN LW = _ := e
  rw [← nI_iI] at e
  rw [e]
  show L_Re_inLevel_35 _ (f' + 1) _ (nI l) _ _ _ _ _ = _
  rw [L_Re_inLevel_35, if_pos (nI_le (Nat.le_refl l) (by omega))]
theorem sim_inLevel {x1 x2 lsz fr ct kk sz nd kd : Int32} {mate nb lar lwt LA LI LN LW ho ls least most ar wt home arcs rleast rmost split weight : Nat → Int32} (hI : INV fr ct ho ls kk least most sz ar wt home nd kd arcs rleast rmost split weight) : ∃ a fr' ct' ho' o4 o5 ls' o7 o8 o9 orr, f_Ba_inLevel x1 x2 fr ct ho mate nb ls lsz lar lwt kk sz ar wt = some (a, fr', ct', ho', o4, o5, ls', o7, o8, o9) ∧ f_Re_inLevel x1 x2 nd kd arcs LA LI LN LW weight = some (a, orr) ∧ INV fr' ct' ho' ls' kk least most sz ar wt home nd kd arcs rleast rmost split weight := by
  have hI' := hI
  obtain ⟨n, k, w, A, lo, hi, h, m, ⟨c1, c2, c3, c4, c5, c6, c7⟩, r1, r2, r3, r4, r5, r6⟩ := hI
  have g := m.g
  have hn := m.1
  have hB := m.2.2.2.2.2.1
  have hc := (lvC_ok (k := k) g).2.2.2
  obtain ⟨z1, hz1, rfl⟩ := iI_ex x1
  obtain ⟨z2, hz2, rfl⟩ := iI_ex x2
  subst c1 c2 r1 r2
  obtain ⟨LA', LI', LN', LW', e1, e2⟩ := s_makeLevels (LA := LA) (LI := LI) (LN := LN) (LW := LW) g hB.1 hB.2.1 r3 r4
  obtain ⟨ho', p4, p5, ls', p7, p8, p9, e3, e4⟩ := s_hasLevel (mate := mate) (nb := nb) (p3s := lsz) (p3a := lar) (p3w := lwt) g c3 hB.1 hB.2.1 c7 hz1
  have fin : INV 1 (nI (lvC n k w A)) ho' ls' (nI k) least most (nI n) ar wt home (nI n) (nI k) arcs rleast rmost split weight := ⟨n, k, w, A, lo, hi, h, m, ⟨rfl, rfl, c3, c4, c5, c6, Or.inr ⟨rfl, rfl, e4⟩⟩, rfl, rfl, r3, r4, r5, r6⟩
  unfold f_Ba_inLevel f_Re_inLevel
  rw [e1, Option.bind_some]
  dsimp only
  rw [s_has hz2 (by omega), Option.bind_some, s_in0 hz1 (by omega), Option.bind_some, s_isNode hz2 (by omega), Option.bind_some]
  by_cases q2 : 0 ≤ z2 ∧ z2 < n
  · rw [if_pos q2, if_neg (show ¬ (1 : Int32) = 0 by decide), if_neg (show ¬ (1 : Int32) = 0 by decide), e3, Option.bind_some]
    dsimp only
    by_cases q1 : 0 ≤ z1 ∧ z1 < lvC n k w A
    · obtain ⟨l, hl, e6, e7⟩ := iI_q q1
      obtain ⟨v, hv, e8, e9⟩ := iI_q q2
      rw [if_pos q1, if_neg (show ¬ (1 : Int32) = 0 by decide), if_neg (show ¬ (1 : Int32) = 0 by decide), e7, e9, s_holder (by omega) (by omega), Option.bind_some, e4.2 l v hl hv, s_ril35 g hl e2 hv]
      exact ⟨_, _, _, _, _, _, _, _, _, _, _, rfl, rfl, fin⟩
    · rw [if_neg q1, if_pos rfl, if_pos rfl]
      exact ⟨_, _, _, _, _, _, _, _, _, _, _, rfl, rfl, fin⟩
  · rw [if_neg q2, if_pos rfl, if_pos rfl]
    by_cases q1 : 0 ≤ z1 ∧ z1 < lvC n k w A
    · rw [if_pos q1, if_neg (show ¬ (1 : Int32) = 0 by decide)]
      exact ⟨_, _, _, _, _, _, _, _, _, _, _, rfl, rfl, hI'⟩
    · rw [if_neg q1, if_pos rfl]
      exact ⟨_, _, _, _, _, _, _, _, _, _, _, rfl, rfl, hI'⟩
theorem sim_levelOf {x1 x2 x3 lsz fr ct kk sz nd kd : Int32} {mate nb lar lwt LA LI LN LW ho ls least most ar wt home arcs rleast rmost split weight : Nat → Int32} (hI : INV fr ct ho ls kk least most sz ar wt home nd kd arcs rleast rmost split weight) : ∃ a fr' ct' ho' o4 o5 ls' o7 o8 o9 orr, f_Ba_levelOf x1 x2 x3 fr ct ho mate nb ls lsz lar lwt kk sz ar wt = some (a, fr', ct', ho', o4, o5, ls', o7, o8, o9) ∧ f_Re_levelOf x1 x2 x3 nd kd arcs LA LI LN LW weight = some (a, orr) ∧ INV fr' ct' ho' ls' kk least most sz ar wt home nd kd arcs rleast rmost split weight := by
  obtain ⟨n, k, w, A, lo, hi, h, m, ⟨c1, c2, c3, c4, c5, c6, c7⟩, r1, r2, r3, r4, r5, r6⟩ := hI
  have g := m.g
  have hn := m.1
  have hB := m.2.2.2.2.2.1
  have hc := (lvC_ok (k := k) g).2.2.2
  obtain ⟨z1, hz1, rfl⟩ := iI_ex x1
  obtain ⟨z2, hz2, rfl⟩ := iI_ex x2
  obtain ⟨z3, hz3, rfl⟩ := iI_ex x3
  subst c1 c2 r1 r2
  have jm : r32 (-1) := ⟨by omega, by omega⟩
  have j0 : r32 0 := ⟨by omega, by omega⟩
  obtain ⟨LA', LI', LN', LW', e1, e2⟩ := s_makeLevels (LA := LA) (LI := LI) (LN := LN) (LW := LW) g hB.1 hB.2.1 r3 r4
  obtain ⟨ho', p4, p5, ls', p7, p8, p9, e3, e4⟩ := s_hasLevel (mate := mate) (nb := nb) (p3s := lsz) (p3a := lar) (p3w := lwt) g c3 hB.1 hB.2.1 c7 hz1
  have fin : INV 1 (nI (lvC n k w A)) ho' ls' (nI k) least most (nI n) ar wt home (nI n) (nI k) arcs rleast rmost split weight := ⟨n, k, w, A, lo, hi, h, m, ⟨rfl, rfl, c3, c4, c5, c6, Or.inr ⟨rfl, rfl, e4⟩⟩, rfl, rfl, r3, r4, r5, r6⟩
  unfold f_Ba_levelOf f_Re_levelOf
  rw [e1, Option.bind_some, e3, Option.bind_some]
  dsimp only
  rw [s_in0 hz1 (by omega), Option.bind_some]
  by_cases q1 : 0 ≤ z1 ∧ z1 < lvC n k w A
  · obtain ⟨l, hl, e6, e7⟩ := iI_q q1
    obtain ⟨da, dw, e8, e9⟩ := s_drawLv g c3 hl e4
    have gl := lv_G (k := k) g l
    have hm := gl.1
    rw [if_pos q1, if_neg (show ¬ (1 : Int32) = 0 by decide), if_neg (show ¬ (1 : Int32) = 0 by decide), e7, e8, Option.bind_some, ckn (by omega) (by decide), ckn (by omega) (by decide), nI_clamp (show l < 2 ^ 31 by omega), e2.1 l hl]
    dsimp only
    rw [s_has hz2 (by omega), Option.bind_some, s_in0 hz2 (by omega), Option.bind_some]
    by_cases q2 : 0 ≤ z2 ∧ z2 < (lvN n k w A l).1
    · obtain ⟨u, hu, f1, f2⟩ := iI_q q2
      rw [if_pos q2, if_neg (show ¬ (1 : Int32) = 0 by decide), if_neg (show ¬ (1 : Int32) = 0 by decide), iI_l hz3, nI_m, iI_l ⟨by omega, by omega⟩, show (-1 : Int64) = lI (-1) from rfl, s_isIn (r64_of hz3) (r64_of jm) ⟨by omega, by omega⟩, Option.bind_some, s_has hz3 (by omega), Option.bind_some, f2]
      by_cases q3 : z3 = -1
      · rw [if_pos (show iI z3 = -1 by rw [q3]; rfl), if_pos (show -1 ≤ z3 ∧ z3 ≤ ((lvN n k w A l).1 : Int) - 1 by omega), if_neg (show ¬ (1 : Int32) = 0 by decide), if_neg (show ¬ (0 : Int32) ≤ iI z3 by rw [q3]; decide), ckn (by omega) (by decide), nI_clamp (by omega), n40', ckn (by omega) (by decide), nI_clamp (by omega), e9.1 u hu, (e2.2.1 l hl).2.1 u hu]
        exact ⟨_, _, _, _, _, _, _, _, _, _, _, rfl, rfl, fin⟩
      · rw [if_neg (show ¬ iI z3 = (-1 : Int32) from fun e => q3 ((iI_eq hz3 jm).mp e))]
        by_cases q4 : 0 ≤ z3 ∧ z3 < (lvN n k w A l).1
        · obtain ⟨t, ht, f3, f4⟩ := iI_q q4
          rw [if_pos q4, if_neg (show ¬ (1 : Int32) = 0 by decide), if_pos (show -1 ≤ z3 ∧ z3 ≤ ((lvN n k w A l).1 : Int) - 1 by omega), if_neg (show ¬ (1 : Int32) = 0 by decide), if_pos (show (0 : Int32) ≤ iI z3 from (iI_le (a := 0) j0 hz3).mpr (by omega)), f4, s_garc (by omega) (by omega), Option.bind_some, n1600, ckn (by omega) (by decide), nI_clamp (by omega), e9.2 u t hu ht, (e2.2.1 l hl).2.2 u t hu ht]
          exact ⟨_, _, _, _, _, _, _, _, _, _, _, rfl, rfl, fin⟩
        · rw [if_neg q4, if_pos rfl, if_neg (show ¬ (-1 ≤ z3 ∧ z3 ≤ ((lvN n k w A l).1 : Int) - 1) by omega), if_pos rfl]
          exact ⟨_, _, _, _, _, _, _, _, _, _, _, rfl, rfl, fin⟩
    · rw [if_neg q2, if_pos rfl, if_pos rfl]
      exact ⟨_, _, _, _, _, _, _, _, _, _, _, rfl, rfl, fin⟩
  · rw [if_neg q1, if_pos rfl, if_pos rfl]
    exact ⟨_, _, _, _, _, _, _, _, _, _, _, rfl, rfl, fin⟩
