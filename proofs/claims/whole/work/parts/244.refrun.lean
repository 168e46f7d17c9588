theorem s_rr57 {n k l : Nat} {w : Nat → Int} {A : Nat → Nat → Int} {t : Nat → Int} {LA LI LN LW above best free row least most : Nat → Int32} {lv kd : Int32} (g : GOK n w A) (hl : l + 1 < lvC n k w A) (hV : RV n k (lvC n k w A) w A LA LI LN LW) (hr : RW (lvN n k w A (l + 1)).1 t row) (K : Int32 → Int32 → Int32 → Int32 → (Nat → Int32) → (Nat → Int32) → (Nat → Int32) → (Nat → Int32) → (Nat → Int32) → (Nat → Int32) → (Nat → Int32) → (Nat → Int32) → Option (Int32 × Int32 × Int32 × Int32 × (Nat → Int32) × (Nat → Int32) × (Nat → Int32) × (Nat → Int32) × (Nat → Int32) × (Nat → Int32) × (Nat → Int32) × (Nat → Int32) × (Nat → Int32))) : ∃ above' row', L_Re_run_57 kd least most K 64 (nI l) 0 lv (nI (lvN n k w A l).1) (nI l) above best free LA LI LN LW row = J_Re_run_121 kd least most K (nI l) lv (nI (lvN n k w A l).1) (nI l) above' best free LA LI LN LW row' ∧ RW (lvN n k w A l).1 (fun u => t (lvJ n k w A l u).toNat) row' := by
  have hn := g.1
  have hc := (lvC_ok (k := k) g).2.2.2
  have hm := (lv_HS (k := k) g l).2.2
  have hm1 := (lv_HS (k := k) g (l + 1)).2.2
  obtain ⟨f', s', e, hP⟩ := loopP (fun f i (s : Nat → Int32) => L_Re_run_57 kd least most K f (nI l) (nI i) lv (nI (lvN n k w A l).1) (nI l) s best free LA LI LN LW row) (lvN n k w A l).1 (fun i s => ∀ j, j < i → s j = iI (t (lvJ n k w A l j).toNat)) (by
    intro f i s hi hs'
    show ∃ s', L_Re_run_57 _ _ _ _ (f + 1) _ (nI i) _ _ _ s _ _ _ _ _ _ _ = _ ∧ _
    have hj := lvJ_in g hi
    obtain ⟨q, hq, e1, e2⟩ := iI_pn hj.1 hj.2
    rw [L_Re_run_57, if_neg (nI_ge hi (by omega)), n40', ckn (by omega) (by decide), nI_clamp (show 40 * l + i < 2 ^ 31 by omega), hV.2.2 l hl i hi, e2, ckn (by omega) (by decide), ckn (by omega) (by decide), nI_clamp (show q < 2 ^ 31 by omega), nI_clamp (show i < 2 ^ 31 by omega), hr q hq, nI_1]
    refine ⟨upd s i (iI (t q)), rfl, fun j hj => ?_⟩
    by_cases z : j = i
    · subst z; rw [pk_us, e1, Int.toNat_natCast]
    · rw [pk_un z]; exact hs' j (by omega)) (lvN n k w A l).1 0 64 above (by omega) (by omega) (fun j hj => absurd hj (Nat.not_lt_zero j))
  have e : L_Re_run_57 kd least most K 64 (nI l) 0 lv (nI (lvN n k w A l).1) (nI l) above best free LA LI LN LW row = L_Re_run_57 kd least most K (f' + 1) (nI l) (nI (lvN n k w A l).1) lv (nI (lvN n k w A l).1) (nI l) s' best free LA LI LN LW row := e
  obtain ⟨f2, s2, e2, hP2⟩ := loopP (fun f i (s : Nat → Int32) => L_Re_run_95 kd least most K f (nI l) (nI i) lv (nI (lvN n k w A l).1) (nI l) s' best free LA LI LN LW s) (lvN n k w A l).1 (fun i s => ∀ j, j < i → s j = iI (t (lvJ n k w A l j).toNat)) (by
    intro f i s hi hs'
    show ∃ s', L_Re_run_95 _ _ _ _ (f + 1) _ (nI i) _ _ _ _ _ _ _ _ _ _ s = _ ∧ _
    rw [L_Re_run_95, if_neg (nI_ge hi (by omega)), ckn (by omega) (by decide), ckn (by omega) (by decide), nI_clamp (by omega), nI_1]
    refine ⟨upd s i (s' i), rfl, fun j hj => ?_⟩
    by_cases z : j = i
    · subst z; rw [pk_us]; exact hP j hi
    · rw [pk_un z]; exact hs' j (by omega)) (lvN n k w A l).1 0 64 row (by omega) (by omega) (fun j hj => absurd hj (Nat.not_lt_zero j))
  have e2 : L_Re_run_95 kd least most K 64 (nI l) 0 lv (nI (lvN n k w A l).1) (nI l) s' best free LA LI LN LW row = L_Re_run_95 kd least most K (f2 + 1) (nI l) (nI (lvN n k w A l).1) lv (nI (lvN n k w A l).1) (nI l) s' best free LA LI LN LW s2 := e2
  refine ⟨s', s2, ?_, hP2⟩
  rw [e, L_Re_run_57, if_pos (nI_le (Nat.le_refl _) (by omega)), e2, L_Re_run_95, if_pos (nI_le (Nat.le_refl _) (by omega))]
theorem s_rr46 {n k : Nat} {w : Nat → Int} {A : Nat → Nat → Int} {lo hi : Nat → Int} {LA LI LN LW least most split : Nat → Int32} (g : GOK n w A) (hB : BOK k lo hi) (hb : RB k lo hi least most) (hV : RV n k (lvC n k w A) w A LA LI LN LW) : ∀ (l f : Nat) (above best free row : Nat → Int32), l < lvC n k w A → l < f → RW (lvN n k w A l).1 (rn n k w A lo hi (lvC n k w A) (lvC n k w A - 1 - l)) row → ∃ p2 p3 p4 p5 p6 p7 p8 p9 p10 p11 p12 split', L_Re_run_46 (nI n) (nI k) least most split f (nI l - 1) (nI (lvC n k w A)) (nI (lvN n k w A l).1) (nI l) above best free LA LI LN LW row = some (iI (if overI n k w lo hi (rn n k w A lo hi (lvC n k w A) (lvC n k w A - 1)) = 0 then cutI n A (rn n k w A lo hi (lvC n k w A) (lvC n k w A - 1)) else -10 - overI n k w lo hi (rn n k w A lo hi (lvC n k w A) (lvC n k w A - 1))), p2, p3, p4, p5, p6, p7, p8, p9, p10, p11, p12, split') ∧ RW n (rn n k w A lo hi (lvC n k w A) (lvC n k w A - 1)) split' := by
  intro l
  have hc0 := (lvC_ok (k := k) g).1
  have hc := (lvC_ok (k := k) g).2.2.2
  have hn := g.1
  induction l with
  | zero =>
    intro f above best free row hl hf hr
    obtain ⟨f, rfl⟩ : ∃ e, f = e + 1 := ⟨f - 1, by omega⟩
    have hr1 : RW n (rn n k w A lo hi (lvC n k w A) (lvC n k w A - 1)) row := fun i hi' => hr i hi'
    have hk2 : HK n k (rn n k w A lo hi (lvC n k w A) (lvC n k w A - 1)) := by
      have := rn_HK (c := lvC n k w A) (lo := lo) (hi := hi) g hB.1 (lvC n k w A - 1) (by omega)
      rw [show lvC n k w A - 1 - (lvC n k w A - 1) = 0 by omega] at this
      exact this
    obtain ⟨sp2, f5, f6⟩ := s_giveSplit (split := split) hn hr1
    have e1 := s_rtold g (RL_0 g hc0 hV) hB hb hr1 hk2
    rw [L_Re_run_46, if_pos (show nI 0 - 1 < 0 by decide)]
    unfold J_Re_run_132
    rw [f5, Option.bind_some]
    show ∃ p2 p3 p4 p5 p6 p7 p8 p9 p10 p11 p12 split', (f_Re_told (nI k) (nI n) (nI 0) least LA LW most row).bind _ = _ ∧ _
    rw [e1, Option.bind_some]
    exact ⟨_, _, _, _, _, _, _, _, _, _, _, _, rfl, f6⟩
  | succ l ih =>
    intro f above best free row hl hf hr
    obtain ⟨f, rfl⟩ : ∃ e, f = e + 1 := ⟨f - 1, by omega⟩
    have gl := lv_G (k := k) g l
    obtain ⟨ab2, row2, e1, e2⟩ := s_rr57 (above := above) (best := best) (free := free) (least := least) (most := most) (lv := nI (lvC n k w A)) (kd := nI k) g hl hV hr (L_Re_run_46 (nI n) (nI k) least most split f)
    have h3 := rn_HK (c := lvC n k w A) (lo := lo) (hi := hi) g hB.1 (lvC n k w A - 1 - (l + 1)) (by omega)
    rw [show lvC n k w A - 1 - (lvC n k w A - 1 - (l + 1)) = l + 1 by omega] at h3
    obtain ⟨b2, f2, row3, e3, e4⟩ := s_rpasses (best := best) (free := free) gl (hV.2.1 l (by omega)) hB hb e2 (up_HK g h3)
    rw [nI_p1, L_Re_run_46, if_neg (nI_pos (by omega))]
    unfold f_Re_take
    rw [ckn (by omega) (by decide), nI_clamp (by omega), Option.bind_some, hV.1 l (by omega)]
    dsimp only
    rw [e1]
    unfold J_Re_run_121
    rw [e3, Option.bind_some, nI_d1]
    have e10 : lvC n k w A - 1 - l = (lvC n k w A - 1 - (l + 1)) + 1 := by omega
    refine ih f ab2 b2 f2 row3 (by omega) (by omega) ?_
    rw [e10, rn, show lvC n k w A - 1 - (lvC n k w A - 1 - (l + 1) + 1) = l by omega]
    exact e4
theorem nI_m2 (c : Nat) : nI (c + 1) - 2 = nI c - 1 := by
  rw [nI_iI, nI_iI, show (2 : Int32) = iI 2 from rfl, ← iI_1, iI_sub, iI_sub, show ((c + 1 : Nat) : Int) - 2 = (c : Int) - 1 by omega]
theorem cpy4 {f g : Nat → Int32} {j : Nat} (h : j < 4) : va_cpy f g (0 : Int32).toNatClampNeg (0 : Int32).toNatClampNeg (4 : Int32).toNatClampNeg j = f j := by
  unfold va_cpy
  rw [show (0 : Int32).toNatClampNeg = 0 from rfl, show (4 : Int32).toNatClampNeg = 4 from rfl, if_pos (show 0 ≤ j ∧ j < 0 + 4 by omega), Nat.zero_add, Nat.sub_zero]
theorem sim_run {fr ct c0 o0 lsz b0 b1 b2 b3 b4 b5 s0 s1 kk sz nd kd : Int32} {mate nb ll lm lar lwt lhome llink lsum mb mf sb ss st ho ls least most ar wt home arcs rleast rmost split weight LA LI LN LW row above rbest rfree : Nat → Int32} (hI : INV fr ct ho ls kk least most sz ar wt home nd kd arcs rleast rmost split weight) : ∃ a fr' ct' ho' q4 q5 ls' o8 o9 o10 o11 o12 o13 o14 o15 o16 o17 o18 o19 o20 o21 o22 o23 o24 o25 o26 o27 o28 o29 o30 o31 o32 o33 home' o35 o36 p2 p3 p4 p5 p6 p7 p8 p9 p10 p11 p12 split', f_Ba_run fr ct ho mate nb ls c0 o0 ll lm lsz lar lwt lhome llink lsum b0 b1 b2 b3 b4 b5 mb mf s0 s1 sb ss st kk least most sz ar wt home = some (a, fr', ct', ho', q4, q5, ls', o8, o9, o10, o11, o12, o13, o14, o15, o16, o17, o18, o19, o20, o21, o22, o23, o24, o25, o26, o27, o28, o29, o30, o31, o32, o33, home', o35, o36) ∧ f_Re_run nd kd above arcs rbest rfree rleast LA LI LN LW rmost row split weight = some (a, p2, p3, p4, p5, p6, p7, p8, p9, p10, p11, p12, split') ∧ INV fr' ct' ho' ls' kk least most sz ar wt home' nd kd arcs rleast rmost split' weight := by
  obtain ⟨n, k, w, A, lo, hi, h, m, ⟨c1, c2, c3, c4, c5, c6, c7⟩, r1, r2, r3, r4, r5, r6⟩ := hI
  have g := m.g
  have hn := m.1
  have hB := m.2.2.2.2.2.1
  have hk := hB.2.1
  have hc0 := (lvC_ok (k := k) g).1
  have hc := (lvC_ok (k := k) g).2.2.2
  subst c1 c2 r1 r2
  obtain ⟨LA', LI', LN', LW', e1, e2⟩ := s_makeLevels (LA := LA) (LI := LI) (LN := LN) (LW := LW) g hB.1 hB.2.1 r3 r4
  obtain ⟨ho', q4, q5, ls', p7, p8, p9, e3, e4⟩ := s_renew (mate := mate) (nb := nb) (p3s := lsz) (p3a := lar) (p3w := lwt) g c3 hB.1 hB.2.1 c7
  have hb2 : RB k lo hi (va_cpy least ll (0 : Int32).toNatClampNeg (0 : Int32).toNatClampNeg (4 : Int32).toNatClampNeg) (va_cpy most lm (0 : Int32).toNatClampNeg (0 : Int32).toNatClampNeg (4 : Int32).toNatClampNeg) := fun p hp => by
    rw [cpy4 (by omega), cpy4 (by omega)]; exact c5 p hp
  obtain ⟨o8, o9, o10, o11, o12, o13, o14, o15, o16, o17, o18, o19, o20, o21, o22, o23, o24, o25, o26, o27, o28, o29, o30, o31, o32, o33, home', o35, o36, e5, e6⟩ := s_run60 (mate := q4) (nb := q5) g c3 hB c5 hb2 e4 (lvC n k w A) 64 c0 o0 p7 b0 b1 b2 b3 b4 b5 s0 s1 p8 p9 lhome llink lsum mb mf sb ss st home (Nat.le_refl _) (by omega) (fun e => absurd e (Nat.lt_irrefl _)) (fun e => by omega)
  have hk2 : HK n k (rn n k w A lo hi (lvC n k w A) (lvC n k w A - 1)) := by
    have := rn_HK (c := lvC n k w A) (lo := lo) (hi := hi) g hB.1 (lvC n k w A - 1) (by omega)
    rw [show lvC n k w A - 1 - (lvC n k w A - 1) = 0 by omega] at this
    exact this
  have ec : lvC n k w A = (lvC n k w A - 1) + 1 := by omega
  have gl := lv_G (k := k) g (lvC n k w A - 1)
  have hm := gl.1
  have back : ∀ (best free row1 : Nat → Int32), RW (lvN n k w A (lvC n k w A - 1)).1 (fst1 (lvN n k w A (lvC n k w A - 1)).1 k (lvW n k w A (lvC n k w A - 1)) (lvA n k w A (lvC n k w A - 1)) lo hi) row1 → ∃ p2 p3 p4 p5 p6 p7 p8 p9 p10 p11 p12 split', J_Re_run_34 (nI n) (nI k) above rleast rmost split (nI (lvC n k w A)) (nI (lvN n k w A (lvC n k w A - 1)).1) (nI (lvC n k w A - 1)) best free LA' LI' LN' LW' row1 = some (iI (if overI n k w lo hi (rn n k w A lo hi (lvC n k w A) (lvC n k w A - 1)) = 0 then cutI n A (rn n k w A lo hi (lvC n k w A) (lvC n k w A - 1)) else -10 - overI n k w lo hi (rn n k w A lo hi (lvC n k w A) (lvC n k w A - 1))), p2, p3, p4, p5, p6, p7, p8, p9, p10, p11, p12, split') ∧ RW n (rn n k w A lo hi (lvC n k w A) (lvC n k w A - 1)) split' := by
    intro best free row1 hr1
    obtain ⟨b2, f2, row3, f3, f4⟩ := s_rpasses (best := best) (free := free) gl (e2.2.1 (lvC n k w A - 1) (by omega)) hB r5 hr1 (fst1_HK hB.1)
    unfold J_Re_run_34
    rw [f3, Option.bind_some]
    dsimp only
    have e7 : nI (lvC n k w A) - 2 = nI (lvC n k w A - 1) - 1 := by
      have := nI_m2 (lvC n k w A - 1)
      rw [← ec] at this
      exact this
    rw [e7]
    refine s_rr46 g hB r5 e2 (lvC n k w A - 1) 64 above b2 f2 row3 (by omega) (by omega) ?_
    rw [show lvC n k w A - 1 - (lvC n k w A - 1) = 0 by omega]
    exact f4
  have e8 : nI (lvC n k w A) - 1 = nI (lvC n k w A - 1) := by
    have := nI_p1 (lvC n k w A - 1)
    rw [← ec] at this
    exact this
  have ref : ∃ p2 p3 p4 p5 p6 p7 p8 p9 p10 p11 p12 split', f_Re_run (nI n) (nI k) above arcs rbest rfree rleast LA LI LN LW rmost row split weight = some (iI (if overI n k w lo hi (rn n k w A lo hi (lvC n k w A) (lvC n k w A - 1)) = 0 then cutI n A (rn n k w A lo hi (lvC n k w A) (lvC n k w A - 1)) else -10 - overI n k w lo hi (rn n k w A lo hi (lvC n k w A) (lvC n k w A - 1))), p2, p3, p4, p5, p6, p7, p8, p9, p10, p11, p12, split') ∧ RW n (rn n k w A lo hi (lvC n k w A) (lvC n k w A - 1)) split' := by
    unfold f_Re_run
    rw [e1, Option.bind_some]
    dsimp only
    unfold f_Re_take
    rw [e8, ckn (by omega) (by decide), nI_clamp (by omega), Option.bind_some, e2.1 _ (by omega)]
    dsimp only
    rw [show (6 : Int32) = nI 6 from rfl]
    by_cases q : (lvN n k w A (lvC n k w A - 1)).1 ≤ 6
    · have hp : k ^ (lvN n k w A (lvC n k w A - 1)).1 ≤ 60000 := by
        have h1 : k ^ (lvN n k w A (lvC n k w A - 1)).1 ≤ 4 ^ (lvN n k w A (lvC n k w A - 1)).1 := Nat.pow_le_pow_left hk _
        have h2 : 4 ^ (lvN n k w A (lvC n k w A - 1)).1 ≤ 4 ^ 6 := Nat.pow_le_pow_right (by omega) q
        omega
      obtain ⟨b2, row2, f1, f2⟩ := s_rtries (best := rbest) (row := row) gl (e2.2.1 (lvC n k w A - 1) (by omega)) hB r5 hp
      rw [if_neg (nI_nlt q (by decide)), f1, Option.bind_some]
      dsimp only
      refine back _ _ _ ?_
      unfold fst1
      rw [if_pos q]
      exact f2
    · obtain ⟨f0, row2, f1, f2⟩ := s_rgrows (row := row) (free := rfree) gl (e2.2.1 (lvC n k w A - 1) (by omega)) hB r5
      rw [if_pos (nI_lt (by omega) (by omega)), f1, Option.bind_some]
      dsimp only
      refine back _ _ _ ?_
      unfold fst1
      rw [if_neg q]
      exact f2
  obtain ⟨y2, y3, y4, y5, y6, y7, y8, y9, y10, y11, y12, split', f1, f2⟩ := ref
  unfold f_Ba_run
  rw [e3, Option.bind_some]
  unfold f_Bo_copyOf
  rw [ck_true (by decide), ck_true (by decide), Option.bind_some]
  dsimp only
  rw [e5, f1]
  exact ⟨_, _, _, _, _, _, _, _, _, _, _, _, _, _, _, _, _, _, _, _, _, _, _, _, _, _, _, _, _, _, _, _, _, _, _, _, _, _, _, _, _, _, _, _, _, _, _, _, rfl, rfl, n, k, w, A, lo, hi, _, ⟨m.1, m.2.1, m.2.2.1, m.2.2.2.1, m.2.2.2.2.1, hB, hk2⟩, ⟨rfl, rfl, c3, c4, c5, e6, Or.inr ⟨rfl, rfl, e4⟩⟩, rfl, rfl, r3, r4, r5, f2⟩
