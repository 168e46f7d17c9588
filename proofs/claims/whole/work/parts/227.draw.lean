/-! THE CLASS draws a level from the graph -/
theorem s_addArc {x y : Nat} {v : Int32} {ar : Nat → Int32} (hx : x < 40) (hy : y < 40) (hne : x ≠ y) : f_Gr_addArc (nI x) (nI y) v ar = some (upd (upd ar (x * 40 + y) (ar (x * 40 + y) + v)) (y * 40 + x) (ar (y * 40 + x) + v)) := by
  unfold f_Gr_addArc
  rw [n40, n40, ckn (by omega) (by decide), ckn (by omega) (by decide), ckn (by omega) (by decide), ckn (by omega) (by decide), nI_clamp (show x * 40 + y < 2 ^ 31 by omega), nI_clamp (show y * 40 + x < 2 ^ 31 by omega), pk_un (show y * 40 + x ≠ x * 40 + y by omega)]
theorem s_holder {l i : Nat} {ho : Nat → Int32} (hl : l < 40) (hi : i < 40) : f_Le_holder (nI l) (nI i) ho = some (ho (l * 40 + i)) := by
  unfold f_Le_holder
  rw [n40, ckn (by omega) (by decide), nI_clamp (by omega)]
/-- ordered pairs as unordered ones -/
theorem sI_upper {C : Nat → Nat → Int} {n : Nat} (hd : ∀ a, a < n → C a a = 0) : sI (fun a => sI (fun b => if a < b then C a b + C b a else 0) n) n = sI (fun a => sI (fun b => C a b) n) n := by
  have e1 : sI (fun a => sI (fun b => if a < b then C a b + C b a else 0) n) n = sI (fun a => sI (fun b => if a < b then C a b else 0) n) n + sI (fun a => sI (fun b => if a < b then C b a else 0) n) n := by
    rw [← sI_add]
    refine sI_congr (fun a ha => ?_)
    rw [← sI_add]
    refine sI_congr (fun b hb => ?_)
    by_cases q : a < b
    · rw [if_pos q, if_pos q, if_pos q]
    · rw [if_neg q, if_neg q, if_neg q]; rfl
  rw [e1, sI_swap (fun a b => if a < b then C b a else 0), ← sI_add]
  refine sI_congr (fun a ha => ?_)
  rw [← sI_add]
  refine sI_congr (fun b hb => ?_)
  by_cases q : a < b
  · rw [if_pos q, if_neg (by omega)]; omega
  · rw [if_neg q]
    by_cases z : b < a
    · rw [if_pos z]; omega
    · obtain rfl : a = b := by omega
      rw [if_neg z, hd a ha]; rfl
def dE (A : Nat → Nat → Int) (hold : Nat → Int) (x y a b : Nat) : Int := if x = y then 0 else (if hold a = (x : Int) then (if hold b = (y : Int) then A a b else 0) else 0) + (if hold b = (x : Int) then (if hold a = (y : Int) then A b a else 0) else 0)
theorem dE_sum {n : Nat} {A : Nat → Nat → Int} {hold : Nat → Int} (hd : ∀ a, a < n → A a a = 0) (x y : Nat) : sI (fun a => sI (fun b => if a < b then dE A hold x y a b else 0) n) n = qA n A hold x y := by
  unfold dE qA
  by_cases q : x = y
  · rw [if_pos q]
    rw [sI_congr (g := fun _ => 0) (fun a ha => by
      rw [sI_congr (g := fun _ => 0) (fun b hb => by rw [if_pos q, ite_self]), sI_zero]), sI_zero]
  · rw [if_neg q]
    have e := sI_upper (C := fun a b => if hold a = (x : Int) then (if hold b = (y : Int) then A a b else 0) else 0) (n := n) (fun a ha => by rw [hd a ha, ite_self, ite_self])
    have e2 : sI (fun a => sI (fun b => if a < b then (if x = y then 0 else (if hold a = (x : Int) then (if hold b = (y : Int) then A a b else 0) else 0) + (if hold b = (x : Int) then (if hold a = (y : Int) then A b a else 0) else 0)) else 0) n) n = sI (fun a => sI (fun b => if a < b then (if hold a = (x : Int) then (if hold b = (y : Int) then A a b else 0) else 0) + (if hold b = (x : Int) then (if hold a = (y : Int) then A b a else 0) else 0) else 0) n) n := sI_congr (fun a ha => sI_congr (fun b hb => by rw [if_neg q]))
    rw [e2, e]
    exact sI_congr (fun a ha => (sI_ite _ _ n).symm)
theorem s_draw54 {n m l a : Nat} {A : Nat → Nat → Int} {hold : Nat → Int} {ho ar dw da : Nat → Int32} {sz : Int32} {G : Nat → Nat → Int} (hn : n ≤ 40) (hm : m ≤ 40) (hl : l < 40) (ha : a < n) (hH : ∀ i, i < n → ho (l * 40 + i) = iI (hold i)) (hr : ∀ i, i < n → 0 ≤ hold i ∧ hold i < m) (hA : ∀ i j, i < n → j < n → ar (i * 40 + j) = iI (A i j)) (hsy : ∀ i j, i < n → j < n → A i j = A j i) (hG : ∀ x y, x < m → y < m → da (x * 40 + y) = iI (G x y)) (K : Int32 → Int32 → (Nat → Int32) → (Nat → Int32) → Option (Int32 × (Nat → Int32) × (Nat → Int32))) : ∃ da', L_Le_drawInto_54 (nI l) ho (nI n) ar K 64 (nI a) (iI (hold a)) (nI (a + 1)) sz da dw = K (nI (a + 1)) sz da' dw ∧ ∀ x y, x < m → y < m → da' (x * 40 + y) = iI (G x y + sI (fun b => if a < b then dE A hold x y a b else 0) n) := by
  have hha := hr a ha
  obtain ⟨ca, hca, eca, ena⟩ := iI_pn (p := m) hha.1 hha.2
  have start : ∀ x y, sI (fun b => if a < b then dE A hold x y a b else 0) (a + 1) = 0 := fun x y => by
    rw [sI_congr (g := fun _ => 0) (fun b hb => if_neg (by omega)), sI_zero]
  obtain ⟨f', s', e, hP⟩ := loopP (fun f d (s : Nat → Int32) => L_Le_drawInto_54 (nI l) ho (nI n) ar K f (nI a) (nI ca) (nI (a + 1 + d)) sz s dw) (n - (a + 1)) (fun d s => ∀ x y, x < m → y < m → s (x * 40 + y) = iI (G x y + sI (fun b => if a < b then dE A hold x y a b else 0) (a + 1 + d))) (by
    intro f d s hd hp
    have hb : a + 1 + d < n := by omega
    generalize hbe : a + 1 + d = b at hb hp
    have hab : a < b := by omega
    have hhb := hr b hb
    obtain ⟨cb, hcb, ecb, enb⟩ := iI_pn (p := m) hhb.1 hhb.2
    rw [show a + 1 + (d + 1) = b + 1 by omega, L_Le_drawInto_54, if_neg (nI_ge hb (by omega)), s_holder hl (by omega), Option.bind_some, hH b hb, enb, nI_1]
    by_cases q : ca = cb
    · rw [if_pos (by rw [q])]
      refine ⟨s, rfl, fun x y hx hy => ?_⟩
      rw [hp x y hx hy, sI_s, if_pos hab]
      have : dE A hold x y a b = 0 := by
        unfold dE
        by_cases z : x = y
        · rw [if_pos z]
        · rw [if_neg z, eca, ecb, q]
          by_cases z1 : (cb : Int) = (x : Int)
          · rw [if_pos z1, if_neg (by omega), if_pos z1, if_neg (by omega)]; rfl
          · rw [if_neg z1, if_neg z1]; rfl
      rw [this, Int.add_zero]
    · rw [if_neg (fun z => q ((nI_eq (by omega) (by omega)).mp z)), s_garc (by omega) (by omega), Option.bind_some, hA a b ha hb, s_addArc (by omega) (by omega) q, Option.bind_some]
      refine ⟨_, rfl, fun x y hx hy => ?_⟩
      rw [sI_s, if_pos hab, ← Int.add_assoc, ← iI_add _ (dE A hold x y a b), ← hp x y hx hy]
      unfold dE
      rw [eca, ecb]
      by_cases z1 : x = cb ∧ y = ca
      · obtain ⟨rfl, rfl⟩ := z1
        rw [pk_us, if_neg (fun z => q z.symm), if_neg (by omega), if_pos rfl, if_pos rfl, hsy b a hb ha, Int.zero_add]
      · rw [pk_un (by omega)]
        by_cases z2 : x = ca ∧ y = cb
        · obtain ⟨rfl, rfl⟩ := z2
          rw [pk_us, if_neg q, if_pos rfl, if_pos rfl, if_neg (by omega), Int.add_zero]
        · rw [pk_un (by omega)]
          have : (if x = y then (0 : Int) else (if (ca : Int) = (x : Int) then (if (cb : Int) = (y : Int) then A a b else 0) else 0) + (if (cb : Int) = (x : Int) then (if (ca : Int) = (y : Int) then A b a else 0) else 0)) = 0 := by
            by_cases z : x = y
            · rw [if_pos z]
            · rw [if_neg z]
              by_cases y1 : (ca : Int) = (x : Int)
              · rw [if_pos y1, if_neg (by omega), if_neg (by omega)]; rfl
              · rw [if_neg y1]
                by_cases y2 : (cb : Int) = (x : Int)
                · rw [if_pos y2, if_neg (by omega)]; rfl
                · rw [if_neg y2]; rfl
          rw [this, iI_0, Int32.add_zero]) (n - (a + 1)) 0 64 da (by omega) (by omega) (fun x y hx hy => by rw [show a + 1 + 0 = a + 1 from rfl, start x y, Int.add_zero]; exact hG x y hx hy)
  have e : L_Le_drawInto_54 (nI l) ho (nI n) ar K 64 (nI a) (nI ca) (nI (a + 1)) sz da dw = L_Le_drawInto_54 (nI l) ho (nI n) ar K (f' + 1) (nI a) (nI ca) (nI (a + 1 + (n - (a + 1)))) sz s' dw := e
  have en : a + 1 + (n - (a + 1)) = n := by omega
  rw [en] at e hP
  refine ⟨s', ?_, hP⟩
  rw [ena, e, L_Le_drawInto_54, if_pos (nI_le (Nat.le_refl n) (by omega)), nI_1]
theorem s_drawInto {n m l : Nat} {w : Nat → Int} {A : Nat → Nat → Int} {hold : Nat → Int} {ho ls ar wt : Nat → Int32} (g : GOK n w A) (hC : CG n w A wt ar) (hl : l < 40) (hS : HS n m hold) (hH : ∀ i, i < n → ho (l * 40 + i) = iI (hold i)) (hs : ls l = nI m) : ∃ da dw, f_Le_drawInto (nI l) ho ls (nI n) ar wt = some (nI m, da, dw) ∧ CG m (fun a => pS n w hold a) (fun a b => qA n A hold a b) dw da := by
  have hn := g.1
  have hm := hS.2.2
  have hr := hS.1
  obtain ⟨f', s', e, hP⟩ := loopP (fun f i (s : (Nat → Int32) × (Nat → Int32)) => L_Le_drawInto_13 (nI l) ho (nI n) ar wt f (nI i) (nI m) s.1 s.2) n (fun i s => (∀ x y, x < m → y < m → s.1 (x * 40 + y) = iI (sI (fun a => sI (fun b => if a < b then dE A hold x y a b else 0) n) i)) ∧ ∀ x : Nat, x < m → s.2 x = iI (sI (fun a => if hold a = (x : Int) then w a else 0) i)) (by
    intro f i s hi hp
    obtain ⟨da, dw⟩ := s
    obtain ⟨p1, p2⟩ := hp
    dsimp only at p1 p2
    have hhi := hr i hi
    obtain ⟨c, hc, ec, en⟩ := iI_pn (p := m) hhi.1 hhi.2
    obtain ⟨da', e1, q1⟩ := s_draw54 (dw := upd dw c (dw c + iI (w i))) (sz := nI m) hn (by omega) hl hi hH hr hC.2 g.2.2.2.2.2.1 p1 (L_Le_drawInto_13 (nI l) ho (nI n) ar wt f)
    show ∃ s', L_Le_drawInto_13 _ _ _ _ _ (f + 1) (nI i) _ da dw = _ ∧ _
    rw [L_Le_drawInto_13, if_neg (nI_ge hi (by omega)), s_holder hl (by omega), Option.bind_some, hH i hi]
    rw [en] at e1 ⊢
    rw [ckn (by omega) (by decide), ckn (by omega) (by decide), ckn (by omega) (by decide), nI_clamp (show c < 2 ^ 31 by omega), nI_clamp (show i < 2 ^ 31 by omega), hC.1 i hi, nI_1, e1]
    refine ⟨(da', upd dw c (dw c + iI (w i))), rfl, q1, fun x hx => ?_⟩
    dsimp only
    rw [sI_s]
    by_cases y : x = c
    · subst y; rw [pk_us, p2 x hx, if_pos ec, iI_add]
    · rw [pk_un y, p2 x hx, if_neg (by omega), Int.add_zero]) n 0 64 (fun _ => 0, fun _ => 0) (by omega) (by omega) ⟨fun x y _ _ => rfl, fun x _ => rfl⟩
  obtain ⟨da, dw⟩ := s'
  obtain ⟨p1, p2⟩ := hP
  dsimp only at p1 p2
  have e : L_Le_drawInto_13 (nI l) ho (nI n) ar wt 64 0 (nI m) (fun _ => 0) (fun _ => 0) = L_Le_drawInto_13 (nI l) ho (nI n) ar wt (f' + 1) (nI n) (nI m) da dw := e
  unfold f_Le_drawInto f_Gr_empty
  rw [ckn (by omega) (by decide), nI_clamp (by omega), hs, Option.bind_some]
  dsimp only
  rw [e, L_Le_drawInto_13, if_pos (nI_le (Nat.le_refl n) (by omega))]
  refine ⟨da, dw, rfl, p2, fun x y hx hy => ?_⟩
  rw [p1 x y hx hy, dE_sum g.2.2.2.2.2.2]
