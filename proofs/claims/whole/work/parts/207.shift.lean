theorem RW.hs {n : Nat} {h : Nat → Int} {home : Nat → Int32} (hr : RW n h home) (v : Nat) (p : Int) : RW n (hs h v p) (upd home v (iI p)) := by
  intro i hi
  by_cases z : i = v
  · subst z; rw [pk_us, hs_s]
  · rw [pk_un z, hs_n z]; exact hr i hi
theorem s_shift {n k v p : Nat} {w : Nat → Int} {A : Nat → Nat → Int} {h lo hi : Nat → Int} {wt ar home sum link least most : Nat → Int32} {cut over : Int32} (g : GOK n w A) (hC : CG n w A wt ar) (hr : RW n h home) (hB : BOK k lo hi) (hb : RB k lo hi least most) (hh : ∀ i, i < n → 0 ≤ h i ∧ h i < k) (hS : SP n k w A lo hi h sum link cut over) (hv : v < n) (hp : p < k) (hne : h v ≠ p) : ∃ cut' over' home' link' sum', f_Sp_shift (nI v) (nI p) cut over least most (nI n) ar wt home link sum = some (cut', over', home', link', sum') ∧ SP n k w A lo hi (hs h v p) sum' link' cut' over' ∧ home' = upd home v (nI p) := by
  have hn := g.1
  have hk := hB.2.1
  have hhi := hh v hv
  have hwv := g.w32 hv
  obtain ⟨q, hq, eq, en⟩ := iI_pn (p := k) hhi.1 hhi.2
  have qp : q ≠ p := fun z => hne (by rw [eq, z])
  obtain ⟨f', s', e, hP⟩ := loopP (fun f i (s : Nat → Int32) => L_Sp_shift_71 (nI v) (nI p) (nI n) ar home f (nI q) (nI i) (iI (cutI n A (hs h v p))) (iI (overI n k w lo hi (hs h v p))) s (upd (upd sum q (iI (pS n w h q - w v))) p (iI (pS n w h p + w v)))) n (fun i s => ∀ o t : Nat, o < n → t < 4 → s (o * 4 + t) = iI (if o < i then lk n A (hs h v p) o t else lk n A h o t)) (by
    intro f i l hi hl
    show ∃ s', L_Sp_shift_71 _ _ _ _ _ (f + 1) _ (nI i) _ _ l _ = _ ∧ _
    rw [L_Sp_shift_71, if_neg (nI_ge hi (by omega)), s_garc (by omega) (by omega), Option.bind_some, n4, n4, ckn (by omega) (by decide), ckn (by omega) (by decide), ckn (by omega) (by decide), ckn (by omega) (by decide), nI_clamp (show i * 4 + q < 2 ^ 31 by omega), nI_clamp (show i * 4 + p < 2 ^ 31 by omega), nI_1, hC.2 v i hv hi]
    refine ⟨_, rfl, ?_⟩
    intro o t ho ht
    rw [pk_un (show i * 4 + p ≠ i * 4 + q by omega)]
    by_cases qo : o = i
    · subst qo
      rw [if_pos (Nat.lt_succ_self o), lk_hs hv, eq, g.2.2.2.2.2.1 o v ho hv]
      by_cases q1 : t = p
      · subst q1
        rw [pk_us, hl o t ho ht, if_neg (Nat.lt_irrefl o), iI_add, if_neg (by omega), if_pos rfl, Int.sub_zero]
      · rw [pk_un (by omega)]
        by_cases q2 : t = q
        · subst q2
          rw [pk_us, hl o t ho ht, if_neg (Nat.lt_irrefl o), iI_sub, if_pos rfl, if_neg (by omega), Int.add_zero]
        · rw [pk_un (by omega), hl o t ho ht, if_neg (Nat.lt_irrefl o), if_neg (by omega), if_neg (by omega), Int.sub_zero, Int.add_zero]
    · rw [pk_un (by omega), pk_un (by omega), hl o t ho ht]
      by_cases q3 : o < i
      · rw [if_pos q3, if_pos (by omega)]
      · rw [if_neg q3, if_neg (by omega)]) n 0 64 link (by omega) (by omega) (fun o t ho ht => by rw [if_neg (Nat.not_lt_zero o)]; exact hS.2.1 o t ho ht)
  refine ⟨iI (cutI n A (hs h v p)), iI (overI n k w lo hi (hs h v p)), upd home v (nI p), s', upd (upd sum q (iI (pS n w h q - w v))) p (iI (pS n w h p + w v)), ?_, ⟨?_, ?_, rfl, rfl⟩, rfl⟩
  · unfold f_Sp_shift
    rw [ckn (by omega) (by decide), s_overBehind g hC hr hB hb hh hS hv hp, Option.bind_some, s_gainOf g hr hk hh hS hv hp, Option.bind_some, nI_clamp (show v < 2 ^ 31 by omega), hr v hv, en, ckn (by omega) (by decide), ckn (by omega) (by decide), ckn (by omega) (by decide), ckn (by omega) (by decide), ckn (by omega) (by decide), ckn (by omega) (by decide), nI_clamp (show q < 2 ^ 31 by omega), nI_clamp (show p < 2 ^ 31 by omega), hC.1 v hv, hS.2.2.1, iI_sub, ← cut_hs g.2.2.2.2.2.1 g.2.2.2.2.2.2 hv, hS.1 q (by omega), iI_sub, pk_un (show p ≠ q by omega), hS.1 p (by omega), iI_add]
    have e : L_Sp_shift_71 (nI v) (nI p) (nI n) ar home 64 (nI q) 0 (iI (cutI n A (hs h v p))) (iI (overI n k w lo hi (hs h v p))) link (upd (upd sum q (iI (pS n w h q - w v))) p (iI (pS n w h p + w v))) = _ := e
    rw [e]
    show L_Sp_shift_71 _ _ _ _ _ (f' + 1) _ (nI n) _ _ s' _ = _
    rw [L_Sp_shift_71, if_pos (nI_le (Nat.le_refl n) (by omega)), ckn (by omega) (by decide), nI_clamp (by omega)]
  · intro t ht
    rw [pS_hs hv, eq]
    by_cases q1 : t = p
    · subst q1; rw [pk_us, if_neg (by omega), if_pos rfl, Int.sub_zero]
    · rw [pk_un q1]
      by_cases q2 : t = q
      · subst q2; rw [pk_us, if_pos rfl, if_neg (by omega), Int.add_zero]
      · rw [pk_un q2, hS.1 t ht, if_neg (by omega), if_neg (by omega), Int.sub_zero, Int.add_zero]
  · intro o t ho ht
    rw [hP o t ho ht, if_pos ho]
