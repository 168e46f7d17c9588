/-! BASE: the words of the pure functions, and the call rows in one piece -/
def ck {α : Type} (b : Bool) (x : Option α) : Option α := match b with
  | true => x
  | false => none
theorem ck_some {α : Type} {b : Bool} {x : Option α} {o : α} (h : ck b x = some o) : b = true ∧ x = some o := by
  cases b with
  | true => exact ⟨rfl, h⟩
  | false => simp [ck] at h
theorem ck_true {α : Type} {b : Bool} (h : b = true) (x : Option α) : ck b x = x := by rw [h]; rfl
def okb (i : Int32) (n : Nat) : Bool := !(decide (i < 0) || decide (n ≤ i.toNatClampNeg))
theorem okb_in {i : Int32} {n : Nat} (h : okb i n = true) : vp_in i n := by
  unfold vp_in
  intro q
  rcases q with q | q <;> simp [okb, q] at h
theorem okb_of {i : Int32} {n : Nat} (h : vp_in i n) : okb i n = true := by
  unfold vp_in at h
  simp only [okb, Bool.not_eq_true', Bool.or_eq_false_iff, decide_eq_false_iff_not]
  exact ⟨fun q => h (Or.inl q), fun q => h (Or.inr q)⟩
theorem okb_nI {i n : Nat} (h : i < n) (hn : n < 2 ^ 31) : okb (nI i) n = true := okb_of (vp_in_nI h hn)
def okB (x : Int32) : Bool := decide (x = 0) || decide (x = 1)
theorem okB_or {x : Int32} (h : okB x = true) : x = 0 ∨ x = 1 := by simpa [okB] using h
theorem okB_n {x : Int32} (h : okB x = true) : narrow .boolean (.int x) = .int x := by
  rcases okB_or h with q | q <;> rw [q] <;> rfl
theorem okB_f {x : Int32} (h : okB x = true) : fits .boolean (.int x) = true := by
  rcases okB_or h with q | q <;> rw [q] <;> rfl
def nz (x : Int32) : Bool := !decide (x = 0)
theorem nz_ne {x : Int32} (h : nz x = true) : ¬ x = 0 := by
  intro q
  simp [nz, q] at h
def nzl (x : Int64) : Bool := !decide (x = 0)
theorem nzl_ne {x : Int64} (h : nzl x = true) : ¬ x = 0 := by
  intro q
  simp [nzl, q] at h
def okc (sp dp n : Int32) (n0 n1 : Nat) : Bool := (decide (¬ sp < 0) && decide (¬ dp < 0)) && (decide (¬ n < 0) && (decide (sp.toNatClampNeg + n.toNatClampNeg ≤ n0) && decide (dp.toNatClampNeg + n.toNatClampNeg ≤ n1)))
theorem okc_all {sp dp n : Int32} {n0 n1 : Nat} (h : okc sp dp n n0 n1 = true) : (¬ sp < 0 ∧ ¬ dp < 0) ∧ (¬ n < 0 ∧ (sp.toNatClampNeg + n.toNatClampNeg ≤ n0 ∧ dp.toNatClampNeg + n.toNatClampNeg ≤ n1)) := by
  unfold okc at h
  simp only [Bool.and_eq_true, decide_eq_true_eq] at h
  exact h
theorem okc_1 {sp dp n : Int32} {n0 n1 : Nat} (h : okc sp dp n n0 n1 = true) : ¬ sp < 0 := (okc_all h).1.1
theorem okc_2 {sp dp n : Int32} {n0 n1 : Nat} (h : okc sp dp n n0 n1 = true) : ¬ dp < 0 := (okc_all h).1.2
theorem okc_3 {sp dp n : Int32} {n0 n1 : Nat} (h : okc sp dp n n0 n1 = true) : ¬ n < 0 := (okc_all h).2.1
theorem okc_4 {sp dp n : Int32} {n0 n1 : Nat} (h : okc sp dp n n0 n1 = true) : sp.toNatClampNeg + n.toNatClampNeg ≤ n0 := (okc_all h).2.2.1
theorem okc_5 {sp dp n : Int32} {n0 n1 : Nat} (h : okc sp dp n n0 n1 = true) : dp.toNatClampNeg + n.toNatClampNeg ≤ n1 := (okc_all h).2.2.2
def ushr (x y : Int32) : Int32 := (x.toUInt32 >>> (y.toUInt32 &&& Int32.toUInt32 31)).toInt32
def mx (x y : Int32) : Int32 := if x < y then y else x
theorem bind_some {α β : Type} {x : Option α} {f : α → Option β} {o : β} (h : x.bind f = some o) : ∃ a, x = some a ∧ f a = some o := by
  cases x with
  | none => cases h
  | some a => exact ⟨a, rfl, h⟩
theorem if_t {α : Type} {q : Prop} [Decidable q] {a b : Option α} {o : α} (hq : q) (h : (if q then a else b) = some o) : a = some o := by
  rw [if_pos hq] at h; exact h
theorem if_f {α : Type} {q : Prop} [Decidable q] {a b : Option α} {o : α} (hq : ¬ q) (h : (if q then a else b) = some o) : b = some o := by
  rw [if_neg hq] at h; exact h
theorem sw_ne {x y : Int32} (h : ¬ x = y) : ¬ x.toInt = y.toInt := fun q => h (Int32.toInt_inj.mp q)
theorem sw_out4 {x : Int32} (h0 : ¬ x = 0) (h1 : ¬ x = 1) (h2 : ¬ x = 2) (h3 : ¬ x = 3) : x.toInt < 0 ∨ 3 < x.toInt := by
  have a0 : ¬ x.toInt = 0 := sw_ne h0
  have a1 : ¬ x.toInt = 1 := sw_ne h1
  have a2 : ¬ x.toInt = 2 := sw_ne h2
  have a3 : ¬ x.toInt = 3 := sw_ne h3
  omega
theorem sw_out6 {x : Int32} (h0 : ¬ x = 0) (h1 : ¬ x = 1) (h2 : ¬ x = 2) (h3 : ¬ x = 3) (h4 : ¬ x = 4) (h5 : ¬ x = 5) : x.toInt < 0 ∨ 5 < x.toInt := by
  have a0 : ¬ x.toInt = 0 := sw_ne h0
  have a1 : ¬ x.toInt = 1 := sw_ne h1
  have a2 : ¬ x.toInt = 2 := sw_ne h2
  have a3 : ¬ x.toInt = 3 := sw_ne h3
  have a4 : ¬ x.toInt = 4 := sw_ne h4
  have a5 : ¬ x.toInt = 5 := sw_ne h5
  omega
def NN (U : State) : Prop := ∀ q ∈ nestM, va_Nw (.methodLinkNest q.1 q.2.1 q.2.2.1 q.2.2.2) U
theorem NN.warm {s U : State} (hW : s.WarmedH U.vm) (h : NN s) : NN U := fun q hq => va_Nw.warmM hW (h q hq)
def tyL (cI cZ : ClassId) : List (ClassId × FieldType) := [(cI, .int), (cZ, .boolean)]
def pre_ (D : va_G) (cI cZ : ClassId) (sz : Nat) (ws : va_W) (U : State) : Prop := U.heap.size = sz ∧ va_P D clsL ws U.heap ∧ va_K D clsL (tyL cI cZ) U ∧ va_D (fun _ => True) ws ∧ NN U
def pst (D : va_G) (A : Nat → Prop) (ws : va_W) (t : State) : Prop := va_P D clsL ws t.heap ∧ va_D A ws
theorem pst_of {D : va_G} {A : Nat → Prop} {ws : va_W} {t : State} {H : Heap} (ht : t.heap = H) (hP : va_P D clsL ws H) (hD : va_D A ws) : pst D A ws t := ⟨by rw [ht]; exact hP, hD⟩
theorem pre_blind {av : List Value} {D : va_G} {cI cZ : ClassId} {sz : Nat} {ws : va_W} : FrameBlind (va_Pc av (pre_ D cI cZ sz ws)) := by
  intro a U g mk q
  obtain ⟨q0, q1, qP, qK, qD, qN⟩ := q
  exact ⟨q0, q1, qP, va_K.moved (u := U) (U := U.calling g mk a) (Vm.Alike.refl U.vm) qK, qD, fun w hw => va_Nw.same (U := U.calling g mk a) rfl rfl (qN w hw)⟩
theorem mkV {D : va_G} {cI cZ : ClassId} {s : State} {H : Heap} {ws : va_W} {A : Nat → Prop} {C : String} {b : Nat} {As : List Value} (hK : va_K D clsL (tyL cI cZ) s) (hP : va_P D clsL ws H) (hD : va_D A ws) (hN : NN s) (hr : ∃ cell : Cell, H[b]? = some cell ∧ cell.vm.isStatics = false ∧ s.vm.findClass C = some cell.cls) : PreV s H C b (va_Pc (Value.ref b :: As) (pre_ D cI cZ H.size ws)) As :=
  ⟨pre_blind, hr, fun U hU hW => ⟨rfl, by rw [hU], by rw [hU]; exact hP, va_K.moved hW.alike hK, hD.weaken (fun _ _ _ _ => trivial), hN.warm hW⟩⟩
theorem mkS {D : va_G} {cI cZ : ClassId} {s : State} {H : Heap} {ws : va_W} {A : Nat → Prop} {As : List Value} (hK : va_K D clsL (tyL cI cZ) s) (hP : va_P D clsL ws H) (hD : va_D A ws) (hN : NN s) : PreS s H (va_Pc As (pre_ D cI cZ H.size ws)) As :=
  ⟨pre_blind, fun U hU hW => ⟨rfl, by rw [hU], by rw [hU]; exact hP, va_K.moved hW.alike hK, hD.weaken (fun _ _ _ _ => trivial), hN.warm hW⟩⟩
section XC
variable {p : Program} {l : Launch} {e : Env} {R : Room} {s : State} {m : MethodId} {args : Array Value} {below : List Frame} {meth : Method} {c : Code} {H : Heap} {locs : List Loc} {cells slots : Nat} {Q : State → Prop}
variable {pc : Nat} {ls : Array Slot} {rest st0 : List Value} {a : Array Value} {A0 : Nat → Prop} {H0 : Heap} {D : va_G} {wc w1 wr ws ws' : va_W}
theorem xcalli {v : Int32} (hr : va_Run p l e R s m args below meth c H locs cells slots 0 0 (F0 m pc ls st0) rest (va_Qi (fun (r : Int32) (_ : Unit) => r = v) (fun _ => pst D (va_A wc H.size) w1) (va_A wc H.size) a) (va_A wc H.size))
    (hP : va_P D clsL ws H) (hD : va_D A0 ws) (hS : va_S A0 H0 H locs) (hA : ∀ q, H0.size ≤ q → A0 q) (isC isR pm : List Nat) (hC : isC.map (fun i => ws[i]?) = wc.map some) (hR : isR.map (fun i => ws[i]?) = wr.map some) (hn : va_nd isR = true) (hdis : ∀ i ∈ isR, i ∉ isC)
    (hp1 : pm.filterMap (fun i => (wr ++ w1)[i]?) = ws') (hnd : va_nd pm = true) (hp2 : pm.map (fun i => (wr ++ w1)[i]?) = ws'.map some)
    (kk : ∀ (H1 : Heap) (locs1 : List Loc), va_P D clsL ws' H1 → va_D A0 ws' → va_S A0 H0 H1 locs1 → W p l e R s m args below meth c H1 locs1 cells slots Q (F0 m (pc + 3) ls (.int v :: rest))) :
    W p l e R s m args below meth c H locs cells slots Q (F0 m pc ls st0) := by
  have hF := va_free hD hS hA isC hC
  refine va_calli hr hS (fun q _ h => hF q h) hF (fun r u t H1 locs1 ht hvm hw hB hz hk hS1 => ?_)
  obtain ⟨hP1, hD1⟩ := hB
  rw [ht] at hP1
  obtain ⟨hP2, hD2⟩ := va_join hP hD isC isR hC hR hn hdis hk hF hP1 hD1
  have hw : r = v := hw
  rw [hw]
  exact kk H1 locs1 (hP2.sub pm hp1) (hD2.sub pm hnd hp2) hS1
theorem xcalll {v : Int64} (hr : va_Run p l e R s m args below meth c H locs cells slots 0 0 (F0 m pc ls st0) rest (va_Ql (fun (r : Int64) (_ : Unit) => r = v) (fun _ => pst D (va_A wc H.size) w1) (va_A wc H.size) a) (va_A wc H.size))
    (hP : va_P D clsL ws H) (hD : va_D A0 ws) (hS : va_S A0 H0 H locs) (hA : ∀ q, H0.size ≤ q → A0 q) (isC isR pm : List Nat) (hC : isC.map (fun i => ws[i]?) = wc.map some) (hR : isR.map (fun i => ws[i]?) = wr.map some) (hn : va_nd isR = true) (hdis : ∀ i ∈ isR, i ∉ isC)
    (hp1 : pm.filterMap (fun i => (wr ++ w1)[i]?) = ws') (hnd : va_nd pm = true) (hp2 : pm.map (fun i => (wr ++ w1)[i]?) = ws'.map some)
    (kk : ∀ (H1 : Heap) (locs1 : List Loc), va_P D clsL ws' H1 → va_D A0 ws' → va_S A0 H0 H1 locs1 → W p l e R s m args below meth c H1 locs1 cells slots Q (F0 m (pc + 3) ls (.long v :: rest))) :
    W p l e R s m args below meth c H locs cells slots Q (F0 m pc ls st0) := by
  have hF := va_free hD hS hA isC hC
  refine va_calll hr hS (fun q _ h => hF q h) hF (fun r u t H1 locs1 ht hvm hw hB hz hk hS1 => ?_)
  obtain ⟨hP1, hD1⟩ := hB
  rw [ht] at hP1
  obtain ⟨hP2, hD2⟩ := va_join hP hD isC isR hC hR hn hdis hk hF hP1 hD1
  have hw : r = v := hw
  rw [hw]
  exact kk H1 locs1 (hP2.sub pm hp1) (hD2.sub pm hnd hp2) hS1
theorem xcallv (hr : va_Run p l e R s m args below meth c H locs cells slots 0 0 (F0 m pc ls st0) rest (va_Qv (fun _ : Unit => True) (fun _ => pst D (va_A wc H.size) w1) (va_A wc H.size) a) (va_A wc H.size))
    (hP : va_P D clsL ws H) (hD : va_D A0 ws) (hS : va_S A0 H0 H locs) (hA : ∀ q, H0.size ≤ q → A0 q) (isC isR pm : List Nat) (hC : isC.map (fun i => ws[i]?) = wc.map some) (hR : isR.map (fun i => ws[i]?) = wr.map some) (hn : va_nd isR = true) (hdis : ∀ i ∈ isR, i ∉ isC)
    (hp1 : pm.filterMap (fun i => (wr ++ w1)[i]?) = ws') (hnd : va_nd pm = true) (hp2 : pm.map (fun i => (wr ++ w1)[i]?) = ws'.map some)
    (kk : ∀ (H1 : Heap) (locs1 : List Loc), va_P D clsL ws' H1 → va_D A0 ws' → va_S A0 H0 H1 locs1 → W p l e R s m args below meth c H1 locs1 cells slots Q (F0 m (pc + 3) ls rest)) :
    W p l e R s m args below meth c H locs cells slots Q (F0 m pc ls st0) := by
  have hF := va_free hD hS hA isC hC
  refine va_callv hr hS (fun q _ h => hF q h) hF (fun u t H1 locs1 ht hvm hw hB hz hk hS1 => ?_)
  obtain ⟨hP1, hD1⟩ := hB
  rw [ht] at hP1
  obtain ⟨hP2, hD2⟩ := va_join hP hD isC isR hC hR hn hdis hk hF hP1 hD1
  exact kk H1 locs1 (hP2.sub pm hp1) (hD2.sub pm hnd hp2) hS1
end XC
theorem arrV_ext {cA : ClassId} {n : Nat} {f g : Nat → Value} (h : ∀ j, j < n → f j = g j) : arrV cA n f = arrV cA n g := by
  have e : Array.ofFn (n := n) (fun j => f j.val) = Array.ofFn (n := n) (fun j => g j.val) := by
    congr 1
    funext j
    exact h j.val j.isLt
  unfold arrV
  rw [e]
theorem va_P.ext {D : va_G} {cl : List vw_C} {H : Heap} {a n : Nat} {cA : ClassId} {f g : Nat → Int32} {ws : va_W} {q0 : Nat} (hP : va_P D cl ws H) (hq : ws[q0]? = some (a, .inl (cA, n, .inl f))) (h : ∀ j, j < n → f j = g j) : va_P D cl (ws.set q0 (a, .inl (cA, n, .inl g))) H := by
  intro k q hk
  by_cases hkq : k = q0
  · subst hkq
    have hlt : k < ws.length := (List.getElem?_eq_some_iff.mp hq).1
    rw [List.getElem?_set_self hlt] at hk
    cases hk
    have h0 := hP k _ hq
    show H[a]? = some (vp_cell cA (n, .inl g))
    have h1 : H[a]? = some (vp_cell cA (n, .inl f)) := h0
    rw [h1, vp_cell_i, vp_cell_i, arrV_ext (fun j hj => by rw [h j hj])]
  · rw [List.getElem?_set_ne (fun q => hkq q.symm)] at hk
    exact hP k q hk
section XN
variable {p : Program} {l : Launch} {e : Env} {R : Room} {s : State} {m : MethodId} {args : Array Value} {below : List Frame} {meth : Method} {c : Code} {H : Heap} {locs : List Loc} {cells slots : Nat} {Q : State → Prop}
variable {cc : ByteArray} {pc : Nat} {ls : Array Slot} {rest : List Value} {D : va_G} {A : Nat → Prop} {ws : va_W} {H0 : Heap} {cI cZ : ClassId}
theorem xnewi {n : Int32} {N : Nat} (hx : p.tables.exec = Jvm.exec) (hb : c.code = cc) (harr : (Cond.arrayClass .int).before args s = true) (hK : va_K D clsL (tyL cI cZ) s) (hP : va_P D clsL ws H) (hD : va_D A ws) (hS : va_S A H0 H locs) (hA : ∀ q, H0.size ≤ q → A q) (hn : ¬ n < 0) (hN : n.toNatClampNeg = N) (hby : N * componentBytes .int ≤ 536870912) (hc : cells + 1 ≤ R.cells) (hs : slots + N ≤ R.slots) (hdg : decode cc pc = .ok (.newarray .int, 2))
    (kk : ∀ (q : Nat) (H1 : Heap), va_P D clsL (ws ++ [(q, .inl (cI, N, .inl (fun _ => 0)))]) H1 → va_D A (ws ++ [(q, .inl (cI, N, .inl (fun _ => 0)))]) → va_S A H0 H1 locs → W p l e R s m args below meth c H1 locs (cells + 1) (slots + N) Q (F0 m (pc + 2) ls (.ref q :: rest))) : W p l e R s m args below meth c H locs cells slots Q (F0 m pc ls (.int n :: rest)) := by
  refine va_newa (atype := .int) (ty := .int) (a0 := (N, .inl (fun _ => 0))) hx hb harr rfl hK hP hD hS hA (fun cA => rfl) hn hN hby hc hs hdg (fun q cA H1 hK1 hP1 hD1 hS1 => ?_)
  have e1 : va_RA s cA .int := (hK1.2 2 (cA, .int) rfl).2
  have e2 : va_RA s cI .int := (hK.2 0 (cI, .int) rfl).2
  have e3 : cA = cI := Option.some.inj (Eq.trans (Eq.symm e1) e2)
  rw [e3] at hP1 hD1
  exact kk q H1 hP1 hD1 hS1
theorem xnewz {n : Int32} {N : Nat} (hx : p.tables.exec = Jvm.exec) (hb : c.code = cc) (harr : (Cond.arrayClass .boolean).before args s = true) (hK : va_K D clsL (tyL cI cZ) s) (hP : va_P D clsL ws H) (hD : va_D A ws) (hS : va_S A H0 H locs) (hA : ∀ q, H0.size ≤ q → A q) (hn : ¬ n < 0) (hN : n.toNatClampNeg = N) (hby : N * componentBytes .boolean ≤ 536870912) (hc : cells + 1 ≤ R.cells) (hs : slots + N ≤ R.slots) (hdg : decode cc pc = .ok (.newarray .boolean, 2))
    (kk : ∀ (q : Nat) (H1 : Heap), va_P D clsL (ws ++ [(q, .inl (cZ, N, .inl (fun _ => 0)))]) H1 → va_D A (ws ++ [(q, .inl (cZ, N, .inl (fun _ => 0)))]) → va_S A H0 H1 locs → W p l e R s m args below meth c H1 locs (cells + 1) (slots + N) Q (F0 m (pc + 2) ls (.ref q :: rest))) : W p l e R s m args below meth c H locs cells slots Q (F0 m pc ls (.int n :: rest)) := by
  refine va_newa (atype := .boolean) (ty := .boolean) (a0 := (N, .inl (fun _ => 0))) hx hb harr rfl hK hP hD hS hA (fun cA => rfl) hn hN hby hc hs hdg (fun q cA H1 hK1 hP1 hD1 hS1 => ?_)
  have e1 : va_RA s cA .boolean := (hK1.2 2 (cA, .boolean) rfl).2
  have e2 : va_RA s cZ .boolean := (hK.2 1 (cZ, .boolean) rfl).2
  have e3 : cA = cZ := Option.some.inj (Eq.trans (Eq.symm e1) e2)
  rw [e3] at hP1 hD1
  exact kk q H1 hP1 hD1 hS1
end XN

