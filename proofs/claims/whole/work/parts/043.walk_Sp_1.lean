abbrev wd_Sp_takeAllOut (cI cZ : ClassId) (a_t a_t_home a_t_sum a_t_graph a_t_bounds a_t_link : Nat) (t_cut : Int32) (t_over : Int32) (t_home : Nat → Int32) (t_sum : Nat → Int32) : va_W := [(a_t, .inr (7, [.ref a_t_graph, .ref a_t_bounds, .ref a_t_home, .ref a_t_sum, .ref a_t_link, .int t_cut, .int t_over])), (a_t_home, .inl (cI, 40, .inl t_home)), (a_t_sum, .inl (cI, 4, .inl t_sum))]
set_option maxRecDepth 100000 in
set_option maxHeartbeats 4000000 in
theorem c_Sp_takeAllOut (l : Launch) (dC : Nat → ClassId) (dI : Nat → Nat → Nat) (cI cZ : ClassId) (a_t a_t_home a_t_sum a_t_graph a_t_bounds a_t_link sz : Nat) (t_cut : Int32) (t_over : Int32) (t_home : Nat → Int32) (t_sum : Nat → Int32) (out : (Nat → Int32) × (Nat → Int32)) (hf : f_Sp_takeAllOut = some out) :
    Met l yy_Sp_takeAllOut wq_Sp_takeAllOut ({ frames := 1, cells := 0, slots := 0, locals := 23 }) (va_Pc ([.ref a_t] : List Value) (pre_ (dC, dI) cI cZ sz (wd_Sp_takeAllOut cI cZ a_t a_t_home a_t_sum a_t_graph a_t_bounds a_t_link t_cut t_over t_home t_sum))) (va_Qv (fun _ : Unit => True) (fun _ => pst (dC, dI) (va_A (wd_Sp_takeAllOut cI cZ a_t a_t_home a_t_sum a_t_graph a_t_bounds a_t_link t_cut t_over t_home t_sum) sz) (wd_Sp_takeAllOut cI cZ a_t a_t_home a_t_sum a_t_graph a_t_bounds a_t_link t_cut t_over out.1 out.2)) (va_A (wd_Sp_takeAllOut cI cZ a_t a_t_home a_t_sum a_t_graph a_t_bounds a_t_link t_cut t_over t_home t_sum) sz)) 0 0 (va_A (wd_Sp_takeAllOut cI cZ a_t a_t_home a_t_sum a_t_graph a_t_bounds a_t_link t_cut t_over t_home t_sum) sz) := by
  refine Met.ofW (cc := cc_Sp_takeAllOut) (maxL := 1) (ret := none) (by decide) rfl ?_
  intro p e s m args below meth c s₁ B hml hv
  obtain ⟨rfl, hsz, hP, hK, hD0, hN⟩ := hv
  have hx := B.exec
  have hb := B.bytes
  have hr := B.returns
  have hts := atoms_spec (ws := wq_Sp_takeAllOut) B.pre
  have hown : s.vm.findClass rr_Sp = some m.cls := findClass_of_methodNamed B.named
  have hlocks := B.notSynchronized
  subst hsz
  have hD := hD0.self (sz := s.heap.size)
  generalize hAe : va_A (wd_Sp_takeAllOut cI cZ a_t a_t_home a_t_sum a_t_graph a_t_bounds a_t_link t_cut t_over t_home t_sum) s.heap.size = A at hD ⊢
  have hA : ∀ q : Nat, s.heap.size ≤ q → A q := fun q h => by rw [← hAe]; exact Or.inr h
  obtain ⟨H, hH⟩ : ∃ H : Heap, H = s.heap := ⟨_, rfl⟩
  have hS : va_S A s.heap H [] := by rw [hH]; exact va_S.rf
  have hl := lv_entry (([.ref a_t] : List Value)) (n := 1) (Nat.le_of_ble_eq_true rfl)
  rw [lg_entry_eq]
  generalize (lg_sl (([.ref a_t] : List Value)) ++ List.replicate (1 - (lg_sl (([.ref a_t] : List Value))).length) Slot.unset).toArray = ls at hl ⊢
  have hl : lv_has ls 1 [(0, .ref a_t)] := hl
  rw [← hH] at hP ⊢
  have hP : va_P (dC, dI) clsL (wd_Sp_takeAllOut cI cZ a_t a_t_home a_t_sum a_t_graph a_t_bounds a_t_link t_cut t_over t_home t_sum) H := hP
  unfold f_Sp_takeAllOut at hf
  refine lv_aload_n hx hb dd_Sp_takeAllOut_0 rfl (lv_at hl 0 rfl) ?_
  refine va_get (D := (dC, dI)) (ci := 7) (v := .ref a_t_home) (C := rr_Sp) (T := tt_Sp) (N := 7) hx hb hts (fun w h => gwc (inn_Sp w h)) hown hK hP 0 rfl rfl 2 (by decide) (hts _ (gwc gw_142)) (fun _ h9 => h9) rfl dd_Sp_takeAllOut_1 ?_
  refine lv_iconst (v := -1) hx hb dd_Sp_takeAllOut_4 (by decide) ?_
  refine xcallv (rest := []) (wc := [(a_t_home, .inl (cI, 40, .inl t_home))]) (w1 := [(a_t_home, .inl (cI, 40, .inl (fun _ => -1)))]) (wr := [(a_t, .inr (7, [.ref a_t_graph, .ref a_t_bounds, .ref a_t_home, .ref a_t_sum, .ref a_t_link, .int t_cut, .int t_over])), (a_t_sum, .inl (cI, 4, .inl t_sum))]) (ws' := (wd_Sp_takeAllOut cI cZ a_t a_t_home a_t_sum a_t_graph a_t_bounds a_t_link t_cut t_over (fun _ => -1) t_sum)) (va_runS (As := [.ref a_t_home, .int (-1)]) ⟨hx, hb, hml, hown, hts⟩ (c_fill l dC dI cI cZ a_t_home H.size 40 (by decide) t_home (-1)) (va_cwS 2 hts (gS gw_371 gw_339 gw_62 gw_340) rfl rfl rfl yd_fill ⟨Nat.le_of_ble_eq_true rfl, Nat.le_of_ble_eq_true rfl⟩) (mkS hK (hP.sub (ws' := [(a_t_home, .inl (cI, 40, .inl t_home))]) [1] rfl) (hD.sub (ws' := [(a_t_home, .inl (cI, 40, .inl t_home))]) [1] (by decide) rfl) hN) rfl rfl hl.1 rfl (lv_room (Nat.le_of_ble_eq_true rfl)) dd_Sp_takeAllOut_5 ⟨Nat.zero_le _, Nat.zero_le _⟩) hP hD hS hA [1] [0, 2] [0, 2, 1] rfl rfl (by decide) (by decide) rfl (by decide) rfl (fun H locs hP hD hS => ?_)
  have hP : va_P (dC, dI) clsL (wd_Sp_takeAllOut cI cZ a_t a_t_home a_t_sum a_t_graph a_t_bounds a_t_link t_cut t_over (fun _ => -1) t_sum) H := hP
  have hD : va_D A (wd_Sp_takeAllOut cI cZ a_t a_t_home a_t_sum a_t_graph a_t_bounds a_t_link t_cut t_over (fun _ => -1) t_sum) := hD
  refine lv_aload_n hx hb dd_Sp_takeAllOut_8 rfl (lv_at hl 0 rfl) ?_
  refine va_get (D := (dC, dI)) (ci := 7) (v := .ref a_t_sum) (C := rr_Sp) (T := tt_Sp) (N := 7) hx hb hts (fun w h => gwc (inn_Sp w h)) hown hK hP 0 rfl rfl 3 (by decide) (hts _ (gwc gw_147)) (fun _ h9 => h9) rfl dd_Sp_takeAllOut_9 ?_
  refine lv_iconst (v := 0) hx hb dd_Sp_takeAllOut_12 (by decide) ?_
  refine xcallv (rest := []) (wc := [(a_t_sum, .inl (cI, 4, .inl t_sum))]) (w1 := [(a_t_sum, .inl (cI, 4, .inl (fun _ => 0)))]) (wr := [(a_t, .inr (7, [.ref a_t_graph, .ref a_t_bounds, .ref a_t_home, .ref a_t_sum, .ref a_t_link, .int t_cut, .int t_over])), (a_t_home, .inl (cI, 40, .inl (fun _ => -1)))]) (ws' := (wd_Sp_takeAllOut cI cZ a_t a_t_home a_t_sum a_t_graph a_t_bounds a_t_link t_cut t_over (fun _ => -1) (fun _ => 0))) (va_runS (As := [.ref a_t_sum, .int 0]) ⟨hx, hb, hml, hown, hts⟩ (c_fill l dC dI cI cZ a_t_sum H.size 4 (by decide) t_sum 0) (va_cwS 2 hts (gS gw_371 gw_339 gw_62 gw_340) rfl rfl rfl yd_fill ⟨Nat.le_of_ble_eq_true rfl, Nat.le_of_ble_eq_true rfl⟩) (mkS hK (hP.sub (ws' := [(a_t_sum, .inl (cI, 4, .inl t_sum))]) [2] rfl) (hD.sub (ws' := [(a_t_sum, .inl (cI, 4, .inl t_sum))]) [2] (by decide) rfl) hN) rfl rfl hl.1 rfl (lv_room (Nat.le_of_ble_eq_true rfl)) dd_Sp_takeAllOut_13 ⟨Nat.zero_le _, Nat.zero_le _⟩) hP hD hS hA [2] [0, 1] [0, 1, 2] rfl rfl (by decide) (by decide) rfl (by decide) rfl (fun H locs hP hD hS => ?_)
  have hP : va_P (dC, dI) clsL (wd_Sp_takeAllOut cI cZ a_t a_t_home a_t_sum a_t_graph a_t_bounds a_t_link t_cut t_over (fun _ => -1) (fun _ => 0)) H := hP
  have hD : va_D A (wd_Sp_takeAllOut cI cZ a_t a_t_home a_t_sum a_t_graph a_t_bounds a_t_link t_cut t_over (fun _ => -1) (fun _ => 0)) := hD
  cases hf
  exact W.vret hx hb hr (fun t ht hW => ⟨⟨(), rfl, trivial, pst_of ht hP hD⟩, hS.F ht⟩) hS.2.2 dd_Sp_takeAllOut_16
abbrev wd_Sp_place (cI cZ : ClassId) (a_t a_t_graph a_t_graph_weight a_t_home a_t_sum a_t_bounds a_t_link a_t_graph_arcs : Nat) (t_cut : Int32) (t_over : Int32) (t_graph_size : Int32) (t_graph_weight : Nat → Int32) (t_home : Nat → Int32) (t_sum : Nat → Int32) : va_W := [(a_t, .inr (7, [.ref a_t_graph, .ref a_t_bounds, .ref a_t_home, .ref a_t_sum, .ref a_t_link, .int t_cut, .int t_over])), (a_t_graph, .inr (1, [.int t_graph_size, .ref a_t_graph_weight, .ref a_t_graph_arcs])), (a_t_graph_weight, .inl (cI, 40, .inl t_graph_weight)), (a_t_home, .inl (cI, 40, .inl t_home)), (a_t_sum, .inl (cI, 4, .inl t_sum))]
set_option maxRecDepth 100000 in
set_option maxHeartbeats 4000000 in
theorem c_Sp_place (l : Launch) (dC : Nat → ClassId) (dI : Nat → Nat → Nat) (cI cZ : ClassId) (a_t a_t_graph a_t_graph_weight a_t_home a_t_sum a_t_bounds a_t_link a_t_graph_arcs sz : Nat) (x1 : Int32) (x2 : Int32) (t_cut : Int32) (t_over : Int32) (t_graph_size : Int32) (t_graph_weight : Nat → Int32) (t_home : Nat → Int32) (t_sum : Nat → Int32) (out : (Nat → Int32) × (Nat → Int32)) (hf : f_Sp_place x1 x2 t_graph_weight t_home t_sum = some out) :
    Met l yy_Sp_place wq_Sp_place ({ frames := 0, cells := 0, slots := 0, locals := 0 }) (va_Pc ([.ref a_t, .int x1, .int x2] : List Value) (pre_ (dC, dI) cI cZ sz (wd_Sp_place cI cZ a_t a_t_graph a_t_graph_weight a_t_home a_t_sum a_t_bounds a_t_link a_t_graph_arcs t_cut t_over t_graph_size t_graph_weight t_home t_sum))) (va_Qv (fun _ : Unit => True) (fun _ => pst (dC, dI) (va_A (wd_Sp_place cI cZ a_t a_t_graph a_t_graph_weight a_t_home a_t_sum a_t_bounds a_t_link a_t_graph_arcs t_cut t_over t_graph_size t_graph_weight t_home t_sum) sz) (wd_Sp_place cI cZ a_t a_t_graph a_t_graph_weight a_t_home a_t_sum a_t_bounds a_t_link a_t_graph_arcs t_cut t_over t_graph_size t_graph_weight out.1 out.2)) (va_A (wd_Sp_place cI cZ a_t a_t_graph a_t_graph_weight a_t_home a_t_sum a_t_bounds a_t_link a_t_graph_arcs t_cut t_over t_graph_size t_graph_weight t_home t_sum) sz)) 0 0 (va_A (wd_Sp_place cI cZ a_t a_t_graph a_t_graph_weight a_t_home a_t_sum a_t_bounds a_t_link a_t_graph_arcs t_cut t_over t_graph_size t_graph_weight t_home t_sum) sz) := by
  refine Met.ofW (cc := cc_Sp_place) (maxL := 3) (ret := none) (by decide) rfl ?_
  intro p e s m args below meth c s₁ B hml hv
  obtain ⟨rfl, hsz, hP, hK, hD0, hN⟩ := hv
  have hx := B.exec
  have hb := B.bytes
  have hr := B.returns
  have hts := atoms_spec (ws := wq_Sp_place) B.pre
  have hown : s.vm.findClass rr_Sp = some m.cls := findClass_of_methodNamed B.named
  have hlocks := B.notSynchronized
  subst hsz
  have hD := hD0.self (sz := s.heap.size)
  generalize hAe : va_A (wd_Sp_place cI cZ a_t a_t_graph a_t_graph_weight a_t_home a_t_sum a_t_bounds a_t_link a_t_graph_arcs t_cut t_over t_graph_size t_graph_weight t_home t_sum) s.heap.size = A at hD ⊢
  have hA : ∀ q : Nat, s.heap.size ≤ q → A q := fun q h => by rw [← hAe]; exact Or.inr h
  obtain ⟨H, hH⟩ : ∃ H : Heap, H = s.heap := ⟨_, rfl⟩
  have hS : va_S A s.heap H [] := by rw [hH]; exact va_S.rf
  have hl := lv_entry (([.ref a_t, .int x1, .int x2] : List Value)) (n := 3) (Nat.le_of_ble_eq_true rfl)
  rw [lg_entry_eq]
  generalize (lg_sl (([.ref a_t, .int x1, .int x2] : List Value)) ++ List.replicate (3 - (lg_sl (([.ref a_t, .int x1, .int x2] : List Value))).length) Slot.unset).toArray = ls at hl ⊢
  have hl : lv_has ls 3 [(0, .ref a_t), (1, .int x1), (2, .int x2)] := hl
  rw [← hH] at hP ⊢
  have hP : va_P (dC, dI) clsL (wd_Sp_place cI cZ a_t a_t_graph a_t_graph_weight a_t_home a_t_sum a_t_bounds a_t_link a_t_graph_arcs t_cut t_over t_graph_size t_graph_weight t_home t_sum) H := hP
  unfold f_Sp_place at hf
  refine lv_aload_n hx hb dd_Sp_place_0 rfl (lv_at hl 0 rfl) ?_
  refine va_get (D := (dC, dI)) (ci := 7) (v := .ref a_t_home) (C := rr_Sp) (T := tt_Sp) (N := 7) hx hb hts (fun w h => gwc (inn_Sp w h)) hown hK hP 0 rfl rfl 2 (by decide) (hts _ (gwc gw_142)) (fun _ h9 => h9) rfl dd_Sp_place_1 ?_
  refine lv_iload_n hx hb dd_Sp_place_4 rfl (lv_at hl 1 rfl) ?_
  refine lv_iload_n hx hb dd_Sp_place_5 rfl (lv_at hl 2 rfl) ?_
  obtain ⟨k6, hf⟩ := ck_some hf
  refine va_iast hx hb hK hP hD hS 3 0 rfl rfl (okb_in k6) dd_Sp_place_6 (fun H locs hP hD hS => ?_)
  have hP : va_P (dC, dI) clsL (wd_Sp_place cI cZ a_t a_t_graph a_t_graph_weight a_t_home a_t_sum a_t_bounds a_t_link a_t_graph_arcs t_cut t_over t_graph_size t_graph_weight (upd t_home (x1).toNatClampNeg x2) t_sum) H := hP
  have hD : va_D A (wd_Sp_place cI cZ a_t a_t_graph a_t_graph_weight a_t_home a_t_sum a_t_bounds a_t_link a_t_graph_arcs t_cut t_over t_graph_size t_graph_weight (upd t_home (x1).toNatClampNeg x2) t_sum) := hD
  refine lv_aload_n hx hb dd_Sp_place_7 rfl (lv_at hl 0 rfl) ?_
  refine va_get (D := (dC, dI)) (ci := 7) (v := .ref a_t_sum) (C := rr_Sp) (T := tt_Sp) (N := 7) hx hb hts (fun w h => gwc (inn_Sp w h)) hown hK hP 0 rfl rfl 3 (by decide) (hts _ (gwc gw_147)) (fun _ h9 => h9) rfl dd_Sp_place_8 ?_
  refine lv_iload_n hx hb dd_Sp_place_11 rfl (lv_at hl 2 rfl) ?_
  refine lv_dup2_11 hx hb dd_Sp_place_12 rfl rfl ?_
  obtain ⟨k13, hf⟩ := ck_some hf
  refine va_iald hx hb hK hP 4 0 rfl rfl (okb_in k13) dd_Sp_place_13 ?_
  refine lv_aload_n hx hb dd_Sp_place_14 rfl (lv_at hl 0 rfl) ?_
  refine va_get (D := (dC, dI)) (ci := 7) (v := .ref a_t_graph) (C := rr_Sp) (T := tt_Sp) (N := 7) hx hb hts (fun w h => gwc (inn_Sp w h)) hown hK hP 0 rfl rfl 0 (by decide) (hts _ (gwc gw_133)) (fun _ h9 => h9) rfl dd_Sp_place_15 ?_
  refine va_get (D := (dC, dI)) (ci := 1) (v := .ref a_t_graph_weight) (C := rr_Gr) (T := tt_Gr) (N := 3) hx hb hts (fun w h => gwc (inn_Gr w h)) hown hK hP 1 rfl rfl 1 (by decide) (hts _ (gwc gw_94)) (fun _ h9 => h9) rfl dd_Sp_place_18 ?_
  refine lv_iload_n hx hb dd_Sp_place_21 rfl (lv_at hl 1 rfl) ?_
  obtain ⟨k22, hf⟩ := ck_some hf
  refine va_iald hx hb hK hP 2 0 rfl rfl (okb_in k22) dd_Sp_place_22 ?_
  refine lv_iadd hx hb dd_Sp_place_23 ?_
  obtain ⟨k24, hf⟩ := ck_some hf
  refine va_iast hx hb hK hP hD hS 4 0 rfl rfl (okb_in k24) dd_Sp_place_24 (fun H locs hP hD hS => ?_)
  have hP : va_P (dC, dI) clsL (wd_Sp_place cI cZ a_t a_t_graph a_t_graph_weight a_t_home a_t_sum a_t_bounds a_t_link a_t_graph_arcs t_cut t_over t_graph_size t_graph_weight (upd t_home (x1).toNatClampNeg x2) (upd t_sum (x2).toNatClampNeg ((t_sum (x2).toNatClampNeg) + (t_graph_weight (x1).toNatClampNeg)))) H := hP
  have hD : va_D A (wd_Sp_place cI cZ a_t a_t_graph a_t_graph_weight a_t_home a_t_sum a_t_bounds a_t_link a_t_graph_arcs t_cut t_over t_graph_size t_graph_weight (upd t_home (x1).toNatClampNeg x2) (upd t_sum (x2).toNatClampNeg ((t_sum (x2).toNatClampNeg) + (t_graph_weight (x1).toNatClampNeg)))) := hD
  cases hf
  exact W.vret hx hb hr (fun t ht hW => ⟨⟨(), rfl, trivial, pst_of ht hP hD⟩, hS.F ht⟩) hS.2.2 dd_Sp_place_25
abbrev wd_Sp_heaviestOutside (cI cZ : ClassId) (a_t a_t_graph a_t_graph_weight a_t_home a_t_bounds a_t_sum a_t_link a_t_graph_arcs : Nat) (t_cut : Int32) (t_over : Int32) (t_graph_size : Int32) (t_graph_weight : Nat → Int32) (t_home : Nat → Int32) : va_W := [(a_t, .inr (7, [.ref a_t_graph, .ref a_t_bounds, .ref a_t_home, .ref a_t_sum, .ref a_t_link, .int t_cut, .int t_over])), (a_t_graph, .inr (1, [.int t_graph_size, .ref a_t_graph_weight, .ref a_t_graph_arcs])), (a_t_graph_weight, .inl (cI, 40, .inl t_graph_weight)), (a_t_home, .inl (cI, 40, .inl t_home))]
set_option maxRecDepth 100000 in
set_option maxHeartbeats 4000000 in
theorem c_Sp_heaviestOutside (l : Launch) (dC : Nat → ClassId) (dI : Nat → Nat → Nat) (cI cZ : ClassId) (a_t a_t_graph a_t_graph_weight a_t_home a_t_bounds a_t_sum a_t_link a_t_graph_arcs sz : Nat) (t_cut : Int32) (t_over : Int32) (t_graph_size : Int32) (t_graph_weight : Nat → Int32) (t_home : Nat → Int32) (out : Int32) (hf : f_Sp_heaviestOutside t_graph_size t_graph_weight t_home = some out) :
    Met l yy_Sp_heaviestOutside wq_Sp_heaviestOutside ({ frames := 0, cells := 0, slots := 0, locals := 0 }) (va_Pc ([.ref a_t] : List Value) (pre_ (dC, dI) cI cZ sz (wd_Sp_heaviestOutside cI cZ a_t a_t_graph a_t_graph_weight a_t_home a_t_bounds a_t_sum a_t_link a_t_graph_arcs t_cut t_over t_graph_size t_graph_weight t_home))) (va_Qi (fun (r : Int32) (_ : Unit) => r = out) (fun _ => pst (dC, dI) (va_A (wd_Sp_heaviestOutside cI cZ a_t a_t_graph a_t_graph_weight a_t_home a_t_bounds a_t_sum a_t_link a_t_graph_arcs t_cut t_over t_graph_size t_graph_weight t_home) sz) (wd_Sp_heaviestOutside cI cZ a_t a_t_graph a_t_graph_weight a_t_home a_t_bounds a_t_sum a_t_link a_t_graph_arcs t_cut t_over t_graph_size t_graph_weight t_home)) (va_A (wd_Sp_heaviestOutside cI cZ a_t a_t_graph a_t_graph_weight a_t_home a_t_bounds a_t_sum a_t_link a_t_graph_arcs t_cut t_over t_graph_size t_graph_weight t_home) sz)) 0 0 (va_A (wd_Sp_heaviestOutside cI cZ a_t a_t_graph a_t_graph_weight a_t_home a_t_bounds a_t_sum a_t_link a_t_graph_arcs t_cut t_over t_graph_size t_graph_weight t_home) sz) := by
  refine Met.ofW (cc := cc_Sp_heaviestOutside) (maxL := 4) (ret := (some .int)) (by decide) rfl ?_
  intro p e s m args below meth c s₁ B hml hv
  obtain ⟨rfl, hsz, hP, hK, hD0, hN⟩ := hv
  have hx := B.exec
  have hb := B.bytes
  have hr := B.returns
  have hts := atoms_spec (ws := wq_Sp_heaviestOutside) B.pre
  have hown : s.vm.findClass rr_Sp = some m.cls := findClass_of_methodNamed B.named
  have hlocks := B.notSynchronized
  subst hsz
  have hD := hD0.self (sz := s.heap.size)
  generalize hAe : va_A (wd_Sp_heaviestOutside cI cZ a_t a_t_graph a_t_graph_weight a_t_home a_t_bounds a_t_sum a_t_link a_t_graph_arcs t_cut t_over t_graph_size t_graph_weight t_home) s.heap.size = A at hD ⊢
  have hA : ∀ q : Nat, s.heap.size ≤ q → A q := fun q h => by rw [← hAe]; exact Or.inr h
  obtain ⟨H, hH⟩ : ∃ H : Heap, H = s.heap := ⟨_, rfl⟩
  have hS : va_S A s.heap H [] := by rw [hH]; exact va_S.rf
  have hl := lv_entry (([.ref a_t] : List Value)) (n := 4) (Nat.le_of_ble_eq_true rfl)
  rw [lg_entry_eq]
  generalize (lg_sl (([.ref a_t] : List Value)) ++ List.replicate (4 - (lg_sl (([.ref a_t] : List Value))).length) Slot.unset).toArray = ls at hl ⊢
  have hl : lv_has ls 4 [(0, .ref a_t)] := hl
  rw [← hH] at hP ⊢
  have hP : va_P (dC, dI) clsL (wd_Sp_heaviestOutside cI cZ a_t a_t_graph a_t_graph_weight a_t_home a_t_bounds a_t_sum a_t_link a_t_graph_arcs t_cut t_over t_graph_size t_graph_weight t_home) H := hP
  unfold f_Sp_heaviestOutside at hf
  have h6 : ∀ (n6 : Nat) (x1 : Int32) (x2 : Int32) (x3 : Int32) (ls : Array Slot) (H : Heap) (locs : List Loc), L_Sp_heaviestOutside_6 t_graph_size t_graph_weight t_home n6 x1 x2 x3 = some out → lv_has ls 4 [(0, .ref a_t), (1, .int x1), (2, .int x2), (3, .int x3)] → va_P (dC, dI) clsL (wd_Sp_heaviestOutside cI cZ a_t a_t_graph a_t_graph_weight a_t_home a_t_bounds a_t_sum a_t_link a_t_graph_arcs t_cut t_over t_graph_size t_graph_weight t_home) H → va_D A (wd_Sp_heaviestOutside cI cZ a_t a_t_graph a_t_graph_weight a_t_home a_t_bounds a_t_sum a_t_link a_t_graph_arcs t_cut t_over t_graph_size t_graph_weight t_home) → va_S A s.heap H locs → W p l e (headSpec wq_Sp_heaviestOutside ({ frames := 0, cells := 0, slots := 0, locals := 0 })).room s m ([.ref a_t] : List Value).toArray below meth c H locs 0 0 (MQ below (va_Qi (fun (r : Int32) (_ : Unit) => r = out) (fun _ => pst (dC, dI) A (wd_Sp_heaviestOutside cI cZ a_t a_t_graph a_t_graph_weight a_t_home a_t_bounds a_t_sum a_t_link a_t_graph_arcs t_cut t_over t_graph_size t_graph_weight t_home)) A) ([.ref a_t] : List Value).toArray s 0 0 A) (F0 m 6 ls []) := by
    intro n6
    induction n6 with
    | zero =>
      intro x1 x2 x3 ls H locs hf
      rw [L_Sp_heaviestOutside_6] at hf
      exact absurd hf (fun h => by cases h)
    | succ n6 ih6 =>
      intro x1 x2 x3 ls H locs hf hl hP hD hS
      rw [L_Sp_heaviestOutside_6] at hf
      refine lv_iload_n hx hb dd_Sp_heaviestOutside_6 rfl (lv_at hl 3 rfl) ?_
      refine lv_aload_n hx hb dd_Sp_heaviestOutside_7 rfl (lv_at hl 0 rfl) ?_
      refine va_get (D := (dC, dI)) (ci := 7) (v := .ref a_t_graph) (C := rr_Sp) (T := tt_Sp) (N := 7) hx hb hts (fun w h => gwc (inn_Sp w h)) hown hK hP 0 rfl rfl 0 (by decide) (hts _ (gwc gw_133)) (fun _ h9 => h9) rfl dd_Sp_heaviestOutside_8 ?_
      refine va_get (D := (dC, dI)) (ci := 1) (v := .int t_graph_size) (C := rr_Gr) (T := tt_Gr) (N := 3) hx hb hts (fun w h => gwc (inn_Gr w h)) hown hK hP 1 rfl rfl 0 (by decide) (hts _ (gwc gw_88)) (fun _ h9 => h9) rfl dd_Sp_heaviestOutside_11 ?_
      refine lv_icmp_ge (tgt := 58) hx hb dd_Sp_heaviestOutside_14 (by decide) (fun cc => ?_) (fun cc => ?_)
      · skip
        have hf := if_t cc hf
        refine lv_iload_n hx hb dd_Sp_heaviestOutside_58 rfl (lv_at hl 1 rfl) ?_
        cases hf
        exact W.iret hx hb hr (fun t ht hW => ⟨⟨_, (), rfl, rfl, pst_of ht hP hD⟩, hS.F ht⟩) hS.2.2 dd_Sp_heaviestOutside_59
      · skip
        have hf := if_f cc hf
        refine lv_aload_n hx hb dd_Sp_heaviestOutside_17 rfl (lv_at hl 0 rfl) ?_
        refine va_get (D := (dC, dI)) (ci := 7) (v := .ref a_t_home) (C := rr_Sp) (T := tt_Sp) (N := 7) hx hb hts (fun w h => gwc (inn_Sp w h)) hown hK hP 0 rfl rfl 2 (by decide) (hts _ (gwc gw_142)) (fun _ h9 => h9) rfl dd_Sp_heaviestOutside_18 ?_
        refine lv_iload_n hx hb dd_Sp_heaviestOutside_21 rfl (lv_at hl 3 rfl) ?_
        obtain ⟨k22, hf⟩ := ck_some hf
        refine va_iald hx hb hK hP 3 0 rfl rfl (okb_in k22) dd_Sp_heaviestOutside_22 ?_
        refine lv_iconst (v := -1) hx hb dd_Sp_heaviestOutside_23 (by decide) ?_
        refine lv_icmp_ne (tgt := 52) hx hb dd_Sp_heaviestOutside_24 (by decide) (fun cc => ?_) (fun cc => ?_)
        · skip
          have hf := if_f cc hf
          refine lv_iinc (v := x3 + 1) (lv' := [(3, .int (x3 + 1)), (0, .ref a_t), (1, .int x1), (2, .int x2)]) hx hb dd_Sp_heaviestOutside_52 hl (k := 3) rfl rfl (by decide) rfl (fun ls hl => ?_)
          refine lv_goto (tgt := 6) hx hb dd_Sp_heaviestOutside_55 (by decide) ?_
          exact ih6 x1 x2 (x3 + 1) _ _ _ hf (lv_sub hl [1, 2, 3, 0] rfl) hP hD hS
        · skip
          have hf := if_t cc hf
          refine lv_aload_n hx hb dd_Sp_heaviestOutside_27 rfl (lv_at hl 0 rfl) ?_
          refine va_get (D := (dC, dI)) (ci := 7) (v := .ref a_t_graph) (C := rr_Sp) (T := tt_Sp) (N := 7) hx hb hts (fun w h => gwc (inn_Sp w h)) hown hK hP 0 rfl rfl 0 (by decide) (hts _ (gwc gw_133)) (fun _ h9 => h9) rfl dd_Sp_heaviestOutside_28 ?_
          refine va_get (D := (dC, dI)) (ci := 1) (v := .ref a_t_graph_weight) (C := rr_Gr) (T := tt_Gr) (N := 3) hx hb hts (fun w h => gwc (inn_Gr w h)) hown hK hP 1 rfl rfl 1 (by decide) (hts _ (gwc gw_94)) (fun _ h9 => h9) rfl dd_Sp_heaviestOutside_31 ?_
          refine lv_iload_n hx hb dd_Sp_heaviestOutside_34 rfl (lv_at hl 3 rfl) ?_
          obtain ⟨k35, hf⟩ := ck_some hf
          refine va_iald hx hb hK hP 2 0 rfl rfl (okb_in k35) dd_Sp_heaviestOutside_35 ?_
          refine lv_iload_n hx hb dd_Sp_heaviestOutside_36 rfl (lv_at hl 2 rfl) ?_
          refine lv_icmp_le (tgt := 52) hx hb dd_Sp_heaviestOutside_37 (by decide) (fun cc => ?_) (fun cc => ?_)
          · skip
            have hf := if_t cc hf
            refine lv_iinc (v := x3 + 1) (lv' := [(3, .int (x3 + 1)), (0, .ref a_t), (1, .int x1), (2, .int x2)]) hx hb dd_Sp_heaviestOutside_52 hl (k := 3) rfl rfl (by decide) rfl (fun ls hl => ?_)
            refine lv_goto (tgt := 6) hx hb dd_Sp_heaviestOutside_55 (by decide) ?_
            exact ih6 x1 x2 (x3 + 1) _ _ _ hf (lv_sub hl [1, 2, 3, 0] rfl) hP hD hS
          · skip
            have hf := if_f cc hf
            refine lv_iload_n hx hb dd_Sp_heaviestOutside_40 rfl (lv_at hl 3 rfl) ?_
            refine lv_istore_n (lv' := [(1, .int x3), (0, .ref a_t), (2, .int x2), (3, .int x3)]) hx hb dd_Sp_heaviestOutside_41 rfl hl (by decide) rfl (fun ls hl => ?_)
            refine lv_aload_n hx hb dd_Sp_heaviestOutside_42 rfl (lv_at hl 1 rfl) ?_
            refine va_get (D := (dC, dI)) (ci := 7) (v := .ref a_t_graph) (C := rr_Sp) (T := tt_Sp) (N := 7) hx hb hts (fun w h => gwc (inn_Sp w h)) hown hK hP 0 rfl rfl 0 (by decide) (hts _ (gwc gw_133)) (fun _ h9 => h9) rfl dd_Sp_heaviestOutside_43 ?_
            refine va_get (D := (dC, dI)) (ci := 1) (v := .ref a_t_graph_weight) (C := rr_Gr) (T := tt_Gr) (N := 3) hx hb hts (fun w h => gwc (inn_Gr w h)) hown hK hP 1 rfl rfl 1 (by decide) (hts _ (gwc gw_94)) (fun _ h9 => h9) rfl dd_Sp_heaviestOutside_46 ?_
            refine lv_iload_n hx hb dd_Sp_heaviestOutside_49 rfl (lv_at hl 3 rfl) ?_
            obtain ⟨k50, hf⟩ := ck_some hf
            refine va_iald hx hb hK hP 2 0 rfl rfl (okb_in k50) dd_Sp_heaviestOutside_50 ?_
            refine lv_istore_n (lv' := [(2, .int (t_graph_weight (x3).toNatClampNeg)), (1, .int x3), (0, .ref a_t), (3, .int x3)]) hx hb dd_Sp_heaviestOutside_51 rfl hl (by decide) rfl (fun ls hl => ?_)
            refine lv_iinc (v := x3 + 1) (lv' := [(3, .int (x3 + 1)), (2, .int (t_graph_weight (x3).toNatClampNeg)), (1, .int x3), (0, .ref a_t)]) hx hb dd_Sp_heaviestOutside_52 hl (k := 3) rfl rfl (by decide) rfl (fun ls hl => ?_)
            refine lv_goto (tgt := 6) hx hb dd_Sp_heaviestOutside_55 (by decide) ?_
            exact ih6 x3 (t_graph_weight (x3).toNatClampNeg) (x3 + 1) _ _ _ hf (lv_sub hl [3, 2, 1, 0] rfl) hP hD hS
  refine lv_iconst (v := 0) hx hb dd_Sp_heaviestOutside_0 (by decide) ?_
  refine lv_istore_n (lv' := [(1, .int 0), (0, .ref a_t)]) hx hb dd_Sp_heaviestOutside_1 rfl hl (by decide) rfl (fun ls hl => ?_)
  refine lv_iconst (v := 0) hx hb dd_Sp_heaviestOutside_2 (by decide) ?_
  refine lv_istore_n (lv' := [(2, .int 0), (1, .int 0), (0, .ref a_t)]) hx hb dd_Sp_heaviestOutside_3 rfl hl (by decide) rfl (fun ls hl => ?_)
  refine lv_iconst (v := 0) hx hb dd_Sp_heaviestOutside_4 (by decide) ?_
  refine lv_istore_n (lv' := [(3, .int 0), (2, .int 0), (1, .int 0), (0, .ref a_t)]) hx hb dd_Sp_heaviestOutside_5 rfl hl (by decide) rfl (fun ls hl => ?_)
  exact h6 64 0 0 0 _ _ _ hf (lv_sub hl [3, 2, 1, 0] rfl) hP hD hS
abbrev wd_Sp_roomiestPart (cI cZ : ClassId) (a_t a_t_bounds a_t_bounds_most a_t_sum a_t_graph a_t_home a_t_link a_t_bounds_least : Nat) (t_cut : Int32) (t_over : Int32) (t_bounds_k : Int32) (t_bounds_most : Nat → Int32) (t_sum : Nat → Int32) : va_W := [(a_t, .inr (7, [.ref a_t_graph, .ref a_t_bounds, .ref a_t_home, .ref a_t_sum, .ref a_t_link, .int t_cut, .int t_over])), (a_t_bounds, .inr (0, [.int t_bounds_k, .ref a_t_bounds_least, .ref a_t_bounds_most])), (a_t_bounds_most, .inl (cI, 4, .inl t_bounds_most)), (a_t_sum, .inl (cI, 4, .inl t_sum))]
set_option maxRecDepth 100000 in
set_option maxHeartbeats 4000000 in
theorem c_Sp_roomiestPart (l : Launch) (dC : Nat → ClassId) (dI : Nat → Nat → Nat) (cI cZ : ClassId) (a_t a_t_bounds a_t_bounds_most a_t_sum a_t_graph a_t_home a_t_link a_t_bounds_least sz : Nat) (t_cut : Int32) (t_over : Int32) (t_bounds_k : Int32) (t_bounds_most : Nat → Int32) (t_sum : Nat → Int32) (out : Int32) (hf : f_Sp_roomiestPart t_bounds_k t_bounds_most t_sum = some out) :
    Met l yy_Sp_roomiestPart wq_Sp_roomiestPart ({ frames := 0, cells := 0, slots := 0, locals := 0 }) (va_Pc ([.ref a_t] : List Value) (pre_ (dC, dI) cI cZ sz (wd_Sp_roomiestPart cI cZ a_t a_t_bounds a_t_bounds_most a_t_sum a_t_graph a_t_home a_t_link a_t_bounds_least t_cut t_over t_bounds_k t_bounds_most t_sum))) (va_Qi (fun (r : Int32) (_ : Unit) => r = out) (fun _ => pst (dC, dI) (va_A (wd_Sp_roomiestPart cI cZ a_t a_t_bounds a_t_bounds_most a_t_sum a_t_graph a_t_home a_t_link a_t_bounds_least t_cut t_over t_bounds_k t_bounds_most t_sum) sz) (wd_Sp_roomiestPart cI cZ a_t a_t_bounds a_t_bounds_most a_t_sum a_t_graph a_t_home a_t_link a_t_bounds_least t_cut t_over t_bounds_k t_bounds_most t_sum)) (va_A (wd_Sp_roomiestPart cI cZ a_t a_t_bounds a_t_bounds_most a_t_sum a_t_graph a_t_home a_t_link a_t_bounds_least t_cut t_over t_bounds_k t_bounds_most t_sum) sz)) 0 0 (va_A (wd_Sp_roomiestPart cI cZ a_t a_t_bounds a_t_bounds_most a_t_sum a_t_graph a_t_home a_t_link a_t_bounds_least t_cut t_over t_bounds_k t_bounds_most t_sum) sz) := by
  refine Met.ofW (cc := cc_Sp_roomiestPart) (maxL := 3) (ret := (some .int)) (by decide) rfl ?_
  intro p e s m args below meth c s₁ B hml hv
  obtain ⟨rfl, hsz, hP, hK, hD0, hN⟩ := hv
  have hx := B.exec
  have hb := B.bytes
  have hr := B.returns
  have hts := atoms_spec (ws := wq_Sp_roomiestPart) B.pre
  have hown : s.vm.findClass rr_Sp = some m.cls := findClass_of_methodNamed B.named
  have hlocks := B.notSynchronized
  subst hsz
  have hD := hD0.self (sz := s.heap.size)
  generalize hAe : va_A (wd_Sp_roomiestPart cI cZ a_t a_t_bounds a_t_bounds_most a_t_sum a_t_graph a_t_home a_t_link a_t_bounds_least t_cut t_over t_bounds_k t_bounds_most t_sum) s.heap.size = A at hD ⊢
  have hA : ∀ q : Nat, s.heap.size ≤ q → A q := fun q h => by rw [← hAe]; exact Or.inr h
  obtain ⟨H, hH⟩ : ∃ H : Heap, H = s.heap := ⟨_, rfl⟩
  have hS : va_S A s.heap H [] := by rw [hH]; exact va_S.rf
  have hl := lv_entry (([.ref a_t] : List Value)) (n := 3) (Nat.le_of_ble_eq_true rfl)
  rw [lg_entry_eq]
  generalize (lg_sl (([.ref a_t] : List Value)) ++ List.replicate (3 - (lg_sl (([.ref a_t] : List Value))).length) Slot.unset).toArray = ls at hl ⊢
  have hl : lv_has ls 3 [(0, .ref a_t)] := hl
  rw [← hH] at hP ⊢
  have hP : va_P (dC, dI) clsL (wd_Sp_roomiestPart cI cZ a_t a_t_bounds a_t_bounds_most a_t_sum a_t_graph a_t_home a_t_link a_t_bounds_least t_cut t_over t_bounds_k t_bounds_most t_sum) H := hP
  unfold f_Sp_roomiestPart at hf
  have h4 : ∀ (n4 : Nat) (x1 : Int32) (x2 : Int32) (ls : Array Slot) (H : Heap) (locs : List Loc), L_Sp_roomiestPart_4 t_bounds_k t_bounds_most t_sum n4 x1 x2 = some out → lv_has ls 3 [(0, .ref a_t), (1, .int x1), (2, .int x2)] → va_P (dC, dI) clsL (wd_Sp_roomiestPart cI cZ a_t a_t_bounds a_t_bounds_most a_t_sum a_t_graph a_t_home a_t_link a_t_bounds_least t_cut t_over t_bounds_k t_bounds_most t_sum) H → va_D A (wd_Sp_roomiestPart cI cZ a_t a_t_bounds a_t_bounds_most a_t_sum a_t_graph a_t_home a_t_link a_t_bounds_least t_cut t_over t_bounds_k t_bounds_most t_sum) → va_S A s.heap H locs → W p l e (headSpec wq_Sp_roomiestPart ({ frames := 0, cells := 0, slots := 0, locals := 0 })).room s m ([.ref a_t] : List Value).toArray below meth c H locs 0 0 (MQ below (va_Qi (fun (r : Int32) (_ : Unit) => r = out) (fun _ => pst (dC, dI) A (wd_Sp_roomiestPart cI cZ a_t a_t_bounds a_t_bounds_most a_t_sum a_t_graph a_t_home a_t_link a_t_bounds_least t_cut t_over t_bounds_k t_bounds_most t_sum)) A) ([.ref a_t] : List Value).toArray s 0 0 A) (F0 m 4 ls []) := by
    intro n4
    induction n4 with
    | zero =>
      intro x1 x2 ls H locs hf
      rw [L_Sp_roomiestPart_4] at hf
      exact absurd hf (fun h => by cases h)
    | succ n4 ih4 =>
      intro x1 x2 ls H locs hf hl hP hD hS
      rw [L_Sp_roomiestPart_4] at hf
      refine lv_iload_n hx hb dd_Sp_roomiestPart_4 rfl (lv_at hl 2 rfl) ?_
      refine lv_aload_n hx hb dd_Sp_roomiestPart_5 rfl (lv_at hl 0 rfl) ?_
      refine va_get (D := (dC, dI)) (ci := 7) (v := .ref a_t_bounds) (C := rr_Sp) (T := tt_Sp) (N := 7) hx hb hts (fun w h => gwc (inn_Sp w h)) hown hK hP 0 rfl rfl 1 (by decide) (hts _ (gwc gw_138)) (fun _ h9 => h9) rfl dd_Sp_roomiestPart_6 ?_
      refine va_get (D := (dC, dI)) (ci := 0) (v := .int t_bounds_k) (C := rr_Bo) (T := tt_Bo) (N := 3) hx hb hts (fun w h => gwc (inn_Bo w h)) hown hK hP 1 rfl rfl 0 (by decide) (hts _ (gwc gw_115)) (fun _ h9 => h9) rfl dd_Sp_roomiestPart_9 ?_
      refine lv_icmp_ge (tgt := 58) hx hb dd_Sp_roomiestPart_12 (by decide) (fun cc => ?_) (fun cc => ?_)
      · skip
        have hf := if_t cc hf
        refine lv_iload_n hx hb dd_Sp_roomiestPart_58 rfl (lv_at hl 1 rfl) ?_
        cases hf
        exact W.iret hx hb hr (fun t ht hW => ⟨⟨_, (), rfl, rfl, pst_of ht hP hD⟩, hS.F ht⟩) hS.2.2 dd_Sp_roomiestPart_59
      · skip
        have hf := if_f cc hf
        refine lv_aload_n hx hb dd_Sp_roomiestPart_15 rfl (lv_at hl 0 rfl) ?_
        refine va_get (D := (dC, dI)) (ci := 7) (v := .ref a_t_bounds) (C := rr_Sp) (T := tt_Sp) (N := 7) hx hb hts (fun w h => gwc (inn_Sp w h)) hown hK hP 0 rfl rfl 1 (by decide) (hts _ (gwc gw_138)) (fun _ h9 => h9) rfl dd_Sp_roomiestPart_16 ?_
        refine va_get (D := (dC, dI)) (ci := 0) (v := .ref a_t_bounds_most) (C := rr_Bo) (T := tt_Bo) (N := 3) hx hb hts (fun w h => gwc (inn_Bo w h)) hown hK hP 1 rfl rfl 2 (by decide) (hts _ (gwc gw_125)) (fun _ h9 => h9) rfl dd_Sp_roomiestPart_19 ?_
        refine lv_iload_n hx hb dd_Sp_roomiestPart_22 rfl (lv_at hl 2 rfl) ?_
        obtain ⟨k23, hf⟩ := ck_some hf
        refine va_iald hx hb hK hP 2 0 rfl rfl (okb_in k23) dd_Sp_roomiestPart_23 ?_
        refine lv_aload_n hx hb dd_Sp_roomiestPart_24 rfl (lv_at hl 0 rfl) ?_
        refine va_get (D := (dC, dI)) (ci := 7) (v := .ref a_t_sum) (C := rr_Sp) (T := tt_Sp) (N := 7) hx hb hts (fun w h => gwc (inn_Sp w h)) hown hK hP 0 rfl rfl 3 (by decide) (hts _ (gwc gw_147)) (fun _ h9 => h9) rfl dd_Sp_roomiestPart_25 ?_
        refine lv_iload_n hx hb dd_Sp_roomiestPart_28 rfl (lv_at hl 2 rfl) ?_
        obtain ⟨k29, hf⟩ := ck_some hf
        refine va_iald hx hb hK hP 3 0 rfl rfl (okb_in k29) dd_Sp_roomiestPart_29 ?_
        refine lv_isub hx hb dd_Sp_roomiestPart_30 ?_
        refine lv_aload_n hx hb dd_Sp_roomiestPart_31 rfl (lv_at hl 0 rfl) ?_
        refine va_get (D := (dC, dI)) (ci := 7) (v := .ref a_t_bounds) (C := rr_Sp) (T := tt_Sp) (N := 7) hx hb hts (fun w h => gwc (inn_Sp w h)) hown hK hP 0 rfl rfl 1 (by decide) (hts _ (gwc gw_138)) (fun _ h9 => h9) rfl dd_Sp_roomiestPart_32 ?_
        refine va_get (D := (dC, dI)) (ci := 0) (v := .ref a_t_bounds_most) (C := rr_Bo) (T := tt_Bo) (N := 3) hx hb hts (fun w h => gwc (inn_Bo w h)) hown hK hP 1 rfl rfl 2 (by decide) (hts _ (gwc gw_125)) (fun _ h9 => h9) rfl dd_Sp_roomiestPart_35 ?_
        refine lv_iload_n hx hb dd_Sp_roomiestPart_38 rfl (lv_at hl 1 rfl) ?_
        obtain ⟨k39, hf⟩ := ck_some hf
        refine va_iald hx hb hK hP 2 0 rfl rfl (okb_in k39) dd_Sp_roomiestPart_39 ?_
        refine lv_aload_n hx hb dd_Sp_roomiestPart_40 rfl (lv_at hl 0 rfl) ?_
        refine va_get (D := (dC, dI)) (ci := 7) (v := .ref a_t_sum) (C := rr_Sp) (T := tt_Sp) (N := 7) hx hb hts (fun w h => gwc (inn_Sp w h)) hown hK hP 0 rfl rfl 3 (by decide) (hts _ (gwc gw_147)) (fun _ h9 => h9) rfl dd_Sp_roomiestPart_41 ?_
        refine lv_iload_n hx hb dd_Sp_roomiestPart_44 rfl (lv_at hl 1 rfl) ?_
        obtain ⟨k45, hf⟩ := ck_some hf
        refine va_iald hx hb hK hP 3 0 rfl rfl (okb_in k45) dd_Sp_roomiestPart_45 ?_
        refine lv_isub hx hb dd_Sp_roomiestPart_46 ?_
        refine lv_icmp_le (tgt := 52) hx hb dd_Sp_roomiestPart_47 (by decide) (fun cc => ?_) (fun cc => ?_)
        · skip
          have hf := if_t cc hf
          refine lv_iinc (v := x2 + 1) (lv' := [(2, .int (x2 + 1)), (0, .ref a_t), (1, .int x1)]) hx hb dd_Sp_roomiestPart_52 hl (k := 2) rfl rfl (by decide) rfl (fun ls hl => ?_)
          refine lv_goto (tgt := 4) hx hb dd_Sp_roomiestPart_55 (by decide) ?_
          exact ih4 x1 (x2 + 1) _ _ _ hf (lv_sub hl [1, 2, 0] rfl) hP hD hS
        · skip
          have hf := if_f cc hf
          refine lv_iload_n hx hb dd_Sp_roomiestPart_50 rfl (lv_at hl 2 rfl) ?_
          refine lv_istore_n (lv' := [(1, .int x2), (0, .ref a_t), (2, .int x2)]) hx hb dd_Sp_roomiestPart_51 rfl hl (by decide) rfl (fun ls hl => ?_)
          refine lv_iinc (v := x2 + 1) (lv' := [(2, .int (x2 + 1)), (1, .int x2), (0, .ref a_t)]) hx hb dd_Sp_roomiestPart_52 hl (k := 2) rfl rfl (by decide) rfl (fun ls hl => ?_)
          refine lv_goto (tgt := 4) hx hb dd_Sp_roomiestPart_55 (by decide) ?_
          exact ih4 x2 (x2 + 1) _ _ _ hf (lv_sub hl [2, 1, 0] rfl) hP hD hS
  refine lv_iconst (v := 0) hx hb dd_Sp_roomiestPart_0 (by decide) ?_
  refine lv_istore_n (lv' := [(1, .int 0), (0, .ref a_t)]) hx hb dd_Sp_roomiestPart_1 rfl hl (by decide) rfl (fun ls hl => ?_)
  refine lv_iconst (v := 1) hx hb dd_Sp_roomiestPart_2 (by decide) ?_
  refine lv_istore_n (lv' := [(2, .int 1), (1, .int 0), (0, .ref a_t)]) hx hb dd_Sp_roomiestPart_3 rfl hl (by decide) rfl (fun ls hl => ?_)
  exact h4 64 0 1 _ _ _ hf (lv_sub hl [2, 1, 0] rfl) hP hD hS
abbrev wd_Sp_growAll (cI cZ : ClassId) (a_t a_t_bounds a_t_bounds_most a_t_graph a_t_graph_weight a_t_home a_t_sum a_t_link a_t_bounds_least a_t_graph_arcs : Nat) (t_cut : Int32) (t_over : Int32) (t_bounds_k : Int32) (t_bounds_most : Nat → Int32) (t_graph_size : Int32) (t_graph_weight : Nat → Int32) (t_home : Nat → Int32) (t_sum : Nat → Int32) : va_W := [(a_t, .inr (7, [.ref a_t_graph, .ref a_t_bounds, .ref a_t_home, .ref a_t_sum, .ref a_t_link, .int t_cut, .int t_over])), (a_t_bounds, .inr (0, [.int t_bounds_k, .ref a_t_bounds_least, .ref a_t_bounds_most])), (a_t_bounds_most, .inl (cI, 4, .inl t_bounds_most)), (a_t_graph, .inr (1, [.int t_graph_size, .ref a_t_graph_weight, .ref a_t_graph_arcs])), (a_t_graph_weight, .inl (cI, 40, .inl t_graph_weight)), (a_t_home, .inl (cI, 40, .inl t_home)), (a_t_sum, .inl (cI, 4, .inl t_sum))]
set_option maxRecDepth 100000 in
set_option maxHeartbeats 4000000 in
theorem c_Sp_growAll (l : Launch) (dC : Nat → ClassId) (dI : Nat → Nat → Nat) (cI cZ : ClassId) (a_t a_t_bounds a_t_bounds_most a_t_graph a_t_graph_weight a_t_home a_t_sum a_t_link a_t_bounds_least a_t_graph_arcs sz : Nat) (t_cut : Int32) (t_over : Int32) (t_bounds_k : Int32) (t_bounds_most : Nat → Int32) (t_graph_size : Int32) (t_graph_weight : Nat → Int32) (t_home : Nat → Int32) (t_sum : Nat → Int32) (out : (Nat → Int32) × (Nat → Int32)) (hf : f_Sp_growAll t_bounds_k t_bounds_most t_graph_size t_graph_weight = some out) :
    Met l yy_Sp_growAll wq_Sp_growAll ({ frames := 2, cells := 0, slots := 0, locals := 43 }) (va_Pc ([.ref a_t] : List Value) (pre_ (dC, dI) cI cZ sz (wd_Sp_growAll cI cZ a_t a_t_bounds a_t_bounds_most a_t_graph a_t_graph_weight a_t_home a_t_sum a_t_link a_t_bounds_least a_t_graph_arcs t_cut t_over t_bounds_k t_bounds_most t_graph_size t_graph_weight t_home t_sum))) (va_Qv (fun _ : Unit => True) (fun _ => pst (dC, dI) (va_A (wd_Sp_growAll cI cZ a_t a_t_bounds a_t_bounds_most a_t_graph a_t_graph_weight a_t_home a_t_sum a_t_link a_t_bounds_least a_t_graph_arcs t_cut t_over t_bounds_k t_bounds_most t_graph_size t_graph_weight t_home t_sum) sz) (wd_Sp_growAll cI cZ a_t a_t_bounds a_t_bounds_most a_t_graph a_t_graph_weight a_t_home a_t_sum a_t_link a_t_bounds_least a_t_graph_arcs t_cut t_over t_bounds_k t_bounds_most t_graph_size t_graph_weight out.1 out.2)) (va_A (wd_Sp_growAll cI cZ a_t a_t_bounds a_t_bounds_most a_t_graph a_t_graph_weight a_t_home a_t_sum a_t_link a_t_bounds_least a_t_graph_arcs t_cut t_over t_bounds_k t_bounds_most t_graph_size t_graph_weight t_home t_sum) sz)) 0 0 (va_A (wd_Sp_growAll cI cZ a_t a_t_bounds a_t_bounds_most a_t_graph a_t_graph_weight a_t_home a_t_sum a_t_link a_t_bounds_least a_t_graph_arcs t_cut t_over t_bounds_k t_bounds_most t_graph_size t_graph_weight t_home t_sum) sz) := by
  refine Met.ofW (cc := cc_Sp_growAll) (maxL := 2) (ret := none) (by decide) rfl ?_
  intro p e s m args below meth c s₁ B hml hv
  obtain ⟨rfl, hsz, hP, hK, hD0, hN⟩ := hv
  have hx := B.exec
  have hb := B.bytes
  have hr := B.returns
  have hts := atoms_spec (ws := wq_Sp_growAll) B.pre
  have hown : s.vm.findClass rr_Sp = some m.cls := findClass_of_methodNamed B.named
  have hlocks := B.notSynchronized
  subst hsz
  have hD := hD0.self (sz := s.heap.size)
  generalize hAe : va_A (wd_Sp_growAll cI cZ a_t a_t_bounds a_t_bounds_most a_t_graph a_t_graph_weight a_t_home a_t_sum a_t_link a_t_bounds_least a_t_graph_arcs t_cut t_over t_bounds_k t_bounds_most t_graph_size t_graph_weight t_home t_sum) s.heap.size = A at hD ⊢
  have hA : ∀ q : Nat, s.heap.size ≤ q → A q := fun q h => by rw [← hAe]; exact Or.inr h
  obtain ⟨H, hH⟩ : ∃ H : Heap, H = s.heap := ⟨_, rfl⟩
  have hS : va_S A s.heap H [] := by rw [hH]; exact va_S.rf
  have hl := lv_entry (([.ref a_t] : List Value)) (n := 2) (Nat.le_of_ble_eq_true rfl)
  rw [lg_entry_eq]
  generalize (lg_sl (([.ref a_t] : List Value)) ++ List.replicate (2 - (lg_sl (([.ref a_t] : List Value))).length) Slot.unset).toArray = ls at hl ⊢
  have hl : lv_has ls 2 [(0, .ref a_t)] := hl
  rw [← hH] at hP ⊢
  have hP : va_P (dC, dI) clsL (wd_Sp_growAll cI cZ a_t a_t_bounds a_t_bounds_most a_t_graph a_t_graph_weight a_t_home a_t_sum a_t_link a_t_bounds_least a_t_graph_arcs t_cut t_over t_bounds_k t_bounds_most t_graph_size t_graph_weight t_home t_sum) H := hP
  unfold f_Sp_growAll at hf
  have h6 : ∀ (n6 : Nat) (x1 : Int32) (t_home : Nat → Int32) (t_sum : Nat → Int32) (ls : Array Slot) (H : Heap) (locs : List Loc), L_Sp_growAll_6 t_bounds_k t_bounds_most t_graph_size t_graph_weight n6 x1 t_home t_sum = some out → lv_has ls 2 [(0, .ref a_t), (1, .int x1)] → va_P (dC, dI) clsL (wd_Sp_growAll cI cZ a_t a_t_bounds a_t_bounds_most a_t_graph a_t_graph_weight a_t_home a_t_sum a_t_link a_t_bounds_least a_t_graph_arcs t_cut t_over t_bounds_k t_bounds_most t_graph_size t_graph_weight t_home t_sum) H → va_D A (wd_Sp_growAll cI cZ a_t a_t_bounds a_t_bounds_most a_t_graph a_t_graph_weight a_t_home a_t_sum a_t_link a_t_bounds_least a_t_graph_arcs t_cut t_over t_bounds_k t_bounds_most t_graph_size t_graph_weight t_home t_sum) → va_S A s.heap H locs → W p l e (headSpec wq_Sp_growAll ({ frames := 2, cells := 0, slots := 0, locals := 43 })).room s m ([.ref a_t] : List Value).toArray below meth c H locs 0 0 (MQ below (va_Qv (fun _ : Unit => True) (fun _ => pst (dC, dI) A (wd_Sp_growAll cI cZ a_t a_t_bounds a_t_bounds_most a_t_graph a_t_graph_weight a_t_home a_t_sum a_t_link a_t_bounds_least a_t_graph_arcs t_cut t_over t_bounds_k t_bounds_most t_graph_size t_graph_weight out.1 out.2)) A) ([.ref a_t] : List Value).toArray s 0 0 A) (F0 m 6 ls []) := by
    intro n6
    induction n6 with
    | zero =>
      intro x1 t_home t_sum ls H locs hf
      rw [L_Sp_growAll_6] at hf
      exact absurd hf (fun h => by cases h)
    | succ n6 ih6 =>
      intro x1 t_home t_sum ls H locs hf hl hP hD hS
      rw [L_Sp_growAll_6] at hf
      refine lv_iload_n hx hb dd_Sp_growAll_6 rfl (lv_at hl 1 rfl) ?_
      refine lv_aload_n hx hb dd_Sp_growAll_7 rfl (lv_at hl 0 rfl) ?_
      refine va_get (D := (dC, dI)) (ci := 7) (v := .ref a_t_graph) (C := rr_Sp) (T := tt_Sp) (N := 7) hx hb hts (fun w h => gwc (inn_Sp w h)) hown hK hP 0 rfl rfl 0 (by decide) (hts _ (gwc gw_133)) (fun _ h9 => h9) rfl dd_Sp_growAll_8 ?_
      refine va_get (D := (dC, dI)) (ci := 1) (v := .int t_graph_size) (C := rr_Gr) (T := tt_Gr) (N := 3) hx hb hts (fun w h => gwc (inn_Gr w h)) hown hK hP 3 rfl rfl 0 (by decide) (hts _ (gwc gw_88)) (fun _ h9 => h9) rfl dd_Sp_growAll_11 ?_
      refine lv_icmp_ge (tgt := 35) hx hb dd_Sp_growAll_14 (by decide) (fun cc => ?_) (fun cc => ?_)
      · skip
        have hf := if_t cc hf
        cases hf
        exact W.vret hx hb hr (fun t ht hW => ⟨⟨(), rfl, trivial, pst_of ht hP hD⟩, hS.F ht⟩) hS.2.2 dd_Sp_growAll_35
      · skip
        have hf := if_f cc hf
        refine lv_aload_n hx hb dd_Sp_growAll_17 rfl (lv_at hl 0 rfl) ?_
        refine lv_aload_n hx hb dd_Sp_growAll_18 rfl (lv_at hl 0 rfl) ?_
        obtain ⟨r19, hr19, hf⟩ := bind_some hf
        refine xcalli (rest := [.ref a_t]) (wc := (wd_Sp_heaviestOutside cI cZ a_t a_t_graph a_t_graph_weight a_t_home a_t_bounds a_t_sum a_t_link a_t_graph_arcs t_cut t_over t_graph_size t_graph_weight t_home)) (w1 := (wd_Sp_heaviestOutside cI cZ a_t a_t_graph a_t_graph_weight a_t_home a_t_bounds a_t_sum a_t_link a_t_graph_arcs t_cut t_over t_graph_size t_graph_weight t_home)) (wr := [(a_t_bounds, .inr (0, [.int t_bounds_k, .ref a_t_bounds_least, .ref a_t_bounds_most])), (a_t_bounds_most, .inl (cI, 4, .inl t_bounds_most)), (a_t_sum, .inl (cI, 4, .inl t_sum))]) (ws' := (wd_Sp_growAll cI cZ a_t a_t_bounds a_t_bounds_most a_t_graph a_t_graph_weight a_t_home a_t_sum a_t_link a_t_bounds_least a_t_graph_arcs t_cut t_over t_bounds_k t_bounds_most t_graph_size t_graph_weight t_home t_sum)) (va_runV (As := []) ⟨hx, hb, hml, hown, hts⟩ (c_Sp_heaviestOutside l dC dI cI cZ a_t a_t_graph a_t_graph_weight a_t_home a_t_bounds a_t_sum a_t_link a_t_graph_arcs H.size t_cut t_over t_graph_size t_graph_weight t_home r19 hr19) (cwV 0 hts (gV gw_528 gw_530 gw_12 gw_53 gw_531) rfl rfl rfl (yd_Sp_heaviestOutside) ⟨Nat.le_of_ble_eq_true rfl, Nat.le_of_ble_eq_true rfl⟩) (mkV hK (hP.sub (ws' := (wd_Sp_heaviestOutside cI cZ a_t a_t_graph a_t_graph_weight a_t_home a_t_bounds a_t_sum a_t_link a_t_graph_arcs t_cut t_over t_graph_size t_graph_weight t_home)) [0, 3, 4, 5] rfl) (hD.sub (ws' := (wd_Sp_heaviestOutside cI cZ a_t a_t_graph a_t_graph_weight a_t_home a_t_bounds a_t_sum a_t_link a_t_graph_arcs t_cut t_over t_graph_size t_graph_weight t_home)) [0, 3, 4, 5] (by decide) rfl) hN (va_recv hK hP (ci := 7) (q0 := 0) rfl rfl)) rfl rfl hl.1 rfl (lv_room (Nat.le_of_ble_eq_true rfl)) dd_Sp_growAll_19 ⟨Nat.zero_le _, Nat.zero_le _⟩) hP hD hS hA [0, 3, 4, 5] [1, 2, 6] [3, 0, 1, 4, 5, 6, 2] rfl rfl (by decide) (by decide) rfl (by decide) rfl (fun H locs hP hD hS => ?_)
        refine lv_aload_n hx hb dd_Sp_growAll_22 rfl (lv_at hl 0 rfl) ?_
        obtain ⟨r23, hr23, hf⟩ := bind_some hf
        refine xcalli (rest := [.int r19, .ref a_t]) (wc := (wd_Sp_roomiestPart cI cZ a_t a_t_bounds a_t_bounds_most a_t_sum a_t_graph a_t_home a_t_link a_t_bounds_least t_cut t_over t_bounds_k t_bounds_most t_sum)) (w1 := (wd_Sp_roomiestPart cI cZ a_t a_t_bounds a_t_bounds_most a_t_sum a_t_graph a_t_home a_t_link a_t_bounds_least t_cut t_over t_bounds_k t_bounds_most t_sum)) (wr := [(a_t_graph, .inr (1, [.int t_graph_size, .ref a_t_graph_weight, .ref a_t_graph_arcs])), (a_t_graph_weight, .inl (cI, 40, .inl t_graph_weight)), (a_t_home, .inl (cI, 40, .inl t_home))]) (ws' := (wd_Sp_growAll cI cZ a_t a_t_bounds a_t_bounds_most a_t_graph a_t_graph_weight a_t_home a_t_sum a_t_link a_t_bounds_least a_t_graph_arcs t_cut t_over t_bounds_k t_bounds_most t_graph_size t_graph_weight t_home t_sum)) (va_runV (As := []) ⟨hx, hb, hml, hown, hts⟩ (c_Sp_roomiestPart l dC dI cI cZ a_t a_t_bounds a_t_bounds_most a_t_sum a_t_graph a_t_home a_t_link a_t_bounds_least H.size t_cut t_over t_bounds_k t_bounds_most t_sum r23 hr23) (cwV 0 hts (gV gw_532 gw_534 gw_13 gw_53 gw_535) rfl rfl rfl (yd_Sp_roomiestPart) ⟨Nat.le_of_ble_eq_true rfl, Nat.le_of_ble_eq_true rfl⟩) (mkV hK (hP.sub (ws' := (wd_Sp_roomiestPart cI cZ a_t a_t_bounds a_t_bounds_most a_t_sum a_t_graph a_t_home a_t_link a_t_bounds_least t_cut t_over t_bounds_k t_bounds_most t_sum)) [0, 1, 2, 6] rfl) (hD.sub (ws' := (wd_Sp_roomiestPart cI cZ a_t a_t_bounds a_t_bounds_most a_t_sum a_t_graph a_t_home a_t_link a_t_bounds_least t_cut t_over t_bounds_k t_bounds_most t_sum)) [0, 1, 2, 6] (by decide) rfl) hN (va_recv hK hP (ci := 7) (q0 := 0) rfl rfl)) rfl rfl hl.1 rfl (lv_room (Nat.le_of_ble_eq_true rfl)) dd_Sp_growAll_23 ⟨Nat.zero_le _, Nat.zero_le _⟩) hP hD hS hA [0, 1, 2, 6] [3, 4, 5] [3, 4, 5, 0, 1, 2, 6] rfl rfl (by decide) (by decide) rfl (by decide) rfl (fun H locs hP hD hS => ?_)
        obtain ⟨r26, hr26, hf⟩ := bind_some hf
        refine xcallv (rest := []) (wc := (wd_Sp_place cI cZ a_t a_t_graph a_t_graph_weight a_t_home a_t_sum a_t_bounds a_t_link a_t_graph_arcs t_cut t_over t_graph_size t_graph_weight t_home t_sum)) (w1 := (wd_Sp_place cI cZ a_t a_t_graph a_t_graph_weight a_t_home a_t_sum a_t_bounds a_t_link a_t_graph_arcs t_cut t_over t_graph_size t_graph_weight r26.1 r26.2)) (wr := [(a_t_bounds, .inr (0, [.int t_bounds_k, .ref a_t_bounds_least, .ref a_t_bounds_most])), (a_t_bounds_most, .inl (cI, 4, .inl t_bounds_most))]) (ws' := (wd_Sp_growAll cI cZ a_t a_t_bounds a_t_bounds_most a_t_graph a_t_graph_weight a_t_home a_t_sum a_t_link a_t_bounds_least a_t_graph_arcs t_cut t_over t_bounds_k t_bounds_most t_graph_size t_graph_weight r26.1 r26.2)) (va_runV (As := [.int r19, .int r23]) ⟨hx, hb, hml, hown, hts⟩ (c_Sp_place l dC dI cI cZ a_t a_t_graph a_t_graph_weight a_t_home a_t_sum a_t_bounds a_t_link a_t_graph_arcs H.size r19 r23 t_cut t_over t_graph_size t_graph_weight t_home t_sum r26 hr26) (cwV 2 hts (gV gw_536 gw_538 gw_14 gw_53 gw_539) rfl rfl rfl (yd_Sp_place) ⟨Nat.le_of_ble_eq_true rfl, Nat.le_of_ble_eq_true rfl⟩) (mkV hK (hP.sub (ws' := (wd_Sp_place cI cZ a_t a_t_graph a_t_graph_weight a_t_home a_t_sum a_t_bounds a_t_link a_t_graph_arcs t_cut t_over t_graph_size t_graph_weight t_home t_sum)) [0, 3, 4, 5, 6] rfl) (hD.sub (ws' := (wd_Sp_place cI cZ a_t a_t_graph a_t_graph_weight a_t_home a_t_sum a_t_bounds a_t_link a_t_graph_arcs t_cut t_over t_graph_size t_graph_weight t_home t_sum)) [0, 3, 4, 5, 6] (by decide) rfl) hN (va_recv hK hP (ci := 7) (q0 := 0) rfl rfl)) rfl rfl hl.1 rfl (lv_room (Nat.le_of_ble_eq_true rfl)) dd_Sp_growAll_26 ⟨Nat.zero_le _, Nat.zero_le _⟩) hP hD hS hA [0, 3, 4, 5, 6] [1, 2] [2, 0, 1, 3, 4, 5, 6] rfl rfl (by decide) (by decide) rfl (by decide) rfl (fun H locs hP hD hS => ?_)
        refine lv_iinc (v := x1 + 1) (lv' := [(1, .int (x1 + 1)), (0, .ref a_t)]) hx hb dd_Sp_growAll_29 hl (k := 1) rfl rfl (by decide) rfl (fun ls hl => ?_)
        refine lv_goto (tgt := 6) hx hb dd_Sp_growAll_32 (by decide) ?_
        exact ih6 (x1 + 1) r26.1 r26.2 _ _ _ hf (lv_sub hl [1, 0] rfl) hP hD hS
  refine lv_aload_n hx hb dd_Sp_growAll_0 rfl (lv_at hl 0 rfl) ?_
  obtain ⟨r1, hr1, hf⟩ := bind_some hf
  refine xcallv (rest := []) (wc := (wd_Sp_takeAllOut cI cZ a_t a_t_home a_t_sum a_t_graph a_t_bounds a_t_link t_cut t_over t_home t_sum)) (w1 := (wd_Sp_takeAllOut cI cZ a_t a_t_home a_t_sum a_t_graph a_t_bounds a_t_link t_cut t_over r1.1 r1.2)) (wr := [(a_t_bounds, .inr (0, [.int t_bounds_k, .ref a_t_bounds_least, .ref a_t_bounds_most])), (a_t_bounds_most, .inl (cI, 4, .inl t_bounds_most)), (a_t_graph, .inr (1, [.int t_graph_size, .ref a_t_graph_weight, .ref a_t_graph_arcs])), (a_t_graph_weight, .inl (cI, 40, .inl t_graph_weight))]) (ws' := (wd_Sp_growAll cI cZ a_t a_t_bounds a_t_bounds_most a_t_graph a_t_graph_weight a_t_home a_t_sum a_t_link a_t_bounds_least a_t_graph_arcs t_cut t_over t_bounds_k t_bounds_most t_graph_size t_graph_weight r1.1 r1.2)) (va_runV (As := []) ⟨hx, hb, hml, hown, hts⟩ (c_Sp_takeAllOut l dC dI cI cZ a_t a_t_home a_t_sum a_t_graph a_t_bounds a_t_link H.size t_cut t_over t_home t_sum r1 hr1) (cwV 0 hts (gV gw_524 gw_526 gw_11 gw_53 gw_527) rfl rfl rfl (yd_Sp_takeAllOut) ⟨Nat.le_of_ble_eq_true rfl, Nat.le_of_ble_eq_true rfl⟩) (mkV hK (hP.sub (ws' := (wd_Sp_takeAllOut cI cZ a_t a_t_home a_t_sum a_t_graph a_t_bounds a_t_link t_cut t_over t_home t_sum)) [0, 5, 6] rfl) (hD.sub (ws' := (wd_Sp_takeAllOut cI cZ a_t a_t_home a_t_sum a_t_graph a_t_bounds a_t_link t_cut t_over t_home t_sum)) [0, 5, 6] (by decide) rfl) hN (va_recv hK hP (ci := 7) (q0 := 0) rfl rfl)) rfl rfl hl.1 rfl (lv_room (Nat.le_of_ble_eq_true rfl)) dd_Sp_growAll_1 ⟨Nat.zero_le _, Nat.zero_le _⟩) hP hD hS hA [0, 5, 6] [1, 2, 3, 4] [4, 0, 1, 2, 3, 5, 6] rfl rfl (by decide) (by decide) rfl (by decide) rfl (fun H locs hP hD hS => ?_)
  refine lv_iconst (v := 0) hx hb dd_Sp_growAll_4 (by decide) ?_
  refine lv_istore_n (lv' := [(1, .int 0), (0, .ref a_t)]) hx hb dd_Sp_growAll_5 rfl hl (by decide) rfl (fun ls hl => ?_)
  exact h6 64 0 r1.1 r1.2 _ _ _ hf (lv_sub hl [1, 0] rfl) hP hD hS
abbrev wd_Sp_arcsInto (cI cZ : ClassId) (a_t a_t_graph a_t_graph_arcs a_t_home a_t_bounds a_t_sum a_t_link a_t_graph_weight : Nat) (t_cut : Int32) (t_over : Int32) (t_graph_size : Int32) (t_graph_arcs : Nat → Int32) (t_home : Nat → Int32) : va_W := [(a_t, .inr (7, [.ref a_t_graph, .ref a_t_bounds, .ref a_t_home, .ref a_t_sum, .ref a_t_link, .int t_cut, .int t_over])), (a_t_graph, .inr (1, [.int t_graph_size, .ref a_t_graph_weight, .ref a_t_graph_arcs])), (a_t_graph_arcs, .inl (cI, 1600, .inl t_graph_arcs)), (a_t_home, .inl (cI, 40, .inl t_home))]
set_option maxRecDepth 100000 in
set_option maxHeartbeats 4000000 in
theorem c_Sp_arcsInto (l : Launch) (dC : Nat → ClassId) (dI : Nat → Nat → Nat) (cI cZ : ClassId) (a_t a_t_graph a_t_graph_arcs a_t_home a_t_bounds a_t_sum a_t_link a_t_graph_weight sz : Nat) (x1 : Int32) (x2 : Int32) (t_cut : Int32) (t_over : Int32) (t_graph_size : Int32) (t_graph_arcs : Nat → Int32) (t_home : Nat → Int32) (out : Int32) (hf : f_Sp_arcsInto x1 x2 t_graph_size t_graph_arcs t_home = some out) :
    Met l yy_Sp_arcsInto wq_Sp_arcsInto ({ frames := 1, cells := 0, slots := 0, locals := 22 }) (va_Pc ([.ref a_t, .int x1, .int x2] : List Value) (pre_ (dC, dI) cI cZ sz (wd_Sp_arcsInto cI cZ a_t a_t_graph a_t_graph_arcs a_t_home a_t_bounds a_t_sum a_t_link a_t_graph_weight t_cut t_over t_graph_size t_graph_arcs t_home))) (va_Qi (fun (r : Int32) (_ : Unit) => r = out) (fun _ => pst (dC, dI) (va_A (wd_Sp_arcsInto cI cZ a_t a_t_graph a_t_graph_arcs a_t_home a_t_bounds a_t_sum a_t_link a_t_graph_weight t_cut t_over t_graph_size t_graph_arcs t_home) sz) (wd_Sp_arcsInto cI cZ a_t a_t_graph a_t_graph_arcs a_t_home a_t_bounds a_t_sum a_t_link a_t_graph_weight t_cut t_over t_graph_size t_graph_arcs t_home)) (va_A (wd_Sp_arcsInto cI cZ a_t a_t_graph a_t_graph_arcs a_t_home a_t_bounds a_t_sum a_t_link a_t_graph_weight t_cut t_over t_graph_size t_graph_arcs t_home) sz)) 0 0 (va_A (wd_Sp_arcsInto cI cZ a_t a_t_graph a_t_graph_arcs a_t_home a_t_bounds a_t_sum a_t_link a_t_graph_weight t_cut t_over t_graph_size t_graph_arcs t_home) sz) := by
  refine Met.ofW (cc := cc_Sp_arcsInto) (maxL := 5) (ret := (some .int)) (by decide) rfl ?_
  intro p e s m args below meth c s₁ B hml hv
  obtain ⟨rfl, hsz, hP, hK, hD0, hN⟩ := hv
  have hx := B.exec
  have hb := B.bytes
  have hr := B.returns
  have hts := atoms_spec (ws := wq_Sp_arcsInto) B.pre
  have hown : s.vm.findClass rr_Sp = some m.cls := findClass_of_methodNamed B.named
  have hlocks := B.notSynchronized
  subst hsz
  have hD := hD0.self (sz := s.heap.size)
  generalize hAe : va_A (wd_Sp_arcsInto cI cZ a_t a_t_graph a_t_graph_arcs a_t_home a_t_bounds a_t_sum a_t_link a_t_graph_weight t_cut t_over t_graph_size t_graph_arcs t_home) s.heap.size = A at hD ⊢
  have hA : ∀ q : Nat, s.heap.size ≤ q → A q := fun q h => by rw [← hAe]; exact Or.inr h
  obtain ⟨H, hH⟩ : ∃ H : Heap, H = s.heap := ⟨_, rfl⟩
  have hS : va_S A s.heap H [] := by rw [hH]; exact va_S.rf
  have hl := lv_entry (([.ref a_t, .int x1, .int x2] : List Value)) (n := 5) (Nat.le_of_ble_eq_true rfl)
  rw [lg_entry_eq]
  generalize (lg_sl (([.ref a_t, .int x1, .int x2] : List Value)) ++ List.replicate (5 - (lg_sl (([.ref a_t, .int x1, .int x2] : List Value))).length) Slot.unset).toArray = ls at hl ⊢
  have hl : lv_has ls 5 [(0, .ref a_t), (1, .int x1), (2, .int x2)] := hl
  rw [← hH] at hP ⊢
  have hP : va_P (dC, dI) clsL (wd_Sp_arcsInto cI cZ a_t a_t_graph a_t_graph_arcs a_t_home a_t_bounds a_t_sum a_t_link a_t_graph_weight t_cut t_over t_graph_size t_graph_arcs t_home) H := hP
  unfold f_Sp_arcsInto at hf
  have h5 : ∀ (n5 : Nat) (x3 : Int32) (x4 : Int32) (ls : Array Slot) (H : Heap) (locs : List Loc), L_Sp_arcsInto_5 x1 x2 t_graph_size t_graph_arcs t_home n5 x3 x4 = some out → lv_has ls 5 [(0, .ref a_t), (1, .int x1), (2, .int x2), (3, .int x3), (4, .int x4)] → va_P (dC, dI) clsL (wd_Sp_arcsInto cI cZ a_t a_t_graph a_t_graph_arcs a_t_home a_t_bounds a_t_sum a_t_link a_t_graph_weight t_cut t_over t_graph_size t_graph_arcs t_home) H → va_D A (wd_Sp_arcsInto cI cZ a_t a_t_graph a_t_graph_arcs a_t_home a_t_bounds a_t_sum a_t_link a_t_graph_weight t_cut t_over t_graph_size t_graph_arcs t_home) → va_S A s.heap H locs → W p l e (headSpec wq_Sp_arcsInto ({ frames := 1, cells := 0, slots := 0, locals := 22 })).room s m ([.ref a_t, .int x1, .int x2] : List Value).toArray below meth c H locs 0 0 (MQ below (va_Qi (fun (r : Int32) (_ : Unit) => r = out) (fun _ => pst (dC, dI) A (wd_Sp_arcsInto cI cZ a_t a_t_graph a_t_graph_arcs a_t_home a_t_bounds a_t_sum a_t_link a_t_graph_weight t_cut t_over t_graph_size t_graph_arcs t_home)) A) ([.ref a_t, .int x1, .int x2] : List Value).toArray s 0 0 A) (F0 m 5 ls []) := by
    intro n5
    induction n5 with
    | zero =>
      intro x3 x4 ls H locs hf
      rw [L_Sp_arcsInto_5] at hf
      exact absurd hf (fun h => by cases h)
    | succ n5 ih5 =>
      intro x3 x4 ls H locs hf hl hP hD hS
      rw [L_Sp_arcsInto_5] at hf
      refine lv_iload hx hb dd_Sp_arcsInto_5 (lv_at hl 4 rfl) ?_
      refine lv_aload_n hx hb dd_Sp_arcsInto_7 rfl (lv_at hl 0 rfl) ?_
      refine va_get (D := (dC, dI)) (ci := 7) (v := .ref a_t_graph) (C := rr_Sp) (T := tt_Sp) (N := 7) hx hb hts (fun w h => gwc (inn_Sp w h)) hown hK hP 0 rfl rfl 0 (by decide) (hts _ (gwc gw_133)) (fun _ h9 => h9) rfl dd_Sp_arcsInto_8 ?_
      refine va_get (D := (dC, dI)) (ci := 1) (v := .int t_graph_size) (C := rr_Gr) (T := tt_Gr) (N := 3) hx hb hts (fun w h => gwc (inn_Gr w h)) hown hK hP 1 rfl rfl 0 (by decide) (hts _ (gwc gw_88)) (fun _ h9 => h9) rfl dd_Sp_arcsInto_11 ?_
      refine lv_icmp_ge (tgt := 47) hx hb dd_Sp_arcsInto_14 (by decide) (fun cc => ?_) (fun cc => ?_)
      · skip
        have hf := if_t cc hf
        refine lv_iload_n hx hb dd_Sp_arcsInto_47 rfl (lv_at hl 3 rfl) ?_
        cases hf
        exact W.iret hx hb hr (fun t ht hW => ⟨⟨_, (), rfl, rfl, pst_of ht hP hD⟩, hS.F ht⟩) hS.2.2 dd_Sp_arcsInto_48
      · skip
        have hf := if_f cc hf
        refine lv_aload_n hx hb dd_Sp_arcsInto_17 rfl (lv_at hl 0 rfl) ?_
        refine va_get (D := (dC, dI)) (ci := 7) (v := .ref a_t_home) (C := rr_Sp) (T := tt_Sp) (N := 7) hx hb hts (fun w h => gwc (inn_Sp w h)) hown hK hP 0 rfl rfl 2 (by decide) (hts _ (gwc gw_142)) (fun _ h9 => h9) rfl dd_Sp_arcsInto_18 ?_
        refine lv_iload hx hb dd_Sp_arcsInto_21 (lv_at hl 4 rfl) ?_
        obtain ⟨k23, hf⟩ := ck_some hf
        refine va_iald hx hb hK hP 3 0 rfl rfl (okb_in k23) dd_Sp_arcsInto_23 ?_
        refine lv_iload_n hx hb dd_Sp_arcsInto_24 rfl (lv_at hl 2 rfl) ?_
        refine lv_icmp_ne (tgt := 41) hx hb dd_Sp_arcsInto_25 (by decide) (fun cc => ?_) (fun cc => ?_)
        · skip
          have hf := if_f cc hf
          refine lv_iinc (v := x4 + 1) (lv' := [(4, .int (x4 + 1)), (0, .ref a_t), (1, .int x1), (2, .int x2), (3, .int x3)]) hx hb dd_Sp_arcsInto_41 hl (k := 4) rfl rfl (by decide) rfl (fun ls hl => ?_)
          refine lv_goto (tgt := 5) hx hb dd_Sp_arcsInto_44 (by decide) ?_
          exact ih5 x3 (x4 + 1) _ _ _ hf (lv_sub hl [1, 2, 3, 4, 0] rfl) hP hD hS
        · skip
          have hf := if_t cc hf
          refine lv_iload_n hx hb dd_Sp_arcsInto_28 rfl (lv_at hl 3 rfl) ?_
          refine lv_aload_n hx hb dd_Sp_arcsInto_29 rfl (lv_at hl 0 rfl) ?_
          refine va_get (D := (dC, dI)) (ci := 7) (v := .ref a_t_graph) (C := rr_Sp) (T := tt_Sp) (N := 7) hx hb hts (fun w h => gwc (inn_Sp w h)) hown hK hP 0 rfl rfl 0 (by decide) (hts _ (gwc gw_133)) (fun _ h9 => h9) rfl dd_Sp_arcsInto_30 ?_
          refine lv_iload_n hx hb dd_Sp_arcsInto_33 rfl (lv_at hl 1 rfl) ?_
          refine lv_iload hx hb dd_Sp_arcsInto_34 (lv_at hl 4 rfl) ?_
          obtain ⟨r36, hr36, hf⟩ := bind_some hf
          refine xcalli (rest := [.int x3]) (wc := (wd_Gr_arcOf cI cZ a_t_graph a_t_graph_arcs a_t_graph_weight t_graph_size t_graph_arcs)) (w1 := (wd_Gr_arcOf cI cZ a_t_graph a_t_graph_arcs a_t_graph_weight t_graph_size t_graph_arcs)) (wr := [(a_t, .inr (7, [.ref a_t_graph, .ref a_t_bounds, .ref a_t_home, .ref a_t_sum, .ref a_t_link, .int t_cut, .int t_over])), (a_t_home, .inl (cI, 40, .inl t_home))]) (ws' := (wd_Sp_arcsInto cI cZ a_t a_t_graph a_t_graph_arcs a_t_home a_t_bounds a_t_sum a_t_link a_t_graph_weight t_cut t_over t_graph_size t_graph_arcs t_home)) (va_runV (As := [.int x1, .int x4]) ⟨hx, hb, hml, hown, hts⟩ (c_Gr_arcOf l dC dI cI cZ a_t_graph a_t_graph_arcs a_t_graph_weight H.size x1 x4 t_graph_size t_graph_arcs r36 hr36) (cwV 2 hts (gV gw_376 gw_318 gw_319 gw_54 gw_320) rfl rfl rfl (yd_Gr_arcOf) ⟨Nat.le_of_ble_eq_true rfl, Nat.le_of_ble_eq_true rfl⟩) (mkV hK (hP.sub (ws' := (wd_Gr_arcOf cI cZ a_t_graph a_t_graph_arcs a_t_graph_weight t_graph_size t_graph_arcs)) [1, 2] rfl) (hD.sub (ws' := (wd_Gr_arcOf cI cZ a_t_graph a_t_graph_arcs a_t_graph_weight t_graph_size t_graph_arcs)) [1, 2] (by decide) rfl) hN (va_recv hK hP (ci := 1) (q0 := 1) rfl rfl)) rfl rfl hl.1 rfl (lv_room (Nat.le_of_ble_eq_true rfl)) dd_Sp_arcsInto_36 ⟨Nat.zero_le _, Nat.zero_le _⟩) hP hD hS hA [1, 2] [0, 3] [0, 2, 3, 1] rfl rfl (by decide) (by decide) rfl (by decide) rfl (fun H locs hP hD hS => ?_)
          refine lv_iadd hx hb dd_Sp_arcsInto_39 ?_
          refine lv_istore_n (lv' := [(3, .int (x3 + r36)), (0, .ref a_t), (1, .int x1), (2, .int x2), (4, .int x4)]) hx hb dd_Sp_arcsInto_40 rfl hl (by decide) rfl (fun ls hl => ?_)
          refine lv_iinc (v := x4 + 1) (lv' := [(4, .int (x4 + 1)), (3, .int (x3 + r36)), (0, .ref a_t), (1, .int x1), (2, .int x2)]) hx hb dd_Sp_arcsInto_41 hl (k := 4) rfl rfl (by decide) rfl (fun ls hl => ?_)
          refine lv_goto (tgt := 5) hx hb dd_Sp_arcsInto_44 (by decide) ?_
          exact ih5 (x3 + r36) (x4 + 1) _ _ _ hf (lv_sub hl [2, 3, 4, 1, 0] rfl) hP hD hS
  refine lv_iconst (v := 0) hx hb dd_Sp_arcsInto_0 (by decide) ?_
  refine lv_istore_n (lv' := [(3, .int 0), (0, .ref a_t), (1, .int x1), (2, .int x2)]) hx hb dd_Sp_arcsInto_1 rfl hl (by decide) rfl (fun ls hl => ?_)
  refine lv_iconst (v := 0) hx hb dd_Sp_arcsInto_2 (by decide) ?_
  refine lv_istore (lv' := [(4, .int 0), (3, .int 0), (0, .ref a_t), (1, .int x1), (2, .int x2)]) hx hb dd_Sp_arcsInto_3 hl (by decide) rfl (fun ls hl => ?_)
  exact h5 64 0 0 _ _ _ hf (lv_sub hl [2, 3, 4, 1, 0] rfl) hP hD hS
abbrev wd_Sp_likedPart (cI cZ : ClassId) (a_t a_t_bounds a_t_bounds_most a_t_graph a_t_graph_arcs a_t_graph_weight a_t_home a_t_sum a_t_link a_t_bounds_least : Nat) (t_cut : Int32) (t_over : Int32) (t_bounds_k : Int32) (t_bounds_most : Nat → Int32) (t_graph_size : Int32) (t_graph_arcs : Nat → Int32) (t_graph_weight : Nat → Int32) (t_home : Nat → Int32) (t_sum : Nat → Int32) : va_W := [(a_t, .inr (7, [.ref a_t_graph, .ref a_t_bounds, .ref a_t_home, .ref a_t_sum, .ref a_t_link, .int t_cut, .int t_over])), (a_t_bounds, .inr (0, [.int t_bounds_k, .ref a_t_bounds_least, .ref a_t_bounds_most])), (a_t_bounds_most, .inl (cI, 4, .inl t_bounds_most)), (a_t_graph, .inr (1, [.int t_graph_size, .ref a_t_graph_weight, .ref a_t_graph_arcs])), (a_t_graph_arcs, .inl (cI, 1600, .inl t_graph_arcs)), (a_t_graph_weight, .inl (cI, 40, .inl t_graph_weight)), (a_t_home, .inl (cI, 40, .inl t_home)), (a_t_sum, .inl (cI, 4, .inl t_sum))]
set_option maxRecDepth 100000 in
set_option maxHeartbeats 4000000 in
theorem c_Sp_likedPart (l : Launch) (dC : Nat → ClassId) (dI : Nat → Nat → Nat) (cI cZ : ClassId) (a_t a_t_bounds a_t_bounds_most a_t_graph a_t_graph_arcs a_t_graph_weight a_t_home a_t_sum a_t_link a_t_bounds_least sz : Nat) (x1 : Int32) (x2 : Int32) (t_cut : Int32) (t_over : Int32) (t_bounds_k : Int32) (t_bounds_most : Nat → Int32) (t_graph_size : Int32) (t_graph_arcs : Nat → Int32) (t_graph_weight : Nat → Int32) (t_home : Nat → Int32) (t_sum : Nat → Int32) (out : Int32) (hf : f_Sp_likedPart x1 x2 t_bounds_k t_bounds_most t_graph_size t_graph_arcs t_graph_weight t_home t_sum = some out) :
    Met l yy_Sp_likedPart wq_Sp_likedPart ({ frames := 2, cells := 0, slots := 0, locals := 46 }) (va_Pc ([.ref a_t, .int x1, .int x2] : List Value) (pre_ (dC, dI) cI cZ sz (wd_Sp_likedPart cI cZ a_t a_t_bounds a_t_bounds_most a_t_graph a_t_graph_arcs a_t_graph_weight a_t_home a_t_sum a_t_link a_t_bounds_least t_cut t_over t_bounds_k t_bounds_most t_graph_size t_graph_arcs t_graph_weight t_home t_sum))) (va_Qi (fun (r : Int32) (_ : Unit) => r = out) (fun _ => pst (dC, dI) (va_A (wd_Sp_likedPart cI cZ a_t a_t_bounds a_t_bounds_most a_t_graph a_t_graph_arcs a_t_graph_weight a_t_home a_t_sum a_t_link a_t_bounds_least t_cut t_over t_bounds_k t_bounds_most t_graph_size t_graph_arcs t_graph_weight t_home t_sum) sz) (wd_Sp_likedPart cI cZ a_t a_t_bounds a_t_bounds_most a_t_graph a_t_graph_arcs a_t_graph_weight a_t_home a_t_sum a_t_link a_t_bounds_least t_cut t_over t_bounds_k t_bounds_most t_graph_size t_graph_arcs t_graph_weight t_home t_sum)) (va_A (wd_Sp_likedPart cI cZ a_t a_t_bounds a_t_bounds_most a_t_graph a_t_graph_arcs a_t_graph_weight a_t_home a_t_sum a_t_link a_t_bounds_least t_cut t_over t_bounds_k t_bounds_most t_graph_size t_graph_arcs t_graph_weight t_home t_sum) sz)) 0 0 (va_A (wd_Sp_likedPart cI cZ a_t a_t_bounds a_t_bounds_most a_t_graph a_t_graph_arcs a_t_graph_weight a_t_home a_t_sum a_t_link a_t_bounds_least t_cut t_over t_bounds_k t_bounds_most t_graph_size t_graph_arcs t_graph_weight t_home t_sum) sz) := by
  refine Met.ofW (cc := cc_Sp_likedPart) (maxL := 9) (ret := (some .int)) (by decide) rfl ?_
  intro p e s m args below meth c s₁ B hml hv
  obtain ⟨rfl, hsz, hP, hK, hD0, hN⟩ := hv
  have hx := B.exec
  have hb := B.bytes
  have hr := B.returns
  have hts := atoms_spec (ws := wq_Sp_likedPart) B.pre
  have hown : s.vm.findClass rr_Sp = some m.cls := findClass_of_methodNamed B.named
  have hlocks := B.notSynchronized
  subst hsz
  have hD := hD0.self (sz := s.heap.size)
  generalize hAe : va_A (wd_Sp_likedPart cI cZ a_t a_t_bounds a_t_bounds_most a_t_graph a_t_graph_arcs a_t_graph_weight a_t_home a_t_sum a_t_link a_t_bounds_least t_cut t_over t_bounds_k t_bounds_most t_graph_size t_graph_arcs t_graph_weight t_home t_sum) s.heap.size = A at hD ⊢
  have hA : ∀ q : Nat, s.heap.size ≤ q → A q := fun q h => by rw [← hAe]; exact Or.inr h
  obtain ⟨H, hH⟩ : ∃ H : Heap, H = s.heap := ⟨_, rfl⟩
  have hS : va_S A s.heap H [] := by rw [hH]; exact va_S.rf
  have hl := lv_entry (([.ref a_t, .int x1, .int x2] : List Value)) (n := 9) (Nat.le_of_ble_eq_true rfl)
  rw [lg_entry_eq]
  generalize (lg_sl (([.ref a_t, .int x1, .int x2] : List Value)) ++ List.replicate (9 - (lg_sl (([.ref a_t, .int x1, .int x2] : List Value))).length) Slot.unset).toArray = ls at hl ⊢
  have hl : lv_has ls 9 [(0, .ref a_t), (1, .int x1), (2, .int x2)] := hl
  rw [← hH] at hP ⊢
  have hP : va_P (dC, dI) clsL (wd_Sp_likedPart cI cZ a_t a_t_bounds a_t_bounds_most a_t_graph a_t_graph_arcs a_t_graph_weight a_t_home a_t_sum a_t_link a_t_bounds_least t_cut t_over t_bounds_k t_bounds_most t_graph_size t_graph_arcs t_graph_weight t_home t_sum) H := hP
  unfold f_Sp_likedPart at hf
  have h8 : ∀ (n8 : Nat) (x3 : Int32) (x4 : Int64) (x6 : Int32) (ls : Array Slot) (H : Heap) (locs : List Loc), L_Sp_likedPart_8 x1 x2 t_bounds_k t_bounds_most t_graph_size t_graph_arcs t_graph_weight t_home t_sum n8 x3 x4 x6 = some out → lv_has ls 9 [(0, .ref a_t), (1, .int x1), (2, .int x2), (3, .int x3), (4, .long x4), (6, .int x6)] → va_P (dC, dI) clsL (wd_Sp_likedPart cI cZ a_t a_t_bounds a_t_bounds_most a_t_graph a_t_graph_arcs a_t_graph_weight a_t_home a_t_sum a_t_link a_t_bounds_least t_cut t_over t_bounds_k t_bounds_most t_graph_size t_graph_arcs t_graph_weight t_home t_sum) H → va_D A (wd_Sp_likedPart cI cZ a_t a_t_bounds a_t_bounds_most a_t_graph a_t_graph_arcs a_t_graph_weight a_t_home a_t_sum a_t_link a_t_bounds_least t_cut t_over t_bounds_k t_bounds_most t_graph_size t_graph_arcs t_graph_weight t_home t_sum) → va_S A s.heap H locs → W p l e (headSpec wq_Sp_likedPart ({ frames := 2, cells := 0, slots := 0, locals := 46 })).room s m ([.ref a_t, .int x1, .int x2] : List Value).toArray below meth c H locs 0 0 (MQ below (va_Qi (fun (r : Int32) (_ : Unit) => r = out) (fun _ => pst (dC, dI) A (wd_Sp_likedPart cI cZ a_t a_t_bounds a_t_bounds_most a_t_graph a_t_graph_arcs a_t_graph_weight a_t_home a_t_sum a_t_link a_t_bounds_least t_cut t_over t_bounds_k t_bounds_most t_graph_size t_graph_arcs t_graph_weight t_home t_sum)) A) ([.ref a_t, .int x1, .int x2] : List Value).toArray s 0 0 A) (F0 m 8 ls []) := by
    intro n8
    induction n8 with
    | zero =>
      intro x3 x4 x6 ls H locs hf
      rw [L_Sp_likedPart_8] at hf
      exact absurd hf (fun h => by cases h)
    | succ n8 ih8 =>
      intro x3 x4 x6 ls H locs hf hl hP hD hS
      rw [L_Sp_likedPart_8] at hf
      refine lv_iload hx hb dd_Sp_likedPart_8 (lv_at hl 5 rfl) ?_
      refine lv_aload_n hx hb dd_Sp_likedPart_10 rfl (lv_at hl 0 rfl) ?_
      refine va_get (D := (dC, dI)) (ci := 7) (v := .ref a_t_bounds) (C := rr_Sp) (T := tt_Sp) (N := 7) hx hb hts (fun w h => gwc (inn_Sp w h)) hown hK hP 0 rfl rfl 1 (by decide) (hts _ (gwc gw_138)) (fun _ h9 => h9) rfl dd_Sp_likedPart_11 ?_
      refine va_get (D := (dC, dI)) (ci := 0) (v := .int t_bounds_k) (C := rr_Bo) (T := tt_Bo) (N := 3) hx hb hts (fun w h => gwc (inn_Bo w h)) hown hK hP 1 rfl rfl 0 (by decide) (hts _ (gwc gw_115)) (fun _ h9 => h9) rfl dd_Sp_likedPart_14 ?_
      refine lv_icmp_ge (tgt := 102) hx hb dd_Sp_likedPart_17 (by decide) (fun cc => ?_) (fun cc => ?_)
      · skip
        have hf := if_t cc hf
        refine lv_iload_n hx hb dd_Sp_likedPart_102 rfl (lv_at hl 3 rfl) ?_
        cases hf
        exact W.iret hx hb hr (fun t ht hW => ⟨⟨_, (), rfl, rfl, pst_of ht hP hD⟩, hS.F ht⟩) hS.2.2 dd_Sp_likedPart_103
      · skip
        have hf := if_f cc hf
        refine lv_aload_n hx hb dd_Sp_likedPart_20 rfl (lv_at hl 0 rfl) ?_
        refine va_get (D := (dC, dI)) (ci := 7) (v := .ref a_t_sum) (C := rr_Sp) (T := tt_Sp) (N := 7) hx hb hts (fun w h => gwc (inn_Sp w h)) hown hK hP 0 rfl rfl 3 (by decide) (hts _ (gwc gw_147)) (fun _ h9 => h9) rfl dd_Sp_likedPart_21 ?_
        refine lv_iload hx hb dd_Sp_likedPart_24 (lv_at hl 5 rfl) ?_
        obtain ⟨k26, hf⟩ := ck_some hf
        refine va_iald hx hb hK hP 7 0 rfl rfl (okb_in k26) dd_Sp_likedPart_26 ?_
        refine lv_aload_n hx hb dd_Sp_likedPart_27 rfl (lv_at hl 0 rfl) ?_
        refine va_get (D := (dC, dI)) (ci := 7) (v := .ref a_t_graph) (C := rr_Sp) (T := tt_Sp) (N := 7) hx hb hts (fun w h => gwc (inn_Sp w h)) hown hK hP 0 rfl rfl 0 (by decide) (hts _ (gwc gw_133)) (fun _ h9 => h9) rfl dd_Sp_likedPart_28 ?_
        refine va_get (D := (dC, dI)) (ci := 1) (v := .ref a_t_graph_weight) (C := rr_Gr) (T := tt_Gr) (N := 3) hx hb hts (fun w h => gwc (inn_Gr w h)) hown hK hP 3 rfl rfl 1 (by decide) (hts _ (gwc gw_94)) (fun _ h9 => h9) rfl dd_Sp_likedPart_31 ?_
        refine lv_iload_n hx hb dd_Sp_likedPart_34 rfl (lv_at hl 1 rfl) ?_
        obtain ⟨k35, hf⟩ := ck_some hf
        refine va_iald hx hb hK hP 5 0 rfl rfl (okb_in k35) dd_Sp_likedPart_35 ?_
        refine lv_iadd hx hb dd_Sp_likedPart_36 ?_
        refine lv_aload_n hx hb dd_Sp_likedPart_37 rfl (lv_at hl 0 rfl) ?_
        refine va_get (D := (dC, dI)) (ci := 7) (v := .ref a_t_bounds) (C := rr_Sp) (T := tt_Sp) (N := 7) hx hb hts (fun w h => gwc (inn_Sp w h)) hown hK hP 0 rfl rfl 1 (by decide) (hts _ (gwc gw_138)) (fun _ h9 => h9) rfl dd_Sp_likedPart_38 ?_
        refine va_get (D := (dC, dI)) (ci := 0) (v := .ref a_t_bounds_most) (C := rr_Bo) (T := tt_Bo) (N := 3) hx hb hts (fun w h => gwc (inn_Bo w h)) hown hK hP 1 rfl rfl 2 (by decide) (hts _ (gwc gw_125)) (fun _ h9 => h9) rfl dd_Sp_likedPart_41 ?_
        refine lv_iload hx hb dd_Sp_likedPart_44 (lv_at hl 5 rfl) ?_
        obtain ⟨k46, hf⟩ := ck_some hf
        refine va_iald hx hb hK hP 2 0 rfl rfl (okb_in k46) dd_Sp_likedPart_46 ?_
        refine lv_icmp_gt (tgt := 96) hx hb dd_Sp_likedPart_47 (by decide) (fun cc => ?_) (fun cc => ?_)
        · skip
          have hf := if_t cc hf
          refine lv_iinc (v := x6 + 1) (lv' := [(6, .int (x6 + 1)), (0, .ref a_t), (1, .int x1), (2, .int x2), (3, .int x3), (4, .long x4)]) hx hb dd_Sp_likedPart_96 hl (k := 5) rfl rfl (by decide) rfl (fun ls hl => ?_)
          refine lv_goto (tgt := 8) hx hb dd_Sp_likedPart_99 (by decide) ?_
          exact ih8 x3 x4 (x6 + 1) _ _ _ hf (lv_sub hl [1, 2, 3, 4, 5, 0] rfl) hP hD hS
        · skip
          have hf := if_f cc hf
          refine lv_ldc2 (v := 1000) hx hb hown (hts _ (gwc gw_615)) dd_Sp_likedPart_50 ?_
          refine lv_aload_n hx hb dd_Sp_likedPart_53 rfl (lv_at hl 0 rfl) ?_
          refine lv_iload_n hx hb dd_Sp_likedPart_54 rfl (lv_at hl 1 rfl) ?_
          refine lv_iload hx hb dd_Sp_likedPart_55 (lv_at hl 5 rfl) ?_
          obtain ⟨r57, hr57, hf⟩ := bind_some hf
          refine xcalli (rest := [.long (1000 : Int64)]) (wc := (wd_Sp_arcsInto cI cZ a_t a_t_graph a_t_graph_arcs a_t_home a_t_bounds a_t_sum a_t_link a_t_graph_weight t_cut t_over t_graph_size t_graph_arcs t_home)) (w1 := (wd_Sp_arcsInto cI cZ a_t a_t_graph a_t_graph_arcs a_t_home a_t_bounds a_t_sum a_t_link a_t_graph_weight t_cut t_over t_graph_size t_graph_arcs t_home)) (wr := [(a_t_bounds, .inr (0, [.int t_bounds_k, .ref a_t_bounds_least, .ref a_t_bounds_most])), (a_t_bounds_most, .inl (cI, 4, .inl t_bounds_most)), (a_t_graph_weight, .inl (cI, 40, .inl t_graph_weight)), (a_t_sum, .inl (cI, 4, .inl t_sum))]) (ws' := (wd_Sp_likedPart cI cZ a_t a_t_bounds a_t_bounds_most a_t_graph a_t_graph_arcs a_t_graph_weight a_t_home a_t_sum a_t_link a_t_bounds_least t_cut t_over t_bounds_k t_bounds_most t_graph_size t_graph_arcs t_graph_weight t_home t_sum)) (va_runV (As := [.int x1, .int x6]) ⟨hx, hb, hml, hown, hts⟩ (c_Sp_arcsInto l dC dI cI cZ a_t a_t_graph a_t_graph_arcs a_t_home a_t_bounds a_t_sum a_t_link a_t_graph_weight H.size x1 x6 t_cut t_over t_graph_size t_graph_arcs t_home r57 hr57) (cwV 2 hts (gV gw_616 gw_618 gw_22 gw_53 gw_619) rfl rfl rfl (yd_Sp_arcsInto) ⟨Nat.le_of_ble_eq_true rfl, Nat.le_of_ble_eq_true rfl⟩) (mkV hK (hP.sub (ws' := (wd_Sp_arcsInto cI cZ a_t a_t_graph a_t_graph_arcs a_t_home a_t_bounds a_t_sum a_t_link a_t_graph_weight t_cut t_over t_graph_size t_graph_arcs t_home)) [0, 3, 4, 6] rfl) (hD.sub (ws' := (wd_Sp_arcsInto cI cZ a_t a_t_graph a_t_graph_arcs a_t_home a_t_bounds a_t_sum a_t_link a_t_graph_weight t_cut t_over t_graph_size t_graph_arcs t_home)) [0, 3, 4, 6] (by decide) rfl) hN (va_recv hK hP (ci := 7) (q0 := 0) rfl rfl)) rfl rfl hl.1 rfl (lv_room (Nat.le_of_ble_eq_true rfl)) dd_Sp_likedPart_57 ⟨Nat.zero_le _, Nat.zero_le _⟩) hP hD hS hA [0, 3, 4, 6] [1, 2, 5, 7] [4, 0, 1, 5, 6, 2, 7, 3] rfl rfl (by decide) (by decide) rfl (by decide) rfl (fun H locs hP hD hS => ?_)
          refine lv_i2l hx hb dd_Sp_likedPart_60 rfl ?_
          refine lv_lmul hx hb dd_Sp_likedPart_61 ?_
          refine lv_iload_n hx hb dd_Sp_likedPart_62 rfl (lv_at hl 2 rfl) ?_
          refine lv_i2l hx hb dd_Sp_likedPart_63 rfl ?_
          refine lv_aload_n hx hb dd_Sp_likedPart_64 rfl (lv_at hl 0 rfl) ?_
          refine va_get (D := (dC, dI)) (ci := 7) (v := .ref a_t_sum) (C := rr_Sp) (T := tt_Sp) (N := 7) hx hb hts (fun w h => gwc (inn_Sp w h)) hown hK hP 0 rfl rfl 3 (by decide) (hts _ (gwc gw_147)) (fun _ h9 => h9) rfl dd_Sp_likedPart_65 ?_
          refine lv_iload hx hb dd_Sp_likedPart_68 (lv_at hl 5 rfl) ?_
          obtain ⟨k70, hf⟩ := ck_some hf
          refine va_iald hx hb hK hP 7 0 rfl rfl (okb_in k70) dd_Sp_likedPart_70 ?_
          refine lv_i2l hx hb dd_Sp_likedPart_71 rfl ?_
          refine lv_lmul hx hb dd_Sp_likedPart_72 ?_
          refine lv_lsub hx hb dd_Sp_likedPart_73 ?_
          refine lv_lstore (lv' := [(7, .long (((1000 : Int64) * r57.toInt64) - (x2.toInt64 * ((t_sum (x6).toNatClampNeg).toInt64)))), (0, .ref a_t), (1, .int x1), (2, .int x2), (3, .int x3), (4, .long x4), (6, .int x6)]) hx hb dd_Sp_likedPart_74 hl (by decide) rfl (fun ls hl => ?_)
          refine lv_iload_n hx hb dd_Sp_likedPart_76 rfl (lv_at hl 4 rfl) ?_
          refine lv_iconst (v := -1) hx hb dd_Sp_likedPart_77 (by decide) ?_
          refine lv_icmp_eq (tgt := 89) hx hb dd_Sp_likedPart_78 (by decide) (fun cc => ?_) (fun cc => ?_)
          · skip
            have hf := if_t cc hf
            refine lv_iload hx hb dd_Sp_likedPart_89 (lv_at hl 6 rfl) ?_
            refine lv_istore_n (lv' := [(3, .int x6), (7, .long (((1000 : Int64) * r57.toInt64) - (x2.toInt64 * ((t_sum (x6).toNatClampNeg).toInt64)))), (0, .ref a_t), (1, .int x1), (2, .int x2), (4, .long x4), (6, .int x6)]) hx hb dd_Sp_likedPart_91 rfl hl (by decide) rfl (fun ls hl => ?_)
            refine lv_lload hx hb dd_Sp_likedPart_92 (lv_at hl 1 rfl) ?_
            refine lv_lstore (lv' := [(4, .long (((1000 : Int64) * r57.toInt64) - (x2.toInt64 * ((t_sum (x6).toNatClampNeg).toInt64)))), (3, .int x6), (7, .long (((1000 : Int64) * r57.toInt64) - (x2.toInt64 * ((t_sum (x6).toNatClampNeg).toInt64)))), (0, .ref a_t), (1, .int x1), (2, .int x2), (6, .int x6)]) hx hb dd_Sp_likedPart_94 hl (by decide) rfl (fun ls hl => ?_)
            refine lv_iinc (v := x6 + 1) (lv' := [(6, .int (x6 + 1)), (4, .long (((1000 : Int64) * r57.toInt64) - (x2.toInt64 * ((t_sum (x6).toNatClampNeg).toInt64)))), (3, .int x6), (7, .long (((1000 : Int64) * r57.toInt64) - (x2.toInt64 * ((t_sum (x6).toNatClampNeg).toInt64)))), (0, .ref a_t), (1, .int x1), (2, .int x2)]) hx hb dd_Sp_likedPart_96 hl (k := 6) rfl rfl (by decide) rfl (fun ls hl => ?_)
            refine lv_goto (tgt := 8) hx hb dd_Sp_likedPart_99 (by decide) ?_
            exact ih8 x6 (((1000 : Int64) * r57.toInt64) - (x2.toInt64 * ((t_sum (x6).toNatClampNeg).toInt64))) (x6 + 1) _ _ _ hf (lv_sub hl [4, 5, 6, 2, 1, 0] rfl) hP hD hS
          · skip
            have hf := if_f cc hf
            refine lv_lload hx hb dd_Sp_likedPart_81 (lv_at hl 0 rfl) ?_
            refine lv_lload hx hb dd_Sp_likedPart_83 (lv_at hl 5 rfl) ?_
            refine W.lcmp hx hb dd_Sp_likedPart_85 ?_
            refine lv_if_le (tgt := 96) hx hb dd_Sp_likedPart_86 (by decide) (fun cc => ?_) (fun cc => ?_)
            · skip
              have hf := if_t cc hf
              refine lv_iinc (v := x6 + 1) (lv' := [(6, .int (x6 + 1)), (7, .long (((1000 : Int64) * r57.toInt64) - (x2.toInt64 * ((t_sum (x6).toNatClampNeg).toInt64)))), (0, .ref a_t), (1, .int x1), (2, .int x2), (3, .int x3), (4, .long x4)]) hx hb dd_Sp_likedPart_96 hl (k := 6) rfl rfl (by decide) rfl (fun ls hl => ?_)
              refine lv_goto (tgt := 8) hx hb dd_Sp_likedPart_99 (by decide) ?_
              exact ih8 x3 x4 (x6 + 1) _ _ _ hf (lv_sub hl [2, 3, 4, 5, 6, 0] rfl) hP hD hS
            · skip
              have hf := if_f cc hf
              refine lv_iload hx hb dd_Sp_likedPart_89 (lv_at hl 6 rfl) ?_
              refine lv_istore_n (lv' := [(3, .int x6), (7, .long (((1000 : Int64) * r57.toInt64) - (x2.toInt64 * ((t_sum (x6).toNatClampNeg).toInt64)))), (0, .ref a_t), (1, .int x1), (2, .int x2), (4, .long x4), (6, .int x6)]) hx hb dd_Sp_likedPart_91 rfl hl (by decide) rfl (fun ls hl => ?_)
              refine lv_lload hx hb dd_Sp_likedPart_92 (lv_at hl 1 rfl) ?_
              refine lv_lstore (lv' := [(4, .long (((1000 : Int64) * r57.toInt64) - (x2.toInt64 * ((t_sum (x6).toNatClampNeg).toInt64)))), (3, .int x6), (7, .long (((1000 : Int64) * r57.toInt64) - (x2.toInt64 * ((t_sum (x6).toNatClampNeg).toInt64)))), (0, .ref a_t), (1, .int x1), (2, .int x2), (6, .int x6)]) hx hb dd_Sp_likedPart_94 hl (by decide) rfl (fun ls hl => ?_)
              refine lv_iinc (v := x6 + 1) (lv' := [(6, .int (x6 + 1)), (4, .long (((1000 : Int64) * r57.toInt64) - (x2.toInt64 * ((t_sum (x6).toNatClampNeg).toInt64)))), (3, .int x6), (7, .long (((1000 : Int64) * r57.toInt64) - (x2.toInt64 * ((t_sum (x6).toNatClampNeg).toInt64)))), (0, .ref a_t), (1, .int x1), (2, .int x2)]) hx hb dd_Sp_likedPart_96 hl (k := 6) rfl rfl (by decide) rfl (fun ls hl => ?_)
              refine lv_goto (tgt := 8) hx hb dd_Sp_likedPart_99 (by decide) ?_
              exact ih8 x6 (((1000 : Int64) * r57.toInt64) - (x2.toInt64 * ((t_sum (x6).toNatClampNeg).toInt64))) (x6 + 1) _ _ _ hf (lv_sub hl [4, 5, 6, 2, 1, 0] rfl) hP hD hS
  refine lv_iconst (v := -1) hx hb dd_Sp_likedPart_0 (by decide) ?_
  refine lv_istore_n (lv' := [(3, .int (-1)), (0, .ref a_t), (1, .int x1), (2, .int x2)]) hx hb dd_Sp_likedPart_1 rfl hl (by decide) rfl (fun ls hl => ?_)
  refine lv_lconst (v := 0) hx hb dd_Sp_likedPart_2 (by decide) ?_
  refine lv_lstore (lv' := [(4, .long (0 : Int64)), (3, .int (-1)), (0, .ref a_t), (1, .int x1), (2, .int x2)]) hx hb dd_Sp_likedPart_3 hl (by decide) rfl (fun ls hl => ?_)
  refine lv_iconst (v := 0) hx hb dd_Sp_likedPart_5 (by decide) ?_
  refine lv_istore (lv' := [(6, .int 0), (4, .long (0 : Int64)), (3, .int (-1)), (0, .ref a_t), (1, .int x1), (2, .int x2)]) hx hb dd_Sp_likedPart_6 hl (by decide) rfl (fun ls hl => ?_)
  exact h8 64 (-1) (0 : Int64) 0 _ _ _ hf (lv_sub hl [3, 4, 5, 2, 1, 0] rfl) hP hD hS
abbrev wd_Sp_lightestPart (cI cZ : ClassId) (a_t a_t_bounds a_t_sum a_t_graph a_t_home a_t_link a_t_bounds_least a_t_bounds_most : Nat) (t_cut : Int32) (t_over : Int32) (t_bounds_k : Int32) (t_sum : Nat → Int32) : va_W := [(a_t, .inr (7, [.ref a_t_graph, .ref a_t_bounds, .ref a_t_home, .ref a_t_sum, .ref a_t_link, .int t_cut, .int t_over])), (a_t_bounds, .inr (0, [.int t_bounds_k, .ref a_t_bounds_least, .ref a_t_bounds_most])), (a_t_sum, .inl (cI, 4, .inl t_sum))]
set_option maxRecDepth 100000 in
set_option maxHeartbeats 4000000 in
theorem c_Sp_lightestPart (l : Launch) (dC : Nat → ClassId) (dI : Nat → Nat → Nat) (cI cZ : ClassId) (a_t a_t_bounds a_t_sum a_t_graph a_t_home a_t_link a_t_bounds_least a_t_bounds_most sz : Nat) (t_cut : Int32) (t_over : Int32) (t_bounds_k : Int32) (t_sum : Nat → Int32) (out : Int32) (hf : f_Sp_lightestPart t_bounds_k t_sum = some out) :
    Met l yy_Sp_lightestPart wq_Sp_lightestPart ({ frames := 0, cells := 0, slots := 0, locals := 0 }) (va_Pc ([.ref a_t] : List Value) (pre_ (dC, dI) cI cZ sz (wd_Sp_lightestPart cI cZ a_t a_t_bounds a_t_sum a_t_graph a_t_home a_t_link a_t_bounds_least a_t_bounds_most t_cut t_over t_bounds_k t_sum))) (va_Qi (fun (r : Int32) (_ : Unit) => r = out) (fun _ => pst (dC, dI) (va_A (wd_Sp_lightestPart cI cZ a_t a_t_bounds a_t_sum a_t_graph a_t_home a_t_link a_t_bounds_least a_t_bounds_most t_cut t_over t_bounds_k t_sum) sz) (wd_Sp_lightestPart cI cZ a_t a_t_bounds a_t_sum a_t_graph a_t_home a_t_link a_t_bounds_least a_t_bounds_most t_cut t_over t_bounds_k t_sum)) (va_A (wd_Sp_lightestPart cI cZ a_t a_t_bounds a_t_sum a_t_graph a_t_home a_t_link a_t_bounds_least a_t_bounds_most t_cut t_over t_bounds_k t_sum) sz)) 0 0 (va_A (wd_Sp_lightestPart cI cZ a_t a_t_bounds a_t_sum a_t_graph a_t_home a_t_link a_t_bounds_least a_t_bounds_most t_cut t_over t_bounds_k t_sum) sz) := by
  refine Met.ofW (cc := cc_Sp_lightestPart) (maxL := 3) (ret := (some .int)) (by decide) rfl ?_
  intro p e s m args below meth c s₁ B hml hv
  obtain ⟨rfl, hsz, hP, hK, hD0, hN⟩ := hv
  have hx := B.exec
  have hb := B.bytes
  have hr := B.returns
  have hts := atoms_spec (ws := wq_Sp_lightestPart) B.pre
  have hown : s.vm.findClass rr_Sp = some m.cls := findClass_of_methodNamed B.named
  have hlocks := B.notSynchronized
  subst hsz
  have hD := hD0.self (sz := s.heap.size)
  generalize hAe : va_A (wd_Sp_lightestPart cI cZ a_t a_t_bounds a_t_sum a_t_graph a_t_home a_t_link a_t_bounds_least a_t_bounds_most t_cut t_over t_bounds_k t_sum) s.heap.size = A at hD ⊢
  have hA : ∀ q : Nat, s.heap.size ≤ q → A q := fun q h => by rw [← hAe]; exact Or.inr h
  obtain ⟨H, hH⟩ : ∃ H : Heap, H = s.heap := ⟨_, rfl⟩
  have hS : va_S A s.heap H [] := by rw [hH]; exact va_S.rf
  have hl := lv_entry (([.ref a_t] : List Value)) (n := 3) (Nat.le_of_ble_eq_true rfl)
  rw [lg_entry_eq]
  generalize (lg_sl (([.ref a_t] : List Value)) ++ List.replicate (3 - (lg_sl (([.ref a_t] : List Value))).length) Slot.unset).toArray = ls at hl ⊢
  have hl : lv_has ls 3 [(0, .ref a_t)] := hl
  rw [← hH] at hP ⊢
  have hP : va_P (dC, dI) clsL (wd_Sp_lightestPart cI cZ a_t a_t_bounds a_t_sum a_t_graph a_t_home a_t_link a_t_bounds_least a_t_bounds_most t_cut t_over t_bounds_k t_sum) H := hP
  unfold f_Sp_lightestPart at hf
  have h4 : ∀ (n4 : Nat) (x1 : Int32) (x2 : Int32) (ls : Array Slot) (H : Heap) (locs : List Loc), L_Sp_lightestPart_4 t_bounds_k t_sum n4 x1 x2 = some out → lv_has ls 3 [(0, .ref a_t), (1, .int x1), (2, .int x2)] → va_P (dC, dI) clsL (wd_Sp_lightestPart cI cZ a_t a_t_bounds a_t_sum a_t_graph a_t_home a_t_link a_t_bounds_least a_t_bounds_most t_cut t_over t_bounds_k t_sum) H → va_D A (wd_Sp_lightestPart cI cZ a_t a_t_bounds a_t_sum a_t_graph a_t_home a_t_link a_t_bounds_least a_t_bounds_most t_cut t_over t_bounds_k t_sum) → va_S A s.heap H locs → W p l e (headSpec wq_Sp_lightestPart ({ frames := 0, cells := 0, slots := 0, locals := 0 })).room s m ([.ref a_t] : List Value).toArray below meth c H locs 0 0 (MQ below (va_Qi (fun (r : Int32) (_ : Unit) => r = out) (fun _ => pst (dC, dI) A (wd_Sp_lightestPart cI cZ a_t a_t_bounds a_t_sum a_t_graph a_t_home a_t_link a_t_bounds_least a_t_bounds_most t_cut t_over t_bounds_k t_sum)) A) ([.ref a_t] : List Value).toArray s 0 0 A) (F0 m 4 ls []) := by
    intro n4
    induction n4 with
    | zero =>
      intro x1 x2 ls H locs hf
      rw [L_Sp_lightestPart_4] at hf
      exact absurd hf (fun h => by cases h)
    | succ n4 ih4 =>
      intro x1 x2 ls H locs hf hl hP hD hS
      rw [L_Sp_lightestPart_4] at hf
      refine lv_iload_n hx hb dd_Sp_lightestPart_4 rfl (lv_at hl 2 rfl) ?_
      refine lv_aload_n hx hb dd_Sp_lightestPart_5 rfl (lv_at hl 0 rfl) ?_
      refine va_get (D := (dC, dI)) (ci := 7) (v := .ref a_t_bounds) (C := rr_Sp) (T := tt_Sp) (N := 7) hx hb hts (fun w h => gwc (inn_Sp w h)) hown hK hP 0 rfl rfl 1 (by decide) (hts _ (gwc gw_138)) (fun _ h9 => h9) rfl dd_Sp_lightestPart_6 ?_
      refine va_get (D := (dC, dI)) (ci := 0) (v := .int t_bounds_k) (C := rr_Bo) (T := tt_Bo) (N := 3) hx hb hts (fun w h => gwc (inn_Bo w h)) hown hK hP 1 rfl rfl 0 (by decide) (hts _ (gwc gw_115)) (fun _ h9 => h9) rfl dd_Sp_lightestPart_9 ?_
      refine lv_icmp_ge (tgt := 38) hx hb dd_Sp_lightestPart_12 (by decide) (fun cc => ?_) (fun cc => ?_)
      · skip
        have hf := if_t cc hf
        refine lv_iload_n hx hb dd_Sp_lightestPart_38 rfl (lv_at hl 1 rfl) ?_
        cases hf
        exact W.iret hx hb hr (fun t ht hW => ⟨⟨_, (), rfl, rfl, pst_of ht hP hD⟩, hS.F ht⟩) hS.2.2 dd_Sp_lightestPart_39
      · skip
        have hf := if_f cc hf
        refine lv_aload_n hx hb dd_Sp_lightestPart_15 rfl (lv_at hl 0 rfl) ?_
        refine va_get (D := (dC, dI)) (ci := 7) (v := .ref a_t_sum) (C := rr_Sp) (T := tt_Sp) (N := 7) hx hb hts (fun w h => gwc (inn_Sp w h)) hown hK hP 0 rfl rfl 3 (by decide) (hts _ (gwc gw_147)) (fun _ h9 => h9) rfl dd_Sp_lightestPart_16 ?_
        refine lv_iload_n hx hb dd_Sp_lightestPart_19 rfl (lv_at hl 2 rfl) ?_
        obtain ⟨k20, hf⟩ := ck_some hf
        refine va_iald hx hb hK hP 2 0 rfl rfl (okb_in k20) dd_Sp_lightestPart_20 ?_
        refine lv_aload_n hx hb dd_Sp_lightestPart_21 rfl (lv_at hl 0 rfl) ?_
        refine va_get (D := (dC, dI)) (ci := 7) (v := .ref a_t_sum) (C := rr_Sp) (T := tt_Sp) (N := 7) hx hb hts (fun w h => gwc (inn_Sp w h)) hown hK hP 0 rfl rfl 3 (by decide) (hts _ (gwc gw_147)) (fun _ h9 => h9) rfl dd_Sp_lightestPart_22 ?_
        refine lv_iload_n hx hb dd_Sp_lightestPart_25 rfl (lv_at hl 1 rfl) ?_
        obtain ⟨k26, hf⟩ := ck_some hf
        refine va_iald hx hb hK hP 2 0 rfl rfl (okb_in k26) dd_Sp_lightestPart_26 ?_
        refine lv_icmp_ge (tgt := 32) hx hb dd_Sp_lightestPart_27 (by decide) (fun cc => ?_) (fun cc => ?_)
        · skip
          have hf := if_t cc hf
          refine lv_iinc (v := x2 + 1) (lv' := [(2, .int (x2 + 1)), (0, .ref a_t), (1, .int x1)]) hx hb dd_Sp_lightestPart_32 hl (k := 2) rfl rfl (by decide) rfl (fun ls hl => ?_)
          refine lv_goto (tgt := 4) hx hb dd_Sp_lightestPart_35 (by decide) ?_
          exact ih4 x1 (x2 + 1) _ _ _ hf (lv_sub hl [1, 2, 0] rfl) hP hD hS
        · skip
          have hf := if_f cc hf
          refine lv_iload_n hx hb dd_Sp_lightestPart_30 rfl (lv_at hl 2 rfl) ?_
          refine lv_istore_n (lv' := [(1, .int x2), (0, .ref a_t), (2, .int x2)]) hx hb dd_Sp_lightestPart_31 rfl hl (by decide) rfl (fun ls hl => ?_)
          refine lv_iinc (v := x2 + 1) (lv' := [(2, .int (x2 + 1)), (1, .int x2), (0, .ref a_t)]) hx hb dd_Sp_lightestPart_32 hl (k := 2) rfl rfl (by decide) rfl (fun ls hl => ?_)
          refine lv_goto (tgt := 4) hx hb dd_Sp_lightestPart_35 (by decide) ?_
          exact ih4 x2 (x2 + 1) _ _ _ hf (lv_sub hl [2, 1, 0] rfl) hP hD hS
  refine lv_iconst (v := 0) hx hb dd_Sp_lightestPart_0 (by decide) ?_
  refine lv_istore_n (lv' := [(1, .int 0), (0, .ref a_t)]) hx hb dd_Sp_lightestPart_1 rfl hl (by decide) rfl (fun ls hl => ?_)
  refine lv_iconst (v := 1) hx hb dd_Sp_lightestPart_2 (by decide) ?_
  refine lv_istore_n (lv' := [(2, .int 1), (1, .int 0), (0, .ref a_t)]) hx hb dd_Sp_lightestPart_3 rfl hl (by decide) rfl (fun ls hl => ?_)
  exact h4 64 0 1 _ _ _ hf (lv_sub hl [2, 1, 0] rfl) hP hD hS
abbrev wd_Sp_streamAll (cI cZ : ClassId) (a_t a_t_bounds a_t_bounds_most a_t_graph a_t_graph_arcs a_t_graph_weight a_t_home a_t_sum a_p1 a_t_link a_t_bounds_least : Nat) (t_cut : Int32) (t_over : Int32) (t_bounds_k : Int32) (t_bounds_most : Nat → Int32) (t_graph_size : Int32) (t_graph_arcs : Nat → Int32) (t_graph_weight : Nat → Int32) (t_home : Nat → Int32) (t_sum : Nat → Int32) (p1 : Nat → Int32) : va_W := [(a_t, .inr (7, [.ref a_t_graph, .ref a_t_bounds, .ref a_t_home, .ref a_t_sum, .ref a_t_link, .int t_cut, .int t_over])), (a_t_bounds, .inr (0, [.int t_bounds_k, .ref a_t_bounds_least, .ref a_t_bounds_most])), (a_t_bounds_most, .inl (cI, 4, .inl t_bounds_most)), (a_t_graph, .inr (1, [.int t_graph_size, .ref a_t_graph_weight, .ref a_t_graph_arcs])), (a_t_graph_arcs, .inl (cI, 1600, .inl t_graph_arcs)), (a_t_graph_weight, .inl (cI, 40, .inl t_graph_weight)), (a_t_home, .inl (cI, 40, .inl t_home)), (a_t_sum, .inl (cI, 4, .inl t_sum)), (a_p1, .inl (cI, 40, .inl p1))]
set_option maxRecDepth 100000 in
set_option maxHeartbeats 4000000 in
theorem c_Sp_streamAll (l : Launch) (dC : Nat → ClassId) (dI : Nat → Nat → Nat) (cI cZ : ClassId) (a_t a_t_bounds a_t_bounds_most a_t_graph a_t_graph_arcs a_t_graph_weight a_t_home a_t_sum a_p1 a_t_link a_t_bounds_least sz : Nat) (x2 : Int32) (t_cut : Int32) (t_over : Int32) (t_bounds_k : Int32) (t_bounds_most : Nat → Int32) (t_graph_size : Int32) (t_graph_arcs : Nat → Int32) (t_graph_weight : Nat → Int32) (t_home : Nat → Int32) (t_sum : Nat → Int32) (p1 : Nat → Int32) (out : (Nat → Int32) × (Nat → Int32)) (hf : f_Sp_streamAll x2 t_bounds_k t_bounds_most t_graph_size t_graph_arcs t_graph_weight p1 = some out) :
    Met l yy_Sp_streamAll wq_Sp_streamAll ({ frames := 3, cells := 0, slots := 0, locals := 74 }) (va_Pc ([.ref a_t, .ref a_p1, .int x2] : List Value) (pre_ (dC, dI) cI cZ sz (wd_Sp_streamAll cI cZ a_t a_t_bounds a_t_bounds_most a_t_graph a_t_graph_arcs a_t_graph_weight a_t_home a_t_sum a_p1 a_t_link a_t_bounds_least t_cut t_over t_bounds_k t_bounds_most t_graph_size t_graph_arcs t_graph_weight t_home t_sum p1))) (va_Qv (fun _ : Unit => True) (fun _ => pst (dC, dI) (va_A (wd_Sp_streamAll cI cZ a_t a_t_bounds a_t_bounds_most a_t_graph a_t_graph_arcs a_t_graph_weight a_t_home a_t_sum a_p1 a_t_link a_t_bounds_least t_cut t_over t_bounds_k t_bounds_most t_graph_size t_graph_arcs t_graph_weight t_home t_sum p1) sz) (wd_Sp_streamAll cI cZ a_t a_t_bounds a_t_bounds_most a_t_graph a_t_graph_arcs a_t_graph_weight a_t_home a_t_sum a_p1 a_t_link a_t_bounds_least t_cut t_over t_bounds_k t_bounds_most t_graph_size t_graph_arcs t_graph_weight out.1 out.2 p1)) (va_A (wd_Sp_streamAll cI cZ a_t a_t_bounds a_t_bounds_most a_t_graph a_t_graph_arcs a_t_graph_weight a_t_home a_t_sum a_p1 a_t_link a_t_bounds_least t_cut t_over t_bounds_k t_bounds_most t_graph_size t_graph_arcs t_graph_weight t_home t_sum p1) sz)) 0 0 (va_A (wd_Sp_streamAll cI cZ a_t a_t_bounds a_t_bounds_most a_t_graph a_t_graph_arcs a_t_graph_weight a_t_home a_t_sum a_p1 a_t_link a_t_bounds_least t_cut t_over t_bounds_k t_bounds_most t_graph_size t_graph_arcs t_graph_weight t_home t_sum p1) sz) := by
  refine Met.ofW (cc := cc_Sp_streamAll) (maxL := 6) (ret := none) (by decide) rfl ?_
  intro p e s m args below meth c s₁ B hml hv
  obtain ⟨rfl, hsz, hP, hK, hD0, hN⟩ := hv
  have hx := B.exec
  have hb := B.bytes
  have hr := B.returns
  have hts := atoms_spec (ws := wq_Sp_streamAll) B.pre
  have hown : s.vm.findClass rr_Sp = some m.cls := findClass_of_methodNamed B.named
  have hlocks := B.notSynchronized
  subst hsz
  have hD := hD0.self (sz := s.heap.size)
  generalize hAe : va_A (wd_Sp_streamAll cI cZ a_t a_t_bounds a_t_bounds_most a_t_graph a_t_graph_arcs a_t_graph_weight a_t_home a_t_sum a_p1 a_t_link a_t_bounds_least t_cut t_over t_bounds_k t_bounds_most t_graph_size t_graph_arcs t_graph_weight t_home t_sum p1) s.heap.size = A at hD ⊢
  have hA : ∀ q : Nat, s.heap.size ≤ q → A q := fun q h => by rw [← hAe]; exact Or.inr h
  obtain ⟨H, hH⟩ : ∃ H : Heap, H = s.heap := ⟨_, rfl⟩
  have hS : va_S A s.heap H [] := by rw [hH]; exact va_S.rf
  have hl := lv_entry (([.ref a_t, .ref a_p1, .int x2] : List Value)) (n := 6) (Nat.le_of_ble_eq_true rfl)
  rw [lg_entry_eq]
  generalize (lg_sl (([.ref a_t, .ref a_p1, .int x2] : List Value)) ++ List.replicate (6 - (lg_sl (([.ref a_t, .ref a_p1, .int x2] : List Value))).length) Slot.unset).toArray = ls at hl ⊢
  have hl : lv_has ls 6 [(0, .ref a_t), (1, .ref a_p1), (2, .int x2)] := hl
  rw [← hH] at hP ⊢
  have hP : va_P (dC, dI) clsL (wd_Sp_streamAll cI cZ a_t a_t_bounds a_t_bounds_most a_t_graph a_t_graph_arcs a_t_graph_weight a_t_home a_t_sum a_p1 a_t_link a_t_bounds_least t_cut t_over t_bounds_k t_bounds_most t_graph_size t_graph_arcs t_graph_weight t_home t_sum p1) H := hP
  unfold f_Sp_streamAll at hf
  have h6 : ∀ (n6 : Nat) (x3 : Int32) (t_home : Nat → Int32) (t_sum : Nat → Int32) (ls : Array Slot) (H : Heap) (locs : List Loc), L_Sp_streamAll_6 x2 t_bounds_k t_bounds_most t_graph_size t_graph_arcs t_graph_weight p1 n6 x3 t_home t_sum = some out → lv_has ls 6 [(0, .ref a_t), (1, .ref a_p1), (2, .int x2), (3, .int x3)] → va_P (dC, dI) clsL (wd_Sp_streamAll cI cZ a_t a_t_bounds a_t_bounds_most a_t_graph a_t_graph_arcs a_t_graph_weight a_t_home a_t_sum a_p1 a_t_link a_t_bounds_least t_cut t_over t_bounds_k t_bounds_most t_graph_size t_graph_arcs t_graph_weight t_home t_sum p1) H → va_D A (wd_Sp_streamAll cI cZ a_t a_t_bounds a_t_bounds_most a_t_graph a_t_graph_arcs a_t_graph_weight a_t_home a_t_sum a_p1 a_t_link a_t_bounds_least t_cut t_over t_bounds_k t_bounds_most t_graph_size t_graph_arcs t_graph_weight t_home t_sum p1) → va_S A s.heap H locs → W p l e (headSpec wq_Sp_streamAll ({ frames := 3, cells := 0, slots := 0, locals := 74 })).room s m ([.ref a_t, .ref a_p1, .int x2] : List Value).toArray below meth c H locs 0 0 (MQ below (va_Qv (fun _ : Unit => True) (fun _ => pst (dC, dI) A (wd_Sp_streamAll cI cZ a_t a_t_bounds a_t_bounds_most a_t_graph a_t_graph_arcs a_t_graph_weight a_t_home a_t_sum a_p1 a_t_link a_t_bounds_least t_cut t_over t_bounds_k t_bounds_most t_graph_size t_graph_arcs t_graph_weight out.1 out.2 p1)) A) ([.ref a_t, .ref a_p1, .int x2] : List Value).toArray s 0 0 A) (F0 m 6 ls []) := by
    intro n6
    induction n6 with
    | zero =>
      intro x3 t_home t_sum ls H locs hf
      rw [L_Sp_streamAll_6] at hf
      exact absurd hf (fun h => by cases h)
    | succ n6 ih6 =>
      intro x3 t_home t_sum ls H locs hf hl hP hD hS
      rw [L_Sp_streamAll_6] at hf
      have h49 : ∀ (y1 : Int32) (y2 : Int32) (x3 : Int32) (t_home : Nat → Int32) (t_sum : Nat → Int32) (ls : Array Slot) (H : Heap) (locs : List Loc), J_Sp_streamAll_49 t_graph_weight (L_Sp_streamAll_6 x2 t_bounds_k t_bounds_most t_graph_size t_graph_arcs t_graph_weight p1 n6) y1 y2 x3 t_home t_sum = some out → lv_has ls 6 [(0, .ref a_t), (1, .ref a_p1), (2, .int x2), (3, .int x3)] → va_P (dC, dI) clsL (wd_Sp_streamAll cI cZ a_t a_t_bounds a_t_bounds_most a_t_graph a_t_graph_arcs a_t_graph_weight a_t_home a_t_sum a_p1 a_t_link a_t_bounds_least t_cut t_over t_bounds_k t_bounds_most t_graph_size t_graph_arcs t_graph_weight t_home t_sum p1) H → va_D A (wd_Sp_streamAll cI cZ a_t a_t_bounds a_t_bounds_most a_t_graph a_t_graph_arcs a_t_graph_weight a_t_home a_t_sum a_p1 a_t_link a_t_bounds_least t_cut t_over t_bounds_k t_bounds_most t_graph_size t_graph_arcs t_graph_weight t_home t_sum p1) → va_S A s.heap H locs → W p l e (headSpec wq_Sp_streamAll ({ frames := 3, cells := 0, slots := 0, locals := 74 })).room s m ([.ref a_t, .ref a_p1, .int x2] : List Value).toArray below meth c H locs 0 0 (MQ below (va_Qv (fun _ : Unit => True) (fun _ => pst (dC, dI) A (wd_Sp_streamAll cI cZ a_t a_t_bounds a_t_bounds_most a_t_graph a_t_graph_arcs a_t_graph_weight a_t_home a_t_sum a_p1 a_t_link a_t_bounds_least t_cut t_over t_bounds_k t_bounds_most t_graph_size t_graph_arcs t_graph_weight out.1 out.2 p1)) A) ([.ref a_t, .ref a_p1, .int x2] : List Value).toArray s 0 0 A) (F0 m 49 ls [.int y2, .int y1, .ref a_t]) := by
        intro y1 y2 x3 t_home t_sum ls H locs hf hl hP hD hS
        unfold J_Sp_streamAll_49 at hf
        obtain ⟨r49, hr49, hf⟩ := bind_some hf
        refine xcallv (rest := []) (wc := (wd_Sp_place cI cZ a_t a_t_graph a_t_graph_weight a_t_home a_t_sum a_t_bounds a_t_link a_t_graph_arcs t_cut t_over t_graph_size t_graph_weight t_home t_sum)) (w1 := (wd_Sp_place cI cZ a_t a_t_graph a_t_graph_weight a_t_home a_t_sum a_t_bounds a_t_link a_t_graph_arcs t_cut t_over t_graph_size t_graph_weight r49.1 r49.2)) (wr := [(a_t_bounds, .inr (0, [.int t_bounds_k, .ref a_t_bounds_least, .ref a_t_bounds_most])), (a_t_bounds_most, .inl (cI, 4, .inl t_bounds_most)), (a_t_graph_arcs, .inl (cI, 1600, .inl t_graph_arcs)), (a_p1, .inl (cI, 40, .inl p1))]) (ws' := (wd_Sp_streamAll cI cZ a_t a_t_bounds a_t_bounds_most a_t_graph a_t_graph_arcs a_t_graph_weight a_t_home a_t_sum a_p1 a_t_link a_t_bounds_least t_cut t_over t_bounds_k t_bounds_most t_graph_size t_graph_arcs t_graph_weight r49.1 r49.2 p1)) (va_runV (As := [.int y1, .int y2]) ⟨hx, hb, hml, hown, hts⟩ (c_Sp_place l dC dI cI cZ a_t a_t_graph a_t_graph_weight a_t_home a_t_sum a_t_bounds a_t_link a_t_graph_arcs H.size y1 y2 t_cut t_over t_graph_size t_graph_weight t_home t_sum r49 hr49) (cwV 2 hts (gV gw_536 gw_538 gw_14 gw_53 gw_539) rfl rfl rfl (yd_Sp_place) ⟨Nat.le_of_ble_eq_true rfl, Nat.le_of_ble_eq_true rfl⟩) (mkV hK (hP.sub (ws' := (wd_Sp_place cI cZ a_t a_t_graph a_t_graph_weight a_t_home a_t_sum a_t_bounds a_t_link a_t_graph_arcs t_cut t_over t_graph_size t_graph_weight t_home t_sum)) [0, 3, 5, 6, 7] rfl) (hD.sub (ws' := (wd_Sp_place cI cZ a_t a_t_graph a_t_graph_weight a_t_home a_t_sum a_t_bounds a_t_link a_t_graph_arcs t_cut t_over t_graph_size t_graph_weight t_home t_sum)) [0, 3, 5, 6, 7] (by decide) rfl) hN (va_recv hK hP (ci := 7) (q0 := 0) rfl rfl)) rfl rfl hl.1 rfl (lv_room (Nat.le_of_ble_eq_true rfl)) dd_Sp_streamAll_49 ⟨Nat.zero_le _, Nat.zero_le _⟩) hP hD hS hA [0, 3, 5, 6, 7] [1, 2, 4, 8] [4, 0, 1, 5, 2, 6, 7, 8, 3] rfl rfl (by decide) (by decide) rfl (by decide) rfl (fun H locs hP hD hS => ?_)
        refine lv_iinc (v := x3 + 1) (lv' := [(3, .int (x3 + 1)), (0, .ref a_t), (1, .ref a_p1), (2, .int x2)]) hx hb dd_Sp_streamAll_52 hl (k := 3) rfl rfl (by decide) rfl (fun ls hl => ?_)
        refine lv_goto (tgt := 6) hx hb dd_Sp_streamAll_55 (by decide) ?_
        exact ih6 (x3 + 1) r49.1 r49.2 _ _ _ hf (lv_sub hl [1, 2, 3, 0] rfl) hP hD hS
      refine lv_iload_n hx hb dd_Sp_streamAll_6 rfl (lv_at hl 3 rfl) ?_
      refine lv_aload_n hx hb dd_Sp_streamAll_7 rfl (lv_at hl 0 rfl) ?_
      refine va_get (D := (dC, dI)) (ci := 7) (v := .ref a_t_graph) (C := rr_Sp) (T := tt_Sp) (N := 7) hx hb hts (fun w h => gwc (inn_Sp w h)) hown hK hP 0 rfl rfl 0 (by decide) (hts _ (gwc gw_133)) (fun _ h9 => h9) rfl dd_Sp_streamAll_8 ?_
      refine va_get (D := (dC, dI)) (ci := 1) (v := .int t_graph_size) (C := rr_Gr) (T := tt_Gr) (N := 3) hx hb hts (fun w h => gwc (inn_Gr w h)) hown hK hP 3 rfl rfl 0 (by decide) (hts _ (gwc gw_88)) (fun _ h9 => h9) rfl dd_Sp_streamAll_11 ?_
      refine lv_icmp_ge (tgt := 58) hx hb dd_Sp_streamAll_14 (by decide) (fun cc => ?_) (fun cc => ?_)
      · skip
        have hf := if_t cc hf
        cases hf
        exact W.vret hx hb hr (fun t ht hW => ⟨⟨(), rfl, trivial, pst_of ht hP hD⟩, hS.F ht⟩) hS.2.2 dd_Sp_streamAll_58
      · skip
        have hf := if_f cc hf
        refine lv_aload_n hx hb dd_Sp_streamAll_17 rfl (lv_at hl 1 rfl) ?_
        refine lv_iload_n hx hb dd_Sp_streamAll_18 rfl (lv_at hl 3 rfl) ?_
        obtain ⟨k19, hf⟩ := ck_some hf
        refine va_iald hx hb hK hP 8 0 rfl rfl (okb_in k19) dd_Sp_streamAll_19 ?_
        refine lv_istore (lv' := [(4, .int (p1 (x3).toNatClampNeg)), (0, .ref a_t), (1, .ref a_p1), (2, .int x2), (3, .int x3)]) hx hb dd_Sp_streamAll_20 hl (by decide) rfl (fun ls hl => ?_)
        refine lv_aload_n hx hb dd_Sp_streamAll_22 rfl (lv_at hl 1 rfl) ?_
        refine lv_iload hx hb dd_Sp_streamAll_23 (lv_at hl 0 rfl) ?_
        refine lv_iload_n hx hb dd_Sp_streamAll_25 rfl (lv_at hl 3 rfl) ?_
        obtain ⟨r26, hr26, hf⟩ := bind_some hf
        refine xcalli (rest := []) (wc := (wd_Sp_likedPart cI cZ a_t a_t_bounds a_t_bounds_most a_t_graph a_t_graph_arcs a_t_graph_weight a_t_home a_t_sum a_t_link a_t_bounds_least t_cut t_over t_bounds_k t_bounds_most t_graph_size t_graph_arcs t_graph_weight t_home t_sum)) (w1 := (wd_Sp_likedPart cI cZ a_t a_t_bounds a_t_bounds_most a_t_graph a_t_graph_arcs a_t_graph_weight a_t_home a_t_sum a_t_link a_t_bounds_least t_cut t_over t_bounds_k t_bounds_most t_graph_size t_graph_arcs t_graph_weight t_home t_sum)) (wr := [(a_p1, .inl (cI, 40, .inl p1))]) (ws' := (wd_Sp_streamAll cI cZ a_t a_t_bounds a_t_bounds_most a_t_graph a_t_graph_arcs a_t_graph_weight a_t_home a_t_sum a_p1 a_t_link a_t_bounds_least t_cut t_over t_bounds_k t_bounds_most t_graph_size t_graph_arcs t_graph_weight t_home t_sum p1)) (va_runV (As := [.int (p1 (x3).toNatClampNeg), .int x2]) ⟨hx, hb, hml, hown, hts⟩ (c_Sp_likedPart l dC dI cI cZ a_t a_t_bounds a_t_bounds_most a_t_graph a_t_graph_arcs a_t_graph_weight a_t_home a_t_sum a_t_link a_t_bounds_least H.size (p1 (x3).toNatClampNeg) x2 t_cut t_over t_bounds_k t_bounds_most t_graph_size t_graph_arcs t_graph_weight t_home t_sum r26 hr26) (cwV 2 hts (gV gw_611 gw_613 gw_21 gw_53 gw_614) rfl rfl rfl (yd_Sp_likedPart) ⟨Nat.le_of_ble_eq_true rfl, Nat.le_of_ble_eq_true rfl⟩) (mkV hK (hP.sub (ws' := (wd_Sp_likedPart cI cZ a_t a_t_bounds a_t_bounds_most a_t_graph a_t_graph_arcs a_t_graph_weight a_t_home a_t_sum a_t_link a_t_bounds_least t_cut t_over t_bounds_k t_bounds_most t_graph_size t_graph_arcs t_graph_weight t_home t_sum)) [0, 1, 2, 3, 4, 5, 6, 7] rfl) (hD.sub (ws' := (wd_Sp_likedPart cI cZ a_t a_t_bounds a_t_bounds_most a_t_graph a_t_graph_arcs a_t_graph_weight a_t_home a_t_sum a_t_link a_t_bounds_least t_cut t_over t_bounds_k t_bounds_most t_graph_size t_graph_arcs t_graph_weight t_home t_sum)) [0, 1, 2, 3, 4, 5, 6, 7] (by decide) rfl) hN (va_recv hK hP (ci := 7) (q0 := 0) rfl rfl)) rfl rfl hl.1 rfl (lv_room (Nat.le_of_ble_eq_true rfl)) dd_Sp_streamAll_26 ⟨Nat.zero_le _, Nat.zero_le _⟩) hP hD hS hA [0, 1, 2, 3, 4, 5, 6, 7] [8] [1, 2, 3, 4, 5, 6, 7, 8, 0] rfl rfl (by decide) (by decide) rfl (by decide) rfl (fun H locs hP hD hS => ?_)
        refine lv_istore (lv' := [(5, .int r26), (4, .int (p1 (x3).toNatClampNeg)), (0, .ref a_t), (1, .ref a_p1), (2, .int x2), (3, .int x3)]) hx hb dd_Sp_streamAll_29 hl (by decide) rfl (fun ls hl => ?_)
        refine lv_aload_n hx hb dd_Sp_streamAll_31 rfl (lv_at hl 2 rfl) ?_
        refine lv_iload hx hb dd_Sp_streamAll_32 (lv_at hl 1 rfl) ?_
        refine lv_iload hx hb dd_Sp_streamAll_34 (lv_at hl 0 rfl) ?_
        refine lv_iconst (v := -1) hx hb dd_Sp_streamAll_36 (by decide) ?_
        refine lv_icmp_ne (tgt := 47) hx hb dd_Sp_streamAll_37 (by decide) (fun cc => ?_) (fun cc => ?_)
        · skip
          have hf := if_f cc hf
          refine lv_iload hx hb dd_Sp_streamAll_47 (lv_at hl 0 rfl) ?_
          exact h49 (p1 (x3).toNatClampNeg) r26 x3 t_home t_sum _ _ _ hf (lv_sub hl [2, 3, 4, 5] rfl) hP hD hS
        · skip
          have hf := if_t cc hf
          refine lv_aload_n hx hb dd_Sp_streamAll_40 rfl (lv_at hl 2 rfl) ?_
          obtain ⟨r41, hr41, hf⟩ := bind_some hf
          refine xcalli (rest := [.int (p1 (x3).toNatClampNeg), .ref a_t]) (wc := (wd_Sp_lightestPart cI cZ a_t a_t_bounds a_t_sum a_t_graph a_t_home a_t_link a_t_bounds_least a_t_bounds_most t_cut t_over t_bounds_k t_sum)) (w1 := (wd_Sp_lightestPart cI cZ a_t a_t_bounds a_t_sum a_t_graph a_t_home a_t_link a_t_bounds_least a_t_bounds_most t_cut t_over t_bounds_k t_sum)) (wr := [(a_t_bounds_most, .inl (cI, 4, .inl t_bounds_most)), (a_t_graph, .inr (1, [.int t_graph_size, .ref a_t_graph_weight, .ref a_t_graph_arcs])), (a_t_graph_arcs, .inl (cI, 1600, .inl t_graph_arcs)), (a_t_graph_weight, .inl (cI, 40, .inl t_graph_weight)), (a_t_home, .inl (cI, 40, .inl t_home)), (a_p1, .inl (cI, 40, .inl p1))]) (ws' := (wd_Sp_streamAll cI cZ a_t a_t_bounds a_t_bounds_most a_t_graph a_t_graph_arcs a_t_graph_weight a_t_home a_t_sum a_p1 a_t_link a_t_bounds_least t_cut t_over t_bounds_k t_bounds_most t_graph_size t_graph_arcs t_graph_weight t_home t_sum p1)) (va_runV (As := []) ⟨hx, hb, hml, hown, hts⟩ (c_Sp_lightestPart l dC dI cI cZ a_t a_t_bounds a_t_sum a_t_graph a_t_home a_t_link a_t_bounds_least a_t_bounds_most H.size t_cut t_over t_bounds_k t_sum r41 hr41) (cwV 0 hts (gV gw_620 gw_622 gw_23 gw_53 gw_623) rfl rfl rfl (yd_Sp_lightestPart) ⟨Nat.le_of_ble_eq_true rfl, Nat.le_of_ble_eq_true rfl⟩) (mkV hK (hP.sub (ws' := (wd_Sp_lightestPart cI cZ a_t a_t_bounds a_t_sum a_t_graph a_t_home a_t_link a_t_bounds_least a_t_bounds_most t_cut t_over t_bounds_k t_sum)) [0, 1, 7] rfl) (hD.sub (ws' := (wd_Sp_lightestPart cI cZ a_t a_t_bounds a_t_sum a_t_graph a_t_home a_t_link a_t_bounds_least a_t_bounds_most t_cut t_over t_bounds_k t_sum)) [0, 1, 7] (by decide) rfl) hN (va_recv hK hP (ci := 7) (q0 := 0) rfl rfl)) rfl rfl hl.1 rfl (lv_room (Nat.le_of_ble_eq_true rfl)) dd_Sp_streamAll_41 ⟨Nat.zero_le _, Nat.zero_le _⟩) hP hD hS hA [0, 1, 7] [2, 3, 4, 5, 6, 8] [6, 7, 0, 1, 2, 3, 4, 8, 5] rfl rfl (by decide) (by decide) rfl (by decide) rfl (fun H locs hP hD hS => ?_)
          refine lv_goto (tgt := 49) hx hb dd_Sp_streamAll_44 (by decide) ?_
          exact h49 (p1 (x3).toNatClampNeg) r41 x3 t_home t_sum _ _ _ hf (lv_sub hl [2, 3, 4, 5] rfl) hP hD hS
  refine lv_aload_n hx hb dd_Sp_streamAll_0 rfl (lv_at hl 0 rfl) ?_
  obtain ⟨r1, hr1, hf⟩ := bind_some hf
  refine xcallv (rest := []) (wc := (wd_Sp_takeAllOut cI cZ a_t a_t_home a_t_sum a_t_graph a_t_bounds a_t_link t_cut t_over t_home t_sum)) (w1 := (wd_Sp_takeAllOut cI cZ a_t a_t_home a_t_sum a_t_graph a_t_bounds a_t_link t_cut t_over r1.1 r1.2)) (wr := [(a_t_bounds, .inr (0, [.int t_bounds_k, .ref a_t_bounds_least, .ref a_t_bounds_most])), (a_t_bounds_most, .inl (cI, 4, .inl t_bounds_most)), (a_t_graph, .inr (1, [.int t_graph_size, .ref a_t_graph_weight, .ref a_t_graph_arcs])), (a_t_graph_arcs, .inl (cI, 1600, .inl t_graph_arcs)), (a_t_graph_weight, .inl (cI, 40, .inl t_graph_weight)), (a_p1, .inl (cI, 40, .inl p1))]) (ws' := (wd_Sp_streamAll cI cZ a_t a_t_bounds a_t_bounds_most a_t_graph a_t_graph_arcs a_t_graph_weight a_t_home a_t_sum a_p1 a_t_link a_t_bounds_least t_cut t_over t_bounds_k t_bounds_most t_graph_size t_graph_arcs t_graph_weight r1.1 r1.2 p1)) (va_runV (As := []) ⟨hx, hb, hml, hown, hts⟩ (c_Sp_takeAllOut l dC dI cI cZ a_t a_t_home a_t_sum a_t_graph a_t_bounds a_t_link H.size t_cut t_over t_home t_sum r1 hr1) (cwV 0 hts (gV gw_524 gw_526 gw_11 gw_53 gw_527) rfl rfl rfl (yd_Sp_takeAllOut) ⟨Nat.le_of_ble_eq_true rfl, Nat.le_of_ble_eq_true rfl⟩) (mkV hK (hP.sub (ws' := (wd_Sp_takeAllOut cI cZ a_t a_t_home a_t_sum a_t_graph a_t_bounds a_t_link t_cut t_over t_home t_sum)) [0, 6, 7] rfl) (hD.sub (ws' := (wd_Sp_takeAllOut cI cZ a_t a_t_home a_t_sum a_t_graph a_t_bounds a_t_link t_cut t_over t_home t_sum)) [0, 6, 7] (by decide) rfl) hN (va_recv hK hP (ci := 7) (q0 := 0) rfl rfl)) rfl rfl hl.1 rfl (lv_room (Nat.le_of_ble_eq_true rfl)) dd_Sp_streamAll_1 ⟨Nat.zero_le _, Nat.zero_le _⟩) hP hD hS hA [0, 6, 7] [1, 2, 3, 4, 5, 8] [6, 0, 1, 2, 3, 4, 7, 8, 5] rfl rfl (by decide) (by decide) rfl (by decide) rfl (fun H locs hP hD hS => ?_)
  refine lv_iconst (v := 0) hx hb dd_Sp_streamAll_4 (by decide) ?_
  refine lv_istore_n (lv' := [(3, .int 0), (0, .ref a_t), (1, .ref a_p1), (2, .int x2)]) hx hb dd_Sp_streamAll_5 rfl hl (by decide) rfl (fun ls hl => ?_)
  exact h6 64 0 r1.1 r1.2 _ _ _ hf (lv_sub hl [1, 2, 3, 0] rfl) hP hD hS
set_option maxRecDepth 100000 in
set_option maxHeartbeats 4000000 in
theorem c_Sp_new (l : Launch) (dC : Nat → ClassId) (dI : Nat → Nat → Nat) (cI cZ : ClassId) (a_t sz : Nat) : Met l yy_Sp_new wq_Sp_new ({ frames := 2, cells := 9, slots := 1858, locals := 32 }) (va_Pc [.ref a_t] (pre_ (dC, dI) cI cZ sz [(a_t, .inr (7, [.null, .null, .null, .null, .null, .int 0, .int 0]))])) (va_Qv (fun _ : Unit => True) (fun _ t => ∃ q5 q5_q12 q5_q21 q16 q16_q11 q16_q18 q29 q36 q45 : Nat, pst (dC, dI) (va_A [(a_t, .inr (7, [.null, .null, .null, .null, .null, .int 0, .int 0]))] sz) [(a_t, .inr (7, [.ref q5, .ref q16, .ref q29, .ref q36, .ref q45, .int 0, .int 0])), (q5, .inr (1, [.int 0, .ref q5_q12, .ref q5_q21])), (q5_q12, .inl (cI, 40, .inl (fun _ => 0))), (q5_q21, .inl (cI, 1600, .inl (fun _ => 0))), (q16, .inr (0, [.int 2, .ref q16_q11, .ref q16_q18])), (q16_q11, .inl (cI, 4, .inl (fun _ => 0))), (q16_q18, .inl (cI, 4, .inl (upd (upd (upd (upd (fun _ => 0) (0 : Int32).toNatClampNeg 1000000) (1 : Int32).toNatClampNeg 1000000) (2 : Int32).toNatClampNeg 1000000) (3 : Int32).toNatClampNeg 1000000))), (q29, .inl (cI, 40, .inl (fun _ => 0))), (q36, .inl (cI, 4, .inl (fun _ => 0))), (q45, .inl (cI, 160, .inl (fun _ => 0)))] t) (va_A [(a_t, .inr (7, [.null, .null, .null, .null, .null, .int 0, .int 0]))] sz)) 9 1858 (va_A [(a_t, .inr (7, [.null, .null, .null, .null, .null, .int 0, .int 0]))] sz) := by
  refine Met.ofW (cc := cc_Sp_new) (maxL := 1) (ret := none) (by decide) rfl ?_
  intro p e s m args below meth c s₁ B hml hv
  obtain ⟨rfl, hsz, hP, hK, hD0, hN⟩ := hv
  have hx := B.exec
  have hb := B.bytes
  have hr := B.returns
  have hts := atoms_spec (ws := wq_Sp_new) B.pre
  have hown : s.vm.findClass rr_Sp = some m.cls := findClass_of_methodNamed B.named
  have hlocks := B.notSynchronized
  have hin : meth.name = "<init>" := (name_of_methodNamed B.named B.method).1
  subst hsz
  have hD := hD0.self (sz := s.heap.size)
  generalize hAe : va_A [(a_t, .inr (7, [.null, .null, .null, .null, .null, .int 0, .int 0]))] s.heap.size = A at hD ⊢
  have hA : ∀ q : Nat, s.heap.size ≤ q → A q := fun q h => by rw [← hAe]; exact Or.inr h
  have hS : va_S A s.heap s.heap [] := va_S.rf
  have hl := lv_entry ([.ref a_t]) (n := 1) (Nat.le_of_ble_eq_true rfl)
  rw [lg_entry_eq]
  generalize (lg_sl ([.ref a_t]) ++ List.replicate (1 - (lg_sl ([.ref a_t])).length) Slot.unset).toArray = ls at hl ⊢
  have hl : lv_has ls 1 [(0, .ref a_t)] := hl
  refine lv_aload_n hx hb dd_Sp_new_0 rfl (lv_at hl 0 rfl) ?_
  refine W.objInit hx hb hown (hts _ (gwc gw_78)) (hts _ (gwc gw_71)) (hts _ (gwc gw_72)) rfl (by rw [hml]; exact hl.1) rfl dd_Sp_new_1 (Nat.le_of_ble_eq_true rfl) (Nat.le_of_ble_eq_true rfl) ?_
  refine W.eq (g2 := F0 m 4 ls []) rfl ?_
  refine lv_aload_n hx hb dd_Sp_new_4 rfl (lv_at hl 0 rfl) ?_
  refine va_new (ci := 1) (fs := [.int 0, .null, .null]) (C := rr_Gr) (T := tt_Gr) (N := 3) hx hb hts (fun w h => gwc (inn_Gr w h)) tf_Gr to_Gr hown (hts _ (gwc gw_79)) (hts _ (gwc gw_80)) (hts _ (gwc gw_54)) hK hP hD hS hA rfl (fun j hj => by rcases (show j = 0 ∨ j = 1 ∨ j = 2 by omega) with rfl | rfl | rfl <;> rfl) (Nat.le_of_ble_eq_true rfl) (Nat.le_of_ble_eq_true rfl) dd_Sp_new_5 (fun q5 H hP hD hS => ?_)
  have hP : va_P (dC, dI) clsL [(a_t, .inr (7, [.null, .null, .null, .null, .null, .int 0, .int 0])), (q5, .inr (1, [.int 0, .null, .null]))] H := hP
  have hD : va_D A [(a_t, .inr (7, [.null, .null, .null, .null, .null, .int 0, .int 0])), (q5, .inr (1, [.int 0, .null, .null]))] := hD
  refine W.widen (k := 1) (n := 3) (by decide) (by decide) ?_
  refine lv_dup hx hb dd_Sp_new_8 rfl ?_
  have hF := va_free (wc := [(q5, .inr (1, [.int 0, .null, .null]))]) hD hS hA [1] rfl
  refine va_callv (va_runIN (As := []) (rest := [.ref q5, .ref a_t]) ⟨hx, hb, hml, hown, hts⟩ (c_Gr_new l dC dI cI cZ q5 H.size) ⟨va_cnB 0 hts (gC gw_83) rfl rfl rfl (hN _ (List.mem_of_getElem? (i := 1) rfl)) (hts _ (gwc gw_54)) (yd_Gr_new).2 ⟨Nat.le_of_ble_eq_true rfl, Nat.le_of_ble_eq_true rfl⟩, rfl, hts _ (gwc gw_82)⟩ (mkS hK (hP.sub (ws' := [(q5, .inr (1, [.int 0, .null, .null]))]) [1] rfl) (hD.sub (ws' := [(q5, .inr (1, [.int 0, .null, .null]))]) [1] (by decide) rfl) hN) rfl rfl hl.1 rfl (lv_room (Nat.le_of_ble_eq_true rfl)) dd_Sp_new_9 ⟨Nat.le_of_ble_eq_true rfl, Nat.le_of_ble_eq_true rfl⟩) hS (fun q _ h => hF q h) hF (fun u t H1 locs ht hvm hw hB hz1 hk1 hS => ?_)
  obtain ⟨q5_q12, q5_q21, hP1, hD1⟩ := hB
  rw [ht] at hP1
  obtain ⟨hP, hD⟩ := va_join (wr := [(a_t, .inr (7, [.null, .null, .null, .null, .null, .int 0, .int 0]))]) (w1 := [(q5, .inr (1, [.int 0, .ref q5_q12, .ref q5_q21])), (q5_q12, .inl (cI, 40, .inl (fun _ => 0))), (q5_q21, .inl (cI, 1600, .inl (fun _ => 0)))]) hP hD [1] [0] rfl rfl (by decide) (by decide) hk1 hF hP1 hD1
  generalize H1 = H at hP hS ⊢
  have hP : va_P (dC, dI) clsL [(a_t, .inr (7, [.null, .null, .null, .null, .null, .int 0, .int 0])), (q5, .inr (1, [.int 0, .ref q5_q12, .ref q5_q21])), (q5_q12, .inl (cI, 40, .inl (fun _ => 0))), (q5_q21, .inl (cI, 1600, .inl (fun _ => 0)))] H := hP
  have hD : va_D A [(a_t, .inr (7, [.null, .null, .null, .null, .null, .int 0, .int 0])), (q5, .inr (1, [.int 0, .ref q5_q12, .ref q5_q21])), (q5_q12, .inl (cI, 40, .inl (fun _ => 0))), (q5_q21, .inl (cI, 1600, .inl (fun _ => 0)))] := hD
  refine W.widen (k := 3) (n := 1643) (by decide) (by decide) ?_
  refine va_putF (D := (dC, dI)) (ci := 7) (v := .ref q5) (ty := (.object "BalancedSplits$Graph")) (C := rr_Sp) (T := tt_Sp) (N := 7) hx hb hts (fun w h => gwc (inn_Sp w h)) tf_Sp to_Sp tn_Sp hown hK hP hD hS 0 rfl rfl 0 (by decide) (hts _ (gwc gw_133)) (fun _ h9 => h9) rfl hin rfl (by decide +kernel) rfl rfl (Nat.le_of_ble_eq_true rfl) dd_Sp_new_12 (fun H locs hP hD hS => ?_)
  have hP : va_P (dC, dI) clsL [(a_t, .inr (7, [.ref q5, .null, .null, .null, .null, .int 0, .int 0])), (q5, .inr (1, [.int 0, .ref q5_q12, .ref q5_q21])), (q5_q12, .inl (cI, 40, .inl (fun _ => 0))), (q5_q21, .inl (cI, 1600, .inl (fun _ => 0)))] H := hP
  have hD : va_D A [(a_t, .inr (7, [.ref q5, .null, .null, .null, .null, .int 0, .int 0])), (q5, .inr (1, [.int 0, .ref q5_q12, .ref q5_q21])), (q5_q12, .inl (cI, 40, .inl (fun _ => 0))), (q5_q21, .inl (cI, 1600, .inl (fun _ => 0)))] := hD
  refine lv_aload_n hx hb dd_Sp_new_15 rfl (lv_at hl 0 rfl) ?_
  refine va_new (ci := 0) (fs := [.int 0, .null, .null]) (C := rr_Bo) (T := tt_Bo) (N := 3) hx hb hts (fun w h => gwc (inn_Bo w h)) tf_Bo to_Bo hown (hts _ (gwc gw_107)) (hts _ (gwc gw_108)) (hts _ (gwc gw_55)) hK hP hD hS hA rfl (fun j hj => by rcases (show j = 0 ∨ j = 1 ∨ j = 2 by omega) with rfl | rfl | rfl <;> rfl) (Nat.le_of_ble_eq_true rfl) (Nat.le_of_ble_eq_true rfl) dd_Sp_new_16 (fun q16 H hP hD hS => ?_)
  have hP : va_P (dC, dI) clsL [(a_t, .inr (7, [.ref q5, .null, .null, .null, .null, .int 0, .int 0])), (q5, .inr (1, [.int 0, .ref q5_q12, .ref q5_q21])), (q5_q12, .inl (cI, 40, .inl (fun _ => 0))), (q5_q21, .inl (cI, 1600, .inl (fun _ => 0))), (q16, .inr (0, [.int 0, .null, .null]))] H := hP
  have hD : va_D A [(a_t, .inr (7, [.ref q5, .null, .null, .null, .null, .int 0, .int 0])), (q5, .inr (1, [.int 0, .ref q5_q12, .ref q5_q21])), (q5_q12, .inl (cI, 40, .inl (fun _ => 0))), (q5_q21, .inl (cI, 1600, .inl (fun _ => 0))), (q16, .inr (0, [.int 0, .null, .null]))] := hD
  refine W.widen (k := 4) (n := 1646) (by decide) (by decide) ?_
  refine lv_dup hx hb dd_Sp_new_19 rfl ?_
  have hF := va_free (wc := [(q16, .inr (0, [.int 0, .null, .null]))]) hD hS hA [4] rfl
  refine va_callv (va_runIN (As := []) (rest := [.ref q16, .ref a_t]) ⟨hx, hb, hml, hown, hts⟩ (c_Bo_new l dC dI cI cZ q16 H.size) ⟨va_cnB 0 hts (gC gw_111) rfl rfl rfl (hN _ (List.mem_of_getElem? (i := 2) rfl)) (hts _ (gwc gw_55)) (yd_Bo_new).2 ⟨Nat.le_of_ble_eq_true rfl, Nat.le_of_ble_eq_true rfl⟩, rfl, hts _ (gwc gw_110)⟩ (mkS hK (hP.sub (ws' := [(q16, .inr (0, [.int 0, .null, .null]))]) [4] rfl) (hD.sub (ws' := [(q16, .inr (0, [.int 0, .null, .null]))]) [4] (by decide) rfl) hN) rfl rfl hl.1 rfl (lv_room (Nat.le_of_ble_eq_true rfl)) dd_Sp_new_20 ⟨Nat.le_of_ble_eq_true rfl, Nat.le_of_ble_eq_true rfl⟩) hS (fun q _ h => hF q h) hF (fun u t H1 locs ht hvm hw hB hz1 hk1 hS => ?_)
  obtain ⟨q16_q11, q16_q18, hP1, hD1⟩ := hB
  rw [ht] at hP1
  obtain ⟨hP, hD⟩ := va_join (wr := [(a_t, .inr (7, [.ref q5, .null, .null, .null, .null, .int 0, .int 0])), (q5, .inr (1, [.int 0, .ref q5_q12, .ref q5_q21])), (q5_q12, .inl (cI, 40, .inl (fun _ => 0))), (q5_q21, .inl (cI, 1600, .inl (fun _ => 0)))]) (w1 := [(q16, .inr (0, [.int 2, .ref q16_q11, .ref q16_q18])), (q16_q11, .inl (cI, 4, .inl (fun _ => 0))), (q16_q18, .inl (cI, 4, .inl (upd (upd (upd (upd (fun _ => 0) (0 : Int32).toNatClampNeg 1000000) (1 : Int32).toNatClampNeg 1000000) (2 : Int32).toNatClampNeg 1000000) (3 : Int32).toNatClampNeg 1000000)))]) hP hD [4] [0, 1, 2, 3] rfl rfl (by decide) (by decide) hk1 hF hP1 hD1
  generalize H1 = H at hP hS ⊢
  have hP : va_P (dC, dI) clsL [(a_t, .inr (7, [.ref q5, .null, .null, .null, .null, .int 0, .int 0])), (q5, .inr (1, [.int 0, .ref q5_q12, .ref q5_q21])), (q5_q12, .inl (cI, 40, .inl (fun _ => 0))), (q5_q21, .inl (cI, 1600, .inl (fun _ => 0))), (q16, .inr (0, [.int 2, .ref q16_q11, .ref q16_q18])), (q16_q11, .inl (cI, 4, .inl (fun _ => 0))), (q16_q18, .inl (cI, 4, .inl (upd (upd (upd (upd (fun _ => 0) (0 : Int32).toNatClampNeg 1000000) (1 : Int32).toNatClampNeg 1000000) (2 : Int32).toNatClampNeg 1000000) (3 : Int32).toNatClampNeg 1000000)))] H := hP
  have hD : va_D A [(a_t, .inr (7, [.ref q5, .null, .null, .null, .null, .int 0, .int 0])), (q5, .inr (1, [.int 0, .ref q5_q12, .ref q5_q21])), (q5_q12, .inl (cI, 40, .inl (fun _ => 0))), (q5_q21, .inl (cI, 1600, .inl (fun _ => 0))), (q16, .inr (0, [.int 2, .ref q16_q11, .ref q16_q18])), (q16_q11, .inl (cI, 4, .inl (fun _ => 0))), (q16_q18, .inl (cI, 4, .inl (upd (upd (upd (upd (fun _ => 0) (0 : Int32).toNatClampNeg 1000000) (1 : Int32).toNatClampNeg 1000000) (2 : Int32).toNatClampNeg 1000000) (3 : Int32).toNatClampNeg 1000000)))] := hD
  refine W.widen (k := 6) (n := 1654) (by decide) (by decide) ?_
  refine va_putF (D := (dC, dI)) (ci := 7) (v := .ref q16) (ty := (.object "BalancedSplits$Bounds")) (C := rr_Sp) (T := tt_Sp) (N := 7) hx hb hts (fun w h => gwc (inn_Sp w h)) tf_Sp to_Sp tn_Sp hown hK hP hD hS 0 rfl rfl 1 (by decide) (hts _ (gwc gw_138)) (fun _ h9 => h9) rfl hin rfl (by decide +kernel) rfl rfl (Nat.le_of_ble_eq_true rfl) dd_Sp_new_23 (fun H locs hP hD hS => ?_)
  have hP : va_P (dC, dI) clsL [(a_t, .inr (7, [.ref q5, .ref q16, .null, .null, .null, .int 0, .int 0])), (q5, .inr (1, [.int 0, .ref q5_q12, .ref q5_q21])), (q5_q12, .inl (cI, 40, .inl (fun _ => 0))), (q5_q21, .inl (cI, 1600, .inl (fun _ => 0))), (q16, .inr (0, [.int 2, .ref q16_q11, .ref q16_q18])), (q16_q11, .inl (cI, 4, .inl (fun _ => 0))), (q16_q18, .inl (cI, 4, .inl (upd (upd (upd (upd (fun _ => 0) (0 : Int32).toNatClampNeg 1000000) (1 : Int32).toNatClampNeg 1000000) (2 : Int32).toNatClampNeg 1000000) (3 : Int32).toNatClampNeg 1000000)))] H := hP
  have hD : va_D A [(a_t, .inr (7, [.ref q5, .ref q16, .null, .null, .null, .int 0, .int 0])), (q5, .inr (1, [.int 0, .ref q5_q12, .ref q5_q21])), (q5_q12, .inl (cI, 40, .inl (fun _ => 0))), (q5_q21, .inl (cI, 1600, .inl (fun _ => 0))), (q16, .inr (0, [.int 2, .ref q16_q11, .ref q16_q18])), (q16_q11, .inl (cI, 4, .inl (fun _ => 0))), (q16_q18, .inl (cI, 4, .inl (upd (upd (upd (upd (fun _ => 0) (0 : Int32).toNatClampNeg 1000000) (1 : Int32).toNatClampNeg 1000000) (2 : Int32).toNatClampNeg 1000000) (3 : Int32).toNatClampNeg 1000000)))] := hD
  refine lv_aload_n hx hb dd_Sp_new_26 rfl (lv_at hl 0 rfl) ?_
  refine lv_bipush (v := 40) hx hb dd_Sp_new_27 (by decide) ?_
  refine xnewi (N := 40) hx hb (hts _ (gwc gw_106)) hK hP hD hS hA (by decide) (by decide) (by decide) (Nat.le_of_ble_eq_true rfl) (Nat.le_of_ble_eq_true rfl) dd_Sp_new_29 (fun q29 H hP hD hS => ?_)
  have hP : va_P (dC, dI) clsL [(a_t, .inr (7, [.ref q5, .ref q16, .null, .null, .null, .int 0, .int 0])), (q5, .inr (1, [.int 0, .ref q5_q12, .ref q5_q21])), (q5_q12, .inl (cI, 40, .inl (fun _ => 0))), (q5_q21, .inl (cI, 1600, .inl (fun _ => 0))), (q16, .inr (0, [.int 2, .ref q16_q11, .ref q16_q18])), (q16_q11, .inl (cI, 4, .inl (fun _ => 0))), (q16_q18, .inl (cI, 4, .inl (upd (upd (upd (upd (fun _ => 0) (0 : Int32).toNatClampNeg 1000000) (1 : Int32).toNatClampNeg 1000000) (2 : Int32).toNatClampNeg 1000000) (3 : Int32).toNatClampNeg 1000000))), (q29, .inl (cI, 40, .inl (fun _ => 0)))] H := hP
  have hD : va_D A [(a_t, .inr (7, [.ref q5, .ref q16, .null, .null, .null, .int 0, .int 0])), (q5, .inr (1, [.int 0, .ref q5_q12, .ref q5_q21])), (q5_q12, .inl (cI, 40, .inl (fun _ => 0))), (q5_q21, .inl (cI, 1600, .inl (fun _ => 0))), (q16, .inr (0, [.int 2, .ref q16_q11, .ref q16_q18])), (q16_q11, .inl (cI, 4, .inl (fun _ => 0))), (q16_q18, .inl (cI, 4, .inl (upd (upd (upd (upd (fun _ => 0) (0 : Int32).toNatClampNeg 1000000) (1 : Int32).toNatClampNeg 1000000) (2 : Int32).toNatClampNeg 1000000) (3 : Int32).toNatClampNeg 1000000))), (q29, .inl (cI, 40, .inl (fun _ => 0)))] := hD
  refine W.widen (k := 7) (n := 1694) (by decide) (by decide) ?_
  refine va_putF (D := (dC, dI)) (ci := 7) (v := .ref q29) (ty := (.array .int)) (C := rr_Sp) (T := tt_Sp) (N := 7) hx hb hts (fun w h => gwc (inn_Sp w h)) tf_Sp to_Sp tn_Sp hown hK hP hD hS 0 rfl rfl 2 (by decide) (hts _ (gwc gw_142)) (fun _ h9 => h9) rfl hin rfl (by decide +kernel) rfl rfl (Nat.le_of_ble_eq_true rfl) dd_Sp_new_31 (fun H locs hP hD hS => ?_)
  have hP : va_P (dC, dI) clsL [(a_t, .inr (7, [.ref q5, .ref q16, .ref q29, .null, .null, .int 0, .int 0])), (q5, .inr (1, [.int 0, .ref q5_q12, .ref q5_q21])), (q5_q12, .inl (cI, 40, .inl (fun _ => 0))), (q5_q21, .inl (cI, 1600, .inl (fun _ => 0))), (q16, .inr (0, [.int 2, .ref q16_q11, .ref q16_q18])), (q16_q11, .inl (cI, 4, .inl (fun _ => 0))), (q16_q18, .inl (cI, 4, .inl (upd (upd (upd (upd (fun _ => 0) (0 : Int32).toNatClampNeg 1000000) (1 : Int32).toNatClampNeg 1000000) (2 : Int32).toNatClampNeg 1000000) (3 : Int32).toNatClampNeg 1000000))), (q29, .inl (cI, 40, .inl (fun _ => 0)))] H := hP
  have hD : va_D A [(a_t, .inr (7, [.ref q5, .ref q16, .ref q29, .null, .null, .int 0, .int 0])), (q5, .inr (1, [.int 0, .ref q5_q12, .ref q5_q21])), (q5_q12, .inl (cI, 40, .inl (fun _ => 0))), (q5_q21, .inl (cI, 1600, .inl (fun _ => 0))), (q16, .inr (0, [.int 2, .ref q16_q11, .ref q16_q18])), (q16_q11, .inl (cI, 4, .inl (fun _ => 0))), (q16_q18, .inl (cI, 4, .inl (upd (upd (upd (upd (fun _ => 0) (0 : Int32).toNatClampNeg 1000000) (1 : Int32).toNatClampNeg 1000000) (2 : Int32).toNatClampNeg 1000000) (3 : Int32).toNatClampNeg 1000000))), (q29, .inl (cI, 40, .inl (fun _ => 0)))] := hD
  refine lv_aload_n hx hb dd_Sp_new_34 rfl (lv_at hl 0 rfl) ?_
  refine lv_iconst (v := 4) hx hb dd_Sp_new_35 (by decide) ?_
  refine xnewi (N := 4) hx hb (hts _ (gwc gw_106)) hK hP hD hS hA (by decide) (by decide) (by decide) (Nat.le_of_ble_eq_true rfl) (Nat.le_of_ble_eq_true rfl) dd_Sp_new_36 (fun q36 H hP hD hS => ?_)
  have hP : va_P (dC, dI) clsL [(a_t, .inr (7, [.ref q5, .ref q16, .ref q29, .null, .null, .int 0, .int 0])), (q5, .inr (1, [.int 0, .ref q5_q12, .ref q5_q21])), (q5_q12, .inl (cI, 40, .inl (fun _ => 0))), (q5_q21, .inl (cI, 1600, .inl (fun _ => 0))), (q16, .inr (0, [.int 2, .ref q16_q11, .ref q16_q18])), (q16_q11, .inl (cI, 4, .inl (fun _ => 0))), (q16_q18, .inl (cI, 4, .inl (upd (upd (upd (upd (fun _ => 0) (0 : Int32).toNatClampNeg 1000000) (1 : Int32).toNatClampNeg 1000000) (2 : Int32).toNatClampNeg 1000000) (3 : Int32).toNatClampNeg 1000000))), (q29, .inl (cI, 40, .inl (fun _ => 0))), (q36, .inl (cI, 4, .inl (fun _ => 0)))] H := hP
  have hD : va_D A [(a_t, .inr (7, [.ref q5, .ref q16, .ref q29, .null, .null, .int 0, .int 0])), (q5, .inr (1, [.int 0, .ref q5_q12, .ref q5_q21])), (q5_q12, .inl (cI, 40, .inl (fun _ => 0))), (q5_q21, .inl (cI, 1600, .inl (fun _ => 0))), (q16, .inr (0, [.int 2, .ref q16_q11, .ref q16_q18])), (q16_q11, .inl (cI, 4, .inl (fun _ => 0))), (q16_q18, .inl (cI, 4, .inl (upd (upd (upd (upd (fun _ => 0) (0 : Int32).toNatClampNeg 1000000) (1 : Int32).toNatClampNeg 1000000) (2 : Int32).toNatClampNeg 1000000) (3 : Int32).toNatClampNeg 1000000))), (q29, .inl (cI, 40, .inl (fun _ => 0))), (q36, .inl (cI, 4, .inl (fun _ => 0)))] := hD
  refine W.widen (k := 8) (n := 1698) (by decide) (by decide) ?_
  refine va_putF (D := (dC, dI)) (ci := 7) (v := .ref q36) (ty := (.array .int)) (C := rr_Sp) (T := tt_Sp) (N := 7) hx hb hts (fun w h => gwc (inn_Sp w h)) tf_Sp to_Sp tn_Sp hown hK hP hD hS 0 rfl rfl 3 (by decide) (hts _ (gwc gw_147)) (fun _ h9 => h9) rfl hin rfl (by decide +kernel) rfl rfl (Nat.le_of_ble_eq_true rfl) dd_Sp_new_38 (fun H locs hP hD hS => ?_)
  have hP : va_P (dC, dI) clsL [(a_t, .inr (7, [.ref q5, .ref q16, .ref q29, .ref q36, .null, .int 0, .int 0])), (q5, .inr (1, [.int 0, .ref q5_q12, .ref q5_q21])), (q5_q12, .inl (cI, 40, .inl (fun _ => 0))), (q5_q21, .inl (cI, 1600, .inl (fun _ => 0))), (q16, .inr (0, [.int 2, .ref q16_q11, .ref q16_q18])), (q16_q11, .inl (cI, 4, .inl (fun _ => 0))), (q16_q18, .inl (cI, 4, .inl (upd (upd (upd (upd (fun _ => 0) (0 : Int32).toNatClampNeg 1000000) (1 : Int32).toNatClampNeg 1000000) (2 : Int32).toNatClampNeg 1000000) (3 : Int32).toNatClampNeg 1000000))), (q29, .inl (cI, 40, .inl (fun _ => 0))), (q36, .inl (cI, 4, .inl (fun _ => 0)))] H := hP
  have hD : va_D A [(a_t, .inr (7, [.ref q5, .ref q16, .ref q29, .ref q36, .null, .int 0, .int 0])), (q5, .inr (1, [.int 0, .ref q5_q12, .ref q5_q21])), (q5_q12, .inl (cI, 40, .inl (fun _ => 0))), (q5_q21, .inl (cI, 1600, .inl (fun _ => 0))), (q16, .inr (0, [.int 2, .ref q16_q11, .ref q16_q18])), (q16_q11, .inl (cI, 4, .inl (fun _ => 0))), (q16_q18, .inl (cI, 4, .inl (upd (upd (upd (upd (fun _ => 0) (0 : Int32).toNatClampNeg 1000000) (1 : Int32).toNatClampNeg 1000000) (2 : Int32).toNatClampNeg 1000000) (3 : Int32).toNatClampNeg 1000000))), (q29, .inl (cI, 40, .inl (fun _ => 0))), (q36, .inl (cI, 4, .inl (fun _ => 0)))] := hD
  refine lv_aload_n hx hb dd_Sp_new_41 rfl (lv_at hl 0 rfl) ?_
  refine lv_sipush (v := 160) hx hb dd_Sp_new_42 (by decide) ?_
  refine xnewi (N := 160) hx hb (hts _ (gwc gw_106)) hK hP hD hS hA (by decide) (by decide) (by decide) (Nat.le_of_ble_eq_true rfl) (Nat.le_of_ble_eq_true rfl) dd_Sp_new_45 (fun q45 H hP hD hS => ?_)
  have hP : va_P (dC, dI) clsL [(a_t, .inr (7, [.ref q5, .ref q16, .ref q29, .ref q36, .null, .int 0, .int 0])), (q5, .inr (1, [.int 0, .ref q5_q12, .ref q5_q21])), (q5_q12, .inl (cI, 40, .inl (fun _ => 0))), (q5_q21, .inl (cI, 1600, .inl (fun _ => 0))), (q16, .inr (0, [.int 2, .ref q16_q11, .ref q16_q18])), (q16_q11, .inl (cI, 4, .inl (fun _ => 0))), (q16_q18, .inl (cI, 4, .inl (upd (upd (upd (upd (fun _ => 0) (0 : Int32).toNatClampNeg 1000000) (1 : Int32).toNatClampNeg 1000000) (2 : Int32).toNatClampNeg 1000000) (3 : Int32).toNatClampNeg 1000000))), (q29, .inl (cI, 40, .inl (fun _ => 0))), (q36, .inl (cI, 4, .inl (fun _ => 0))), (q45, .inl (cI, 160, .inl (fun _ => 0)))] H := hP
  have hD : va_D A [(a_t, .inr (7, [.ref q5, .ref q16, .ref q29, .ref q36, .null, .int 0, .int 0])), (q5, .inr (1, [.int 0, .ref q5_q12, .ref q5_q21])), (q5_q12, .inl (cI, 40, .inl (fun _ => 0))), (q5_q21, .inl (cI, 1600, .inl (fun _ => 0))), (q16, .inr (0, [.int 2, .ref q16_q11, .ref q16_q18])), (q16_q11, .inl (cI, 4, .inl (fun _ => 0))), (q16_q18, .inl (cI, 4, .inl (upd (upd (upd (upd (fun _ => 0) (0 : Int32).toNatClampNeg 1000000) (1 : Int32).toNatClampNeg 1000000) (2 : Int32).toNatClampNeg 1000000) (3 : Int32).toNatClampNeg 1000000))), (q29, .inl (cI, 40, .inl (fun _ => 0))), (q36, .inl (cI, 4, .inl (fun _ => 0))), (q45, .inl (cI, 160, .inl (fun _ => 0)))] := hD
  refine W.widen (k := 9) (n := 1858) (by decide) (by decide) ?_
  refine va_putF (D := (dC, dI)) (ci := 7) (v := .ref q45) (ty := (.array .int)) (C := rr_Sp) (T := tt_Sp) (N := 7) hx hb hts (fun w h => gwc (inn_Sp w h)) tf_Sp to_Sp tn_Sp hown hK hP hD hS 0 rfl rfl 4 (by decide) (hts _ (gwc gw_149)) (fun _ h9 => h9) rfl hin rfl (by decide +kernel) rfl rfl (Nat.le_of_ble_eq_true rfl) dd_Sp_new_47 (fun H locs hP hD hS => ?_)
  have hP : va_P (dC, dI) clsL [(a_t, .inr (7, [.ref q5, .ref q16, .ref q29, .ref q36, .ref q45, .int 0, .int 0])), (q5, .inr (1, [.int 0, .ref q5_q12, .ref q5_q21])), (q5_q12, .inl (cI, 40, .inl (fun _ => 0))), (q5_q21, .inl (cI, 1600, .inl (fun _ => 0))), (q16, .inr (0, [.int 2, .ref q16_q11, .ref q16_q18])), (q16_q11, .inl (cI, 4, .inl (fun _ => 0))), (q16_q18, .inl (cI, 4, .inl (upd (upd (upd (upd (fun _ => 0) (0 : Int32).toNatClampNeg 1000000) (1 : Int32).toNatClampNeg 1000000) (2 : Int32).toNatClampNeg 1000000) (3 : Int32).toNatClampNeg 1000000))), (q29, .inl (cI, 40, .inl (fun _ => 0))), (q36, .inl (cI, 4, .inl (fun _ => 0))), (q45, .inl (cI, 160, .inl (fun _ => 0)))] H := hP
  have hD : va_D A [(a_t, .inr (7, [.ref q5, .ref q16, .ref q29, .ref q36, .ref q45, .int 0, .int 0])), (q5, .inr (1, [.int 0, .ref q5_q12, .ref q5_q21])), (q5_q12, .inl (cI, 40, .inl (fun _ => 0))), (q5_q21, .inl (cI, 1600, .inl (fun _ => 0))), (q16, .inr (0, [.int 2, .ref q16_q11, .ref q16_q18])), (q16_q11, .inl (cI, 4, .inl (fun _ => 0))), (q16_q18, .inl (cI, 4, .inl (upd (upd (upd (upd (fun _ => 0) (0 : Int32).toNatClampNeg 1000000) (1 : Int32).toNatClampNeg 1000000) (2 : Int32).toNatClampNeg 1000000) (3 : Int32).toNatClampNeg 1000000))), (q29, .inl (cI, 40, .inl (fun _ => 0))), (q36, .inl (cI, 4, .inl (fun _ => 0))), (q45, .inl (cI, 160, .inl (fun _ => 0)))] := hD
  refine lv_aload_n hx hb dd_Sp_new_50 rfl (lv_at hl 0 rfl) ?_
  refine lv_iconst (v := 0) hx hb dd_Sp_new_51 (by decide) ?_
  refine va_put (D := (dC, dI)) (ci := 7) (v := .int 0) (ty := .int) (C := rr_Sp) (T := tt_Sp) (N := 7) hx hb hts (fun w h => gwc (inn_Sp w h)) tf_Sp to_Sp tn_Sp hown hK hP hD hS 0 rfl rfl 5 (by decide) (hts _ (gwc gw_150)) (fun _ h9 => h9) rfl (by decide +kernel) rfl rfl (Nat.le_of_ble_eq_true rfl) dd_Sp_new_52 (fun H locs hP hD hS => ?_)
  have hP : va_P (dC, dI) clsL [(a_t, .inr (7, [.ref q5, .ref q16, .ref q29, .ref q36, .ref q45, .int 0, .int 0])), (q5, .inr (1, [.int 0, .ref q5_q12, .ref q5_q21])), (q5_q12, .inl (cI, 40, .inl (fun _ => 0))), (q5_q21, .inl (cI, 1600, .inl (fun _ => 0))), (q16, .inr (0, [.int 2, .ref q16_q11, .ref q16_q18])), (q16_q11, .inl (cI, 4, .inl (fun _ => 0))), (q16_q18, .inl (cI, 4, .inl (upd (upd (upd (upd (fun _ => 0) (0 : Int32).toNatClampNeg 1000000) (1 : Int32).toNatClampNeg 1000000) (2 : Int32).toNatClampNeg 1000000) (3 : Int32).toNatClampNeg 1000000))), (q29, .inl (cI, 40, .inl (fun _ => 0))), (q36, .inl (cI, 4, .inl (fun _ => 0))), (q45, .inl (cI, 160, .inl (fun _ => 0)))] H := hP
  have hD : va_D A [(a_t, .inr (7, [.ref q5, .ref q16, .ref q29, .ref q36, .ref q45, .int 0, .int 0])), (q5, .inr (1, [.int 0, .ref q5_q12, .ref q5_q21])), (q5_q12, .inl (cI, 40, .inl (fun _ => 0))), (q5_q21, .inl (cI, 1600, .inl (fun _ => 0))), (q16, .inr (0, [.int 2, .ref q16_q11, .ref q16_q18])), (q16_q11, .inl (cI, 4, .inl (fun _ => 0))), (q16_q18, .inl (cI, 4, .inl (upd (upd (upd (upd (fun _ => 0) (0 : Int32).toNatClampNeg 1000000) (1 : Int32).toNatClampNeg 1000000) (2 : Int32).toNatClampNeg 1000000) (3 : Int32).toNatClampNeg 1000000))), (q29, .inl (cI, 40, .inl (fun _ => 0))), (q36, .inl (cI, 4, .inl (fun _ => 0))), (q45, .inl (cI, 160, .inl (fun _ => 0)))] := hD
  refine lv_aload_n hx hb dd_Sp_new_55 rfl (lv_at hl 0 rfl) ?_
  refine lv_iconst (v := 0) hx hb dd_Sp_new_56 (by decide) ?_
  refine va_put (D := (dC, dI)) (ci := 7) (v := .int 0) (ty := .int) (C := rr_Sp) (T := tt_Sp) (N := 7) hx hb hts (fun w h => gwc (inn_Sp w h)) tf_Sp to_Sp tn_Sp hown hK hP hD hS 0 rfl rfl 6 (by decide) (hts _ (gwc gw_153)) (fun _ h9 => h9) rfl (by decide +kernel) rfl rfl (Nat.le_of_ble_eq_true rfl) dd_Sp_new_57 (fun H locs hP hD hS => ?_)
  have hP : va_P (dC, dI) clsL [(a_t, .inr (7, [.ref q5, .ref q16, .ref q29, .ref q36, .ref q45, .int 0, .int 0])), (q5, .inr (1, [.int 0, .ref q5_q12, .ref q5_q21])), (q5_q12, .inl (cI, 40, .inl (fun _ => 0))), (q5_q21, .inl (cI, 1600, .inl (fun _ => 0))), (q16, .inr (0, [.int 2, .ref q16_q11, .ref q16_q18])), (q16_q11, .inl (cI, 4, .inl (fun _ => 0))), (q16_q18, .inl (cI, 4, .inl (upd (upd (upd (upd (fun _ => 0) (0 : Int32).toNatClampNeg 1000000) (1 : Int32).toNatClampNeg 1000000) (2 : Int32).toNatClampNeg 1000000) (3 : Int32).toNatClampNeg 1000000))), (q29, .inl (cI, 40, .inl (fun _ => 0))), (q36, .inl (cI, 4, .inl (fun _ => 0))), (q45, .inl (cI, 160, .inl (fun _ => 0)))] H := hP
  have hD : va_D A [(a_t, .inr (7, [.ref q5, .ref q16, .ref q29, .ref q36, .ref q45, .int 0, .int 0])), (q5, .inr (1, [.int 0, .ref q5_q12, .ref q5_q21])), (q5_q12, .inl (cI, 40, .inl (fun _ => 0))), (q5_q21, .inl (cI, 1600, .inl (fun _ => 0))), (q16, .inr (0, [.int 2, .ref q16_q11, .ref q16_q18])), (q16_q11, .inl (cI, 4, .inl (fun _ => 0))), (q16_q18, .inl (cI, 4, .inl (upd (upd (upd (upd (fun _ => 0) (0 : Int32).toNatClampNeg 1000000) (1 : Int32).toNatClampNeg 1000000) (2 : Int32).toNatClampNeg 1000000) (3 : Int32).toNatClampNeg 1000000))), (q29, .inl (cI, 40, .inl (fun _ => 0))), (q36, .inl (cI, 4, .inl (fun _ => 0))), (q45, .inl (cI, 160, .inl (fun _ => 0)))] := hD
  exact W.vret hx hb hr (fun t ht hW => ⟨⟨(), rfl, trivial, q5, q5_q12, q5_q21, q16, q16_q11, q16_q18, q29, q36, q45, pst_of ht hP hD⟩, hS.F ht⟩) hS.2.2 dd_Sp_new_60
