/-! THE CLAIM OUT OF ONE WALK OF THE LAW'S BODY. Your part is whole_start (and what it stands on); all else here is the same for every law, but numbers. -/
def R_law : String := "BalancedSplitsLaw"
def lw_P (b : Addr) (xs : List Int32) (args : Array Value) (s : State) : Prop := args = #[.ref b] ∧ s.IntsAt b xs ∧ xs.length ≤ 2048 ∧ (Jvm.Cond.and given_1 narrow_1).before args s = true
def lw_Q (_ : Array Value) (s : State) (o : Outcome) (t : State) : Prop := o = .returned (some (.int 1)) ∧ Framed s o t [] 600000 7302250
def lw_Z (below : List Frame) (a : Array Value) (s : State) : State → Prop := fun t => ∃ o, t.status = .running ∧ Ended t below o ∧ lw_Q a s o t
/-- the law's own end, with 1 on the stack, nothing written that was there before, its room as the claim has it -/
theorem lw_ret {p : Program} {l : Launch} {e : Env} {s : State} {m : MethodId} {below : List Frame} {meth : Method} {c : Code} {b : Nat} (hx : p.tables.exec = Jvm.exec) (hb : c.code = code) (hr : meth.sig.returnType = ret) (hlocks : meth.locks = false) {pc : Nat} {H : Heap} {ls : Array Slot} (hdg : decode code pc = .ok (.ireturn, 1)) : W p l e room_1 s m #[Value.ref b] below meth c H [] 600000 7302250 (lw_Z below #[Value.ref b] s) (F0 m pc ls [.int 1]) := by
  intro T hT X
  obtain ⟨fs, hret, hrun, hended, hW, hframe⟩ := X.leave (v := some (.int 1)) (hlocks := hlocks) (fun h => by rw [hr] at h; cases h)
  have hmeth' : T.vm.method? m = some meth := X.method'
  refine ⟨T.setFrames fs, ?_, .returned (some (.int 1)), hrun, hended, rfl, ⟨_, rfl⟩, hW, hframe⟩
  jvm_step X.here [X.here.top, hx, hb, hdg, hmeth', hr, ret, narrow_b1]
  (try refine ⟨rfl, ?_⟩); (try refine ⟨rfl, ?_⟩)
  first | (intro acts; rw [hret _ acts rfl rfl rfl]) | rw [hret _ _ rfl rfl rfl]
  exact Steps.refl _
/-- what holds at the law's entry: the machine, the code, the tables' words (any of lw_tbl by 'hts w (by decide +kernel)'), the script of L ints xs at the cell b, what the Statement gives of the start (any of its parts by flat_of_before) -/
def lw_At (p : Program) (s : State) (m : MethodId) (meth : Method) (c : Code) (b L : Nat) (xs : Nat → Int32) : Prop :=
  p.tables.exec = Jvm.exec ∧ c.code = code ∧ meth.sig.returnType = ret ∧ c.maxLocals = 4 ∧ s.vm.findClass R_law = some m.cls ∧ (∀ w ∈ lw_tbl, w.before #[Value.ref b] s = true) ∧ va_X b L xs s s.heap ∧ b < s.heap.size ∧ meth.locks = false ∧ (Jvm.Cond.and given_1 narrow_1).before #[Value.ref b] s = true
theorem gwl {w : Cond} (h : w ∈ GW) : w ∈ lw_tbl := (List.mem_filter.mp h).1
theorem gCL {cy : Cond} (h : cy ∈ GW) : GoodIn lw_tbl (cy :: GW) := by
  intro w hw
  have h1 : w ∈ GW := by
    rcases List.mem_cons.mp hw with q | q
    · rw [q]; exact h
    · exact q
  exact ⟨gwl h1, gwg h1⟩
theorem gVL {own C : String} {idx : Nat} {y : MethodName} {cy : Cond} (h1 : Cond.methodLink own idx y ∈ GW) (h2 : Cond.instanceMethod y ∈ GW) (h3 : Cond.selects C y y ∈ GW) (h4 : Cond.initialized C ∈ GW) (h5 : cy ∈ GW) : GoodIn lw_tbl (wsV own idx C y (cy :: GW)) := by
  intro w hw
  unfold wsV at hw
  rcases List.mem_append.mp hw with q | q
  · have h : w ∈ GW := by
      rcases List.mem_cons.mp q with q | q
      · rw [q]; exact h1
      rcases List.mem_cons.mp q with q | q
      · rw [q]; exact h2
      rcases List.mem_cons.mp q with q | q
      · rw [q]; exact h3
      rcases List.mem_cons.mp q with q | q
      · rw [q]; exact h4
      exact absurd q List.not_mem_nil
    exact ⟨gwl h, gwg h⟩
  · exact gCL h5 w q
theorem arr_int {args : Array Value} {s : State} (h : (Cond.arrayClass .int).before args s = true) : ∃ cA : ClassId, ArrOfT s cA .int ∧ va_RA s cA .int := by
  obtain ⟨c, k, comp, hc, hk, hkind⟩ := Cond.arrayClass_spec h
  exact ⟨c, fun n z => ⟨fun k h => (by cases h), k, hk, comp, hkind⟩, hc⟩
theorem arr_bool {args : Array Value} {s : State} (h : (Cond.arrayClass .boolean).before args s = true) : ∃ cA : ClassId, ArrOfT s cA .boolean ∧ va_RA s cA .boolean := by
  obtain ⟨c, k, comp, hc, hk, hkind⟩ := Cond.arrayClass_spec h
  exact ⟨c, fun n z => ⟨fun k h => (by cases h), k, hk, comp, hkind⟩, hc⟩
theorem lwc_7 : (.classLink R_law 7 rr_Ba : Cond) ∈ GW := gwm 65 (by decide +kernel)
theorem lwl_9 : (.methodLink R_law 9 yy_Ba_new : Cond) ∈ GW := gwm 67 (by decide +kernel)
theorem lwc_10 : (.classLink R_law 10 rr_Re : Cond) ∈ GW := gwm 682 (by decide +kernel)
theorem lwl_12 : (.methodLink R_law 12 yy_Re_new : Cond) ∈ GW := gwm 684 (by decide +kernel)
theorem lwl_13 : (.methodLink R_law 13 yy_Ba_node : Cond) ∈ GW := gwm 305 (by decide +kernel)
theorem lwl_17 : (.methodLink R_law 17 yy_Re_node : Cond) ∈ GW := gwm 764 (by decide +kernel)
theorem lwl_18 : (.methodLink R_law 18 yy_Ba_arc : Cond) ∈ GW := gwm 309 (by decide +kernel)
theorem lwl_22 : (.methodLink R_law 22 yy_Re_arc : Cond) ∈ GW := gwm 769 (by decide +kernel)
theorem lwl_23 : (.methodLink R_law 23 yy_Ba_parts : Cond) ∈ GW := gwm 326 (by decide +kernel)
theorem lwl_26 : (.methodLink R_law 26 yy_Re_parts : Cond) ∈ GW := gwm 777 (by decide +kernel)
theorem lwl_27 : (.methodLink R_law 27 yy_Ba_bound : Cond) ∈ GW := gwm 342 (by decide +kernel)
theorem lwl_30 : (.methodLink R_law 30 yy_Re_bound : Cond) ∈ GW := gwm 778 (by decide +kernel)
theorem lwl_31 : (.methodLink R_law 31 yy_Ba_put : Cond) ∈ GW := gwm 350 (by decide +kernel)
theorem lwl_35 : (.methodLink R_law 35 yy_Re_put : Cond) ∈ GW := gwm 787 (by decide +kernel)
theorem lwl_36 : (.methodLink R_law 36 yy_Ba_clear : Cond) ∈ GW := gwm 354 (by decide +kernel)
theorem lwl_40 : (.methodLink R_law 40 yy_Re_clear : Cond) ∈ GW := gwm 791 (by decide +kernel)
theorem lwl_41 : (.methodLink R_law 41 yy_Ba_of : Cond) ∈ GW := gwm 363 (by decide +kernel)
theorem lwl_44 : (.methodLink R_law 44 yy_Re_of : Cond) ∈ GW := gwm 817 (by decide +kernel)
theorem lwl_45 : (.methodLink R_law 45 yy_Ba_between : Cond) ∈ GW := gwm 390 (by decide +kernel)
theorem lwl_48 : (.methodLink R_law 48 yy_Re_between : Cond) ∈ GW := gwm 822 (by decide +kernel)
theorem lwl_49 : (.methodLink R_law 49 yy_Ba_part : Cond) ∈ GW := gwm 394 (by decide +kernel)
theorem lwl_52 : (.methodLink R_law 52 yy_Re_part : Cond) ∈ GW := gwm 826 (by decide +kernel)
theorem lwl_53 : (.methodLink R_law 53 yy_Ba_cut : Cond) ∈ GW := gwm 402 (by decide +kernel)
theorem lwl_56 : (.methodLink R_law 56 yy_Re_cut : Cond) ∈ GW := gwm 846 (by decide +kernel)
theorem lwl_57 : (.methodLink R_law 57 yy_Ba_over : Cond) ∈ GW := gwm 406 (by decide +kernel)
theorem lwl_60 : (.methodLink R_law 60 yy_Re_over : Cond) ∈ GW := gwm 858 (by decide +kernel)
theorem lwl_61 : (.methodLink R_law 61 yy_Ba_gain : Cond) ∈ GW := gwm 410 (by decide +kernel)
theorem lwl_64 : (.methodLink R_law 64 yy_Re_gain : Cond) ∈ GW := gwm 866 (by decide +kernel)
theorem lwl_65 : (.methodLink R_law 65 yy_Ba_level : Cond) ∈ GW := gwm 419 (by decide +kernel)
theorem lwl_68 : (.methodLink R_law 68 yy_Re_level : Cond) ∈ GW := gwm 792 (by decide +kernel)
theorem lwl_69 : (.methodLink R_law 69 yy_Ba_inLevel : Cond) ∈ GW := gwm 473 (by decide +kernel)
theorem lwl_72 : (.methodLink R_law 72 yy_Re_inLevel : Cond) ∈ GW := gwm 808 (by decide +kernel)
theorem lwl_73 : (.methodLink R_law 73 yy_Ba_levelOf : Cond) ∈ GW := gwm 478 (by decide +kernel)
theorem lwl_76 : (.methodLink R_law 76 yy_Re_levelOf : Cond) ∈ GW := gwm 812 (by decide +kernel)
theorem lwl_77 : (.methodLink R_law 77 yy_Ba_run : Cond) ∈ GW := gwm 482 (by decide +kernel)
theorem lwl_80 : (.methodLink R_law 80 yy_Re_run : Cond) ∈ GW := gwm 875 (by decide +kernel)
theorem lwl_81 : (.methodLink R_law 81 yy_Ba_refine : Cond) ∈ GW := gwm 589 (by decide +kernel)
theorem lwl_84 : (.methodLink R_law 84 yy_Re_refine : Cond) ∈ GW := gwm 904 (by decide +kernel)
theorem lwl_85 : (.methodLink R_law 85 yy_Ba_grow : Cond) ∈ GW := gwm 593 (by decide +kernel)
theorem lwl_88 : (.methodLink R_law 88 yy_Re_grow : Cond) ∈ GW := gwm 908 (by decide +kernel)
theorem lwl_89 : (.methodLink R_law 89 yy_Ba_stream : Cond) ∈ GW := gwm 597 (by decide +kernel)
theorem lwl_92 : (.methodLink R_law 92 yy_Re_stream : Cond) ∈ GW := gwm 921 (by decide +kernel)
theorem lwl_93 : (.methodLink R_law 93 yy_Ba_order : Cond) ∈ GW := gwm 624 (by decide +kernel)
theorem lwl_96 : (.methodLink R_law 96 yy_Re_order : Cond) ∈ GW := gwm 912 (by decide +kernel)
theorem lwl_97 : (.methodLink R_law 97 yy_Ba_exact : Cond) ∈ GW := gwm 628 (by decide +kernel)
theorem lwl_100 : (.methodLink R_law 100 yy_Re_exact : Cond) ∈ GW := gwm 925 (by decide +kernel)
theorem lwl_101 : (.methodLink R_law 101 yy_Ba_separator : Cond) ∈ GW := gwm 637 (by decide +kernel)
theorem lwl_104 : (.methodLink R_law 104 yy_Re_separator : Cond) ∈ GW := gwm 930 (by decide +kernel)
theorem lwl_105 : (.methodLink R_law 105 yy_Ba_count : Cond) ∈ GW := gwm 669 (by decide +kernel)
theorem lwl_108 : (.methodLink R_law 108 yy_Re_count : Cond) ∈ GW := gwm 942 (by decide +kernel)
theorem nest_in : ∀ q ∈ nestM, Cond.methodLinkNest q.1 q.2.1 q.2.2.1 q.2.2.2 ∈ lw_tbl := List.forall_mem_cons.mpr ⟨List.mem_of_getElem? (i := 75) (by decide +kernel), List.forall_mem_cons.mpr ⟨List.mem_of_getElem? (i := 81) (by decide +kernel), List.forall_mem_cons.mpr ⟨List.mem_of_getElem? (i := 109) (by decide +kernel), List.forall_mem_cons.mpr ⟨List.mem_of_getElem? (i := 173) (by decide +kernel), List.forall_mem_cons.mpr ⟨List.mem_of_getElem? (i := 200) (by decide +kernel), List.forall_mem_cons.mpr ⟨List.mem_of_getElem? (i := 223) (by decide +kernel), List.forall_mem_cons.mpr ⟨List.mem_of_getElem? (i := 255) (by decide +kernel), List.forall_mem_cons.mpr ⟨List.mem_of_getElem? (i := 269) (by decide +kernel), fun _ h => absurd h List.not_mem_nil⟩⟩⟩⟩⟩⟩⟩⟩
