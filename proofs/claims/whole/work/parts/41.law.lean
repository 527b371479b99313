/-! ===== THE LAW: words, links, arguments, calls ===== -/
def R_law : String := "FogMapLaw"
def lw_P (b : Addr) (xs : List Int32) (args : Array Value) (s : State) : Prop := args = #[.ref b] ∧ s.IntsAt b xs ∧ xs.length ≤ 2560 ∧ (Jvm.Cond.and given_1 narrow_1).before args s = true
def lw_Q (_ : Array Value) (s : State) (o : Outcome) (t : State) : Prop := o = .returned (some (.int 1)) ∧ Framed s o t [] 600000 7302250
def lw_Z (below : List Frame) (a : Array Value) (s : State) : State → Prop := fun t => ∃ o, t.status = .running ∧ Ended t below o ∧ lw_Q a s o t
/-- the law's own end, with 1 on the stack, nothing written that was there before, its room as the claim has it -/
theorem lw_ret {p : Program} {l : Launch} {e : Env} {s : State} {m : MethodId} {below : List Frame} {meth : Method} {c : Code} {b : Nat} (hx : p.tables.exec = Jvm.exec) (hb : c.code = code) (hr : meth.sig.returnType = ret) (hlocks : meth.locks = false) {pc : Nat} {H : Heap} {ls : Array Slot} (hdg : decode code pc = .ok (.ireturn, 1)) : W p l e room_1 s m #[Value.ref b] below meth c H [] 600000 7302250 (lw_Z below #[Value.ref b] s) (F0 m pc ls [.int 1]) := by
  intro T hT X
  obtain ⟨fs, hret, hrun, hended, hW, hframe⟩ := X.leave (v := some (.int 1)) (hlocks := hlocks) (fun h => by rw [hr] at h; cases h)
  have hmeth' : T.vm.method? m = some meth := X.method'
  refine ⟨T.setFrames fs, ?_, .returned (some (.int 1)), hrun, hended, rfl, ⟨_, rfl⟩, hW, hframe⟩
  jvm_step X.here [X.here.top, hx, hb, hdg, hmeth', hr, ret, narrow_b1]
  (try refine ⟨rfl, ?_⟩); (try refine ⟨rfl, ?_⟩)
  first | (intro acts; rw [hret _ acts rfl rfl rfl]) | rw [hret _ _ rfl rfl rfl]
  exact Steps.refl _
/-- what holds at the law's entry: the machine, the code, the tables' words (any of lw_tbl by 'hts w (by decide +kernel)'), the script of L ints xs at the cell b, what the Statement gives of the start (any of its parts by flat_of_before) -/
def lw_At (p : Program) (s : State) (m : MethodId) (meth : Method) (c : Code) (b L : Nat) (xs : Nat → Int32) : Prop :=
  p.tables.exec = Jvm.exec ∧ c.code = code ∧ meth.sig.returnType = ret ∧ c.maxLocals = 4 ∧ s.vm.findClass R_law = some m.cls ∧ (∀ w ∈ lw_tbl, w.before #[Value.ref b] s = true) ∧ va_X b L xs s s.heap ∧ b < s.heap.size ∧ meth.locks = false ∧ (Jvm.Cond.and given_1 narrow_1).before #[Value.ref b] s = true
theorem kk_L_7 : Cond.classLink R_law 7 RX6 ∈ fm_TBL := fm_tab 12 (by decide +kernel) (by decide +kernel)
theorem kl_L_9 : Cond.methodLink R_law 9 yX6_init ∈ fm_TBL := fm_tab 14 (by decide +kernel) (by decide +kernel)
theorem mc_X6_init : MC mX6_init 0 := ⟨⟨by decide, by decide, by decide +kernel⟩, by decide, kc_X6_init, ki_X6⟩
theorem mk_L_9 : KC R_law 9 mX6_init 0 := ⟨kl_L_9, kv_X6_init, rfl, rfl, mc_X6_init⟩
theorem kl_L_13 : Cond.methodLink R_law 13 yX6_setHeight ∈ fm_TBL := fm_tab 199 (by decide +kernel) (by decide +kernel)
theorem mk_L_13 : KV R_law 13 mX6_setHeight 3 6 := ⟨kl_L_13, kv_X6_setHeight, kz_X6_setHeight, ⟨_, rfl, rfl⟩, ⟨⟨by decide, by decide, by decide +kernel⟩, by decide, kc_X6_setHeight, ki_X6⟩⟩
theorem kl_L_18 : Cond.methodLink R_law 18 yX6_setWall ∈ fm_TBL := fm_tab 306 (by decide +kernel) (by decide +kernel)
theorem mk_L_18 : KV R_law 18 mX6_setWall 3 6 := ⟨kl_L_18, kv_X6_setWall, kz_X6_setWall, ⟨_, rfl, rfl⟩, ⟨⟨by decide, by decide, by decide +kernel⟩, by decide, kc_X6_setWall, ki_X6⟩⟩
theorem kl_L_22 : Cond.methodLink R_law 22 yX6_append ∈ fm_TBL := fm_tab 311 (by decide +kernel) (by decide +kernel)
theorem mk_L_22 : KV R_law 22 mX6_append 1 6 := ⟨kl_L_22, kv_X6_append, kz_X6_append, ⟨_, rfl, rfl⟩, ⟨⟨by decide, by decide, by decide +kernel⟩, by decide, kc_X6_append, ki_X6⟩⟩
theorem kl_L_27 : Cond.methodLink R_law 27 yX6_clearText ∈ fm_TBL := fm_tab 319 (by decide +kernel) (by decide +kernel)
theorem mk_L_27 : KV R_law 27 mX6_clearText 0 6 := ⟨kl_L_27, kv_X6_clearText, kz_X6_clearText, ⟨_, rfl, rfl⟩, ⟨⟨by decide, by decide, by decide +kernel⟩, by decide, kc_X6_clearText, ki_X6⟩⟩
theorem kl_L_32 : Cond.methodLink R_law 32 yX6_load ∈ fm_TBL := fm_tab 323 (by decide +kernel) (by decide +kernel)
theorem mk_L_32 : KV R_law 32 mX6_load 0 6 := ⟨kl_L_32, kv_X6_load, kz_X6_load, ⟨_, rfl, rfl⟩, ⟨⟨by decide, by decide, by decide +kernel⟩, by decide, kc_X6_load, ki_X6⟩⟩
theorem kl_L_36 : Cond.methodLink R_law 36 yX6_addScout ∈ fm_TBL := fm_tab 344 (by decide +kernel) (by decide +kernel)
theorem mk_L_36 : KV R_law 36 mX6_addScout 4 6 := ⟨kl_L_36, kv_X6_addScout, kz_X6_addScout, ⟨_, rfl, rfl⟩, ⟨⟨by decide, by decide, by decide +kernel⟩, by decide, kc_X6_addScout, ki_X6⟩⟩
theorem kl_L_41 : Cond.methodLink R_law 41 yX6_step ∈ fm_TBL := fm_tab 356 (by decide +kernel) (by decide +kernel)
theorem mk_L_41 : KV R_law 41 mX6_step 3 6 := ⟨kl_L_41, kv_X6_step, kz_X6_step, ⟨_, rfl, rfl⟩, ⟨⟨by decide, by decide, by decide +kernel⟩, by decide, kc_X6_step, ki_X6⟩⟩
theorem kl_L_45 : Cond.methodLink R_law 45 yX6_removeScout ∈ fm_TBL := fm_tab 374 (by decide +kernel) (by decide +kernel)
theorem mk_L_45 : KV R_law 45 mX6_removeScout 1 6 := ⟨kl_L_45, kv_X6_removeScout, kz_X6_removeScout, ⟨_, rfl, rfl⟩, ⟨⟨by decide, by decide, by decide +kernel⟩, by decide, kc_X6_removeScout, ki_X6⟩⟩
theorem kl_L_49 : Cond.methodLink R_law 49 yX6_addLight ∈ fm_TBL := fm_tab 385 (by decide +kernel) (by decide +kernel)
theorem mk_L_49 : KV R_law 49 mX6_addLight 4 6 := ⟨kl_L_49, kv_X6_addLight, kz_X6_addLight, ⟨_, rfl, rfl⟩, ⟨⟨by decide, by decide, by decide +kernel⟩, by decide, kc_X6_addLight, ki_X6⟩⟩
theorem kl_L_53 : Cond.methodLink R_law 53 yX6_setOil ∈ fm_TBL := fm_tab 393 (by decide +kernel) (by decide +kernel)
theorem mk_L_53 : KV R_law 53 mX6_setOil 2 6 := ⟨kl_L_53, kv_X6_setOil, kz_X6_setOil, ⟨_, rfl, rfl⟩, ⟨⟨by decide, by decide, by decide +kernel⟩, by decide, kc_X6_setOil, ki_X6⟩⟩
theorem kl_L_58 : Cond.methodLink R_law 58 yX6_removeLight ∈ fm_TBL := fm_tab 401 (by decide +kernel) (by decide +kernel)
theorem mk_L_58 : KV R_law 58 mX6_removeLight 1 6 := ⟨kl_L_58, kv_X6_removeLight, kz_X6_removeLight, ⟨_, rfl, rfl⟩, ⟨⟨by decide, by decide, by decide +kernel⟩, by decide, kc_X6_removeLight, ki_X6⟩⟩
theorem kl_L_62 : Cond.methodLink R_law 62 yX6_setFogTime ∈ fm_TBL := fm_tab 409 (by decide +kernel) (by decide +kernel)
theorem mk_L_62 : KV R_law 62 mX6_setFogTime 1 6 := ⟨kl_L_62, kv_X6_setFogTime, kz_X6_setFogTime, ⟨_, rfl, rfl⟩, ⟨⟨by decide, by decide, by decide +kernel⟩, by decide, kc_X6_setFogTime, ki_X6⟩⟩
theorem kl_L_66 : Cond.methodLink R_law 66 yX6_pass ∈ fm_TBL := fm_tab 422 (by decide +kernel) (by decide +kernel)
theorem mk_L_66 : KV R_law 66 mX6_pass 1 6 := ⟨kl_L_66, kv_X6_pass, kz_X6_pass, ⟨_, rfl, rfl⟩, ⟨⟨by decide, by decide, by decide +kernel⟩, by decide, kc_X6_pass, ki_X6⟩⟩
theorem kl_L_70 : Cond.methodLink R_law 70 yX6_undo ∈ fm_TBL := fm_tab 447 (by decide +kernel) (by decide +kernel)
theorem mk_L_70 : KV R_law 70 mX6_undo 0 6 := ⟨kl_L_70, kv_X6_undo, kz_X6_undo, ⟨_, rfl, rfl⟩, ⟨⟨by decide, by decide, by decide +kernel⟩, by decide, kc_X6_undo, ki_X6⟩⟩
theorem kl_L_74 : Cond.methodLink R_law 74 yX6_count ∈ fm_TBL := fm_tab 455 (by decide +kernel) (by decide +kernel)
theorem mk_L_74 : KV R_law 74 mX6_count 1 6 := ⟨kl_L_74, kv_X6_count, kz_X6_count, ⟨_, rfl, rfl⟩, ⟨⟨by decide, by decide, by decide +kernel⟩, by decide, kc_X6_count, ki_X6⟩⟩
theorem kl_L_78 : Cond.methodLink R_law 78 yX6_cell ∈ fm_TBL := fm_tab 473 (by decide +kernel) (by decide +kernel)
theorem mk_L_78 : KV R_law 78 mX6_cell 3 6 := ⟨kl_L_78, kv_X6_cell, kz_X6_cell, ⟨_, rfl, rfl⟩, ⟨⟨by decide, by decide, by decide +kernel⟩, by decide, kc_X6_cell, ki_X6⟩⟩
theorem kl_L_82 : Cond.methodLink R_law 82 yX6_scout ∈ fm_TBL := fm_tab 477 (by decide +kernel) (by decide +kernel)
theorem mk_L_82 : KV R_law 82 mX6_scout 2 6 := ⟨kl_L_82, kv_X6_scout, kz_X6_scout, ⟨_, rfl, rfl⟩, ⟨⟨by decide, by decide, by decide +kernel⟩, by decide, kc_X6_scout, ki_X6⟩⟩
theorem kl_L_86 : Cond.methodLink R_law 86 yX6_light ∈ fm_TBL := fm_tab 485 (by decide +kernel) (by decide +kernel)
theorem mk_L_86 : KV R_law 86 mX6_light 2 6 := ⟨kl_L_86, kv_X6_light, kz_X6_light, ⟨_, rfl, rfl⟩, ⟨⟨by decide, by decide, by decide +kernel⟩, by decide, kc_X6_light, ki_X6⟩⟩
theorem kl_L_90 : Cond.methodLink R_law 90 yX6_known ∈ fm_TBL := fm_tab 489 (by decide +kernel) (by decide +kernel)
theorem mk_L_90 : KV R_law 90 mX6_known 4 6 := ⟨kl_L_90, kv_X6_known, kz_X6_known, ⟨_, rfl, rfl⟩, ⟨⟨by decide, by decide, by decide +kernel⟩, by decide, kc_X6_known, ki_X6⟩⟩
theorem kl_L_94 : Cond.methodLink R_law 94 yX6_view ∈ fm_TBL := fm_tab 493 (by decide +kernel) (by decide +kernel)
theorem mk_L_94 : KV R_law 94 mX6_view 4 6 := ⟨kl_L_94, kv_X6_view, kz_X6_view, ⟨_, rfl, rfl⟩, ⟨⟨by decide, by decide, by decide +kernel⟩, by decide, kc_X6_view, ki_X6⟩⟩
theorem kl_L_98 : Cond.methodLink R_law 98 yX6_way ∈ fm_TBL := fm_tab 498 (by decide +kernel) (by decide +kernel)
theorem mk_L_98 : KV R_law 98 mX6_way 3 6 := ⟨kl_L_98, kv_X6_way, kz_X6_way, ⟨_, rfl, rfl⟩, ⟨⟨by decide, by decide, by decide +kernel⟩, by decide, kc_X6_way, ki_X6⟩⟩
theorem kl_L_102 : Cond.methodLink R_law 102 yX6_lookout ∈ fm_TBL := fm_tab 524 (by decide +kernel) (by decide +kernel)
theorem mk_L_102 : KV R_law 102 mX6_lookout 2 6 := ⟨kl_L_102, kv_X6_lookout, kz_X6_lookout, ⟨_, rfl, rfl⟩, ⟨⟨by decide, by decide, by decide +kernel⟩, by decide, kc_X6_lookout, ki_X6⟩⟩
theorem kl_L_106 : Cond.methodLink R_law 106 yX6_alone ∈ fm_TBL := fm_tab 533 (by decide +kernel) (by decide +kernel)
theorem mk_L_106 : KV R_law 106 mX6_alone 1 6 := ⟨kl_L_106, kv_X6_alone, kz_X6_alone, ⟨_, rfl, rfl⟩, ⟨⟨by decide, by decide, by decide +kernel⟩, by decide, kc_X6_alone, ki_X6⟩⟩
theorem kk_L_10 : Cond.classLink R_law 10 RX7 ∈ fm_TBL := fm_tab 537 (by decide +kernel) (by decide +kernel)
theorem kl_L_12 : Cond.methodLink R_law 12 yX7_init ∈ fm_TBL := fm_tab 539 (by decide +kernel) (by decide +kernel)
theorem mc_X7_init : MC mX7_init 0 := ⟨⟨by decide, by decide, by decide +kernel⟩, by decide, kc_X7_init, ki_X7⟩
theorem mk_L_12 : KC R_law 12 mX7_init 0 := ⟨kl_L_12, kv_X7_init, rfl, rfl, mc_X7_init⟩
theorem kl_L_17 : Cond.methodLink R_law 17 yX7_setHeight ∈ fm_TBL := fm_tab 571 (by decide +kernel) (by decide +kernel)
theorem mk_L_17 : KV R_law 17 mX7_setHeight 3 7 := ⟨kl_L_17, kv_X7_setHeight, kz_X7_setHeight, ⟨_, rfl, rfl⟩, ⟨⟨by decide, by decide, by decide +kernel⟩, by decide, kc_X7_setHeight, ki_X7⟩⟩
theorem kl_L_21 : Cond.methodLink R_law 21 yX7_setWall ∈ fm_TBL := fm_tab 647 (by decide +kernel) (by decide +kernel)
theorem mk_L_21 : KV R_law 21 mX7_setWall 3 7 := ⟨kl_L_21, kv_X7_setWall, kz_X7_setWall, ⟨_, rfl, rfl⟩, ⟨⟨by decide, by decide, by decide +kernel⟩, by decide, kc_X7_setWall, ki_X7⟩⟩
theorem kl_L_26 : Cond.methodLink R_law 26 yX7_append ∈ fm_TBL := fm_tab 651 (by decide +kernel) (by decide +kernel)
theorem mk_L_26 : KV R_law 26 mX7_append 1 7 := ⟨kl_L_26, kv_X7_append, kz_X7_append, ⟨_, rfl, rfl⟩, ⟨⟨by decide, by decide, by decide +kernel⟩, by decide, kc_X7_append, ki_X7⟩⟩
theorem kl_L_31 : Cond.methodLink R_law 31 yX7_clearText ∈ fm_TBL := fm_tab 655 (by decide +kernel) (by decide +kernel)
theorem mk_L_31 : KV R_law 31 mX7_clearText 0 7 := ⟨kl_L_31, kv_X7_clearText, kz_X7_clearText, ⟨_, rfl, rfl⟩, ⟨⟨by decide, by decide, by decide +kernel⟩, by decide, kc_X7_clearText, ki_X7⟩⟩
theorem kl_L_35 : Cond.methodLink R_law 35 yX7_load ∈ fm_TBL := fm_tab 659 (by decide +kernel) (by decide +kernel)
theorem mk_L_35 : KV R_law 35 mX7_load 0 7 := ⟨kl_L_35, kv_X7_load, kz_X7_load, ⟨_, rfl, rfl⟩, ⟨⟨by decide, by decide, by decide +kernel⟩, by decide, kc_X7_load, ki_X7⟩⟩
theorem kl_L_40 : Cond.methodLink R_law 40 yX7_addScout ∈ fm_TBL := fm_tab 679 (by decide +kernel) (by decide +kernel)
theorem mk_L_40 : KV R_law 40 mX7_addScout 4 7 := ⟨kl_L_40, kv_X7_addScout, kz_X7_addScout, ⟨_, rfl, rfl⟩, ⟨⟨by decide, by decide, by decide +kernel⟩, by decide, kc_X7_addScout, ki_X7⟩⟩
theorem kl_L_44 : Cond.methodLink R_law 44 yX7_step ∈ fm_TBL := fm_tab 683 (by decide +kernel) (by decide +kernel)
theorem mk_L_44 : KV R_law 44 mX7_step 3 7 := ⟨kl_L_44, kv_X7_step, kz_X7_step, ⟨_, rfl, rfl⟩, ⟨⟨by decide, by decide, by decide +kernel⟩, by decide, kc_X7_step, ki_X7⟩⟩
theorem kl_L_48 : Cond.methodLink R_law 48 yX7_removeScout ∈ fm_TBL := fm_tab 699 (by decide +kernel) (by decide +kernel)
theorem mk_L_48 : KV R_law 48 mX7_removeScout 1 7 := ⟨kl_L_48, kv_X7_removeScout, kz_X7_removeScout, ⟨_, rfl, rfl⟩, ⟨⟨by decide, by decide, by decide +kernel⟩, by decide, kc_X7_removeScout, ki_X7⟩⟩
theorem kl_L_52 : Cond.methodLink R_law 52 yX7_addLight ∈ fm_TBL := fm_tab 707 (by decide +kernel) (by decide +kernel)
theorem mk_L_52 : KV R_law 52 mX7_addLight 4 7 := ⟨kl_L_52, kv_X7_addLight, kz_X7_addLight, ⟨_, rfl, rfl⟩, ⟨⟨by decide, by decide, by decide +kernel⟩, by decide, kc_X7_addLight, ki_X7⟩⟩
theorem kl_L_57 : Cond.methodLink R_law 57 yX7_setOil ∈ fm_TBL := fm_tab 711 (by decide +kernel) (by decide +kernel)
theorem mk_L_57 : KV R_law 57 mX7_setOil 2 7 := ⟨kl_L_57, kv_X7_setOil, kz_X7_setOil, ⟨_, rfl, rfl⟩, ⟨⟨by decide, by decide, by decide +kernel⟩, by decide, kc_X7_setOil, ki_X7⟩⟩
theorem kl_L_61 : Cond.methodLink R_law 61 yX7_removeLight ∈ fm_TBL := fm_tab 719 (by decide +kernel) (by decide +kernel)
theorem mk_L_61 : KV R_law 61 mX7_removeLight 1 7 := ⟨kl_L_61, kv_X7_removeLight, kz_X7_removeLight, ⟨_, rfl, rfl⟩, ⟨⟨by decide, by decide, by decide +kernel⟩, by decide, kc_X7_removeLight, ki_X7⟩⟩
theorem kl_L_65 : Cond.methodLink R_law 65 yX7_setFogTime ∈ fm_TBL := fm_tab 723 (by decide +kernel) (by decide +kernel)
theorem mk_L_65 : KV R_law 65 mX7_setFogTime 1 7 := ⟨kl_L_65, kv_X7_setFogTime, kz_X7_setFogTime, ⟨_, rfl, rfl⟩, ⟨⟨by decide, by decide, by decide +kernel⟩, by decide, kc_X7_setFogTime, ki_X7⟩⟩
theorem kl_L_69 : Cond.methodLink R_law 69 yX7_pass ∈ fm_TBL := fm_tab 727 (by decide +kernel) (by decide +kernel)
theorem mk_L_69 : KV R_law 69 mX7_pass 1 7 := ⟨kl_L_69, kv_X7_pass, kz_X7_pass, ⟨_, rfl, rfl⟩, ⟨⟨by decide, by decide, by decide +kernel⟩, by decide, kc_X7_pass, ki_X7⟩⟩
theorem kl_L_73 : Cond.methodLink R_law 73 yX7_undo ∈ fm_TBL := fm_tab 735 (by decide +kernel) (by decide +kernel)
theorem mk_L_73 : KV R_law 73 mX7_undo 0 7 := ⟨kl_L_73, kv_X7_undo, kz_X7_undo, ⟨_, rfl, rfl⟩, ⟨⟨by decide, by decide, by decide +kernel⟩, by decide, kc_X7_undo, ki_X7⟩⟩
theorem kl_L_77 : Cond.methodLink R_law 77 yX7_count ∈ fm_TBL := fm_tab 739 (by decide +kernel) (by decide +kernel)
theorem mk_L_77 : KV R_law 77 mX7_count 1 7 := ⟨kl_L_77, kv_X7_count, kz_X7_count, ⟨_, rfl, rfl⟩, ⟨⟨by decide, by decide, by decide +kernel⟩, by decide, kc_X7_count, ki_X7⟩⟩
theorem kl_L_81 : Cond.methodLink R_law 81 yX7_cell ∈ fm_TBL := fm_tab 755 (by decide +kernel) (by decide +kernel)
theorem mk_L_81 : KV R_law 81 mX7_cell 3 7 := ⟨kl_L_81, kv_X7_cell, kz_X7_cell, ⟨_, rfl, rfl⟩, ⟨⟨by decide, by decide, by decide +kernel⟩, by decide, kc_X7_cell, ki_X7⟩⟩
theorem kl_L_85 : Cond.methodLink R_law 85 yX7_scout ∈ fm_TBL := fm_tab 759 (by decide +kernel) (by decide +kernel)
theorem mk_L_85 : KV R_law 85 mX7_scout 2 7 := ⟨kl_L_85, kv_X7_scout, kz_X7_scout, ⟨_, rfl, rfl⟩, ⟨⟨by decide, by decide, by decide +kernel⟩, by decide, kc_X7_scout, ki_X7⟩⟩
theorem kl_L_89 : Cond.methodLink R_law 89 yX7_light ∈ fm_TBL := fm_tab 767 (by decide +kernel) (by decide +kernel)
theorem mk_L_89 : KV R_law 89 mX7_light 2 7 := ⟨kl_L_89, kv_X7_light, kz_X7_light, ⟨_, rfl, rfl⟩, ⟨⟨by decide, by decide, by decide +kernel⟩, by decide, kc_X7_light, ki_X7⟩⟩
theorem kl_L_93 : Cond.methodLink R_law 93 yX7_known ∈ fm_TBL := fm_tab 771 (by decide +kernel) (by decide +kernel)
theorem mk_L_93 : KV R_law 93 mX7_known 4 7 := ⟨kl_L_93, kv_X7_known, kz_X7_known, ⟨_, rfl, rfl⟩, ⟨⟨by decide, by decide, by decide +kernel⟩, by decide, kc_X7_known, ki_X7⟩⟩
theorem kl_L_97 : Cond.methodLink R_law 97 yX7_view ∈ fm_TBL := fm_tab 775 (by decide +kernel) (by decide +kernel)
theorem mk_L_97 : KV R_law 97 mX7_view 4 7 := ⟨kl_L_97, kv_X7_view, kz_X7_view, ⟨_, rfl, rfl⟩, ⟨⟨by decide, by decide, by decide +kernel⟩, by decide, kc_X7_view, ki_X7⟩⟩
theorem kl_L_101 : Cond.methodLink R_law 101 yX7_way ∈ fm_TBL := fm_tab 779 (by decide +kernel) (by decide +kernel)
theorem mk_L_101 : KV R_law 101 mX7_way 3 7 := ⟨kl_L_101, kv_X7_way, kz_X7_way, ⟨_, rfl, rfl⟩, ⟨⟨by decide, by decide, by decide +kernel⟩, by decide, kc_X7_way, ki_X7⟩⟩
theorem kl_L_105 : Cond.methodLink R_law 105 yX7_lookout ∈ fm_TBL := fm_tab 791 (by decide +kernel) (by decide +kernel)
theorem mk_L_105 : KV R_law 105 mX7_lookout 2 7 := ⟨kl_L_105, kv_X7_lookout, kz_X7_lookout, ⟨_, rfl, rfl⟩, ⟨⟨by decide, by decide, by decide +kernel⟩, by decide, kc_X7_lookout, ki_X7⟩⟩
theorem kl_L_109 : Cond.methodLink R_law 109 yX7_alone ∈ fm_TBL := fm_tab 795 (by decide +kernel) (by decide +kernel)
theorem mk_L_109 : KV R_law 109 mX7_alone 1 7 := ⟨kl_L_109, kv_X7_alone, kz_X7_alone, ⟨_, rfl, rfl⟩, ⟨⟨by decide, by decide, by decide +kernel⟩, by decide, kc_X7_alone, ki_X7⟩⟩
/-- the law's place: its entry, and what the tables say -/
def LC (p : Program) (s : State) (m : MethodId) (meth : Method) (c : Code) (b L : Nat) (xs : Nat → Int32) (D : va_G) (cI cM cS : ClassId) : Prop := lw_At p s m meth c b L xs ∧ va_K D vwCl (tysOf cI cM cS) s ∧ NK s
abbrev lwA (s : State) : Nat → Prop := fun q => s.heap.size ≤ q
abbrev LV (b base : Nat) (i : Int) : List (Nat × Value) := [(0, .ref b), (1, .ref (base + 0)), (2, .ref (base + 132)), (3, .int (Int32.ofInt i))]
/-- the script's int at i + k -/
def ag (xs : Nat → Int32) (i k : Int) : Int := (xs (Int32.ofInt (i + k)).toNatClampNeg).toInt
theorem ag_in (xs : Nat → Int32) (i k : Int) : inR (ag xs i k) := by
  unfold ag inR
  have h1 := Int32.minValue_le_toInt (xs (Int32.ofInt (i + k)).toNatClampNeg)
  have h2 := Int32.toInt_le (xs (Int32.ofInt (i + k)).toNatClampNeg)
  have e : Int32.minValue.toInt = -2147483648 := by decide
  have e2 : Int32.maxValue.toInt = 2147483647 := by decide
  exact ⟨by omega, by omega⟩
theorem RM.lo {M M' : Mem} {σ : AbS} (h : RM M σ) (hf : ∀ a, 132 ≤ a → M' a = M a) : RM M' σ := by
  unfold RM at h ⊢
  rw [hf 132 (by decide), hf 133 (by decide), hf 135 (by decide), hf 136 (by decide)]
  exact h
theorem CX.out {μ : Mu} {d : Nat} {vs : List AV} {M : Mem} {x : Int} {σ : AbS} (h : CX μ d vs M (some (.inl x)) M) (hR : RF M σ) : CQ μ d vs M (OUT M (x, σ)) :=
  h.mono fun r M' q => by
    obtain ⟨e1, e2⟩ := q
    rw [e1, e2]
    exact ⟨rfl, hR, fun _ _ => rfl⟩
section LAWROWS
variable {p : Program} {l : Launch} {e : Env} {s : State} {m : MethodId} {below : List Frame} {meth : Method} {c : Code} {b L : Nat} {xs : Nat → Int32} {D : va_G} {cI cM cS : ClassId}
variable {H : Heap} {locs : List Loc} {ck sk pc : Nat} {ls : Array Slot} {Z : State → Prop} {sh : Shp} {M : Mem}
theorem LC.ts (C : LC p s m meth c b L xs D cI cM cS) : ∀ w ∈ fm_TBL, w.before #[Value.ref b] s = true := fun w h => C.1.2.2.2.2.2.1 w (List.mem_filter.mp h).1
theorem lx_goodIn {ν : Mu} (h : Cond.code ν.1 ν.2.1 ν.2.2.1 ν.2.2.2 ∈ fm_TBL) : GoodIn fm_TBL (fm_ws ν) := by
  intro w hw
  rcases List.mem_cons.mp hw with e | e
  · exact ⟨e ▸ h, fm_good (e ▸ h)⟩
  · exact ⟨e, fm_good e⟩
/-- an int of the script, pushed -/
theorem lx_arg {i k : Int} {st : List Value} (C : LC p s m meth c b L xs D cI cM cS) (hL : L ≤ 2560) (hS : va_S (lwA s) s.heap H locs) (hl : lv_has ls 4 (LV b s.heap.size i)) (hk : decode code (pc + 2) = .ok (.iconst k, 1)) (hi : 0 ≤ i + k ∧ i + k < (L : Int)) (d0 : decode code pc = .ok (.aload_n 0, 1)) (d1 : decode code (pc + 1) = .ok (.iload_n 3, 1)) (d3 : decode code (pc + 3) = .ok (.iadd, 1)) (d4 : decode code (pc + 4) = .ok (.iaload, 1))
    (kk : W p l e room_1 s m #[Value.ref b] below meth c H locs ck sk Z (F0 m (pc + 5) ls (cv s.heap.size (.inl (ag xs i k)) :: st))) : W p l e room_1 s m #[Value.ref b] below meth c H locs ck sk Z (F0 m pc ls st) := by
  have hbA : ¬ lwA s b := Nat.not_le.mpr C.1.2.2.2.2.2.2.2.1
  refine lv_aload_n C.1.1 C.1.2.1 d0 rfl (lv_at hl 0 rfl) ?_
  refine lv_iload_n C.1.1 C.1.2.1 d1 rfl (lv_at hl 3 rfl) ?_
  refine lv_iconst (v := Int32.ofInt k) C.1.1 C.1.2.1 hk rfl ?_
  refine lv_iadd C.1.1 C.1.2.1 d3 ?_
  rw [← Int32.ofInt_add]
  refine va_sld C.1.1 C.1.2.1 C.1.2.2.2.2.2.2.1 C.1.2.2.2.2.2.2.2.1 hbA hS (fm_vin hi (by omega)) d4 ?_
  have e1 : cv s.heap.size (.inl (ag xs i k)) = .int (xs (Int32.ofInt (i + k)).toNatClampNeg) := by
    show Value.int (Int32.ofInt (ag xs i k)) = _
    unfold ag
    rw [Int32.ofInt_toInt]
  rw [e1] at kk
  exact kk
theorem lx_go {mc' ms' : Nat} {st0 rest : List Value} {aa : Array Value} {Q' : Option AV → Shp → Mem → Prop} (hS : va_S (lwA s) s.heap H locs)
    (hr : va_Run p l e room_1 s m #[Value.ref b] below meth c H locs ck sk mc' ms' (F0 m pc ls st0) rest (QC s.heap.size D cI cM cS Q' aa) (fun q => s.heap.size ≤ q))
    (k : ∀ r sh' M' H' locs', Q' r sh' M' → Wh s.heap.size D cI cM cS sh' M' H' → va_S (lwA s) s.heap H' locs' → W p l e room_1 s m #[Value.ref b] below meth c H' locs' (ck + mc') (sk + ms') Z (F0 m (pc + 3) ls ((r.map (cv s.heap.size)).toList ++ rest))) :
    W p l e room_1 s m #[Value.ref b] below meth c H locs ck sk Z (F0 m pc ls st0) := by
  intro T hT X
  obtain ⟨v, st₀, t, T', L, h0, X', hLL, e1, e2, ⟨⟨r, sh', M', hv, hq, hw⟩, hfr, hsz⟩, st⟩ := hr T hT X
  have hv' : v = r.map (cv s.heap.size) := by injection hv
  subst hv'
  have k' := k r sh' M' T'.heap (locs ++ L) hq (by rw [e1]; exact hw) ⟨by rw [e1]; rw [h0] at hsz; exact Nat.le_trans hS.1 hsz, fun q hq1 hq2 => by rw [e1, hfr q hq1, h0]; exact hS.2.1 q hq1 hq2, fun q hq => by
    rcases List.mem_append.mp hq with h | h
    · exact hS.2.2 q h
    · exact hLL q h⟩
  obtain ⟨t2, a1, b1⟩ := k' T' rfl X'
  exact ⟨t2, st t2 a1, b1⟩
theorem lx_callV {idx a t n nf d' : Nat} {ν : Mu} {fs : List (Option (Option Nat))} {As : List AV} {st rest : List Value} {Q' : Option AV → Mem → Prop} (C : LC p s m meth c b L xs D cI cM cS) (hW : Wh s.heap.size D cI cM cS SH M H) (hS : va_S (lwA s) s.heap H locs) (hl : ls.size = 4) (hd : decode code pc = .ok (.invokevirtual idx, 3)) (hk : KV R_law idx ν n t) (hs : SH[a]? = some (t + 3, nf, fs)) (hM : CQ ν d' (.inr (some a) :: As) M Q') (hn : As.length = n) (hdd : d' ≤ 10) (hst : st = (As.map (cv s.heap.size)).reverse ++ .ref (s.heap.size + a) :: rest) (hr : (rest.map fun v => v.category).sum ≤ 8) (hck : ck ≤ 600000) (hsk : sk ≤ 7302250)
    (k : ∀ r M' H' locs', Q' r M' → Wh s.heap.size D cI cM cS SH M' H' → va_S (lwA s) s.heap H' locs' → W p l e room_1 s m #[Value.ref b] below meth c H' locs' ck sk Z (F0 m (pc + 3) ls ((r.map (cv s.heap.size)).toList ++ rest))) :
    W p l e room_1 s m #[Value.ref b] below meth c H locs ck sk Z (F0 m pc ls st) := by
  obtain ⟨k1, k2, k3, ⟨rc, hrc, hrcn⟩, hmc, hml, hcode, hini⟩ := hk
  have hts := C.ts
  have hK := C.2.1
  obtain ⟨-, rc', hrc', -, cell, g1, g2, g3, -⟩ := (hW.2 a _ hs).obj
  have hrr : rc' = rc := Option.some.inj (hrc'.symm.trans hrc)
  subst hrr
  have hG : GoodIn fm_TBL (wsV R_law idx ν.1.cls ν.1 (fm_ws ν)) := by
    intro w hw
    unfold wsV at hw
    rcases List.mem_append.mp hw with h | h
    · have : w ∈ fm_TBL := by
        rcases List.mem_cons.mp h with h | h
        · rw [h]; exact k1
        rcases List.mem_cons.mp h with h | h
        · rw [h]; exact k2
        rcases List.mem_cons.mp h with h | h
        · rw [h]; exact k3
        rw [List.mem_singleton.mp h]; exact hini
      exact ⟨this, fm_good this⟩
    · exact lx_goodIn hcode w h
  have hRR : (rmv d' 0 0).frames + 1 ≤ room_1.frames ∧ 8 + (ν.2.2.1 + 11) + (rmv d' 0 0).locals ≤ room_1.locals := by
    show d' + 1 ≤ 11 ∧ 8 + (ν.2.2.1 + 11) + 32 * d' ≤ 432
    omega
  refine lx_go (mc' := 0) (ms' := 0) hS (va_runV (As := As.map (cv s.heap.size)) (b := s.heap.size + a) (rest := rest) ⟨C.1.1, C.1.2.1, C.1.2.2.2.1, C.1.2.2.2.2.1, hts⟩ (hM l s.heap.size D cI cM cS) (cwV n hts hG rfl rfl rfl ⟨rfl, hmc⟩ hRR) ⟨PW.blind, ⟨cell, g1, by rw [g3]; rfl, by rw [g2, ← hrcn]; exact (hK.1 t _ hrc).2.1⟩, fun U hU hWm => ⟨rfl, PW.at hW hK C.2.2 hU hWm⟩⟩ rfl (by rw [List.length_map]; exact hn) hl hst (lv_room hr) hd ⟨hck, hsk⟩) (fun r sh' M' H' locs' q hw hs' => ?_)
  obtain ⟨rfl, q⟩ := q
  exact k r M' H' locs' q hw hs'
theorem lx_ctor {idx a d' mc' ms' : Nat} {ν : Mu} {st rest : List Value} {Q' : Option AV → Shp → Mem → Prop} (C : LC p s m meth c b L xs D cI cM cS) (hW : Wh s.heap.size D cI cM cS sh M H) (hS : va_S (lwA s) s.heap H locs) (hl : ls.size = 4) (hd : decode code pc = .ok (.invokespecial idx, 3)) (hk : KC R_law idx ν 0) (hM : CT ν d' mc' ms' [.inr (some a)] sh M Q') (hdd : d' ≤ 10) (hst : st = .ref (s.heap.size + a) :: rest) (hr : (rest.map fun v => v.category).sum ≤ 8) (hck : ck + mc' ≤ 600000) (hsk : sk + ms' ≤ 7302250)
    (k : ∀ r sh' M' H' locs', Q' r sh' M' → Wh s.heap.size D cI cM cS sh' M' H' → va_S (lwA s) s.heap H' locs' → W p l e room_1 s m #[Value.ref b] below meth c H' locs' (ck + mc') (sk + ms') Z (F0 m (pc + 3) ls ((r.map (cv s.heap.size)).toList ++ rest))) :
    W p l e room_1 s m #[Value.ref b] below meth c H locs ck sk Z (F0 m pc ls st) := by
  obtain ⟨k1, k2, hname, hret, hmc, hml, hcode, hini⟩ := hk
  have hts := C.ts
  have hRR : (rmv d' mc' ms').frames + 1 ≤ room_1.frames ∧ 8 + (ν.2.2.1 + 11) + (rmv d' mc' ms').locals ≤ room_1.locals := by
    show d' + 1 ≤ 11 ∧ 8 + (ν.2.2.1 + 11) + 32 * d' ≤ 432
    omega
  exact lx_go hS (va_runI (As := []) (b := s.heap.size + a) (rest := rest) ⟨C.1.1, C.1.2.1, C.1.2.2.2.1, C.1.2.2.2.2.1, hts⟩ (hM l s.heap.size D cI cM cS) (cwI 0 hts (lx_goodIn hcode) (by unfold fm_ws; rw [hret]) rfl rfl (hts _ hini) (hts _ k1) (hts _ k2) hname hmc hRR) ⟨PW.blind, fun U hU hWm => ⟨rfl, PW.at hW C.2.1 C.2.2 hU hWm⟩⟩ rfl rfl hl hst (lv_room hr) hd ⟨hck, hsk⟩) k
theorem lx_new {idx t N a : Nat} {Cn : String} {T : u_T} {ty : Nat → FieldType} {fs : List (Option (Option Nat))} {sh2 : Shp} {st : List Value} (C : LC p s m meth c b L xs D cI cM cS) (hW : Wh s.heap.size D cI cM cS sh M H) (hS : va_S (lwA s) s.heap H locs) (hd : decode code pc = .ok (.new idx, 3)) (hc : vwCl[t]? = some (Cn, T, N)) (hk : Cond.classLink R_law idx Cn ∈ fm_TBL) (hins : Cond.instantiable Cn N ∈ fm_TBL) (hini : Cond.initialized Cn ∈ fm_TBL) (hu : ∀ w ∈ u_ws Cn T N, w ∈ fm_TBL) (hty : ∀ k, k < N → parseFieldDescriptor (T k).2.2.1 = some (ty k)) (hl : fs.length = N) (hM : ∀ i, M sh.length i = 0) (hfs : ∀ j, j < fs.length → (fs[j]? = some none ∧ defaultValue (ty j) = .int 0) ∨ (fs[j]? = some (some none) ∧ defaultValue (ty j) = .null)) (hck : ck + 1 ≤ 600000) (hsk : sk + N ≤ 7302250) (ha : sh.length = a) (h2 : sh ++ [(t + 3, N, fs)] = sh2)
    (k : ∀ H', Wh s.heap.size D cI cM cS sh2 M H' → va_S (lwA s) s.heap H' locs → W p l e room_1 s m #[Value.ref b] below meth c H' locs (ck + 1) (sk + N) Z (F0 m (pc + 3) ls (.ref (s.heap.size + a) :: st))) :
    W p l e room_1 s m #[Value.ref b] below meth c H locs ck sk Z (F0 m pc ls st) := by
  subst h2; subst ha
  have hts := C.ts
  have hK := C.2.1
  have hKn := hK.1 t _ hc
  refine W.newcK C.1.1 C.1.2.1 C.1.2.2.2.2.1 (hts _ hk) (hts _ hins) (hts _ hini) rfl hd hck hsk hKn.2.1 hW.1 fun H1 kC hkC e1 z1 o1 => ?_
  have hW' : Wh s.heap.size D cI cM cS (sh ++ [(t + 3, N, fs)]) M H1 := hW.push (show Cl s.heap.size D cI cM cS sh.length (t + 3, N, fs) (M sh.length) H1 from ⟨hl, _, hc, rfl, (u_born ty hts hu hKn hkC e1 hty).to (fun j hj => fv_blank hM hfs s.heap.size j (by rw [hl]; exact hj))⟩) (by rw [z1, hW.1]) (fun q hq => o1 q (by rw [← hW.1]; exact hq))
  exact k H1 hW' ⟨by rw [z1, ← hW.1]; exact Nat.le_trans hS.1 (Nat.le_succ _), fun q h1 h2 => (o1 q (Nat.lt_of_lt_of_le h1 (Nat.le_add_right _ _))).trans (hS.2.1 q h1 h2), hS.2.2⟩
end LAWROWS
