/-! ===== THE LAW'S ENTRY ===== -/
def R_law : String := "FogMapLaw"
def lw_P (b : Addr) (xs : List Int32) (args : Array Value) (s : State) : Prop := args = #[.ref b] ∧ s.IntsAt b xs ∧ xs.length ≤ 260 ∧ (Jvm.Cond.and given_1 narrow_1).before args s = true
def lw_Q (_ : Array Value) (s : State) (o : Outcome) (t : State) : Prop := o = .returned (some (.int 1)) ∧ Framed s o t [] 600000 7302250
def lw_Z (below : List Frame) (a : Array Value) (s : State) : State → Prop := fun t => ∃ o, t.status = .running ∧ Ended t below o ∧ lw_Q a s o t
/-- the law's own end, with 1 on the stack, nothing written that was there before, its room as the claim has it -/
theorem lw_ret {p : Program} {l : Launch} {e : Env} {s : State} {m : MethodId} {below : List Frame} {meth : Method} {c : Code} {b : Nat} (hx : p.tables.exec = Jvm.exec) (hb : c.code = code) (hr : meth.sig.returnType = ret) (hlocks : meth.locks = false) {pc : Nat} {H : Heap} {ls : Array Slot} (hdg : decode code pc = .ok (.ireturn, 1)) : W p l e room_1 s m #[Value.ref b] below meth c H [] 600000 7302250 (lw_Z below #[Value.ref b] s) (F0 m pc ls [.int 1]) := by
  intro T hT X
  obtain ⟨fs, hret, hrun, hended, hW, hframe⟩ := X.leave (v := some (.int 1)) (hlocks := hlocks) (fun h => by rw [hr] at h; cases h)
  have hmeth' : T.vm.method? m = some meth := X.method'
  refine ⟨T.setFrames fs, ?_, .returned (some (.int 1)), hrun, hended, rfl, ⟨_, rfl⟩, hW, hframe⟩
  jvm_step X.here [X.here.top, hx, hb, hdg, hmeth', hr, ret, narrow_b1]
  (try refine ⟨rfl, ?_⟩); (try refine ⟨rfl, ?_⟩)
  first | (intro acts; rw [hret _ acts rfl rfl rfl]) | rw [hret _ _ rfl rfl rfl]
  exact Steps.refl _
/-- what holds at the law's entry: the machine, the code, the tables' words (any of lw_tbl by 'hts w (by decide +kernel)'), the script of L ints xs at the cell b, what the Statement gives of the start (any of its parts by flat_of_before) -/
def lw_At (p : Program) (s : State) (m : MethodId) (meth : Method) (c : Code) (b L : Nat) (xs : Nat → Int32) : Prop :=
  p.tables.exec = Jvm.exec ∧ c.code = code ∧ meth.sig.returnType = ret ∧ c.maxLocals = 10 ∧ s.vm.findClass R_law = some m.cls ∧ (∀ w ∈ lw_tbl, w.before #[Value.ref b] s = true) ∧ va_X b L xs s s.heap ∧ b < s.heap.size ∧ meth.locks = false ∧ (Jvm.Cond.and given_1 narrow_1).before #[Value.ref b] s = true
theorem mk_L_80 : KC R_law 80 mX6_init 0 := ⟨kl_L_80, kv_X6_init, rfl, rfl, mc_X6_init⟩
def LC (p : Program) (s : State) (m : MethodId) (meth : Method) (c : Code) (b L : Nat) (xs : Nat → Int32) (D : va_G) (cI cM cS : ClassId) : Prop := lw_At p s m meth c b L xs ∧ va_K D vwCl (tysOf cI cM cS) s ∧ NK s
abbrev lwA (s : State) : Nat → Prop := fun q => s.heap.size ≤ q
section LAWROWS
variable {p : Program} {l : Launch} {e : Env} {s : State} {m : MethodId} {below : List Frame} {meth : Method} {c : Code} {b L : Nat} {xs : Nat → Int32} {D : va_G} {cI cM cS : ClassId}
variable {H : Heap} {locs : List Loc} {ck sk pc : Nat} {ls : Array Slot} {Z : State → Prop} {sh : Shp} {M : Mem}
theorem LC.ts (C : LC p s m meth c b L xs D cI cM cS) : ∀ w ∈ fm_TBL, w.before #[Value.ref b] s = true := fun w h => C.1.2.2.2.2.2.1 w (List.mem_filter.mp h).1
theorem lx_goodIn {ν : Mu} (h : Cond.code ν.1 ν.2.1 ν.2.2.1 ν.2.2.2 ∈ fm_TBL) : GoodIn fm_TBL (fm_ws ν) := by
  intro w hw
  rcases List.mem_cons.mp hw with e | e
  · exact ⟨e ▸ h, fm_good (e ▸ h)⟩
  · exact ⟨e, fm_good e⟩
theorem lx_go {mc' ms' : Nat} {st0 rest : List Value} {aa : Array Value} {Q' : Option AV → Shp → Mem → Prop} (hS : va_S (lwA s) s.heap H locs)
    (hr : va_Run p l e room_1 s m #[Value.ref b] below meth c H locs ck sk mc' ms' (F0 m pc ls st0) rest (QC s.heap.size D cI cM cS Q' aa) (fun q => s.heap.size ≤ q))
    (k : ∀ r sh' M' H' locs', Q' r sh' M' → Wh s.heap.size D cI cM cS sh' M' H' → va_S (lwA s) s.heap H' locs' → W p l e room_1 s m #[Value.ref b] below meth c H' locs' (ck + mc') (sk + ms') Z (F0 m (pc + 3) ls ((r.map (cv s.heap.size)).toList ++ rest))) :
    W p l e room_1 s m #[Value.ref b] below meth c H locs ck sk Z (F0 m pc ls st0) := by
  intro T hT X
  obtain ⟨v, st₀, t, T', L, h0, X', hLL, e1, e2, ⟨⟨r, sh', M', hv, hq, hw⟩, hfr, hsz⟩, st⟩ := hr T hT X
  have hv' : v = r.map (cv s.heap.size) := by injection hv
  subst hv'
  have k' := k r sh' M' T'.heap (locs ++ L) hq (by rw [e1]; exact hw) ⟨by rw [e1]; rw [h0] at hsz; exact Nat.le_trans hS.1 hsz, fun q hq1 hq2 => by rw [e1, hfr q hq1, h0]; exact hS.2.1 q hq1 hq2, fun q hq => by
    rcases List.mem_append.mp hq with h | h
    · exact hS.2.2 q h
    · exact hLL q h⟩
  obtain ⟨t2, a1, b1⟩ := k' T' rfl X'
  exact ⟨t2, st t2 a1, b1⟩
theorem lx_ctor {idx a d' mc' ms' : Nat} {ν : Mu} {st rest : List Value} {Q' : Option AV → Shp → Mem → Prop} (C : LC p s m meth c b L xs D cI cM cS) (hW : Wh s.heap.size D cI cM cS sh M H) (hS : va_S (lwA s) s.heap H locs) (hl : ls.size = 10) (hd : decode code pc = .ok (.invokespecial idx, 3)) (hk : KC R_law idx ν 0) (hM : CT ν d' mc' ms' [.inr (some a)] sh M Q') (hdd : d' ≤ 10) (hst : st = .ref (s.heap.size + a) :: rest) (hr : (rest.map fun v => v.category).sum ≤ 8) (hck : ck + mc' ≤ 600000) (hsk : sk + ms' ≤ 7302250)
    (k : ∀ r sh' M' H' locs', Q' r sh' M' → Wh s.heap.size D cI cM cS sh' M' H' → va_S (lwA s) s.heap H' locs' → W p l e room_1 s m #[Value.ref b] below meth c H' locs' (ck + mc') (sk + ms') Z (F0 m (pc + 3) ls ((r.map (cv s.heap.size)).toList ++ rest))) :
    W p l e room_1 s m #[Value.ref b] below meth c H locs ck sk Z (F0 m pc ls st) := by
  obtain ⟨k1, k2, hname, hret, hmc, hml, hcode, hini⟩ := hk
  have hts := C.ts
  have hRR : (rmv d' mc' ms').frames + 1 ≤ room_1.frames ∧ 8 + (ν.2.2.1 + 11) + (rmv d' mc' ms').locals ≤ room_1.locals := by
    show d' + 1 ≤ 11 ∧ 8 + (ν.2.2.1 + 11) + 32 * d' ≤ 424
    omega
  exact lx_go hS (va_runI (As := []) (b := s.heap.size + a) (rest := rest) ⟨C.1.1, C.1.2.1, C.1.2.2.2.1, C.1.2.2.2.2.1, hts⟩ (hM l s.heap.size D cI cM cS) (cwI 0 hts (lx_goodIn hcode) (by unfold fm_ws; rw [hret]) rfl rfl (hts _ hini) (hts _ k1) (hts _ k2) hname hmc hRR) ⟨PW.blind, fun U hU hWm => ⟨rfl, PW.at hW C.2.1 C.2.2 hU hWm⟩⟩ rfl rfl hl hst (lv_room hr) hd ⟨hck, hsk⟩) k
theorem lx_new {idx t N a : Nat} {Cn : String} {T : u_T} {ty : Nat → FieldType} {fs : List (Option (Option Nat))} {sh2 : Shp} {st : List Value} (C : LC p s m meth c b L xs D cI cM cS) (hW : Wh s.heap.size D cI cM cS sh M H) (hS : va_S (lwA s) s.heap H locs) (hd : decode code pc = .ok (.new idx, 3)) (hc : vwCl[t]? = some (Cn, T, N)) (hk : Cond.classLink R_law idx Cn ∈ fm_TBL) (hins : Cond.instantiable Cn N ∈ fm_TBL) (hini : Cond.initialized Cn ∈ fm_TBL) (hu : ∀ w ∈ u_ws Cn T N, w ∈ fm_TBL) (hty : ∀ k, k < N → parseFieldDescriptor (T k).2.2.1 = some (ty k)) (hl : fs.length = N) (hM : ∀ i, M sh.length i = 0) (hfs : ∀ j, j < fs.length → (fs[j]? = some none ∧ defaultValue (ty j) = .int 0) ∨ (fs[j]? = some (some none) ∧ defaultValue (ty j) = .null)) (hck : ck + 1 ≤ 600000) (hsk : sk + N ≤ 7302250) (ha : sh.length = a) (h2 : sh ++ [(t + 3, N, fs)] = sh2)
    (k : ∀ H', Wh s.heap.size D cI cM cS sh2 M H' → va_S (lwA s) s.heap H' locs → W p l e room_1 s m #[Value.ref b] below meth c H' locs (ck + 1) (sk + N) Z (F0 m (pc + 3) ls (.ref (s.heap.size + a) :: st))) :
    W p l e room_1 s m #[Value.ref b] below meth c H locs ck sk Z (F0 m pc ls st) := by
  subst h2; subst ha
  have hts := C.ts
  have hK := C.2.1
  have hKn := hK.1 t _ hc
  refine W.newcK C.1.1 C.1.2.1 C.1.2.2.2.2.1 (hts _ hk) (hts _ hins) (hts _ hini) rfl hd hck hsk hKn.2.1 hW.1 fun H1 kC hkC e1 z1 o1 => ?_
  have hW' : Wh s.heap.size D cI cM cS (sh ++ [(t + 3, N, fs)]) M H1 := hW.push (show Cl s.heap.size D cI cM cS sh.length (t + 3, N, fs) (M sh.length) H1 from ⟨hl, _, hc, rfl, (u_born ty hts hu hKn hkC e1 hty).to (fun j hj => fv_blank hM hfs s.heap.size j (by rw [hl]; exact hj))⟩) (by rw [z1, hW.1]) (fun q hq => o1 q (by rw [← hW.1]; exact hq))
  exact k H1 hW' ⟨by rw [z1, ← hW.1]; exact Nat.le_trans hS.1 (Nat.le_succ _), fun q h1 h2 => (o1 q (Nat.lt_of_lt_of_le h1 (Nat.le_add_right _ _))).trans (hS.2.1 q h1 h2), hS.2.2⟩
end LAWROWS
theorem bl_X6 : ∀ j, j < ([some none, some none, some none, some none, some none] : List (Option (Option Nat))).length → (([some none, some none, some none, some none, some none] : List (Option (Option Nat)))[j]? = some none ∧ defaultValue (tyX6 j) = .int 0) ∨ (([some none, some none, some none, some none, some none] : List (Option (Option Nat)))[j]? = some (some none) ∧ defaultValue (tyX6 j) = .null) := by
  intro j hj
  have hj : j < 5 := hj
  rcases (show j = 0 ∨ j = 1 ∨ j = 2 ∨ j = 3 ∨ j = 4 by omega) with rfl | rfl | rfl | rfl | rfl <;> first | exact Or.inl ⟨rfl, rfl⟩ | exact Or.inr ⟨rfl, rfl⟩
theorem lk_v0 : LK v0 := by
  have key : ∀ (s : Int) (i : Nat) (f : Int → Int), lk1 v0 s i f = f := fun s i f => by
    funext j
    refine if_neg (fun q => ?_)
    obtain ⟨-, -, k, h1, h2, -⟩ := q
    have h2 : k < 0 := h2
    omega
  refine ⟨?_, fun c => ⟨?_, ?_⟩⟩
  · funext t
    unfold lookV
    by_cases h1 : 9 ≤ t ∧ t ≤ 12
    · rw [if_pos h1, key]
    · by_cases h2 : 13 ≤ t ∧ t ≤ 16
      · rw [if_neg h1, if_pos h2, key]
      · rw [if_neg h1, if_neg h2]
  · rw [v0_z (by decide)]; show (0 : Int) ≤ 10; decide
  · rw [v0_z (by decide)]; show (0 : Int) ≤ 10; decide
set_option maxHeartbeats 4000000 in
set_option maxRecDepth 100000 in
/-- THE LAW, from its entry -/
theorem whole_start {p : Program} {e : Env} {s : State} {m : MethodId} {below : List Frame} {meth : Method} {c : Code} (l : Launch) (hflags : l.flags = flags0) {b L : Nat} {xs : Nat → Int32} (hL : L ≤ 260) (C0 : lw_At p s m meth c b L xs) : W p l e room_1 s m #[Value.ref b] below meth c s.heap [] 0 0 (lw_Z below #[Value.ref b] s) (entryFrame m ([Value.ref b] : List Value).toArray 10) := by
  have htl := C0.2.2.2.2.2.1
  have hts : ∀ w ∈ fm_TBL, w.before #[Value.ref b] s = true := fun w h => htl w (List.mem_filter.mp h).1
  obtain ⟨cX0, iX0, kX0⟩ := u_known (C := RX0) (T := TX0) (N := 3) (n := 3) hts ku_X0 (hts _ kn_X0)
  obtain ⟨cX1, iX1, kX1⟩ := u_known (C := RX1) (T := TX1) (N := 4) (n := 4) hts ku_X1 (hts _ kn_X1)
  obtain ⟨cX2, iX2, kX2⟩ := u_known (C := RX2) (T := TX2) (N := 2) (n := 2) hts ku_X2 (hts _ kn_X2)
  obtain ⟨cX3, iX3, kX3⟩ := u_known (C := RX3) (T := TX3) (N := 13) (n := 13) hts ku_X3 (hts _ kn_X3)
  obtain ⟨cX4, iX4, kX4⟩ := u_known (C := RX4) (T := TX4) (N := 3) (n := 3) hts ku_X4 (hts _ kn_X4)
  obtain ⟨cX5, iX5, kX5⟩ := u_known (C := RX5) (T := TX5) (N := 3) (n := 3) hts ku_X5 (hts _ kn_X5)
  obtain ⟨cX6, iX6, kX6⟩ := u_known (C := RX6) (T := TX6) (N := 5) (n := 5) hts ku_X6 (hts _ kn_X6)
  obtain ⟨dC, dI, hKc⟩ : ∃ (dC : Nat → ClassId) (dI : Nat → Nat → Nat), ∀ (k : Nat) (q : vw_C), vwCl[k]? = some q → u_Kn s q.1 q.2.1 q.2.2 (dC k) (dI k) := by
    refine ⟨fun k => if k = 0 then cX0 else if k = 1 then cX1 else if k = 2 then cX2 else if k = 3 then cX3 else if k = 4 then cX4 else if k = 5 then cX5 else cX6, fun k => if k = 0 then iX0 else if k = 1 then iX1 else if k = 2 then iX2 else if k = 3 then iX3 else if k = 4 then iX4 else if k = 5 then iX5 else iX6, ?_⟩
    intro k q hq
    match k, hq with
    | 0, hq => cases hq; exact kX0
    | 1, hq => cases hq; exact kX1
    | 2, hq => cases hq; exact kX2
    | 3, hq => cases hq; exact kX3
    | 4, hq => cases hq; exact kX4
    | 5, hq => cases hq; exact kX5
    | 6, hq => cases hq; exact kX6
    | k + 7, hq => simp [vwCl] at hq
  obtain ⟨cI, kI, compI, f1, f2, f3⟩ := Cond.arrayClass_spec (hts _ kw_arr)
  obtain ⟨compM, cM, kM, g1, g2, g3, g4, g5⟩ := Cond.arrayOver_spec (htl _ ko_X1)
  obtain ⟨compS, cS, kS, h1, h2, h3, h4, h5⟩ := Cond.arrayOver_spec (htl _ ko_X3)
  have hK : va_K (dC, dI) vwCl (tysOf cI cM cS) s := by
    refine ⟨hKc, fun k q hq => ?_⟩
    match k, hq with
    | 0, hq => cases hq; exact ⟨fun n z => ⟨fun k h => (by cases h), kI, f2, compI, f3⟩, f1⟩
    | 1, hq => cases hq; exact ⟨fun n z => ⟨fun k h => (by cases h), kM, g3, compM, g4⟩, kM, compM, g3, g4, g1, g5⟩
    | 2, hq => cases hq; exact ⟨fun n z => ⟨fun k h => (by cases h), kS, h3, compS, h4⟩, kS, compS, h3, h4, h1, h5⟩
    | k + 3, hq => simp at hq
  have hN : NK s := ⟨fun q hq => va_Nw.of rfl (htl _ (fm_NL_in q hq)), va_AO.of (htl _ ko_X1), va_AO.of (htl _ ko_X3)⟩
  have C : LC p s m meth c b L xs (dC, dI) cI cM cS := ⟨C0, hK, hN⟩
  have hx := C.1.1
  have hb := C.1.2.1
  have hW0 : Wh s.heap.size (dC, dI) cI cM cS [] MZ s.heap := ⟨rfl, fun k c h => by simp at h⟩
  have hS0 : va_S (lwA s) s.heap s.heap [] := va_S.rf
  have hl := lv_entry ([.ref b]) (n := 10) (Nat.le_of_ble_eq_true rfl)
  rw [lg_entry_eq]
  generalize (lg_sl ([.ref b]) ++ List.replicate (10 - (lg_sl ([.ref b])).length) Slot.unset).toArray = ls at hl ⊢
  have hl : lv_has ls 10 [(0, .ref b)] := hl
  refine lx_new (t := 6) (N := 5) (a := 0) (fs := [some none, some none, some none, some none, some none]) (sh2 := [(9, 5, [some none, some none, some none, some none, some none])]) C hW0 hS0 dL_law_0 rfl kk_L_13 kn_X6 ki_X6 ku_X6 tyX6_ok rfl (fun _ => rfl) bl_X6 (by decide) (by decide) rfl rfl (fun H1 hW1 hS1 => ?_)
  refine lv_dup hx hb dL_law_3 rfl ?_
  refine lx_ctor (a := 0) (rest := [.ref (s.heap.size + 0)]) C hW1 hS1 hl.1 dL_law_4 mk_L_80 (i_X6 MZ (fun _ _ _ => rfl)) (by decide) rfl (Nat.le_of_ble_eq_true rfl) (by decide) (by decide) (fun r2 sh2 M2 H2 locs2 q2 hW2 hS2 => ?_)
  obtain ⟨e1, e2, e3⟩ := q2
  rw [e1]
  rw [e2, e3, sX6_SH] at hW2
  have hW2 : Wh s.heap.size (dC, dI) cI cM cS SH M0 H2 := hW2
  refine lv_astore_n (lv' := [(1, .ref (s.heap.size + 0)), (0, .ref b)]) hx hb dL_law_7 rfl hl (by decide) rfl (fun ls hl => ?_)
  refine lv_iconst (v := Int32.ofInt 0) hx hb dL_law_8 rfl ?_
  refine lv_istore_n (lv' := [(2, .int (Int32.ofInt 0)), (1, .ref (s.heap.size + 0)), (0, .ref b)]) hx hb dL_law_9 rfl hl (by decide) rfl (fun ls hl => ?_)
  have CJ : JX p s m #[Value.ref b] meth c s.heap.size (dC, dI) cI cM cS room_1 RL cL_law 10 11 (0 + 1 + 131) (0 + 5 + 8362) := ⟨hx, hb, C0.2.2.2.1, C0.2.2.2.2.1, hts, C0.2.2.2.2.2.2.2.2.1, hK, hN, Nat.le_refl _, fun d' n' h1 h2 => ⟨by show d' + 1 ≤ 11; omega, by show 8 + (n' + 11) + 32 * d' ≤ 424; omega⟩, by show 0 + 1 + 131 ≤ 600000; omega, by show 0 + 5 + 8362 ≤ 7302250; omega⟩
  refine law_walk (Z := lw_Z below #[Value.ref b] s) (l := l) (e := e) (below := below) CJ C0.2.2.2.2.2.2.1 C0.2.2.2.2.2.2.2.1 hL (fun lv M H locs ls hW hF hz hLo hl => ?_) M0 v0 0 (fun _ => v0) (fun _ => 0) start_RF lk_v0 rfl rfl H2 locs2 ls hW2 (fun q hq => hS2.2.1 q hq (Nat.not_le.mpr hq)) hS2.1 (fun q hq => hS2.2.2 q hq) (lv_sub hl [2, 1, 0] rfl)
  rw [show Int32.ofInt 1 = 1 from by decide]
  refine va_forget (fun q hq => hLo q hq) ?_
  refine W.widen (show 0 + 1 + 131 ≤ 600000 by omega) (show 0 + 5 + 8362 ≤ 7302250 by omega) ?_
  exact lw_ret hx hb C0.2.2.1 C0.2.2.2.2.2.2.2.2.1 dL_law_396
