/-! ===== THE LAW'S LOOP, AND ITS START ===== -/
theorem bl_X6 : ∀ j, j < ([some none, some none, some none, some none, some none] : List (Option (Option Nat))).length → (([some none, some none, some none, some none, some none] : List (Option (Option Nat)))[j]? = some none ∧ defaultValue (tyX6 j) = .int 0) ∨ (([some none, some none, some none, some none, some none] : List (Option (Option Nat)))[j]? = some (some none) ∧ defaultValue (tyX6 j) = .null) := by
  intro j hj
  have hj : j < 5 := hj
  rcases (show j = 0 ∨ j = 1 ∨ j = 2 ∨ j = 3 ∨ j = 4 by omega) with rfl | rfl | rfl | rfl | rfl <;> first | exact Or.inl ⟨rfl, rfl⟩ | exact Or.inr ⟨rfl, rfl⟩
theorem bl_X7 : ∀ j, j < ([none, some none, some none, some none, none, some none, none, none, some none] : List (Option (Option Nat))).length → (([none, some none, some none, some none, none, some none, none, none, some none] : List (Option (Option Nat)))[j]? = some none ∧ defaultValue (tyX7 j) = .int 0) ∨ (([none, some none, some none, some none, none, some none, none, none, some none] : List (Option (Option Nat)))[j]? = some (some none) ∧ defaultValue (tyX7 j) = .null) := by
  intro j hj
  have hj : j < 9 := hj
  rcases (show j = 0 ∨ j = 1 ∨ j = 2 ∨ j = 3 ∨ j = 4 ∨ j = 5 ∨ j = 6 ∨ j = 7 ∨ j = 8 by omega) with rfl | rfl | rfl | rfl | rfl | rfl | rfl | rfl | rfl <;> first | exact Or.inl ⟨rfl, rfl⟩ | exact Or.inr ⟨rfl, rfl⟩
set_option maxHeartbeats 4000000 in
set_option maxRecDepth 100000 in
/-- at the loop's head, with i ints read, both sides hold one state -/
theorem lx_loop {p : Program} {l : Launch} {e : Env} {s : State} {m : MethodId} {below : List Frame} {meth : Method} {c : Code} {b L : Nat} {xs : Nat → Int32} {D : va_G} {cI cM cS : ClassId} {ck sk : Nat} (C : LC p s m meth c b L xs D cI cM cS) (hL : L ≤ 2560) (hck : ck ≤ 600000) (hsk : sk ≤ 7302250) :
    ∀ (n : Nat) (i : Int) (ls : Array Slot) (M : Mem) (σ : AbS) (H : Heap) (locs : List Loc), 0 ≤ i → i ≤ (L : Int) → (L : Int) + 1 ≤ i + n → lv_has ls 4 (LV b s.heap.size i) → RF M σ → RM M σ → Wh s.heap.size D cI cM cS SH M H → va_S (lwA s) s.heap H locs → W p l e room_1 s m #[Value.ref b] below meth c H locs ck sk (lw_Z below #[Value.ref b] s) (F0 m 18 ls []) := by
  have hx := C.1.1
  have hb := C.1.2.1
  have hbA : ¬ lwA s b := Nat.not_le.mpr C.1.2.2.2.2.2.2.2.1
  intro n
  induction n with
  | zero =>
    intro i ls M σ H locs h0 h1 h2
    exact absurd h2 (by omega)
  | succ n ih =>
    intro i ls M σ H locs hi0 hi1 hin hl hR hQ hW hS
    refine lv_iload_n hx hb dL_law_18 rfl (lv_at hl 3 rfl) ?_
    refine lv_aload_n hx hb dL_law_19 rfl (lv_at hl 0 rfl) ?_
    refine va_slen hx hb C.1.2.2.2.2.2.2.1 C.1.2.2.2.2.2.2.2.1 hbA hS dL_law_20 ?_
    refine lv_iconst (v := Int32.ofInt 5) hx hb dL_law_21 rfl ?_
    refine lv_isub hx hb dL_law_22 ?_
    rw [show Int32.ofNat L - Int32.ofInt 5 = Int32.ofInt ((L : Int) - 5) from by rw [Int32.ofInt_sub]; rfl]
    refine lv_icmp_gt (tgt := 905) hx hb dL_law_23 (by decide) (fun h => ?_) (fun h => ?_)
    · refine lv_iconst (v := 1) hx hb dL_law_905 (by decide) ?_
      refine va_forget (fun q hq => hS.2.2 q hq) ?_
      refine W.widen hck hsk ?_
      exact lw_ret hx hb C.1.2.2.1 C.1.2.2.2.2.2.2.2.2.1 dL_law_906
    · rw [inR_lt ⟨by omega, by omega⟩ ⟨by omega, by omega⟩] at h
      refine lv_aload_n hx hb dL_law_26 rfl (lv_at hl 0 rfl) ?_
      refine lv_iload_n hx hb dL_law_27 rfl (lv_at hl 3 rfl) ?_
      refine va_sld hx hb C.1.2.2.2.2.2.2.1 C.1.2.2.2.2.2.2.2.1 hbA hS (fm_vin ⟨hi0, by omega⟩ (by omega)) dL_law_28 ?_
      refine lv_bipush (v := Int32.ofInt 31) hx hb dL_law_29 (i8_of (by decide)) ?_
      refine lv_iand hx hb dL_law_31 ?_
      generalize (xs (Int32.ofInt i).toNatClampNeg &&& Int32.ofInt 31) = w
      have K : KT p l e s m below meth c b D cI cM cS ck sk ls (lw_Z below #[Value.ref b] s) := by
        intro M' H' locs' σ' hR' hQ' hW' hS'
        refine lv_iinc (v := Int32.ofInt (i + 5)) (lv' := [(3, .int (Int32.ofInt (i + 5))), (0, .ref b), (1, .ref (s.heap.size + 0)), (2, .ref (s.heap.size + 132))]) hx hb dL_law_899 hl (k := 3) rfl (Int32.ofInt_add i 5).symm (by decide) rfl (fun ls hl => ?_)
        refine lv_goto (tgt := 18) hx hb dL_law_902 (by decide) ?_
        exact ih (i + 5) ls M' σ' H' locs' (by omega) (by omega) (by omega) (lv_sub hl [1, 2, 3, 0] rfl) hR' hQ' hW' hS'
      rcases (show w.toInt < 0 ∨ 22 < w.toInt ∨ w.toInt = 0 ∨ w.toInt = 1 ∨ w.toInt = 2 ∨ w.toInt = 3 ∨ w.toInt = 4 ∨ w.toInt = 5 ∨ w.toInt = 6 ∨ w.toInt = 7 ∨ w.toInt = 8 ∨ w.toInt = 9 ∨ w.toInt = 10 ∨ w.toInt = 11 ∨ w.toInt = 12 ∨ w.toInt = 13 ∨ w.toInt = 14 ∨ w.toInt = 15 ∨ w.toInt = 16 ∨ w.toInt = 17 ∨ w.toInt = 18 ∨ w.toInt = 19 ∨ w.toInt = 20 ∨ w.toInt = 21 ∨ w.toInt = 22 by omega) with hw | hw | hw | hw | hw | hw | hw | hw | hw | hw | hw | hw | hw | hw | hw | hw | hw | hw | hw | hw | hw | hw | hw | hw | hw
      · refine lv_tableOut (tgt := 899) hx hb dL_law_32 (Or.inl hw) (by decide) ?_
        exact K M H locs σ hR hQ hW hS
      · refine lv_tableOut (tgt := 899) hx hb dL_law_32 (Or.inr hw) (by decide) ?_
        exact K M H locs σ hR hQ hW hS
      · refine lv_tableIn (off := 108) (tgt := 140) hx hb dL_law_32 (by rw [hw]; decide) (by rw [hw]; decide) (by rw [hw]; rfl) (by decide) ?_
        exact lx_case0 C hL ⟨hi0, by omega⟩ hl hR hQ hW hS hck hsk K
      · refine lv_tableIn (off := 151) (tgt := 183) hx hb dL_law_32 (by rw [hw]; decide) (by rw [hw]; decide) (by rw [hw]; rfl) (by decide) ?_
        exact lx_case1 C hL ⟨hi0, by omega⟩ hl hR hQ hW hS hck hsk K
      · refine lv_tableIn (off := 194) (tgt := 226) hx hb dL_law_32 (by rw [hw]; decide) (by rw [hw]; decide) (by rw [hw]; rfl) (by decide) ?_
        exact lx_case2 C hL ⟨hi0, by omega⟩ hl hR hQ hW hS hck hsk K
      · refine lv_tableIn (off := 217) (tgt := 249) hx hb dL_law_32 (by rw [hw]; decide) (by rw [hw]; decide) (by rw [hw]; rfl) (by decide) ?_
        exact lx_case3 C hL ⟨hi0, by omega⟩ hl hR hQ hW hS hck hsk K
      · refine lv_tableIn (off := 230) (tgt := 262) hx hb dL_law_32 (by rw [hw]; decide) (by rw [hw]; decide) (by rw [hw]; rfl) (by decide) ?_
        exact lx_case4 C hL ⟨hi0, by omega⟩ hl hR hQ hW hS hck hsk K
      · refine lv_tableIn (off := 243) (tgt := 275) hx hb dL_law_32 (by rw [hw]; decide) (by rw [hw]; decide) (by rw [hw]; rfl) (by decide) ?_
        exact lx_case5 C hL ⟨hi0, by omega⟩ hl hR hQ hW hS hck hsk K
      · refine lv_tableIn (off := 296) (tgt := 328) hx hb dL_law_32 (by rw [hw]; decide) (by rw [hw]; decide) (by rw [hw]; rfl) (by decide) ?_
        exact lx_case6 C hL ⟨hi0, by omega⟩ hl hR hQ hW hS hck hsk K
      · refine lv_tableIn (off := 339) (tgt := 371) hx hb dL_law_32 (by rw [hw]; decide) (by rw [hw]; decide) (by rw [hw]; rfl) (by decide) ?_
        exact lx_case7 C hL ⟨hi0, by omega⟩ hl hR hQ hW hS hck hsk K
      · refine lv_tableIn (off := 362) (tgt := 394) hx hb dL_law_32 (by rw [hw]; decide) (by rw [hw]; decide) (by rw [hw]; rfl) (by decide) ?_
        exact lx_case8 C hL ⟨hi0, by omega⟩ hl hR hQ hW hS hck hsk K
      · refine lv_tableIn (off := 415) (tgt := 447) hx hb dL_law_32 (by rw [hw]; decide) (by rw [hw]; decide) (by rw [hw]; rfl) (by decide) ?_
        exact lx_case9 C hL ⟨hi0, by omega⟩ hl hR hQ hW hS hck hsk K
      · refine lv_tableIn (off := 448) (tgt := 480) hx hb dL_law_32 (by rw [hw]; decide) (by rw [hw]; decide) (by rw [hw]; rfl) (by decide) ?_
        exact lx_case10 C hL ⟨hi0, by omega⟩ hl hR hQ hW hS hck hsk K
      · refine lv_tableIn (off := 471) (tgt := 503) hx hb dL_law_32 (by rw [hw]; decide) (by rw [hw]; decide) (by rw [hw]; rfl) (by decide) ?_
        exact lx_case11 C hL ⟨hi0, by omega⟩ hl hR hQ hW hS hck hsk K
      · refine lv_tableIn (off := 494) (tgt := 526) hx hb dL_law_32 (by rw [hw]; decide) (by rw [hw]; decide) (by rw [hw]; rfl) (by decide) ?_
        exact lx_case12 C hL ⟨hi0, by omega⟩ hl hR hQ hW hS hck hsk K
      · refine lv_tableIn (off := 517) (tgt := 549) hx hb dL_law_32 (by rw [hw]; decide) (by rw [hw]; decide) (by rw [hw]; rfl) (by decide) ?_
        exact lx_case13 C hL ⟨hi0, by omega⟩ hl hR hQ hW hS hck hsk K
      · refine lv_tableIn (off := 530) (tgt := 562) hx hb dL_law_32 (by rw [hw]; decide) (by rw [hw]; decide) (by rw [hw]; rfl) (by decide) ?_
        exact lx_case14 C hL ⟨hi0, by omega⟩ hl hR hQ hW hS hck hsk K
      · refine lv_tableIn (off := 553) (tgt := 585) hx hb dL_law_32 (by rw [hw]; decide) (by rw [hw]; decide) (by rw [hw]; rfl) (by decide) ?_
        exact lx_case15 C hL ⟨hi0, by omega⟩ hl hR hQ hW hS hck hsk K
      · refine lv_tableIn (off := 596) (tgt := 628) hx hb dL_law_32 (by rw [hw]; decide) (by rw [hw]; decide) (by rw [hw]; rfl) (by decide) ?_
        exact lx_case16 C hL ⟨hi0, by omega⟩ hl hR hQ hW hS hck hsk K
      · refine lv_tableIn (off := 629) (tgt := 661) hx hb dL_law_32 (by rw [hw]; decide) (by rw [hw]; decide) (by rw [hw]; rfl) (by decide) ?_
        exact lx_case17 C hL ⟨hi0, by omega⟩ hl hR hQ hW hS hck hsk K
      · refine lv_tableIn (off := 662) (tgt := 694) hx hb dL_law_32 (by rw [hw]; decide) (by rw [hw]; decide) (by rw [hw]; rfl) (by decide) ?_
        exact lx_case18 C hL ⟨hi0, by omega⟩ hl hR hQ hW hS hck hsk K
      · refine lv_tableIn (off := 715) (tgt := 747) hx hb dL_law_32 (by rw [hw]; decide) (by rw [hw]; decide) (by rw [hw]; rfl) (by decide) ?_
        exact lx_case19 C hL ⟨hi0, by omega⟩ hl hR hQ hW hS hck hsk K
      · refine lv_tableIn (off := 768) (tgt := 800) hx hb dL_law_32 (by rw [hw]; decide) (by rw [hw]; decide) (by rw [hw]; rfl) (by decide) ?_
        exact lx_case20 C hL ⟨hi0, by omega⟩ hl hR hQ hW hS hck hsk K
      · refine lv_tableIn (off := 811) (tgt := 843) hx hb dL_law_32 (by rw [hw]; decide) (by rw [hw]; decide) (by rw [hw]; rfl) (by decide) ?_
        exact lx_case21 C hL ⟨hi0, by omega⟩ hl hR hQ hW hS hck hsk K
      · refine lv_tableIn (off := 844) (tgt := 876) hx hb dL_law_32 (by rw [hw]; decide) (by rw [hw]; decide) (by rw [hw]; rfl) (by decide) ?_
        exact lx_case22 C hL ⟨hi0, by omega⟩ hl hR hQ hW hS hck hsk K
set_option maxHeartbeats 4000000 in
set_option maxRecDepth 100000 in
/-- THE LAW, from its entry -/
theorem whole_start {p : Program} {e : Env} {s : State} {m : MethodId} {below : List Frame} {meth : Method} {c : Code} (l : Launch) (hflags : l.flags = flags0) {b L : Nat} {xs : Nat → Int32} (hL : L ≤ 2560) (C0 : lw_At p s m meth c b L xs) : W p l e room_1 s m #[Value.ref b] below meth c s.heap [] 0 0 (lw_Z below #[Value.ref b] s) (entryFrame m ([Value.ref b] : List Value).toArray 4) := by
  have htl := C0.2.2.2.2.2.1
  have hts : ∀ w ∈ fm_TBL, w.before #[Value.ref b] s = true := fun w h => htl w (List.mem_filter.mp h).1
  obtain ⟨cX0, iX0, kX0⟩ := u_known (C := RX0) (T := TX0) (N := 3) (n := 3) hts ku_X0 (hts _ kn_X0)
  obtain ⟨cX1, iX1, kX1⟩ := u_known (C := RX1) (T := TX1) (N := 4) (n := 4) hts ku_X1 (hts _ kn_X1)
  obtain ⟨cX2, iX2, kX2⟩ := u_known (C := RX2) (T := TX2) (N := 2) (n := 2) hts ku_X2 (hts _ kn_X2)
  obtain ⟨cX3, iX3, kX3⟩ := u_known (C := RX3) (T := TX3) (N := 13) (n := 13) hts ku_X3 (hts _ kn_X3)
  obtain ⟨cX4, iX4, kX4⟩ := u_known (C := RX4) (T := TX4) (N := 3) (n := 3) hts ku_X4 (hts _ kn_X4)
  obtain ⟨cX5, iX5, kX5⟩ := u_known (C := RX5) (T := TX5) (N := 3) (n := 3) hts ku_X5 (hts _ kn_X5)
  obtain ⟨cX6, iX6, kX6⟩ := u_known (C := RX6) (T := TX6) (N := 5) (n := 5) hts ku_X6 (hts _ kn_X6)
  obtain ⟨cX7, iX7, kX7⟩ := u_known (C := RX7) (T := TX7) (N := 9) (n := 9) hts ku_X7 (hts _ kn_X7)
  obtain ⟨dC, dI, hKc⟩ : ∃ (dC : Nat → ClassId) (dI : Nat → Nat → Nat), ∀ (k : Nat) (q : vw_C), vwCl[k]? = some q → u_Kn s q.1 q.2.1 q.2.2 (dC k) (dI k) := by
    refine ⟨fun k => if k = 0 then cX0 else if k = 1 then cX1 else if k = 2 then cX2 else if k = 3 then cX3 else if k = 4 then cX4 else if k = 5 then cX5 else if k = 6 then cX6 else cX7, fun k => if k = 0 then iX0 else if k = 1 then iX1 else if k = 2 then iX2 else if k = 3 then iX3 else if k = 4 then iX4 else if k = 5 then iX5 else if k = 6 then iX6 else iX7, ?_⟩
    intro k q hq
    match k, hq with
    | 0, hq => cases hq; exact kX0
    | 1, hq => cases hq; exact kX1
    | 2, hq => cases hq; exact kX2
    | 3, hq => cases hq; exact kX3
    | 4, hq => cases hq; exact kX4
    | 5, hq => cases hq; exact kX5
    | 6, hq => cases hq; exact kX6
    | 7, hq => cases hq; exact kX7
    | k + 8, hq => simp [vwCl] at hq
  obtain ⟨cI, kI, compI, f1, f2, f3⟩ := Cond.arrayClass_spec (hts _ kw_arr)
  obtain ⟨compM, cM, kM, g1, g2, g3, g4, g5⟩ := Cond.arrayOver_spec (htl _ ko_X1)
  obtain ⟨compS, cS, kS, h1, h2, h3, h4, h5⟩ := Cond.arrayOver_spec (htl _ ko_X3)
  have hK : va_K (dC, dI) vwCl (tysOf cI cM cS) s := by
    refine ⟨hKc, fun k q hq => ?_⟩
    match k, hq with
    | 0, hq => cases hq; exact ⟨fun n z => ⟨fun k h => (by cases h), kI, f2, compI, f3⟩, f1⟩
    | 1, hq => cases hq; exact ⟨fun n z => ⟨fun k h => (by cases h), kM, g3, compM, g4⟩, kM, compM, g3, g4, g1, g5⟩
    | 2, hq => cases hq; exact ⟨fun n z => ⟨fun k h => (by cases h), kS, h3, compS, h4⟩, kS, compS, h3, h4, h1, h5⟩
    | k + 3, hq => simp at hq
  have hN : NK s := ⟨fun q hq => va_Nw.of rfl (htl _ (fm_NL_in q hq)), va_AO.of (htl _ ko_X1), va_AO.of (htl _ ko_X3)⟩
  have C : LC p s m meth c b L xs (dC, dI) cI cM cS := ⟨C0, hK, hN⟩
  have hx := C.1.1
  have hb := C.1.2.1
  have hW0 : Wh s.heap.size (dC, dI) cI cM cS [] MZ s.heap := ⟨rfl, fun k c h => by simp at h⟩
  have hS0 : va_S (lwA s) s.heap s.heap [] := va_S.rf
  have hl := lv_entry ([.ref b]) (n := 4) (Nat.le_of_ble_eq_true rfl)
  rw [lg_entry_eq]
  generalize (lg_sl ([.ref b]) ++ List.replicate (4 - (lg_sl ([.ref b])).length) Slot.unset).toArray = ls at hl ⊢
  have hl : lv_has ls 4 [(0, .ref b)] := hl
  refine lx_new (t := 6) (N := 5) (a := 0) (fs := [some none, some none, some none, some none, some none]) (sh2 := [(9, 5, [some none, some none, some none, some none, some none])]) C hW0 hS0 dL_law_0 rfl kk_L_7 kn_X6 ki_X6 ku_X6 tyX6_ok rfl (fun _ => rfl) bl_X6 (by decide) (by decide) rfl rfl (fun H1 hW1 hS1 => ?_)
  refine lv_dup hx hb dL_law_3 rfl ?_
  refine lx_ctor (a := 0) (rest := [.ref (s.heap.size + 0)]) C hW1 hS1 hl.1 dL_law_4 mk_L_9 (i_X6 MZ (fun _ _ _ => rfl)) (by decide) rfl (Nat.le_of_ble_eq_true rfl) (by decide) (by decide) (fun r2 sh2 M2 H2 locs2 q2 hW2 hS2 => ?_)
  obtain ⟨e1, e2, e3⟩ := q2
  rw [e1]
  rw [e2, e3] at hW2
  refine lv_astore_n (lv' := [(1, .ref (s.heap.size + 0)), (0, .ref b)]) hx hb dL_law_7 rfl hl (by decide) rfl (fun ls hl => ?_)
  have hz6 : Zr (m6 MZ) 132 := fun k hk i => by
    unfold m6
    rw [mset_row (by omega), mset_row (by omega), mset_row (by omega), mset_row (by omega), mset_row (by omega), mset_row (by omega)]
    rfl
  refine lx_new (t := 7) (N := 9) (a := 132) (fs := [none, some none, some none, some none, none, some none, none, none, some none]) (sh2 := sX6 ++ [(10, 9, [none, some none, some none, some none, none, some none, none, none, some none])]) C hW2 hS2 dL_law_8 rfl kk_L_10 kn_X7 ki_X7 ku_X7 tyX7_ok rfl (fun i => by rw [sX6_len]; exact hz6 132 (Nat.le_refl _) i) bl_X7 (by decide) (by decide) sX6_len rfl (fun H3 hW3 hS3 => ?_)
  refine lv_dup hx hb dL_law_11 rfl ?_
  refine lx_ctor (a := 132) (rest := [.ref (s.heap.size + 132)]) C hW3 hS3 hl.1 dL_law_12 mk_L_12 (i_X7 sX6 132 (m6 MZ) sX6_len hz6) (by decide) rfl (Nat.le_of_ble_eq_true rfl) (by decide) (by decide) (fun r4 sh4 M4 H4 locs4 q4 hW4 hS4 => ?_)
  obtain ⟨e4, e5, e6⟩ := q4
  rw [e4]
  rw [e5, e6, sX67] at hW4
  have hW4 : Wh s.heap.size (dC, dI) cI cM cS SH M0 H4 := hW4
  refine lv_astore_n (lv' := [(2, .ref (s.heap.size + 132)), (1, .ref (s.heap.size + 0)), (0, .ref b)]) hx hb dL_law_15 rfl hl (by decide) rfl (fun ls hl => ?_)
  refine lv_iconst (v := Int32.ofInt 0) hx hb dL_law_16 rfl ?_
  refine lv_istore_n (lv' := [(3, .int (Int32.ofInt 0)), (2, .ref (s.heap.size + 132)), (1, .ref (s.heap.size + 0)), (0, .ref b)]) hx hb dL_law_17 rfl hl (by decide) rfl (fun ls hl => ?_)
  exact lx_loop C hL (by decide) (by decide) (L + 1) 0 ls M0 s0 H4 locs4 (by omega) (by omega) (by omega) (lv_sub hl [3, 2, 1, 0] rfl) start_RF start_RM hW4 hS4
