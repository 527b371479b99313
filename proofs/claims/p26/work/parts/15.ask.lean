def cOk (c r : Int) : Prop := 0 ≤ c ∧ c ≤ 11 ∧ 0 ≤ r ∧ r ≤ 9
noncomputable def qCell (v : Vw) (c r w : Int) : Int := if (0 ≤ c ∧ c ≤ 11 ∧ 0 ≤ r ∧ r ≤ 9) then (if w = 0 then v 1 (r * 12 + c) else if w = 1 then v 2 (r * 12 + c) else if w = 2 then bi (lit v (r * 12 + c)) else if w = 3 then sIn v (r * 12 + c) else -11) else -11
noncomputable def qScout (v : Vw) (k w : Int) : Int := if (0 ≤ k ∧ k ≤ v 0 0 - 1) then (if w = 0 then v 3 k else if w = 1 then v 4 k % 12 else if w = 2 then v 4 k / 12 else if w = 3 then v 5 k else if w = 4 then cnt (fun c => sees v k c) 120 0 else if w = 5 then bi (sSees v (1 - v 3 k) (v 4 k)) else -11) else -11
def qLight (v : Vw) (k w : Int) : Int := if (0 ≤ k ∧ k ≤ v 0 1 - 1) then (if w = 0 then v 6 k % 12 else if w = 1 then v 6 k / 12 else if w = 2 then v 7 k else if w = 3 then v 8 k else -11) else -11
noncomputable def qCount (v : Vw) (z tl w : Int) : Int := if w = 0 then v 0 0 else if w = 1 then v 0 1 else if w = 2 then cnt (fun k => 0 < v 8 k) (v 0 1).toNat 0 else if w = 3 then cnt (fun c => lit v c) 120 0 else if w = 4 then v 0 2 else if w = 5 then v 0 3 else if w = 6 then cnt (fun c => sSees v 0 c) 120 0 else if w = 7 then cnt (fun c => sSees v 1 c) 120 0 else if w = 8 then cnt (fun c => 0 < v 9 c) 120 0 else if w = 9 then cnt (fun c => 0 < v 13 c) 120 0 else if w = 10 then z else if w = 11 then tl else -11
noncomputable def qKnown (v : Vw) (s c r w : Int) : Int := if (0 ≤ s ∧ s ≤ 1) then (if (0 ≤ c ∧ c ≤ 11 ∧ 0 ≤ r ∧ r ≤ 9) then (if w = 0 then v (if s = 0 then 9 else 13) (r * 12 + c) else if w = 1 then (if v (if s = 0 then 9 else 13) (r * 12 + c) = 0 then -19 else v (if s = 0 then 10 else 14) (r * 12 + c)) else if w = 2 then (if v (if s = 0 then 9 else 13) (r * 12 + c) = 0 then -19 else v (if s = 0 then 11 else 15) (r * 12 + c)) else if w = 3 then (if v (if s = 0 then 9 else 13) (r * 12 + c) = 0 then -19 else v (if s = 0 then 12 else 16) (r * 12 + c)) else if w = 4 then bi (sSees v s (r * 12 + c)) else -11) else -11) else -11
noncomputable def qView (v : Vw) (c r c2 r2 : Int) : Int := if (0 ≤ c ∧ c ≤ 11 ∧ 0 ≤ r ∧ r ≤ 9) then (if (0 ≤ c2 ∧ c2 ≤ 11 ∧ 0 ≤ r2 ∧ r2 ≤ 9) then bi (free v (r * 12 + c) (r2 * 12 + c2)) else -11) else -11
noncomputable def qAlone (v : Vw) (k : Int) : Int := if (0 ≤ k ∧ k ≤ v 0 0 - 1) then cnt (fun c => sees v k c ∧ ∀ j, 0 ≤ j → j < v 0 0 → j ≠ k → v 3 j = v 3 k → ¬ sees v j c) 120 0 else -11
set_option maxHeartbeats 4000000 in
set_option maxRecDepth 100000 in
theorem c_cell (M : Mem) (v : Vw) (hv : VA M v) (hS : SI v) (hG : SG M v) (c r w : Int) (hc : inR c) (hr : inR r) (hw : inR w) : CX mX6_cell 2 [.inr (some 0), .inl c, .inl r, .inl w] M (some (.inl (qCell v c r w))) M := by
  have n0 := hS.n0
  have n1 := hS.n1
  have n2 := hS.n2
  refine CX.of (by decide +kernel) (Nat.le_of_ble_eq_true rfl) [some (.inr (some 0)), some (.inl c), some (.inl r), some (.inl w), none] rfl ?_
  refine X.iload_n dX6_cell_0 rfl ?_
  refine X.iload_n dX6_cell_1 rfl ?_
  by_cases p1 : 0 ≤ c ∧ c ≤ 11 ∧ 0 ≤ r ∧ r ≤ 9
  · skip
    refine X.callS1 (As := [.inl c, .inl r]) (rest := []) dX6_cell_2 mk_X6_44 (CX.bt (c_isCell M c r ⟨by omega, by omega⟩ ⟨by omega, by omega⟩) p1) rfl (by decide) rfl (Nat.le_of_ble_eq_true rfl) ?_
    refine X.if_ne (tgt := 11) dX6_cell_5 (by decide) (by decide) (fun h1 => ?_) (fun h => absurd h (by decide))
    refine X.iload_n dX6_cell_11 rfl ?_
    refine X.iload_n dX6_cell_12 rfl ?_
    refine X.callS1 (As := [.inl c, .inl r]) (rest := []) dX6_cell_13 mk_X6_52 (c_cellAt M c r) rfl (by decide) rfl (Nat.le_of_ble_eq_true rfl) ?_
    refine X.istore (lv2 := [some (.inr (some 0)), some (.inl c), some (.inl r), some (.inl w), some (.inl (r * 12 + c))]) dX6_cell_16 (Nat.le_of_ble_eq_true rfl) rfl ?_
    refine X.iload_n dX6_cell_18 rfl ?_
    rcases (show w = 0 ∨ w = 1 ∨ w = 2 ∨ w = 3 ∨ (w < 0 ∨ 3 < w) from by omega) with rfl | rfl | rfl | rfl | hout
    · skip
      refine X.tabIn (tgt := 48) dX6_cell_19 (by decide) (by decide) (by decide) rfl (by decide) ?_
      refine X.aload_n dX6_cell_48 rfl ?_
      refine X.getR dX6_cell_49 fi_X6_12 sh_0 rfl ?_
      refine X.getR dX6_cell_52 fi_X6_56 sh_1 rfl ?_
      refine X.iload dX6_cell_55 rfl ?_
      have q2 := SI.r1 hS (r * 12 + c)
      refine X.iald (v := v 1 (r * 12 + c)) dX6_cell_57 sh_2 (by decide) (by omega) (rd_1 hv (by omega)) ?_
      exact X.iret dX6_cell_58 rfl (by unfold qCell; rw [if_pos p1, if_pos (by omega)]) rfl
    · skip
      refine X.tabIn (tgt := 59) dX6_cell_19 (by decide) (by decide) (by decide) rfl (by decide) ?_
      refine X.aload_n dX6_cell_59 rfl ?_
      refine X.getR dX6_cell_60 fi_X6_12 sh_0 rfl ?_
      refine X.getR dX6_cell_63 fi_X6_71 sh_1 rfl ?_
      refine X.iload dX6_cell_66 rfl ?_
      have q3 := SI.r2 hS (r * 12 + c)
      refine X.iald (v := v 2 (r * 12 + c)) dX6_cell_68 sh_3 (by decide) (by omega) (rd_2 hv (by omega)) ?_
      exact X.iret dX6_cell_69 rfl (by unfold qCell; rw [if_pos p1, if_neg (by omega), if_pos (by omega)]) rfl
    · skip
      refine X.tabIn (tgt := 70) dX6_cell_19 (by decide) (by decide) (by decide) rfl (by decide) ?_
      refine X.aload_n dX6_cell_70 rfl ?_
      refine X.getR dX6_cell_71 fi_X6_19 sh_0 rfl ?_
      refine X.getR dX6_cell_74 fi_X6_186 sh_21 rfl ?_
      refine X.iload dX6_cell_77 rfl ?_
      refine X.iald (v := bi (lit v (r * 12 + c))) dX6_cell_79 sh_22 (by decide) (by omega) (hG.1 (r * 12 + c) (by omega)) ?_
      exact X.iret dX6_cell_80 rfl (by unfold qCell; rw [if_pos p1, if_neg (by omega), if_neg (by omega), if_pos (by omega)]) rfl
    · skip
      refine X.tabIn (tgt := 81) dX6_cell_19 (by decide) (by decide) (by decide) rfl (by decide) ?_
      refine X.aload_n dX6_cell_81 rfl ?_
      refine X.getR dX6_cell_82 fi_X6_12 sh_0 rfl ?_
      refine X.iload dX6_cell_85 rfl ?_
      refine X.callV1 (As := [.inl (r * 12 + c)]) (rest := []) dX6_cell_87 mk_X6_67 sh_1 (c_scoutIn M v hv hS (r * 12 + c) ⟨by omega, by omega⟩) rfl (by decide) rfl (Nat.le_of_ble_eq_true rfl) ?_
      exact X.iret dX6_cell_90 rfl (by unfold qCell; rw [if_pos p1, if_neg (by omega), if_neg (by omega), if_neg (by omega), if_pos (by omega)]) rfl
    · skip
      refine X.tabOut (tgt := 91) dX6_cell_19 ⟨by omega, by omega⟩ (by omega) (by decide) ?_
      refine X.bipush dX6_cell_91 (by decide) ?_
      exact X.iret dX6_cell_93 rfl (by unfold qCell; rw [if_pos p1, if_neg (by omega), if_neg (by omega), if_neg (by omega), if_neg (by omega)]) rfl
  · skip
    refine X.callS1 (As := [.inl c, .inl r]) (rest := []) dX6_cell_2 mk_X6_44 (CX.bf (c_isCell M c r ⟨by omega, by omega⟩ ⟨by omega, by omega⟩) p1) rfl (by decide) rfl (Nat.le_of_ble_eq_true rfl) ?_
    refine X.if_ne (tgt := 11) dX6_cell_5 (by decide) (by decide) (fun h => absurd h (by decide)) (fun h4 => ?_)
    refine X.bipush dX6_cell_8 (by decide) ?_
    exact X.iret dX6_cell_10 rfl (by unfold qCell; rw [if_neg p1]) rfl
theorem mask_one {k n : Int} (h : 0 ≤ k ∧ k < n) (hn : n ≤ 10) : iShl 1 k = ((mkN (fun j => j = k) n.toNat : Nat) : Int) := by
  rw [iShl_1 (by omega)]
  congr 1
  apply Nat.eq_of_testBit_eq
  intro i
  rw [Nat.testBit_two_pow, Bool.eq_iff_iff, decide_eq_true_iff, mkN_bit]
  constructor
  · rintro rfl; exact ⟨by omega, by omega⟩
  · rintro ⟨-, e⟩; omega
theorem seen_one {v : Vw} {k c : Int} (h : 0 ≤ k ∧ k < v 0 0) : (∃ j, 0 ≤ j ∧ j < v 0 0 ∧ sees v j c ∧ j = k) ↔ sees v k c := by
  constructor
  · rintro ⟨j, -, -, a, rfl⟩; exact a
  · exact fun a => ⟨k, h.1, h.2, a, rfl⟩
set_option maxHeartbeats 4000000 in
set_option maxRecDepth 100000 in
theorem c_scout (M : Mem) (v : Vw) (hv : VA M v) (hS : SI v) (hG : SG M v) (k w : Int) (hk : inR k) (hw : inR w) : CX mX6_scout 2 [.inr (some 0), .inl k, .inl w] M (some (.inl (qScout v k w))) M := by
  have n0 := hS.n0
  have n1 := hS.n1
  have n2 := hS.n2
  refine CX.of (by decide +kernel) (Nat.le_of_ble_eq_true rfl) [some (.inr (some 0)), some (.inl k), some (.inl w), none, none] rfl ?_
  refine X.aload_n dX6_scout_0 rfl ?_
  refine X.iload_n dX6_scout_1 rfl ?_
  by_cases p1 : 0 ≤ k ∧ k ≤ v 0 0 - 1
  · skip
    refine X.callV1 (As := [.inl k]) (rest := []) dX6_scout_2 mk_X6_100 sh_0 (CX.bt (c_isScout M v hv hS k ⟨by omega, by omega⟩) p1) rfl (by decide) rfl (Nat.le_of_ble_eq_true rfl) ?_
    refine X.if_ne (tgt := 11) dX6_scout_5 (by decide) (by decide) (fun h1 => ?_) (fun h => absurd h (by decide))
    refine X.aload_n dX6_scout_11 rfl ?_
    refine X.getR dX6_scout_12 fi_X6_12 sh_0 rfl ?_
    refine X.getR dX6_scout_15 fi_X6_103 sh_1 rfl ?_
    refine X.iload_n dX6_scout_18 rfl ?_
    have q2 := SI.r4 hS k
    refine X.iald (v := v 4 k) dX6_scout_19 sh_5 (by decide) (by omega) (rd_4 hv (by omega)) ?_
    refine X.istore_n (lv2 := [some (.inr (some 0)), some (.inl k), some (.inl w), some (.inl (v 4 k)), none]) dX6_scout_20 (Nat.le_of_ble_eq_true rfl) rfl ?_
    refine X.aload_n dX6_scout_21 rfl ?_
    refine X.getR dX6_scout_22 fi_X6_12 sh_0 rfl ?_
    refine X.getR dX6_scout_25 fi_X6_118 sh_1 rfl ?_
    refine X.iload_n dX6_scout_28 rfl ?_
    have q3 := SI.r3 hS k
    refine X.iald (v := v 3 k) dX6_scout_29 sh_4 (by decide) (by omega) (rd_3 hv (by omega)) ?_
    refine X.istore (lv2 := [some (.inr (some 0)), some (.inl k), some (.inl w), some (.inl (v 4 k)), some (.inl (v 3 k))]) dX6_scout_30 (Nat.le_of_ble_eq_true rfl) rfl ?_
    refine X.iload_n dX6_scout_32 rfl ?_
    rcases (show w = 0 ∨ w = 1 ∨ w = 2 ∨ w = 3 ∨ w = 4 ∨ w = 5 ∨ (w < 0 ∨ 5 < w) from by omega) with rfl | rfl | rfl | rfl | rfl | rfl | hout
    · skip
      refine X.tabIn (tgt := 72) dX6_scout_33 (by decide) (by decide) (by decide) rfl (by decide) ?_
      refine X.iload dX6_scout_72 rfl ?_
      exact X.iret dX6_scout_74 rfl (by unfold qScout; rw [if_pos p1, if_pos (by omega)]; first | done | exact congrArg (fun z => some (Sum.inl z : AV)) (cnt_congr 120 0 (fun c _ _ => seen_one (by omega))) | (rw [bi_t (show sSees v (1 - v 3 k) (v 4 k) from p2)]) | (rw [bi_f (show ¬ sSees v (1 - v 3 k) (v 4 k) from p2)])) rfl
    · skip
      refine X.tabIn (tgt := 75) dX6_scout_33 (by decide) (by decide) (by decide) rfl (by decide) ?_
      refine X.iload_n dX6_scout_75 rfl ?_
      refine X.callS1 (As := [.inl (v 4 k)]) (rest := []) dX6_scout_76 mk_X6_106 (c_columnOf M (v 4 k) (by omega)) rfl (by decide) rfl (Nat.le_of_ble_eq_true rfl) ?_
      exact X.iret dX6_scout_79 rfl (by unfold qScout; rw [if_pos p1, if_neg (by omega), if_pos (by omega)]; first | done | exact congrArg (fun z => some (Sum.inl z : AV)) (cnt_congr 120 0 (fun c _ _ => seen_one (by omega))) | (rw [bi_t (show sSees v (1 - v 3 k) (v 4 k) from p2)]) | (rw [bi_f (show ¬ sSees v (1 - v 3 k) (v 4 k) from p2)])) rfl
    · skip
      refine X.tabIn (tgt := 80) dX6_scout_33 (by decide) (by decide) (by decide) rfl (by decide) ?_
      refine X.iload_n dX6_scout_80 rfl ?_
      refine X.callS1 (As := [.inl (v 4 k)]) (rest := []) dX6_scout_81 mk_X6_109 (c_rowOf M (v 4 k) (by omega)) rfl (by decide) rfl (Nat.le_of_ble_eq_true rfl) ?_
      exact X.iret dX6_scout_84 rfl (by unfold qScout; rw [if_pos p1, if_neg (by omega), if_neg (by omega), if_pos (by omega)]; first | done | exact congrArg (fun z => some (Sum.inl z : AV)) (cnt_congr 120 0 (fun c _ _ => seen_one (by omega))) | (rw [bi_t (show sSees v (1 - v 3 k) (v 4 k) from p2)]) | (rw [bi_f (show ¬ sSees v (1 - v 3 k) (v 4 k) from p2)])) rfl
    · skip
      refine X.tabIn (tgt := 85) dX6_scout_33 (by decide) (by decide) (by decide) rfl (by decide) ?_
      refine X.aload_n dX6_scout_85 rfl ?_
      refine X.getR dX6_scout_86 fi_X6_12 sh_0 rfl ?_
      refine X.getR dX6_scout_89 fi_X6_189 sh_1 rfl ?_
      refine X.iload_n dX6_scout_92 rfl ?_
      have q4 := SI.r5 hS k
      refine X.iald (v := v 5 k) dX6_scout_93 sh_6 (by decide) (by omega) (rd_5 hv (by omega)) ?_
      exact X.iret dX6_scout_94 rfl (by unfold qScout; rw [if_pos p1, if_neg (by omega), if_neg (by omega), if_neg (by omega), if_pos (by omega)]; first | done | exact congrArg (fun z => some (Sum.inl z : AV)) (cnt_congr 120 0 (fun c _ _ => seen_one (by omega))) | (rw [bi_t (show sSees v (1 - v 3 k) (v 4 k) from p2)]) | (rw [bi_f (show ¬ sSees v (1 - v 3 k) (v 4 k) from p2)])) rfl
    · skip
      refine X.tabIn (tgt := 95) dX6_scout_33 (by decide) (by decide) (by decide) rfl (by decide) ?_
      refine X.aload_n dX6_scout_95 rfl ?_
      refine X.getR dX6_scout_96 fi_X6_19 sh_0 rfl ?_
      refine X.iload_n dX6_scout_99 rfl ?_
      refine X.callS1 (As := [.inl k]) (rest := [.inr (some 21)]) dX6_scout_100 mk_X6_192 (show CX mX6_bitOf 0 [.inl k] M (some (.inl ((mkN (fun j => j = k) (v 0 0).toNat : Nat) : Int))) M from by rw [← mask_one (n := v 0 0) (by omega) (by omega)]; exact c_bitOf M k) rfl (by decide) rfl (Nat.le_of_ble_eq_true rfl) ?_
      refine X.callV1 (As := [.inl ((mkN (fun j => j = k) (v 0 0).toNat : Nat) : Int)]) (rest := []) dX6_scout_103 mk_X6_174 sh_21 (c_countSeen M v hv hS hG (fun j => j = k)) rfl (by decide) rfl (Nat.le_of_ble_eq_true rfl) ?_
      exact X.iret dX6_scout_106 rfl (by unfold qScout; rw [if_pos p1, if_neg (by omega), if_neg (by omega), if_neg (by omega), if_neg (by omega), if_pos (by omega)]; first | done | exact congrArg (fun z => some (Sum.inl z : AV)) (cnt_congr 120 0 (fun c _ _ => seen_one (by omega))) | (rw [bi_t (show sSees v (1 - v 3 k) (v 4 k) from p2)]) | (rw [bi_f (show ¬ sSees v (1 - v 3 k) (v 4 k) from p2)])) rfl
    · skip
      refine X.tabIn (tgt := 107) dX6_scout_33 (by decide) (by decide) (by decide) rfl (by decide) ?_
      refine X.aload_n dX6_scout_107 rfl ?_
      refine X.getR dX6_scout_108 fi_X6_19 sh_0 rfl ?_
      refine X.iload_n dX6_scout_111 rfl ?_
      refine X.aload_n dX6_scout_112 rfl ?_
      refine X.getR dX6_scout_113 fi_X6_12 sh_0 rfl ?_
      refine X.iload dX6_scout_116 rfl ?_
      refine X.callS1 (As := [.inl (v 3 k)]) (rest := [.inr (some 1), .inl (v 4 k), .inr (some 21)]) dX6_scout_118 mk_X6_195 (c_otherSide M (v 3 k)) rfl (by decide) rfl (Nat.le_of_ble_eq_true rfl) ?_
      refine X.callV1 (As := [.inl (1 - (v 3 k))]) (rest := [.inl (v 4 k), .inr (some 21)]) dX6_scout_121 mk_X6_171 sh_1 (c_scoutsOf M v hv hS (1 - (v 3 k)) ⟨by omega, by omega⟩) rfl (by decide) rfl (Nat.le_of_ble_eq_true rfl) ?_
      by_cases p2 : ∃ z, 0 ≤ z ∧ z < v 0 0 ∧ sees v z (v 4 k) ∧ (fun j => v 3 j = 1 - v 3 k) z
      · skip
        refine X.callV1 (As := [.inl (v 4 k), .inl ((mkN (fun j => v 3 j = (1 - (v 3 k))) (v 0 0).toNat : Nat) : Int)]) (rest := []) dX6_scout_124 mk_X6_198 sh_21 (CX.bt (c_isSeen M v hv hS hG (v 4 k) (fun j => v 3 j = 1 - v 3 k) (by omega)) p2) rfl (by decide) rfl (Nat.le_of_ble_eq_true rfl) ?_
        refine X.if_eq (tgt := 134) dX6_scout_127 (by decide) (by decide) (fun h => absurd h (by decide)) (fun h5 => ?_)
        refine X.iconst dX6_scout_130 ?_
        refine X.goto (tgt := 135) dX6_scout_131 (by decide) ?_
        exact X.iret dX6_scout_135 rfl (by unfold qScout; rw [if_pos p1, if_neg (by omega), if_neg (by omega), if_neg (by omega), if_neg (by omega), if_neg (by omega), if_pos (by omega)]; first | done | exact congrArg (fun z => some (Sum.inl z : AV)) (cnt_congr 120 0 (fun c _ _ => seen_one (by omega))) | (rw [bi_t (show sSees v (1 - v 3 k) (v 4 k) from p2)]) | (rw [bi_f (show ¬ sSees v (1 - v 3 k) (v 4 k) from p2)])) rfl
      · skip
        refine X.callV1 (As := [.inl (v 4 k), .inl ((mkN (fun j => v 3 j = (1 - (v 3 k))) (v 0 0).toNat : Nat) : Int)]) (rest := []) dX6_scout_124 mk_X6_198 sh_21 (CX.bf (c_isSeen M v hv hS hG (v 4 k) (fun j => v 3 j = 1 - v 3 k) (by omega)) p2) rfl (by decide) rfl (Nat.le_of_ble_eq_true rfl) ?_
        refine X.if_eq (tgt := 134) dX6_scout_127 (by decide) (by decide) (fun h6 => ?_) (fun h => absurd h (by decide))
        refine X.iconst dX6_scout_134 ?_
        exact X.iret dX6_scout_135 rfl (by unfold qScout; rw [if_pos p1, if_neg (by omega), if_neg (by omega), if_neg (by omega), if_neg (by omega), if_neg (by omega), if_pos (by omega)]; first | done | exact congrArg (fun z => some (Sum.inl z : AV)) (cnt_congr 120 0 (fun c _ _ => seen_one (by omega))) | (rw [bi_t (show sSees v (1 - v 3 k) (v 4 k) from p2)]) | (rw [bi_f (show ¬ sSees v (1 - v 3 k) (v 4 k) from p2)])) rfl
    · skip
      refine X.tabOut (tgt := 136) dX6_scout_33 ⟨by omega, by omega⟩ (by omega) (by decide) ?_
      refine X.bipush dX6_scout_136 (by decide) ?_
      exact X.iret dX6_scout_138 rfl (by unfold qScout; rw [if_pos p1, if_neg (by omega), if_neg (by omega), if_neg (by omega), if_neg (by omega), if_neg (by omega), if_neg (by omega)]; first | done | exact congrArg (fun z => some (Sum.inl z : AV)) (cnt_congr 120 0 (fun c _ _ => seen_one (by omega))) | (rw [bi_t (show sSees v (1 - v 3 k) (v 4 k) from p2)]) | (rw [bi_f (show ¬ sSees v (1 - v 3 k) (v 4 k) from p2)])) rfl
  · skip
    refine X.callV1 (As := [.inl k]) (rest := []) dX6_scout_2 mk_X6_100 sh_0 (CX.bf (c_isScout M v hv hS k ⟨by omega, by omega⟩) p1) rfl (by decide) rfl (Nat.le_of_ble_eq_true rfl) ?_
    refine X.if_ne (tgt := 11) dX6_scout_5 (by decide) (by decide) (fun h => absurd h (by decide)) (fun h7 => ?_)
    refine X.bipush dX6_scout_8 (by decide) ?_
    exact X.iret dX6_scout_10 rfl (by unfold qScout; rw [if_neg p1]) rfl
set_option maxHeartbeats 4000000 in
set_option maxRecDepth 100000 in
theorem c_light (M : Mem) (v : Vw) (hv : VA M v) (hS : SI v) (k w : Int) (hk : inR k) (hw : inR w) : CX mX6_light 2 [.inr (some 0), .inl k, .inl w] M (some (.inl (qLight v k w))) M := by
  have n0 := hS.n0
  have n1 := hS.n1
  have n2 := hS.n2
  refine CX.of (by decide +kernel) (Nat.le_of_ble_eq_true rfl) [some (.inr (some 0)), some (.inl k), some (.inl w)] rfl ?_
  refine X.aload_n dX6_light_0 rfl ?_
  refine X.iload_n dX6_light_1 rfl ?_
  by_cases p1 : 0 ≤ k ∧ k ≤ v 0 1 - 1
  · skip
    refine X.callV1 (As := [.inl k]) (rest := []) dX6_light_2 mk_X6_137 sh_0 (CX.bt (c_isLight M v hv hS k ⟨by omega, by omega⟩) p1) rfl (by decide) rfl (Nat.le_of_ble_eq_true rfl) ?_
    refine X.if_ne (tgt := 11) dX6_light_5 (by decide) (by decide) (fun h1 => ?_) (fun h => absurd h (by decide))
    refine X.iload_n dX6_light_11 rfl ?_
    rcases (show w = 0 ∨ w = 1 ∨ w = 2 ∨ w = 3 ∨ (w < 0 ∨ 3 < w) from by omega) with rfl | rfl | rfl | rfl | hout
    · skip
      refine X.tabIn (tgt := 44) dX6_light_12 (by decide) (by decide) (by decide) rfl (by decide) ?_
      refine X.aload_n dX6_light_44 rfl ?_
      refine X.getR dX6_light_45 fi_X6_12 sh_0 rfl ?_
      refine X.getR dX6_light_48 fi_X6_201 sh_1 rfl ?_
      refine X.iload_n dX6_light_51 rfl ?_
      have q2 := SI.r6 hS k
      refine X.iald (v := v 6 k) dX6_light_52 sh_7 (by decide) (by omega) (rd_6 hv (by omega)) ?_
      refine X.callS1 (As := [.inl (v 6 k)]) (rest := []) dX6_light_53 mk_X6_106 (c_columnOf M (v 6 k) (by omega)) rfl (by decide) rfl (Nat.le_of_ble_eq_true rfl) ?_
      exact X.iret dX6_light_56 rfl (by unfold qLight; rw [if_pos p1, if_pos (by omega)]) rfl
    · skip
      refine X.tabIn (tgt := 57) dX6_light_12 (by decide) (by decide) (by decide) rfl (by decide) ?_
      refine X.aload_n dX6_light_57 rfl ?_
      refine X.getR dX6_light_58 fi_X6_12 sh_0 rfl ?_
      refine X.getR dX6_light_61 fi_X6_201 sh_1 rfl ?_
      refine X.iload_n dX6_light_64 rfl ?_
      have q3 := SI.r6 hS k
      refine X.iald (v := v 6 k) dX6_light_65 sh_7 (by decide) (by omega) (rd_6 hv (by omega)) ?_
      refine X.callS1 (As := [.inl (v 6 k)]) (rest := []) dX6_light_66 mk_X6_109 (c_rowOf M (v 6 k) (by omega)) rfl (by decide) rfl (Nat.le_of_ble_eq_true rfl) ?_
      exact X.iret dX6_light_69 rfl (by unfold qLight; rw [if_pos p1, if_neg (by omega), if_pos (by omega)]) rfl
    · skip
      refine X.tabIn (tgt := 70) dX6_light_12 (by decide) (by decide) (by decide) rfl (by decide) ?_
      refine X.aload_n dX6_light_70 rfl ?_
      refine X.getR dX6_light_71 fi_X6_12 sh_0 rfl ?_
      refine X.getR dX6_light_74 fi_X6_204 sh_1 rfl ?_
      refine X.iload_n dX6_light_77 rfl ?_
      have q4 := SI.r7 hS k
      refine X.iald (v := v 7 k) dX6_light_78 sh_8 (by decide) (by omega) (rd_7 hv (by omega)) ?_
      exact X.iret dX6_light_79 rfl (by unfold qLight; rw [if_pos p1, if_neg (by omega), if_neg (by omega), if_pos (by omega)]) rfl
    · skip
      refine X.tabIn (tgt := 80) dX6_light_12 (by decide) (by decide) (by decide) rfl (by decide) ?_
      refine X.aload_n dX6_light_80 rfl ?_
      refine X.getR dX6_light_81 fi_X6_12 sh_0 rfl ?_
      refine X.getR dX6_light_84 fi_X6_140 sh_1 rfl ?_
      refine X.iload_n dX6_light_87 rfl ?_
      have q5 := SI.r8 hS k
      refine X.iald (v := v 8 k) dX6_light_88 sh_9 (by decide) (by omega) (rd_8 hv (by omega)) ?_
      exact X.iret dX6_light_89 rfl (by unfold qLight; rw [if_pos p1, if_neg (by omega), if_neg (by omega), if_neg (by omega), if_pos (by omega)]) rfl
    · skip
      refine X.tabOut (tgt := 90) dX6_light_12 ⟨by omega, by omega⟩ (by omega) (by decide) ?_
      refine X.bipush dX6_light_90 (by decide) ?_
      exact X.iret dX6_light_92 rfl (by unfold qLight; rw [if_pos p1, if_neg (by omega), if_neg (by omega), if_neg (by omega), if_neg (by omega)]) rfl
  · skip
    refine X.callV1 (As := [.inl k]) (rest := []) dX6_light_2 mk_X6_137 sh_0 (CX.bf (c_isLight M v hv hS k ⟨by omega, by omega⟩) p1) rfl (by decide) rfl (Nat.le_of_ble_eq_true rfl) ?_
    refine X.if_ne (tgt := 11) dX6_light_5 (by decide) (by decide) (fun h => absurd h (by decide)) (fun h6 => ?_)
    refine X.bipush dX6_light_8 (by decide) ?_
    exact X.iret dX6_light_10 rfl (by unfold qLight; rw [if_neg p1]) rfl
set_option maxHeartbeats 4000000 in
set_option maxRecDepth 100000 in
theorem c_count (M : Mem) (v : Vw) (hv : VA M v) (hS : SI v) (hG : SG M v) (hm : VM M v) (z tl w : Int) (hz : M 24 1 = z) (htl : M 126 1 = tl) (hw : inR w) : CX mX6_count 2 [.inr (some 0), .inl w] M (some (.inl (qCount v z tl w))) M := by
  have n0 := hS.n0
  have n1 := hS.n1
  have n2 := hS.n2
  refine CX.of (by decide +kernel) (Nat.le_of_ble_eq_true rfl) [some (.inr (some 0)), some (.inl w)] rfl ?_
  refine X.iload_n dX6_count_0 rfl ?_
  rcases (show w = 0 ∨ w = 1 ∨ w = 2 ∨ w = 3 ∨ w = 4 ∨ w = 5 ∨ w = 6 ∨ w = 7 ∨ w = 8 ∨ w = 9 ∨ w = 10 ∨ w = 11 ∨ (w < 0 ∨ 11 < w) from by omega) with rfl | rfl | rfl | rfl | rfl | rfl | rfl | rfl | rfl | rfl | rfl | rfl | hout
  · skip
    refine X.tabIn (tgt := 64) dX6_count_1 (by decide) (by decide) (by decide) rfl (by decide) ?_
    refine X.aload_n dX6_count_64 rfl ?_
    refine X.getR dX6_count_65 fi_X6_12 sh_0 rfl ?_
    refine X.getI (v := v 0 0) 2 dX6_count_68 fi_X6_93 sh_1 rfl (rd_0_0 hv) ?_
    exact X.iret dX6_count_71 rfl (by unfold qCount; rw [if_pos (by omega)]) rfl
  · skip
    refine X.tabIn (tgt := 72) dX6_count_1 (by decide) (by decide) (by decide) rfl (by decide) ?_
    refine X.aload_n dX6_count_72 rfl ?_
    refine X.getR dX6_count_73 fi_X6_12 sh_0 rfl ?_
    refine X.getI (v := v 0 1) 6 dX6_count_76 fi_X6_131 sh_1 rfl (rd_0_1 hv) ?_
    exact X.iret dX6_count_79 rfl (by unfold qCount; rw [if_neg (by omega), if_pos (by omega)]) rfl
  · skip
    refine X.tabIn (tgt := 80) dX6_count_1 (by decide) (by decide) (by decide) rfl (by decide) ?_
    refine X.aload_n dX6_count_80 rfl ?_
    refine X.getR dX6_count_81 fi_X6_12 sh_0 rfl ?_
    refine X.callV1 (As := []) (rest := []) dX6_count_84 mk_X6_162 sh_1 (c_countBurning M v hv hS ) rfl (by decide) rfl (Nat.le_of_ble_eq_true rfl) ?_
    exact X.iret dX6_count_87 rfl (by unfold qCount; rw [if_neg (by omega), if_neg (by omega), if_pos (by omega)]) rfl
  · skip
    refine X.tabIn (tgt := 88) dX6_count_1 (by decide) (by decide) (by decide) rfl (by decide) ?_
    refine X.aload_n dX6_count_88 rfl ?_
    refine X.getR dX6_count_89 fi_X6_19 sh_0 rfl ?_
    refine X.callV1 (As := []) (rest := []) dX6_count_92 mk_X6_165 sh_21 (c_countLit M v hv hS hG.1) rfl (by decide) rfl (Nat.le_of_ble_eq_true rfl) ?_
    exact X.iret dX6_count_95 rfl (by unfold qCount; rw [if_neg (by omega), if_neg (by omega), if_neg (by omega), if_pos (by omega)]) rfl
  · skip
    refine X.tabIn (tgt := 96) dX6_count_1 (by decide) (by decide) (by decide) rfl (by decide) ?_
    refine X.aload_n dX6_count_96 rfl ?_
    refine X.getR dX6_count_97 fi_X6_12 sh_0 rfl ?_
    refine X.getI (v := v 0 2) 10 dX6_count_100 fi_X6_146 sh_1 rfl (rd_0_2 hv) ?_
    exact X.iret dX6_count_103 rfl (by unfold qCount; rw [if_neg (by omega), if_neg (by omega), if_neg (by omega), if_neg (by omega), if_pos (by omega)]) rfl
  · skip
    refine X.tabIn (tgt := 104) dX6_count_1 (by decide) (by decide) (by decide) rfl (by decide) ?_
    refine X.aload_n dX6_count_104 rfl ?_
    refine X.getR dX6_count_105 fi_X6_12 sh_0 rfl ?_
    refine X.getI (v := v 0 3) 11 dX6_count_108 fi_X6_168 sh_1 rfl (rd_0_3 hv) ?_
    exact X.iret dX6_count_111 rfl (by unfold qCount; rw [if_neg (by omega), if_neg (by omega), if_neg (by omega), if_neg (by omega), if_neg (by omega), if_pos (by omega)]) rfl
  · skip
    refine X.tabIn (tgt := 112) dX6_count_1 (by decide) (by decide) (by decide) rfl (by decide) ?_
    refine X.aload_n dX6_count_112 rfl ?_
    refine X.getR dX6_count_113 fi_X6_19 sh_0 rfl ?_
    refine X.aload_n dX6_count_116 rfl ?_
    refine X.getR dX6_count_117 fi_X6_12 sh_0 rfl ?_
    refine X.iconst dX6_count_120 ?_
    refine X.callV1 (As := [.inl 0]) (rest := [.inr (some 21)]) dX6_count_121 mk_X6_171 sh_1 (c_scoutsOf M v hv hS 0 (by decide)) rfl (by decide) rfl (Nat.le_of_ble_eq_true rfl) ?_
    refine X.callV1 (As := [.inl ((mkN (fun j => v 3 j = 0) (v 0 0).toNat : Nat) : Int)]) (rest := []) dX6_count_124 mk_X6_174 sh_21 (c_countSeen M v hv hS hG (fun k => v 3 k = 0)) rfl (by decide) rfl (Nat.le_of_ble_eq_true rfl) ?_
    exact X.iret dX6_count_127 rfl (by unfold qCount; rw [if_neg (by omega), if_neg (by omega), if_neg (by omega), if_neg (by omega), if_neg (by omega), if_neg (by omega), if_pos (by omega)]; rfl) rfl
  · skip
    refine X.tabIn (tgt := 128) dX6_count_1 (by decide) (by decide) (by decide) rfl (by decide) ?_
    refine X.aload_n dX6_count_128 rfl ?_
    refine X.getR dX6_count_129 fi_X6_19 sh_0 rfl ?_
    refine X.aload_n dX6_count_132 rfl ?_
    refine X.getR dX6_count_133 fi_X6_12 sh_0 rfl ?_
    refine X.iconst dX6_count_136 ?_
    refine X.callV1 (As := [.inl 1]) (rest := [.inr (some 21)]) dX6_count_137 mk_X6_171 sh_1 (c_scoutsOf M v hv hS 1 (by decide)) rfl (by decide) rfl (Nat.le_of_ble_eq_true rfl) ?_
    refine X.callV1 (As := [.inl ((mkN (fun j => v 3 j = 1) (v 0 0).toNat : Nat) : Int)]) (rest := []) dX6_count_140 mk_X6_174 sh_21 (c_countSeen M v hv hS hG (fun k => v 3 k = 1)) rfl (by decide) rfl (Nat.le_of_ble_eq_true rfl) ?_
    exact X.iret dX6_count_143 rfl (by unfold qCount; rw [if_neg (by omega), if_neg (by omega), if_neg (by omega), if_neg (by omega), if_neg (by omega), if_neg (by omega), if_neg (by omega), if_pos (by omega)]; rfl) rfl
  · skip
    refine X.tabIn (tgt := 144) dX6_count_1 (by decide) (by decide) (by decide) rfl (by decide) ?_
    refine X.aload_n dX6_count_144 rfl ?_
    refine X.getR dX6_count_145 fi_X6_12 sh_0 rfl ?_
    refine X.getR dX6_count_148 fi_X6_177 sh_1 rfl ?_
    refine X.iconst dX6_count_151 ?_
    refine X.aald dX6_count_152 sh_10 (by decide) (by decide) (by decide) rfl ?_
    refine X.callV1 (As := []) (rest := []) dX6_count_153 mk_X6_181 sh_11 (c_countNotFogged_0 M v hm hS) rfl (by decide) rfl (Nat.le_of_ble_eq_true rfl) ?_
    exact X.iret dX6_count_156 rfl (by unfold qCount; rw [if_neg (by omega), if_neg (by omega), if_neg (by omega), if_neg (by omega), if_neg (by omega), if_neg (by omega), if_neg (by omega), if_neg (by omega), if_pos (by omega)]) rfl
  · skip
    refine X.tabIn (tgt := 157) dX6_count_1 (by decide) (by decide) (by decide) rfl (by decide) ?_
    refine X.aload_n dX6_count_157 rfl ?_
    refine X.getR dX6_count_158 fi_X6_12 sh_0 rfl ?_
    refine X.getR dX6_count_161 fi_X6_177 sh_1 rfl ?_
    refine X.iconst dX6_count_164 ?_
    refine X.aald dX6_count_165 sh_10 (by decide) (by decide) (by decide) rfl ?_
    refine X.callV1 (As := []) (rest := []) dX6_count_166 mk_X6_181 sh_16 (c_countNotFogged_1 M v hm hS) rfl (by decide) rfl (Nat.le_of_ble_eq_true rfl) ?_
    exact X.iret dX6_count_169 rfl (by unfold qCount; rw [if_neg (by omega), if_neg (by omega), if_neg (by omega), if_neg (by omega), if_neg (by omega), if_neg (by omega), if_neg (by omega), if_neg (by omega), if_neg (by omega), if_pos (by omega)]) rfl
  · skip
    refine X.tabIn (tgt := 170) dX6_count_1 (by decide) (by decide) (by decide) rfl (by decide) ?_
    refine X.aload_n dX6_count_170 rfl ?_
    refine X.getR dX6_count_171 fi_X6_26 sh_0 rfl ?_
    refine X.getI (v := z) 1 dX6_count_174 fi_X6_156 sh_24 rfl hz ?_
    exact X.iret dX6_count_177 rfl (by unfold qCount; rw [if_neg (by omega), if_neg (by omega), if_neg (by omega), if_neg (by omega), if_neg (by omega), if_neg (by omega), if_neg (by omega), if_neg (by omega), if_neg (by omega), if_neg (by omega), if_pos (by omega)]) rfl
  · skip
    refine X.tabIn (tgt := 178) dX6_count_1 (by decide) (by decide) (by decide) rfl (by decide) ?_
    refine X.aload_n dX6_count_178 rfl ?_
    refine X.getR dX6_count_179 fi_X6_33 sh_0 rfl ?_
    refine X.getI (v := tl) 1 dX6_count_182 fi_X6_74 sh_126 rfl htl ?_
    exact X.iret dX6_count_185 rfl (by unfold qCount; rw [if_neg (by omega), if_neg (by omega), if_neg (by omega), if_neg (by omega), if_neg (by omega), if_neg (by omega), if_neg (by omega), if_neg (by omega), if_neg (by omega), if_neg (by omega), if_neg (by omega), if_pos (by omega)]) rfl
  · skip
    refine X.tabOut (tgt := 186) dX6_count_1 ⟨by omega, by omega⟩ (by omega) (by decide) ?_
    refine X.bipush dX6_count_186 (by decide) ?_
    exact X.iret dX6_count_188 rfl (by unfold qCount; rw [if_neg (by omega), if_neg (by omega), if_neg (by omega), if_neg (by omega), if_neg (by omega), if_neg (by omega), if_neg (by omega), if_neg (by omega), if_neg (by omega), if_neg (by omega), if_neg (by omega), if_neg (by omega)]) rfl
set_option maxHeartbeats 4000000 in
set_option maxRecDepth 100000 in
theorem c_known_0 (M : Mem) (v : Vw) (hv : VA M v) (hS : SI v) (hG : SG M v) (hm : VM M v) (c r w : Int) (hc : inR c) (hr : inR r) (hw : inR w) : CX mX6_known 2 [.inr (some 0), .inl 0, .inl c, .inl r, .inl w] M (some (.inl (qKnown v 0 c r w))) M := by
  have n0 := hS.n0
  have n1 := hS.n1
  have n2 := hS.n2
  refine CX.of (by decide +kernel) (Nat.le_of_ble_eq_true rfl) [some (.inr (some 0)), some (.inl 0), some (.inl c), some (.inl r), some (.inl w), none, none, none] rfl ?_
  refine X.iload_n dX6_known_0 rfl ?_
  refine X.iconst dX6_known_1 ?_
  refine X.iconst dX6_known_2 ?_
  refine X.callS1 (As := [.inl 0, .inl 0, .inl 1]) (rest := []) dX6_known_3 mk_X6_48 (CX.bt (c_isWithin M 0 0 1 (by decide) (by decide) (by decide)) (by omega)) rfl (by decide) rfl (Nat.le_of_ble_eq_true rfl) ?_
  refine X.if_eq (tgt := 17) dX6_known_6 (by decide) (by decide) (fun h => absurd h (by decide)) (fun h1 => ?_)
  refine X.iload_n dX6_known_9 rfl ?_
  refine X.iload_n dX6_known_10 rfl ?_
  by_cases p1 : 0 ≤ c ∧ c ≤ 11 ∧ 0 ≤ r ∧ r ≤ 9
  · skip
    refine X.callS1 (As := [.inl c, .inl r]) (rest := []) dX6_known_11 mk_X6_44 (CX.bt (c_isCell M c r ⟨by omega, by omega⟩ ⟨by omega, by omega⟩) p1) rfl (by decide) rfl (Nat.le_of_ble_eq_true rfl) ?_
    refine X.if_ne (tgt := 20) dX6_known_14 (by decide) (by decide) (fun h2 => ?_) (fun h => absurd h (by decide))
    refine X.iload_n dX6_known_20 rfl ?_
    refine X.iload_n dX6_known_21 rfl ?_
    refine X.callS1 (As := [.inl c, .inl r]) (rest := []) dX6_known_22 mk_X6_52 (c_cellAt M c r) rfl (by decide) rfl (Nat.le_of_ble_eq_true rfl) ?_
    refine X.istore (lv2 := [some (.inr (some 0)), some (.inl 0), some (.inl c), some (.inl r), some (.inl w), some (.inl (r * 12 + c)), none, none]) dX6_known_25 (Nat.le_of_ble_eq_true rfl) rfl ?_
    refine X.aload_n dX6_known_27 rfl ?_
    refine X.getR dX6_known_28 fi_X6_12 sh_0 rfl ?_
    refine X.getR dX6_known_31 fi_X6_177 sh_1 rfl ?_
    refine X.iload_n dX6_known_34 rfl ?_
    refine X.aald dX6_known_35 sh_10 (by decide) (by decide) (by decide) rfl ?_
    refine X.astore (lv2 := [some (.inr (some 0)), some (.inl 0), some (.inl c), some (.inl r), some (.inl w), some (.inl (r * 12 + c)), some (.inr (some 11)), none]) dX6_known_36 (Nat.le_of_ble_eq_true rfl) rfl ?_
    refine X.aload dX6_known_38 rfl ?_
    refine X.getR dX6_known_40 fi_X6_207 sh_11 rfl ?_
    refine X.iload dX6_known_43 rfl ?_
    refine X.iald (v := v 9 (r * 12 + c)) dX6_known_45 sh_12 (by decide) (by omega) (rd_9 hm (by omega)) ?_
    have qm := hS.r9 (r * 12 + c)
    refine X.if_ne (tgt := 53) dX6_known_46 (by decide) ⟨by omega, by omega⟩ (fun h46 => ?_) (fun h46 => ?_)
    · skip
      refine X.iconst dX6_known_53 ?_
      refine X.istore (lv2 := [some (.inr (some 0)), some (.inl 0), some (.inl c), some (.inl r), some (.inl w), some (.inl (r * 12 + c)), some (.inr (some 11)), some (.inl 0)]) dX6_known_54 (Nat.le_of_ble_eq_true rfl) rfl ?_
      refine X.iload dX6_known_56 rfl ?_
      rcases (show w = 0 ∨ w = 1 ∨ w = 2 ∨ w = 3 ∨ w = 4 ∨ (w < 0 ∨ 4 < w) from by omega) with rfl | rfl | rfl | rfl | rfl | hout
      · skip
        refine X.tabIn (tgt := 92) dX6_known_58 (by decide) (by decide) (by decide) rfl (by decide) ?_
        refine X.aload dX6_known_92 rfl ?_
        refine X.getR dX6_known_94 fi_X6_207 sh_11 rfl ?_
        refine X.iload dX6_known_97 rfl ?_
        refine X.iald (v := v 9 (r * 12 + c)) dX6_known_99 sh_12 (by decide) (by omega) (rd_9 hm (by omega)) ?_
        exact X.iret dX6_known_100 rfl (by unfold qKnown; rw [if_pos (by omega), if_pos p1, if_pos (by omega)]; simp) rfl
      · skip
        refine X.tabIn (tgt := 101) dX6_known_58 (by decide) (by decide) (by decide) rfl (by decide) ?_
        refine X.iload dX6_known_101 rfl ?_
        refine X.if_eq (tgt := 111) dX6_known_103 (by decide) (by decide) (fun h3 => ?_) (fun h => absurd h (by decide))
        refine X.aload dX6_known_111 rfl ?_
        refine X.getR dX6_known_113 fi_X6_210 sh_11 rfl ?_
        refine X.iload dX6_known_116 rfl ?_
        refine X.iald (v := v 10 (r * 12 + c)) dX6_known_118 sh_13 (by decide) (by omega) (rd_10 hm (by omega)) ?_
        exact X.iret dX6_known_119 rfl (by unfold qKnown; rw [if_pos (by omega), if_pos p1, if_neg (by omega), if_pos (by omega)]; simp only [if_true]; rw [if_neg h46]) rfl
      · skip
        refine X.tabIn (tgt := 120) dX6_known_58 (by decide) (by decide) (by decide) rfl (by decide) ?_
        refine X.iload dX6_known_120 rfl ?_
        refine X.if_eq (tgt := 130) dX6_known_122 (by decide) (by decide) (fun h4 => ?_) (fun h => absurd h (by decide))
        refine X.aload dX6_known_130 rfl ?_
        refine X.getR dX6_known_132 fi_X6_211 sh_11 rfl ?_
        refine X.iload dX6_known_135 rfl ?_
        refine X.iald (v := v 11 (r * 12 + c)) dX6_known_137 sh_14 (by decide) (by omega) (rd_11 hm (by omega)) ?_
        exact X.iret dX6_known_138 rfl (by unfold qKnown; rw [if_pos (by omega), if_pos p1, if_neg (by omega), if_neg (by omega), if_pos (by omega)]; simp only [if_true]; rw [if_neg h46]) rfl
      · skip
        refine X.tabIn (tgt := 139) dX6_known_58 (by decide) (by decide) (by decide) rfl (by decide) ?_
        refine X.iload dX6_known_139 rfl ?_
        refine X.if_eq (tgt := 149) dX6_known_141 (by decide) (by decide) (fun h5 => ?_) (fun h => absurd h (by decide))
        refine X.aload dX6_known_149 rfl ?_
        refine X.getR dX6_known_151 fi_X6_212 sh_11 rfl ?_
        refine X.iload dX6_known_154 rfl ?_
        refine X.iald (v := v 12 (r * 12 + c)) dX6_known_156 sh_15 (by decide) (by omega) (rd_12 hm (by omega)) ?_
        exact X.iret dX6_known_157 rfl (by unfold qKnown; rw [if_pos (by omega), if_pos p1, if_neg (by omega), if_neg (by omega), if_neg (by omega), if_pos (by omega)]; simp only [if_true]; rw [if_neg h46]) rfl
      · skip
        refine X.tabIn (tgt := 158) dX6_known_58 (by decide) (by decide) (by decide) rfl (by decide) ?_
        refine X.aload_n dX6_known_158 rfl ?_
        refine X.getR dX6_known_159 fi_X6_19 sh_0 rfl ?_
        refine X.iload dX6_known_162 rfl ?_
        refine X.aload_n dX6_known_164 rfl ?_
        refine X.getR dX6_known_165 fi_X6_12 sh_0 rfl ?_
        refine X.iload_n dX6_known_168 rfl ?_
        refine X.callV1 (As := [.inl 0]) (rest := [.inl (r * 12 + c), .inr (some 21)]) dX6_known_169 mk_X6_171 sh_1 (c_scoutsOf M v hv hS 0 (by decide)) rfl (by decide) rfl (Nat.le_of_ble_eq_true rfl) ?_
        by_cases p2 : ∃ z, 0 ≤ z ∧ z < v 0 0 ∧ sees v z (r * 12 + c) ∧ (fun k => v 3 k = 0) z
        · skip
          refine X.callV1 (As := [.inl (r * 12 + c), .inl ((mkN (fun j => v 3 j = 0) (v 0 0).toNat : Nat) : Int)]) (rest := []) dX6_known_172 mk_X6_198 sh_21 (CX.bt (c_isSeen M v hv hS hG (r * 12 + c) (fun k => v 3 k = 0) (by omega)) p2) rfl (by decide) rfl (Nat.le_of_ble_eq_true rfl) ?_
          refine X.if_eq (tgt := 182) dX6_known_175 (by decide) (by decide) (fun h => absurd h (by decide)) (fun h6 => ?_)
          refine X.iconst dX6_known_178 ?_
          refine X.goto (tgt := 183) dX6_known_179 (by decide) ?_
          exact X.iret dX6_known_183 rfl (by unfold qKnown; rw [if_pos (by omega), if_pos p1, if_neg (by omega), if_neg (by omega), if_neg (by omega), if_neg (by omega), if_pos (by omega)]; rw [bi_t (show sSees v 0 (r * 12 + c) from p2)]) rfl
        · skip
          refine X.callV1 (As := [.inl (r * 12 + c), .inl ((mkN (fun j => v 3 j = 0) (v 0 0).toNat : Nat) : Int)]) (rest := []) dX6_known_172 mk_X6_198 sh_21 (CX.bf (c_isSeen M v hv hS hG (r * 12 + c) (fun k => v 3 k = 0) (by omega)) p2) rfl (by decide) rfl (Nat.le_of_ble_eq_true rfl) ?_
          refine X.if_eq (tgt := 182) dX6_known_175 (by decide) (by decide) (fun h7 => ?_) (fun h => absurd h (by decide))
          refine X.iconst dX6_known_182 ?_
          exact X.iret dX6_known_183 rfl (by unfold qKnown; rw [if_pos (by omega), if_pos p1, if_neg (by omega), if_neg (by omega), if_neg (by omega), if_neg (by omega), if_pos (by omega)]; rw [bi_f (show ¬ sSees v 0 (r * 12 + c) from p2)]) rfl
      · skip
        refine X.tabOut (tgt := 184) dX6_known_58 ⟨by omega, by omega⟩ (by omega) (by decide) ?_
        refine X.bipush dX6_known_184 (by decide) ?_
        exact X.iret dX6_known_186 rfl (by unfold qKnown; rw [if_pos (by omega), if_pos p1, if_neg (by omega), if_neg (by omega), if_neg (by omega), if_neg (by omega), if_neg (by omega)]) rfl
    · skip
      refine X.iconst dX6_known_49 ?_
      refine X.goto (tgt := 54) dX6_known_50 (by decide) ?_
      refine X.istore (lv2 := [some (.inr (some 0)), some (.inl 0), some (.inl c), some (.inl r), some (.inl w), some (.inl (r * 12 + c)), some (.inr (some 11)), some (.inl 1)]) dX6_known_54 (Nat.le_of_ble_eq_true rfl) rfl ?_
      refine X.iload dX6_known_56 rfl ?_
      rcases (show w = 0 ∨ w = 1 ∨ w = 2 ∨ w = 3 ∨ w = 4 ∨ (w < 0 ∨ 4 < w) from by omega) with rfl | rfl | rfl | rfl | rfl | hout
      · skip
        refine X.tabIn (tgt := 92) dX6_known_58 (by decide) (by decide) (by decide) rfl (by decide) ?_
        refine X.aload dX6_known_92 rfl ?_
        refine X.getR dX6_known_94 fi_X6_207 sh_11 rfl ?_
        refine X.iload dX6_known_97 rfl ?_
        refine X.iald (v := v 9 (r * 12 + c)) dX6_known_99 sh_12 (by decide) (by omega) (rd_9 hm (by omega)) ?_
        exact X.iret dX6_known_100 rfl (by unfold qKnown; rw [if_pos (by omega), if_pos p1, if_pos (by omega)]; simp) rfl
      · skip
        refine X.tabIn (tgt := 101) dX6_known_58 (by decide) (by decide) (by decide) rfl (by decide) ?_
        refine X.iload dX6_known_101 rfl ?_
        refine X.if_eq (tgt := 111) dX6_known_103 (by decide) (by decide) (fun h => absurd h (by decide)) (fun h8 => ?_)
        refine X.bipush dX6_known_106 (by decide) ?_
        refine X.goto (tgt := 119) dX6_known_108 (by decide) ?_
        exact X.iret dX6_known_119 rfl (by unfold qKnown; rw [if_pos (by omega), if_pos p1, if_neg (by omega), if_pos (by omega)]; simp only [if_true]; rw [if_pos h46]) rfl
      · skip
        refine X.tabIn (tgt := 120) dX6_known_58 (by decide) (by decide) (by decide) rfl (by decide) ?_
        refine X.iload dX6_known_120 rfl ?_
        refine X.if_eq (tgt := 130) dX6_known_122 (by decide) (by decide) (fun h => absurd h (by decide)) (fun h9 => ?_)
        refine X.bipush dX6_known_125 (by decide) ?_
        refine X.goto (tgt := 138) dX6_known_127 (by decide) ?_
        exact X.iret dX6_known_138 rfl (by unfold qKnown; rw [if_pos (by omega), if_pos p1, if_neg (by omega), if_neg (by omega), if_pos (by omega)]; simp only [if_true]; rw [if_pos h46]) rfl
      · skip
        refine X.tabIn (tgt := 139) dX6_known_58 (by decide) (by decide) (by decide) rfl (by decide) ?_
        refine X.iload dX6_known_139 rfl ?_
        refine X.if_eq (tgt := 149) dX6_known_141 (by decide) (by decide) (fun h => absurd h (by decide)) (fun h10 => ?_)
        refine X.bipush dX6_known_144 (by decide) ?_
        refine X.goto (tgt := 157) dX6_known_146 (by decide) ?_
        exact X.iret dX6_known_157 rfl (by unfold qKnown; rw [if_pos (by omega), if_pos p1, if_neg (by omega), if_neg (by omega), if_neg (by omega), if_pos (by omega)]; simp only [if_true]; rw [if_pos h46]) rfl
      · skip
        refine X.tabIn (tgt := 158) dX6_known_58 (by decide) (by decide) (by decide) rfl (by decide) ?_
        refine X.aload_n dX6_known_158 rfl ?_
        refine X.getR dX6_known_159 fi_X6_19 sh_0 rfl ?_
        refine X.iload dX6_known_162 rfl ?_
        refine X.aload_n dX6_known_164 rfl ?_
        refine X.getR dX6_known_165 fi_X6_12 sh_0 rfl ?_
        refine X.iload_n dX6_known_168 rfl ?_
        refine X.callV1 (As := [.inl 0]) (rest := [.inl (r * 12 + c), .inr (some 21)]) dX6_known_169 mk_X6_171 sh_1 (c_scoutsOf M v hv hS 0 (by decide)) rfl (by decide) rfl (Nat.le_of_ble_eq_true rfl) ?_
        by_cases p2 : ∃ z, 0 ≤ z ∧ z < v 0 0 ∧ sees v z (r * 12 + c) ∧ (fun k => v 3 k = 0) z
        · skip
          refine X.callV1 (As := [.inl (r * 12 + c), .inl ((mkN (fun j => v 3 j = 0) (v 0 0).toNat : Nat) : Int)]) (rest := []) dX6_known_172 mk_X6_198 sh_21 (CX.bt (c_isSeen M v hv hS hG (r * 12 + c) (fun k => v 3 k = 0) (by omega)) p2) rfl (by decide) rfl (Nat.le_of_ble_eq_true rfl) ?_
          refine X.if_eq (tgt := 182) dX6_known_175 (by decide) (by decide) (fun h => absurd h (by decide)) (fun h11 => ?_)
          refine X.iconst dX6_known_178 ?_
          refine X.goto (tgt := 183) dX6_known_179 (by decide) ?_
          exact X.iret dX6_known_183 rfl (by unfold qKnown; rw [if_pos (by omega), if_pos p1, if_neg (by omega), if_neg (by omega), if_neg (by omega), if_neg (by omega), if_pos (by omega)]; rw [bi_t (show sSees v 0 (r * 12 + c) from p2)]) rfl
        · skip
          refine X.callV1 (As := [.inl (r * 12 + c), .inl ((mkN (fun j => v 3 j = 0) (v 0 0).toNat : Nat) : Int)]) (rest := []) dX6_known_172 mk_X6_198 sh_21 (CX.bf (c_isSeen M v hv hS hG (r * 12 + c) (fun k => v 3 k = 0) (by omega)) p2) rfl (by decide) rfl (Nat.le_of_ble_eq_true rfl) ?_
          refine X.if_eq (tgt := 182) dX6_known_175 (by decide) (by decide) (fun h12 => ?_) (fun h => absurd h (by decide))
          refine X.iconst dX6_known_182 ?_
          exact X.iret dX6_known_183 rfl (by unfold qKnown; rw [if_pos (by omega), if_pos p1, if_neg (by omega), if_neg (by omega), if_neg (by omega), if_neg (by omega), if_pos (by omega)]; rw [bi_f (show ¬ sSees v 0 (r * 12 + c) from p2)]) rfl
      · skip
        refine X.tabOut (tgt := 184) dX6_known_58 ⟨by omega, by omega⟩ (by omega) (by decide) ?_
        refine X.bipush dX6_known_184 (by decide) ?_
        exact X.iret dX6_known_186 rfl (by unfold qKnown; rw [if_pos (by omega), if_pos p1, if_neg (by omega), if_neg (by omega), if_neg (by omega), if_neg (by omega), if_neg (by omega)]) rfl
  · skip
    refine X.callS1 (As := [.inl c, .inl r]) (rest := []) dX6_known_11 mk_X6_44 (CX.bf (c_isCell M c r ⟨by omega, by omega⟩ ⟨by omega, by omega⟩) p1) rfl (by decide) rfl (Nat.le_of_ble_eq_true rfl) ?_
    refine X.if_ne (tgt := 20) dX6_known_14 (by decide) (by decide) (fun h => absurd h (by decide)) (fun h13 => ?_)
    refine X.bipush dX6_known_17 (by decide) ?_
    exact X.iret dX6_known_19 rfl (by unfold qKnown; rw [if_pos (by omega), if_neg p1]) rfl
set_option maxHeartbeats 4000000 in
set_option maxRecDepth 100000 in
theorem c_known_1 (M : Mem) (v : Vw) (hv : VA M v) (hS : SI v) (hG : SG M v) (hm : VM M v) (c r w : Int) (hc : inR c) (hr : inR r) (hw : inR w) : CX mX6_known 2 [.inr (some 0), .inl 1, .inl c, .inl r, .inl w] M (some (.inl (qKnown v 1 c r w))) M := by
  have n0 := hS.n0
  have n1 := hS.n1
  have n2 := hS.n2
  refine CX.of (by decide +kernel) (Nat.le_of_ble_eq_true rfl) [some (.inr (some 0)), some (.inl 1), some (.inl c), some (.inl r), some (.inl w), none, none, none] rfl ?_
  refine X.iload_n dX6_known_0 rfl ?_
  refine X.iconst dX6_known_1 ?_
  refine X.iconst dX6_known_2 ?_
  refine X.callS1 (As := [.inl 1, .inl 0, .inl 1]) (rest := []) dX6_known_3 mk_X6_48 (CX.bt (c_isWithin M 1 0 1 (by decide) (by decide) (by decide)) (by omega)) rfl (by decide) rfl (Nat.le_of_ble_eq_true rfl) ?_
  refine X.if_eq (tgt := 17) dX6_known_6 (by decide) (by decide) (fun h => absurd h (by decide)) (fun h1 => ?_)
  refine X.iload_n dX6_known_9 rfl ?_
  refine X.iload_n dX6_known_10 rfl ?_
  by_cases p1 : 0 ≤ c ∧ c ≤ 11 ∧ 0 ≤ r ∧ r ≤ 9
  · skip
    refine X.callS1 (As := [.inl c, .inl r]) (rest := []) dX6_known_11 mk_X6_44 (CX.bt (c_isCell M c r ⟨by omega, by omega⟩ ⟨by omega, by omega⟩) p1) rfl (by decide) rfl (Nat.le_of_ble_eq_true rfl) ?_
    refine X.if_ne (tgt := 20) dX6_known_14 (by decide) (by decide) (fun h2 => ?_) (fun h => absurd h (by decide))
    refine X.iload_n dX6_known_20 rfl ?_
    refine X.iload_n dX6_known_21 rfl ?_
    refine X.callS1 (As := [.inl c, .inl r]) (rest := []) dX6_known_22 mk_X6_52 (c_cellAt M c r) rfl (by decide) rfl (Nat.le_of_ble_eq_true rfl) ?_
    refine X.istore (lv2 := [some (.inr (some 0)), some (.inl 1), some (.inl c), some (.inl r), some (.inl w), some (.inl (r * 12 + c)), none, none]) dX6_known_25 (Nat.le_of_ble_eq_true rfl) rfl ?_
    refine X.aload_n dX6_known_27 rfl ?_
    refine X.getR dX6_known_28 fi_X6_12 sh_0 rfl ?_
    refine X.getR dX6_known_31 fi_X6_177 sh_1 rfl ?_
    refine X.iload_n dX6_known_34 rfl ?_
    refine X.aald dX6_known_35 sh_10 (by decide) (by decide) (by decide) rfl ?_
    refine X.astore (lv2 := [some (.inr (some 0)), some (.inl 1), some (.inl c), some (.inl r), some (.inl w), some (.inl (r * 12 + c)), some (.inr (some 16)), none]) dX6_known_36 (Nat.le_of_ble_eq_true rfl) rfl ?_
    refine X.aload dX6_known_38 rfl ?_
    refine X.getR dX6_known_40 fi_X6_207 sh_16 rfl ?_
    refine X.iload dX6_known_43 rfl ?_
    refine X.iald (v := v 13 (r * 12 + c)) dX6_known_45 sh_17 (by decide) (by omega) (rd_13 hm (by omega)) ?_
    have qm := hS.r13 (r * 12 + c)
    refine X.if_ne (tgt := 53) dX6_known_46 (by decide) ⟨by omega, by omega⟩ (fun h46 => ?_) (fun h46 => ?_)
    · skip
      refine X.iconst dX6_known_53 ?_
      refine X.istore (lv2 := [some (.inr (some 0)), some (.inl 1), some (.inl c), some (.inl r), some (.inl w), some (.inl (r * 12 + c)), some (.inr (some 16)), some (.inl 0)]) dX6_known_54 (Nat.le_of_ble_eq_true rfl) rfl ?_
      refine X.iload dX6_known_56 rfl ?_
      rcases (show w = 0 ∨ w = 1 ∨ w = 2 ∨ w = 3 ∨ w = 4 ∨ (w < 0 ∨ 4 < w) from by omega) with rfl | rfl | rfl | rfl | rfl | hout
      · skip
        refine X.tabIn (tgt := 92) dX6_known_58 (by decide) (by decide) (by decide) rfl (by decide) ?_
        refine X.aload dX6_known_92 rfl ?_
        refine X.getR dX6_known_94 fi_X6_207 sh_16 rfl ?_
        refine X.iload dX6_known_97 rfl ?_
        refine X.iald (v := v 13 (r * 12 + c)) dX6_known_99 sh_17 (by decide) (by omega) (rd_13 hm (by omega)) ?_
        exact X.iret dX6_known_100 rfl (by unfold qKnown; rw [if_pos (by omega), if_pos p1, if_pos (by omega)]; simp) rfl
      · skip
        refine X.tabIn (tgt := 101) dX6_known_58 (by decide) (by decide) (by decide) rfl (by decide) ?_
        refine X.iload dX6_known_101 rfl ?_
        refine X.if_eq (tgt := 111) dX6_known_103 (by decide) (by decide) (fun h3 => ?_) (fun h => absurd h (by decide))
        refine X.aload dX6_known_111 rfl ?_
        refine X.getR dX6_known_113 fi_X6_210 sh_16 rfl ?_
        refine X.iload dX6_known_116 rfl ?_
        refine X.iald (v := v 14 (r * 12 + c)) dX6_known_118 sh_18 (by decide) (by omega) (rd_14 hm (by omega)) ?_
        exact X.iret dX6_known_119 rfl (by unfold qKnown; rw [if_pos (by omega), if_pos p1, if_neg (by omega), if_pos (by omega)]; simp only [show ¬ (1 : Int) = 0 from by decide, if_false]; rw [if_neg h46]) rfl
      · skip
        refine X.tabIn (tgt := 120) dX6_known_58 (by decide) (by decide) (by decide) rfl (by decide) ?_
        refine X.iload dX6_known_120 rfl ?_
        refine X.if_eq (tgt := 130) dX6_known_122 (by decide) (by decide) (fun h4 => ?_) (fun h => absurd h (by decide))
        refine X.aload dX6_known_130 rfl ?_
        refine X.getR dX6_known_132 fi_X6_211 sh_16 rfl ?_
        refine X.iload dX6_known_135 rfl ?_
        refine X.iald (v := v 15 (r * 12 + c)) dX6_known_137 sh_19 (by decide) (by omega) (rd_15 hm (by omega)) ?_
        exact X.iret dX6_known_138 rfl (by unfold qKnown; rw [if_pos (by omega), if_pos p1, if_neg (by omega), if_neg (by omega), if_pos (by omega)]; simp only [show ¬ (1 : Int) = 0 from by decide, if_false]; rw [if_neg h46]) rfl
      · skip
        refine X.tabIn (tgt := 139) dX6_known_58 (by decide) (by decide) (by decide) rfl (by decide) ?_
        refine X.iload dX6_known_139 rfl ?_
        refine X.if_eq (tgt := 149) dX6_known_141 (by decide) (by decide) (fun h5 => ?_) (fun h => absurd h (by decide))
        refine X.aload dX6_known_149 rfl ?_
        refine X.getR dX6_known_151 fi_X6_212 sh_16 rfl ?_
        refine X.iload dX6_known_154 rfl ?_
        refine X.iald (v := v 16 (r * 12 + c)) dX6_known_156 sh_20 (by decide) (by omega) (rd_16 hm (by omega)) ?_
        exact X.iret dX6_known_157 rfl (by unfold qKnown; rw [if_pos (by omega), if_pos p1, if_neg (by omega), if_neg (by omega), if_neg (by omega), if_pos (by omega)]; simp only [show ¬ (1 : Int) = 0 from by decide, if_false]; rw [if_neg h46]) rfl
      · skip
        refine X.tabIn (tgt := 158) dX6_known_58 (by decide) (by decide) (by decide) rfl (by decide) ?_
        refine X.aload_n dX6_known_158 rfl ?_
        refine X.getR dX6_known_159 fi_X6_19 sh_0 rfl ?_
        refine X.iload dX6_known_162 rfl ?_
        refine X.aload_n dX6_known_164 rfl ?_
        refine X.getR dX6_known_165 fi_X6_12 sh_0 rfl ?_
        refine X.iload_n dX6_known_168 rfl ?_
        refine X.callV1 (As := [.inl 1]) (rest := [.inl (r * 12 + c), .inr (some 21)]) dX6_known_169 mk_X6_171 sh_1 (c_scoutsOf M v hv hS 1 (by decide)) rfl (by decide) rfl (Nat.le_of_ble_eq_true rfl) ?_
        by_cases p2 : ∃ z, 0 ≤ z ∧ z < v 0 0 ∧ sees v z (r * 12 + c) ∧ (fun k => v 3 k = 1) z
        · skip
          refine X.callV1 (As := [.inl (r * 12 + c), .inl ((mkN (fun j => v 3 j = 1) (v 0 0).toNat : Nat) : Int)]) (rest := []) dX6_known_172 mk_X6_198 sh_21 (CX.bt (c_isSeen M v hv hS hG (r * 12 + c) (fun k => v 3 k = 1) (by omega)) p2) rfl (by decide) rfl (Nat.le_of_ble_eq_true rfl) ?_
          refine X.if_eq (tgt := 182) dX6_known_175 (by decide) (by decide) (fun h => absurd h (by decide)) (fun h6 => ?_)
          refine X.iconst dX6_known_178 ?_
          refine X.goto (tgt := 183) dX6_known_179 (by decide) ?_
          exact X.iret dX6_known_183 rfl (by unfold qKnown; rw [if_pos (by omega), if_pos p1, if_neg (by omega), if_neg (by omega), if_neg (by omega), if_neg (by omega), if_pos (by omega)]; rw [bi_t (show sSees v 1 (r * 12 + c) from p2)]) rfl
        · skip
          refine X.callV1 (As := [.inl (r * 12 + c), .inl ((mkN (fun j => v 3 j = 1) (v 0 0).toNat : Nat) : Int)]) (rest := []) dX6_known_172 mk_X6_198 sh_21 (CX.bf (c_isSeen M v hv hS hG (r * 12 + c) (fun k => v 3 k = 1) (by omega)) p2) rfl (by decide) rfl (Nat.le_of_ble_eq_true rfl) ?_
          refine X.if_eq (tgt := 182) dX6_known_175 (by decide) (by decide) (fun h7 => ?_) (fun h => absurd h (by decide))
          refine X.iconst dX6_known_182 ?_
          exact X.iret dX6_known_183 rfl (by unfold qKnown; rw [if_pos (by omega), if_pos p1, if_neg (by omega), if_neg (by omega), if_neg (by omega), if_neg (by omega), if_pos (by omega)]; rw [bi_f (show ¬ sSees v 1 (r * 12 + c) from p2)]) rfl
      · skip
        refine X.tabOut (tgt := 184) dX6_known_58 ⟨by omega, by omega⟩ (by omega) (by decide) ?_
        refine X.bipush dX6_known_184 (by decide) ?_
        exact X.iret dX6_known_186 rfl (by unfold qKnown; rw [if_pos (by omega), if_pos p1, if_neg (by omega), if_neg (by omega), if_neg (by omega), if_neg (by omega), if_neg (by omega)]) rfl
    · skip
      refine X.iconst dX6_known_49 ?_
      refine X.goto (tgt := 54) dX6_known_50 (by decide) ?_
      refine X.istore (lv2 := [some (.inr (some 0)), some (.inl 1), some (.inl c), some (.inl r), some (.inl w), some (.inl (r * 12 + c)), some (.inr (some 16)), some (.inl 1)]) dX6_known_54 (Nat.le_of_ble_eq_true rfl) rfl ?_
      refine X.iload dX6_known_56 rfl ?_
      rcases (show w = 0 ∨ w = 1 ∨ w = 2 ∨ w = 3 ∨ w = 4 ∨ (w < 0 ∨ 4 < w) from by omega) with rfl | rfl | rfl | rfl | rfl | hout
      · skip
        refine X.tabIn (tgt := 92) dX6_known_58 (by decide) (by decide) (by decide) rfl (by decide) ?_
        refine X.aload dX6_known_92 rfl ?_
        refine X.getR dX6_known_94 fi_X6_207 sh_16 rfl ?_
        refine X.iload dX6_known_97 rfl ?_
        refine X.iald (v := v 13 (r * 12 + c)) dX6_known_99 sh_17 (by decide) (by omega) (rd_13 hm (by omega)) ?_
        exact X.iret dX6_known_100 rfl (by unfold qKnown; rw [if_pos (by omega), if_pos p1, if_pos (by omega)]; simp) rfl
      · skip
        refine X.tabIn (tgt := 101) dX6_known_58 (by decide) (by decide) (by decide) rfl (by decide) ?_
        refine X.iload dX6_known_101 rfl ?_
        refine X.if_eq (tgt := 111) dX6_known_103 (by decide) (by decide) (fun h => absurd h (by decide)) (fun h8 => ?_)
        refine X.bipush dX6_known_106 (by decide) ?_
        refine X.goto (tgt := 119) dX6_known_108 (by decide) ?_
        exact X.iret dX6_known_119 rfl (by unfold qKnown; rw [if_pos (by omega), if_pos p1, if_neg (by omega), if_pos (by omega)]; simp only [show ¬ (1 : Int) = 0 from by decide, if_false]; rw [if_pos h46]) rfl
      · skip
        refine X.tabIn (tgt := 120) dX6_known_58 (by decide) (by decide) (by decide) rfl (by decide) ?_
        refine X.iload dX6_known_120 rfl ?_
        refine X.if_eq (tgt := 130) dX6_known_122 (by decide) (by decide) (fun h => absurd h (by decide)) (fun h9 => ?_)
        refine X.bipush dX6_known_125 (by decide) ?_
        refine X.goto (tgt := 138) dX6_known_127 (by decide) ?_
        exact X.iret dX6_known_138 rfl (by unfold qKnown; rw [if_pos (by omega), if_pos p1, if_neg (by omega), if_neg (by omega), if_pos (by omega)]; simp only [show ¬ (1 : Int) = 0 from by decide, if_false]; rw [if_pos h46]) rfl
      · skip
        refine X.tabIn (tgt := 139) dX6_known_58 (by decide) (by decide) (by decide) rfl (by decide) ?_
        refine X.iload dX6_known_139 rfl ?_
        refine X.if_eq (tgt := 149) dX6_known_141 (by decide) (by decide) (fun h => absurd h (by decide)) (fun h10 => ?_)
        refine X.bipush dX6_known_144 (by decide) ?_
        refine X.goto (tgt := 157) dX6_known_146 (by decide) ?_
        exact X.iret dX6_known_157 rfl (by unfold qKnown; rw [if_pos (by omega), if_pos p1, if_neg (by omega), if_neg (by omega), if_neg (by omega), if_pos (by omega)]; simp only [show ¬ (1 : Int) = 0 from by decide, if_false]; rw [if_pos h46]) rfl
      · skip
        refine X.tabIn (tgt := 158) dX6_known_58 (by decide) (by decide) (by decide) rfl (by decide) ?_
        refine X.aload_n dX6_known_158 rfl ?_
        refine X.getR dX6_known_159 fi_X6_19 sh_0 rfl ?_
        refine X.iload dX6_known_162 rfl ?_
        refine X.aload_n dX6_known_164 rfl ?_
        refine X.getR dX6_known_165 fi_X6_12 sh_0 rfl ?_
        refine X.iload_n dX6_known_168 rfl ?_
        refine X.callV1 (As := [.inl 1]) (rest := [.inl (r * 12 + c), .inr (some 21)]) dX6_known_169 mk_X6_171 sh_1 (c_scoutsOf M v hv hS 1 (by decide)) rfl (by decide) rfl (Nat.le_of_ble_eq_true rfl) ?_
        by_cases p2 : ∃ z, 0 ≤ z ∧ z < v 0 0 ∧ sees v z (r * 12 + c) ∧ (fun k => v 3 k = 1) z
        · skip
          refine X.callV1 (As := [.inl (r * 12 + c), .inl ((mkN (fun j => v 3 j = 1) (v 0 0).toNat : Nat) : Int)]) (rest := []) dX6_known_172 mk_X6_198 sh_21 (CX.bt (c_isSeen M v hv hS hG (r * 12 + c) (fun k => v 3 k = 1) (by omega)) p2) rfl (by decide) rfl (Nat.le_of_ble_eq_true rfl) ?_
          refine X.if_eq (tgt := 182) dX6_known_175 (by decide) (by decide) (fun h => absurd h (by decide)) (fun h11 => ?_)
          refine X.iconst dX6_known_178 ?_
          refine X.goto (tgt := 183) dX6_known_179 (by decide) ?_
          exact X.iret dX6_known_183 rfl (by unfold qKnown; rw [if_pos (by omega), if_pos p1, if_neg (by omega), if_neg (by omega), if_neg (by omega), if_neg (by omega), if_pos (by omega)]; rw [bi_t (show sSees v 1 (r * 12 + c) from p2)]) rfl
        · skip
          refine X.callV1 (As := [.inl (r * 12 + c), .inl ((mkN (fun j => v 3 j = 1) (v 0 0).toNat : Nat) : Int)]) (rest := []) dX6_known_172 mk_X6_198 sh_21 (CX.bf (c_isSeen M v hv hS hG (r * 12 + c) (fun k => v 3 k = 1) (by omega)) p2) rfl (by decide) rfl (Nat.le_of_ble_eq_true rfl) ?_
          refine X.if_eq (tgt := 182) dX6_known_175 (by decide) (by decide) (fun h12 => ?_) (fun h => absurd h (by decide))
          refine X.iconst dX6_known_182 ?_
          exact X.iret dX6_known_183 rfl (by unfold qKnown; rw [if_pos (by omega), if_pos p1, if_neg (by omega), if_neg (by omega), if_neg (by omega), if_neg (by omega), if_pos (by omega)]; rw [bi_f (show ¬ sSees v 1 (r * 12 + c) from p2)]) rfl
      · skip
        refine X.tabOut (tgt := 184) dX6_known_58 ⟨by omega, by omega⟩ (by omega) (by decide) ?_
        refine X.bipush dX6_known_184 (by decide) ?_
        exact X.iret dX6_known_186 rfl (by unfold qKnown; rw [if_pos (by omega), if_pos p1, if_neg (by omega), if_neg (by omega), if_neg (by omega), if_neg (by omega), if_neg (by omega)]) rfl
  · skip
    refine X.callS1 (As := [.inl c, .inl r]) (rest := []) dX6_known_11 mk_X6_44 (CX.bf (c_isCell M c r ⟨by omega, by omega⟩ ⟨by omega, by omega⟩) p1) rfl (by decide) rfl (Nat.le_of_ble_eq_true rfl) ?_
    refine X.if_ne (tgt := 20) dX6_known_14 (by decide) (by decide) (fun h => absurd h (by decide)) (fun h13 => ?_)
    refine X.bipush dX6_known_17 (by decide) ?_
    exact X.iret dX6_known_19 rfl (by unfold qKnown; rw [if_pos (by omega), if_neg p1]) rfl
set_option maxHeartbeats 4000000 in
set_option maxRecDepth 100000 in
theorem c_known (M : Mem) (v : Vw) (hv : VA M v) (hS : SI v) (hG : SG M v) (hm : VM M v) (s c r w : Int) (hs : inR s) (hc : inR c) (hr : inR r) (hw : inR w) : CX mX6_known 2 [.inr (some 0), .inl s, .inl c, .inl r, .inl w] M (some (.inl (qKnown v s c r w))) M := by
  by_cases h : 0 ≤ s ∧ s ≤ 1
  · have : s = 0 ∨ s = 1 := by omega
    rcases this with rfl | rfl
    · exact c_known_0 M v hv hS hG hm c r w hc hr hw
    · exact c_known_1 M v hv hS hG hm c r w hc hr hw
  · unfold qKnown
    rw [if_neg h]
    refine CX.of (by decide +kernel) (Nat.le_of_ble_eq_true rfl) [some (.inr (some 0)), some (.inl s), some (.inl c), some (.inl r), some (.inl w), none, none, none] rfl ?_
    refine X.iload_n dX6_known_0 rfl ?_
    refine X.iconst dX6_known_1 ?_
    refine X.iconst dX6_known_2 ?_
    refine X.callS1 (As := [.inl s, .inl 0, .inl 1]) (rest := []) dX6_known_3 mk_X6_48 (CX.bf (c_isWithin M s 0 1 hs (by decide) (by decide)) h) rfl (by decide) rfl (Nat.le_of_ble_eq_true rfl) ?_
    refine X.if_eq (tgt := 17) dX6_known_6 (by decide) (by decide) (fun _ => ?_) (fun h => absurd h (by decide))
    refine X.bipush dX6_known_17 (by decide) ?_
    exact X.iret dX6_known_19 rfl rfl rfl
theorem mkN_inj {P Q : Int → Prop} {n : Nat} (h : mkN P n = mkN Q n) : ∀ k : Nat, k < n → (P k ↔ Q k) := by
  intro k hk
  have a := mkN_bit P n k
  have b := mkN_bit Q n k
  rw [h] at a
  have := a.symm.trans b
  constructor
  · intro p; exact (this.mp ⟨hk, p⟩).2
  · intro q; exact (this.mpr ⟨hk, q⟩).2
theorem mask_eq {P Q : Int → Prop} {n : Int} : ((mkN P n.toNat : Nat) : Int) = ((mkN Q n.toNat : Nat) : Int) ↔ ∀ k, 0 ≤ k → k < n → (P k ↔ Q k) := by
  constructor
  · intro e k h1 h2
    have := mkN_inj (show mkN P n.toNat = mkN Q n.toNat by omega) k.toNat (by omega)
    rwa [show ((k.toNat : Nat) : Int) = k by omega] at this
  · intro h
    have := mkN_congr (P := P) (Q := Q) n.toNat (fun k hk => h k (by omega) (by omega))
    omega
theorem alone_iff {v : Vw} {k c : Int} (hk : 0 ≤ k ∧ k < v 0 0) : ((mkN (fun j => sees v j c ∧ v 3 j = v 3 k) (v 0 0).toNat : Nat) : Int) = ((mkN (fun j => j = k) (v 0 0).toNat : Nat) : Int) ↔ (sees v k c ∧ ∀ j, 0 ≤ j → j < v 0 0 → j ≠ k → v 3 j = v 3 k → ¬ sees v j c) := by
  rw [mask_eq]
  constructor
  · intro h
    exact ⟨((h k hk.1 hk.2).mpr rfl).1, fun j h1 h2 hn hs q => hn ((h j h1 h2).mp ⟨q, hs⟩)⟩
  · rintro ⟨h1, h2⟩ j a b
    constructor
    · rintro ⟨q, hs⟩
      by_cases e : j = k
      · exact e
      · exact absurd q (h2 j a b e hs)
    · rintro rfl; exact ⟨h1, rfl⟩
set_option maxHeartbeats 4000000 in
set_option maxRecDepth 100000 in
theorem c_alone (M : Mem) (v : Vw) (hv : VA M v) (hS : SI v) (hG : SG M v) (k : Int) (hk : inR k) : CX mX6_alone 2 [.inr (some 0), .inl k] M (some (.inl (qAlone v k))) M := by
  have n0 := hS.n0
  have n1 := hS.n1
  have n2 := hS.n2
  refine CX.of (by decide +kernel) (Nat.le_of_ble_eq_true rfl) [some (.inr (some 0)), some (.inl k), none, none, none] rfl ?_
  refine X.aload_n dX6_alone_0 rfl ?_
  refine X.iload_n dX6_alone_1 rfl ?_
  by_cases p1 : 0 ≤ k ∧ k ≤ v 0 0 - 1
  · skip
    refine X.callV1 (As := [.inl k]) (rest := []) dX6_alone_2 mk_X6_100 sh_0 (CX.bt (c_isScout M v hv hS k ⟨by omega, by omega⟩) p1) rfl (by decide) rfl (Nat.le_of_ble_eq_true rfl) ?_
    refine X.if_ne (tgt := 11) dX6_alone_5 (by decide) (by decide) (fun h1 => ?_) (fun h => absurd h (by decide))
    refine X.aload_n dX6_alone_11 rfl ?_
    refine X.getR dX6_alone_12 fi_X6_12 sh_0 rfl ?_
    refine X.aload_n dX6_alone_15 rfl ?_
    refine X.getR dX6_alone_16 fi_X6_12 sh_0 rfl ?_
    refine X.getR dX6_alone_19 fi_X6_118 sh_1 rfl ?_
    refine X.iload_n dX6_alone_22 rfl ?_
    have q2 := SI.r3 hS k
    refine X.iald (v := v 3 k) dX6_alone_23 sh_4 (by decide) (by omega) (rd_3 hv (by omega)) ?_
    refine X.callV1 (As := [.inl (v 3 k)]) (rest := []) dX6_alone_24 mk_X6_171 sh_1 (c_scoutsOf M v hv hS (v 3 k) ⟨by omega, by omega⟩) rfl (by decide) rfl (Nat.le_of_ble_eq_true rfl) ?_
    refine X.istore_n (lv2 := [some (.inr (some 0)), some (.inl k), some (.inl ((mkN (fun j => v 3 j = (v 3 k)) (v 0 0).toNat : Nat) : Int)), none, none]) dX6_alone_27 (Nat.le_of_ble_eq_true rfl) rfl ?_
    refine X.iconst dX6_alone_28 ?_
    refine X.istore_n (lv2 := [some (.inr (some 0)), some (.inl k), some (.inl ((mkN (fun j => v 3 j = (v 3 k)) (v 0 0).toNat : Nat) : Int)), some (.inl 0), none]) dX6_alone_29 (Nat.le_of_ble_eq_true rfl) rfl ?_
    refine X.iconst dX6_alone_30 ?_
    refine X.istore (lv2 := [some (.inr (some 0)), some (.inl k), some (.inl ((mkN (fun j => v 3 j = (v 3 k)) (v 0 0).toNat : Nat) : Int)), some (.inl 0), some (.inl 0)]) dX6_alone_31 (Nat.le_of_ble_eq_true rfl) rfl ?_
    have L33 : ∀ c, 0 ≤ c → c ≤ 120 → ∀ acc : Int, VX mX6_alone 2 33 [some (.inr (some 0)), some (.inl k), some (.inl ((mkN (fun j => v 3 j = v 3 k) (v 0 0).toNat : Nat) : Int)), some (.inl acc), some (.inl c)] [] M (some (.inl (acc + cnt (fun c => sees v k c ∧ ∀ j, 0 ≤ j → j < v 0 0 → j ≠ k → v 3 j = v 3 k → ¬ sees v j c) (120 - c).toNat c))) M := by
      refine down_ind 0 120 ?_ ?_
      · skip
        intro acc
        refine X.iload dX6_alone_33 rfl ?_
        refine X.bipush dX6_alone_35 (by decide) ?_
        refine X.icmp_ge (tgt := 68) dX6_alone_37 (by decide) ⟨by omega, by omega⟩ (by decide) (fun h3 => ?_) (fun h => by exfalso; omega)
        refine X.iload_n dX6_alone_68 rfl ?_
        exact X.iret dX6_alone_69 rfl (by rw [cnt_end, Int.add_zero]) rfl
      · intro c hc1 hc2 ihc
        intro acc
        refine X.iload dX6_alone_33 rfl ?_
        refine X.bipush dX6_alone_35 (by decide) ?_
        refine X.icmp_ge (tgt := 68) dX6_alone_37 (by decide) ⟨by omega, by omega⟩ (by decide) (fun h => by exfalso; omega) (fun h4 => ?_)
        refine X.aload_n dX6_alone_40 rfl ?_
        refine X.getR dX6_alone_41 fi_X6_19 sh_0 rfl ?_
        refine X.getR dX6_alone_44 fi_X6_230 sh_21 rfl ?_
        refine X.iload dX6_alone_47 rfl ?_
        refine X.iald (v := M 23 c) dX6_alone_49 sh_23 (by decide) (by omega) rfl ?_
        refine X.iload_n dX6_alone_50 rfl ?_
        refine X.iand (c := ((mkN (fun j => sees v j c ∧ v 3 j = v 3 k) (v 0 0).toNat : Nat) : Int)) dX6_alone_51 (hG.meet hS (fun j => v 3 j = v 3 k) (by omega)) ?_
        refine X.iload_n dX6_alone_52 rfl ?_
        refine X.callS1 (As := [.inl k]) (rest := [.inl ((mkN (fun j => sees v j c ∧ v 3 j = v 3 k) (v 0 0).toNat : Nat) : Int)]) dX6_alone_53 mk_X6_192 (show CX mX6_bitOf 0 [.inl k] M (some (.inl ((mkN (fun j => j = k) (v 0 0).toNat : Nat) : Int))) M from by rw [← mask_one (n := v 0 0) (by omega) (by omega)]; exact c_bitOf M k) rfl (by decide) rfl (Nat.le_of_ble_eq_true rfl) ?_
        refine X.icmp_ne (tgt := 62) dX6_alone_56 (by decide) (mask_inR n0.2) (mask_inR n0.2) (fun h56 => ?_) (fun h56 => ?_)
        · skip
          refine X.iinc (y := c + 1) (lv2 := [some (.inr (some 0)), some (.inl k), some (.inl ((mkN (fun j => v 3 j = v 3 k) (v 0 0).toNat : Nat) : Int)), some (.inl acc), some (.inl (c + 1))]) dX6_alone_62 rfl rfl rfl ?_
          refine X.goto (tgt := 33) dX6_alone_65 (by decide) ?_
          rw [cnt_step _ _ _ hc2, bi_f (fun q => h56 ((alone_iff (by omega)).mpr q)), Int.zero_add]
          exact ihc acc
        · skip
          refine X.iinc (y := acc + 1) (lv2 := [some (.inr (some 0)), some (.inl k), some (.inl ((mkN (fun j => v 3 j = v 3 k) (v 0 0).toNat : Nat) : Int)), some (.inl (acc + 1)), some (.inl c)]) dX6_alone_59 rfl rfl rfl ?_
          refine X.iinc (y := c + 1) (lv2 := [some (.inr (some 0)), some (.inl k), some (.inl ((mkN (fun j => v 3 j = v 3 k) (v 0 0).toNat : Nat) : Int)), some (.inl (acc + 1)), some (.inl (c + 1))]) dX6_alone_62 rfl rfl rfl ?_
          refine X.goto (tgt := 33) dX6_alone_65 (by decide) ?_
          rw [cnt_step _ _ _ hc2, bi_t ((alone_iff (by omega)).mp h56), ← Int.add_assoc]
          exact ihc (acc + 1)
    have e := L33 0 (by omega) (by omega) 0
    rw [Int.zero_add, Int.sub_zero] at e
    unfold qAlone
    rw [if_pos p1]
    exact e
  · skip
    refine X.callV1 (As := [.inl k]) (rest := []) dX6_alone_2 mk_X6_100 sh_0 (CX.bf (c_isScout M v hv hS k ⟨by omega, by omega⟩) p1) rfl (by decide) rfl (Nat.le_of_ble_eq_true rfl) ?_
    refine X.if_ne (tgt := 11) dX6_alone_5 (by decide) (by decide) (fun h => absurd h (by decide)) (fun h5 => ?_)
    refine X.bipush dX6_alone_8 (by decide) ?_
    exact X.iret dX6_alone_10 rfl (by unfold qAlone; rw [if_neg p1]) rfl
