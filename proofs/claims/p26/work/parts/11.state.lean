set_option maxHeartbeats 4000000 in
set_option maxRecDepth 100000 in
theorem c_scoutIn (M : Mem) (v : Vw) (hv : VA M v) (hS : SI v) (c : Int) (hc : inR c) : CX mX3_scoutIn 0 [.inr (some 1), .inl c] M (some (.inl (sIn v c))) M := by
  have n0 := hS.n0
  have n1 := hS.n1
  have n2 := hS.n2
  refine CX.of (by decide +kernel) (Nat.le_of_ble_eq_true rfl) [some (.inr (some 1)), some (.inl c), none] rfl ?_
  refine X.iconst dX3_scoutIn_0 ?_
  refine X.istore_n (lv2 := [some (.inr (some 1)), some (.inl c), some (.inl 0)]) dX3_scoutIn_1 (Nat.le_of_ble_eq_true rfl) rfl ?_
  have L2 : ∀ k, 0 ≤ k → k ≤ (v 0 0) → VX mX3_scoutIn 0 2 [some (.inr (some 1)), some (.inl c), some (.inl k)] [] M (some (.inl (fst1 (fun k => v 4 k = c) (v 0 0 - k).toNat k))) M := by
    refine down_ind 0 (v 0 0) ?_ ?_
    · skip
      refine X.iload_n dX3_scoutIn_2 rfl ?_
      refine X.aload_n dX3_scoutIn_3 rfl ?_
      refine X.getI (v := v 0 0) 2 dX3_scoutIn_4 fi_X3_18 sh_1 rfl (rd_0_0 hv) ?_
      refine X.icmp_ge (tgt := 28) dX3_scoutIn_7 (by decide) ⟨by omega, by omega⟩ ⟨by omega, by omega⟩ (fun h1 => ?_) (fun h => by exfalso; omega)
      refine X.bipush dX3_scoutIn_28 (by decide) ?_
      exact X.iret dX3_scoutIn_30 rfl (by rw [fst1_end]) rfl
    · intro k hk1 hk2 ihk
      refine X.iload_n dX3_scoutIn_2 rfl ?_
      refine X.aload_n dX3_scoutIn_3 rfl ?_
      refine X.getI (v := v 0 0) 2 dX3_scoutIn_4 fi_X3_18 sh_1 rfl (rd_0_0 hv) ?_
      refine X.icmp_ge (tgt := 28) dX3_scoutIn_7 (by decide) ⟨by omega, by omega⟩ ⟨by omega, by omega⟩ (fun h => by exfalso; omega) (fun h2 => ?_)
      refine X.aload_n dX3_scoutIn_10 rfl ?_
      refine X.getR dX3_scoutIn_11 fi_X3_25 sh_1 rfl ?_
      refine X.iload_n dX3_scoutIn_14 rfl ?_
      have q3 := SI.r4 hS k
      refine X.iald (v := v 4 k) dX3_scoutIn_15 sh_5 (by decide) (by omega) (rd_4 hv (by omega)) ?_
      refine X.iload_n dX3_scoutIn_16 rfl ?_
      refine X.icmp_ne (tgt := 22) dX3_scoutIn_17 (by decide) ⟨by omega, by omega⟩ hc (fun h17 => ?_) (fun h17 => ?_)
      · skip
        refine X.iinc (y := k + 1) (lv2 := [some (.inr (some 1)), some (.inl c), some (.inl (k + 1))]) dX3_scoutIn_22 rfl rfl rfl ?_
        refine X.goto (tgt := 2) dX3_scoutIn_25 (by decide) ?_
        rw [fst1_f hk2 h17]
        exact ihk
      · skip
        refine X.iload_n dX3_scoutIn_20 rfl ?_
        exact X.iret dX3_scoutIn_21 rfl (by rw [fst1_t hk2 h17]) rfl
  have e := L2 0 (by omega) (by omega)
  rw [Int.sub_zero] at e
  exact e
set_option maxHeartbeats 4000000 in
set_option maxRecDepth 100000 in
theorem c_isFree (M : Mem) (v : Vw) (hv : VA M v) (hS : SI v) (c : Int) (hc : 0 ≤ c ∧ c < 120) : CX mX3_isFree 1 [.inr (some 1), .inl c] M (some (.inl (bi (v 2 c = 0 ∧ sIn v c = -19)))) M := by
  have n0 := hS.n0
  have n1 := hS.n1
  have n2 := hS.n2
  have hi := sIn_range hS c
  refine CX.of (by decide +kernel) (Nat.le_of_ble_eq_true rfl) [some (.inr (some 1)), some (.inl c)] rfl ?_
  refine X.aload_n dX3_isFree_0 rfl ?_
  refine X.getR dX3_isFree_1 fi_X3_15 sh_1 rfl ?_
  refine X.iload_n dX3_isFree_4 rfl ?_
  have q1 := SI.r2 hS c
  refine X.iald (v := v 2 c) dX3_isFree_5 sh_3 (by decide) (by omega) (rd_2 hv (by omega)) ?_
  refine X.if_ne (tgt := 23) dX3_isFree_6 (by decide) ⟨by omega, by omega⟩ (fun h2 => ?_) (fun h2 => ?_)
  · skip
    refine X.iconst dX3_isFree_23 ?_
    exact X.zret dX3_isFree_24 rfl (by decide) (by rw [bi_f (by omega)]) rfl
  · skip
    refine X.aload_n dX3_isFree_9 rfl ?_
    refine X.iload_n dX3_isFree_10 rfl ?_
    refine X.callV1 (As := [.inl c]) (rest := []) dX3_isFree_11 mk_X3_64 sh_1 (c_scoutIn M v hv hS c ⟨by omega, by omega⟩) rfl (by decide) rfl (Nat.le_of_ble_eq_true rfl) ?_
    refine X.bipush dX3_isFree_14 (by decide) ?_
    refine X.icmp_ne (tgt := 23) dX3_isFree_16 (by decide) ⟨by omega, by omega⟩ (by decide) (fun h3 => ?_) (fun h3 => ?_)
    · skip
      refine X.iconst dX3_isFree_23 ?_
      exact X.zret dX3_isFree_24 rfl (by decide) (by rw [bi_f (by omega)]) rfl
    · skip
      refine X.iconst dX3_isFree_19 ?_
      refine X.goto (tgt := 24) dX3_isFree_20 (by decide) ?_
      exact X.zret dX3_isFree_24 rfl (by decide) (by rw [bi_t (by omega)]) rfl
set_option maxHeartbeats 4000000 in
set_option maxRecDepth 100000 in
theorem c_scoutsOf (M : Mem) (v : Vw) (hv : VA M v) (hS : SI v) (s : Int) (hs : inR s) : CX mX3_scoutsOf 1 [.inr (some 1), .inl s] M (some (.inl ((mkN (fun k => v 3 k = s) (v 0 0).toNat : Nat) : Int))) M := by
  have n0 := hS.n0
  have n1 := hS.n1
  have n2 := hS.n2
  refine CX.of (by decide +kernel) (Nat.le_of_ble_eq_true rfl) [some (.inr (some 1)), some (.inl s), none, none] rfl ?_
  refine X.iconst dX3_scoutsOf_0 ?_
  refine X.istore_n (lv2 := [some (.inr (some 1)), some (.inl s), some (.inl 0), none]) dX3_scoutsOf_1 (Nat.le_of_ble_eq_true rfl) rfl ?_
  refine X.iconst dX3_scoutsOf_2 ?_
  refine X.istore_n (lv2 := [some (.inr (some 1)), some (.inl s), some (.inl 0), some (.inl 0)]) dX3_scoutsOf_3 (Nat.le_of_ble_eq_true rfl) rfl ?_
  have L4 : ∀ k, 0 ≤ k → k ≤ (v 0 0) → VX mX3_scoutsOf 1 4 [some (.inr (some 1)), some (.inl s), some (.inl ((mkN (fun k => v 3 k = s) k.toNat : Nat) : Int)), some (.inl k)] [] M (some (.inl ((mkN (fun k => v 3 k = s) (v 0 0).toNat : Nat) : Int))) M := by
    refine down_ind 0 (v 0 0) ?_ ?_
    · skip
      refine X.iload_n dX3_scoutsOf_4 rfl ?_
      refine X.aload_n dX3_scoutsOf_5 rfl ?_
      refine X.getI (v := v 0 0) 2 dX3_scoutsOf_6 fi_X3_18 sh_1 rfl (rd_0_0 hv) ?_
      refine X.icmp_ge (tgt := 35) dX3_scoutsOf_9 (by decide) ⟨by omega, by omega⟩ ⟨by omega, by omega⟩ (fun h1 => ?_) (fun h => by exfalso; omega)
      refine X.iload_n dX3_scoutsOf_35 rfl ?_
      exact X.iret dX3_scoutsOf_36 rfl rfl rfl
    · intro k hk1 hk2 ihk
      refine X.iload_n dX3_scoutsOf_4 rfl ?_
      refine X.aload_n dX3_scoutsOf_5 rfl ?_
      refine X.getI (v := v 0 0) 2 dX3_scoutsOf_6 fi_X3_18 sh_1 rfl (rd_0_0 hv) ?_
      refine X.icmp_ge (tgt := 35) dX3_scoutsOf_9 (by decide) ⟨by omega, by omega⟩ ⟨by omega, by omega⟩ (fun h => by exfalso; omega) (fun h2 => ?_)
      refine X.aload_n dX3_scoutsOf_12 rfl ?_
      refine X.getR dX3_scoutsOf_13 fi_X3_22 sh_1 rfl ?_
      refine X.iload_n dX3_scoutsOf_16 rfl ?_
      have q3 := SI.r3 hS k
      refine X.iald (v := v 3 k) dX3_scoutsOf_17 sh_4 (by decide) (by omega) (rd_3 hv (by omega)) ?_
      refine X.iload_n dX3_scoutsOf_18 rfl ?_
      refine X.icmp_ne (tgt := 29) dX3_scoutsOf_19 (by decide) ⟨by omega, by omega⟩ hs (fun h19 => ?_) (fun h19 => ?_)
      · skip
        refine X.iinc (y := k + 1) (lv2 := [some (.inr (some 1)), some (.inl s), some (.inl ((mkN (fun k => v 3 k = s) k.toNat : Nat) : Int)), some (.inl (k + 1))]) dX3_scoutsOf_29 rfl rfl rfl ?_
        refine X.goto (tgt := 4) dX3_scoutsOf_32 (by decide) ?_
        rw [mkN_no (P := fun k => v 3 k = s) (by omega) h19] at ihk
        exact ihk
      · skip
        refine X.iload_n dX3_scoutsOf_22 rfl ?_
        refine X.iload_n dX3_scoutsOf_23 rfl ?_
        refine X.callN1 (As := [.inl k]) (rest := [.inl ((mkN (fun k => v 3 k = s) k.toNat : Nat) : Int)]) dX3_scoutsOf_24 mk_X3_68 (c_bitOf M k) rfl (by decide) rfl (Nat.le_of_ble_eq_true rfl) ?_
        refine X.ior (c := ((mkN (fun k => v 3 k = s) (k + 1).toNat : Nat) : Int)) dX3_scoutsOf_27 (mkN_or (P := fun k => v 3 k = s) (by omega) h19) ?_
        refine X.istore_n (lv2 := [some (.inr (some 1)), some (.inl s), some (.inl ((mkN (fun k => v 3 k = s) (k + 1).toNat : Nat) : Int)), some (.inl k)]) dX3_scoutsOf_28 (Nat.le_of_ble_eq_true rfl) rfl ?_
        refine X.iinc (y := k + 1) (lv2 := [some (.inr (some 1)), some (.inl s), some (.inl ((mkN (fun k => v 3 k = s) (k + 1).toNat : Nat) : Int)), some (.inl (k + 1))]) dX3_scoutsOf_29 rfl rfl rfl ?_
        refine X.goto (tgt := 4) dX3_scoutsOf_32 (by decide) ?_
        exact ihk
  exact L4 0 (by omega) (by omega)
set_option maxHeartbeats 4000000 in
set_option maxRecDepth 100000 in
theorem c_countBurning (M : Mem) (v : Vw) (hv : VA M v) (hS : SI v) : CX mX3_countBurning 0 [.inr (some 1)] M (some (.inl (cnt (fun k => 0 < v 8 k) (v 0 1).toNat 0))) M := by
  have n0 := hS.n0
  have n1 := hS.n1
  have n2 := hS.n2
  refine CX.of (by decide +kernel) (Nat.le_of_ble_eq_true rfl) [some (.inr (some 1)), none, none] rfl ?_
  refine X.iconst dX3_countBurning_0 ?_
  refine X.istore_n (lv2 := [some (.inr (some 1)), some (.inl 0), none]) dX3_countBurning_1 (Nat.le_of_ble_eq_true rfl) rfl ?_
  refine X.iconst dX3_countBurning_2 ?_
  refine X.istore_n (lv2 := [some (.inr (some 1)), some (.inl 0), some (.inl 0)]) dX3_countBurning_3 (Nat.le_of_ble_eq_true rfl) rfl ?_
  have L4 : ∀ k, 0 ≤ k → k ≤ (v 0 1) → ∀ acc : Int, VX mX3_countBurning 0 4 [some (.inr (some 1)), some (.inl acc), some (.inl k)] [] M (some (.inl (acc + cnt (fun k => 0 < v 8 k) (v 0 1 - k).toNat k))) M := by
    refine down_ind 0 (v 0 1) ?_ ?_
    · skip
      intro acc
      refine X.iload_n dX3_countBurning_4 rfl ?_
      refine X.aload_n dX3_countBurning_5 rfl ?_
      refine X.getI (v := v 0 1) 6 dX3_countBurning_6 fi_X3_31 sh_1 rfl (rd_0_1 hv) ?_
      refine X.icmp_ge (tgt := 30) dX3_countBurning_9 (by decide) ⟨by omega, by omega⟩ ⟨by omega, by omega⟩ (fun h1 => ?_) (fun h => by exfalso; omega)
      refine X.iload_n dX3_countBurning_30 rfl ?_
      exact X.iret dX3_countBurning_31 rfl (by rw [cnt_end, Int.add_zero]) rfl
    · intro k hk1 hk2 ihk
      intro acc
      refine X.iload_n dX3_countBurning_4 rfl ?_
      refine X.aload_n dX3_countBurning_5 rfl ?_
      refine X.getI (v := v 0 1) 6 dX3_countBurning_6 fi_X3_31 sh_1 rfl (rd_0_1 hv) ?_
      refine X.icmp_ge (tgt := 30) dX3_countBurning_9 (by decide) ⟨by omega, by omega⟩ ⟨by omega, by omega⟩ (fun h => by exfalso; omega) (fun h2 => ?_)
      refine X.aload_n dX3_countBurning_12 rfl ?_
      refine X.getR dX3_countBurning_13 fi_X3_40 sh_1 rfl ?_
      refine X.iload_n dX3_countBurning_16 rfl ?_
      have q3 := SI.r8 hS k
      refine X.iald (v := v 8 k) dX3_countBurning_17 sh_9 (by decide) (by omega) (rd_8 hv (by omega)) ?_
      refine X.if_le (tgt := 24) dX3_countBurning_18 (by decide) ⟨by omega, by omega⟩ (fun h18 => ?_) (fun h18 => ?_)
      · skip
        have h18 : ¬ 0 < v 8 k := by omega
        refine X.iinc (y := k + 1) (lv2 := [some (.inr (some 1)), some (.inl acc), some (.inl (k + 1))]) dX3_countBurning_24 rfl rfl rfl ?_
        refine X.goto (tgt := 4) dX3_countBurning_27 (by decide) ?_
        rw [cnt_step _ _ _ hk2, bi_f h18, Int.zero_add]
        exact ihk acc
      · skip
        refine X.iinc (y := acc + 1) (lv2 := [some (.inr (some 1)), some (.inl (acc + 1)), some (.inl k)]) dX3_countBurning_21 rfl rfl rfl ?_
        refine X.iinc (y := k + 1) (lv2 := [some (.inr (some 1)), some (.inl (acc + 1)), some (.inl (k + 1))]) dX3_countBurning_24 rfl rfl rfl ?_
        refine X.goto (tgt := 4) dX3_countBurning_27 (by decide) ?_
        rw [cnt_step _ _ _ hk2, bi_t h18, ← Int.add_assoc]
        exact ihk (acc + 1)
  have e := L4 0 (by omega) (by omega) 0
  rw [Int.zero_add, Int.sub_zero] at e
  exact e
set_option maxHeartbeats 4000000 in
set_option maxRecDepth 100000 in
theorem c_isLit (M : Mem) (v : Vw) (hv : VA M v) (hS : SI v) (c : Int) (hc : 0 ≤ c ∧ c < 120) : CX mX3_isLit 2 [.inr (some 1), .inl c] M (some (.inl (bi (lit v c)))) M := by
  have n0 := hS.n0
  have n1 := hS.n1
  have n2 := hS.n2
  refine CX.of (by decide +kernel) (Nat.le_of_ble_eq_true rfl) [some (.inr (some 1)), some (.inl c), none] rfl ?_
  refine X.iconst dX3_isLit_0 ?_
  refine X.istore_n (lv2 := [some (.inr (some 1)), some (.inl c), some (.inl 0)]) dX3_isLit_1 (Nat.le_of_ble_eq_true rfl) rfl ?_
  have L2 : ∀ k, 0 ≤ k → k ≤ (v 0 1) → VX mX3_isLit 2 2 [some (.inr (some 1)), some (.inl c), some (.inl k)] [] M (some (.inl (bi (exU (fun k => 0 < v 8 k ∧ dist (v 6 k) c ≤ v 7 k) k (v 0 1))))) M := by
    refine down_ind 0 (v 0 1) ?_ ?_
    · skip
      refine X.iload_n dX3_isLit_2 rfl ?_
      refine X.aload_n dX3_isLit_3 rfl ?_
      refine X.getI (v := v 0 1) 6 dX3_isLit_4 fi_X3_31 sh_1 rfl (rd_0_1 hv) ?_
      refine X.icmp_ge (tgt := 46) dX3_isLit_7 (by decide) ⟨by omega, by omega⟩ ⟨by omega, by omega⟩ (fun h1 => ?_) (fun h => by exfalso; omega)
      refine X.iconst dX3_isLit_46 ?_
      exact X.zret dX3_isLit_47 rfl (by decide) (by rw [bi_f (exU_end (Int.le_refl _))]) rfl
    · intro k hk1 hk2 ihk
      refine X.iload_n dX3_isLit_2 rfl ?_
      refine X.aload_n dX3_isLit_3 rfl ?_
      refine X.getI (v := v 0 1) 6 dX3_isLit_4 fi_X3_31 sh_1 rfl (rd_0_1 hv) ?_
      refine X.icmp_ge (tgt := 46) dX3_isLit_7 (by decide) ⟨by omega, by omega⟩ ⟨by omega, by omega⟩ (fun h => by exfalso; omega) (fun h2 => ?_)
      refine X.aload_n dX3_isLit_10 rfl ?_
      refine X.getR dX3_isLit_11 fi_X3_40 sh_1 rfl ?_
      refine X.iload_n dX3_isLit_14 rfl ?_
      have q3 := SI.r8 hS k
      refine X.iald (v := v 8 k) dX3_isLit_15 sh_9 (by decide) (by omega) (rd_8 hv (by omega)) ?_
      refine X.if_le (tgt := 40) dX3_isLit_16 (by decide) ⟨by omega, by omega⟩ (fun h4 => ?_) (fun h4 => ?_)
      · skip
        refine X.iinc (y := k + 1) (lv2 := [some (.inr (some 1)), some (.inl c), some (.inl (k + 1))]) dX3_isLit_40 rfl rfl rfl ?_
        refine X.goto (tgt := 2) dX3_isLit_43 (by decide) ?_
        rw [exU_f (by omega)]
        exact ihk
      · skip
        refine X.aload_n dX3_isLit_19 rfl ?_
        refine X.getR dX3_isLit_20 fi_X3_34 sh_1 rfl ?_
        refine X.iload_n dX3_isLit_23 rfl ?_
        have q5 := SI.r6 hS k
        refine X.iald (v := v 6 k) dX3_isLit_24 sh_7 (by decide) (by omega) (rd_6 hv (by omega)) ?_
        refine X.iload_n dX3_isLit_25 rfl ?_
        have hd := dist_le (hS.r6 k) hc
        refine X.callN1 (As := [.inl (v 6 k), .inl c]) (rest := []) dX3_isLit_26 mk_X3_79 (c_distanceOf M (v 6 k) c (by omega) (by omega)) rfl (by decide) rfl (Nat.le_of_ble_eq_true rfl) ?_
        refine X.aload_n dX3_isLit_29 rfl ?_
        refine X.getR dX3_isLit_30 fi_X3_37 sh_1 rfl ?_
        refine X.iload_n dX3_isLit_33 rfl ?_
        have q6 := SI.r7 hS k
        refine X.iald (v := v 7 k) dX3_isLit_34 sh_8 (by decide) (by omega) (rd_7 hv (by omega)) ?_
        refine X.icmp_gt (tgt := 40) dX3_isLit_35 (by decide) ⟨by omega, by omega⟩ ⟨by omega, by omega⟩ (fun h7 => ?_) (fun h7 => ?_)
        · skip
          refine X.iinc (y := k + 1) (lv2 := [some (.inr (some 1)), some (.inl c), some (.inl (k + 1))]) dX3_isLit_40 rfl rfl rfl ?_
          refine X.goto (tgt := 2) dX3_isLit_43 (by decide) ?_
          rw [exU_f (by omega)]
          exact ihk
        · skip
          refine X.iconst dX3_isLit_38 ?_
          exact X.zret dX3_isLit_39 rfl (by decide) (by rw [bi_t (exU_t hk2 ⟨by omega, by omega⟩)]) rfl
  exact L2 0 (by omega) (by omega)
set_option maxHeartbeats 4000000 in
set_option maxRecDepth 100000 in
theorem c_isViewFree (M : Mem) (v : Vw) (hv : VA M v) (hS : SI v) (a b : Int) (ha : 0 ≤ a ∧ a < 120) (hb : 0 ≤ b ∧ b < 120) : CX mX2_isViewFree 3 [.inr (some 1), .inl a, .inl b] M (some (.inl (bi (free v a b)))) M := by
  have n0 := hS.n0
  have n1 := hS.n1
  have n2 := hS.n2
  have hd := dist_le ha hb
  refine CX.of (by decide +kernel) (Nat.le_of_ble_eq_true rfl) [some (.inr (some 1)), some (.inl a), some (.inl b), none, none, none, none, none, none, none] rfl ?_
  refine X.iload_n dX2_isViewFree_0 rfl ?_
  refine X.iload_n dX2_isViewFree_1 rfl ?_
  refine X.callN1 (As := [.inl a, .inl b]) (rest := []) dX2_isViewFree_2 mk_X2_42 (c_distanceOf M a b (by omega) (by omega)) rfl (by decide) rfl (Nat.le_of_ble_eq_true rfl) ?_
  refine X.istore_n (lv2 := [some (.inr (some 1)), some (.inl a), some (.inl b), some (.inl (dist a b)), none, none, none, none, none, none]) dX2_isViewFree_5 (Nat.le_of_ble_eq_true rfl) rfl ?_
  refine X.iconst dX2_isViewFree_6 ?_
  refine X.aload_n dX2_isViewFree_7 rfl ?_
  refine X.getR dX2_isViewFree_8 fi_X2_54 sh_1 rfl ?_
  refine X.iload_n dX2_isViewFree_11 rfl ?_
  have q1 := SI.r1 hS a
  refine X.iald (v := v 1 a) dX2_isViewFree_12 sh_2 (by decide) (by omega) (rd_1 hv (by omega)) ?_
  refine X.imul (c := 2 * (v 1 a)) dX2_isViewFree_13 rfl ?_
  refine X.iconst dX2_isViewFree_14 ?_
  refine X.iadd (c := (2 * (v 1 a)) + 1) dX2_isViewFree_15 rfl ?_
  refine X.istore (lv2 := [some (.inr (some 1)), some (.inl a), some (.inl b), some (.inl (dist a b)), some (.inl ((2 * (v 1 a)) + 1)), none, none, none, none, none]) dX2_isViewFree_16 (Nat.le_of_ble_eq_true rfl) rfl ?_
  refine X.iconst dX2_isViewFree_18 ?_
  refine X.aload_n dX2_isViewFree_19 rfl ?_
  refine X.getR dX2_isViewFree_20 fi_X2_54 sh_1 rfl ?_
  refine X.iload_n dX2_isViewFree_23 rfl ?_
  have q2 := SI.r1 hS b
  refine X.iald (v := v 1 b) dX2_isViewFree_24 sh_2 (by decide) (by omega) (rd_1 hv (by omega)) ?_
  refine X.imul (c := 2 * (v 1 b)) dX2_isViewFree_25 rfl ?_
  refine X.iconst dX2_isViewFree_26 ?_
  refine X.iadd (c := (2 * (v 1 b)) + 1) dX2_isViewFree_27 rfl ?_
  refine X.istore (lv2 := [some (.inr (some 1)), some (.inl a), some (.inl b), some (.inl (dist a b)), some (.inl ((2 * (v 1 a)) + 1)), some (.inl ((2 * (v 1 b)) + 1)), none, none, none, none]) dX2_isViewFree_28 (Nat.le_of_ble_eq_true rfl) rfl ?_
  refine X.iconst dX2_isViewFree_30 ?_
  refine X.istore (lv2 := [some (.inr (some 1)), some (.inl a), some (.inl b), some (.inl (dist a b)), some (.inl ((2 * (v 1 a)) + 1)), some (.inl ((2 * (v 1 b)) + 1)), some (.inl 1), none, none, none]) dX2_isViewFree_31 (Nat.le_of_ble_eq_true rfl) rfl ?_
  have L33 : ∀ i, 1 ≤ i → i ≤ (imax 1 (dist a b)) → ∀ x7 : Option AV, ∀ x8 : Option AV, ∀ x9 : Option AV, VX mX2_isViewFree 3 33 [some (.inr (some 1)), some (.inl a), some (.inl b), some (.inl (dist a b)), some (.inl ((2 * v 1 a) + 1)), some (.inl ((2 * v 1 b) + 1)), some (.inl i), x7, x8, x9] [] M (some (.inl (bi (allU (okAt v a b) i (dist a b))))) M := by
    refine down_ind 1 (imax 1 (dist a b)) ?_ ?_
    · skip
      intro x7 x8 x9
      have hm := imax_r (a := 1) (b := dist a b)
      refine X.iload dX2_isViewFree_33 rfl ?_
      refine X.iload_n dX2_isViewFree_35 rfl ?_
      refine X.icmp_ge (tgt := 103) dX2_isViewFree_36 (by decide) ⟨by omega, by omega⟩ ⟨by omega, by omega⟩ (fun h3 => ?_) (fun h => by exfalso; omega)
      refine X.iconst dX2_isViewFree_103 ?_
      exact X.zret dX2_isViewFree_104 rfl (by decide) (by rw [bi_t (allU_end (by omega))]) rfl
    · intro i hi1 hi2 ihi
      intro x7 x8 x9
      have hm := imax_r (a := 1) (b := dist a b)
      have hid : i < dist a b := by omega
      have hic := inner_cell ha hb hi1 hid
      refine X.iload dX2_isViewFree_33 rfl ?_
      refine X.iload_n dX2_isViewFree_35 rfl ?_
      refine X.icmp_ge (tgt := 103) dX2_isViewFree_36 (by decide) ⟨by omega, by omega⟩ ⟨by omega, by omega⟩ (fun h => by exfalso; omega) (fun h4 => ?_)
      refine X.iload_n dX2_isViewFree_39 rfl ?_
      refine X.iload_n dX2_isViewFree_40 rfl ?_
      refine X.iload_n dX2_isViewFree_41 rfl ?_
      refine X.iload dX2_isViewFree_42 rfl ?_
      refine X.callS1 (As := [.inl a, .inl b, .inl (dist a b), .inl i]) (rest := []) dX2_isViewFree_44 mk_X2_57 (c_innerCell M a b (dist a b) i (by omega) (by omega) (by omega) (by omega)) rfl (by decide) rfl (Nat.le_of_ble_eq_true rfl) ?_
      refine X.istore (lv2 := [some (.inr (some 1)), some (.inl a), some (.inl b), some (.inl (dist a b)), some (.inl ((2 * v 1 a) + 1)), some (.inl ((2 * v 1 b) + 1)), some (.inl i), some (.inl (inner a b (dist a b) i)), x8, x9]) dX2_isViewFree_47 (Nat.le_of_ble_eq_true rfl) rfl ?_
      refine X.iconst dX2_isViewFree_49 ?_
      refine X.aload_n dX2_isViewFree_50 rfl ?_
      refine X.getR dX2_isViewFree_51 fi_X2_54 sh_1 rfl ?_
      refine X.iload dX2_isViewFree_54 rfl ?_
      have q5 := SI.r1 hS (inner a b (dist a b) i)
      refine X.iald (v := v 1 (inner a b (dist a b) i)) dX2_isViewFree_56 sh_2 (by decide) (by omega) (rd_1 hv (by omega)) ?_
      refine X.imul (c := 2 * (v 1 (inner a b (dist a b) i))) dX2_isViewFree_57 rfl ?_
      refine X.bipush dX2_isViewFree_58 (by decide) ?_
      refine X.aload_n dX2_isViewFree_60 rfl ?_
      refine X.getR dX2_isViewFree_61 fi_X2_61 sh_1 rfl ?_
      refine X.iload dX2_isViewFree_64 rfl ?_
      have q6 := SI.r2 hS (inner a b (dist a b) i)
      refine X.iald (v := v 2 (inner a b (dist a b) i)) dX2_isViewFree_66 sh_3 (by decide) (by omega) (rd_2 hv (by omega)) ?_
      refine X.imul (c := 100 * (v 2 (inner a b (dist a b) i))) dX2_isViewFree_67 rfl ?_
      refine X.iadd (c := (2 * (v 1 (inner a b (dist a b) i))) + (100 * (v 2 (inner a b (dist a b) i)))) dX2_isViewFree_68 rfl ?_
      refine X.istore (lv2 := [some (.inr (some 1)), some (.inl a), some (.inl b), some (.inl (dist a b)), some (.inl ((2 * v 1 a) + 1)), some (.inl ((2 * v 1 b) + 1)), some (.inl i), some (.inl (inner a b (dist a b) i)), some (.inl ((2 * (v 1 (inner a b (dist a b) i))) + (100 * (v 2 (inner a b (dist a b) i))))), x9]) dX2_isViewFree_69 (Nat.le_of_ble_eq_true rfl) rfl ?_
      refine X.iload dX2_isViewFree_71 rfl ?_
      refine X.iload_n dX2_isViewFree_73 rfl ?_
      refine X.iload dX2_isViewFree_74 rfl ?_
      refine X.isub (c := (dist a b) - i) dX2_isViewFree_76 rfl ?_
      have hA := hS.r1 a
      have hB := hS.r1 b
      have m1 := mulb (a := 2 * v 1 a + 1) (b := dist a b - i) (n := 19) (by omega) (by omega) (by omega) (by omega)
      have m2 := mulb (a := 2 * v 1 b + 1) (b := i) (n := 19) (by omega) (by omega) (by omega) (by omega)
      refine X.imul (c := ((2 * v 1 a) + 1) * ((dist a b) - i)) dX2_isViewFree_77 rfl ?_
      refine X.iload dX2_isViewFree_78 rfl ?_
      refine X.iload dX2_isViewFree_80 rfl ?_
      refine X.imul (c := ((2 * v 1 b) + 1) * i) dX2_isViewFree_82 rfl ?_
      refine X.iadd (c := (((2 * v 1 a) + 1) * ((dist a b) - i)) + (((2 * v 1 b) + 1) * i)) dX2_isViewFree_83 rfl ?_
      refine X.iload_n dX2_isViewFree_84 rfl ?_
      refine X.idiv (c := ((2 * v 1 a + 1) * (dist a b - i) + (2 * v 1 b + 1) * i) / dist a b) dX2_isViewFree_85 ⟨by omega, by omega⟩ ⟨by omega, by omega⟩ rfl ?_
      refine X.istore (lv2 := [some (.inr (some 1)), some (.inl a), some (.inl b), some (.inl (dist a b)), some (.inl ((2 * v 1 a) + 1)), some (.inl ((2 * v 1 b) + 1)), some (.inl i), some (.inl (inner a b (dist a b) i)), some (.inl ((2 * (v 1 (inner a b (dist a b) i))) + (100 * (v 2 (inner a b (dist a b) i))))), some (.inl (((2 * v 1 a + 1) * (dist a b - i) + (2 * v 1 b + 1) * i) / dist a b))]) dX2_isViewFree_86 (Nat.le_of_ble_eq_true rfl) rfl ?_
      refine X.iload dX2_isViewFree_88 rfl ?_
      refine X.iload dX2_isViewFree_90 rfl ?_
      have hq := Int.ediv_nonneg (a := (2 * v 1 a + 1) * (dist a b - i) + (2 * v 1 b + 1) * i) (b := dist a b) (by omega) (by omega)
      have hq2 := Int.ediv_le_self (dist a b) (a := (2 * v 1 a + 1) * (dist a b - i) + (2 * v 1 b + 1) * i) (by omega)
      have hq3 := hS.r1 (inner a b (dist a b) i)
      have hq4 := hS.r2 (inner a b (dist a b) i)
      refine X.icmp_le (tgt := 97) dX2_isViewFree_92 (by decide) ⟨by omega, by omega⟩ ⟨by omega, by omega⟩ (fun h92 => ?_) (fun h92 => ?_)
      · skip
        refine X.iinc (y := i + 1) (lv2 := [some (.inr (some 1)), some (.inl a), some (.inl b), some (.inl (dist a b)), some (.inl ((2 * v 1 a) + 1)), some (.inl ((2 * v 1 b) + 1)), some (.inl (i + 1)), some (.inl (inner a b (dist a b) i)), some (.inl ((2 * (v 1 (inner a b (dist a b) i))) + (100 * (v 2 (inner a b (dist a b) i))))), some (.inl (((2 * v 1 a + 1) * (dist a b - i) + (2 * v 1 b + 1) * i) / dist a b))]) dX2_isViewFree_97 rfl rfl rfl ?_
        refine X.goto (tgt := 33) dX2_isViewFree_100 (by decide) ?_
        rw [allU_t (show okAt v a b i from h92)]
        exact ihi (some (.inl (inner a b (dist a b) i))) (some (.inl ((2 * (v 1 (inner a b (dist a b) i))) + (100 * (v 2 (inner a b (dist a b) i)))))) (some (.inl (((2 * v 1 a + 1) * (dist a b - i) + (2 * v 1 b + 1) * i) / dist a b)))
      · skip
        refine X.iconst dX2_isViewFree_95 ?_
        exact X.zret dX2_isViewFree_96 rfl (by decide) (by rw [bi_f (allU_f hid (by unfold okAt; omega))]) rfl
  exact L33 1 (by omega) (imax_r).1 none none none
set_option maxHeartbeats 4000000 in
set_option maxRecDepth 100000 in
theorem c_canSee (M : Mem) (v : Vw) (hv : VA M v) (hS : SI v) (a r c : Int) (ha : 0 ≤ a ∧ a < 120) (hr : 0 ≤ r ∧ r ≤ 8) (hc : 0 ≤ c ∧ c < 120) (hl : M 22 c = bi (lit v c)) : CX mX2_canSee 4 [.inr (some 21), .inr (some 1), .inl a, .inl r, .inl c] M (some (.inl (bi (see v a r c)))) M := by
  have n0 := hS.n0
  have n1 := hS.n1
  have n2 := hS.n2
  have hd := dist_le ha hc
  refine CX.of (by decide +kernel) (Nat.le_of_ble_eq_true rfl) [some (.inr (some 21)), some (.inr (some 1)), some (.inl a), some (.inl r), some (.inl c), none] rfl ?_
  by_cases hli : lit v c
  · skip
    refine X.aload_n dX2_canSee_0 rfl ?_
    refine X.getR dX2_canSee_1 fi_X2_9 sh_21 rfl ?_
    refine X.iload dX2_canSee_4 rfl ?_
    refine X.iald (v := 1) dX2_canSee_6 sh_22 (by decide) (by omega) (hl.trans (bi_t hli)) ?_
    refine X.iconst dX2_canSee_7 ?_
    refine X.icmp_ne (tgt := 17) dX2_canSee_8 (by decide) (by decide) (by decide) (fun h => absurd h (by decide)) (fun h1 => ?_)
    refine X.iconst dX2_canSee_11 ?_
    refine X.iload_n dX2_canSee_12 rfl ?_
    refine X.imul (c := 2 * r) dX2_canSee_13 rfl ?_
    refine X.goto (tgt := 18) dX2_canSee_14 (by decide) ?_
    refine X.istore (lv2 := [some (.inr (some 21)), some (.inr (some 1)), some (.inl a), some (.inl r), some (.inl c), some (.inl (2 * r))]) dX2_canSee_18 (Nat.le_of_ble_eq_true rfl) rfl ?_
    refine X.iload_n dX2_canSee_20 rfl ?_
    refine X.iload dX2_canSee_21 rfl ?_
    refine X.callN1 (As := [.inl a, .inl c]) (rest := []) dX2_canSee_23 mk_X2_42 (c_distanceOf M a c (by omega) (by omega)) rfl (by decide) rfl (Nat.le_of_ble_eq_true rfl) ?_
    refine X.iload dX2_canSee_26 rfl ?_
    refine X.icmp_gt (tgt := 45) dX2_canSee_28 (by decide) ⟨by omega, by omega⟩ ⟨by omega, by omega⟩ (fun h2 => ?_) (fun h2 => ?_)
    · skip
      refine X.iconst dX2_canSee_45 ?_
      exact X.zret dX2_canSee_46 rfl (by decide) (by rw [bi_f (fun q : see v a r c => by rcases q.1 with q1 | ⟨q1, q2⟩ <;> first | exact hli q2 | omega)]) rfl
    · skip
      refine X.aload_n dX2_canSee_31 rfl ?_
      refine X.iload_n dX2_canSee_32 rfl ?_
      refine X.iload dX2_canSee_33 rfl ?_
      by_cases pf : free v a c
      · skip
        refine X.callS1 (As := [.inr (some 1), .inl a, .inl c]) (rest := []) dX2_canSee_35 mk_X2_46 (CX.bt (c_isViewFree M v hv hS a c (by omega) (by omega)) pf) rfl (by decide) rfl (Nat.le_of_ble_eq_true rfl) ?_
        refine X.if_eq (tgt := 45) dX2_canSee_38 (by decide) (by decide) (fun h => absurd h (by decide)) (fun h3 => ?_)
        refine X.iconst dX2_canSee_41 ?_
        refine X.goto (tgt := 46) dX2_canSee_42 (by decide) ?_
        exact X.zret dX2_canSee_46 rfl (by decide) (by rw [bi_t (show see v a r c from ⟨Or.inr ⟨by omega, hli⟩, pf⟩)]) rfl
      · skip
        refine X.callS1 (As := [.inr (some 1), .inl a, .inl c]) (rest := []) dX2_canSee_35 mk_X2_46 (CX.bf (c_isViewFree M v hv hS a c (by omega) (by omega)) pf) rfl (by decide) rfl (Nat.le_of_ble_eq_true rfl) ?_
        refine X.if_eq (tgt := 45) dX2_canSee_38 (by decide) (by decide) (fun h4 => ?_) (fun h => absurd h (by decide))
        refine X.iconst dX2_canSee_45 ?_
        exact X.zret dX2_canSee_46 rfl (by decide) (by rw [bi_f (fun q : see v a r c => pf q.2)]) rfl
  · skip
    refine X.aload_n dX2_canSee_0 rfl ?_
    refine X.getR dX2_canSee_1 fi_X2_9 sh_21 rfl ?_
    refine X.iload dX2_canSee_4 rfl ?_
    refine X.iald (v := 0) dX2_canSee_6 sh_22 (by decide) (by omega) (hl.trans (bi_f hli)) ?_
    refine X.iconst dX2_canSee_7 ?_
    refine X.icmp_ne (tgt := 17) dX2_canSee_8 (by decide) (by decide) (by decide) (fun h5 => ?_) (fun h => absurd h (by decide))
    refine X.iload_n dX2_canSee_17 rfl ?_
    refine X.istore (lv2 := [some (.inr (some 21)), some (.inr (some 1)), some (.inl a), some (.inl r), some (.inl c), some (.inl r)]) dX2_canSee_18 (Nat.le_of_ble_eq_true rfl) rfl ?_
    refine X.iload_n dX2_canSee_20 rfl ?_
    refine X.iload dX2_canSee_21 rfl ?_
    refine X.callN1 (As := [.inl a, .inl c]) (rest := []) dX2_canSee_23 mk_X2_42 (c_distanceOf M a c (by omega) (by omega)) rfl (by decide) rfl (Nat.le_of_ble_eq_true rfl) ?_
    refine X.iload dX2_canSee_26 rfl ?_
    refine X.icmp_gt (tgt := 45) dX2_canSee_28 (by decide) ⟨by omega, by omega⟩ ⟨by omega, by omega⟩ (fun h6 => ?_) (fun h6 => ?_)
    · skip
      refine X.iconst dX2_canSee_45 ?_
      exact X.zret dX2_canSee_46 rfl (by decide) (by rw [bi_f (fun q : see v a r c => by rcases q.1 with q1 | ⟨q1, q2⟩ <;> first | exact hli q2 | omega)]) rfl
    · skip
      refine X.aload_n dX2_canSee_31 rfl ?_
      refine X.iload_n dX2_canSee_32 rfl ?_
      refine X.iload dX2_canSee_33 rfl ?_
      by_cases pf : free v a c
      · skip
        refine X.callS1 (As := [.inr (some 1), .inl a, .inl c]) (rest := []) dX2_canSee_35 mk_X2_46 (CX.bt (c_isViewFree M v hv hS a c (by omega) (by omega)) pf) rfl (by decide) rfl (Nat.le_of_ble_eq_true rfl) ?_
        refine X.if_eq (tgt := 45) dX2_canSee_38 (by decide) (by decide) (fun h => absurd h (by decide)) (fun h7 => ?_)
        refine X.iconst dX2_canSee_41 ?_
        refine X.goto (tgt := 46) dX2_canSee_42 (by decide) ?_
        exact X.zret dX2_canSee_46 rfl (by decide) (by rw [bi_t (show see v a r c from ⟨by omega, pf⟩)]) rfl
      · skip
        refine X.callS1 (As := [.inr (some 1), .inl a, .inl c]) (rest := []) dX2_canSee_35 mk_X2_46 (CX.bf (c_isViewFree M v hv hS a c (by omega) (by omega)) pf) rfl (by decide) rfl (Nat.le_of_ble_eq_true rfl) ?_
        refine X.if_eq (tgt := 45) dX2_canSee_38 (by decide) (by decide) (fun h8 => ?_) (fun h => absurd h (by decide))
        refine X.iconst dX2_canSee_45 ?_
        exact X.zret dX2_canSee_46 rfl (by decide) (by rw [bi_f (fun q : see v a r c => pf q.2)]) rfl
set_option maxHeartbeats 4000000 in
set_option maxRecDepth 100000 in
theorem c_countSeenFrom (M : Mem) (v : Vw) (hv : VA M v) (hS : SI v) (a r : Int) (ha : 0 ≤ a ∧ a < 120) (hr : 0 ≤ r ∧ r ≤ 8) (hl : ∀ c, 0 ≤ c ∧ c < 120 → M 22 c = bi (lit v c)) : CX mX2_countSeenFrom 5 [.inr (some 21), .inr (some 1), .inl a, .inl r] M (some (.inl (cnt (fun c => see v a r c) 120 0))) M := by
  have n0 := hS.n0
  have n1 := hS.n1
  have n2 := hS.n2
  refine CX.of (by decide +kernel) (Nat.le_of_ble_eq_true rfl) [some (.inr (some 21)), some (.inr (some 1)), some (.inl a), some (.inl r), none, none] rfl ?_
  refine X.iconst dX2_countSeenFrom_0 ?_
  refine X.istore (lv2 := [some (.inr (some 21)), some (.inr (some 1)), some (.inl a), some (.inl r), some (.inl 0), none]) dX2_countSeenFrom_1 (Nat.le_of_ble_eq_true rfl) rfl ?_
  refine X.iconst dX2_countSeenFrom_3 ?_
  refine X.istore (lv2 := [some (.inr (some 21)), some (.inr (some 1)), some (.inl a), some (.inl r), some (.inl 0), some (.inl 0)]) dX2_countSeenFrom_4 (Nat.le_of_ble_eq_true rfl) rfl ?_
  have L6 : ∀ k, 0 ≤ k → k ≤ 120 → ∀ acc : Int, VX mX2_countSeenFrom 5 6 [some (.inr (some 21)), some (.inr (some 1)), some (.inl a), some (.inl r), some (.inl acc), some (.inl k)] [] M (some (.inl (acc + cnt (fun k => see v a r k) (120 - k).toNat k))) M := by
    refine down_ind 0 120 ?_ ?_
    · skip
      intro acc
      refine X.iload dX2_countSeenFrom_6 rfl ?_
      refine X.bipush dX2_countSeenFrom_8 (by decide) ?_
      refine X.icmp_ge (tgt := 34) dX2_countSeenFrom_10 (by decide) ⟨by omega, by omega⟩ (by decide) (fun h1 => ?_) (fun h => by exfalso; omega)
      refine X.iload dX2_countSeenFrom_34 rfl ?_
      exact X.iret dX2_countSeenFrom_36 rfl (by rw [cnt_end, Int.add_zero]) rfl
    · intro k hk1 hk2 ihk
      intro acc
      refine X.iload dX2_countSeenFrom_6 rfl ?_
      refine X.bipush dX2_countSeenFrom_8 (by decide) ?_
      refine X.icmp_ge (tgt := 34) dX2_countSeenFrom_10 (by decide) ⟨by omega, by omega⟩ (by decide) (fun h => by exfalso; omega) (fun h2 => ?_)
      refine X.aload_n dX2_countSeenFrom_13 rfl ?_
      refine X.aload_n dX2_countSeenFrom_14 rfl ?_
      refine X.iload_n dX2_countSeenFrom_15 rfl ?_
      refine X.iload_n dX2_countSeenFrom_16 rfl ?_
      refine X.iload dX2_countSeenFrom_17 rfl ?_
      by_cases hp : see v a r k
      · skip
        refine X.callV1 (As := [.inr (some 1), .inl a, .inl r, .inl k]) (rest := []) dX2_countSeenFrom_19 mk_X2_34 sh_21 (CX.bt (c_canSee M v hv hS a r k (by omega) (by omega) (by omega) (hl k (by omega))) hp) rfl (by decide) rfl (Nat.le_of_ble_eq_true rfl) ?_
        refine X.if_eq (tgt := 28) dX2_countSeenFrom_22 (by decide) (by decide) (fun h => absurd h (by decide)) (fun h3 => ?_)
        refine X.iinc (y := acc + 1) (lv2 := [some (.inr (some 21)), some (.inr (some 1)), some (.inl a), some (.inl r), some (.inl (acc + 1)), some (.inl k)]) dX2_countSeenFrom_25 rfl rfl rfl ?_
        refine X.iinc (y := k + 1) (lv2 := [some (.inr (some 21)), some (.inr (some 1)), some (.inl a), some (.inl r), some (.inl (acc + 1)), some (.inl (k + 1))]) dX2_countSeenFrom_28 rfl rfl rfl ?_
        refine X.goto (tgt := 6) dX2_countSeenFrom_31 (by decide) ?_
        rw [cnt_step _ _ _ hk2, bi_t hp, ← Int.add_assoc]
        exact ihk (acc + 1)
      · skip
        refine X.callV1 (As := [.inr (some 1), .inl a, .inl r, .inl k]) (rest := []) dX2_countSeenFrom_19 mk_X2_34 sh_21 (CX.bf (c_canSee M v hv hS a r k (by omega) (by omega) (by omega) (hl k (by omega))) hp) rfl (by decide) rfl (Nat.le_of_ble_eq_true rfl) ?_
        refine X.if_eq (tgt := 28) dX2_countSeenFrom_22 (by decide) (by decide) (fun h4 => ?_) (fun h => absurd h (by decide))
        refine X.iinc (y := k + 1) (lv2 := [some (.inr (some 21)), some (.inr (some 1)), some (.inl a), some (.inl r), some (.inl acc), some (.inl (k + 1))]) dX2_countSeenFrom_28 rfl rfl rfl ?_
        refine X.goto (tgt := 6) dX2_countSeenFrom_31 (by decide) ?_
        rw [cnt_step _ _ _ hk2, bi_f hp, Int.zero_add]
        exact ihk acc
  have e := L6 0 (by omega) (by omega) 0
  rw [Int.zero_add, Int.sub_zero] at e
  exact e
/-- the row of watchers says of each cell which scouts see it -/
def SG (M : Mem) (v : Vw) : Prop := (∀ c, 0 ≤ c ∧ c < 120 → M 22 c = bi (lit v c)) ∧ ∀ c, 0 ≤ c ∧ c < 120 → M 23 c = ((mkN (fun k => sees v k c) (v 0 0).toNat : Nat) : Int)
theorem SG.frame {M M' : Mem} {v : Vw} (h : SG M v) (h1 : M' 22 = M 22) (h2 : M' 23 = M 23) : SG M' v := ⟨fun c hc => by rw [h1]; exact h.1 c hc, fun c hc => by rw [h2]; exact h.2 c hc⟩
theorem SG.mset {M : Mem} {v : Vw} (h : SG M v) {a : Nat} {i x : Int} (h1 : a ≠ 22 ∧ a ≠ 23) : SG (mset M a i x) v := h.frame (mset_row (Ne.symm h1.1)) (mset_row (Ne.symm h1.2))
theorem SG.meet {M : Mem} {v : Vw} (h : SG M v) (hS : SI v) (P : Int → Prop) {c : Int} (hc : 0 ≤ c ∧ c < 120) : iAnd (M 23 c) ((mkN P (v 0 0).toNat : Nat) : Int) = ((mkN (fun k => sees v k c ∧ P k) (v 0 0).toNat : Nat) : Int) := by
  rw [h.2 c hc]; exact mask_and hS.n0
set_option maxHeartbeats 4000000 in
set_option maxRecDepth 100000 in
theorem c_isSeen (M : Mem) (v : Vw) (hv : VA M v) (hS : SI v) (hG : SG M v) (c : Int) (P : Int → Prop) (hc : 0 ≤ c ∧ c < 120) : CX mX2_isSeen 0 [.inr (some 21), .inl c, .inl ((mkN P (v 0 0).toNat : Nat) : Int)] M (some (.inl (bi (∃ k, 0 ≤ k ∧ k < v 0 0 ∧ sees v k c ∧ P k)))) M := by
  have n0 := hS.n0
  have n1 := hS.n1
  have n2 := hS.n2
  refine CX.of (by decide +kernel) (Nat.le_of_ble_eq_true rfl) [some (.inr (some 21)), some (.inl c), some (.inl ((mkN P (v 0 0).toNat : Nat) : Int))] rfl ?_
  refine X.aload_n dX2_isSeen_0 rfl ?_
  refine X.getR dX2_isSeen_1 fi_X2_15 sh_21 rfl ?_
  refine X.iload_n dX2_isSeen_4 rfl ?_
  refine X.iald (v := M 23 c) dX2_isSeen_5 sh_23 (by decide) (by omega) rfl ?_
  refine X.iload_n dX2_isSeen_6 rfl ?_
  refine X.iand (c := ((mkN (fun k => sees v k c ∧ P k) (v 0 0).toNat : Nat) : Int)) dX2_isSeen_7 (hG.meet hS P hc) ?_
  refine X.if_eq (tgt := 15) dX2_isSeen_8 (by decide) (mask_inR n0.2) (fun h8 => ?_) (fun h8 => ?_)
  · skip
    refine X.iconst dX2_isSeen_15 ?_
    exact X.zret dX2_isSeen_16 rfl (by decide) (by rw [bi_f (mask_0.mp h8)]) rfl
  · skip
    refine X.iconst dX2_isSeen_11 ?_
    refine X.goto (tgt := 16) dX2_isSeen_12 (by decide) ?_
    exact X.zret dX2_isSeen_16 rfl (by decide) (by rw [bi_t (Classical.not_not.mp (fun q => h8 (mask_0.mpr q)))]) rfl
set_option maxHeartbeats 4000000 in
set_option maxRecDepth 100000 in
theorem c_countSeen (M : Mem) (v : Vw) (hv : VA M v) (hS : SI v) (hG : SG M v) (P : Int → Prop) : CX mX2_countSeen 1 [.inr (some 21), .inl ((mkN P (v 0 0).toNat : Nat) : Int)] M (some (.inl (cnt (fun c => ∃ k, 0 ≤ k ∧ k < v 0 0 ∧ sees v k c ∧ P k) 120 0))) M := by
  have n0 := hS.n0
  have n1 := hS.n1
  have n2 := hS.n2
  refine CX.of (by decide +kernel) (Nat.le_of_ble_eq_true rfl) [some (.inr (some 21)), some (.inl ((mkN P (v 0 0).toNat : Nat) : Int)), none, none] rfl ?_
  refine X.iconst dX2_countSeen_0 ?_
  refine X.istore_n (lv2 := [some (.inr (some 21)), some (.inl ((mkN P (v 0 0).toNat : Nat) : Int)), some (.inl 0), none]) dX2_countSeen_1 (Nat.le_of_ble_eq_true rfl) rfl ?_
  refine X.iconst dX2_countSeen_2 ?_
  refine X.istore_n (lv2 := [some (.inr (some 21)), some (.inl ((mkN P (v 0 0).toNat : Nat) : Int)), some (.inl 0), some (.inl 0)]) dX2_countSeen_3 (Nat.le_of_ble_eq_true rfl) rfl ?_
  have L4 : ∀ k, 0 ≤ k → k ≤ 120 → ∀ acc : Int, VX mX2_countSeen 1 4 [some (.inr (some 21)), some (.inl ((mkN P (v 0 0).toNat : Nat) : Int)), some (.inl acc), some (.inl k)] [] M (some (.inl (acc + cnt (fun k => ∃ j, 0 ≤ j ∧ j < v 0 0 ∧ sees v j k ∧ P j) (120 - k).toNat k))) M := by
    refine down_ind 0 120 ?_ ?_
    · skip
      intro acc
      refine X.iload_n dX2_countSeen_4 rfl ?_
      refine X.bipush dX2_countSeen_5 (by decide) ?_
      refine X.icmp_ge (tgt := 28) dX2_countSeen_7 (by decide) ⟨by omega, by omega⟩ (by decide) (fun h1 => ?_) (fun h => by exfalso; omega)
      refine X.iload_n dX2_countSeen_28 rfl ?_
      exact X.iret dX2_countSeen_29 rfl (by rw [cnt_end, Int.add_zero]) rfl
    · intro k hk1 hk2 ihk
      intro acc
      refine X.iload_n dX2_countSeen_4 rfl ?_
      refine X.bipush dX2_countSeen_5 (by decide) ?_
      refine X.icmp_ge (tgt := 28) dX2_countSeen_7 (by decide) ⟨by omega, by omega⟩ (by decide) (fun h => by exfalso; omega) (fun h2 => ?_)
      refine X.aload_n dX2_countSeen_10 rfl ?_
      refine X.iload_n dX2_countSeen_11 rfl ?_
      refine X.iload_n dX2_countSeen_12 rfl ?_
      by_cases hp : ∃ z, 0 ≤ z ∧ z < v 0 0 ∧ sees v z k ∧ P z
      · skip
        refine X.callV1 (As := [.inl k, .inl ((mkN P (v 0 0).toNat : Nat) : Int)]) (rest := []) dX2_countSeen_13 mk_X2_50 sh_21 (CX.bt (c_isSeen M v hv hS hG k (P) (by omega)) hp) rfl (by decide) rfl (Nat.le_of_ble_eq_true rfl) ?_
        refine X.if_eq (tgt := 22) dX2_countSeen_16 (by decide) (by decide) (fun h => absurd h (by decide)) (fun h3 => ?_)
        refine X.iinc (y := acc + 1) (lv2 := [some (.inr (some 21)), some (.inl ((mkN P (v 0 0).toNat : Nat) : Int)), some (.inl (acc + 1)), some (.inl k)]) dX2_countSeen_19 rfl rfl rfl ?_
        refine X.iinc (y := k + 1) (lv2 := [some (.inr (some 21)), some (.inl ((mkN P (v 0 0).toNat : Nat) : Int)), some (.inl (acc + 1)), some (.inl (k + 1))]) dX2_countSeen_22 rfl rfl rfl ?_
        refine X.goto (tgt := 4) dX2_countSeen_25 (by decide) ?_
        rw [cnt_step _ _ _ hk2, bi_t hp, ← Int.add_assoc]
        exact ihk (acc + 1)
      · skip
        refine X.callV1 (As := [.inl k, .inl ((mkN P (v 0 0).toNat : Nat) : Int)]) (rest := []) dX2_countSeen_13 mk_X2_50 sh_21 (CX.bf (c_isSeen M v hv hS hG k (P) (by omega)) hp) rfl (by decide) rfl (Nat.le_of_ble_eq_true rfl) ?_
        refine X.if_eq (tgt := 22) dX2_countSeen_16 (by decide) (by decide) (fun h4 => ?_) (fun h => absurd h (by decide))
        refine X.iinc (y := k + 1) (lv2 := [some (.inr (some 21)), some (.inl ((mkN P (v 0 0).toNat : Nat) : Int)), some (.inl acc), some (.inl (k + 1))]) dX2_countSeen_22 rfl rfl rfl ?_
        refine X.goto (tgt := 4) dX2_countSeen_25 (by decide) ?_
        rw [cnt_step _ _ _ hk2, bi_f hp, Int.zero_add]
        exact ihk acc
  have e := L4 0 (by omega) (by omega) 0
  rw [Int.zero_add, Int.sub_zero] at e
  exact e
set_option maxHeartbeats 4000000 in
set_option maxRecDepth 100000 in
theorem c_countLit (M : Mem) (v : Vw) (hv : VA M v) (hS : SI v) (hl : ∀ c, 0 ≤ c ∧ c < 120 → M 22 c = bi (lit v c)) : CX mX2_countLit 0 [.inr (some 21)] M (some (.inl (cnt (fun c => lit v c) 120 0))) M := by
  have n0 := hS.n0
  have n1 := hS.n1
  have n2 := hS.n2
  refine CX.of (by decide +kernel) (Nat.le_of_ble_eq_true rfl) [some (.inr (some 21)), none, none] rfl ?_
  refine X.iconst dX2_countLit_0 ?_
  refine X.istore_n (lv2 := [some (.inr (some 21)), some (.inl 0), none]) dX2_countLit_1 (Nat.le_of_ble_eq_true rfl) rfl ?_
  refine X.iconst dX2_countLit_2 ?_
  refine X.istore_n (lv2 := [some (.inr (some 21)), some (.inl 0), some (.inl 0)]) dX2_countLit_3 (Nat.le_of_ble_eq_true rfl) rfl ?_
  have L4 : ∀ k, 0 ≤ k → k ≤ 120 → ∀ acc : Int, VX mX2_countLit 0 4 [some (.inr (some 21)), some (.inl acc), some (.inl k)] [] M (some (.inl (acc + cnt (fun k => lit v k) (120 - k).toNat k))) M := by
    refine down_ind 0 120 ?_ ?_
    · skip
      intro acc
      refine X.iload_n dX2_countLit_4 rfl ?_
      refine X.bipush dX2_countLit_5 (by decide) ?_
      refine X.icmp_ge (tgt := 25) dX2_countLit_7 (by decide) ⟨by omega, by omega⟩ (by decide) (fun h1 => ?_) (fun h => by exfalso; omega)
      refine X.iload_n dX2_countLit_25 rfl ?_
      exact X.iret dX2_countLit_26 rfl (by rw [cnt_end, Int.add_zero]) rfl
    · intro k hk1 hk2 ihk
      intro acc
      refine X.iload_n dX2_countLit_4 rfl ?_
      refine X.bipush dX2_countLit_5 (by decide) ?_
      refine X.icmp_ge (tgt := 25) dX2_countLit_7 (by decide) ⟨by omega, by omega⟩ (by decide) (fun h => by exfalso; omega) (fun h2 => ?_)
      refine X.iload_n dX2_countLit_10 rfl ?_
      refine X.aload_n dX2_countLit_11 rfl ?_
      refine X.getR dX2_countLit_12 fi_X2_9 sh_21 rfl ?_
      refine X.iload_n dX2_countLit_15 rfl ?_
      refine X.iald (v := bi (lit v k)) dX2_countLit_16 sh_22 (by decide) (by omega) (hl k (by omega)) ?_
      refine X.iadd (c := acc + (bi (lit v k))) dX2_countLit_17 rfl ?_
      refine X.istore_n (lv2 := [some (.inr (some 21)), some (.inl (acc + (bi (lit v k)))), some (.inl k)]) dX2_countLit_18 (Nat.le_of_ble_eq_true rfl) rfl ?_
      refine X.iinc (y := k + 1) (lv2 := [some (.inr (some 21)), some (.inl (acc + (bi (lit v k)))), some (.inl (k + 1))]) dX2_countLit_19 rfl rfl rfl ?_
      refine X.goto (tgt := 4) dX2_countLit_22 (by decide) ?_
      rw [cnt_step _ _ _ hk2, ← Int.add_assoc]
      exact ihk (acc + (bi (lit v k)))
  have e := L4 0 (by omega) (by omega) 0
  rw [Int.zero_add, Int.sub_zero] at e
  exact e
set_option maxHeartbeats 4000000 in
set_option maxRecDepth 100000 in
theorem c_countNotFogged_0 (M : Mem) (v : Vw) (hm : VM M v) (hS : SI v) : CX mX1_countNotFogged 0 [.inr (some 11)] M (some (.inl (cnt (fun c => 0 < v 9 c) 120 0))) M := by
  refine CX.of (by decide +kernel) (Nat.le_of_ble_eq_true rfl) [some (.inr (some 11)), none, none] rfl ?_
  refine X.iconst dX1_countNotFogged_0 ?_
  refine X.istore_n (lv2 := [some (.inr (some 11)), some (.inl 0), none]) dX1_countNotFogged_1 (Nat.le_of_ble_eq_true rfl) rfl ?_
  refine X.iconst dX1_countNotFogged_2 ?_
  refine X.istore_n (lv2 := [some (.inr (some 11)), some (.inl 0), some (.inl 0)]) dX1_countNotFogged_3 (Nat.le_of_ble_eq_true rfl) rfl ?_
  have L4 : ∀ k, 0 ≤ k → k ≤ 120 → ∀ acc : Int, VX mX1_countNotFogged 0 4 [some (.inr (some 11)), some (.inl acc), some (.inl k)] [] M (some (.inl (acc + cnt (fun k => 0 < v 9 k) (120 - k).toNat k))) M := by
    refine down_ind 0 120 ?_ ?_
    · skip
      intro acc
      refine X.iload_n dX1_countNotFogged_4 rfl ?_
      refine X.bipush dX1_countNotFogged_5 (by decide) ?_
      refine X.icmp_ge (tgt := 28) dX1_countNotFogged_7 (by decide) ⟨by omega, by omega⟩ (by decide) (fun h1 => ?_) (fun h => by exfalso; omega)
      refine X.iload_n dX1_countNotFogged_28 rfl ?_
      exact X.iret dX1_countNotFogged_29 rfl (by rw [cnt_end, Int.add_zero]) rfl
    · intro k hk1 hk2 ihk
      intro acc
      refine X.iload_n dX1_countNotFogged_4 rfl ?_
      refine X.bipush dX1_countNotFogged_5 (by decide) ?_
      refine X.icmp_ge (tgt := 28) dX1_countNotFogged_7 (by decide) ⟨by omega, by omega⟩ (by decide) (fun h => by exfalso; omega) (fun h2 => ?_)
      refine X.aload_n dX1_countNotFogged_10 rfl ?_
      refine X.getR dX1_countNotFogged_11 fi_X1_9 sh_11 rfl ?_
      refine X.iload_n dX1_countNotFogged_14 rfl ?_
      have q3 := SI.r9 hS k
      refine X.iald (v := v 9 k) dX1_countNotFogged_15 sh_12 (by decide) (by omega) (rd_9 hm (by omega)) ?_
      refine X.if_le (tgt := 22) dX1_countNotFogged_16 (by decide) ⟨by omega, by omega⟩ (fun h16 => ?_) (fun h16 => ?_)
      · skip
        have h16 : ¬ 0 < v 9 k := by omega
        refine X.iinc (y := k + 1) (lv2 := [some (.inr (some 11)), some (.inl acc), some (.inl (k + 1))]) dX1_countNotFogged_22 rfl rfl rfl ?_
        refine X.goto (tgt := 4) dX1_countNotFogged_25 (by decide) ?_
        rw [cnt_step _ _ _ hk2, bi_f h16, Int.zero_add]
        exact ihk acc
      · skip
        refine X.iinc (y := acc + 1) (lv2 := [some (.inr (some 11)), some (.inl (acc + 1)), some (.inl k)]) dX1_countNotFogged_19 rfl rfl rfl ?_
        refine X.iinc (y := k + 1) (lv2 := [some (.inr (some 11)), some (.inl (acc + 1)), some (.inl (k + 1))]) dX1_countNotFogged_22 rfl rfl rfl ?_
        refine X.goto (tgt := 4) dX1_countNotFogged_25 (by decide) ?_
        rw [cnt_step _ _ _ hk2, bi_t h16, ← Int.add_assoc]
        exact ihk (acc + 1)
  have e := L4 0 (by omega) (by omega) 0
  rw [Int.zero_add, Int.sub_zero] at e
  exact e
set_option maxHeartbeats 4000000 in
set_option maxRecDepth 100000 in
theorem c_canStepM_0 (M : Mem) (v : Vw) (hm : VM M v) (hS : SI v) (a b : Int) (ha : 0 ≤ a ∧ a < 120) (hb : 0 ≤ b ∧ b < 120) : CX mX1_canStep 1 [.inr (some 11), .inl a, .inl b] M (some (.inl (bi (0 < v 9 b ∧ v 11 b = 0 ∧ v 12 b = 0 ∧ iabs (v 10 a - v 10 b) ≤ 2)))) M := by
  refine CX.of (by decide +kernel) (Nat.le_of_ble_eq_true rfl) [some (.inr (some 11)), some (.inl a), some (.inl b)] rfl ?_
  refine X.aload_n dX1_canStep_0 rfl ?_
  refine X.getR dX1_canStep_1 fi_X1_9 sh_11 rfl ?_
  refine X.iload_n dX1_canStep_4 rfl ?_
  have q1 := SI.r9 hS b
  refine X.iald (v := v 9 b) dX1_canStep_5 sh_12 (by decide) (by omega) (rd_9 hm (by omega)) ?_
  refine X.if_le (tgt := 51) dX1_canStep_6 (by decide) ⟨by omega, by omega⟩ (fun h2 => ?_) (fun h2 => ?_)
  · skip
    refine X.iconst dX1_canStep_51 ?_
    exact X.zret dX1_canStep_52 rfl (by decide) (by rw [bi_f (by omega)]) rfl
  · skip
    refine X.aload_n dX1_canStep_9 rfl ?_
    refine X.getR dX1_canStep_10 fi_X1_18 sh_11 rfl ?_
    refine X.iload_n dX1_canStep_13 rfl ?_
    have q3 := SI.r11 hS b
    refine X.iald (v := v 11 b) dX1_canStep_14 sh_14 (by decide) (by omega) (rd_11 hm (by omega)) ?_
    refine X.if_ne (tgt := 51) dX1_canStep_15 (by decide) ⟨by omega, by omega⟩ (fun h4 => ?_) (fun h4 => ?_)
    · skip
      refine X.iconst dX1_canStep_51 ?_
      exact X.zret dX1_canStep_52 rfl (by decide) (by rw [bi_f (by omega)]) rfl
    · skip
      refine X.aload_n dX1_canStep_18 rfl ?_
      refine X.getR dX1_canStep_19 fi_X1_21 sh_11 rfl ?_
      refine X.iload_n dX1_canStep_22 rfl ?_
      have q5 := SI.r12 hS b
      refine X.iald (v := v 12 b) dX1_canStep_23 sh_15 (by decide) (by omega) (rd_12 hm (by omega)) ?_
      refine X.if_ne (tgt := 51) dX1_canStep_24 (by decide) ⟨by omega, by omega⟩ (fun h6 => ?_) (fun h6 => ?_)
      · skip
        refine X.iconst dX1_canStep_51 ?_
        exact X.zret dX1_canStep_52 rfl (by decide) (by rw [bi_f (by omega)]) rfl
      · skip
        refine X.aload_n dX1_canStep_27 rfl ?_
        refine X.getR dX1_canStep_28 fi_X1_15 sh_11 rfl ?_
        refine X.iload_n dX1_canStep_31 rfl ?_
        have q7 := SI.r10 hS a
        refine X.iald (v := v 10 a) dX1_canStep_32 sh_13 (by decide) (by omega) (rd_10 hm (by omega)) ?_
        refine X.aload_n dX1_canStep_33 rfl ?_
        refine X.getR dX1_canStep_34 fi_X1_15 sh_11 rfl ?_
        refine X.iload_n dX1_canStep_37 rfl ?_
        have q8 := SI.r10 hS b
        refine X.iald (v := v 10 b) dX1_canStep_38 sh_13 (by decide) (by omega) (rd_10 hm (by omega)) ?_
        refine X.isub (c := (v 10 a) - (v 10 b)) dX1_canStep_39 rfl ?_
        refine X.mabs (c := iabs ((v 10 a) - (v 10 b))) dX1_canStep_40 kl_X1_37 ⟨by omega, by omega⟩ (by decide) (Nat.le_of_ble_eq_true rfl) rfl ?_
        refine X.iconst dX1_canStep_43 ?_
        have hi := iabs_r (a := v 10 a - v 10 b)
        refine X.icmp_gt (tgt := 51) dX1_canStep_44 (by decide) ⟨by omega, by omega⟩ (by decide) (fun h9 => ?_) (fun h9 => ?_)
        · skip
          refine X.iconst dX1_canStep_51 ?_
          exact X.zret dX1_canStep_52 rfl (by decide) (by rw [bi_f (by omega)]) rfl
        · skip
          refine X.iconst dX1_canStep_47 ?_
          refine X.goto (tgt := 52) dX1_canStep_48 (by decide) ?_
          exact X.zret dX1_canStep_52 rfl (by decide) (by rw [bi_t (by omega)]) rfl
set_option maxHeartbeats 4000000 in
set_option maxRecDepth 100000 in
theorem c_countNotFogged_1 (M : Mem) (v : Vw) (hm : VM M v) (hS : SI v) : CX mX1_countNotFogged 0 [.inr (some 16)] M (some (.inl (cnt (fun c => 0 < v 13 c) 120 0))) M := by
  refine CX.of (by decide +kernel) (Nat.le_of_ble_eq_true rfl) [some (.inr (some 16)), none, none] rfl ?_
  refine X.iconst dX1_countNotFogged_0 ?_
  refine X.istore_n (lv2 := [some (.inr (some 16)), some (.inl 0), none]) dX1_countNotFogged_1 (Nat.le_of_ble_eq_true rfl) rfl ?_
  refine X.iconst dX1_countNotFogged_2 ?_
  refine X.istore_n (lv2 := [some (.inr (some 16)), some (.inl 0), some (.inl 0)]) dX1_countNotFogged_3 (Nat.le_of_ble_eq_true rfl) rfl ?_
  have L4 : ∀ k, 0 ≤ k → k ≤ 120 → ∀ acc : Int, VX mX1_countNotFogged 0 4 [some (.inr (some 16)), some (.inl acc), some (.inl k)] [] M (some (.inl (acc + cnt (fun k => 0 < v 13 k) (120 - k).toNat k))) M := by
    refine down_ind 0 120 ?_ ?_
    · skip
      intro acc
      refine X.iload_n dX1_countNotFogged_4 rfl ?_
      refine X.bipush dX1_countNotFogged_5 (by decide) ?_
      refine X.icmp_ge (tgt := 28) dX1_countNotFogged_7 (by decide) ⟨by omega, by omega⟩ (by decide) (fun h1 => ?_) (fun h => by exfalso; omega)
      refine X.iload_n dX1_countNotFogged_28 rfl ?_
      exact X.iret dX1_countNotFogged_29 rfl (by rw [cnt_end, Int.add_zero]) rfl
    · intro k hk1 hk2 ihk
      intro acc
      refine X.iload_n dX1_countNotFogged_4 rfl ?_
      refine X.bipush dX1_countNotFogged_5 (by decide) ?_
      refine X.icmp_ge (tgt := 28) dX1_countNotFogged_7 (by decide) ⟨by omega, by omega⟩ (by decide) (fun h => by exfalso; omega) (fun h2 => ?_)
      refine X.aload_n dX1_countNotFogged_10 rfl ?_
      refine X.getR dX1_countNotFogged_11 fi_X1_9 sh_16 rfl ?_
      refine X.iload_n dX1_countNotFogged_14 rfl ?_
      have q3 := SI.r13 hS k
      refine X.iald (v := v 13 k) dX1_countNotFogged_15 sh_17 (by decide) (by omega) (rd_13 hm (by omega)) ?_
      refine X.if_le (tgt := 22) dX1_countNotFogged_16 (by decide) ⟨by omega, by omega⟩ (fun h16 => ?_) (fun h16 => ?_)
      · skip
        have h16 : ¬ 0 < v 13 k := by omega
        refine X.iinc (y := k + 1) (lv2 := [some (.inr (some 16)), some (.inl acc), some (.inl (k + 1))]) dX1_countNotFogged_22 rfl rfl rfl ?_
        refine X.goto (tgt := 4) dX1_countNotFogged_25 (by decide) ?_
        rw [cnt_step _ _ _ hk2, bi_f h16, Int.zero_add]
        exact ihk acc
      · skip
        refine X.iinc (y := acc + 1) (lv2 := [some (.inr (some 16)), some (.inl (acc + 1)), some (.inl k)]) dX1_countNotFogged_19 rfl rfl rfl ?_
        refine X.iinc (y := k + 1) (lv2 := [some (.inr (some 16)), some (.inl (acc + 1)), some (.inl (k + 1))]) dX1_countNotFogged_22 rfl rfl rfl ?_
        refine X.goto (tgt := 4) dX1_countNotFogged_25 (by decide) ?_
        rw [cnt_step _ _ _ hk2, bi_t h16, ← Int.add_assoc]
        exact ihk (acc + 1)
  have e := L4 0 (by omega) (by omega) 0
  rw [Int.zero_add, Int.sub_zero] at e
  exact e
set_option maxHeartbeats 4000000 in
set_option maxRecDepth 100000 in
theorem c_canStepM_1 (M : Mem) (v : Vw) (hm : VM M v) (hS : SI v) (a b : Int) (ha : 0 ≤ a ∧ a < 120) (hb : 0 ≤ b ∧ b < 120) : CX mX1_canStep 1 [.inr (some 16), .inl a, .inl b] M (some (.inl (bi (0 < v 13 b ∧ v 15 b = 0 ∧ v 16 b = 0 ∧ iabs (v 14 a - v 14 b) ≤ 2)))) M := by
  refine CX.of (by decide +kernel) (Nat.le_of_ble_eq_true rfl) [some (.inr (some 16)), some (.inl a), some (.inl b)] rfl ?_
  refine X.aload_n dX1_canStep_0 rfl ?_
  refine X.getR dX1_canStep_1 fi_X1_9 sh_16 rfl ?_
  refine X.iload_n dX1_canStep_4 rfl ?_
  have q1 := SI.r13 hS b
  refine X.iald (v := v 13 b) dX1_canStep_5 sh_17 (by decide) (by omega) (rd_13 hm (by omega)) ?_
  refine X.if_le (tgt := 51) dX1_canStep_6 (by decide) ⟨by omega, by omega⟩ (fun h2 => ?_) (fun h2 => ?_)
  · skip
    refine X.iconst dX1_canStep_51 ?_
    exact X.zret dX1_canStep_52 rfl (by decide) (by rw [bi_f (by omega)]) rfl
  · skip
    refine X.aload_n dX1_canStep_9 rfl ?_
    refine X.getR dX1_canStep_10 fi_X1_18 sh_16 rfl ?_
    refine X.iload_n dX1_canStep_13 rfl ?_
    have q3 := SI.r15 hS b
    refine X.iald (v := v 15 b) dX1_canStep_14 sh_19 (by decide) (by omega) (rd_15 hm (by omega)) ?_
    refine X.if_ne (tgt := 51) dX1_canStep_15 (by decide) ⟨by omega, by omega⟩ (fun h4 => ?_) (fun h4 => ?_)
    · skip
      refine X.iconst dX1_canStep_51 ?_
      exact X.zret dX1_canStep_52 rfl (by decide) (by rw [bi_f (by omega)]) rfl
    · skip
      refine X.aload_n dX1_canStep_18 rfl ?_
      refine X.getR dX1_canStep_19 fi_X1_21 sh_16 rfl ?_
      refine X.iload_n dX1_canStep_22 rfl ?_
      have q5 := SI.r16 hS b
      refine X.iald (v := v 16 b) dX1_canStep_23 sh_20 (by decide) (by omega) (rd_16 hm (by omega)) ?_
      refine X.if_ne (tgt := 51) dX1_canStep_24 (by decide) ⟨by omega, by omega⟩ (fun h6 => ?_) (fun h6 => ?_)
      · skip
        refine X.iconst dX1_canStep_51 ?_
        exact X.zret dX1_canStep_52 rfl (by decide) (by rw [bi_f (by omega)]) rfl
      · skip
        refine X.aload_n dX1_canStep_27 rfl ?_
        refine X.getR dX1_canStep_28 fi_X1_15 sh_16 rfl ?_
        refine X.iload_n dX1_canStep_31 rfl ?_
        have q7 := SI.r14 hS a
        refine X.iald (v := v 14 a) dX1_canStep_32 sh_18 (by decide) (by omega) (rd_14 hm (by omega)) ?_
        refine X.aload_n dX1_canStep_33 rfl ?_
        refine X.getR dX1_canStep_34 fi_X1_15 sh_16 rfl ?_
        refine X.iload_n dX1_canStep_37 rfl ?_
        have q8 := SI.r14 hS b
        refine X.iald (v := v 14 b) dX1_canStep_38 sh_18 (by decide) (by omega) (rd_14 hm (by omega)) ?_
        refine X.isub (c := (v 14 a) - (v 14 b)) dX1_canStep_39 rfl ?_
        refine X.mabs (c := iabs ((v 14 a) - (v 14 b))) dX1_canStep_40 kl_X1_37 ⟨by omega, by omega⟩ (by decide) (Nat.le_of_ble_eq_true rfl) rfl ?_
        refine X.iconst dX1_canStep_43 ?_
        have hi := iabs_r (a := v 14 a - v 14 b)
        refine X.icmp_gt (tgt := 51) dX1_canStep_44 (by decide) ⟨by omega, by omega⟩ (by decide) (fun h9 => ?_) (fun h9 => ?_)
        · skip
          refine X.iconst dX1_canStep_51 ?_
          exact X.zret dX1_canStep_52 rfl (by decide) (by rw [bi_f (by omega)]) rfl
        · skip
          refine X.iconst dX1_canStep_47 ?_
          refine X.goto (tgt := 52) dX1_canStep_48 (by decide) ?_
          exact X.zret dX1_canStep_52 rfl (by decide) (by rw [bi_t (by omega)]) rfl
