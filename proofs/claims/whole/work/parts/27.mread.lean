theorem mr_bd {v : Vw} (hS : SI v) {s i : Int} : 0 ≤ v (mr s 0) i ∧ v (mr s 0) i ≤ 99 := by
  unfold mr; split
  · exact hS.r9 i
  · exact hS.r13 i
set_option maxHeartbeats 4000000 in
set_option maxRecDepth 100000 in
theorem c_ofScout_0 (M : Mem) (v : Vw) (hv : WA (M 133) v) (hS : SI v) (k : Int) (hk : 0 ≤ k ∧ k < v 0 0) : CX mX7_ofScout 0 [.inr (some 132), .inl k, .inl 0] M (some (.inl (v 3 k))) M := by
  have n0 := hS.n0
  have n1 := hS.n1
  have n2 := hS.n2
  refine CX.of (by decide +kernel) (Nat.le_of_ble_eq_true rfl) [some (.inr (some 132)), some (.inl k), some (.inl 0)] rfl ?_
  refine X.aload_n dX7_ofScout_0 rfl ?_
  refine X.getR dX7_ofScout_1 fi_X7_7 sh_132 rfl ?_
  refine X.iconst dX7_ofScout_4 ?_
  refine X.iconst dX7_ofScout_5 ?_
  refine X.iload_n dX7_ofScout_6 rfl ?_
  refine X.imul (c := 4 * k) dX7_ofScout_7 rfl ?_
  refine X.iadd (c := 4 + (4 * k)) dX7_ofScout_8 rfl ?_
  refine X.iload_n dX7_ofScout_9 rfl ?_
  refine X.iadd (c := (4 + (4 * k)) + 0) dX7_ofScout_10 rfl ?_
  have q1 := SI.r3 hS k
  refine X.iald (v := v 3 k) dX7_ofScout_11 sh_133 (by decide) (by omega) (ws_3 hv (by omega)) ?_
  exact X.iret dX7_ofScout_12 rfl rfl rfl
set_option maxHeartbeats 4000000 in
set_option maxRecDepth 100000 in
theorem c_ofScout_1 (M : Mem) (v : Vw) (hv : WA (M 133) v) (hS : SI v) (k : Int) (hk : 0 ≤ k ∧ k < v 0 0) : CX mX7_ofScout 0 [.inr (some 132), .inl k, .inl 1] M (some (.inl (v 4 k % 12))) M := by
  have n0 := hS.n0
  have n1 := hS.n1
  have n2 := hS.n2
  refine CX.of (by decide +kernel) (Nat.le_of_ble_eq_true rfl) [some (.inr (some 132)), some (.inl k), some (.inl 1)] rfl ?_
  refine X.aload_n dX7_ofScout_0 rfl ?_
  refine X.getR dX7_ofScout_1 fi_X7_7 sh_132 rfl ?_
  refine X.iconst dX7_ofScout_4 ?_
  refine X.iconst dX7_ofScout_5 ?_
  refine X.iload_n dX7_ofScout_6 rfl ?_
  refine X.imul (c := 4 * k) dX7_ofScout_7 rfl ?_
  refine X.iadd (c := 4 + (4 * k)) dX7_ofScout_8 rfl ?_
  refine X.iload_n dX7_ofScout_9 rfl ?_
  refine X.iadd (c := (4 + (4 * k)) + 1) dX7_ofScout_10 rfl ?_
  have q1 := SI.r4 hS k
  refine X.iald (v := v 4 k % 12) dX7_ofScout_11 sh_133 (by decide) (by omega) (ws_4c hv (by omega)) ?_
  exact X.iret dX7_ofScout_12 rfl rfl rfl
set_option maxHeartbeats 4000000 in
set_option maxRecDepth 100000 in
theorem c_ofScout_2 (M : Mem) (v : Vw) (hv : WA (M 133) v) (hS : SI v) (k : Int) (hk : 0 ≤ k ∧ k < v 0 0) : CX mX7_ofScout 0 [.inr (some 132), .inl k, .inl 2] M (some (.inl (v 4 k / 12))) M := by
  have n0 := hS.n0
  have n1 := hS.n1
  have n2 := hS.n2
  refine CX.of (by decide +kernel) (Nat.le_of_ble_eq_true rfl) [some (.inr (some 132)), some (.inl k), some (.inl 2)] rfl ?_
  refine X.aload_n dX7_ofScout_0 rfl ?_
  refine X.getR dX7_ofScout_1 fi_X7_7 sh_132 rfl ?_
  refine X.iconst dX7_ofScout_4 ?_
  refine X.iconst dX7_ofScout_5 ?_
  refine X.iload_n dX7_ofScout_6 rfl ?_
  refine X.imul (c := 4 * k) dX7_ofScout_7 rfl ?_
  refine X.iadd (c := 4 + (4 * k)) dX7_ofScout_8 rfl ?_
  refine X.iload_n dX7_ofScout_9 rfl ?_
  refine X.iadd (c := (4 + (4 * k)) + 2) dX7_ofScout_10 rfl ?_
  have q1 := SI.r4 hS k
  refine X.iald (v := v 4 k / 12) dX7_ofScout_11 sh_133 (by decide) (by omega) (ws_4r hv (by omega)) ?_
  exact X.iret dX7_ofScout_12 rfl rfl rfl
set_option maxHeartbeats 4000000 in
set_option maxRecDepth 100000 in
theorem c_ofScout_3 (M : Mem) (v : Vw) (hv : WA (M 133) v) (hS : SI v) (k : Int) (hk : 0 ≤ k ∧ k < v 0 0) : CX mX7_ofScout 0 [.inr (some 132), .inl k, .inl 3] M (some (.inl (v 5 k))) M := by
  have n0 := hS.n0
  have n1 := hS.n1
  have n2 := hS.n2
  refine CX.of (by decide +kernel) (Nat.le_of_ble_eq_true rfl) [some (.inr (some 132)), some (.inl k), some (.inl 3)] rfl ?_
  refine X.aload_n dX7_ofScout_0 rfl ?_
  refine X.getR dX7_ofScout_1 fi_X7_7 sh_132 rfl ?_
  refine X.iconst dX7_ofScout_4 ?_
  refine X.iconst dX7_ofScout_5 ?_
  refine X.iload_n dX7_ofScout_6 rfl ?_
  refine X.imul (c := 4 * k) dX7_ofScout_7 rfl ?_
  refine X.iadd (c := 4 + (4 * k)) dX7_ofScout_8 rfl ?_
  refine X.iload_n dX7_ofScout_9 rfl ?_
  refine X.iadd (c := (4 + (4 * k)) + 3) dX7_ofScout_10 rfl ?_
  have q1 := SI.r5 hS k
  refine X.iald (v := v 5 k) dX7_ofScout_11 sh_133 (by decide) (by omega) (ws_5 hv (by omega)) ?_
  exact X.iret dX7_ofScout_12 rfl rfl rfl
set_option maxHeartbeats 4000000 in
set_option maxRecDepth 100000 in
theorem c_ofLight_0 (M : Mem) (v : Vw) (hv : WA (M 133) v) (hS : SI v) (k : Int) (hk : 0 ≤ k ∧ k < v 0 1) : CX mX7_ofLight 0 [.inr (some 132), .inl k, .inl 0] M (some (.inl (v 6 k % 12))) M := by
  have n0 := hS.n0
  have n1 := hS.n1
  have n2 := hS.n2
  refine CX.of (by decide +kernel) (Nat.le_of_ble_eq_true rfl) [some (.inr (some 132)), some (.inl k), some (.inl 0)] rfl ?_
  refine X.aload_n dX7_ofLight_0 rfl ?_
  refine X.getR dX7_ofLight_1 fi_X7_7 sh_132 rfl ?_
  refine X.bipush dX7_ofLight_4 (by decide) ?_
  refine X.iconst dX7_ofLight_6 ?_
  refine X.iload_n dX7_ofLight_7 rfl ?_
  refine X.imul (c := 4 * k) dX7_ofLight_8 rfl ?_
  refine X.iadd (c := 44 + (4 * k)) dX7_ofLight_9 rfl ?_
  refine X.iload_n dX7_ofLight_10 rfl ?_
  refine X.iadd (c := (44 + (4 * k)) + 0) dX7_ofLight_11 rfl ?_
  have q1 := SI.r6 hS k
  refine X.iald (v := v 6 k % 12) dX7_ofLight_12 sh_133 (by decide) (by omega) (ws_6c hv (by omega)) ?_
  exact X.iret dX7_ofLight_13 rfl rfl rfl
set_option maxHeartbeats 4000000 in
set_option maxRecDepth 100000 in
theorem c_ofLight_1 (M : Mem) (v : Vw) (hv : WA (M 133) v) (hS : SI v) (k : Int) (hk : 0 ≤ k ∧ k < v 0 1) : CX mX7_ofLight 0 [.inr (some 132), .inl k, .inl 1] M (some (.inl (v 6 k / 12))) M := by
  have n0 := hS.n0
  have n1 := hS.n1
  have n2 := hS.n2
  refine CX.of (by decide +kernel) (Nat.le_of_ble_eq_true rfl) [some (.inr (some 132)), some (.inl k), some (.inl 1)] rfl ?_
  refine X.aload_n dX7_ofLight_0 rfl ?_
  refine X.getR dX7_ofLight_1 fi_X7_7 sh_132 rfl ?_
  refine X.bipush dX7_ofLight_4 (by decide) ?_
  refine X.iconst dX7_ofLight_6 ?_
  refine X.iload_n dX7_ofLight_7 rfl ?_
  refine X.imul (c := 4 * k) dX7_ofLight_8 rfl ?_
  refine X.iadd (c := 44 + (4 * k)) dX7_ofLight_9 rfl ?_
  refine X.iload_n dX7_ofLight_10 rfl ?_
  refine X.iadd (c := (44 + (4 * k)) + 1) dX7_ofLight_11 rfl ?_
  have q1 := SI.r6 hS k
  refine X.iald (v := v 6 k / 12) dX7_ofLight_12 sh_133 (by decide) (by omega) (ws_6r hv (by omega)) ?_
  exact X.iret dX7_ofLight_13 rfl rfl rfl
set_option maxHeartbeats 4000000 in
set_option maxRecDepth 100000 in
theorem c_ofLight_2 (M : Mem) (v : Vw) (hv : WA (M 133) v) (hS : SI v) (k : Int) (hk : 0 ≤ k ∧ k < v 0 1) : CX mX7_ofLight 0 [.inr (some 132), .inl k, .inl 2] M (some (.inl (v 7 k))) M := by
  have n0 := hS.n0
  have n1 := hS.n1
  have n2 := hS.n2
  refine CX.of (by decide +kernel) (Nat.le_of_ble_eq_true rfl) [some (.inr (some 132)), some (.inl k), some (.inl 2)] rfl ?_
  refine X.aload_n dX7_ofLight_0 rfl ?_
  refine X.getR dX7_ofLight_1 fi_X7_7 sh_132 rfl ?_
  refine X.bipush dX7_ofLight_4 (by decide) ?_
  refine X.iconst dX7_ofLight_6 ?_
  refine X.iload_n dX7_ofLight_7 rfl ?_
  refine X.imul (c := 4 * k) dX7_ofLight_8 rfl ?_
  refine X.iadd (c := 44 + (4 * k)) dX7_ofLight_9 rfl ?_
  refine X.iload_n dX7_ofLight_10 rfl ?_
  refine X.iadd (c := (44 + (4 * k)) + 2) dX7_ofLight_11 rfl ?_
  have q1 := SI.r7 hS k
  refine X.iald (v := v 7 k) dX7_ofLight_12 sh_133 (by decide) (by omega) (ws_7 hv (by omega)) ?_
  exact X.iret dX7_ofLight_13 rfl rfl rfl
set_option maxHeartbeats 4000000 in
set_option maxRecDepth 100000 in
theorem c_ofLight_3 (M : Mem) (v : Vw) (hv : WA (M 133) v) (hS : SI v) (k : Int) (hk : 0 ≤ k ∧ k < v 0 1) : CX mX7_ofLight 0 [.inr (some 132), .inl k, .inl 3] M (some (.inl (v 8 k))) M := by
  have n0 := hS.n0
  have n1 := hS.n1
  have n2 := hS.n2
  refine CX.of (by decide +kernel) (Nat.le_of_ble_eq_true rfl) [some (.inr (some 132)), some (.inl k), some (.inl 3)] rfl ?_
  refine X.aload_n dX7_ofLight_0 rfl ?_
  refine X.getR dX7_ofLight_1 fi_X7_7 sh_132 rfl ?_
  refine X.bipush dX7_ofLight_4 (by decide) ?_
  refine X.iconst dX7_ofLight_6 ?_
  refine X.iload_n dX7_ofLight_7 rfl ?_
  refine X.imul (c := 4 * k) dX7_ofLight_8 rfl ?_
  refine X.iadd (c := 44 + (4 * k)) dX7_ofLight_9 rfl ?_
  refine X.iload_n dX7_ofLight_10 rfl ?_
  refine X.iadd (c := (44 + (4 * k)) + 3) dX7_ofLight_11 rfl ?_
  have q1 := SI.r8 hS k
  refine X.iald (v := v 8 k) dX7_ofLight_12 sh_133 (by decide) (by omega) (ws_8 hv (by omega)) ?_
  exact X.iret dX7_ofLight_13 rfl rfl rfl
set_option maxHeartbeats 4000000 in
set_option maxRecDepth 100000 in
theorem c_misScout (M : Mem) (v : Vw) (hv : WA (M 133) v) (hS : SI v) (k : Int) (hk : inR k) : CX mX7_isScout 1 [.inr (some 132), .inl k] M (some (.inl (bi (0 ≤ k ∧ k ≤ v 0 0 - 1)))) M := by
  have n0 := hS.n0
  have n1 := hS.n1
  have n2 := hS.n2
  refine CX.of (by decide +kernel) (Nat.le_of_ble_eq_true rfl) [some (.inr (some 132)), some (.inl k)] rfl ?_
  refine X.iload_n dX7_isScout_0 rfl ?_
  refine X.iconst dX7_isScout_1 ?_
  refine X.aload_n dX7_isScout_2 rfl ?_
  refine X.getR dX7_isScout_3 fi_X7_7 sh_132 rfl ?_
  refine X.iconst dX7_isScout_6 ?_
  refine X.iald (v := v 0 0) dX7_isScout_7 sh_133 (by decide) (by decide) (ws_0_0 hv) ?_
  refine X.iconst dX7_isScout_8 ?_
  refine X.isub (c := (v 0 0) - 1) dX7_isScout_9 rfl ?_
  refine X.callS1 (As := [.inl k, .inl 0, .inl ((v 0 0) - 1)]) (rest := []) dX7_isScout_10 mk_X7_32 (c_in M k 0 (v 0 0 - 1) hk (by decide) ⟨by omega, by omega⟩) rfl (by decide) rfl (Nat.le_of_ble_eq_true rfl) ?_
  exact X.zret dX7_isScout_13 rfl (bi_01 _) rfl rfl
set_option maxHeartbeats 4000000 in
set_option maxRecDepth 100000 in
theorem c_misLight (M : Mem) (v : Vw) (hv : WA (M 133) v) (hS : SI v) (k : Int) (hk : inR k) : CX mX7_isLight 1 [.inr (some 132), .inl k] M (some (.inl (bi (0 ≤ k ∧ k ≤ v 0 1 - 1)))) M := by
  have n0 := hS.n0
  have n1 := hS.n1
  have n2 := hS.n2
  refine CX.of (by decide +kernel) (Nat.le_of_ble_eq_true rfl) [some (.inr (some 132)), some (.inl k)] rfl ?_
  refine X.iload_n dX7_isLight_0 rfl ?_
  refine X.iconst dX7_isLight_1 ?_
  refine X.aload_n dX7_isLight_2 rfl ?_
  refine X.getR dX7_isLight_3 fi_X7_7 sh_132 rfl ?_
  refine X.iconst dX7_isLight_6 ?_
  refine X.iald (v := v 0 1) dX7_isLight_7 sh_133 (by decide) (by decide) (ws_0_1 hv) ?_
  refine X.iconst dX7_isLight_8 ?_
  refine X.isub (c := (v 0 1) - 1) dX7_isLight_9 rfl ?_
  refine X.callS1 (As := [.inl k, .inl 0, .inl ((v 0 1) - 1)]) (rest := []) dX7_isLight_10 mk_X7_32 (c_in M k 0 (v 0 1 - 1) hk (by decide) ⟨by omega, by omega⟩) rfl (by decide) rfl (Nat.le_of_ble_eq_true rfl) ?_
  exact X.zret dX7_isLight_13 rfl (bi_01 _) rfl rfl
set_option maxHeartbeats 4000000 in
set_option maxRecDepth 100000 in
theorem c_cellOf (M : Mem) (v : Vw) (hv : WA (M 133) v) (hS : SI v) (k : Int) (hk : 0 ≤ k ∧ k < v 0 0) : CX mX7_cellOf 1 [.inr (some 132), .inl k] M (some (.inl (v 4 k))) M := by
  have n0 := hS.n0
  have n1 := hS.n1
  have n2 := hS.n2
  refine CX.of (by decide +kernel) (Nat.le_of_ble_eq_true rfl) [some (.inr (some 132)), some (.inl k)] rfl ?_
  refine X.aload_n dX7_cellOf_0 rfl ?_
  refine X.iload_n dX7_cellOf_1 rfl ?_
  refine X.iconst dX7_cellOf_2 ?_
  have q1 := SI.r4 hS k
  refine X.callV1 (As := [.inl k, .inl 1]) (rest := []) dX7_cellOf_3 mk_X7_43 sh_132 (c_ofScout_1 M v hv hS k (by omega)) rfl (by decide) rfl (Nat.le_of_ble_eq_true rfl) ?_
  refine X.aload_n dX7_cellOf_6 rfl ?_
  refine X.iload_n dX7_cellOf_7 rfl ?_
  refine X.iconst dX7_cellOf_8 ?_
  refine X.callV1 (As := [.inl k, .inl 2]) (rest := [.inl (v 4 k % 12)]) dX7_cellOf_9 mk_X7_43 sh_132 (c_ofScout_2 M v hv hS k (by omega)) rfl (by decide) rfl (Nat.le_of_ble_eq_true rfl) ?_
  refine X.callS1 (As := [.inl (v 4 k % 12), .inl (v 4 k / 12)]) (rest := []) dX7_cellOf_12 mk_X7_46 (c_at M (v 4 k % 12) (v 4 k / 12)) rfl (by decide) rfl (Nat.le_of_ble_eq_true rfl) ?_
  exact X.iret dX7_cellOf_15 rfl (congrArg (fun z => some (Sum.inl z : AV)) (by omega)) rfl
set_option maxHeartbeats 4000000 in
set_option maxRecDepth 100000 in
theorem c_mscoutIn (M : Mem) (v : Vw) (hv : WA (M 133) v) (hS : SI v) (c : Int) (hc : inR c) : CX mX7_scoutIn 2 [.inr (some 132), .inl c] M (some (.inl (sIn v c))) M := by
  have n0 := hS.n0
  have n1 := hS.n1
  have n2 := hS.n2
  refine CX.of (by decide +kernel) (Nat.le_of_ble_eq_true rfl) [some (.inr (some 132)), some (.inl c), none] rfl ?_
  refine X.iconst dX7_scoutIn_0 ?_
  refine X.istore_n (lv2 := [some (.inr (some 132)), some (.inl c), some (.inl 0)]) dX7_scoutIn_1 (Nat.le_of_ble_eq_true rfl) rfl ?_
  have L2 : ∀ k, 0 ≤ k → k ≤ (v 0 0) → VX mX7_scoutIn 2 2 [some (.inr (some 132)), some (.inl c), some (.inl k)] [] M (some (.inl (fst1 (fun k => v 4 k = c) (v 0 0 - k).toNat k))) M := by
    refine down_ind 0 (v 0 0) ?_ ?_
    · skip
      refine X.iload_n dX7_scoutIn_2 rfl ?_
      refine X.aload_n dX7_scoutIn_3 rfl ?_
      refine X.getR dX7_scoutIn_4 fi_X7_7 sh_132 rfl ?_
      refine X.iconst dX7_scoutIn_7 ?_
      refine X.iald (v := v 0 0) dX7_scoutIn_8 sh_133 (by decide) (by decide) (ws_0_0 hv) ?_
      refine X.icmp_ge (tgt := 29) dX7_scoutIn_9 (by decide) ⟨by omega, by omega⟩ ⟨by omega, by omega⟩ (fun h1 => ?_) (fun h => by exfalso; omega)
      refine X.bipush dX7_scoutIn_29 (by decide) ?_
      exact X.iret dX7_scoutIn_31 rfl (by rw [fst1_end]) rfl
    · intro k hk1 hk2 ihk
      refine X.iload_n dX7_scoutIn_2 rfl ?_
      refine X.aload_n dX7_scoutIn_3 rfl ?_
      refine X.getR dX7_scoutIn_4 fi_X7_7 sh_132 rfl ?_
      refine X.iconst dX7_scoutIn_7 ?_
      refine X.iald (v := v 0 0) dX7_scoutIn_8 sh_133 (by decide) (by decide) (ws_0_0 hv) ?_
      refine X.icmp_ge (tgt := 29) dX7_scoutIn_9 (by decide) ⟨by omega, by omega⟩ ⟨by omega, by omega⟩ (fun h => by exfalso; omega) (fun h2 => ?_)
      refine X.aload_n dX7_scoutIn_12 rfl ?_
      refine X.iload_n dX7_scoutIn_13 rfl ?_
      have q3 := SI.r4 hS k
      refine X.callV1 (As := [.inl k]) (rest := []) dX7_scoutIn_14 mk_X7_49 sh_132 (c_cellOf M v hv hS k (by omega)) rfl (by decide) rfl (Nat.le_of_ble_eq_true rfl) ?_
      refine X.iload_n dX7_scoutIn_17 rfl ?_
      refine X.icmp_ne (tgt := 23) dX7_scoutIn_18 (by decide) ⟨by omega, by omega⟩ hc (fun h18 => ?_) (fun h18 => ?_)
      · skip
        refine X.iinc (y := k + 1) (lv2 := [some (.inr (some 132)), some (.inl c), some (.inl (k + 1))]) dX7_scoutIn_23 rfl rfl rfl ?_
        refine X.goto (tgt := 2) dX7_scoutIn_26 (by decide) ?_
        rw [fst1_f hk2 h18]
        exact ihk
      · skip
        refine X.iload_n dX7_scoutIn_21 rfl ?_
        exact X.iret dX7_scoutIn_22 rfl (by rw [fst1_t hk2 h18]) rfl
  have e := L2 0 (by omega) (by omega)
  rw [Int.sub_zero] at e
  exact e
set_option maxHeartbeats 4000000 in
set_option maxRecDepth 100000 in
theorem c_misLit (M : Mem) (v : Vw) (hv : WA (M 133) v) (hS : SI v) (c : Int) (hc : 0 ≤ c ∧ c < 120) : CX mX7_isLit 2 [.inr (some 132), .inl c] M (some (.inl (bi (lit v c)))) M := by
  have n0 := hS.n0
  have n1 := hS.n1
  have n2 := hS.n2
  refine CX.of (by decide +kernel) (Nat.le_of_ble_eq_true rfl) [some (.inr (some 132)), some (.inl c), none, none] rfl ?_
  refine X.iconst dX7_isLit_0 ?_
  refine X.istore_n (lv2 := [some (.inr (some 132)), some (.inl c), some (.inl 0), none]) dX7_isLit_1 (Nat.le_of_ble_eq_true rfl) rfl ?_
  refine X.iconst dX7_isLit_2 ?_
  refine X.istore_n (lv2 := [some (.inr (some 132)), some (.inl c), some (.inl 0), some (.inl 0)]) dX7_isLit_3 (Nat.le_of_ble_eq_true rfl) rfl ?_
  have L4 : ∀ k, 0 ≤ k → k ≤ (v 0 1) → ∀ is : Int, is = 0 ∨ is = 1 → VX mX7_isLit 2 4 [some (.inr (some 132)), some (.inl c), some (.inl is), some (.inl k)] [] M (some (.inl (bi (is = 1 ∨ exU (fun k => 0 < v 8 k ∧ dist (v 6 k) c ≤ v 7 k) k (v 0 1))))) M := by
    refine down_ind 0 (v 0 1) ?_ ?_
    · skip
      intro is hi
      refine X.iload_n dX7_isLit_4 rfl ?_
      refine X.aload_n dX7_isLit_5 rfl ?_
      refine X.getR dX7_isLit_6 fi_X7_7 sh_132 rfl ?_
      refine X.iconst dX7_isLit_9 ?_
      refine X.iald (v := v 0 1) dX7_isLit_10 sh_133 (by decide) (by decide) (ws_0_1 hv) ?_
      refine X.icmp_ge (tgt := 67) dX7_isLit_11 (by decide) ⟨by omega, by omega⟩ ⟨by omega, by omega⟩ (fun h1 => ?_) (fun h => by exfalso; omega)
      refine X.iload_n dX7_isLit_67 rfl ?_
      exact X.zret dX7_isLit_68 rfl hi (by rw [← or_end hi (Int.le_refl _)]) rfl
    · intro k hk1 hk2 ihk
      intro is hi
      refine X.iload_n dX7_isLit_4 rfl ?_
      refine X.aload_n dX7_isLit_5 rfl ?_
      refine X.getR dX7_isLit_6 fi_X7_7 sh_132 rfl ?_
      refine X.iconst dX7_isLit_9 ?_
      refine X.iald (v := v 0 1) dX7_isLit_10 sh_133 (by decide) (by decide) (ws_0_1 hv) ?_
      refine X.icmp_ge (tgt := 67) dX7_isLit_11 (by decide) ⟨by omega, by omega⟩ ⟨by omega, by omega⟩ (fun h => by exfalso; omega) (fun h2 => ?_)
      refine X.iload_n dX7_isLit_14 rfl ?_
      refine X.if_ne (tgt := 55) dX7_isLit_15 (by decide) ⟨by omega, by omega⟩ (fun h3 => ?_) (fun h3 => ?_)
      · skip
        refine X.iconst dX7_isLit_55 ?_
        refine X.goto (tgt := 60) dX7_isLit_56 (by decide) ?_
        refine X.istore_n (lv2 := [some (.inr (some 132)), some (.inl c), some (.inl 1), some (.inl k)]) dX7_isLit_60 (Nat.le_of_ble_eq_true rfl) rfl ?_
        refine X.iinc (y := k + 1) (lv2 := [some (.inr (some 132)), some (.inl c), some (.inl 1), some (.inl (k + 1))]) dX7_isLit_61 rfl rfl rfl ?_
        refine X.goto (tgt := 4) dX7_isLit_64 (by decide) ?_
        rw [← or_t (P := fun k => 0 < v 8 k ∧ dist (v 6 k) c ≤ v 7 k) (k := k) (Or.inl (by omega))]
        exact ihk 1 (by omega)
      · skip
        refine X.aload_n dX7_isLit_18 rfl ?_
        refine X.iload_n dX7_isLit_19 rfl ?_
        refine X.iconst dX7_isLit_20 ?_
        have q4 := SI.r8 hS k
        refine X.callV1 (As := [.inl k, .inl 3]) (rest := []) dX7_isLit_21 mk_X7_53 sh_132 (c_ofLight_3 M v hv hS k (by omega)) rfl (by decide) rfl (Nat.le_of_ble_eq_true rfl) ?_
        refine X.if_le (tgt := 59) dX7_isLit_24 (by decide) ⟨by omega, by omega⟩ (fun h5 => ?_) (fun h5 => ?_)
        · skip
          refine X.iconst dX7_isLit_59 ?_
          refine X.istore_n (lv2 := [some (.inr (some 132)), some (.inl c), some (.inl 0), some (.inl k)]) dX7_isLit_60 (Nat.le_of_ble_eq_true rfl) rfl ?_
          refine X.iinc (y := k + 1) (lv2 := [some (.inr (some 132)), some (.inl c), some (.inl 0), some (.inl (k + 1))]) dX7_isLit_61 rfl rfl rfl ?_
          refine X.goto (tgt := 4) dX7_isLit_64 (by decide) ?_
          rw [← or_f (P := fun k => 0 < v 8 k ∧ dist (v 6 k) c ≤ v 7 k) (k := k) (by omega) (fun q => by have q1 := q.1; have q2 := q.2; rw [dist_comm] at q2; omega)]
          exact ihk 0 (by omega)
        · skip
          refine X.iload_n dX7_isLit_27 rfl ?_
          refine X.aload_n dX7_isLit_28 rfl ?_
          refine X.iload_n dX7_isLit_29 rfl ?_
          refine X.iconst dX7_isLit_30 ?_
          have q6 := SI.r6 hS k
          refine X.callV1 (As := [.inl k, .inl 0]) (rest := [.inl c]) dX7_isLit_31 mk_X7_53 sh_132 (c_ofLight_0 M v hv hS k (by omega)) rfl (by decide) rfl (Nat.le_of_ble_eq_true rfl) ?_
          refine X.aload_n dX7_isLit_34 rfl ?_
          refine X.iload_n dX7_isLit_35 rfl ?_
          refine X.iconst dX7_isLit_36 ?_
          refine X.callV1 (As := [.inl k, .inl 1]) (rest := [.inl (v 6 k % 12), .inl c]) dX7_isLit_37 mk_X7_53 sh_132 (c_ofLight_1 M v hv hS k (by omega)) rfl (by decide) rfl (Nat.le_of_ble_eq_true rfl) ?_
          refine X.callS1 (As := [.inl (v 6 k % 12), .inl (v 6 k / 12)]) (rest := [.inl c]) dX7_isLit_40 mk_X7_46 (show CX mX7_at 0 [.inl (v 6 k % 12), .inl (v 6 k / 12)] M (some (.inl (v 6 k))) M from by have e := c_at M (v 6 k % 12) (v 6 k / 12); rw [show v 6 k / 12 * 12 + v 6 k % 12 = v 6 k by omega] at e; exact e) rfl (by decide) rfl (Nat.le_of_ble_eq_true rfl) ?_
          refine X.callS1 (As := [.inl c, .inl (v 6 k)]) (rest := []) dX7_isLit_43 mk_X7_56 (c_distance M c (v 6 k) (by omega) (by omega)) rfl (by decide) rfl (Nat.le_of_ble_eq_true rfl) ?_
          have hd := dist_le hc (hS.r6 k)
          refine X.aload_n dX7_isLit_46 rfl ?_
          refine X.iload_n dX7_isLit_47 rfl ?_
          refine X.iconst dX7_isLit_48 ?_
          have q7 := SI.r7 hS k
          refine X.callV1 (As := [.inl k, .inl 2]) (rest := [.inl (dist c (v 6 k))]) dX7_isLit_49 mk_X7_53 sh_132 (c_ofLight_2 M v hv hS k (by omega)) rfl (by decide) rfl (Nat.le_of_ble_eq_true rfl) ?_
          refine X.icmp_gt (tgt := 59) dX7_isLit_52 (by decide) ⟨by omega, by omega⟩ ⟨by omega, by omega⟩ (fun h52 => ?_) (fun h52 => ?_)
          · skip
            refine X.iconst dX7_isLit_59 ?_
            refine X.istore_n (lv2 := [some (.inr (some 132)), some (.inl c), some (.inl 0), some (.inl k)]) dX7_isLit_60 (Nat.le_of_ble_eq_true rfl) rfl ?_
            refine X.iinc (y := k + 1) (lv2 := [some (.inr (some 132)), some (.inl c), some (.inl 0), some (.inl (k + 1))]) dX7_isLit_61 rfl rfl rfl ?_
            refine X.goto (tgt := 4) dX7_isLit_64 (by decide) ?_
            rw [← or_f (P := fun k => 0 < v 8 k ∧ dist (v 6 k) c ≤ v 7 k) (k := k) (by omega) (fun q => by have q1 := q.1; have q2 := q.2; rw [dist_comm] at q2; omega)]
            exact ihk 0 (by omega)
          · skip
            have h52 : dist c (v 6 k) ≤ v 7 k := by omega
            refine X.iconst dX7_isLit_55 ?_
            refine X.goto (tgt := 60) dX7_isLit_56 (by decide) ?_
            refine X.istore_n (lv2 := [some (.inr (some 132)), some (.inl c), some (.inl 1), some (.inl k)]) dX7_isLit_60 (Nat.le_of_ble_eq_true rfl) rfl ?_
            refine X.iinc (y := k + 1) (lv2 := [some (.inr (some 132)), some (.inl c), some (.inl 1), some (.inl (k + 1))]) dX7_isLit_61 rfl rfl rfl ?_
            refine X.goto (tgt := 4) dX7_isLit_64 (by decide) ?_
            rw [← or_t (P := fun k => 0 < v 8 k ∧ dist (v 6 k) c ≤ v 7 k) (k := k) (Or.inr ⟨hk2, by omega, by rw [dist_comm]; exact h52⟩)]
            exact ihk 1 (by omega)
  have e := L4 0 (by omega) (by omega) 0 (by omega)
  rw [or_0] at e
  exact e
set_option maxHeartbeats 4000000 in
set_option maxRecDepth 100000 in
theorem c_misFree (M : Mem) (v : Vw) (hv : WA (M 133) v) (hS : SI v) (a b : Int) (ha : 0 ≤ a ∧ a < 120) (hb : 0 ≤ b ∧ b < 120) : CX mX7_isFree 2 [.inr (some 132), .inl a, .inl b] M (some (.inl (bi (free v a b)))) M := by
  have n0 := hS.n0
  have n1 := hS.n1
  have n2 := hS.n2
  have hd := dist_le ha hb
  refine CX.of (by decide +kernel) (Nat.le_of_ble_eq_true rfl) [some (.inr (some 132)), some (.inl a), some (.inl b), none, none, none, none, none, none, none, none, none] rfl ?_
  refine X.iload_n dX7_isFree_0 rfl ?_
  refine X.iload_n dX7_isFree_1 rfl ?_
  refine X.callS1 (As := [.inl a, .inl b]) (rest := []) dX7_isFree_2 mk_X7_56 (c_distance M a b (by omega) (by omega)) rfl (by decide) rfl (Nat.le_of_ble_eq_true rfl) ?_
  refine X.istore_n (lv2 := [some (.inr (some 132)), some (.inl a), some (.inl b), some (.inl (dist a b)), none, none, none, none, none, none, none, none]) dX7_isFree_5 (Nat.le_of_ble_eq_true rfl) rfl ?_
  refine X.iload_n dX7_isFree_6 rfl ?_
  refine X.bipush dX7_isFree_7 (by decide) ?_
  refine X.irem (c := a % 12) dX7_isFree_9 (by omega) (by decide) rfl ?_
  refine X.istore (lv2 := [some (.inr (some 132)), some (.inl a), some (.inl b), some (.inl (dist a b)), some (.inl (a % 12)), none, none, none, none, none, none, none]) dX7_isFree_10 (Nat.le_of_ble_eq_true rfl) rfl ?_
  refine X.iload_n dX7_isFree_12 rfl ?_
  refine X.bipush dX7_isFree_13 (by decide) ?_
  refine X.idiv (c := a / 12) dX7_isFree_15 (by omega) (by decide) rfl ?_
  refine X.istore (lv2 := [some (.inr (some 132)), some (.inl a), some (.inl b), some (.inl (dist a b)), some (.inl (a % 12)), some (.inl (a / 12)), none, none, none, none, none, none]) dX7_isFree_16 (Nat.le_of_ble_eq_true rfl) rfl ?_
  refine X.iconst dX7_isFree_18 ?_
  refine X.aload_n dX7_isFree_19 rfl ?_
  refine X.getR dX7_isFree_20 fi_X7_7 sh_132 rfl ?_
  refine X.bipush dX7_isFree_23 (by decide) ?_
  refine X.iload_n dX7_isFree_25 rfl ?_
  refine X.iadd (c := 68 + a) dX7_isFree_26 rfl ?_
  have q1 := SI.r1 hS a
  refine X.iald (v := v 1 a) dX7_isFree_27 sh_133 (by decide) (by omega) (ws_1 hv (by omega)) ?_
  refine X.imul (c := 2 * (v 1 a)) dX7_isFree_28 rfl ?_
  refine X.iconst dX7_isFree_29 ?_
  refine X.iadd (c := (2 * (v 1 a)) + 1) dX7_isFree_30 rfl ?_
  refine X.istore (lv2 := [some (.inr (some 132)), some (.inl a), some (.inl b), some (.inl (dist a b)), some (.inl (a % 12)), some (.inl (a / 12)), some (.inl ((2 * (v 1 a)) + 1)), none, none, none, none, none]) dX7_isFree_31 (Nat.le_of_ble_eq_true rfl) rfl ?_
  refine X.iconst dX7_isFree_33 ?_
  refine X.aload_n dX7_isFree_34 rfl ?_
  refine X.getR dX7_isFree_35 fi_X7_7 sh_132 rfl ?_
  refine X.bipush dX7_isFree_38 (by decide) ?_
  refine X.iload_n dX7_isFree_40 rfl ?_
  refine X.iadd (c := 68 + b) dX7_isFree_41 rfl ?_
  have q2 := SI.r1 hS b
  refine X.iald (v := v 1 b) dX7_isFree_42 sh_133 (by decide) (by omega) (ws_1 hv (by omega)) ?_
  refine X.imul (c := 2 * (v 1 b)) dX7_isFree_43 rfl ?_
  refine X.iconst dX7_isFree_44 ?_
  refine X.iadd (c := (2 * (v 1 b)) + 1) dX7_isFree_45 rfl ?_
  refine X.istore (lv2 := [some (.inr (some 132)), some (.inl a), some (.inl b), some (.inl (dist a b)), some (.inl (a % 12)), some (.inl (a / 12)), some (.inl ((2 * (v 1 a)) + 1)), some (.inl ((2 * (v 1 b)) + 1)), none, none, none, none]) dX7_isFree_46 (Nat.le_of_ble_eq_true rfl) rfl ?_
  refine X.iconst dX7_isFree_48 ?_
  refine X.istore (lv2 := [some (.inr (some 132)), some (.inl a), some (.inl b), some (.inl (dist a b)), some (.inl (a % 12)), some (.inl (a / 12)), some (.inl ((2 * (v 1 a)) + 1)), some (.inl ((2 * (v 1 b)) + 1)), some (.inl 1), none, none, none]) dX7_isFree_49 (Nat.le_of_ble_eq_true rfl) rfl ?_
  refine X.iconst dX7_isFree_51 ?_
  refine X.istore (lv2 := [some (.inr (some 132)), some (.inl a), some (.inl b), some (.inl (dist a b)), some (.inl (a % 12)), some (.inl (a / 12)), some (.inl ((2 * (v 1 a)) + 1)), some (.inl ((2 * (v 1 b)) + 1)), some (.inl 1), some (.inl 1), none, none]) dX7_isFree_52 (Nat.le_of_ble_eq_true rfl) rfl ?_
  have L54 : ∀ i, 1 ≤ i → i ≤ (imax 1 (dist a b)) → ∀ is : Int, ∀ x10 : Option AV, ∀ x11 : Option AV, is = 0 ∨ is = 1 → VX mX7_isFree 2 54 [some (.inr (some 132)), some (.inl a), some (.inl b), some (.inl (dist a b)), some (.inl (a % 12)), some (.inl (a / 12)), some (.inl ((2 * v 1 a) + 1)), some (.inl ((2 * v 1 b) + 1)), some (.inl is), some (.inl i), x10, x11] [] M (some (.inl (bi (is = 1 ∧ allU (okAt v a b) i (dist a b))))) M := by
    refine down_ind 1 (imax 1 (dist a b)) ?_ ?_
    · skip
      intro is x10 x11 hi
      have hm := imax_r (a := 1) (b := dist a b)
      refine X.iload dX7_isFree_54 rfl ?_
      refine X.iload_n dX7_isFree_56 rfl ?_
      refine X.icmp_ge (tgt := 162) dX7_isFree_57 (by decide) ⟨by omega, by omega⟩ ⟨by omega, by omega⟩ (fun h3 => ?_) (fun h => by exfalso; omega)
      refine X.iload dX7_isFree_162 rfl ?_
      exact X.zret dX7_isFree_164 rfl hi (by rw [← and_end hi (by omega)]) rfl
    · intro i hi1 hi2 ihi
      intro is x10 x11 hi
      have hm := imax_r (a := 1) (b := dist a b)
      have hid : i < dist a b := by omega
      have hic := inner_cell ha hb hi1 hid
      refine X.iload dX7_isFree_54 rfl ?_
      refine X.iload_n dX7_isFree_56 rfl ?_
      refine X.icmp_ge (tgt := 162) dX7_isFree_57 (by decide) ⟨by omega, by omega⟩ ⟨by omega, by omega⟩ (fun h => by exfalso; omega) (fun h4 => ?_)
      refine X.iload dX7_isFree_60 rfl ?_
      refine X.if_eq (tgt := 162) dX7_isFree_62 (by decide) ⟨by omega, by omega⟩ (fun h5 => ?_) (fun h5 => ?_)
      · skip
        refine X.iload dX7_isFree_162 rfl ?_
        exact X.zret dX7_isFree_164 rfl hi (by rw [← and_0 (by omega)]) rfl
      · skip
        refine X.iload dX7_isFree_65 rfl ?_
        refine X.iload_n dX7_isFree_67 rfl ?_
        refine X.bipush dX7_isFree_68 (by decide) ?_
        refine X.irem (c := b % 12) dX7_isFree_70 (by omega) (by decide) rfl ?_
        refine X.iload dX7_isFree_71 rfl ?_
        refine X.isub (c := (b % 12) - (a % 12)) dX7_isFree_73 rfl ?_
        refine X.iload dX7_isFree_74 rfl ?_
        refine X.iload_n dX7_isFree_76 rfl ?_
        refine X.callS1 (As := [.inl (a % 12), .inl ((b % 12) - (a % 12)), .inl i, .inl (dist a b)]) (rest := []) dX7_isFree_77 mk_X7_62 (c_inner M (a % 12) ((b % 12) - (a % 12)) i (dist a b) (by omega) (by omega) (by omega)) rfl (by decide) rfl (Nat.le_of_ble_eq_true rfl) ?_
        refine X.iload dX7_isFree_80 rfl ?_
        refine X.iload_n dX7_isFree_82 rfl ?_
        refine X.bipush dX7_isFree_83 (by decide) ?_
        refine X.idiv (c := b / 12) dX7_isFree_85 (by omega) (by decide) rfl ?_
        refine X.iload dX7_isFree_86 rfl ?_
        refine X.isub (c := (b / 12) - (a / 12)) dX7_isFree_88 rfl ?_
        refine X.iload dX7_isFree_89 rfl ?_
        refine X.iload_n dX7_isFree_91 rfl ?_
        refine X.callS1 (As := [.inl (a / 12), .inl ((b / 12) - (a / 12)), .inl i, .inl (dist a b)]) (rest := [.inl ((a % 12) + (2 * (i * ((b % 12) - (a % 12))) + (dist a b)) / (2 * (dist a b)))]) dX7_isFree_92 mk_X7_62 (c_inner M (a / 12) ((b / 12) - (a / 12)) i (dist a b) (by omega) (by omega) (by omega)) rfl (by decide) rfl (Nat.le_of_ble_eq_true rfl) ?_
        refine X.callS1 (As := [.inl ((a % 12) + (2 * (i * ((b % 12) - (a % 12))) + (dist a b)) / (2 * (dist a b))), .inl ((a / 12) + (2 * (i * ((b / 12) - (a / 12))) + (dist a b)) / (2 * (dist a b)))]) (rest := []) dX7_isFree_95 mk_X7_46 (show CX mX7_at 0 [.inl ((a % 12) + (2 * (i * ((b % 12) - (a % 12))) + (dist a b)) / (2 * (dist a b))), .inl ((a / 12) + (2 * (i * ((b / 12) - (a / 12))) + (dist a b)) / (2 * (dist a b)))] M (some (.inl (inner a b (dist a b) i))) M from c_at M _ _) rfl (by decide) rfl (Nat.le_of_ble_eq_true rfl) ?_
        refine X.istore (lv2 := [some (.inr (some 132)), some (.inl a), some (.inl b), some (.inl (dist a b)), some (.inl (a % 12)), some (.inl (a / 12)), some (.inl ((2 * v 1 a) + 1)), some (.inl ((2 * v 1 b) + 1)), some (.inl is), some (.inl i), some (.inl (inner a b (dist a b) i)), x11]) dX7_isFree_98 (Nat.le_of_ble_eq_true rfl) rfl ?_
        refine X.iconst dX7_isFree_100 ?_
        refine X.aload_n dX7_isFree_101 rfl ?_
        refine X.getR dX7_isFree_102 fi_X7_7 sh_132 rfl ?_
        refine X.bipush dX7_isFree_105 (by decide) ?_
        refine X.iload dX7_isFree_107 rfl ?_
        refine X.iadd (c := 68 + (inner a b (dist a b) i)) dX7_isFree_109 rfl ?_
        have q6 := SI.r1 hS (inner a b (dist a b) i)
        refine X.iald (v := v 1 (inner a b (dist a b) i)) dX7_isFree_110 sh_133 (by decide) (by omega) (ws_1 hv (by omega)) ?_
        refine X.imul (c := 2 * (v 1 (inner a b (dist a b) i))) dX7_isFree_111 rfl ?_
        refine X.bipush dX7_isFree_112 (by decide) ?_
        refine X.aload_n dX7_isFree_114 rfl ?_
        refine X.getR dX7_isFree_115 fi_X7_7 sh_132 rfl ?_
        refine X.sipush dX7_isFree_118 (by decide) ?_
        refine X.iload dX7_isFree_121 rfl ?_
        refine X.iadd (c := 188 + (inner a b (dist a b) i)) dX7_isFree_123 rfl ?_
        have q7 := SI.r2 hS (inner a b (dist a b) i)
        refine X.iald (v := v 2 (inner a b (dist a b) i)) dX7_isFree_124 sh_133 (by decide) (by omega) (ws_2 hv (by omega)) ?_
        refine X.imul (c := 100 * (v 2 (inner a b (dist a b) i))) dX7_isFree_125 rfl ?_
        refine X.iadd (c := (2 * (v 1 (inner a b (dist a b) i))) + (100 * (v 2 (inner a b (dist a b) i)))) dX7_isFree_126 rfl ?_
        refine X.istore (lv2 := [some (.inr (some 132)), some (.inl a), some (.inl b), some (.inl (dist a b)), some (.inl (a % 12)), some (.inl (a / 12)), some (.inl ((2 * v 1 a) + 1)), some (.inl ((2 * v 1 b) + 1)), some (.inl is), some (.inl i), some (.inl (inner a b (dist a b) i)), some (.inl ((2 * (v 1 (inner a b (dist a b) i))) + (100 * (v 2 (inner a b (dist a b) i)))))]) dX7_isFree_127 (Nat.le_of_ble_eq_true rfl) rfl ?_
        refine X.iload dX7_isFree_129 rfl ?_
        refine X.iload dX7_isFree_131 rfl ?_
        refine X.iload_n dX7_isFree_133 rfl ?_
        refine X.iload dX7_isFree_134 rfl ?_
        refine X.isub (c := (dist a b) - i) dX7_isFree_136 rfl ?_
        have hA := hS.r1 a
        have hB := hS.r1 b
        have m1 := mulb (a := 2 * v 1 a + 1) (b := dist a b - i) (n := 19) (by omega) (by omega) (by omega) (by omega)
        have m2 := mulb (a := 2 * v 1 b + 1) (b := i) (n := 19) (by omega) (by omega) (by omega) (by omega)
        refine X.imul (c := ((2 * v 1 a) + 1) * ((dist a b) - i)) dX7_isFree_137 rfl ?_
        refine X.iload dX7_isFree_138 rfl ?_
        refine X.iload dX7_isFree_140 rfl ?_
        refine X.imul (c := ((2 * v 1 b) + 1) * i) dX7_isFree_142 rfl ?_
        refine X.iadd (c := (((2 * v 1 a) + 1) * ((dist a b) - i)) + (((2 * v 1 b) + 1) * i)) dX7_isFree_143 rfl ?_
        refine X.iload_n dX7_isFree_144 rfl ?_
        refine X.idiv (c := ((2 * v 1 a + 1) * (dist a b - i) + (2 * v 1 b + 1) * i) / dist a b) dX7_isFree_145 ⟨by omega, by omega⟩ ⟨by omega, by omega⟩ rfl ?_
        have hq := Int.ediv_nonneg (a := (2 * v 1 a + 1) * (dist a b - i) + (2 * v 1 b + 1) * i) (b := dist a b) (by omega) (by omega)
        have hq2 := Int.ediv_le_self (dist a b) (a := (2 * v 1 a + 1) * (dist a b - i) + (2 * v 1 b + 1) * i) (by omega)
        have hq3 := hS.r1 (inner a b (dist a b) i)
        have hq4 := hS.r2 (inner a b (dist a b) i)
        refine X.icmp_gt (tgt := 153) dX7_isFree_146 (by decide) ⟨by omega, by omega⟩ ⟨by omega, by omega⟩ (fun h146 => ?_) (fun h146 => ?_)
        · skip
          refine X.iconst dX7_isFree_153 ?_
          refine X.istore (lv2 := [some (.inr (some 132)), some (.inl a), some (.inl b), some (.inl (dist a b)), some (.inl (a % 12)), some (.inl (a / 12)), some (.inl ((2 * v 1 a) + 1)), some (.inl ((2 * v 1 b) + 1)), some (.inl 0), some (.inl i), some (.inl (inner a b (dist a b) i)), some (.inl ((2 * (v 1 (inner a b (dist a b) i))) + (100 * (v 2 (inner a b (dist a b) i)))))]) dX7_isFree_154 (Nat.le_of_ble_eq_true rfl) rfl ?_
          refine X.iinc (y := i + 1) (lv2 := [some (.inr (some 132)), some (.inl a), some (.inl b), some (.inl (dist a b)), some (.inl (a % 12)), some (.inl (a / 12)), some (.inl ((2 * v 1 a) + 1)), some (.inl ((2 * v 1 b) + 1)), some (.inl 0), some (.inl (i + 1)), some (.inl (inner a b (dist a b) i)), some (.inl ((2 * (v 1 (inner a b (dist a b) i))) + (100 * (v 2 (inner a b (dist a b) i)))))]) dX7_isFree_156 rfl rfl rfl ?_
          refine X.goto (tgt := 54) dX7_isFree_159 (by decide) ?_
          rw [← and_f (P := okAt v a b) (k := i) hid (by unfold okAt; omega)]
          exact ihi 0 (some (.inl (inner a b (dist a b) i))) (some (.inl ((2 * (v 1 (inner a b (dist a b) i))) + (100 * (v 2 (inner a b (dist a b) i)))))) (by omega)
        · skip
          refine X.iconst dX7_isFree_149 ?_
          refine X.goto (tgt := 154) dX7_isFree_150 (by decide) ?_
          refine X.istore (lv2 := [some (.inr (some 132)), some (.inl a), some (.inl b), some (.inl (dist a b)), some (.inl (a % 12)), some (.inl (a / 12)), some (.inl ((2 * v 1 a) + 1)), some (.inl ((2 * v 1 b) + 1)), some (.inl 1), some (.inl i), some (.inl (inner a b (dist a b) i)), some (.inl ((2 * (v 1 (inner a b (dist a b) i))) + (100 * (v 2 (inner a b (dist a b) i)))))]) dX7_isFree_154 (Nat.le_of_ble_eq_true rfl) rfl ?_
          refine X.iinc (y := i + 1) (lv2 := [some (.inr (some 132)), some (.inl a), some (.inl b), some (.inl (dist a b)), some (.inl (a % 12)), some (.inl (a / 12)), some (.inl ((2 * v 1 a) + 1)), some (.inl ((2 * v 1 b) + 1)), some (.inl 1), some (.inl (i + 1)), some (.inl (inner a b (dist a b) i)), some (.inl ((2 * (v 1 (inner a b (dist a b) i))) + (100 * (v 2 (inner a b (dist a b) i)))))]) dX7_isFree_156 rfl rfl rfl ?_
          refine X.goto (tgt := 54) dX7_isFree_159 (by decide) ?_
          rw [← and_t (P := okAt v a b) (k := i) (by omega) (by unfold okAt; omega)]
          exact ihi 1 (some (.inl (inner a b (dist a b) i))) (some (.inl ((2 * (v 1 (inner a b (dist a b) i))) + (100 * (v 2 (inner a b (dist a b) i)))))) (by omega)
  have e := L54 1 (by omega) (imax_r).1 1 none none (by omega)
  rw [and_1] at e
  exact e
set_option maxHeartbeats 4000000 in
set_option maxRecDepth 100000 in
theorem c_isSeenFrom (M : Mem) (v : Vw) (hv : WA (M 133) v) (hS : SI v) (a r c : Int) (ha : 0 ≤ a ∧ a < 120) (hr : 0 ≤ r ∧ r ≤ 8) (hc : 0 ≤ c ∧ c < 120) : CX mX7_isSeenFrom 3 [.inr (some 132), .inl a, .inl r, .inl c] M (some (.inl (bi (see v a r c)))) M := by
  have n0 := hS.n0
  have n1 := hS.n1
  have n2 := hS.n2
  have hd := dist_le ha hc
  refine CX.of (by decide +kernel) (Nat.le_of_ble_eq_true rfl) [some (.inr (some 132)), some (.inl a), some (.inl r), some (.inl c), none] rfl ?_
  refine X.iload_n dX7_isSeenFrom_0 rfl ?_
  refine X.iload_n dX7_isSeenFrom_1 rfl ?_
  refine X.callS1 (As := [.inl a, .inl c]) (rest := []) dX7_isSeenFrom_2 mk_X7_56 (c_distance M a c (by omega) (by omega)) rfl (by decide) rfl (Nat.le_of_ble_eq_true rfl) ?_
  refine X.istore (lv2 := [some (.inr (some 132)), some (.inl a), some (.inl r), some (.inl c), some (.inl (dist a c))]) dX7_isSeenFrom_5 (Nat.le_of_ble_eq_true rfl) rfl ?_
  refine X.iload dX7_isSeenFrom_7 rfl ?_
  refine X.iload_n dX7_isSeenFrom_9 rfl ?_
  refine X.icmp_le (tgt := 29) dX7_isSeenFrom_10 (by decide) ⟨by omega, by omega⟩ ⟨by omega, by omega⟩ (fun h1 => ?_) (fun h1 => ?_)
  · skip
    refine X.aload_n dX7_isSeenFrom_29 rfl ?_
    refine X.iload_n dX7_isSeenFrom_30 rfl ?_
    refine X.iload_n dX7_isSeenFrom_31 rfl ?_
    by_cases hf : free v a c
    · skip
      refine X.callV1 (As := [.inl a, .inl c]) (rest := []) dX7_isSeenFrom_32 mk_X7_70 sh_132 (CX.bt (c_misFree M v hv hS a c (by omega) (by omega)) hf) rfl (by decide) rfl (Nat.le_of_ble_eq_true rfl) ?_
      refine X.if_eq (tgt := 42) dX7_isSeenFrom_35 (by decide) (by decide) (fun h => absurd h (by decide)) (fun h2 => ?_)
      refine X.iconst dX7_isSeenFrom_38 ?_
      refine X.goto (tgt := 43) dX7_isSeenFrom_39 (by decide) ?_
      exact X.zret dX7_isSeenFrom_43 rfl (by decide) (by rw [bi_t (show see v a r c from ⟨Or.inl (by omega), hf⟩)]) rfl
    · skip
      refine X.callV1 (As := [.inl a, .inl c]) (rest := []) dX7_isSeenFrom_32 mk_X7_70 sh_132 (CX.bf (c_misFree M v hv hS a c (by omega) (by omega)) hf) rfl (by decide) rfl (Nat.le_of_ble_eq_true rfl) ?_
      refine X.if_eq (tgt := 42) dX7_isSeenFrom_35 (by decide) (by decide) (fun h3 => ?_) (fun h => absurd h (by decide))
      refine X.iconst dX7_isSeenFrom_42 ?_
      exact X.zret dX7_isSeenFrom_43 rfl (by decide) (by rw [bi_f (fun q : see v a r c => hf q.2)]) rfl
  · skip
    refine X.iload dX7_isSeenFrom_13 rfl ?_
    refine X.iconst dX7_isSeenFrom_15 ?_
    refine X.iload_n dX7_isSeenFrom_16 rfl ?_
    refine X.imul (c := 2 * r) dX7_isSeenFrom_17 rfl ?_
    refine X.icmp_gt (tgt := 42) dX7_isSeenFrom_18 (by decide) ⟨by omega, by omega⟩ ⟨by omega, by omega⟩ (fun h4 => ?_) (fun h4 => ?_)
    · skip
      refine X.iconst dX7_isSeenFrom_42 ?_
      exact X.zret dX7_isSeenFrom_43 rfl (by decide) (by rw [bi_f (fun q : see v a r c => by rcases q.1 with q1 | ⟨q1, q2⟩ <;> first | omega | exact hl q2)]) rfl
    · skip
      refine X.aload_n dX7_isSeenFrom_21 rfl ?_
      refine X.iload_n dX7_isSeenFrom_22 rfl ?_
      by_cases hl : lit v c
      · skip
        refine X.callV1 (As := [.inl c]) (rest := []) dX7_isSeenFrom_23 mk_X7_66 sh_132 (CX.bt (c_misLit M v hv hS c (by omega)) hl) rfl (by decide) rfl (Nat.le_of_ble_eq_true rfl) ?_
        refine X.if_eq (tgt := 42) dX7_isSeenFrom_26 (by decide) (by decide) (fun h => absurd h (by decide)) (fun h5 => ?_)
        refine X.aload_n dX7_isSeenFrom_29 rfl ?_
        refine X.iload_n dX7_isSeenFrom_30 rfl ?_
        refine X.iload_n dX7_isSeenFrom_31 rfl ?_
        by_cases hf : free v a c
        · skip
          refine X.callV1 (As := [.inl a, .inl c]) (rest := []) dX7_isSeenFrom_32 mk_X7_70 sh_132 (CX.bt (c_misFree M v hv hS a c (by omega) (by omega)) hf) rfl (by decide) rfl (Nat.le_of_ble_eq_true rfl) ?_
          refine X.if_eq (tgt := 42) dX7_isSeenFrom_35 (by decide) (by decide) (fun h => absurd h (by decide)) (fun h6 => ?_)
          refine X.iconst dX7_isSeenFrom_38 ?_
          refine X.goto (tgt := 43) dX7_isSeenFrom_39 (by decide) ?_
          exact X.zret dX7_isSeenFrom_43 rfl (by decide) (by rw [bi_t (show see v a r c from ⟨Or.inr ⟨by omega, hl⟩, hf⟩)]) rfl
        · skip
          refine X.callV1 (As := [.inl a, .inl c]) (rest := []) dX7_isSeenFrom_32 mk_X7_70 sh_132 (CX.bf (c_misFree M v hv hS a c (by omega) (by omega)) hf) rfl (by decide) rfl (Nat.le_of_ble_eq_true rfl) ?_
          refine X.if_eq (tgt := 42) dX7_isSeenFrom_35 (by decide) (by decide) (fun h7 => ?_) (fun h => absurd h (by decide))
          refine X.iconst dX7_isSeenFrom_42 ?_
          exact X.zret dX7_isSeenFrom_43 rfl (by decide) (by rw [bi_f (fun q : see v a r c => hf q.2)]) rfl
      · skip
        refine X.callV1 (As := [.inl c]) (rest := []) dX7_isSeenFrom_23 mk_X7_66 sh_132 (CX.bf (c_misLit M v hv hS c (by omega)) hl) rfl (by decide) rfl (Nat.le_of_ble_eq_true rfl) ?_
        refine X.if_eq (tgt := 42) dX7_isSeenFrom_26 (by decide) (by decide) (fun h8 => ?_) (fun h => absurd h (by decide))
        refine X.iconst dX7_isSeenFrom_42 ?_
        exact X.zret dX7_isSeenFrom_43 rfl (by decide) (by rw [bi_f (fun q : see v a r c => by rcases q.1 with q1 | ⟨q1, q2⟩ <;> first | omega | exact hl q2)]) rfl
set_option maxHeartbeats 4000000 in
set_option maxRecDepth 100000 in
theorem c_msees (M : Mem) (v : Vw) (hv : WA (M 133) v) (hS : SI v) (k c : Int) (hk : 0 ≤ k ∧ k < v 0 0) (hc : 0 ≤ c ∧ c < 120) : CX mX7_sees 4 [.inr (some 132), .inl k, .inl c] M (some (.inl (bi (sees v k c)))) M := by
  have n0 := hS.n0
  have n1 := hS.n1
  have n2 := hS.n2
  refine CX.of (by decide +kernel) (Nat.le_of_ble_eq_true rfl) [some (.inr (some 132)), some (.inl k), some (.inl c)] rfl ?_
  refine X.aload_n dX7_sees_0 rfl ?_
  refine X.aload_n dX7_sees_1 rfl ?_
  refine X.iload_n dX7_sees_2 rfl ?_
  have q1 := SI.r4 hS k
  refine X.callV1 (As := [.inl k]) (rest := [.inr (some 132)]) dX7_sees_3 mk_X7_49 sh_132 (c_cellOf M v hv hS k (by omega)) rfl (by decide) rfl (Nat.le_of_ble_eq_true rfl) ?_
  refine X.aload_n dX7_sees_6 rfl ?_
  refine X.iload_n dX7_sees_7 rfl ?_
  refine X.iconst dX7_sees_8 ?_
  have q2 := SI.r5 hS k
  refine X.callV1 (As := [.inl k, .inl 3]) (rest := [.inl (v 4 k), .inr (some 132)]) dX7_sees_9 mk_X7_43 sh_132 (c_ofScout_3 M v hv hS k (by omega)) rfl (by decide) rfl (Nat.le_of_ble_eq_true rfl) ?_
  refine X.iload_n dX7_sees_12 rfl ?_
  refine X.callV1 (As := [.inl (v 4 k), .inl (v 5 k), .inl c]) (rest := []) dX7_sees_13 mk_X7_74 sh_132 (c_isSeenFrom M v hv hS (v 4 k) (v 5 k) c (by omega) (by omega) (by omega)) rfl (by decide) rfl (Nat.le_of_ble_eq_true rfl) ?_
  exact X.zret dX7_sees_16 rfl (bi_01 _) rfl rfl
set_option maxHeartbeats 4000000 in
set_option maxRecDepth 100000 in
theorem c_sideSees (M : Mem) (v : Vw) (hv : WA (M 133) v) (hS : SI v) (s c : Int) (hs : inR s) (hc : 0 ≤ c ∧ c < 120) : CX mX7_sideSees 5 [.inr (some 132), .inl s, .inl c] M (some (.inl (bi (sSees v s c)))) M := by
  have n0 := hS.n0
  have n1 := hS.n1
  have n2 := hS.n2
  refine CX.of (by decide +kernel) (Nat.le_of_ble_eq_true rfl) [some (.inr (some 132)), some (.inl s), some (.inl c), none, none] rfl ?_
  refine X.iconst dX7_sideSees_0 ?_
  refine X.istore_n (lv2 := [some (.inr (some 132)), some (.inl s), some (.inl c), some (.inl 0), none]) dX7_sideSees_1 (Nat.le_of_ble_eq_true rfl) rfl ?_
  refine X.iconst dX7_sideSees_2 ?_
  refine X.istore (lv2 := [some (.inr (some 132)), some (.inl s), some (.inl c), some (.inl 0), some (.inl 0)]) dX7_sideSees_3 (Nat.le_of_ble_eq_true rfl) rfl ?_
  have L5 : ∀ k, 0 ≤ k → k ≤ (v 0 0) → ∀ is : Int, is = 0 ∨ is = 1 → VX mX7_sideSees 5 5 [some (.inr (some 132)), some (.inl s), some (.inl c), some (.inl is), some (.inl k)] [] M (some (.inl (bi (is = 1 ∨ exU (fun k => sees v k c ∧ v 3 k = s) k (v 0 0))))) M := by
    refine down_ind 0 (v 0 0) ?_ ?_
    · skip
      intro is hi
      refine X.iload dX7_sideSees_5 rfl ?_
      refine X.aload_n dX7_sideSees_7 rfl ?_
      refine X.getR dX7_sideSees_8 fi_X7_7 sh_132 rfl ?_
      refine X.iconst dX7_sideSees_11 ?_
      refine X.iald (v := v 0 0) dX7_sideSees_12 sh_133 (by decide) (by decide) (ws_0_0 hv) ?_
      refine X.icmp_ge (tgt := 53) dX7_sideSees_13 (by decide) ⟨by omega, by omega⟩ ⟨by omega, by omega⟩ (fun h1 => ?_) (fun h => by exfalso; omega)
      refine X.iload_n dX7_sideSees_53 rfl ?_
      exact X.zret dX7_sideSees_54 rfl hi (by rw [← or_end hi (by omega)]) rfl
    · intro k hk1 hk2 ihk
      intro is hi
      refine X.iload dX7_sideSees_5 rfl ?_
      refine X.aload_n dX7_sideSees_7 rfl ?_
      refine X.getR dX7_sideSees_8 fi_X7_7 sh_132 rfl ?_
      refine X.iconst dX7_sideSees_11 ?_
      refine X.iald (v := v 0 0) dX7_sideSees_12 sh_133 (by decide) (by decide) (ws_0_0 hv) ?_
      refine X.icmp_ge (tgt := 53) dX7_sideSees_13 (by decide) ⟨by omega, by omega⟩ ⟨by omega, by omega⟩ (fun h => by exfalso; omega) (fun h2 => ?_)
      refine X.iload_n dX7_sideSees_16 rfl ?_
      refine X.if_ne (tgt := 53) dX7_sideSees_17 (by decide) ⟨by omega, by omega⟩ (fun h3 => ?_) (fun h3 => ?_)
      · skip
        refine X.iload_n dX7_sideSees_53 rfl ?_
        exact X.zret dX7_sideSees_54 rfl hi (by rw [← or_1 (by omega)]) rfl
      · skip
        refine X.aload_n dX7_sideSees_20 rfl ?_
        refine X.iload dX7_sideSees_21 rfl ?_
        refine X.iconst dX7_sideSees_23 ?_
        have q4 := SI.r3 hS k
        refine X.callV1 (As := [.inl k, .inl 0]) (rest := []) dX7_sideSees_24 mk_X7_43 sh_132 (c_ofScout_0 M v hv hS k (by omega)) rfl (by decide) rfl (Nat.le_of_ble_eq_true rfl) ?_
        refine X.iload_n dX7_sideSees_27 rfl ?_
        refine X.icmp_ne (tgt := 45) dX7_sideSees_28 (by decide) ⟨by omega, by omega⟩ hs (fun h28 => ?_) (fun h28 => ?_)
        · skip
          refine X.iconst dX7_sideSees_45 ?_
          refine X.istore_n (lv2 := [some (.inr (some 132)), some (.inl s), some (.inl c), some (.inl 0), some (.inl k)]) dX7_sideSees_46 (Nat.le_of_ble_eq_true rfl) rfl ?_
          refine X.iinc (y := k + 1) (lv2 := [some (.inr (some 132)), some (.inl s), some (.inl c), some (.inl 0), some (.inl (k + 1))]) dX7_sideSees_47 rfl rfl rfl ?_
          refine X.goto (tgt := 5) dX7_sideSees_50 (by decide) ?_
          rw [← or_f (P := fun k => sees v k c ∧ v 3 k = s) (k := k) (by omega) (fun q => h28 q.2)]
          exact ihk 0 (by omega)
        · skip
          have h28 : v 3 k = s := by omega
          refine X.aload_n dX7_sideSees_31 rfl ?_
          refine X.iload dX7_sideSees_32 rfl ?_
          refine X.iload_n dX7_sideSees_34 rfl ?_
          by_cases hp : sees v k c
          · skip
            refine X.callV1 (As := [.inl k, .inl c]) (rest := []) dX7_sideSees_35 mk_X7_77 sh_132 (CX.bt (c_msees M v hv hS k c (by omega) (by omega)) hp) rfl (by decide) rfl (Nat.le_of_ble_eq_true rfl) ?_
            refine X.if_eq (tgt := 45) dX7_sideSees_38 (by decide) (by decide) (fun h => absurd h (by decide)) (fun h5 => ?_)
            refine X.iconst dX7_sideSees_41 ?_
            refine X.goto (tgt := 46) dX7_sideSees_42 (by decide) ?_
            refine X.istore_n (lv2 := [some (.inr (some 132)), some (.inl s), some (.inl c), some (.inl 1), some (.inl k)]) dX7_sideSees_46 (Nat.le_of_ble_eq_true rfl) rfl ?_
            refine X.iinc (y := k + 1) (lv2 := [some (.inr (some 132)), some (.inl s), some (.inl c), some (.inl 1), some (.inl (k + 1))]) dX7_sideSees_47 rfl rfl rfl ?_
            refine X.goto (tgt := 5) dX7_sideSees_50 (by decide) ?_
            rw [← or_t (P := fun k => sees v k c ∧ v 3 k = s) (k := k) (Or.inr ⟨hk2, hp, h28⟩)]
            exact ihk 1 (by omega)
          · skip
            refine X.callV1 (As := [.inl k, .inl c]) (rest := []) dX7_sideSees_35 mk_X7_77 sh_132 (CX.bf (c_msees M v hv hS k c (by omega) (by omega)) hp) rfl (by decide) rfl (Nat.le_of_ble_eq_true rfl) ?_
            refine X.if_eq (tgt := 45) dX7_sideSees_38 (by decide) (by decide) (fun h6 => ?_) (fun h => absurd h (by decide))
            refine X.iconst dX7_sideSees_45 ?_
            refine X.istore_n (lv2 := [some (.inr (some 132)), some (.inl s), some (.inl c), some (.inl 0), some (.inl k)]) dX7_sideSees_46 (Nat.le_of_ble_eq_true rfl) rfl ?_
            refine X.iinc (y := k + 1) (lv2 := [some (.inr (some 132)), some (.inl s), some (.inl c), some (.inl 0), some (.inl (k + 1))]) dX7_sideSees_47 rfl rfl rfl ?_
            refine X.goto (tgt := 5) dX7_sideSees_50 (by decide) ?_
            rw [← or_f (P := fun k => sees v k c ∧ v 3 k = s) (k := k) (by omega) (fun q => hp q.1)]
            exact ihk 0 (by omega)
  have e := L5 0 (by omega) (by omega) 0 (by omega)
  rw [or_0] at e
  exact e
set_option maxHeartbeats 4000000 in
set_option maxRecDepth 100000 in
theorem c_seenFrom (M : Mem) (v : Vw) (hv : WA (M 133) v) (hS : SI v) (a r : Int) (ha : 0 ≤ a ∧ a < 120) (hr : 0 ≤ r ∧ r ≤ 8) : CX mX7_seenFrom 4 [.inr (some 132), .inl a, .inl r] M (some (.inl (cnt (fun k => see v a r k) 120 0))) M := by
  have n0 := hS.n0
  have n1 := hS.n1
  have n2 := hS.n2
  refine CX.of (by decide +kernel) (Nat.le_of_ble_eq_true rfl) [some (.inr (some 132)), some (.inl a), some (.inl r), none, none] rfl ?_
  refine X.iconst dX7_seenFrom_0 ?_
  refine X.istore_n (lv2 := [some (.inr (some 132)), some (.inl a), some (.inl r), some (.inl 0), none]) dX7_seenFrom_1 (Nat.le_of_ble_eq_true rfl) rfl ?_
  refine X.iconst dX7_seenFrom_2 ?_
  refine X.istore (lv2 := [some (.inr (some 132)), some (.inl a), some (.inl r), some (.inl 0), some (.inl 0)]) dX7_seenFrom_3 (Nat.le_of_ble_eq_true rfl) rfl ?_
  have L5 : ∀ k, 0 ≤ k → k ≤ 120 → ∀ acc : Int, VX mX7_seenFrom 4 5 [some (.inr (some 132)), some (.inl a), some (.inl r), some (.inl acc), some (.inl k)] [] M (some (.inl (acc + cnt (fun k => see v a r k) (120 - k).toNat k))) M := by
    refine down_ind 0 120 ?_ ?_
    · skip
      intro acc
      refine X.iload dX7_seenFrom_5 rfl ?_
      refine X.bipush dX7_seenFrom_7 (by decide) ?_
      refine X.icmp_ge (tgt := 37) dX7_seenFrom_9 (by decide) ⟨by omega, by omega⟩ (by decide) (fun h1 => ?_) (fun h => by exfalso; omega)
      refine X.iload_n dX7_seenFrom_37 rfl ?_
      exact X.iret dX7_seenFrom_38 rfl (by rw [cnt_end, Int.add_zero]) rfl
    · intro k hk1 hk2 ihk
      intro acc
      refine X.iload dX7_seenFrom_5 rfl ?_
      refine X.bipush dX7_seenFrom_7 (by decide) ?_
      refine X.icmp_ge (tgt := 37) dX7_seenFrom_9 (by decide) ⟨by omega, by omega⟩ (by decide) (fun h => by exfalso; omega) (fun h2 => ?_)
      refine X.iload_n dX7_seenFrom_12 rfl ?_
      refine X.aload_n dX7_seenFrom_13 rfl ?_
      refine X.iload_n dX7_seenFrom_14 rfl ?_
      refine X.iload_n dX7_seenFrom_15 rfl ?_
      refine X.iload dX7_seenFrom_16 rfl ?_
      by_cases hp : see v a r k
      · skip
        refine X.callV1 (As := [.inl a, .inl r, .inl k]) (rest := [.inl acc]) dX7_seenFrom_18 mk_X7_74 sh_132 (CX.bt (c_isSeenFrom M v hv hS a r k (by omega) (by omega) (by omega)) hp) rfl (by decide) rfl (Nat.le_of_ble_eq_true rfl) ?_
        refine X.if_eq (tgt := 28) dX7_seenFrom_21 (by decide) (by decide) (fun h => absurd h (by decide)) (fun h3 => ?_)
        refine X.iconst dX7_seenFrom_24 ?_
        refine X.goto (tgt := 29) dX7_seenFrom_25 (by decide) ?_
        refine X.iadd (c := acc + 1) dX7_seenFrom_29 rfl ?_
        refine X.istore_n (lv2 := [some (.inr (some 132)), some (.inl a), some (.inl r), some (.inl (acc + 1)), some (.inl k)]) dX7_seenFrom_30 (Nat.le_of_ble_eq_true rfl) rfl ?_
        refine X.iinc (y := k + 1) (lv2 := [some (.inr (some 132)), some (.inl a), some (.inl r), some (.inl (acc + 1)), some (.inl (k + 1))]) dX7_seenFrom_31 rfl rfl rfl ?_
        refine X.goto (tgt := 5) dX7_seenFrom_34 (by decide) ?_
        rw [cnt_step _ _ _ hk2, bi_t hp, ← Int.add_assoc]
        exact ihk (acc + 1)
      · skip
        refine X.callV1 (As := [.inl a, .inl r, .inl k]) (rest := [.inl acc]) dX7_seenFrom_18 mk_X7_74 sh_132 (CX.bf (c_isSeenFrom M v hv hS a r k (by omega) (by omega) (by omega)) hp) rfl (by decide) rfl (Nat.le_of_ble_eq_true rfl) ?_
        refine X.if_eq (tgt := 28) dX7_seenFrom_21 (by decide) (by decide) (fun h4 => ?_) (fun h => absurd h (by decide))
        refine X.iconst dX7_seenFrom_28 ?_
        refine X.iadd (c := acc + 0) dX7_seenFrom_29 rfl ?_
        refine X.istore_n (lv2 := [some (.inr (some 132)), some (.inl a), some (.inl r), some (.inl (acc + 0)), some (.inl k)]) dX7_seenFrom_30 (Nat.le_of_ble_eq_true rfl) rfl ?_
        refine X.iinc (y := k + 1) (lv2 := [some (.inr (some 132)), some (.inl a), some (.inl r), some (.inl (acc + 0)), some (.inl (k + 1))]) dX7_seenFrom_31 rfl rfl rfl ?_
        refine X.goto (tgt := 5) dX7_seenFrom_34 (by decide) ?_
        rw [cnt_step _ _ _ hk2, bi_f hp, ← Int.add_assoc]
        exact ihk (acc + 0)
  have e := L5 0 (by omega) (by omega) 0
  rw [Int.zero_add, Int.sub_zero] at e
  exact e
set_option maxHeartbeats 4000000 in
set_option maxRecDepth 100000 in
theorem c_seenBy (M : Mem) (v : Vw) (hv : WA (M 133) v) (hS : SI v) (s : Int) (hs : 0 ≤ s ∧ s ≤ 1) : CX mX7_seenBy 6 [.inr (some 132), .inl s] M (some (.inl (cnt (fun k => sSees v s k) 120 0))) M := by
  have n0 := hS.n0
  have n1 := hS.n1
  have n2 := hS.n2
  refine CX.of (by decide +kernel) (Nat.le_of_ble_eq_true rfl) [some (.inr (some 132)), some (.inl s), none, none] rfl ?_
  refine X.iconst dX7_seenBy_0 ?_
  refine X.istore_n (lv2 := [some (.inr (some 132)), some (.inl s), some (.inl 0), none]) dX7_seenBy_1 (Nat.le_of_ble_eq_true rfl) rfl ?_
  refine X.iconst dX7_seenBy_2 ?_
  refine X.istore_n (lv2 := [some (.inr (some 132)), some (.inl s), some (.inl 0), some (.inl 0)]) dX7_seenBy_3 (Nat.le_of_ble_eq_true rfl) rfl ?_
  have L4 : ∀ k, 0 ≤ k → k ≤ 120 → ∀ acc : Int, VX mX7_seenBy 6 4 [some (.inr (some 132)), some (.inl s), some (.inl acc), some (.inl k)] [] M (some (.inl (acc + cnt (fun k => sSees v s k) (120 - k).toNat k))) M := by
    refine down_ind 0 120 ?_ ?_
    · skip
      intro acc
      refine X.iload_n dX7_seenBy_4 rfl ?_
      refine X.bipush dX7_seenBy_5 (by decide) ?_
      refine X.icmp_ge (tgt := 33) dX7_seenBy_7 (by decide) ⟨by omega, by omega⟩ (by decide) (fun h1 => ?_) (fun h => by exfalso; omega)
      refine X.iload_n dX7_seenBy_33 rfl ?_
      exact X.iret dX7_seenBy_34 rfl (by rw [cnt_end, Int.add_zero]) rfl
    · intro k hk1 hk2 ihk
      intro acc
      refine X.iload_n dX7_seenBy_4 rfl ?_
      refine X.bipush dX7_seenBy_5 (by decide) ?_
      refine X.icmp_ge (tgt := 33) dX7_seenBy_7 (by decide) ⟨by omega, by omega⟩ (by decide) (fun h => by exfalso; omega) (fun h2 => ?_)
      refine X.iload_n dX7_seenBy_10 rfl ?_
      refine X.aload_n dX7_seenBy_11 rfl ?_
      refine X.iload_n dX7_seenBy_12 rfl ?_
      refine X.iload_n dX7_seenBy_13 rfl ?_
      by_cases hp : sSees v s k
      · skip
        refine X.callV1 (As := [.inl s, .inl k]) (rest := [.inl acc]) dX7_seenBy_14 mk_X7_80 sh_132 (CX.bt (c_sideSees M v hv hS s k ⟨by omega, by omega⟩ (by omega)) hp) rfl (by decide) rfl (Nat.le_of_ble_eq_true rfl) ?_
        refine X.if_eq (tgt := 24) dX7_seenBy_17 (by decide) (by decide) (fun h => absurd h (by decide)) (fun h3 => ?_)
        refine X.iconst dX7_seenBy_20 ?_
        refine X.goto (tgt := 25) dX7_seenBy_21 (by decide) ?_
        refine X.iadd (c := acc + 1) dX7_seenBy_25 rfl ?_
        refine X.istore_n (lv2 := [some (.inr (some 132)), some (.inl s), some (.inl (acc + 1)), some (.inl k)]) dX7_seenBy_26 (Nat.le_of_ble_eq_true rfl) rfl ?_
        refine X.iinc (y := k + 1) (lv2 := [some (.inr (some 132)), some (.inl s), some (.inl (acc + 1)), some (.inl (k + 1))]) dX7_seenBy_27 rfl rfl rfl ?_
        refine X.goto (tgt := 4) dX7_seenBy_30 (by decide) ?_
        rw [cnt_step _ _ _ hk2, bi_t hp, ← Int.add_assoc]
        exact ihk (acc + 1)
      · skip
        refine X.callV1 (As := [.inl s, .inl k]) (rest := [.inl acc]) dX7_seenBy_14 mk_X7_80 sh_132 (CX.bf (c_sideSees M v hv hS s k ⟨by omega, by omega⟩ (by omega)) hp) rfl (by decide) rfl (Nat.le_of_ble_eq_true rfl) ?_
        refine X.if_eq (tgt := 24) dX7_seenBy_17 (by decide) (by decide) (fun h4 => ?_) (fun h => absurd h (by decide))
        refine X.iconst dX7_seenBy_24 ?_
        refine X.iadd (c := acc + 0) dX7_seenBy_25 rfl ?_
        refine X.istore_n (lv2 := [some (.inr (some 132)), some (.inl s), some (.inl (acc + 0)), some (.inl k)]) dX7_seenBy_26 (Nat.le_of_ble_eq_true rfl) rfl ?_
        refine X.iinc (y := k + 1) (lv2 := [some (.inr (some 132)), some (.inl s), some (.inl (acc + 0)), some (.inl (k + 1))]) dX7_seenBy_27 rfl rfl rfl ?_
        refine X.goto (tgt := 4) dX7_seenBy_30 (by decide) ?_
        rw [cnt_step _ _ _ hk2, bi_f hp, ← Int.add_assoc]
        exact ihk (acc + 0)
  have e := L4 0 (by omega) (by omega) 0
  rw [Int.zero_add, Int.sub_zero] at e
  exact e
set_option maxHeartbeats 4000000 in
set_option maxRecDepth 100000 in
theorem c_mlit (M : Mem) (v : Vw) (hv : WA (M 133) v) (hS : SI v) : CX mX7_lit 3 [.inr (some 132)] M (some (.inl (cnt (fun k => lit v k) 120 0))) M := by
  have n0 := hS.n0
  have n1 := hS.n1
  have n2 := hS.n2
  refine CX.of (by decide +kernel) (Nat.le_of_ble_eq_true rfl) [some (.inr (some 132)), none, none] rfl ?_
  refine X.iconst dX7_lit_0 ?_
  refine X.istore_n (lv2 := [some (.inr (some 132)), some (.inl 0), none]) dX7_lit_1 (Nat.le_of_ble_eq_true rfl) rfl ?_
  refine X.iconst dX7_lit_2 ?_
  refine X.istore_n (lv2 := [some (.inr (some 132)), some (.inl 0), some (.inl 0)]) dX7_lit_3 (Nat.le_of_ble_eq_true rfl) rfl ?_
  have L4 : ∀ k, 0 ≤ k → k ≤ 120 → ∀ acc : Int, VX mX7_lit 3 4 [some (.inr (some 132)), some (.inl acc), some (.inl k)] [] M (some (.inl (acc + cnt (fun k => lit v k) (120 - k).toNat k))) M := by
    refine down_ind 0 120 ?_ ?_
    · skip
      intro acc
      refine X.iload_n dX7_lit_4 rfl ?_
      refine X.bipush dX7_lit_5 (by decide) ?_
      refine X.icmp_ge (tgt := 32) dX7_lit_7 (by decide) ⟨by omega, by omega⟩ (by decide) (fun h1 => ?_) (fun h => by exfalso; omega)
      refine X.iload_n dX7_lit_32 rfl ?_
      exact X.iret dX7_lit_33 rfl (by rw [cnt_end, Int.add_zero]) rfl
    · intro k hk1 hk2 ihk
      intro acc
      refine X.iload_n dX7_lit_4 rfl ?_
      refine X.bipush dX7_lit_5 (by decide) ?_
      refine X.icmp_ge (tgt := 32) dX7_lit_7 (by decide) ⟨by omega, by omega⟩ (by decide) (fun h => by exfalso; omega) (fun h2 => ?_)
      refine X.iload_n dX7_lit_10 rfl ?_
      refine X.aload_n dX7_lit_11 rfl ?_
      refine X.iload_n dX7_lit_12 rfl ?_
      by_cases hp : lit v k
      · skip
        refine X.callV1 (As := [.inl k]) (rest := [.inl acc]) dX7_lit_13 mk_X7_66 sh_132 (CX.bt (c_misLit M v hv hS k (by omega)) hp) rfl (by decide) rfl (Nat.le_of_ble_eq_true rfl) ?_
        refine X.if_eq (tgt := 23) dX7_lit_16 (by decide) (by decide) (fun h => absurd h (by decide)) (fun h3 => ?_)
        refine X.iconst dX7_lit_19 ?_
        refine X.goto (tgt := 24) dX7_lit_20 (by decide) ?_
        refine X.iadd (c := acc + 1) dX7_lit_24 rfl ?_
        refine X.istore_n (lv2 := [some (.inr (some 132)), some (.inl (acc + 1)), some (.inl k)]) dX7_lit_25 (Nat.le_of_ble_eq_true rfl) rfl ?_
        refine X.iinc (y := k + 1) (lv2 := [some (.inr (some 132)), some (.inl (acc + 1)), some (.inl (k + 1))]) dX7_lit_26 rfl rfl rfl ?_
        refine X.goto (tgt := 4) dX7_lit_29 (by decide) ?_
        rw [cnt_step _ _ _ hk2, bi_t hp, ← Int.add_assoc]
        exact ihk (acc + 1)
      · skip
        refine X.callV1 (As := [.inl k]) (rest := [.inl acc]) dX7_lit_13 mk_X7_66 sh_132 (CX.bf (c_misLit M v hv hS k (by omega)) hp) rfl (by decide) rfl (Nat.le_of_ble_eq_true rfl) ?_
        refine X.if_eq (tgt := 23) dX7_lit_16 (by decide) (by decide) (fun h4 => ?_) (fun h => absurd h (by decide))
        refine X.iconst dX7_lit_23 ?_
        refine X.iadd (c := acc + 0) dX7_lit_24 rfl ?_
        refine X.istore_n (lv2 := [some (.inr (some 132)), some (.inl (acc + 0)), some (.inl k)]) dX7_lit_25 (Nat.le_of_ble_eq_true rfl) rfl ?_
        refine X.iinc (y := k + 1) (lv2 := [some (.inr (some 132)), some (.inl (acc + 0)), some (.inl (k + 1))]) dX7_lit_26 rfl rfl rfl ?_
        refine X.goto (tgt := 4) dX7_lit_29 (by decide) ?_
        rw [cnt_step _ _ _ hk2, bi_f hp, ← Int.add_assoc]
        exact ihk (acc + 0)
  have e := L4 0 (by omega) (by omega) 0
  rw [Int.zero_add, Int.sub_zero] at e
  exact e
set_option maxHeartbeats 4000000 in
set_option maxRecDepth 100000 in
theorem c_burning (M : Mem) (v : Vw) (hv : WA (M 133) v) (hS : SI v) : CX mX7_burning 1 [.inr (some 132)] M (some (.inl (cnt (fun k => 0 < v 8 k) (v 0 1).toNat 0))) M := by
  have n0 := hS.n0
  have n1 := hS.n1
  have n2 := hS.n2
  refine CX.of (by decide +kernel) (Nat.le_of_ble_eq_true rfl) [some (.inr (some 132)), none, none] rfl ?_
  refine X.iconst dX7_burning_0 ?_
  refine X.istore_n (lv2 := [some (.inr (some 132)), some (.inl 0), none]) dX7_burning_1 (Nat.le_of_ble_eq_true rfl) rfl ?_
  refine X.iconst dX7_burning_2 ?_
  refine X.istore_n (lv2 := [some (.inr (some 132)), some (.inl 0), some (.inl 0)]) dX7_burning_3 (Nat.le_of_ble_eq_true rfl) rfl ?_
  have L4 : ∀ k, 0 ≤ k → k ≤ (v 0 1) → ∀ acc : Int, VX mX7_burning 1 4 [some (.inr (some 132)), some (.inl acc), some (.inl k)] [] M (some (.inl (acc + cnt (fun k => 0 < v 8 k) (v 0 1 - k).toNat k))) M := by
    refine down_ind 0 (v 0 1) ?_ ?_
    · skip
      intro acc
      refine X.iload_n dX7_burning_4 rfl ?_
      refine X.aload_n dX7_burning_5 rfl ?_
      refine X.getR dX7_burning_6 fi_X7_7 sh_132 rfl ?_
      refine X.iconst dX7_burning_9 ?_
      refine X.iald (v := v 0 1) dX7_burning_10 sh_133 (by decide) (by decide) (ws_0_1 hv) ?_
      refine X.icmp_ge (tgt := 37) dX7_burning_11 (by decide) ⟨by omega, by omega⟩ ⟨by omega, by omega⟩ (fun h1 => ?_) (fun h => by exfalso; omega)
      refine X.iload_n dX7_burning_37 rfl ?_
      exact X.iret dX7_burning_38 rfl (by rw [cnt_end, Int.add_zero]) rfl
    · intro k hk1 hk2 ihk
      intro acc
      refine X.iload_n dX7_burning_4 rfl ?_
      refine X.aload_n dX7_burning_5 rfl ?_
      refine X.getR dX7_burning_6 fi_X7_7 sh_132 rfl ?_
      refine X.iconst dX7_burning_9 ?_
      refine X.iald (v := v 0 1) dX7_burning_10 sh_133 (by decide) (by decide) (ws_0_1 hv) ?_
      refine X.icmp_ge (tgt := 37) dX7_burning_11 (by decide) ⟨by omega, by omega⟩ ⟨by omega, by omega⟩ (fun h => by exfalso; omega) (fun h2 => ?_)
      refine X.iload_n dX7_burning_14 rfl ?_
      refine X.aload_n dX7_burning_15 rfl ?_
      refine X.iload_n dX7_burning_16 rfl ?_
      refine X.iconst dX7_burning_17 ?_
      have q3 := SI.r8 hS k
      refine X.callV1 (As := [.inl k, .inl 3]) (rest := [.inl acc]) dX7_burning_18 mk_X7_53 sh_132 (c_ofLight_3 M v hv hS k (by omega)) rfl (by decide) rfl (Nat.le_of_ble_eq_true rfl) ?_
      refine X.if_le (tgt := 28) dX7_burning_21 (by decide) ⟨by omega, by omega⟩ (fun h21 => ?_) (fun h21 => ?_)
      · skip
        have h21 : ¬ 0 < v 8 k := by omega
        refine X.iconst dX7_burning_28 ?_
        refine X.iadd (c := acc + 0) dX7_burning_29 rfl ?_
        refine X.istore_n (lv2 := [some (.inr (some 132)), some (.inl (acc + 0)), some (.inl k)]) dX7_burning_30 (Nat.le_of_ble_eq_true rfl) rfl ?_
        refine X.iinc (y := k + 1) (lv2 := [some (.inr (some 132)), some (.inl (acc + 0)), some (.inl (k + 1))]) dX7_burning_31 rfl rfl rfl ?_
        refine X.goto (tgt := 4) dX7_burning_34 (by decide) ?_
        rw [cnt_step _ _ _ hk2, bi_f h21, ← Int.add_assoc]
        exact ihk (acc + 0)
      · skip
        refine X.iconst dX7_burning_24 ?_
        refine X.goto (tgt := 29) dX7_burning_25 (by decide) ?_
        refine X.iadd (c := acc + 1) dX7_burning_29 rfl ?_
        refine X.istore_n (lv2 := [some (.inr (some 132)), some (.inl (acc + 1)), some (.inl k)]) dX7_burning_30 (Nat.le_of_ble_eq_true rfl) rfl ?_
        refine X.iinc (y := k + 1) (lv2 := [some (.inr (some 132)), some (.inl (acc + 1)), some (.inl (k + 1))]) dX7_burning_31 rfl rfl rfl ?_
        refine X.goto (tgt := 4) dX7_burning_34 (by decide) ?_
        rw [cnt_step _ _ _ hk2, bi_t h21, ← Int.add_assoc]
        exact ihk (acc + 1)
  have e := L4 0 (by omega) (by omega) 0
  rw [Int.zero_add, Int.sub_zero] at e
  exact e
set_option maxHeartbeats 4000000 in
set_option maxRecDepth 100000 in
theorem c_memory (M : Mem) (v : Vw) (hw : WM (M 133) v) (s c : Int) (hs : 0 ≤ s ∧ s ≤ 1) (hc : 0 ≤ c ∧ c < 120) : CX mX7_memory 0 [.inr (some 132), .inl s, .inl c] M (some (.inl (v (mr s 0) c))) M := by
  refine CX.of (by decide +kernel) (Nat.le_of_ble_eq_true rfl) [some (.inr (some 132)), some (.inl s), some (.inl c)] rfl ?_
  refine X.aload_n dX7_memory_0 rfl ?_
  refine X.getR dX7_memory_1 fi_X7_7 sh_132 rfl ?_
  refine X.sipush dX7_memory_4 (by decide) ?_
  refine X.bipush dX7_memory_7 (by decide) ?_
  refine X.iload_n dX7_memory_9 rfl ?_
  refine X.imul (c := 120 * s) dX7_memory_10 rfl ?_
  refine X.iadd (c := 308 + (120 * s)) dX7_memory_11 rfl ?_
  refine X.iload_n dX7_memory_12 rfl ?_
  refine X.iadd (c := (308 + (120 * s)) + c) dX7_memory_13 rfl ?_
  refine X.iald (v := v (mr s 0) c) dX7_memory_14 sh_133 (by decide) (by omega) (by have e := wm hw (t := 0) (by decide) hs hc; rw [← e]; congr 1) ?_
  exact X.iret dX7_memory_15 rfl rfl rfl
set_option maxHeartbeats 4000000 in
set_option maxRecDepth 100000 in
theorem c_remembered (M : Mem) (v : Vw) (hw : WM (M 133) v) (hS : SI v) (s : Int) (hs : 0 ≤ s ∧ s ≤ 1) : CX mX7_remembered 1 [.inr (some 132), .inl s] M (some (.inl (cnt (fun k => 0 < v (mr s 0) k) 120 0))) M := by
  refine CX.of (by decide +kernel) (Nat.le_of_ble_eq_true rfl) [some (.inr (some 132)), some (.inl s), none, none] rfl ?_
  refine X.iconst dX7_remembered_0 ?_
  refine X.istore_n (lv2 := [some (.inr (some 132)), some (.inl s), some (.inl 0), none]) dX7_remembered_1 (Nat.le_of_ble_eq_true rfl) rfl ?_
  refine X.iconst dX7_remembered_2 ?_
  refine X.istore_n (lv2 := [some (.inr (some 132)), some (.inl s), some (.inl 0), some (.inl 0)]) dX7_remembered_3 (Nat.le_of_ble_eq_true rfl) rfl ?_
  have L4 : ∀ k, 0 ≤ k → k ≤ 120 → ∀ acc : Int, VX mX7_remembered 1 4 [some (.inr (some 132)), some (.inl s), some (.inl acc), some (.inl k)] [] M (some (.inl (acc + cnt (fun k => 0 < v (mr s 0) k) (120 - k).toNat k))) M := by
    refine down_ind 0 120 ?_ ?_
    · skip
      intro acc
      refine X.iload_n dX7_remembered_4 rfl ?_
      refine X.bipush dX7_remembered_5 (by decide) ?_
      refine X.icmp_ge (tgt := 33) dX7_remembered_7 (by decide) ⟨by omega, by omega⟩ (by decide) (fun h1 => ?_) (fun h => by exfalso; omega)
      refine X.iload_n dX7_remembered_33 rfl ?_
      exact X.iret dX7_remembered_34 rfl (by rw [cnt_end, Int.add_zero]) rfl
    · intro k hk1 hk2 ihk
      intro acc
      refine X.iload_n dX7_remembered_4 rfl ?_
      refine X.bipush dX7_remembered_5 (by decide) ?_
      refine X.icmp_ge (tgt := 33) dX7_remembered_7 (by decide) ⟨by omega, by omega⟩ (by decide) (fun h => by exfalso; omega) (fun h2 => ?_)
      refine X.iload_n dX7_remembered_10 rfl ?_
      refine X.aload_n dX7_remembered_11 rfl ?_
      refine X.iload_n dX7_remembered_12 rfl ?_
      refine X.iload_n dX7_remembered_13 rfl ?_
      refine X.callV1 (As := [.inl s, .inl k]) (rest := [.inl acc]) dX7_remembered_14 mk_X7_86 sh_132 (c_memory M v hw s k (by omega) (by omega)) rfl (by decide) rfl (Nat.le_of_ble_eq_true rfl) ?_
      refine X.if_le (tgt := 24) dX7_remembered_17 (by decide) ⟨by have := mr_bd hS (s := s) (i := k); omega, by have := mr_bd hS (s := s) (i := k); omega⟩ (fun h17 => ?_) (fun h17 => ?_)
      · skip
        have h17 : ¬ 0 < v (mr s 0) k := by omega
        refine X.iconst dX7_remembered_24 ?_
        refine X.iadd (c := acc + 0) dX7_remembered_25 rfl ?_
        refine X.istore_n (lv2 := [some (.inr (some 132)), some (.inl s), some (.inl (acc + 0)), some (.inl k)]) dX7_remembered_26 (Nat.le_of_ble_eq_true rfl) rfl ?_
        refine X.iinc (y := k + 1) (lv2 := [some (.inr (some 132)), some (.inl s), some (.inl (acc + 0)), some (.inl (k + 1))]) dX7_remembered_27 rfl rfl rfl ?_
        refine X.goto (tgt := 4) dX7_remembered_30 (by decide) ?_
        rw [cnt_step _ _ _ hk2, bi_f h17, ← Int.add_assoc]
        exact ihk (acc + 0)
      · skip
        refine X.iconst dX7_remembered_20 ?_
        refine X.goto (tgt := 25) dX7_remembered_21 (by decide) ?_
        refine X.iadd (c := acc + 1) dX7_remembered_25 rfl ?_
        refine X.istore_n (lv2 := [some (.inr (some 132)), some (.inl s), some (.inl (acc + 1)), some (.inl k)]) dX7_remembered_26 (Nat.le_of_ble_eq_true rfl) rfl ?_
        refine X.iinc (y := k + 1) (lv2 := [some (.inr (some 132)), some (.inl s), some (.inl (acc + 1)), some (.inl (k + 1))]) dX7_remembered_27 rfl rfl rfl ?_
        refine X.goto (tgt := 4) dX7_remembered_30 (by decide) ?_
        rw [cnt_step _ _ _ hk2, bi_t h17, ← Int.add_assoc]
        exact ihk (acc + 1)
  have e := L4 0 (by omega) (by omega) 0
  rw [Int.zero_add, Int.sub_zero] at e
  exact e
