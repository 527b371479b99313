theorem cpB_row {M : Mem} {d s a : Nat} (h : ¬ (d ≤ a ∧ a < d + 20)) : cpB M d s a = M a := by
  funext j
  unfold cpB cpS
  rw [if_neg (by omega), if_neg]
  rintro ⟨h1, h2⟩
  have : a - d < 20 := by
    simp only [fullR, List.mem_cons, List.not_mem_nil, or_false] at h2
    omega
  omega
def keepM (M : Mem) (n z : Int) : Mem := mset (mset (cpB M (26 + 20 * n.toNat) 1) 24 2 ((n + 1) % 5)) 24 1 (imin (z + 1) 5)
def restM (M : Mem) (n z : Int) : Mem := cpB (mset (mset M 24 2 ((n + 4) % 5)) 24 1 (z - 1)) 1 (26 + 20 * ((n + 4) % 5).toNat)
set_option maxHeartbeats 4000000 in
set_option maxRecDepth 100000 in
theorem c_keep_0 (M : Mem) (z : Int) (hn : M 24 2 = 0) (hz : M 24 1 = z) (h0 : 0 ≤ z ∧ z ≤ 5) : CX mX0_keep 5 [.inr (some 24), .inr (some 1)] M none (keepM M 0 z) := by
  refine CX.of (by decide +kernel) (Nat.le_of_ble_eq_true rfl) [some (.inr (some 24)), some (.inr (some 1))] rfl ?_
  refine X.aload_n dX0_keep_0 rfl ?_
  refine X.getR dX0_keep_1 fi_X0_11 sh_24 rfl ?_
  refine X.aload_n dX0_keep_4 rfl ?_
  refine X.getI (v := 0) 2 dX0_keep_5 fi_X0_21 sh_24 rfl hn ?_
  refine X.aald dX0_keep_8 sh_25 (by decide) (by decide) (by decide) rfl ?_
  refine X.aload_n dX0_keep_9 rfl ?_
  refine X.callV0 (As := [.inr (some 1)]) (rest := []) dX0_keep_10 mk_X0_25 sh_26 (show CX mX3_copyFrom 4 [.inr (some 26), .inr (some 1)] M none (cpB M 26 1) from by have h := c_copyFrom_26_1 M; rw [cpS_0] at h; exact h) rfl (by decide) rfl (Nat.le_of_ble_eq_true rfl) ?_
  refine X.aload_n dX0_keep_13 rfl ?_
  refine X.aload_n dX0_keep_14 rfl ?_
  refine X.getI (v := 0) 2 dX0_keep_15 fi_X0_21 sh_24 rfl ((congrFun (cpB_row (by decide)) 2).trans hn) ?_
  refine X.iconst dX0_keep_18 ?_
  refine X.iadd (c := 1) dX0_keep_19 rfl ?_
  refine X.iconst dX0_keep_20 ?_
  refine X.irem (c := 1) dX0_keep_21 (by omega) (by decide) (by decide) ?_
  refine X.putI 2 2 rfl dX0_keep_22 fi_X0_21 sh_24 rfl rfl ?_
  refine X.aload_n dX0_keep_25 rfl ?_
  refine X.aload_n dX0_keep_26 rfl ?_
  refine X.getI (v := z) 1 dX0_keep_27 fi_X0_17 sh_24 rfl (by rw [mset_ne (by omega)]; exact (congrFun (cpB_row (by decide)) 1).trans hz) ?_
  refine X.iconst dX0_keep_30 ?_
  refine X.iadd (c := z + 1) dX0_keep_31 rfl ?_
  refine X.iconst dX0_keep_32 ?_
  refine X.mmin (c := imin (z + 1) 5) dX0_keep_33 kl_X0_29 ⟨by omega, by omega⟩ (by decide) (by decide) (Nat.le_of_ble_eq_true rfl) rfl ?_
  refine X.putI 1 1 rfl dX0_keep_36 fi_X0_17 sh_24 rfl rfl ?_
  exact X.vret dX0_keep_39 rfl rfl rfl
set_option maxHeartbeats 4000000 in
set_option maxRecDepth 100000 in
theorem c_restore_0 (M : Mem) (z : Int) (hn : M 24 2 = 0) (hz : M 24 1 = z) (h0 : 1 ≤ z ∧ z ≤ 5) : CX mX0_restore 5 [.inr (some 24), .inr (some 1)] M none (restM M 0 z) := by
  refine CX.of (by decide +kernel) (Nat.le_of_ble_eq_true rfl) [some (.inr (some 24)), some (.inr (some 1))] rfl ?_
  refine X.aload_n dX0_restore_0 rfl ?_
  refine X.aload_n dX0_restore_1 rfl ?_
  refine X.getI (v := 0) 2 dX0_restore_2 fi_X0_21 sh_24 rfl hn ?_
  refine X.iconst dX0_restore_5 ?_
  refine X.iadd (c := 5) dX0_restore_6 rfl ?_
  refine X.iconst dX0_restore_7 ?_
  refine X.isub (c := 4) dX0_restore_8 rfl ?_
  refine X.iconst dX0_restore_9 ?_
  refine X.irem (c := 4) dX0_restore_10 (by omega) (by decide) (by decide) ?_
  refine X.putI 2 2 rfl dX0_restore_11 fi_X0_21 sh_24 rfl rfl ?_
  refine X.aload_n dX0_restore_14 rfl ?_
  refine X.dup dX0_restore_15 ?_
  refine X.getI (v := z) 1 dX0_restore_16 fi_X0_17 sh_24 rfl (by rw [mset_ne (by omega)]; exact hz) ?_
  refine X.iconst dX0_restore_19 ?_
  refine X.isub (c := z - 1) dX0_restore_20 rfl ?_
  refine X.putI 1 1 rfl dX0_restore_21 fi_X0_17 sh_24 rfl rfl ?_
  refine X.aload_n dX0_restore_24 rfl ?_
  refine X.aload_n dX0_restore_25 rfl ?_
  refine X.getR dX0_restore_26 fi_X0_11 sh_24 rfl ?_
  refine X.aload_n dX0_restore_29 rfl ?_
  refine X.getI (v := 4) 2 dX0_restore_30 fi_X0_21 sh_24 rfl (by rw [mset_ne (by omega)]; exact mset_at) ?_
  refine X.aald dX0_restore_33 sh_25 (by decide) (by decide) (by decide) rfl ?_
  refine X.callV0 (As := [.inr (some 106)]) (rest := []) dX0_restore_34 mk_X0_25 sh_1 (show CX mX3_copyFrom 4 [.inr (some 1), .inr (some 106)] (mset (mset M 24 2 4) 24 1 (z - 1)) none (cpB (mset (mset M 24 2 4) 24 1 (z - 1)) 1 106) from by have h := c_copyFrom_1_106 (mset (mset M 24 2 4) 24 1 (z - 1)); rw [cpS_0] at h; exact h) rfl (by decide) rfl (Nat.le_of_ble_eq_true rfl) ?_
  exact X.vret dX0_restore_37 rfl rfl rfl
set_option maxHeartbeats 4000000 in
set_option maxRecDepth 100000 in
theorem c_keep_1 (M : Mem) (z : Int) (hn : M 24 2 = 1) (hz : M 24 1 = z) (h0 : 0 ≤ z ∧ z ≤ 5) : CX mX0_keep 5 [.inr (some 24), .inr (some 1)] M none (keepM M 1 z) := by
  refine CX.of (by decide +kernel) (Nat.le_of_ble_eq_true rfl) [some (.inr (some 24)), some (.inr (some 1))] rfl ?_
  refine X.aload_n dX0_keep_0 rfl ?_
  refine X.getR dX0_keep_1 fi_X0_11 sh_24 rfl ?_
  refine X.aload_n dX0_keep_4 rfl ?_
  refine X.getI (v := 1) 2 dX0_keep_5 fi_X0_21 sh_24 rfl hn ?_
  refine X.aald dX0_keep_8 sh_25 (by decide) (by decide) (by decide) rfl ?_
  refine X.aload_n dX0_keep_9 rfl ?_
  refine X.callV0 (As := [.inr (some 1)]) (rest := []) dX0_keep_10 mk_X0_25 sh_46 (show CX mX3_copyFrom 4 [.inr (some 46), .inr (some 1)] M none (cpB M 46 1) from by have h := c_copyFrom_46_1 M; rw [cpS_0] at h; exact h) rfl (by decide) rfl (Nat.le_of_ble_eq_true rfl) ?_
  refine X.aload_n dX0_keep_13 rfl ?_
  refine X.aload_n dX0_keep_14 rfl ?_
  refine X.getI (v := 1) 2 dX0_keep_15 fi_X0_21 sh_24 rfl ((congrFun (cpB_row (by decide)) 2).trans hn) ?_
  refine X.iconst dX0_keep_18 ?_
  refine X.iadd (c := 2) dX0_keep_19 rfl ?_
  refine X.iconst dX0_keep_20 ?_
  refine X.irem (c := 2) dX0_keep_21 (by omega) (by decide) (by decide) ?_
  refine X.putI 2 2 rfl dX0_keep_22 fi_X0_21 sh_24 rfl rfl ?_
  refine X.aload_n dX0_keep_25 rfl ?_
  refine X.aload_n dX0_keep_26 rfl ?_
  refine X.getI (v := z) 1 dX0_keep_27 fi_X0_17 sh_24 rfl (by rw [mset_ne (by omega)]; exact (congrFun (cpB_row (by decide)) 1).trans hz) ?_
  refine X.iconst dX0_keep_30 ?_
  refine X.iadd (c := z + 1) dX0_keep_31 rfl ?_
  refine X.iconst dX0_keep_32 ?_
  refine X.mmin (c := imin (z + 1) 5) dX0_keep_33 kl_X0_29 ⟨by omega, by omega⟩ (by decide) (by decide) (Nat.le_of_ble_eq_true rfl) rfl ?_
  refine X.putI 1 1 rfl dX0_keep_36 fi_X0_17 sh_24 rfl rfl ?_
  exact X.vret dX0_keep_39 rfl rfl rfl
set_option maxHeartbeats 4000000 in
set_option maxRecDepth 100000 in
theorem c_restore_1 (M : Mem) (z : Int) (hn : M 24 2 = 1) (hz : M 24 1 = z) (h0 : 1 ≤ z ∧ z ≤ 5) : CX mX0_restore 5 [.inr (some 24), .inr (some 1)] M none (restM M 1 z) := by
  refine CX.of (by decide +kernel) (Nat.le_of_ble_eq_true rfl) [some (.inr (some 24)), some (.inr (some 1))] rfl ?_
  refine X.aload_n dX0_restore_0 rfl ?_
  refine X.aload_n dX0_restore_1 rfl ?_
  refine X.getI (v := 1) 2 dX0_restore_2 fi_X0_21 sh_24 rfl hn ?_
  refine X.iconst dX0_restore_5 ?_
  refine X.iadd (c := 6) dX0_restore_6 rfl ?_
  refine X.iconst dX0_restore_7 ?_
  refine X.isub (c := 5) dX0_restore_8 rfl ?_
  refine X.iconst dX0_restore_9 ?_
  refine X.irem (c := 0) dX0_restore_10 (by omega) (by decide) (by decide) ?_
  refine X.putI 2 2 rfl dX0_restore_11 fi_X0_21 sh_24 rfl rfl ?_
  refine X.aload_n dX0_restore_14 rfl ?_
  refine X.dup dX0_restore_15 ?_
  refine X.getI (v := z) 1 dX0_restore_16 fi_X0_17 sh_24 rfl (by rw [mset_ne (by omega)]; exact hz) ?_
  refine X.iconst dX0_restore_19 ?_
  refine X.isub (c := z - 1) dX0_restore_20 rfl ?_
  refine X.putI 1 1 rfl dX0_restore_21 fi_X0_17 sh_24 rfl rfl ?_
  refine X.aload_n dX0_restore_24 rfl ?_
  refine X.aload_n dX0_restore_25 rfl ?_
  refine X.getR dX0_restore_26 fi_X0_11 sh_24 rfl ?_
  refine X.aload_n dX0_restore_29 rfl ?_
  refine X.getI (v := 0) 2 dX0_restore_30 fi_X0_21 sh_24 rfl (by rw [mset_ne (by omega)]; exact mset_at) ?_
  refine X.aald dX0_restore_33 sh_25 (by decide) (by decide) (by decide) rfl ?_
  refine X.callV0 (As := [.inr (some 26)]) (rest := []) dX0_restore_34 mk_X0_25 sh_1 (show CX mX3_copyFrom 4 [.inr (some 1), .inr (some 26)] (mset (mset M 24 2 0) 24 1 (z - 1)) none (cpB (mset (mset M 24 2 0) 24 1 (z - 1)) 1 26) from by have h := c_copyFrom_1_26 (mset (mset M 24 2 0) 24 1 (z - 1)); rw [cpS_0] at h; exact h) rfl (by decide) rfl (Nat.le_of_ble_eq_true rfl) ?_
  exact X.vret dX0_restore_37 rfl rfl rfl
set_option maxHeartbeats 4000000 in
set_option maxRecDepth 100000 in
theorem c_keep_2 (M : Mem) (z : Int) (hn : M 24 2 = 2) (hz : M 24 1 = z) (h0 : 0 ≤ z ∧ z ≤ 5) : CX mX0_keep 5 [.inr (some 24), .inr (some 1)] M none (keepM M 2 z) := by
  refine CX.of (by decide +kernel) (Nat.le_of_ble_eq_true rfl) [some (.inr (some 24)), some (.inr (some 1))] rfl ?_
  refine X.aload_n dX0_keep_0 rfl ?_
  refine X.getR dX0_keep_1 fi_X0_11 sh_24 rfl ?_
  refine X.aload_n dX0_keep_4 rfl ?_
  refine X.getI (v := 2) 2 dX0_keep_5 fi_X0_21 sh_24 rfl hn ?_
  refine X.aald dX0_keep_8 sh_25 (by decide) (by decide) (by decide) rfl ?_
  refine X.aload_n dX0_keep_9 rfl ?_
  refine X.callV0 (As := [.inr (some 1)]) (rest := []) dX0_keep_10 mk_X0_25 sh_66 (show CX mX3_copyFrom 4 [.inr (some 66), .inr (some 1)] M none (cpB M 66 1) from by have h := c_copyFrom_66_1 M; rw [cpS_0] at h; exact h) rfl (by decide) rfl (Nat.le_of_ble_eq_true rfl) ?_
  refine X.aload_n dX0_keep_13 rfl ?_
  refine X.aload_n dX0_keep_14 rfl ?_
  refine X.getI (v := 2) 2 dX0_keep_15 fi_X0_21 sh_24 rfl ((congrFun (cpB_row (by decide)) 2).trans hn) ?_
  refine X.iconst dX0_keep_18 ?_
  refine X.iadd (c := 3) dX0_keep_19 rfl ?_
  refine X.iconst dX0_keep_20 ?_
  refine X.irem (c := 3) dX0_keep_21 (by omega) (by decide) (by decide) ?_
  refine X.putI 2 2 rfl dX0_keep_22 fi_X0_21 sh_24 rfl rfl ?_
  refine X.aload_n dX0_keep_25 rfl ?_
  refine X.aload_n dX0_keep_26 rfl ?_
  refine X.getI (v := z) 1 dX0_keep_27 fi_X0_17 sh_24 rfl (by rw [mset_ne (by omega)]; exact (congrFun (cpB_row (by decide)) 1).trans hz) ?_
  refine X.iconst dX0_keep_30 ?_
  refine X.iadd (c := z + 1) dX0_keep_31 rfl ?_
  refine X.iconst dX0_keep_32 ?_
  refine X.mmin (c := imin (z + 1) 5) dX0_keep_33 kl_X0_29 ⟨by omega, by omega⟩ (by decide) (by decide) (Nat.le_of_ble_eq_true rfl) rfl ?_
  refine X.putI 1 1 rfl dX0_keep_36 fi_X0_17 sh_24 rfl rfl ?_
  exact X.vret dX0_keep_39 rfl rfl rfl
set_option maxHeartbeats 4000000 in
set_option maxRecDepth 100000 in
theorem c_restore_2 (M : Mem) (z : Int) (hn : M 24 2 = 2) (hz : M 24 1 = z) (h0 : 1 ≤ z ∧ z ≤ 5) : CX mX0_restore 5 [.inr (some 24), .inr (some 1)] M none (restM M 2 z) := by
  refine CX.of (by decide +kernel) (Nat.le_of_ble_eq_true rfl) [some (.inr (some 24)), some (.inr (some 1))] rfl ?_
  refine X.aload_n dX0_restore_0 rfl ?_
  refine X.aload_n dX0_restore_1 rfl ?_
  refine X.getI (v := 2) 2 dX0_restore_2 fi_X0_21 sh_24 rfl hn ?_
  refine X.iconst dX0_restore_5 ?_
  refine X.iadd (c := 7) dX0_restore_6 rfl ?_
  refine X.iconst dX0_restore_7 ?_
  refine X.isub (c := 6) dX0_restore_8 rfl ?_
  refine X.iconst dX0_restore_9 ?_
  refine X.irem (c := 1) dX0_restore_10 (by omega) (by decide) (by decide) ?_
  refine X.putI 2 2 rfl dX0_restore_11 fi_X0_21 sh_24 rfl rfl ?_
  refine X.aload_n dX0_restore_14 rfl ?_
  refine X.dup dX0_restore_15 ?_
  refine X.getI (v := z) 1 dX0_restore_16 fi_X0_17 sh_24 rfl (by rw [mset_ne (by omega)]; exact hz) ?_
  refine X.iconst dX0_restore_19 ?_
  refine X.isub (c := z - 1) dX0_restore_20 rfl ?_
  refine X.putI 1 1 rfl dX0_restore_21 fi_X0_17 sh_24 rfl rfl ?_
  refine X.aload_n dX0_restore_24 rfl ?_
  refine X.aload_n dX0_restore_25 rfl ?_
  refine X.getR dX0_restore_26 fi_X0_11 sh_24 rfl ?_
  refine X.aload_n dX0_restore_29 rfl ?_
  refine X.getI (v := 1) 2 dX0_restore_30 fi_X0_21 sh_24 rfl (by rw [mset_ne (by omega)]; exact mset_at) ?_
  refine X.aald dX0_restore_33 sh_25 (by decide) (by decide) (by decide) rfl ?_
  refine X.callV0 (As := [.inr (some 46)]) (rest := []) dX0_restore_34 mk_X0_25 sh_1 (show CX mX3_copyFrom 4 [.inr (some 1), .inr (some 46)] (mset (mset M 24 2 1) 24 1 (z - 1)) none (cpB (mset (mset M 24 2 1) 24 1 (z - 1)) 1 46) from by have h := c_copyFrom_1_46 (mset (mset M 24 2 1) 24 1 (z - 1)); rw [cpS_0] at h; exact h) rfl (by decide) rfl (Nat.le_of_ble_eq_true rfl) ?_
  exact X.vret dX0_restore_37 rfl rfl rfl
set_option maxHeartbeats 4000000 in
set_option maxRecDepth 100000 in
theorem c_keep_3 (M : Mem) (z : Int) (hn : M 24 2 = 3) (hz : M 24 1 = z) (h0 : 0 ≤ z ∧ z ≤ 5) : CX mX0_keep 5 [.inr (some 24), .inr (some 1)] M none (keepM M 3 z) := by
  refine CX.of (by decide +kernel) (Nat.le_of_ble_eq_true rfl) [some (.inr (some 24)), some (.inr (some 1))] rfl ?_
  refine X.aload_n dX0_keep_0 rfl ?_
  refine X.getR dX0_keep_1 fi_X0_11 sh_24 rfl ?_
  refine X.aload_n dX0_keep_4 rfl ?_
  refine X.getI (v := 3) 2 dX0_keep_5 fi_X0_21 sh_24 rfl hn ?_
  refine X.aald dX0_keep_8 sh_25 (by decide) (by decide) (by decide) rfl ?_
  refine X.aload_n dX0_keep_9 rfl ?_
  refine X.callV0 (As := [.inr (some 1)]) (rest := []) dX0_keep_10 mk_X0_25 sh_86 (show CX mX3_copyFrom 4 [.inr (some 86), .inr (some 1)] M none (cpB M 86 1) from by have h := c_copyFrom_86_1 M; rw [cpS_0] at h; exact h) rfl (by decide) rfl (Nat.le_of_ble_eq_true rfl) ?_
  refine X.aload_n dX0_keep_13 rfl ?_
  refine X.aload_n dX0_keep_14 rfl ?_
  refine X.getI (v := 3) 2 dX0_keep_15 fi_X0_21 sh_24 rfl ((congrFun (cpB_row (by decide)) 2).trans hn) ?_
  refine X.iconst dX0_keep_18 ?_
  refine X.iadd (c := 4) dX0_keep_19 rfl ?_
  refine X.iconst dX0_keep_20 ?_
  refine X.irem (c := 4) dX0_keep_21 (by omega) (by decide) (by decide) ?_
  refine X.putI 2 2 rfl dX0_keep_22 fi_X0_21 sh_24 rfl rfl ?_
  refine X.aload_n dX0_keep_25 rfl ?_
  refine X.aload_n dX0_keep_26 rfl ?_
  refine X.getI (v := z) 1 dX0_keep_27 fi_X0_17 sh_24 rfl (by rw [mset_ne (by omega)]; exact (congrFun (cpB_row (by decide)) 1).trans hz) ?_
  refine X.iconst dX0_keep_30 ?_
  refine X.iadd (c := z + 1) dX0_keep_31 rfl ?_
  refine X.iconst dX0_keep_32 ?_
  refine X.mmin (c := imin (z + 1) 5) dX0_keep_33 kl_X0_29 ⟨by omega, by omega⟩ (by decide) (by decide) (Nat.le_of_ble_eq_true rfl) rfl ?_
  refine X.putI 1 1 rfl dX0_keep_36 fi_X0_17 sh_24 rfl rfl ?_
  exact X.vret dX0_keep_39 rfl rfl rfl
set_option maxHeartbeats 4000000 in
set_option maxRecDepth 100000 in
theorem c_restore_3 (M : Mem) (z : Int) (hn : M 24 2 = 3) (hz : M 24 1 = z) (h0 : 1 ≤ z ∧ z ≤ 5) : CX mX0_restore 5 [.inr (some 24), .inr (some 1)] M none (restM M 3 z) := by
  refine CX.of (by decide +kernel) (Nat.le_of_ble_eq_true rfl) [some (.inr (some 24)), some (.inr (some 1))] rfl ?_
  refine X.aload_n dX0_restore_0 rfl ?_
  refine X.aload_n dX0_restore_1 rfl ?_
  refine X.getI (v := 3) 2 dX0_restore_2 fi_X0_21 sh_24 rfl hn ?_
  refine X.iconst dX0_restore_5 ?_
  refine X.iadd (c := 8) dX0_restore_6 rfl ?_
  refine X.iconst dX0_restore_7 ?_
  refine X.isub (c := 7) dX0_restore_8 rfl ?_
  refine X.iconst dX0_restore_9 ?_
  refine X.irem (c := 2) dX0_restore_10 (by omega) (by decide) (by decide) ?_
  refine X.putI 2 2 rfl dX0_restore_11 fi_X0_21 sh_24 rfl rfl ?_
  refine X.aload_n dX0_restore_14 rfl ?_
  refine X.dup dX0_restore_15 ?_
  refine X.getI (v := z) 1 dX0_restore_16 fi_X0_17 sh_24 rfl (by rw [mset_ne (by omega)]; exact hz) ?_
  refine X.iconst dX0_restore_19 ?_
  refine X.isub (c := z - 1) dX0_restore_20 rfl ?_
  refine X.putI 1 1 rfl dX0_restore_21 fi_X0_17 sh_24 rfl rfl ?_
  refine X.aload_n dX0_restore_24 rfl ?_
  refine X.aload_n dX0_restore_25 rfl ?_
  refine X.getR dX0_restore_26 fi_X0_11 sh_24 rfl ?_
  refine X.aload_n dX0_restore_29 rfl ?_
  refine X.getI (v := 2) 2 dX0_restore_30 fi_X0_21 sh_24 rfl (by rw [mset_ne (by omega)]; exact mset_at) ?_
  refine X.aald dX0_restore_33 sh_25 (by decide) (by decide) (by decide) rfl ?_
  refine X.callV0 (As := [.inr (some 66)]) (rest := []) dX0_restore_34 mk_X0_25 sh_1 (show CX mX3_copyFrom 4 [.inr (some 1), .inr (some 66)] (mset (mset M 24 2 2) 24 1 (z - 1)) none (cpB (mset (mset M 24 2 2) 24 1 (z - 1)) 1 66) from by have h := c_copyFrom_1_66 (mset (mset M 24 2 2) 24 1 (z - 1)); rw [cpS_0] at h; exact h) rfl (by decide) rfl (Nat.le_of_ble_eq_true rfl) ?_
  exact X.vret dX0_restore_37 rfl rfl rfl
set_option maxHeartbeats 4000000 in
set_option maxRecDepth 100000 in
theorem c_keep_4 (M : Mem) (z : Int) (hn : M 24 2 = 4) (hz : M 24 1 = z) (h0 : 0 ≤ z ∧ z ≤ 5) : CX mX0_keep 5 [.inr (some 24), .inr (some 1)] M none (keepM M 4 z) := by
  refine CX.of (by decide +kernel) (Nat.le_of_ble_eq_true rfl) [some (.inr (some 24)), some (.inr (some 1))] rfl ?_
  refine X.aload_n dX0_keep_0 rfl ?_
  refine X.getR dX0_keep_1 fi_X0_11 sh_24 rfl ?_
  refine X.aload_n dX0_keep_4 rfl ?_
  refine X.getI (v := 4) 2 dX0_keep_5 fi_X0_21 sh_24 rfl hn ?_
  refine X.aald dX0_keep_8 sh_25 (by decide) (by decide) (by decide) rfl ?_
  refine X.aload_n dX0_keep_9 rfl ?_
  refine X.callV0 (As := [.inr (some 1)]) (rest := []) dX0_keep_10 mk_X0_25 sh_106 (show CX mX3_copyFrom 4 [.inr (some 106), .inr (some 1)] M none (cpB M 106 1) from by have h := c_copyFrom_106_1 M; rw [cpS_0] at h; exact h) rfl (by decide) rfl (Nat.le_of_ble_eq_true rfl) ?_
  refine X.aload_n dX0_keep_13 rfl ?_
  refine X.aload_n dX0_keep_14 rfl ?_
  refine X.getI (v := 4) 2 dX0_keep_15 fi_X0_21 sh_24 rfl ((congrFun (cpB_row (by decide)) 2).trans hn) ?_
  refine X.iconst dX0_keep_18 ?_
  refine X.iadd (c := 5) dX0_keep_19 rfl ?_
  refine X.iconst dX0_keep_20 ?_
  refine X.irem (c := 0) dX0_keep_21 (by omega) (by decide) (by decide) ?_
  refine X.putI 2 2 rfl dX0_keep_22 fi_X0_21 sh_24 rfl rfl ?_
  refine X.aload_n dX0_keep_25 rfl ?_
  refine X.aload_n dX0_keep_26 rfl ?_
  refine X.getI (v := z) 1 dX0_keep_27 fi_X0_17 sh_24 rfl (by rw [mset_ne (by omega)]; exact (congrFun (cpB_row (by decide)) 1).trans hz) ?_
  refine X.iconst dX0_keep_30 ?_
  refine X.iadd (c := z + 1) dX0_keep_31 rfl ?_
  refine X.iconst dX0_keep_32 ?_
  refine X.mmin (c := imin (z + 1) 5) dX0_keep_33 kl_X0_29 ⟨by omega, by omega⟩ (by decide) (by decide) (Nat.le_of_ble_eq_true rfl) rfl ?_
  refine X.putI 1 1 rfl dX0_keep_36 fi_X0_17 sh_24 rfl rfl ?_
  exact X.vret dX0_keep_39 rfl rfl rfl
set_option maxHeartbeats 4000000 in
set_option maxRecDepth 100000 in
theorem c_restore_4 (M : Mem) (z : Int) (hn : M 24 2 = 4) (hz : M 24 1 = z) (h0 : 1 ≤ z ∧ z ≤ 5) : CX mX0_restore 5 [.inr (some 24), .inr (some 1)] M none (restM M 4 z) := by
  refine CX.of (by decide +kernel) (Nat.le_of_ble_eq_true rfl) [some (.inr (some 24)), some (.inr (some 1))] rfl ?_
  refine X.aload_n dX0_restore_0 rfl ?_
  refine X.aload_n dX0_restore_1 rfl ?_
  refine X.getI (v := 4) 2 dX0_restore_2 fi_X0_21 sh_24 rfl hn ?_
  refine X.iconst dX0_restore_5 ?_
  refine X.iadd (c := 9) dX0_restore_6 rfl ?_
  refine X.iconst dX0_restore_7 ?_
  refine X.isub (c := 8) dX0_restore_8 rfl ?_
  refine X.iconst dX0_restore_9 ?_
  refine X.irem (c := 3) dX0_restore_10 (by omega) (by decide) (by decide) ?_
  refine X.putI 2 2 rfl dX0_restore_11 fi_X0_21 sh_24 rfl rfl ?_
  refine X.aload_n dX0_restore_14 rfl ?_
  refine X.dup dX0_restore_15 ?_
  refine X.getI (v := z) 1 dX0_restore_16 fi_X0_17 sh_24 rfl (by rw [mset_ne (by omega)]; exact hz) ?_
  refine X.iconst dX0_restore_19 ?_
  refine X.isub (c := z - 1) dX0_restore_20 rfl ?_
  refine X.putI 1 1 rfl dX0_restore_21 fi_X0_17 sh_24 rfl rfl ?_
  refine X.aload_n dX0_restore_24 rfl ?_
  refine X.aload_n dX0_restore_25 rfl ?_
  refine X.getR dX0_restore_26 fi_X0_11 sh_24 rfl ?_
  refine X.aload_n dX0_restore_29 rfl ?_
  refine X.getI (v := 3) 2 dX0_restore_30 fi_X0_21 sh_24 rfl (by rw [mset_ne (by omega)]; exact mset_at) ?_
  refine X.aald dX0_restore_33 sh_25 (by decide) (by decide) (by decide) rfl ?_
  refine X.callV0 (As := [.inr (some 86)]) (rest := []) dX0_restore_34 mk_X0_25 sh_1 (show CX mX3_copyFrom 4 [.inr (some 1), .inr (some 86)] (mset (mset M 24 2 3) 24 1 (z - 1)) none (cpB (mset (mset M 24 2 3) 24 1 (z - 1)) 1 86) from by have h := c_copyFrom_1_86 (mset (mset M 24 2 3) 24 1 (z - 1)); rw [cpS_0] at h; exact h) rfl (by decide) rfl (Nat.le_of_ble_eq_true rfl) ?_
  exact X.vret dX0_restore_37 rfl rfl rfl
theorem c_keep (M : Mem) (n z : Int) (hn : M 24 2 = n) (hz : M 24 1 = z) (h1 : 0 ≤ n ∧ n ≤ 4) (h0 : 0 ≤ z ∧ z ≤ 5) : CX mX0_keep 5 [.inr (some 24), .inr (some 1)] M none (keepM M n z) := by
  have : n = 0 ∨ n = 1 ∨ n = 2 ∨ n = 3 ∨ n = 4 := by omega
  rcases this with rfl | rfl | rfl | rfl | rfl
  · exact c_keep_0 M z hn hz h0
  · exact c_keep_1 M z hn hz h0
  · exact c_keep_2 M z hn hz h0
  · exact c_keep_3 M z hn hz h0
  · exact c_keep_4 M z hn hz h0
theorem c_restore (M : Mem) (n z : Int) (hn : M 24 2 = n) (hz : M 24 1 = z) (h1 : 0 ≤ n ∧ n ≤ 4) (h0 : 1 ≤ z ∧ z ≤ 5) : CX mX0_restore 5 [.inr (some 24), .inr (some 1)] M none (restM M n z) := by
  have : n = 0 ∨ n = 1 ∨ n = 2 ∨ n = 3 ∨ n = 4 := by omega
  rcases this with rfl | rfl | rfl | rfl | rfl
  · exact c_restore_0 M z hn hz h0
  · exact c_restore_1 M z hn hz h0
  · exact c_restore_2 M z hn hz h0
  · exact c_restore_3 M z hn hz h0
  · exact c_restore_4 M z hn hz h0
set_option maxHeartbeats 4000000 in
set_option maxRecDepth 100000 in
theorem c_isScout (M : Mem) (v : Vw) (hv : VA M v) (hS : SI v) (k : Int) (hk : inR k) : CX mX6_isScout 1 [.inr (some 0), .inl k] M (some (.inl (bi (0 ≤ k ∧ k ≤ v 0 0 - 1)))) M := by
  have n0 := hS.n0
  have n1 := hS.n1
  have n2 := hS.n2
  refine CX.of (by decide +kernel) (Nat.le_of_ble_eq_true rfl) [some (.inr (some 0)), some (.inl k)] rfl ?_
  refine X.iload_n dX6_isScout_0 rfl ?_
  refine X.iconst dX6_isScout_1 ?_
  refine X.aload_n dX6_isScout_2 rfl ?_
  refine X.getR dX6_isScout_3 fi_X6_12 sh_0 rfl ?_
  refine X.getI (v := v 0 0) 2 dX6_isScout_6 fi_X6_93 sh_1 rfl (rd_0_0 hv) ?_
  refine X.iconst dX6_isScout_9 ?_
  refine X.isub (c := (v 0 0) - 1) dX6_isScout_10 rfl ?_
  refine X.callS1 (As := [.inl k, .inl 0, .inl ((v 0 0) - 1)]) (rest := []) dX6_isScout_11 mk_X6_48 (c_isWithin M k 0 (v 0 0 - 1) hk (by decide) ⟨by omega, by omega⟩) rfl (by decide) rfl (Nat.le_of_ble_eq_true rfl) ?_
  exact X.zret dX6_isScout_14 rfl (bi_01 _) rfl rfl
set_option maxHeartbeats 4000000 in
set_option maxRecDepth 100000 in
theorem c_isLight (M : Mem) (v : Vw) (hv : VA M v) (hS : SI v) (k : Int) (hk : inR k) : CX mX6_isLight 1 [.inr (some 0), .inl k] M (some (.inl (bi (0 ≤ k ∧ k ≤ v 0 1 - 1)))) M := by
  have n0 := hS.n0
  have n1 := hS.n1
  have n2 := hS.n2
  refine CX.of (by decide +kernel) (Nat.le_of_ble_eq_true rfl) [some (.inr (some 0)), some (.inl k)] rfl ?_
  refine X.iload_n dX6_isLight_0 rfl ?_
  refine X.iconst dX6_isLight_1 ?_
  refine X.aload_n dX6_isLight_2 rfl ?_
  refine X.getR dX6_isLight_3 fi_X6_12 sh_0 rfl ?_
  refine X.getI (v := v 0 1) 6 dX6_isLight_6 fi_X6_131 sh_1 rfl (rd_0_1 hv) ?_
  refine X.iconst dX6_isLight_9 ?_
  refine X.isub (c := (v 0 1) - 1) dX6_isLight_10 rfl ?_
  refine X.callS1 (As := [.inl k, .inl 0, .inl ((v 0 1) - 1)]) (rest := []) dX6_isLight_11 mk_X6_48 (c_isWithin M k 0 (v 0 1 - 1) hk (by decide) ⟨by omega, by omega⟩) rfl (by decide) rfl (Nat.le_of_ble_eq_true rfl) ?_
  exact X.zret dX6_isLight_14 rfl (bi_01 _) rfl rfl
set_option maxHeartbeats 4000000 in
set_option maxRecDepth 100000 in
theorem c_canStep (M : Mem) (v : Vw) (hv : VA M v) (hS : SI v) (a b : Int) (ha : 0 ≤ a ∧ a < 120) (hb : 0 ≤ b ∧ b < 120) : CX mX6_canStep 2 [.inr (some 0), .inl a, .inl b] M (some (.inl (bi ((v 2 b = 0 ∧ sIn v b = -19) ∧ iabs (v 1 a - v 1 b) ≤ 2)))) M := by
  have n0 := hS.n0
  have n1 := hS.n1
  have n2 := hS.n2
  refine CX.of (by decide +kernel) (Nat.le_of_ble_eq_true rfl) [some (.inr (some 0)), some (.inl a), some (.inl b)] rfl ?_
  refine X.aload_n dX6_canStep_0 rfl ?_
  refine X.getR dX6_canStep_1 fi_X6_12 sh_0 rfl ?_
  refine X.iload_n dX6_canStep_4 rfl ?_
  by_cases p1 : v 2 b = 0 ∧ sIn v b = -19
  · skip
    refine X.callV1 (As := [.inl b]) (rest := []) dX6_canStep_5 mk_X6_89 sh_1 (CX.bt (c_isFree M v hv hS b (by omega)) p1) rfl (by decide) rfl (Nat.le_of_ble_eq_true rfl) ?_
    refine X.if_eq (tgt := 41) dX6_canStep_8 (by decide) (by decide) (fun h => absurd h (by decide)) (fun h2 => ?_)
    refine X.aload_n dX6_canStep_11 rfl ?_
    refine X.getR dX6_canStep_12 fi_X6_12 sh_0 rfl ?_
    refine X.getR dX6_canStep_15 fi_X6_56 sh_1 rfl ?_
    refine X.iload_n dX6_canStep_18 rfl ?_
    have q3 := SI.r1 hS a
    refine X.iald (v := v 1 a) dX6_canStep_19 sh_2 (by decide) (by omega) (rd_1 hv (by omega)) ?_
    refine X.aload_n dX6_canStep_20 rfl ?_
    refine X.getR dX6_canStep_21 fi_X6_12 sh_0 rfl ?_
    refine X.getR dX6_canStep_24 fi_X6_56 sh_1 rfl ?_
    refine X.iload_n dX6_canStep_27 rfl ?_
    have q4 := SI.r1 hS b
    refine X.iald (v := v 1 b) dX6_canStep_28 sh_2 (by decide) (by omega) (rd_1 hv (by omega)) ?_
    refine X.isub (c := (v 1 a) - (v 1 b)) dX6_canStep_29 rfl ?_
    refine X.mabs (c := iabs ((v 1 a) - (v 1 b))) dX6_canStep_30 kl_X6_239 ⟨by omega, by omega⟩ (by decide) (Nat.le_of_ble_eq_true rfl) rfl ?_
    refine X.iconst dX6_canStep_33 ?_
    have hi := iabs_r (a := v 1 a - v 1 b)
    refine X.icmp_gt (tgt := 41) dX6_canStep_34 (by decide) ⟨by omega, by omega⟩ (by decide) (fun h5 => ?_) (fun h5 => ?_)
    · skip
      refine X.iconst dX6_canStep_41 ?_
      exact X.zret dX6_canStep_42 rfl (by decide) (by rw [bi_f (by omega)]) rfl
    · skip
      refine X.iconst dX6_canStep_37 ?_
      refine X.goto (tgt := 42) dX6_canStep_38 (by decide) ?_
      exact X.zret dX6_canStep_42 rfl (by decide) (by rw [bi_t (by omega)]) rfl
  · skip
    refine X.callV1 (As := [.inl b]) (rest := []) dX6_canStep_5 mk_X6_89 sh_1 (CX.bf (c_isFree M v hv hS b (by omega)) p1) rfl (by decide) rfl (Nat.le_of_ble_eq_true rfl) ?_
    refine X.if_eq (tgt := 41) dX6_canStep_8 (by decide) (by decide) (fun h6 => ?_) (fun h => absurd h (by decide))
    refine X.iconst dX6_canStep_41 ?_
    exact X.zret dX6_canStep_42 rfl (by decide) (by rw [bi_f (by omega)]) rfl
set_option maxHeartbeats 4000000 in
set_option maxRecDepth 100000 in
theorem c_countUncovered_0 (M : Mem) (v : Vw) (hv : VA M v) (hS : SI v) (hG : SG M v) (m : Int → Int) (hm : ∀ i, 0 ≤ i ∧ i < 120 → M 12 i = m i) (hmr : ∀ i, 0 ≤ m i ∧ m i ≤ 99) : CX mX6_countUncovered 2 [.inr (some 0), .inl 0] M (some (.inl (cnt (fun k => sSees v 0 k ∧ m k = 0) 120 0))) M := by
  have n0 := hS.n0
  have n1 := hS.n1
  have n2 := hS.n2
  refine CX.of (by decide +kernel) (Nat.le_of_ble_eq_true rfl) [some (.inr (some 0)), some (.inl 0), none, none, none] rfl ?_
  refine X.aload_n dX6_countUncovered_0 rfl ?_
  refine X.getR dX6_countUncovered_1 fi_X6_12 sh_0 rfl ?_
  refine X.iload_n dX6_countUncovered_4 rfl ?_
  refine X.callV1 (As := [.inl 0]) (rest := []) dX6_countUncovered_5 mk_X6_171 sh_1 (c_scoutsOf M v hv hS 0 (by decide)) rfl (by decide) rfl (Nat.le_of_ble_eq_true rfl) ?_
  refine X.istore_n (lv2 := [some (.inr (some 0)), some (.inl 0), some (.inl ((mkN (fun j => v 3 j = 0) (v 0 0).toNat : Nat) : Int)), none, none]) dX6_countUncovered_8 (Nat.le_of_ble_eq_true rfl) rfl ?_
  refine X.iconst dX6_countUncovered_9 ?_
  refine X.istore_n (lv2 := [some (.inr (some 0)), some (.inl 0), some (.inl ((mkN (fun j => v 3 j = 0) (v 0 0).toNat : Nat) : Int)), some (.inl 0), none]) dX6_countUncovered_10 (Nat.le_of_ble_eq_true rfl) rfl ?_
  refine X.iconst dX6_countUncovered_11 ?_
  refine X.istore (lv2 := [some (.inr (some 0)), some (.inl 0), some (.inl ((mkN (fun j => v 3 j = 0) (v 0 0).toNat : Nat) : Int)), some (.inl 0), some (.inl 0)]) dX6_countUncovered_12 (Nat.le_of_ble_eq_true rfl) rfl ?_
  have L14 : ∀ k, 0 ≤ k → k ≤ 120 → ∀ acc : Int, VX mX6_countUncovered 2 14 [some (.inr (some 0)), some (.inl 0), some (.inl ((mkN (fun k => v 3 k = 0) (v 0 0).toNat : Nat) : Int)), some (.inl acc), some (.inl k)] [] M (some (.inl (acc + cnt (fun k => sSees v 0 k ∧ m k = 0) (120 - k).toNat k))) M := by
    refine down_ind 0 120 ?_ ?_
    · skip
      intro acc
      refine X.iload dX6_countUncovered_14 rfl ?_
      refine X.bipush dX6_countUncovered_16 (by decide) ?_
      refine X.icmp_ge (tgt := 61) dX6_countUncovered_18 (by decide) ⟨by omega, by omega⟩ (by decide) (fun h1 => ?_) (fun h => by exfalso; omega)
      refine X.iload_n dX6_countUncovered_61 rfl ?_
      exact X.iret dX6_countUncovered_62 rfl (by rw [cnt_end, Int.add_zero]) rfl
    · intro k hk1 hk2 ihk
      intro acc
      refine X.iload dX6_countUncovered_14 rfl ?_
      refine X.bipush dX6_countUncovered_16 (by decide) ?_
      refine X.icmp_ge (tgt := 61) dX6_countUncovered_18 (by decide) ⟨by omega, by omega⟩ (by decide) (fun h => by exfalso; omega) (fun h2 => ?_)
      refine X.aload_n dX6_countUncovered_21 rfl ?_
      refine X.getR dX6_countUncovered_22 fi_X6_19 sh_0 rfl ?_
      refine X.iload dX6_countUncovered_25 rfl ?_
      refine X.iload_n dX6_countUncovered_27 rfl ?_
      by_cases hp : ∃ z, 0 ≤ z ∧ z < v 0 0 ∧ sees v z k ∧ (fun k => v 3 k = 0) z
      · skip
        refine X.callV1 (As := [.inl k, .inl ((mkN (fun k => v 3 k = 0) (v 0 0).toNat : Nat) : Int)]) (rest := []) dX6_countUncovered_28 mk_X6_198 sh_21 (CX.bt (c_isSeen M v hv hS hG k (fun k => v 3 k = 0) (by omega)) hp) rfl (by decide) rfl (Nat.le_of_ble_eq_true rfl) ?_
        refine X.if_eq (tgt := 55) dX6_countUncovered_31 (by decide) (by decide) (fun h => absurd h (by decide)) (fun h3 => ?_)
        refine X.aload_n dX6_countUncovered_34 rfl ?_
        refine X.getR dX6_countUncovered_35 fi_X6_12 sh_0 rfl ?_
        refine X.getR dX6_countUncovered_38 fi_X6_177 sh_1 rfl ?_
        refine X.iload_n dX6_countUncovered_41 rfl ?_
        refine X.aald dX6_countUncovered_42 sh_10 (by decide) (by decide) (by decide) rfl ?_
        refine X.getR dX6_countUncovered_43 fi_X6_207 sh_11 rfl ?_
        refine X.iload dX6_countUncovered_46 rfl ?_
        refine X.iald (v := m k) dX6_countUncovered_48 sh_12 (by decide) (by omega) (hm k (by omega)) ?_
        have q := hmr k
        refine X.if_ne (tgt := 55) dX6_countUncovered_49 (by decide) ⟨by omega, by omega⟩ (fun h49 => ?_) (fun h49 => ?_)
        · skip
          refine X.iinc (y := k + 1) (lv2 := [some (.inr (some 0)), some (.inl 0), some (.inl ((mkN (fun k => v 3 k = 0) (v 0 0).toNat : Nat) : Int)), some (.inl acc), some (.inl (k + 1))]) dX6_countUncovered_55 rfl rfl rfl ?_
          refine X.goto (tgt := 14) dX6_countUncovered_58 (by decide) ?_
          rw [cnt_step _ _ _ hk2, bi_f (show ¬ (sSees v 0 k ∧ m k = 0) from fun q => h49 q.2), Int.zero_add]
          exact ihk acc
        · skip
          refine X.iinc (y := acc + 1) (lv2 := [some (.inr (some 0)), some (.inl 0), some (.inl ((mkN (fun k => v 3 k = 0) (v 0 0).toNat : Nat) : Int)), some (.inl (acc + 1)), some (.inl k)]) dX6_countUncovered_52 rfl rfl rfl ?_
          refine X.iinc (y := k + 1) (lv2 := [some (.inr (some 0)), some (.inl 0), some (.inl ((mkN (fun k => v 3 k = 0) (v 0 0).toNat : Nat) : Int)), some (.inl (acc + 1)), some (.inl (k + 1))]) dX6_countUncovered_55 rfl rfl rfl ?_
          refine X.goto (tgt := 14) dX6_countUncovered_58 (by decide) ?_
          rw [cnt_step _ _ _ hk2, bi_t (show sSees v 0 k ∧ m k = 0 from ⟨hp, h49⟩), ← Int.add_assoc]
          exact ihk (acc + 1)
      · skip
        refine X.callV1 (As := [.inl k, .inl ((mkN (fun k => v 3 k = 0) (v 0 0).toNat : Nat) : Int)]) (rest := []) dX6_countUncovered_28 mk_X6_198 sh_21 (CX.bf (c_isSeen M v hv hS hG k (fun k => v 3 k = 0) (by omega)) hp) rfl (by decide) rfl (Nat.le_of_ble_eq_true rfl) ?_
        refine X.if_eq (tgt := 55) dX6_countUncovered_31 (by decide) (by decide) (fun h4 => ?_) (fun h => absurd h (by decide))
        refine X.iinc (y := k + 1) (lv2 := [some (.inr (some 0)), some (.inl 0), some (.inl ((mkN (fun k => v 3 k = 0) (v 0 0).toNat : Nat) : Int)), some (.inl acc), some (.inl (k + 1))]) dX6_countUncovered_55 rfl rfl rfl ?_
        refine X.goto (tgt := 14) dX6_countUncovered_58 (by decide) ?_
        rw [cnt_step _ _ _ hk2, bi_f (show ¬ (sSees v 0 k ∧ m k = 0) from fun q => hp q.1), Int.zero_add]
        exact ihk acc
  have e := L14 0 (by omega) (by omega) 0
  rw [Int.zero_add, Int.sub_zero] at e
  exact e
set_option maxHeartbeats 4000000 in
set_option maxRecDepth 100000 in
theorem c_countUncovered_1 (M : Mem) (v : Vw) (hv : VA M v) (hS : SI v) (hG : SG M v) (m : Int → Int) (hm : ∀ i, 0 ≤ i ∧ i < 120 → M 17 i = m i) (hmr : ∀ i, 0 ≤ m i ∧ m i ≤ 99) : CX mX6_countUncovered 2 [.inr (some 0), .inl 1] M (some (.inl (cnt (fun k => sSees v 1 k ∧ m k = 0) 120 0))) M := by
  have n0 := hS.n0
  have n1 := hS.n1
  have n2 := hS.n2
  refine CX.of (by decide +kernel) (Nat.le_of_ble_eq_true rfl) [some (.inr (some 0)), some (.inl 1), none, none, none] rfl ?_
  refine X.aload_n dX6_countUncovered_0 rfl ?_
  refine X.getR dX6_countUncovered_1 fi_X6_12 sh_0 rfl ?_
  refine X.iload_n dX6_countUncovered_4 rfl ?_
  refine X.callV1 (As := [.inl 1]) (rest := []) dX6_countUncovered_5 mk_X6_171 sh_1 (c_scoutsOf M v hv hS 1 (by decide)) rfl (by decide) rfl (Nat.le_of_ble_eq_true rfl) ?_
  refine X.istore_n (lv2 := [some (.inr (some 0)), some (.inl 1), some (.inl ((mkN (fun j => v 3 j = 1) (v 0 0).toNat : Nat) : Int)), none, none]) dX6_countUncovered_8 (Nat.le_of_ble_eq_true rfl) rfl ?_
  refine X.iconst dX6_countUncovered_9 ?_
  refine X.istore_n (lv2 := [some (.inr (some 0)), some (.inl 1), some (.inl ((mkN (fun j => v 3 j = 1) (v 0 0).toNat : Nat) : Int)), some (.inl 0), none]) dX6_countUncovered_10 (Nat.le_of_ble_eq_true rfl) rfl ?_
  refine X.iconst dX6_countUncovered_11 ?_
  refine X.istore (lv2 := [some (.inr (some 0)), some (.inl 1), some (.inl ((mkN (fun j => v 3 j = 1) (v 0 0).toNat : Nat) : Int)), some (.inl 0), some (.inl 0)]) dX6_countUncovered_12 (Nat.le_of_ble_eq_true rfl) rfl ?_
  have L14 : ∀ k, 0 ≤ k → k ≤ 120 → ∀ acc : Int, VX mX6_countUncovered 2 14 [some (.inr (some 0)), some (.inl 1), some (.inl ((mkN (fun k => v 3 k = 1) (v 0 0).toNat : Nat) : Int)), some (.inl acc), some (.inl k)] [] M (some (.inl (acc + cnt (fun k => sSees v 1 k ∧ m k = 0) (120 - k).toNat k))) M := by
    refine down_ind 0 120 ?_ ?_
    · skip
      intro acc
      refine X.iload dX6_countUncovered_14 rfl ?_
      refine X.bipush dX6_countUncovered_16 (by decide) ?_
      refine X.icmp_ge (tgt := 61) dX6_countUncovered_18 (by decide) ⟨by omega, by omega⟩ (by decide) (fun h1 => ?_) (fun h => by exfalso; omega)
      refine X.iload_n dX6_countUncovered_61 rfl ?_
      exact X.iret dX6_countUncovered_62 rfl (by rw [cnt_end, Int.add_zero]) rfl
    · intro k hk1 hk2 ihk
      intro acc
      refine X.iload dX6_countUncovered_14 rfl ?_
      refine X.bipush dX6_countUncovered_16 (by decide) ?_
      refine X.icmp_ge (tgt := 61) dX6_countUncovered_18 (by decide) ⟨by omega, by omega⟩ (by decide) (fun h => by exfalso; omega) (fun h2 => ?_)
      refine X.aload_n dX6_countUncovered_21 rfl ?_
      refine X.getR dX6_countUncovered_22 fi_X6_19 sh_0 rfl ?_
      refine X.iload dX6_countUncovered_25 rfl ?_
      refine X.iload_n dX6_countUncovered_27 rfl ?_
      by_cases hp : ∃ z, 0 ≤ z ∧ z < v 0 0 ∧ sees v z k ∧ (fun k => v 3 k = 1) z
      · skip
        refine X.callV1 (As := [.inl k, .inl ((mkN (fun k => v 3 k = 1) (v 0 0).toNat : Nat) : Int)]) (rest := []) dX6_countUncovered_28 mk_X6_198 sh_21 (CX.bt (c_isSeen M v hv hS hG k (fun k => v 3 k = 1) (by omega)) hp) rfl (by decide) rfl (Nat.le_of_ble_eq_true rfl) ?_
        refine X.if_eq (tgt := 55) dX6_countUncovered_31 (by decide) (by decide) (fun h => absurd h (by decide)) (fun h3 => ?_)
        refine X.aload_n dX6_countUncovered_34 rfl ?_
        refine X.getR dX6_countUncovered_35 fi_X6_12 sh_0 rfl ?_
        refine X.getR dX6_countUncovered_38 fi_X6_177 sh_1 rfl ?_
        refine X.iload_n dX6_countUncovered_41 rfl ?_
        refine X.aald dX6_countUncovered_42 sh_10 (by decide) (by decide) (by decide) rfl ?_
        refine X.getR dX6_countUncovered_43 fi_X6_207 sh_16 rfl ?_
        refine X.iload dX6_countUncovered_46 rfl ?_
        refine X.iald (v := m k) dX6_countUncovered_48 sh_17 (by decide) (by omega) (hm k (by omega)) ?_
        have q := hmr k
        refine X.if_ne (tgt := 55) dX6_countUncovered_49 (by decide) ⟨by omega, by omega⟩ (fun h49 => ?_) (fun h49 => ?_)
        · skip
          refine X.iinc (y := k + 1) (lv2 := [some (.inr (some 0)), some (.inl 1), some (.inl ((mkN (fun k => v 3 k = 1) (v 0 0).toNat : Nat) : Int)), some (.inl acc), some (.inl (k + 1))]) dX6_countUncovered_55 rfl rfl rfl ?_
          refine X.goto (tgt := 14) dX6_countUncovered_58 (by decide) ?_
          rw [cnt_step _ _ _ hk2, bi_f (show ¬ (sSees v 1 k ∧ m k = 0) from fun q => h49 q.2), Int.zero_add]
          exact ihk acc
        · skip
          refine X.iinc (y := acc + 1) (lv2 := [some (.inr (some 0)), some (.inl 1), some (.inl ((mkN (fun k => v 3 k = 1) (v 0 0).toNat : Nat) : Int)), some (.inl (acc + 1)), some (.inl k)]) dX6_countUncovered_52 rfl rfl rfl ?_
          refine X.iinc (y := k + 1) (lv2 := [some (.inr (some 0)), some (.inl 1), some (.inl ((mkN (fun k => v 3 k = 1) (v 0 0).toNat : Nat) : Int)), some (.inl (acc + 1)), some (.inl (k + 1))]) dX6_countUncovered_55 rfl rfl rfl ?_
          refine X.goto (tgt := 14) dX6_countUncovered_58 (by decide) ?_
          rw [cnt_step _ _ _ hk2, bi_t (show sSees v 1 k ∧ m k = 0 from ⟨hp, h49⟩), ← Int.add_assoc]
          exact ihk (acc + 1)
      · skip
        refine X.callV1 (As := [.inl k, .inl ((mkN (fun k => v 3 k = 1) (v 0 0).toNat : Nat) : Int)]) (rest := []) dX6_countUncovered_28 mk_X6_198 sh_21 (CX.bf (c_isSeen M v hv hS hG k (fun k => v 3 k = 1) (by omega)) hp) rfl (by decide) rfl (Nat.le_of_ble_eq_true rfl) ?_
        refine X.if_eq (tgt := 55) dX6_countUncovered_31 (by decide) (by decide) (fun h4 => ?_) (fun h => absurd h (by decide))
        refine X.iinc (y := k + 1) (lv2 := [some (.inr (some 0)), some (.inl 1), some (.inl ((mkN (fun k => v 3 k = 1) (v 0 0).toNat : Nat) : Int)), some (.inl acc), some (.inl (k + 1))]) dX6_countUncovered_55 rfl rfl rfl ?_
        refine X.goto (tgt := 14) dX6_countUncovered_58 (by decide) ?_
        rw [cnt_step _ _ _ hk2, bi_f (show ¬ (sSees v 1 k ∧ m k = 0) from fun q => hp q.1), Int.zero_add]
        exact ihk acc
  have e := L14 0 (by omega) (by omega) 0
  rw [Int.zero_add, Int.sub_zero] at e
  exact e
def vset (v : Vw) (t : Nat) (i x : Int) : Vw := vrow v t (fun j => if j = i then x else v t j)
theorem vrow_at {v : Vw} {t : Nat} {f : Int → Int} : vrow v t f t = f := if_pos rfl
theorem vrow_ne {v : Vw} {t s : Nat} {f : Int → Int} (h : s ≠ t) : vrow v t f s = v s := if_neg h
theorem gd_set {n i x : Int} {f g : Int → Int} (h : gd n f = g) (hi : 0 ≤ i ∧ i < n) : gd n (fun j => if j = i then x else f j) = fun j => if j = i then x else g j := by
  subst h
  funext j
  by_cases e : j = i
  · subst e; rw [gd_in hi, if_pos rfl, if_pos rfl]
  · rw [if_neg e]
    by_cases hj : 0 ≤ j ∧ j < n
    · rw [gd_in hj, gd_in hj, if_neg e]
    · rw [gd_out hj, gd_out hj]
theorem mset_fun {M : Mem} {a : Nat} {i x : Int} : mset M a i x a = fun j => if j = i then x else M a j := by
  funext j; simp [mset]
theorem VAset {M : Mem} {v : Vw} {t : Nat} {i x : Int} (hv : VA M v) (ht : 1 ≤ t ∧ t ≤ 8) (hi : 0 ≤ i ∧ i < (if t ≤ 2 then 120 else if t ≤ 5 then v 0 0 else v 0 1)) : VA (mset M (1 + t) i x) (vset v t i x) := by
  intro s hs
  have hr : ∀ a, a ≠ 1 + t → mset M (1 + t) i x a = M a := fun a ha => mset_row ha
  by_cases e : s = t
  · subst e
    unfold vset
    rw [vrow_at]
    have h0 := hv s (by omega)
    have : s = 1 ∨ s = 2 ∨ s = 3 ∨ s = 4 ∨ s = 5 ∨ s = 6 ∨ s = 7 ∨ s = 8 := by omega
    rcases this with rfl | rfl | rfl | rfl | rfl | rfl | rfl | rfl
    · show gd 120 (mset M (1 + 1) i x (1 + 1)) = _
      rw [mset_fun]; exact gd_set h0 hi
    · show gd 120 (mset M (1 + 2) i x (1 + 2)) = _
      rw [mset_fun]; exact gd_set h0 hi
    · show gd (mset M (1 + 3) i x 1 2) (mset M (1 + 3) i x (1 + 3)) = _
      rw [mset_fun, hr 1 (by decide)]; exact gd_set h0 (by rw [rd_0_0 hv]; exact hi)
    · show gd (mset M (1 + 4) i x 1 2) (mset M (1 + 4) i x (1 + 4)) = _
      rw [mset_fun, hr 1 (by decide)]; exact gd_set h0 (by rw [rd_0_0 hv]; exact hi)
    · show gd (mset M (1 + 5) i x 1 2) (mset M (1 + 5) i x (1 + 5)) = _
      rw [mset_fun, hr 1 (by decide)]; exact gd_set h0 (by rw [rd_0_0 hv]; exact hi)
    · show gd (mset M (1 + 6) i x 1 6) (mset M (1 + 6) i x (1 + 6)) = _
      rw [mset_fun, hr 1 (by decide)]; exact gd_set h0 (by rw [rd_0_1 hv]; exact hi)
    · show gd (mset M (1 + 7) i x 1 6) (mset M (1 + 7) i x (1 + 7)) = _
      rw [mset_fun, hr 1 (by decide)]; exact gd_set h0 (by rw [rd_0_1 hv]; exact hi)
    · show gd (mset M (1 + 8) i x 1 6) (mset M (1 + 8) i x (1 + 8)) = _
      rw [mset_fun, hr 1 (by decide)]; exact gd_set h0 (by rw [rd_0_1 hv]; exact hi)
  · unfold vset
    rw [vrow_ne e, ← hv s hs]
    have : s = 0 ∨ s = 1 ∨ s = 2 ∨ s = 3 ∨ s = 4 ∨ s = 5 ∨ s = 6 ∨ s = 7 ∨ s = 8 := by omega
    rcases this with rfl | rfl | rfl | rfl | rfl | rfl | rfl | rfl | rfl <;> simp only [vF, hr 1 (by omega)]
    · rw [hr (1 + 1) (by omega)]
    · rw [hr (1 + 2) (by omega)]
    · rw [hr (1 + 3) (by omega)]
    · rw [hr (1 + 4) (by omega)]
    · rw [hr (1 + 5) (by omega)]
    · rw [hr (1 + 6) (by omega)]
    · rw [hr (1 + 7) (by omega)]
    · rw [hr (1 + 8) (by omega)]
theorem VM.frame {M M' : Mem} {v v' : Vw} (h : VM M v) (hf : ∀ a, 12 ≤ a → a ≤ 20 → M' a = M a) (hv : ∀ t, 9 ≤ t → t ≤ 16 → v' t = v t) : VM M' v' := by
  intro t h1 h2
  rw [hv t h1 h2, ← h t h1 h2]
  have : t = 9 ∨ t = 10 ∨ t = 11 ∨ t = 12 ∨ t = 13 ∨ t = 14 ∨ t = 15 ∨ t = 16 := by omega
  rcases this with rfl | rfl | rfl | rfl | rfl | rfl | rfl | rfl <;> simp only [vF, hf (1 + 11) (by omega) (by omega), hf (1 + 12) (by omega) (by omega), hf (1 + 13) (by omega) (by omega), hf (1 + 14) (by omega) (by omega), hf (1 + 16) (by omega) (by omega), hf (1 + 17) (by omega) (by omega), hf (1 + 18) (by omega) (by omega), hf (1 + 19) (by omega) (by omega)]
theorem VA.more {M M' : Mem} {v v' : Vw} (h : VA M v) (hf : ∀ a, 1 ≤ a → a ≤ 9 → M' a = M a) (hv : ∀ t, t ≤ 8 → v' t = v t) : VA M' v' := fun t ht => by
  rw [hv t ht]; exact (h.frame hf) t ht
theorem VAscal {M : Mem} {v : Vw} {i x : Int} (hv : VA M v) (hi : (i = 10 ∧ x = x) ∨ i = 11) : VA (mset M 1 i x) (vset v 0 (if i = 10 then 2 else 3) x) := by
  intro s hs
  have hr : ∀ a, a ≠ 1 → mset M 1 i x a = M a := fun a ha => mset_row ha
  have e2 : mset M 1 i x 1 2 = M 1 2 := mset_ne (by omega)
  have e6 : mset M 1 i x 1 6 = M 1 6 := mset_ne (by omega)
  by_cases e : s = 0
  · subst e
    unfold vset
    rw [vrow_at, ← hv 0 (by decide)]
    show (fun j => if j = 0 then mset M 1 i x 1 2 else if j = 1 then mset M 1 i x 1 6 else if j = 2 then mset M 1 i x 1 10 else if j = 3 then mset M 1 i x 1 11 else 0) = fun j => if j = (if i = 10 then 2 else 3) then x else if j = 0 then M 1 2 else if j = 1 then M 1 6 else if j = 2 then M 1 10 else if j = 3 then M 1 11 else 0
    funext j
    rw [e2, e6]
    rcases hi with ⟨rfl, -⟩ | rfl
    · rw [mset_at, mset_ne (j := 11) (by omega)]
      by_cases a : j = 0 <;> by_cases b : j = 1 <;> by_cases c : j = 2 <;> by_cases d : j = 3 <;> simp [a, b, c, d] <;> omega
    · rw [mset_at, mset_ne (j := 10) (by omega)]
      by_cases a : j = 0 <;> by_cases b : j = 1 <;> by_cases c : j = 2 <;> by_cases d : j = 3 <;> simp [a, b, c, d] <;> omega
  · unfold vset
    rw [vrow_ne e, ← hv s hs]
    have : s = 1 ∨ s = 2 ∨ s = 3 ∨ s = 4 ∨ s = 5 ∨ s = 6 ∨ s = 7 ∨ s = 8 := by omega
    rcases this with rfl | rfl | rfl | rfl | rfl | rfl | rfl | rfl <;> simp only [vF, e2, e6, hr (1 + 1) (by omega), hr (1 + 2) (by omega), hr (1 + 3) (by omega), hr (1 + 4) (by omega), hr (1 + 5) (by omega), hr (1 + 6) (by omega), hr (1 + 7) (by omega), hr (1 + 8) (by omega)]
theorem VAx.fade {M : Mem} {v w : Vw} (h : VA M v) : VA (fadeM M w) v := (h.mgn fun a h1 h2 => Frow_no (by omega)).mgn fun a h1 h2 => Frow_no (by omega)
/-- a turn: oil, the turns, what is remembered -/
def turnV (v : Vw) : Vw := vset (burnV v) 0 3 (v 0 3 + 1)
def turnM (M : Mem) (v : Vw) : Mem := fadeM (mset (burnM M v) 1 11 (v 0 3 + 1)) v
theorem VA.turn {M : Mem} {v : Vw} (hv : VA M v) : VA (turnM M v) (turnV v) := VAx.fade (VAscal hv.burn (Or.inr rfl))
theorem SI.turn {v : Vw} (h : SI v) : SI (turnV v) := by
  have hb := h.burn
  have e : ∀ i, i ≠ 3 → turnV v 0 i = burnV v 0 i := fun i hi => if_neg hi
  have e2 : ∀ t, t ≠ 0 → turnV v t = burnV v t := fun t ht => vrow_ne ht
  unfold SI
  rw [e 0 (by decide), e 1 (by decide), e 2 (by decide), e2 1 (by decide), e2 2 (by decide), e2 3 (by decide), e2 4 (by decide), e2 5 (by decide), e2 6 (by decide), e2 7 (by decide), e2 8 (by decide), e2 9 (by decide), e2 10 (by decide), e2 11 (by decide), e2 12 (by decide), e2 13 (by decide), e2 14 (by decide), e2 15 (by decide), e2 16 (by decide)]
  exact hb
theorem SGx.turn {M : Mem} {v : Vw} (h : SG M v) (he : ∀ k, 0 < v 8 k → 0 < burnV v 8 k) : SG (turnM M v) (turnV v) := by
  have h22 : ∀ a, a = 22 ∨ a = 23 → turnM M v a = M a := by
    intro a ha
    unfold turnM fadeM burnM
    rw [mgen_row (Frow_no (by omega)), mgen_row (Frow_no (by omega)), mset_row (by omega), mgen_row (Frow_no (by omega))]
  have hl : ∀ c, lit (turnV v) c ↔ lit v c := by
    intro c
    have e1 : turnV v 0 1 = v 0 1 := rfl
    have e6 : turnV v 6 = v 6 := rfl
    have e7 : turnV v 7 = v 7 := rfl
    have e8 : ∀ k, 0 < turnV v 8 k ↔ 0 < v 8 k := fun k => ⟨fun q => by
      have q2 : 0 < dim1 (v 8 k) := q
      unfold dim1 at q2; split at q2 <;> omega, he k⟩
    unfold lit
    rw [e1, e6, e7]
    constructor
    · rintro ⟨k, a, b, c, d⟩; exact ⟨k, a, b, (e8 k).mp c, d⟩
    · rintro ⟨k, a, b, c, d⟩; exact ⟨k, a, b, (e8 k).mpr c, d⟩
  have hs : ∀ k c, sees (turnV v) k c ↔ sees v k c := by
    intro k c
    have hf : free (turnV v) (v 4 k) c ↔ free v (v 4 k) c := Iff.rfl
    show ((dist (v 4 k) c ≤ v 5 k ∨ (dist (v 4 k) c ≤ 2 * v 5 k ∧ lit (turnV v) c)) ∧ free (turnV v) (v 4 k) c) ↔ _
    rw [hl c, hf]; rfl
  refine ⟨fun c hc => ?_, fun c hc => ?_⟩
  · rw [h22 22 (Or.inl rfl), h.1 c hc]; exact (bi_iff (hl c)).symm
  · rw [h22 23 (Or.inr rfl), h.2 c hc]
    congr 1
    exact mkN_congr _ fun k _ => (hs k c).symm
theorem cnt_le {P Q : Int → Prop} : ∀ (n : Nat) (k : Int), (∀ i, Q i → P i) → cnt Q n k ≤ cnt P n k ∧ (cnt P n k - cnt Q n k ≤ 0 → ∀ i, k ≤ i → i < k + n → P i → Q i)
  | 0, k, h => ⟨by simp [cnt], fun _ i h1 h2 => by omega⟩
  | n + 1, k, h => by
    obtain ⟨a, b⟩ := cnt_le n (k + 1) h
    have hb : bi (Q k) ≤ bi (P k) ∧ (bi (P k) - bi (Q k) ≤ 0 → P k → Q k) := by
      by_cases q : Q k
      · rw [bi_t q, bi_t (h k q)]; exact ⟨by omega, fun _ _ => q⟩
      · rw [bi_f q]
        have := bi_ge (P k)
        refine ⟨by omega, fun z p => ?_⟩
        rw [bi_t p] at z; omega
    simp only [cnt]
    refine ⟨by omega, fun z i h1 h2 p => ?_⟩
    by_cases e : i = k
    · subst e; exact hb.2 (by omega) p
    · exact b (by omega) i (by omega) (by omega) p
noncomputable def outV (v : Vw) : Int := cnt (fun k => 0 < v 8 k) (v 0 1).toNat 0 - cnt (fun k => 0 < burnV v 8 k) (v 0 1).toNat 0
noncomputable def ptM (M : Mem) (v : Vw) : Mem := if 0 < outV v then lookM (turnM M v) (turnV v) else remM (turnM M v) (turnV v)
theorem outV_0 {v : Vw} (hS : SI v) (h0 : V0 v) (h : ¬ 0 < outV v) : ∀ k, 0 < v 8 k → 0 < burnV v 8 k := by
  intro k hk
  by_cases hr : 0 ≤ k ∧ k < v 0 1
  · refine (cnt_le (P := fun k => 0 < v 8 k) (Q := fun k => 0 < burnV v 8 k) (v 0 1).toNat 0 (fun i q => ?_)).2 ?_ k hr.1 (by omega) hk
    · have q2 : 0 < dim1 (v 8 i) := q
      unfold dim1 at q2; split at q2 <;> omega
    · unfold outV at h; omega
  · rw [h0.2.2 8 (by decide) (by decide) k hr] at hk; omega
theorem outV_r {v : Vw} (hS : SI v) : 0 ≤ outV v ∧ outV v ≤ 6 := by
  have h1 := cnt_range (fun k => 0 < v 8 k) (v 0 1).toNat 0
  have h2 := cnt_range (fun k => 0 < burnV v 8 k) (v 0 1).toNat 0
  have h3 := (cnt_le (P := fun k => 0 < v 8 k) (Q := fun k => 0 < burnV v 8 k) (v 0 1).toNat 0 (fun i q => by
    have q2 : 0 < dim1 (v 8 i) := q
    unfold dim1 at q2; split at q2 <;> omega)).1
  have := hS.n1
  unfold outV; omega
set_option maxHeartbeats 4000000 in
set_option maxRecDepth 100000 in
theorem c_passTurn (M : Mem) (v : Vw) (hv : VA M v) (hS : SI v) (hG : SG M v) (hm : VM M v) : CX mX6_passTurn 7 [.inr (some 0)] M (some (.inl (outV v))) (ptM M v) := by
  have n0 := hS.n0
  have n1 := hS.n1
  have n2 := hS.n2
  have ho := outV_r hS
  refine CX.of (by decide +kernel) (Nat.le_of_ble_eq_true rfl) [some (.inr (some 0)), none] rfl ?_
  refine X.aload_n dX6_passTurn_0 rfl ?_
  refine X.getR dX6_passTurn_1 fi_X6_12 sh_0 rfl ?_
  refine X.callV1 (As := []) (rest := []) dX6_passTurn_4 mk_X6_233 sh_1 (c_burn M v hv hS) rfl (by decide) rfl (Nat.le_of_ble_eq_true rfl) ?_
  refine X.istore_n (lv2 := [some (.inr (some 0)), some (.inl (outV v))]) dX6_passTurn_7 (Nat.le_of_ble_eq_true rfl) rfl ?_
  refine X.aload_n dX6_passTurn_8 rfl ?_
  refine X.getR dX6_passTurn_9 fi_X6_12 sh_0 rfl ?_
  refine X.dup dX6_passTurn_12 ?_
  refine X.getI (v := v 0 3) 11 dX6_passTurn_13 fi_X6_168 sh_1 rfl (rd_0_3 (v := burnV v) hv.burn) ?_
  refine X.iconst dX6_passTurn_16 ?_
  refine X.iadd (c := (v 0 3) + 1) dX6_passTurn_17 rfl ?_
  refine X.putI 11 11 rfl dX6_passTurn_18 fi_X6_168 sh_1 rfl rfl ?_
  refine X.aload_n dX6_passTurn_21 rfl ?_
  refine X.getR dX6_passTurn_22 fi_X6_12 sh_0 rfl ?_
  refine X.callV0 (As := []) (rest := []) dX6_passTurn_25 mk_X6_236 sh_1 (c_fadeS (mset (burnM M v) 1 11 (v 0 3 + 1)) v hS (fun i hi => (congrFun ((mset_row (by decide)).trans (mgen_row (Frow_no (by decide)))) i).trans (rd_9 hm hi)) (fun i hi => (congrFun ((mset_row (by decide)).trans (mgen_row (Frow_no (by decide)))) i).trans (rd_13 hm hi))) rfl (by decide) rfl (Nat.le_of_ble_eq_true rfl) ?_
  refine X.iload_n dX6_passTurn_28 rfl ?_
  refine X.if_le (tgt := 43) dX6_passTurn_29 (by decide) ⟨by omega, by omega⟩ (fun h29 => ?_) (fun h29 => ?_)
  · skip
    refine X.aload_n dX6_passTurn_43 rfl ?_
    refine X.getR dX6_passTurn_44 fi_X6_12 sh_0 rfl ?_
    refine X.aload_n dX6_passTurn_47 rfl ?_
    refine X.getR dX6_passTurn_48 fi_X6_19 sh_0 rfl ?_
    refine X.callV0 (As := [.inr (some 21)]) (rest := []) dX6_passTurn_51 mk_X6_124 sh_1 (c_remember (turnM M v) (turnV v) hv.turn hS.turn (SGx.turn hG (outV_0 hS hv.V0 (by omega)))) rfl (by decide) rfl (Nat.le_of_ble_eq_true rfl) ?_
    refine X.iload_n dX6_passTurn_54 rfl ?_
    exact X.iret dX6_passTurn_55 rfl rfl (if_neg (by omega)).symm
  · skip
    refine X.aload_n dX6_passTurn_32 rfl ?_
    refine X.getR dX6_passTurn_33 fi_X6_19 sh_0 rfl ?_
    refine X.aload_n dX6_passTurn_36 rfl ?_
    refine X.getR dX6_passTurn_37 fi_X6_12 sh_0 rfl ?_
    refine X.callV0 (As := [.inr (some 1)]) (rest := []) dX6_passTurn_40 mk_X6_115 sh_21 (c_refresh (turnM M v) (turnV v) hv.turn hS.turn) rfl (by decide) rfl (Nat.le_of_ble_eq_true rfl) ?_
    refine X.aload_n dX6_passTurn_43 rfl ?_
    refine X.getR dX6_passTurn_44 fi_X6_12 sh_0 rfl ?_
    refine X.aload_n dX6_passTurn_47 rfl ?_
    refine X.getR dX6_passTurn_48 fi_X6_19 sh_0 rfl ?_
    refine X.callV0 (As := [.inr (some 21)]) (rest := []) dX6_passTurn_51 mk_X6_124 sh_1 (c_remember (mgen (turnM M v) (Fref (turnV v)) 0 120) (turnV v) (VAx.ref hv.turn) hS.turn SG.ref) rfl (by decide) rfl (Nat.le_of_ble_eq_true rfl) ?_
    refine X.iload_n dX6_passTurn_54 rfl ?_
    exact X.iret dX6_passTurn_55 rfl rfl (if_pos h29).symm
