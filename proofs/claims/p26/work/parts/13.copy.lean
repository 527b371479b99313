set_option maxHeartbeats 4000000 in
set_option maxRecDepth 100000 in
theorem c_closeGap_4 (M : Mem) (p z : Int) (hp : 0 ≤ p ∧ p < z) (hz : z ≤ 10) : CX mX6_closeGap 0 [.inr (some 4), .inl p, .inl z] M none (mgen M (Fgap M 4) p (z - 1)) := by
  refine CX.of (by decide +kernel) (Nat.le_of_ble_eq_true rfl) [some (.inr (some 4)), some (.inl p), some (.inl z), none] rfl ?_
  refine X.iload_n dX6_closeGap_0 rfl ?_
  refine X.istore_n (lv2 := [some (.inr (some 4)), some (.inl p), some (.inl z), some (.inl p)]) dX6_closeGap_1 (Nat.le_of_ble_eq_true rfl) rfl ?_
  have L2 : ∀ k, p ≤ k → k ≤ (z - 1) → ∀ M1 : Mem, (∀ j, k ≤ j → M1 4 j = M 4 j) → VX mX6_closeGap 0 2 [some (.inr (some 4)), some (.inl p), some (.inl z), some (.inl k)] [] M1 none (mgen M1 (Fgap M 4) k (z - 1)) := by
    refine down_ind p (z - 1) ?_ ?_
    · skip
      intro M1 hM1
      rw [mgen_end (Int.le_refl _)]
      refine X.iload_n dX6_closeGap_2 rfl ?_
      refine X.iconst dX6_closeGap_3 ?_
      refine X.iadd (c := (z - 1) + 1) dX6_closeGap_4 rfl ?_
      refine X.iload_n dX6_closeGap_5 rfl ?_
      refine X.icmp_ge (tgt := 23) dX6_closeGap_6 (by decide) ⟨by omega, by omega⟩ ⟨by omega, by omega⟩ (fun h1 => ?_) (fun h => by exfalso; omega)
      exact X.vret dX6_closeGap_23 rfl rfl rfl
    · intro k hk1 hk2 ihk
      intro M1 hM1
      refine X.iload_n dX6_closeGap_2 rfl ?_
      refine X.iconst dX6_closeGap_3 ?_
      refine X.iadd (c := k + 1) dX6_closeGap_4 rfl ?_
      refine X.iload_n dX6_closeGap_5 rfl ?_
      refine X.icmp_ge (tgt := 23) dX6_closeGap_6 (by decide) ⟨by omega, by omega⟩ ⟨by omega, by omega⟩ (fun h => by exfalso; omega) (fun h2 => ?_)
      refine X.aload_n dX6_closeGap_9 rfl ?_
      refine X.iload_n dX6_closeGap_10 rfl ?_
      refine X.aload_n dX6_closeGap_11 rfl ?_
      refine X.iload_n dX6_closeGap_12 rfl ?_
      refine X.iconst dX6_closeGap_13 ?_
      refine X.iadd (c := k + 1) dX6_closeGap_14 rfl ?_
      refine X.iald (v := M 4 (k + 1)) dX6_closeGap_15 sh_4 (by decide) (by omega) (hM1 (k + 1) (by omega)) ?_
      refine X.iast dX6_closeGap_16 sh_4 (by decide) (by omega) ?_
      refine X.iinc (y := k + 1) (lv2 := [some (.inr (some 4)), some (.inl p), some (.inl z), some (.inl (k + 1))]) dX6_closeGap_17 rfl rfl rfl ?_
      refine X.goto (tgt := 2) dX6_closeGap_20 (by decide) ?_
      rw [← show _ = mgen M1 (Fgap M 4) k (z - 1) from Frow_step (f := fun j => M 4 (j + 1)) hk2 rfl]
      exact ihk _ (fun j hj => (mset_ne (by omega)).trans (hM1 j (by omega)))
  exact L2 p (by omega) (by omega) M (fun _ _ => rfl)
set_option maxHeartbeats 4000000 in
set_option maxRecDepth 100000 in
theorem c_closeGap_5 (M : Mem) (p z : Int) (hp : 0 ≤ p ∧ p < z) (hz : z ≤ 10) : CX mX6_closeGap 0 [.inr (some 5), .inl p, .inl z] M none (mgen M (Fgap M 5) p (z - 1)) := by
  refine CX.of (by decide +kernel) (Nat.le_of_ble_eq_true rfl) [some (.inr (some 5)), some (.inl p), some (.inl z), none] rfl ?_
  refine X.iload_n dX6_closeGap_0 rfl ?_
  refine X.istore_n (lv2 := [some (.inr (some 5)), some (.inl p), some (.inl z), some (.inl p)]) dX6_closeGap_1 (Nat.le_of_ble_eq_true rfl) rfl ?_
  have L2 : ∀ k, p ≤ k → k ≤ (z - 1) → ∀ M1 : Mem, (∀ j, k ≤ j → M1 5 j = M 5 j) → VX mX6_closeGap 0 2 [some (.inr (some 5)), some (.inl p), some (.inl z), some (.inl k)] [] M1 none (mgen M1 (Fgap M 5) k (z - 1)) := by
    refine down_ind p (z - 1) ?_ ?_
    · skip
      intro M1 hM1
      rw [mgen_end (Int.le_refl _)]
      refine X.iload_n dX6_closeGap_2 rfl ?_
      refine X.iconst dX6_closeGap_3 ?_
      refine X.iadd (c := (z - 1) + 1) dX6_closeGap_4 rfl ?_
      refine X.iload_n dX6_closeGap_5 rfl ?_
      refine X.icmp_ge (tgt := 23) dX6_closeGap_6 (by decide) ⟨by omega, by omega⟩ ⟨by omega, by omega⟩ (fun h1 => ?_) (fun h => by exfalso; omega)
      exact X.vret dX6_closeGap_23 rfl rfl rfl
    · intro k hk1 hk2 ihk
      intro M1 hM1
      refine X.iload_n dX6_closeGap_2 rfl ?_
      refine X.iconst dX6_closeGap_3 ?_
      refine X.iadd (c := k + 1) dX6_closeGap_4 rfl ?_
      refine X.iload_n dX6_closeGap_5 rfl ?_
      refine X.icmp_ge (tgt := 23) dX6_closeGap_6 (by decide) ⟨by omega, by omega⟩ ⟨by omega, by omega⟩ (fun h => by exfalso; omega) (fun h2 => ?_)
      refine X.aload_n dX6_closeGap_9 rfl ?_
      refine X.iload_n dX6_closeGap_10 rfl ?_
      refine X.aload_n dX6_closeGap_11 rfl ?_
      refine X.iload_n dX6_closeGap_12 rfl ?_
      refine X.iconst dX6_closeGap_13 ?_
      refine X.iadd (c := k + 1) dX6_closeGap_14 rfl ?_
      refine X.iald (v := M 5 (k + 1)) dX6_closeGap_15 sh_5 (by decide) (by omega) (hM1 (k + 1) (by omega)) ?_
      refine X.iast dX6_closeGap_16 sh_5 (by decide) (by omega) ?_
      refine X.iinc (y := k + 1) (lv2 := [some (.inr (some 5)), some (.inl p), some (.inl z), some (.inl (k + 1))]) dX6_closeGap_17 rfl rfl rfl ?_
      refine X.goto (tgt := 2) dX6_closeGap_20 (by decide) ?_
      rw [← show _ = mgen M1 (Fgap M 5) k (z - 1) from Frow_step (f := fun j => M 5 (j + 1)) hk2 rfl]
      exact ihk _ (fun j hj => (mset_ne (by omega)).trans (hM1 j (by omega)))
  exact L2 p (by omega) (by omega) M (fun _ _ => rfl)
set_option maxHeartbeats 4000000 in
set_option maxRecDepth 100000 in
theorem c_closeGap_6 (M : Mem) (p z : Int) (hp : 0 ≤ p ∧ p < z) (hz : z ≤ 10) : CX mX6_closeGap 0 [.inr (some 6), .inl p, .inl z] M none (mgen M (Fgap M 6) p (z - 1)) := by
  refine CX.of (by decide +kernel) (Nat.le_of_ble_eq_true rfl) [some (.inr (some 6)), some (.inl p), some (.inl z), none] rfl ?_
  refine X.iload_n dX6_closeGap_0 rfl ?_
  refine X.istore_n (lv2 := [some (.inr (some 6)), some (.inl p), some (.inl z), some (.inl p)]) dX6_closeGap_1 (Nat.le_of_ble_eq_true rfl) rfl ?_
  have L2 : ∀ k, p ≤ k → k ≤ (z - 1) → ∀ M1 : Mem, (∀ j, k ≤ j → M1 6 j = M 6 j) → VX mX6_closeGap 0 2 [some (.inr (some 6)), some (.inl p), some (.inl z), some (.inl k)] [] M1 none (mgen M1 (Fgap M 6) k (z - 1)) := by
    refine down_ind p (z - 1) ?_ ?_
    · skip
      intro M1 hM1
      rw [mgen_end (Int.le_refl _)]
      refine X.iload_n dX6_closeGap_2 rfl ?_
      refine X.iconst dX6_closeGap_3 ?_
      refine X.iadd (c := (z - 1) + 1) dX6_closeGap_4 rfl ?_
      refine X.iload_n dX6_closeGap_5 rfl ?_
      refine X.icmp_ge (tgt := 23) dX6_closeGap_6 (by decide) ⟨by omega, by omega⟩ ⟨by omega, by omega⟩ (fun h1 => ?_) (fun h => by exfalso; omega)
      exact X.vret dX6_closeGap_23 rfl rfl rfl
    · intro k hk1 hk2 ihk
      intro M1 hM1
      refine X.iload_n dX6_closeGap_2 rfl ?_
      refine X.iconst dX6_closeGap_3 ?_
      refine X.iadd (c := k + 1) dX6_closeGap_4 rfl ?_
      refine X.iload_n dX6_closeGap_5 rfl ?_
      refine X.icmp_ge (tgt := 23) dX6_closeGap_6 (by decide) ⟨by omega, by omega⟩ ⟨by omega, by omega⟩ (fun h => by exfalso; omega) (fun h2 => ?_)
      refine X.aload_n dX6_closeGap_9 rfl ?_
      refine X.iload_n dX6_closeGap_10 rfl ?_
      refine X.aload_n dX6_closeGap_11 rfl ?_
      refine X.iload_n dX6_closeGap_12 rfl ?_
      refine X.iconst dX6_closeGap_13 ?_
      refine X.iadd (c := k + 1) dX6_closeGap_14 rfl ?_
      refine X.iald (v := M 6 (k + 1)) dX6_closeGap_15 sh_6 (by decide) (by omega) (hM1 (k + 1) (by omega)) ?_
      refine X.iast dX6_closeGap_16 sh_6 (by decide) (by omega) ?_
      refine X.iinc (y := k + 1) (lv2 := [some (.inr (some 6)), some (.inl p), some (.inl z), some (.inl (k + 1))]) dX6_closeGap_17 rfl rfl rfl ?_
      refine X.goto (tgt := 2) dX6_closeGap_20 (by decide) ?_
      rw [← show _ = mgen M1 (Fgap M 6) k (z - 1) from Frow_step (f := fun j => M 6 (j + 1)) hk2 rfl]
      exact ihk _ (fun j hj => (mset_ne (by omega)).trans (hM1 j (by omega)))
  exact L2 p (by omega) (by omega) M (fun _ _ => rfl)
set_option maxHeartbeats 4000000 in
set_option maxRecDepth 100000 in
theorem c_closeGap_7 (M : Mem) (p z : Int) (hp : 0 ≤ p ∧ p < z) (hz : z ≤ 6) : CX mX6_closeGap 0 [.inr (some 7), .inl p, .inl z] M none (mgen M (Fgap M 7) p (z - 1)) := by
  refine CX.of (by decide +kernel) (Nat.le_of_ble_eq_true rfl) [some (.inr (some 7)), some (.inl p), some (.inl z), none] rfl ?_
  refine X.iload_n dX6_closeGap_0 rfl ?_
  refine X.istore_n (lv2 := [some (.inr (some 7)), some (.inl p), some (.inl z), some (.inl p)]) dX6_closeGap_1 (Nat.le_of_ble_eq_true rfl) rfl ?_
  have L2 : ∀ k, p ≤ k → k ≤ (z - 1) → ∀ M1 : Mem, (∀ j, k ≤ j → M1 7 j = M 7 j) → VX mX6_closeGap 0 2 [some (.inr (some 7)), some (.inl p), some (.inl z), some (.inl k)] [] M1 none (mgen M1 (Fgap M 7) k (z - 1)) := by
    refine down_ind p (z - 1) ?_ ?_
    · skip
      intro M1 hM1
      rw [mgen_end (Int.le_refl _)]
      refine X.iload_n dX6_closeGap_2 rfl ?_
      refine X.iconst dX6_closeGap_3 ?_
      refine X.iadd (c := (z - 1) + 1) dX6_closeGap_4 rfl ?_
      refine X.iload_n dX6_closeGap_5 rfl ?_
      refine X.icmp_ge (tgt := 23) dX6_closeGap_6 (by decide) ⟨by omega, by omega⟩ ⟨by omega, by omega⟩ (fun h1 => ?_) (fun h => by exfalso; omega)
      exact X.vret dX6_closeGap_23 rfl rfl rfl
    · intro k hk1 hk2 ihk
      intro M1 hM1
      refine X.iload_n dX6_closeGap_2 rfl ?_
      refine X.iconst dX6_closeGap_3 ?_
      refine X.iadd (c := k + 1) dX6_closeGap_4 rfl ?_
      refine X.iload_n dX6_closeGap_5 rfl ?_
      refine X.icmp_ge (tgt := 23) dX6_closeGap_6 (by decide) ⟨by omega, by omega⟩ ⟨by omega, by omega⟩ (fun h => by exfalso; omega) (fun h2 => ?_)
      refine X.aload_n dX6_closeGap_9 rfl ?_
      refine X.iload_n dX6_closeGap_10 rfl ?_
      refine X.aload_n dX6_closeGap_11 rfl ?_
      refine X.iload_n dX6_closeGap_12 rfl ?_
      refine X.iconst dX6_closeGap_13 ?_
      refine X.iadd (c := k + 1) dX6_closeGap_14 rfl ?_
      refine X.iald (v := M 7 (k + 1)) dX6_closeGap_15 sh_7 (by decide) (by omega) (hM1 (k + 1) (by omega)) ?_
      refine X.iast dX6_closeGap_16 sh_7 (by decide) (by omega) ?_
      refine X.iinc (y := k + 1) (lv2 := [some (.inr (some 7)), some (.inl p), some (.inl z), some (.inl (k + 1))]) dX6_closeGap_17 rfl rfl rfl ?_
      refine X.goto (tgt := 2) dX6_closeGap_20 (by decide) ?_
      rw [← show _ = mgen M1 (Fgap M 7) k (z - 1) from Frow_step (f := fun j => M 7 (j + 1)) hk2 rfl]
      exact ihk _ (fun j hj => (mset_ne (by omega)).trans (hM1 j (by omega)))
  exact L2 p (by omega) (by omega) M (fun _ _ => rfl)
set_option maxHeartbeats 4000000 in
set_option maxRecDepth 100000 in
theorem c_closeGap_8 (M : Mem) (p z : Int) (hp : 0 ≤ p ∧ p < z) (hz : z ≤ 6) : CX mX6_closeGap 0 [.inr (some 8), .inl p, .inl z] M none (mgen M (Fgap M 8) p (z - 1)) := by
  refine CX.of (by decide +kernel) (Nat.le_of_ble_eq_true rfl) [some (.inr (some 8)), some (.inl p), some (.inl z), none] rfl ?_
  refine X.iload_n dX6_closeGap_0 rfl ?_
  refine X.istore_n (lv2 := [some (.inr (some 8)), some (.inl p), some (.inl z), some (.inl p)]) dX6_closeGap_1 (Nat.le_of_ble_eq_true rfl) rfl ?_
  have L2 : ∀ k, p ≤ k → k ≤ (z - 1) → ∀ M1 : Mem, (∀ j, k ≤ j → M1 8 j = M 8 j) → VX mX6_closeGap 0 2 [some (.inr (some 8)), some (.inl p), some (.inl z), some (.inl k)] [] M1 none (mgen M1 (Fgap M 8) k (z - 1)) := by
    refine down_ind p (z - 1) ?_ ?_
    · skip
      intro M1 hM1
      rw [mgen_end (Int.le_refl _)]
      refine X.iload_n dX6_closeGap_2 rfl ?_
      refine X.iconst dX6_closeGap_3 ?_
      refine X.iadd (c := (z - 1) + 1) dX6_closeGap_4 rfl ?_
      refine X.iload_n dX6_closeGap_5 rfl ?_
      refine X.icmp_ge (tgt := 23) dX6_closeGap_6 (by decide) ⟨by omega, by omega⟩ ⟨by omega, by omega⟩ (fun h1 => ?_) (fun h => by exfalso; omega)
      exact X.vret dX6_closeGap_23 rfl rfl rfl
    · intro k hk1 hk2 ihk
      intro M1 hM1
      refine X.iload_n dX6_closeGap_2 rfl ?_
      refine X.iconst dX6_closeGap_3 ?_
      refine X.iadd (c := k + 1) dX6_closeGap_4 rfl ?_
      refine X.iload_n dX6_closeGap_5 rfl ?_
      refine X.icmp_ge (tgt := 23) dX6_closeGap_6 (by decide) ⟨by omega, by omega⟩ ⟨by omega, by omega⟩ (fun h => by exfalso; omega) (fun h2 => ?_)
      refine X.aload_n dX6_closeGap_9 rfl ?_
      refine X.iload_n dX6_closeGap_10 rfl ?_
      refine X.aload_n dX6_closeGap_11 rfl ?_
      refine X.iload_n dX6_closeGap_12 rfl ?_
      refine X.iconst dX6_closeGap_13 ?_
      refine X.iadd (c := k + 1) dX6_closeGap_14 rfl ?_
      refine X.iald (v := M 8 (k + 1)) dX6_closeGap_15 sh_8 (by decide) (by omega) (hM1 (k + 1) (by omega)) ?_
      refine X.iast dX6_closeGap_16 sh_8 (by decide) (by omega) ?_
      refine X.iinc (y := k + 1) (lv2 := [some (.inr (some 8)), some (.inl p), some (.inl z), some (.inl (k + 1))]) dX6_closeGap_17 rfl rfl rfl ?_
      refine X.goto (tgt := 2) dX6_closeGap_20 (by decide) ?_
      rw [← show _ = mgen M1 (Fgap M 8) k (z - 1) from Frow_step (f := fun j => M 8 (j + 1)) hk2 rfl]
      exact ihk _ (fun j hj => (mset_ne (by omega)).trans (hM1 j (by omega)))
  exact L2 p (by omega) (by omega) M (fun _ _ => rfl)
set_option maxHeartbeats 4000000 in
set_option maxRecDepth 100000 in
theorem c_closeGap_9 (M : Mem) (p z : Int) (hp : 0 ≤ p ∧ p < z) (hz : z ≤ 6) : CX mX6_closeGap 0 [.inr (some 9), .inl p, .inl z] M none (mgen M (Fgap M 9) p (z - 1)) := by
  refine CX.of (by decide +kernel) (Nat.le_of_ble_eq_true rfl) [some (.inr (some 9)), some (.inl p), some (.inl z), none] rfl ?_
  refine X.iload_n dX6_closeGap_0 rfl ?_
  refine X.istore_n (lv2 := [some (.inr (some 9)), some (.inl p), some (.inl z), some (.inl p)]) dX6_closeGap_1 (Nat.le_of_ble_eq_true rfl) rfl ?_
  have L2 : ∀ k, p ≤ k → k ≤ (z - 1) → ∀ M1 : Mem, (∀ j, k ≤ j → M1 9 j = M 9 j) → VX mX6_closeGap 0 2 [some (.inr (some 9)), some (.inl p), some (.inl z), some (.inl k)] [] M1 none (mgen M1 (Fgap M 9) k (z - 1)) := by
    refine down_ind p (z - 1) ?_ ?_
    · skip
      intro M1 hM1
      rw [mgen_end (Int.le_refl _)]
      refine X.iload_n dX6_closeGap_2 rfl ?_
      refine X.iconst dX6_closeGap_3 ?_
      refine X.iadd (c := (z - 1) + 1) dX6_closeGap_4 rfl ?_
      refine X.iload_n dX6_closeGap_5 rfl ?_
      refine X.icmp_ge (tgt := 23) dX6_closeGap_6 (by decide) ⟨by omega, by omega⟩ ⟨by omega, by omega⟩ (fun h1 => ?_) (fun h => by exfalso; omega)
      exact X.vret dX6_closeGap_23 rfl rfl rfl
    · intro k hk1 hk2 ihk
      intro M1 hM1
      refine X.iload_n dX6_closeGap_2 rfl ?_
      refine X.iconst dX6_closeGap_3 ?_
      refine X.iadd (c := k + 1) dX6_closeGap_4 rfl ?_
      refine X.iload_n dX6_closeGap_5 rfl ?_
      refine X.icmp_ge (tgt := 23) dX6_closeGap_6 (by decide) ⟨by omega, by omega⟩ ⟨by omega, by omega⟩ (fun h => by exfalso; omega) (fun h2 => ?_)
      refine X.aload_n dX6_closeGap_9 rfl ?_
      refine X.iload_n dX6_closeGap_10 rfl ?_
      refine X.aload_n dX6_closeGap_11 rfl ?_
      refine X.iload_n dX6_closeGap_12 rfl ?_
      refine X.iconst dX6_closeGap_13 ?_
      refine X.iadd (c := k + 1) dX6_closeGap_14 rfl ?_
      refine X.iald (v := M 9 (k + 1)) dX6_closeGap_15 sh_9 (by decide) (by omega) (hM1 (k + 1) (by omega)) ?_
      refine X.iast dX6_closeGap_16 sh_9 (by decide) (by omega) ?_
      refine X.iinc (y := k + 1) (lv2 := [some (.inr (some 9)), some (.inl p), some (.inl z), some (.inl (k + 1))]) dX6_closeGap_17 rfl rfl rfl ?_
      refine X.goto (tgt := 2) dX6_closeGap_20 (by decide) ?_
      rw [← show _ = mgen M1 (Fgap M 9) k (z - 1) from Frow_step (f := fun j => M 9 (j + 1)) hk2 rfl]
      exact ihk _ (fun j hj => (mset_ne (by omega)).trans (hM1 j (by omega)))
  exact L2 p (by omega) (by omega) M (fun _ _ => rfl)
set_option maxHeartbeats 4000000 in
set_option maxRecDepth 100000 in
theorem c_putScout (M : Mem) (n a b c : Int) (hn : M 1 2 = n) (h0 : 0 ≤ n ∧ n < 10) : CX mX3_putScout 0 [.inr (some 1), .inl a, .inl b, .inl c] M none (mset (mset (mset (mset M 4 n a) 5 n b) 6 n c) 1 2 (n + 1)) := by
  refine CX.of (by decide +kernel) (Nat.le_of_ble_eq_true rfl) [some (.inr (some 1)), some (.inl a), some (.inl b), some (.inl c)] rfl ?_
  refine X.aload_n dX3_putScout_0 rfl ?_
  refine X.getR dX3_putScout_1 fi_X3_22 sh_1 rfl ?_
  refine X.aload_n dX3_putScout_4 rfl ?_
  refine X.getI (v := n) 2 dX3_putScout_5 fi_X3_18 sh_1 rfl hn ?_
  refine X.iload_n dX3_putScout_8 rfl ?_
  refine X.iast dX3_putScout_9 sh_4 (by decide) (by omega) ?_
  refine X.aload_n dX3_putScout_10 rfl ?_
  refine X.getR dX3_putScout_11 fi_X3_25 sh_1 rfl ?_
  refine X.aload_n dX3_putScout_14 rfl ?_
  refine X.getI (v := n) 2 dX3_putScout_15 fi_X3_18 sh_1 rfl (by simp [mset, hn]) ?_
  refine X.iload_n dX3_putScout_18 rfl ?_
  refine X.iast dX3_putScout_19 sh_5 (by decide) (by omega) ?_
  refine X.aload_n dX3_putScout_20 rfl ?_
  refine X.getR dX3_putScout_21 fi_X3_28 sh_1 rfl ?_
  refine X.aload_n dX3_putScout_24 rfl ?_
  refine X.getI (v := n) 2 dX3_putScout_25 fi_X3_18 sh_1 rfl (by simp [mset, hn]) ?_
  refine X.iload_n dX3_putScout_28 rfl ?_
  refine X.iast dX3_putScout_29 sh_6 (by decide) (by omega) ?_
  refine X.aload_n dX3_putScout_30 rfl ?_
  refine X.dup dX3_putScout_31 ?_
  refine X.getI (v := n) 2 dX3_putScout_32 fi_X3_18 sh_1 rfl (by simp [mset, hn]) ?_
  refine X.iconst dX3_putScout_35 ?_
  refine X.iadd (c := n + 1) dX3_putScout_36 rfl ?_
  refine X.putI 2 2 rfl dX3_putScout_37 fi_X3_18 sh_1 rfl rfl ?_
  exact X.vret dX3_putScout_40 rfl rfl rfl
set_option maxHeartbeats 4000000 in
set_option maxRecDepth 100000 in
theorem c_putLight (M : Mem) (n a b c : Int) (hn : M 1 6 = n) (h0 : 0 ≤ n ∧ n < 6) : CX mX3_putLight 0 [.inr (some 1), .inl a, .inl b, .inl c] M none (mset (mset (mset (mset M 7 n a) 8 n b) 9 n c) 1 6 (n + 1)) := by
  refine CX.of (by decide +kernel) (Nat.le_of_ble_eq_true rfl) [some (.inr (some 1)), some (.inl a), some (.inl b), some (.inl c)] rfl ?_
  refine X.aload_n dX3_putLight_0 rfl ?_
  refine X.getR dX3_putLight_1 fi_X3_34 sh_1 rfl ?_
  refine X.aload_n dX3_putLight_4 rfl ?_
  refine X.getI (v := n) 6 dX3_putLight_5 fi_X3_31 sh_1 rfl hn ?_
  refine X.iload_n dX3_putLight_8 rfl ?_
  refine X.iast dX3_putLight_9 sh_7 (by decide) (by omega) ?_
  refine X.aload_n dX3_putLight_10 rfl ?_
  refine X.getR dX3_putLight_11 fi_X3_37 sh_1 rfl ?_
  refine X.aload_n dX3_putLight_14 rfl ?_
  refine X.getI (v := n) 6 dX3_putLight_15 fi_X3_31 sh_1 rfl (by simp [mset, hn]) ?_
  refine X.iload_n dX3_putLight_18 rfl ?_
  refine X.iast dX3_putLight_19 sh_8 (by decide) (by omega) ?_
  refine X.aload_n dX3_putLight_20 rfl ?_
  refine X.getR dX3_putLight_21 fi_X3_40 sh_1 rfl ?_
  refine X.aload_n dX3_putLight_24 rfl ?_
  refine X.getI (v := n) 6 dX3_putLight_25 fi_X3_31 sh_1 rfl (by simp [mset, hn]) ?_
  refine X.iload_n dX3_putLight_28 rfl ?_
  refine X.iast dX3_putLight_29 sh_9 (by decide) (by omega) ?_
  refine X.aload_n dX3_putLight_30 rfl ?_
  refine X.dup dX3_putLight_31 ?_
  refine X.getI (v := n) 6 dX3_putLight_32 fi_X3_31 sh_1 rfl (by simp [mset, hn]) ?_
  refine X.iconst dX3_putLight_35 ?_
  refine X.iadd (c := n + 1) dX3_putLight_36 rfl ?_
  refine X.putI 6 6 rfl dX3_putLight_37 fi_X3_31 sh_1 rfl rfl ?_
  exact X.vret dX3_putLight_40 rfl rfl rfl
def drop3 (M : Mem) (a : Nat) (p z : Int) : Mem := mgen (mgen (mgen M (Fgap M a) p (z - 1)) (Fgap (mgen M (Fgap M a) p (z - 1)) (a + 1)) p (z - 1)) (Fgap (mgen (mgen M (Fgap M a) p (z - 1)) (Fgap (mgen M (Fgap M a) p (z - 1)) (a + 1)) p (z - 1)) (a + 2)) p (z - 1)
theorem Fgap_row {M M0 : Mem} {a b : Nat} {p z : Int} (h : b ≠ a) : mgen M (Fgap M0 a) p z b = M b := mgen_row (Frow_no h)
set_option maxHeartbeats 4000000 in
set_option maxRecDepth 100000 in
theorem c_dropScout (M : Mem) (n p : Int) (hn : M 1 2 = n) (hp : 0 ≤ p ∧ p < n) (h0 : n ≤ 10) : CX mX3_dropScout 1 [.inr (some 1), .inl p] M none (mset (drop3 M 4 p n) 1 2 (n - 1)) := by
  refine CX.of (by decide +kernel) (Nat.le_of_ble_eq_true rfl) [some (.inr (some 1)), some (.inl p)] rfl ?_
  refine X.aload_n dX3_dropScout_0 rfl ?_
  refine X.getR dX3_dropScout_1 fi_X3_22 sh_1 rfl ?_
  refine X.iload_n dX3_dropScout_4 rfl ?_
  refine X.aload_n dX3_dropScout_5 rfl ?_
  refine X.getI (v := n) 2 dX3_dropScout_6 fi_X3_18 sh_1 rfl hn ?_
  refine X.callN0 (As := [.inr (some 4), .inl p, .inl n]) (rest := []) dX3_dropScout_9 mk_X3_71 (c_closeGap_4 M p n (by omega) (by omega)) rfl (by decide) rfl (Nat.le_of_ble_eq_true rfl) ?_
  refine X.aload_n dX3_dropScout_12 rfl ?_
  refine X.getR dX3_dropScout_13 fi_X3_25 sh_1 rfl ?_
  refine X.iload_n dX3_dropScout_16 rfl ?_
  refine X.aload_n dX3_dropScout_17 rfl ?_
  refine X.getI (v := n) 2 dX3_dropScout_18 fi_X3_18 sh_1 rfl (by rw [Fgap_row (by decide)]; exact hn) ?_
  refine X.callN0 (As := [.inr (some 5), .inl p, .inl n]) (rest := []) dX3_dropScout_21 mk_X3_71 (c_closeGap_5 (mgen M (Fgap M 4) p (n - 1)) p n (by omega) (by omega)) rfl (by decide) rfl (Nat.le_of_ble_eq_true rfl) ?_
  refine X.aload_n dX3_dropScout_24 rfl ?_
  refine X.getR dX3_dropScout_25 fi_X3_28 sh_1 rfl ?_
  refine X.iload_n dX3_dropScout_28 rfl ?_
  refine X.aload_n dX3_dropScout_29 rfl ?_
  refine X.getI (v := n) 2 dX3_dropScout_30 fi_X3_18 sh_1 rfl (by rw [Fgap_row (by decide), Fgap_row (by decide)]; exact hn) ?_
  refine X.callN0 (As := [.inr (some 6), .inl p, .inl n]) (rest := []) dX3_dropScout_33 mk_X3_71 (c_closeGap_6 (mgen (mgen M (Fgap M 4) p (n - 1)) (Fgap (mgen M (Fgap M 4) p (n - 1)) 5) p (n - 1)) p n (by omega) (by omega)) rfl (by decide) rfl (Nat.le_of_ble_eq_true rfl) ?_
  refine X.aload_n dX3_dropScout_36 rfl ?_
  refine X.dup dX3_dropScout_37 ?_
  refine X.getI (v := n) 2 dX3_dropScout_38 fi_X3_18 sh_1 rfl (by rw [Fgap_row (by decide), Fgap_row (by decide), Fgap_row (by decide)]; exact hn) ?_
  refine X.iconst dX3_dropScout_41 ?_
  refine X.isub (c := n - 1) dX3_dropScout_42 rfl ?_
  refine X.putI 2 2 rfl dX3_dropScout_43 fi_X3_18 sh_1 rfl rfl ?_
  exact X.vret dX3_dropScout_46 rfl rfl rfl
set_option maxHeartbeats 4000000 in
set_option maxRecDepth 100000 in
theorem c_dropLight (M : Mem) (n p : Int) (hn : M 1 6 = n) (hp : 0 ≤ p ∧ p < n) (h0 : n ≤ 6) : CX mX3_dropLight 1 [.inr (some 1), .inl p] M none (mset (drop3 M 7 p n) 1 6 (n - 1)) := by
  refine CX.of (by decide +kernel) (Nat.le_of_ble_eq_true rfl) [some (.inr (some 1)), some (.inl p)] rfl ?_
  refine X.aload_n dX3_dropLight_0 rfl ?_
  refine X.getR dX3_dropLight_1 fi_X3_34 sh_1 rfl ?_
  refine X.iload_n dX3_dropLight_4 rfl ?_
  refine X.aload_n dX3_dropLight_5 rfl ?_
  refine X.getI (v := n) 6 dX3_dropLight_6 fi_X3_31 sh_1 rfl hn ?_
  refine X.callN0 (As := [.inr (some 7), .inl p, .inl n]) (rest := []) dX3_dropLight_9 mk_X3_71 (c_closeGap_7 M p n (by omega) (by omega)) rfl (by decide) rfl (Nat.le_of_ble_eq_true rfl) ?_
  refine X.aload_n dX3_dropLight_12 rfl ?_
  refine X.getR dX3_dropLight_13 fi_X3_37 sh_1 rfl ?_
  refine X.iload_n dX3_dropLight_16 rfl ?_
  refine X.aload_n dX3_dropLight_17 rfl ?_
  refine X.getI (v := n) 6 dX3_dropLight_18 fi_X3_31 sh_1 rfl (by rw [Fgap_row (by decide)]; exact hn) ?_
  refine X.callN0 (As := [.inr (some 8), .inl p, .inl n]) (rest := []) dX3_dropLight_21 mk_X3_71 (c_closeGap_8 (mgen M (Fgap M 7) p (n - 1)) p n (by omega) (by omega)) rfl (by decide) rfl (Nat.le_of_ble_eq_true rfl) ?_
  refine X.aload_n dX3_dropLight_24 rfl ?_
  refine X.getR dX3_dropLight_25 fi_X3_40 sh_1 rfl ?_
  refine X.iload_n dX3_dropLight_28 rfl ?_
  refine X.aload_n dX3_dropLight_29 rfl ?_
  refine X.getI (v := n) 6 dX3_dropLight_30 fi_X3_31 sh_1 rfl (by rw [Fgap_row (by decide), Fgap_row (by decide)]; exact hn) ?_
  refine X.callN0 (As := [.inr (some 9), .inl p, .inl n]) (rest := []) dX3_dropLight_33 mk_X3_71 (c_closeGap_9 (mgen (mgen M (Fgap M 7) p (n - 1)) (Fgap (mgen M (Fgap M 7) p (n - 1)) 8) p (n - 1)) p n (by omega) (by omega)) rfl (by decide) rfl (Nat.le_of_ble_eq_true rfl) ?_
  refine X.aload_n dX3_dropLight_36 rfl ?_
  refine X.dup dX3_dropLight_37 ?_
  refine X.getI (v := n) 6 dX3_dropLight_38 fi_X3_31 sh_1 rfl (by rw [Fgap_row (by decide), Fgap_row (by decide), Fgap_row (by decide)]; exact hn) ?_
  refine X.iconst dX3_dropLight_41 ?_
  refine X.isub (c := n - 1) dX3_dropLight_42 rfl ?_
  refine X.putI 6 6 rfl dX3_dropLight_43 fi_X3_31 sh_1 rfl rfl ?_
  exact X.vret dX3_dropLight_46 rfl rfl rfl
set_option maxHeartbeats 4000000 in
set_option maxRecDepth 100000 in
theorem c_copy (M M2 : Mem) (a b n : Nat) (ha : SH[a]? = some (0, n, [])) (hb : SH[b]? = some (0, n, [])) (hn : n ≤ 100000) (h2 : M2 = mrow M b (M a)) : CX mX6_copy 2 [.inr (some a), .inr (some b)] M none M2 := by
  subst h2
  refine CX.of (by decide +kernel) (Nat.le_of_ble_eq_true rfl) [some (.inr (some a)), some (.inr (some b))] rfl ?_
  refine X.aload_n dX6_copy_0 rfl ?_
  refine X.iconst dX6_copy_1 ?_
  refine X.aload_n dX6_copy_2 rfl ?_
  refine X.iconst dX6_copy_3 ?_
  refine X.aload_n dX6_copy_4 rfl ?_
  refine X.alen dX6_copy_5 ha ?_
  refine X.aload_n dX6_copy_6 rfl ?_
  refine X.alen dX6_copy_7 hb ?_
  refine X.mmin (c := (n : Int)) dX6_copy_8 kl_X6_247 ⟨by omega, by omega⟩ ⟨by omega, by omega⟩ (by decide) (Nat.le_of_ble_eq_true rfl) (by split <;> rfl) ?_
  refine X.acopy dX6_copy_11 kl_X6_250 ha hb rfl hn (by decide) (Nat.le_of_ble_eq_true rfl) ?_
  exact X.vret dX6_copy_14 rfl rfl rfl
/-- a block of twenty cells, the rows R and the fields F of its first cell copied from the block at s -/
def cpS (M : Mem) (d s : Nat) (R : List Nat) (F : List Int) : Mem := fun a j => if a = d ∧ j ∈ F then M s j else if d ≤ a ∧ a - d ∈ R then M (a - d + s) j else M a j
theorem cpS_0 {M : Mem} {d s : Nat} : cpS M d s [] [] = M := by
  funext a j; simp [cpS]
theorem cpS_src {M : Mem} {d s i : Nat} {R : List Nat} {F : List Int} (hds : d + 20 ≤ s ∨ s + 20 ≤ d) (hi : i < 20) (hR : ∀ x ∈ R, x < 20) : cpS M d s R F (s + i) = M (s + i) := by
  funext j
  unfold cpS
  rw [if_neg (by omega), if_neg]
  rintro ⟨h1, h2⟩
  have := hR _ h2
  omega
theorem cpS_row {M : Mem} {d s i : Nat} {R : List Nat} {F : List Int} (hds : d + 20 ≤ s ∨ s + 20 ≤ d) (hi : 0 < i ∧ i < 20) (hR : ∀ x ∈ R, x < 20) : cpS M d s (i :: R) F = mrow (cpS M d s R F) (d + i) (cpS M d s R F (s + i)) := by
  rw [cpS_src hds hi.2 hR]
  funext a j
  unfold cpS mrow
  by_cases h : a = d + i
  · subst h
    rw [if_pos rfl, if_neg (by omega), if_pos ⟨by omega, by rw [show d + i - d = i by omega]; exact List.mem_cons_self⟩]
    congr 1; omega
  · rw [if_neg h]
    have e : (d ≤ a ∧ a - d ∈ i :: R) ↔ (d ≤ a ∧ a - d ∈ R) := by
      rw [List.mem_cons]
      constructor
      · rintro ⟨h1, h2 | h2⟩
        · omega
        · exact ⟨h1, h2⟩
      · rintro ⟨h1, h2⟩; exact ⟨h1, Or.inr h2⟩
    simp only [e]
theorem cpS_fld {M : Mem} {d s : Nat} {f : Int} {R : List Nat} {F : List Int} (hR : 0 ∉ R) : mset (cpS M d s R F) d f (M s f) = cpS M d s R (f :: F) := by
  funext a j
  unfold cpS mset
  by_cases h : a = d ∧ j = f
  · rw [if_pos h, if_pos ⟨h.1, by rw [h.2]; exact List.mem_cons_self⟩, h.2]
  · rw [if_neg h]
    have e : (a = d ∧ j ∈ f :: F) ↔ (a = d ∧ j ∈ F) := by
      rw [List.mem_cons]
      constructor
      · rintro ⟨h1, h2 | h2⟩
        · exact absurd ⟨h1, h2⟩ h
        · exact ⟨h1, h2⟩
      · rintro ⟨h1, h2⟩; exact ⟨h1, Or.inr h2⟩
    simp only [e]
def fullR : List Nat := [19, 18, 17, 16, 14, 13, 12, 11, 8, 7, 6, 5, 4, 3, 2, 1]
def fullF : List Int := [11, 10, 6, 2]
def cpB (M : Mem) (d s : Nat) : Mem := cpS M d s fullR fullF
set_option maxHeartbeats 4000000 in
set_option maxRecDepth 100000 in
theorem c_cpMem_26_1_0 (M : Mem) (R : List Nat) (F : List Int) (hR0 : ∀ x ∈ R, x < 20) : CX mX1_copyFrom 3 [.inr (some 36), .inr (some 11)] (cpS M 26 1 R F) none (cpS M 26 1 (14 :: (13 :: (12 :: (11 :: R)))) F) := by
  refine CX.of (by decide +kernel) (Nat.le_of_ble_eq_true rfl) [some (.inr (some 36)), some (.inr (some 11))] rfl ?_
  refine X.aload_n dX1_copyFrom_0 rfl ?_
  refine X.getR dX1_copyFrom_1 fi_X1_9 sh_11 rfl ?_
  refine X.aload_n dX1_copyFrom_4 rfl ?_
  refine X.getR dX1_copyFrom_5 fi_X1_9 sh_36 rfl ?_
  have hR1 : ∀ x ∈ (11 :: R), x < 20 := List.forall_mem_cons.mpr ⟨by decide, hR0⟩
  refine X.callN0 (As := [.inr (some 12), .inr (some 37)]) (rest := []) dX1_copyFrom_8 mk_X1_24 (c_copy (cpS M 26 1 R F) (cpS M 26 1 (11 :: R) F) 12 37 120 sh_12 sh_37 (by decide) (cpS_row (d := 26) (s := 1) (i := 11) (by decide) (by decide) hR0)) rfl (by decide) rfl (Nat.le_of_ble_eq_true rfl) ?_
  refine X.aload_n dX1_copyFrom_11 rfl ?_
  refine X.getR dX1_copyFrom_12 fi_X1_15 sh_11 rfl ?_
  refine X.aload_n dX1_copyFrom_15 rfl ?_
  refine X.getR dX1_copyFrom_16 fi_X1_15 sh_36 rfl ?_
  have hR2 : ∀ x ∈ (12 :: (11 :: R)), x < 20 := List.forall_mem_cons.mpr ⟨by decide, hR1⟩
  refine X.callN0 (As := [.inr (some 13), .inr (some 38)]) (rest := []) dX1_copyFrom_19 mk_X1_24 (c_copy (cpS M 26 1 (11 :: R) F) (cpS M 26 1 (12 :: (11 :: R)) F) 13 38 120 sh_13 sh_38 (by decide) (cpS_row (d := 26) (s := 1) (i := 12) (by decide) (by decide) hR1)) rfl (by decide) rfl (Nat.le_of_ble_eq_true rfl) ?_
  refine X.aload_n dX1_copyFrom_22 rfl ?_
  refine X.getR dX1_copyFrom_23 fi_X1_18 sh_11 rfl ?_
  refine X.aload_n dX1_copyFrom_26 rfl ?_
  refine X.getR dX1_copyFrom_27 fi_X1_18 sh_36 rfl ?_
  have hR3 : ∀ x ∈ (13 :: (12 :: (11 :: R))), x < 20 := List.forall_mem_cons.mpr ⟨by decide, hR2⟩
  refine X.callN0 (As := [.inr (some 14), .inr (some 39)]) (rest := []) dX1_copyFrom_30 mk_X1_24 (c_copy (cpS M 26 1 (12 :: (11 :: R)) F) (cpS M 26 1 (13 :: (12 :: (11 :: R))) F) 14 39 120 sh_14 sh_39 (by decide) (cpS_row (d := 26) (s := 1) (i := 13) (by decide) (by decide) hR2)) rfl (by decide) rfl (Nat.le_of_ble_eq_true rfl) ?_
  refine X.aload_n dX1_copyFrom_33 rfl ?_
  refine X.getR dX1_copyFrom_34 fi_X1_21 sh_11 rfl ?_
  refine X.aload_n dX1_copyFrom_37 rfl ?_
  refine X.getR dX1_copyFrom_38 fi_X1_21 sh_36 rfl ?_
  have hR4 : ∀ x ∈ (14 :: (13 :: (12 :: (11 :: R)))), x < 20 := List.forall_mem_cons.mpr ⟨by decide, hR3⟩
  refine X.callN0 (As := [.inr (some 15), .inr (some 40)]) (rest := []) dX1_copyFrom_41 mk_X1_24 (c_copy (cpS M 26 1 (13 :: (12 :: (11 :: R))) F) (cpS M 26 1 (14 :: (13 :: (12 :: (11 :: R)))) F) 15 40 120 sh_15 sh_40 (by decide) (cpS_row (d := 26) (s := 1) (i := 14) (by decide) (by decide) hR3)) rfl (by decide) rfl (Nat.le_of_ble_eq_true rfl) ?_
  exact X.vret dX1_copyFrom_44 rfl rfl rfl
set_option maxHeartbeats 4000000 in
set_option maxRecDepth 100000 in
theorem c_cpMem_26_1_1 (M : Mem) (R : List Nat) (F : List Int) (hR0 : ∀ x ∈ R, x < 20) : CX mX1_copyFrom 3 [.inr (some 41), .inr (some 16)] (cpS M 26 1 R F) none (cpS M 26 1 (19 :: (18 :: (17 :: (16 :: R)))) F) := by
  refine CX.of (by decide +kernel) (Nat.le_of_ble_eq_true rfl) [some (.inr (some 41)), some (.inr (some 16))] rfl ?_
  refine X.aload_n dX1_copyFrom_0 rfl ?_
  refine X.getR dX1_copyFrom_1 fi_X1_9 sh_16 rfl ?_
  refine X.aload_n dX1_copyFrom_4 rfl ?_
  refine X.getR dX1_copyFrom_5 fi_X1_9 sh_41 rfl ?_
  have hR1 : ∀ x ∈ (16 :: R), x < 20 := List.forall_mem_cons.mpr ⟨by decide, hR0⟩
  refine X.callN0 (As := [.inr (some 17), .inr (some 42)]) (rest := []) dX1_copyFrom_8 mk_X1_24 (c_copy (cpS M 26 1 R F) (cpS M 26 1 (16 :: R) F) 17 42 120 sh_17 sh_42 (by decide) (cpS_row (d := 26) (s := 1) (i := 16) (by decide) (by decide) hR0)) rfl (by decide) rfl (Nat.le_of_ble_eq_true rfl) ?_
  refine X.aload_n dX1_copyFrom_11 rfl ?_
  refine X.getR dX1_copyFrom_12 fi_X1_15 sh_16 rfl ?_
  refine X.aload_n dX1_copyFrom_15 rfl ?_
  refine X.getR dX1_copyFrom_16 fi_X1_15 sh_41 rfl ?_
  have hR2 : ∀ x ∈ (17 :: (16 :: R)), x < 20 := List.forall_mem_cons.mpr ⟨by decide, hR1⟩
  refine X.callN0 (As := [.inr (some 18), .inr (some 43)]) (rest := []) dX1_copyFrom_19 mk_X1_24 (c_copy (cpS M 26 1 (16 :: R) F) (cpS M 26 1 (17 :: (16 :: R)) F) 18 43 120 sh_18 sh_43 (by decide) (cpS_row (d := 26) (s := 1) (i := 17) (by decide) (by decide) hR1)) rfl (by decide) rfl (Nat.le_of_ble_eq_true rfl) ?_
  refine X.aload_n dX1_copyFrom_22 rfl ?_
  refine X.getR dX1_copyFrom_23 fi_X1_18 sh_16 rfl ?_
  refine X.aload_n dX1_copyFrom_26 rfl ?_
  refine X.getR dX1_copyFrom_27 fi_X1_18 sh_41 rfl ?_
  have hR3 : ∀ x ∈ (18 :: (17 :: (16 :: R))), x < 20 := List.forall_mem_cons.mpr ⟨by decide, hR2⟩
  refine X.callN0 (As := [.inr (some 19), .inr (some 44)]) (rest := []) dX1_copyFrom_30 mk_X1_24 (c_copy (cpS M 26 1 (17 :: (16 :: R)) F) (cpS M 26 1 (18 :: (17 :: (16 :: R))) F) 19 44 120 sh_19 sh_44 (by decide) (cpS_row (d := 26) (s := 1) (i := 18) (by decide) (by decide) hR2)) rfl (by decide) rfl (Nat.le_of_ble_eq_true rfl) ?_
  refine X.aload_n dX1_copyFrom_33 rfl ?_
  refine X.getR dX1_copyFrom_34 fi_X1_21 sh_16 rfl ?_
  refine X.aload_n dX1_copyFrom_37 rfl ?_
  refine X.getR dX1_copyFrom_38 fi_X1_21 sh_41 rfl ?_
  have hR4 : ∀ x ∈ (19 :: (18 :: (17 :: (16 :: R)))), x < 20 := List.forall_mem_cons.mpr ⟨by decide, hR3⟩
  refine X.callN0 (As := [.inr (some 20), .inr (some 45)]) (rest := []) dX1_copyFrom_41 mk_X1_24 (c_copy (cpS M 26 1 (18 :: (17 :: (16 :: R))) F) (cpS M 26 1 (19 :: (18 :: (17 :: (16 :: R)))) F) 20 45 120 sh_20 sh_45 (by decide) (cpS_row (d := 26) (s := 1) (i := 19) (by decide) (by decide) hR3)) rfl (by decide) rfl (Nat.le_of_ble_eq_true rfl) ?_
  exact X.vret dX1_copyFrom_44 rfl rfl rfl
set_option maxHeartbeats 4000000 in
set_option maxRecDepth 100000 in
theorem c_copyFrom_26_1 (M : Mem) : CX mX3_copyFrom 4 [.inr (some 26), .inr (some 1)] (cpS M 26 1 [] []) none (cpS M 26 1 fullR fullF) := by
  have hR0 : ∀ x ∈ ([] : List Nat), x < 20 := fun x hx => by cases hx
  refine CX.of (by decide +kernel) (Nat.le_of_ble_eq_true rfl) [some (.inr (some 26)), some (.inr (some 1)), none] rfl ?_
  refine X.aload_n dX3_copyFrom_0 rfl ?_
  refine X.getR dX3_copyFrom_1 fi_X3_9 sh_1 rfl ?_
  refine X.aload_n dX3_copyFrom_4 rfl ?_
  refine X.getR dX3_copyFrom_5 fi_X3_9 sh_26 rfl ?_
  have hR1 : ∀ x ∈ (1 :: []), x < 20 := List.forall_mem_cons.mpr ⟨by decide, hR0⟩
  refine X.callN0 (As := [.inr (some 2), .inr (some 27)]) (rest := []) dX3_copyFrom_8 mk_X3_56 (c_copy (cpS M 26 1 [] []) (cpS M 26 1 (1 :: []) []) 2 27 120 sh_2 sh_27 (by decide) (cpS_row (d := 26) (s := 1) (i := 1) (by decide) (by decide) hR0)) rfl (by decide) rfl (Nat.le_of_ble_eq_true rfl) ?_
  refine X.aload_n dX3_copyFrom_11 rfl ?_
  refine X.getR dX3_copyFrom_12 fi_X3_15 sh_1 rfl ?_
  refine X.aload_n dX3_copyFrom_15 rfl ?_
  refine X.getR dX3_copyFrom_16 fi_X3_15 sh_26 rfl ?_
  have hR2 : ∀ x ∈ (2 :: (1 :: [])), x < 20 := List.forall_mem_cons.mpr ⟨by decide, hR1⟩
  refine X.callN0 (As := [.inr (some 3), .inr (some 28)]) (rest := []) dX3_copyFrom_19 mk_X3_56 (c_copy (cpS M 26 1 (1 :: []) []) (cpS M 26 1 (2 :: (1 :: [])) []) 3 28 120 sh_3 sh_28 (by decide) (cpS_row (d := 26) (s := 1) (i := 2) (by decide) (by decide) hR1)) rfl (by decide) rfl (Nat.le_of_ble_eq_true rfl) ?_
  refine X.aload_n dX3_copyFrom_22 rfl ?_
  refine X.aload_n dX3_copyFrom_23 rfl ?_
  refine X.getI (v := M 1 2) 2 dX3_copyFrom_24 fi_X3_18 sh_1 rfl (congrFun (cpS_src (d := 26) (s := 1) (i := 0) (by decide) (by decide) hR2) 2) ?_
  refine X.putI 2 2 rfl dX3_copyFrom_27 fi_X3_18 sh_26 rfl rfl ?_
  rw [show mset (cpS M 26 1 (2 :: (1 :: [])) []) 26 2 (M 1 2) = (cpS M 26 1 (2 :: (1 :: [])) (2 :: [])) from cpS_fld (by decide)]
  refine X.aload_n dX3_copyFrom_30 rfl ?_
  refine X.getR dX3_copyFrom_31 fi_X3_22 sh_1 rfl ?_
  refine X.aload_n dX3_copyFrom_34 rfl ?_
  refine X.getR dX3_copyFrom_35 fi_X3_22 sh_26 rfl ?_
  have hR3 : ∀ x ∈ (3 :: (2 :: (1 :: []))), x < 20 := List.forall_mem_cons.mpr ⟨by decide, hR2⟩
  refine X.callN0 (As := [.inr (some 4), .inr (some 29)]) (rest := []) dX3_copyFrom_38 mk_X3_56 (c_copy (cpS M 26 1 (2 :: (1 :: [])) (2 :: [])) (cpS M 26 1 (3 :: (2 :: (1 :: []))) (2 :: [])) 4 29 10 sh_4 sh_29 (by decide) (cpS_row (d := 26) (s := 1) (i := 3) (by decide) (by decide) hR2)) rfl (by decide) rfl (Nat.le_of_ble_eq_true rfl) ?_
  refine X.aload_n dX3_copyFrom_41 rfl ?_
  refine X.getR dX3_copyFrom_42 fi_X3_25 sh_1 rfl ?_
  refine X.aload_n dX3_copyFrom_45 rfl ?_
  refine X.getR dX3_copyFrom_46 fi_X3_25 sh_26 rfl ?_
  have hR4 : ∀ x ∈ (4 :: (3 :: (2 :: (1 :: [])))), x < 20 := List.forall_mem_cons.mpr ⟨by decide, hR3⟩
  refine X.callN0 (As := [.inr (some 5), .inr (some 30)]) (rest := []) dX3_copyFrom_49 mk_X3_56 (c_copy (cpS M 26 1 (3 :: (2 :: (1 :: []))) (2 :: [])) (cpS M 26 1 (4 :: (3 :: (2 :: (1 :: [])))) (2 :: [])) 5 30 10 sh_5 sh_30 (by decide) (cpS_row (d := 26) (s := 1) (i := 4) (by decide) (by decide) hR3)) rfl (by decide) rfl (Nat.le_of_ble_eq_true rfl) ?_
  refine X.aload_n dX3_copyFrom_52 rfl ?_
  refine X.getR dX3_copyFrom_53 fi_X3_28 sh_1 rfl ?_
  refine X.aload_n dX3_copyFrom_56 rfl ?_
  refine X.getR dX3_copyFrom_57 fi_X3_28 sh_26 rfl ?_
  have hR5 : ∀ x ∈ (5 :: (4 :: (3 :: (2 :: (1 :: []))))), x < 20 := List.forall_mem_cons.mpr ⟨by decide, hR4⟩
  refine X.callN0 (As := [.inr (some 6), .inr (some 31)]) (rest := []) dX3_copyFrom_60 mk_X3_56 (c_copy (cpS M 26 1 (4 :: (3 :: (2 :: (1 :: [])))) (2 :: [])) (cpS M 26 1 (5 :: (4 :: (3 :: (2 :: (1 :: []))))) (2 :: [])) 6 31 10 sh_6 sh_31 (by decide) (cpS_row (d := 26) (s := 1) (i := 5) (by decide) (by decide) hR4)) rfl (by decide) rfl (Nat.le_of_ble_eq_true rfl) ?_
  refine X.aload_n dX3_copyFrom_63 rfl ?_
  refine X.aload_n dX3_copyFrom_64 rfl ?_
  refine X.getI (v := M 1 6) 6 dX3_copyFrom_65 fi_X3_31 sh_1 rfl (congrFun (cpS_src (d := 26) (s := 1) (i := 0) (by decide) (by decide) hR5) 6) ?_
  refine X.putI 6 6 rfl dX3_copyFrom_68 fi_X3_31 sh_26 rfl rfl ?_
  rw [show mset (cpS M 26 1 (5 :: (4 :: (3 :: (2 :: (1 :: []))))) (2 :: [])) 26 6 (M 1 6) = (cpS M 26 1 (5 :: (4 :: (3 :: (2 :: (1 :: []))))) (6 :: (2 :: []))) from cpS_fld (by decide)]
  refine X.aload_n dX3_copyFrom_71 rfl ?_
  refine X.getR dX3_copyFrom_72 fi_X3_34 sh_1 rfl ?_
  refine X.aload_n dX3_copyFrom_75 rfl ?_
  refine X.getR dX3_copyFrom_76 fi_X3_34 sh_26 rfl ?_
  have hR6 : ∀ x ∈ (6 :: (5 :: (4 :: (3 :: (2 :: (1 :: [])))))), x < 20 := List.forall_mem_cons.mpr ⟨by decide, hR5⟩
  refine X.callN0 (As := [.inr (some 7), .inr (some 32)]) (rest := []) dX3_copyFrom_79 mk_X3_56 (c_copy (cpS M 26 1 (5 :: (4 :: (3 :: (2 :: (1 :: []))))) (6 :: (2 :: []))) (cpS M 26 1 (6 :: (5 :: (4 :: (3 :: (2 :: (1 :: [])))))) (6 :: (2 :: []))) 7 32 6 sh_7 sh_32 (by decide) (cpS_row (d := 26) (s := 1) (i := 6) (by decide) (by decide) hR5)) rfl (by decide) rfl (Nat.le_of_ble_eq_true rfl) ?_
  refine X.aload_n dX3_copyFrom_82 rfl ?_
  refine X.getR dX3_copyFrom_83 fi_X3_37 sh_1 rfl ?_
  refine X.aload_n dX3_copyFrom_86 rfl ?_
  refine X.getR dX3_copyFrom_87 fi_X3_37 sh_26 rfl ?_
  have hR7 : ∀ x ∈ (7 :: (6 :: (5 :: (4 :: (3 :: (2 :: (1 :: []))))))), x < 20 := List.forall_mem_cons.mpr ⟨by decide, hR6⟩
  refine X.callN0 (As := [.inr (some 8), .inr (some 33)]) (rest := []) dX3_copyFrom_90 mk_X3_56 (c_copy (cpS M 26 1 (6 :: (5 :: (4 :: (3 :: (2 :: (1 :: [])))))) (6 :: (2 :: []))) (cpS M 26 1 (7 :: (6 :: (5 :: (4 :: (3 :: (2 :: (1 :: []))))))) (6 :: (2 :: []))) 8 33 6 sh_8 sh_33 (by decide) (cpS_row (d := 26) (s := 1) (i := 7) (by decide) (by decide) hR6)) rfl (by decide) rfl (Nat.le_of_ble_eq_true rfl) ?_
  refine X.aload_n dX3_copyFrom_93 rfl ?_
  refine X.getR dX3_copyFrom_94 fi_X3_40 sh_1 rfl ?_
  refine X.aload_n dX3_copyFrom_97 rfl ?_
  refine X.getR dX3_copyFrom_98 fi_X3_40 sh_26 rfl ?_
  have hR8 : ∀ x ∈ (8 :: (7 :: (6 :: (5 :: (4 :: (3 :: (2 :: (1 :: [])))))))), x < 20 := List.forall_mem_cons.mpr ⟨by decide, hR7⟩
  refine X.callN0 (As := [.inr (some 9), .inr (some 34)]) (rest := []) dX3_copyFrom_101 mk_X3_56 (c_copy (cpS M 26 1 (7 :: (6 :: (5 :: (4 :: (3 :: (2 :: (1 :: []))))))) (6 :: (2 :: []))) (cpS M 26 1 (8 :: (7 :: (6 :: (5 :: (4 :: (3 :: (2 :: (1 :: [])))))))) (6 :: (2 :: []))) 9 34 6 sh_9 sh_34 (by decide) (cpS_row (d := 26) (s := 1) (i := 8) (by decide) (by decide) hR7)) rfl (by decide) rfl (Nat.le_of_ble_eq_true rfl) ?_
  refine X.aload_n dX3_copyFrom_104 rfl ?_
  refine X.aload_n dX3_copyFrom_105 rfl ?_
  refine X.getI (v := M 1 10) 10 dX3_copyFrom_106 fi_X3_43 sh_1 rfl (congrFun (cpS_src (d := 26) (s := 1) (i := 0) (by decide) (by decide) hR8) 10) ?_
  refine X.putI 10 10 rfl dX3_copyFrom_109 fi_X3_43 sh_26 rfl rfl ?_
  rw [show mset (cpS M 26 1 (8 :: (7 :: (6 :: (5 :: (4 :: (3 :: (2 :: (1 :: [])))))))) (6 :: (2 :: []))) 26 10 (M 1 10) = (cpS M 26 1 (8 :: (7 :: (6 :: (5 :: (4 :: (3 :: (2 :: (1 :: [])))))))) (10 :: (6 :: (2 :: [])))) from cpS_fld (by decide)]
  refine X.aload_n dX3_copyFrom_112 rfl ?_
  refine X.aload_n dX3_copyFrom_113 rfl ?_
  refine X.getI (v := M 1 11) 11 dX3_copyFrom_114 fi_X3_46 sh_1 rfl (congrFun (cpS_src (d := 26) (s := 1) (i := 0) (by decide) (by decide) hR8) 11) ?_
  refine X.putI 11 11 rfl dX3_copyFrom_117 fi_X3_46 sh_26 rfl rfl ?_
  rw [show mset (cpS M 26 1 (8 :: (7 :: (6 :: (5 :: (4 :: (3 :: (2 :: (1 :: [])))))))) (10 :: (6 :: (2 :: [])))) 26 11 (M 1 11) = (cpS M 26 1 (8 :: (7 :: (6 :: (5 :: (4 :: (3 :: (2 :: (1 :: [])))))))) (11 :: (10 :: (6 :: (2 :: []))))) from cpS_fld (by decide)]
  refine X.iconst dX3_copyFrom_120 ?_
  refine X.istore_n (lv2 := [some (.inr (some 26)), some (.inr (some 1)), some (.inl 0)]) dX3_copyFrom_121 (Nat.le_of_ble_eq_true rfl) rfl ?_
  refine X.iload_n dX3_copyFrom_122 rfl ?_
  refine X.iconst dX3_copyFrom_123 ?_
  refine X.icmp_ge (tgt := 148) dX3_copyFrom_124 (by decide) (by decide) (by decide) (fun h => absurd h (by decide)) (fun h1 => ?_)
  refine X.aload_n dX3_copyFrom_127 rfl ?_
  refine X.getR dX3_copyFrom_128 fi_X3_52 sh_26 rfl ?_
  refine X.iload_n dX3_copyFrom_131 rfl ?_
  refine X.aald dX3_copyFrom_132 sh_35 (by decide) (by decide) (by decide) rfl ?_
  refine X.aload_n dX3_copyFrom_133 rfl ?_
  refine X.getR dX3_copyFrom_134 fi_X3_52 sh_1 rfl ?_
  refine X.iload_n dX3_copyFrom_137 rfl ?_
  refine X.aald dX3_copyFrom_138 sh_10 (by decide) (by decide) (by decide) rfl ?_
  have hR9 : ∀ x ∈ (14 :: (13 :: (12 :: (11 :: (8 :: (7 :: (6 :: (5 :: (4 :: (3 :: (2 :: (1 :: [])))))))))))), x < 20 := by intro x hx; simp only [List.mem_cons] at hx; rcases hx with h | h | h | h | hx <;> first | omega | exact hR8 x (List.mem_cons.mpr hx) | exact hR8 x (by simpa using hx)
  refine X.callV0 (As := [.inr (some 11)]) (rest := []) dX3_copyFrom_139 mk_X3_60 sh_36 (c_cpMem_26_1_0 M (8 :: (7 :: (6 :: (5 :: (4 :: (3 :: (2 :: (1 :: [])))))))) (11 :: (10 :: (6 :: (2 :: [])))) hR8) rfl (by decide) rfl (Nat.le_of_ble_eq_true rfl) ?_
  refine X.iinc (y := 1) (lv2 := [some (.inr (some 26)), some (.inr (some 1)), some (.inl 1)]) dX3_copyFrom_142 rfl rfl rfl ?_
  refine X.goto (tgt := 122) dX3_copyFrom_145 (by decide) ?_
  refine X.iload_n dX3_copyFrom_122 rfl ?_
  refine X.iconst dX3_copyFrom_123 ?_
  refine X.icmp_ge (tgt := 148) dX3_copyFrom_124 (by decide) (by decide) (by decide) (fun h => absurd h (by decide)) (fun h2 => ?_)
  refine X.aload_n dX3_copyFrom_127 rfl ?_
  refine X.getR dX3_copyFrom_128 fi_X3_52 sh_26 rfl ?_
  refine X.iload_n dX3_copyFrom_131 rfl ?_
  refine X.aald dX3_copyFrom_132 sh_35 (by decide) (by decide) (by decide) rfl ?_
  refine X.aload_n dX3_copyFrom_133 rfl ?_
  refine X.getR dX3_copyFrom_134 fi_X3_52 sh_1 rfl ?_
  refine X.iload_n dX3_copyFrom_137 rfl ?_
  refine X.aald dX3_copyFrom_138 sh_10 (by decide) (by decide) (by decide) rfl ?_
  have hR10 : ∀ x ∈ (19 :: (18 :: (17 :: (16 :: (14 :: (13 :: (12 :: (11 :: (8 :: (7 :: (6 :: (5 :: (4 :: (3 :: (2 :: (1 :: [])))))))))))))))), x < 20 := by intro x hx; simp only [List.mem_cons] at hx; rcases hx with h | h | h | h | hx <;> first | omega | exact hR9 x (List.mem_cons.mpr hx) | exact hR9 x (by simpa using hx)
  refine X.callV0 (As := [.inr (some 16)]) (rest := []) dX3_copyFrom_139 mk_X3_60 sh_41 (c_cpMem_26_1_1 M (14 :: (13 :: (12 :: (11 :: (8 :: (7 :: (6 :: (5 :: (4 :: (3 :: (2 :: (1 :: [])))))))))))) (11 :: (10 :: (6 :: (2 :: [])))) hR9) rfl (by decide) rfl (Nat.le_of_ble_eq_true rfl) ?_
  refine X.iinc (y := 2) (lv2 := [some (.inr (some 26)), some (.inr (some 1)), some (.inl 2)]) dX3_copyFrom_142 rfl rfl rfl ?_
  refine X.goto (tgt := 122) dX3_copyFrom_145 (by decide) ?_
  refine X.iload_n dX3_copyFrom_122 rfl ?_
  refine X.iconst dX3_copyFrom_123 ?_
  refine X.icmp_ge (tgt := 148) dX3_copyFrom_124 (by decide) (by decide) (by decide) (fun h3 => ?_) (fun h => absurd h (by decide))
  exact X.vret dX3_copyFrom_148 rfl rfl rfl
set_option maxHeartbeats 4000000 in
set_option maxRecDepth 100000 in
theorem c_cpMem_46_1_0 (M : Mem) (R : List Nat) (F : List Int) (hR0 : ∀ x ∈ R, x < 20) : CX mX1_copyFrom 3 [.inr (some 56), .inr (some 11)] (cpS M 46 1 R F) none (cpS M 46 1 (14 :: (13 :: (12 :: (11 :: R)))) F) := by
  refine CX.of (by decide +kernel) (Nat.le_of_ble_eq_true rfl) [some (.inr (some 56)), some (.inr (some 11))] rfl ?_
  refine X.aload_n dX1_copyFrom_0 rfl ?_
  refine X.getR dX1_copyFrom_1 fi_X1_9 sh_11 rfl ?_
  refine X.aload_n dX1_copyFrom_4 rfl ?_
  refine X.getR dX1_copyFrom_5 fi_X1_9 sh_56 rfl ?_
  have hR1 : ∀ x ∈ (11 :: R), x < 20 := List.forall_mem_cons.mpr ⟨by decide, hR0⟩
  refine X.callN0 (As := [.inr (some 12), .inr (some 57)]) (rest := []) dX1_copyFrom_8 mk_X1_24 (c_copy (cpS M 46 1 R F) (cpS M 46 1 (11 :: R) F) 12 57 120 sh_12 sh_57 (by decide) (cpS_row (d := 46) (s := 1) (i := 11) (by decide) (by decide) hR0)) rfl (by decide) rfl (Nat.le_of_ble_eq_true rfl) ?_
  refine X.aload_n dX1_copyFrom_11 rfl ?_
  refine X.getR dX1_copyFrom_12 fi_X1_15 sh_11 rfl ?_
  refine X.aload_n dX1_copyFrom_15 rfl ?_
  refine X.getR dX1_copyFrom_16 fi_X1_15 sh_56 rfl ?_
  have hR2 : ∀ x ∈ (12 :: (11 :: R)), x < 20 := List.forall_mem_cons.mpr ⟨by decide, hR1⟩
  refine X.callN0 (As := [.inr (some 13), .inr (some 58)]) (rest := []) dX1_copyFrom_19 mk_X1_24 (c_copy (cpS M 46 1 (11 :: R) F) (cpS M 46 1 (12 :: (11 :: R)) F) 13 58 120 sh_13 sh_58 (by decide) (cpS_row (d := 46) (s := 1) (i := 12) (by decide) (by decide) hR1)) rfl (by decide) rfl (Nat.le_of_ble_eq_true rfl) ?_
  refine X.aload_n dX1_copyFrom_22 rfl ?_
  refine X.getR dX1_copyFrom_23 fi_X1_18 sh_11 rfl ?_
  refine X.aload_n dX1_copyFrom_26 rfl ?_
  refine X.getR dX1_copyFrom_27 fi_X1_18 sh_56 rfl ?_
  have hR3 : ∀ x ∈ (13 :: (12 :: (11 :: R))), x < 20 := List.forall_mem_cons.mpr ⟨by decide, hR2⟩
  refine X.callN0 (As := [.inr (some 14), .inr (some 59)]) (rest := []) dX1_copyFrom_30 mk_X1_24 (c_copy (cpS M 46 1 (12 :: (11 :: R)) F) (cpS M 46 1 (13 :: (12 :: (11 :: R))) F) 14 59 120 sh_14 sh_59 (by decide) (cpS_row (d := 46) (s := 1) (i := 13) (by decide) (by decide) hR2)) rfl (by decide) rfl (Nat.le_of_ble_eq_true rfl) ?_
  refine X.aload_n dX1_copyFrom_33 rfl ?_
  refine X.getR dX1_copyFrom_34 fi_X1_21 sh_11 rfl ?_
  refine X.aload_n dX1_copyFrom_37 rfl ?_
  refine X.getR dX1_copyFrom_38 fi_X1_21 sh_56 rfl ?_
  have hR4 : ∀ x ∈ (14 :: (13 :: (12 :: (11 :: R)))), x < 20 := List.forall_mem_cons.mpr ⟨by decide, hR3⟩
  refine X.callN0 (As := [.inr (some 15), .inr (some 60)]) (rest := []) dX1_copyFrom_41 mk_X1_24 (c_copy (cpS M 46 1 (13 :: (12 :: (11 :: R))) F) (cpS M 46 1 (14 :: (13 :: (12 :: (11 :: R)))) F) 15 60 120 sh_15 sh_60 (by decide) (cpS_row (d := 46) (s := 1) (i := 14) (by decide) (by decide) hR3)) rfl (by decide) rfl (Nat.le_of_ble_eq_true rfl) ?_
  exact X.vret dX1_copyFrom_44 rfl rfl rfl
set_option maxHeartbeats 4000000 in
set_option maxRecDepth 100000 in
theorem c_cpMem_46_1_1 (M : Mem) (R : List Nat) (F : List Int) (hR0 : ∀ x ∈ R, x < 20) : CX mX1_copyFrom 3 [.inr (some 61), .inr (some 16)] (cpS M 46 1 R F) none (cpS M 46 1 (19 :: (18 :: (17 :: (16 :: R)))) F) := by
  refine CX.of (by decide +kernel) (Nat.le_of_ble_eq_true rfl) [some (.inr (some 61)), some (.inr (some 16))] rfl ?_
  refine X.aload_n dX1_copyFrom_0 rfl ?_
  refine X.getR dX1_copyFrom_1 fi_X1_9 sh_16 rfl ?_
  refine X.aload_n dX1_copyFrom_4 rfl ?_
  refine X.getR dX1_copyFrom_5 fi_X1_9 sh_61 rfl ?_
  have hR1 : ∀ x ∈ (16 :: R), x < 20 := List.forall_mem_cons.mpr ⟨by decide, hR0⟩
  refine X.callN0 (As := [.inr (some 17), .inr (some 62)]) (rest := []) dX1_copyFrom_8 mk_X1_24 (c_copy (cpS M 46 1 R F) (cpS M 46 1 (16 :: R) F) 17 62 120 sh_17 sh_62 (by decide) (cpS_row (d := 46) (s := 1) (i := 16) (by decide) (by decide) hR0)) rfl (by decide) rfl (Nat.le_of_ble_eq_true rfl) ?_
  refine X.aload_n dX1_copyFrom_11 rfl ?_
  refine X.getR dX1_copyFrom_12 fi_X1_15 sh_16 rfl ?_
  refine X.aload_n dX1_copyFrom_15 rfl ?_
  refine X.getR dX1_copyFrom_16 fi_X1_15 sh_61 rfl ?_
  have hR2 : ∀ x ∈ (17 :: (16 :: R)), x < 20 := List.forall_mem_cons.mpr ⟨by decide, hR1⟩
  refine X.callN0 (As := [.inr (some 18), .inr (some 63)]) (rest := []) dX1_copyFrom_19 mk_X1_24 (c_copy (cpS M 46 1 (16 :: R) F) (cpS M 46 1 (17 :: (16 :: R)) F) 18 63 120 sh_18 sh_63 (by decide) (cpS_row (d := 46) (s := 1) (i := 17) (by decide) (by decide) hR1)) rfl (by decide) rfl (Nat.le_of_ble_eq_true rfl) ?_
  refine X.aload_n dX1_copyFrom_22 rfl ?_
  refine X.getR dX1_copyFrom_23 fi_X1_18 sh_16 rfl ?_
  refine X.aload_n dX1_copyFrom_26 rfl ?_
  refine X.getR dX1_copyFrom_27 fi_X1_18 sh_61 rfl ?_
  have hR3 : ∀ x ∈ (18 :: (17 :: (16 :: R))), x < 20 := List.forall_mem_cons.mpr ⟨by decide, hR2⟩
  refine X.callN0 (As := [.inr (some 19), .inr (some 64)]) (rest := []) dX1_copyFrom_30 mk_X1_24 (c_copy (cpS M 46 1 (17 :: (16 :: R)) F) (cpS M 46 1 (18 :: (17 :: (16 :: R))) F) 19 64 120 sh_19 sh_64 (by decide) (cpS_row (d := 46) (s := 1) (i := 18) (by decide) (by decide) hR2)) rfl (by decide) rfl (Nat.le_of_ble_eq_true rfl) ?_
  refine X.aload_n dX1_copyFrom_33 rfl ?_
  refine X.getR dX1_copyFrom_34 fi_X1_21 sh_16 rfl ?_
  refine X.aload_n dX1_copyFrom_37 rfl ?_
  refine X.getR dX1_copyFrom_38 fi_X1_21 sh_61 rfl ?_
  have hR4 : ∀ x ∈ (19 :: (18 :: (17 :: (16 :: R)))), x < 20 := List.forall_mem_cons.mpr ⟨by decide, hR3⟩
  refine X.callN0 (As := [.inr (some 20), .inr (some 65)]) (rest := []) dX1_copyFrom_41 mk_X1_24 (c_copy (cpS M 46 1 (18 :: (17 :: (16 :: R))) F) (cpS M 46 1 (19 :: (18 :: (17 :: (16 :: R)))) F) 20 65 120 sh_20 sh_65 (by decide) (cpS_row (d := 46) (s := 1) (i := 19) (by decide) (by decide) hR3)) rfl (by decide) rfl (Nat.le_of_ble_eq_true rfl) ?_
  exact X.vret dX1_copyFrom_44 rfl rfl rfl
set_option maxHeartbeats 4000000 in
set_option maxRecDepth 100000 in
theorem c_copyFrom_46_1 (M : Mem) : CX mX3_copyFrom 4 [.inr (some 46), .inr (some 1)] (cpS M 46 1 [] []) none (cpS M 46 1 fullR fullF) := by
  have hR0 : ∀ x ∈ ([] : List Nat), x < 20 := fun x hx => by cases hx
  refine CX.of (by decide +kernel) (Nat.le_of_ble_eq_true rfl) [some (.inr (some 46)), some (.inr (some 1)), none] rfl ?_
  refine X.aload_n dX3_copyFrom_0 rfl ?_
  refine X.getR dX3_copyFrom_1 fi_X3_9 sh_1 rfl ?_
  refine X.aload_n dX3_copyFrom_4 rfl ?_
  refine X.getR dX3_copyFrom_5 fi_X3_9 sh_46 rfl ?_
  have hR1 : ∀ x ∈ (1 :: []), x < 20 := List.forall_mem_cons.mpr ⟨by decide, hR0⟩
  refine X.callN0 (As := [.inr (some 2), .inr (some 47)]) (rest := []) dX3_copyFrom_8 mk_X3_56 (c_copy (cpS M 46 1 [] []) (cpS M 46 1 (1 :: []) []) 2 47 120 sh_2 sh_47 (by decide) (cpS_row (d := 46) (s := 1) (i := 1) (by decide) (by decide) hR0)) rfl (by decide) rfl (Nat.le_of_ble_eq_true rfl) ?_
  refine X.aload_n dX3_copyFrom_11 rfl ?_
  refine X.getR dX3_copyFrom_12 fi_X3_15 sh_1 rfl ?_
  refine X.aload_n dX3_copyFrom_15 rfl ?_
  refine X.getR dX3_copyFrom_16 fi_X3_15 sh_46 rfl ?_
  have hR2 : ∀ x ∈ (2 :: (1 :: [])), x < 20 := List.forall_mem_cons.mpr ⟨by decide, hR1⟩
  refine X.callN0 (As := [.inr (some 3), .inr (some 48)]) (rest := []) dX3_copyFrom_19 mk_X3_56 (c_copy (cpS M 46 1 (1 :: []) []) (cpS M 46 1 (2 :: (1 :: [])) []) 3 48 120 sh_3 sh_48 (by decide) (cpS_row (d := 46) (s := 1) (i := 2) (by decide) (by decide) hR1)) rfl (by decide) rfl (Nat.le_of_ble_eq_true rfl) ?_
  refine X.aload_n dX3_copyFrom_22 rfl ?_
  refine X.aload_n dX3_copyFrom_23 rfl ?_
  refine X.getI (v := M 1 2) 2 dX3_copyFrom_24 fi_X3_18 sh_1 rfl (congrFun (cpS_src (d := 46) (s := 1) (i := 0) (by decide) (by decide) hR2) 2) ?_
  refine X.putI 2 2 rfl dX3_copyFrom_27 fi_X3_18 sh_46 rfl rfl ?_
  rw [show mset (cpS M 46 1 (2 :: (1 :: [])) []) 46 2 (M 1 2) = (cpS M 46 1 (2 :: (1 :: [])) (2 :: [])) from cpS_fld (by decide)]
  refine X.aload_n dX3_copyFrom_30 rfl ?_
  refine X.getR dX3_copyFrom_31 fi_X3_22 sh_1 rfl ?_
  refine X.aload_n dX3_copyFrom_34 rfl ?_
  refine X.getR dX3_copyFrom_35 fi_X3_22 sh_46 rfl ?_
  have hR3 : ∀ x ∈ (3 :: (2 :: (1 :: []))), x < 20 := List.forall_mem_cons.mpr ⟨by decide, hR2⟩
  refine X.callN0 (As := [.inr (some 4), .inr (some 49)]) (rest := []) dX3_copyFrom_38 mk_X3_56 (c_copy (cpS M 46 1 (2 :: (1 :: [])) (2 :: [])) (cpS M 46 1 (3 :: (2 :: (1 :: []))) (2 :: [])) 4 49 10 sh_4 sh_49 (by decide) (cpS_row (d := 46) (s := 1) (i := 3) (by decide) (by decide) hR2)) rfl (by decide) rfl (Nat.le_of_ble_eq_true rfl) ?_
  refine X.aload_n dX3_copyFrom_41 rfl ?_
  refine X.getR dX3_copyFrom_42 fi_X3_25 sh_1 rfl ?_
  refine X.aload_n dX3_copyFrom_45 rfl ?_
  refine X.getR dX3_copyFrom_46 fi_X3_25 sh_46 rfl ?_
  have hR4 : ∀ x ∈ (4 :: (3 :: (2 :: (1 :: [])))), x < 20 := List.forall_mem_cons.mpr ⟨by decide, hR3⟩
  refine X.callN0 (As := [.inr (some 5), .inr (some 50)]) (rest := []) dX3_copyFrom_49 mk_X3_56 (c_copy (cpS M 46 1 (3 :: (2 :: (1 :: []))) (2 :: [])) (cpS M 46 1 (4 :: (3 :: (2 :: (1 :: [])))) (2 :: [])) 5 50 10 sh_5 sh_50 (by decide) (cpS_row (d := 46) (s := 1) (i := 4) (by decide) (by decide) hR3)) rfl (by decide) rfl (Nat.le_of_ble_eq_true rfl) ?_
  refine X.aload_n dX3_copyFrom_52 rfl ?_
  refine X.getR dX3_copyFrom_53 fi_X3_28 sh_1 rfl ?_
  refine X.aload_n dX3_copyFrom_56 rfl ?_
  refine X.getR dX3_copyFrom_57 fi_X3_28 sh_46 rfl ?_
  have hR5 : ∀ x ∈ (5 :: (4 :: (3 :: (2 :: (1 :: []))))), x < 20 := List.forall_mem_cons.mpr ⟨by decide, hR4⟩
  refine X.callN0 (As := [.inr (some 6), .inr (some 51)]) (rest := []) dX3_copyFrom_60 mk_X3_56 (c_copy (cpS M 46 1 (4 :: (3 :: (2 :: (1 :: [])))) (2 :: [])) (cpS M 46 1 (5 :: (4 :: (3 :: (2 :: (1 :: []))))) (2 :: [])) 6 51 10 sh_6 sh_51 (by decide) (cpS_row (d := 46) (s := 1) (i := 5) (by decide) (by decide) hR4)) rfl (by decide) rfl (Nat.le_of_ble_eq_true rfl) ?_
  refine X.aload_n dX3_copyFrom_63 rfl ?_
  refine X.aload_n dX3_copyFrom_64 rfl ?_
  refine X.getI (v := M 1 6) 6 dX3_copyFrom_65 fi_X3_31 sh_1 rfl (congrFun (cpS_src (d := 46) (s := 1) (i := 0) (by decide) (by decide) hR5) 6) ?_
  refine X.putI 6 6 rfl dX3_copyFrom_68 fi_X3_31 sh_46 rfl rfl ?_
  rw [show mset (cpS M 46 1 (5 :: (4 :: (3 :: (2 :: (1 :: []))))) (2 :: [])) 46 6 (M 1 6) = (cpS M 46 1 (5 :: (4 :: (3 :: (2 :: (1 :: []))))) (6 :: (2 :: []))) from cpS_fld (by decide)]
  refine X.aload_n dX3_copyFrom_71 rfl ?_
  refine X.getR dX3_copyFrom_72 fi_X3_34 sh_1 rfl ?_
  refine X.aload_n dX3_copyFrom_75 rfl ?_
  refine X.getR dX3_copyFrom_76 fi_X3_34 sh_46 rfl ?_
  have hR6 : ∀ x ∈ (6 :: (5 :: (4 :: (3 :: (2 :: (1 :: [])))))), x < 20 := List.forall_mem_cons.mpr ⟨by decide, hR5⟩
  refine X.callN0 (As := [.inr (some 7), .inr (some 52)]) (rest := []) dX3_copyFrom_79 mk_X3_56 (c_copy (cpS M 46 1 (5 :: (4 :: (3 :: (2 :: (1 :: []))))) (6 :: (2 :: []))) (cpS M 46 1 (6 :: (5 :: (4 :: (3 :: (2 :: (1 :: [])))))) (6 :: (2 :: []))) 7 52 6 sh_7 sh_52 (by decide) (cpS_row (d := 46) (s := 1) (i := 6) (by decide) (by decide) hR5)) rfl (by decide) rfl (Nat.le_of_ble_eq_true rfl) ?_
  refine X.aload_n dX3_copyFrom_82 rfl ?_
  refine X.getR dX3_copyFrom_83 fi_X3_37 sh_1 rfl ?_
  refine X.aload_n dX3_copyFrom_86 rfl ?_
  refine X.getR dX3_copyFrom_87 fi_X3_37 sh_46 rfl ?_
  have hR7 : ∀ x ∈ (7 :: (6 :: (5 :: (4 :: (3 :: (2 :: (1 :: []))))))), x < 20 := List.forall_mem_cons.mpr ⟨by decide, hR6⟩
  refine X.callN0 (As := [.inr (some 8), .inr (some 53)]) (rest := []) dX3_copyFrom_90 mk_X3_56 (c_copy (cpS M 46 1 (6 :: (5 :: (4 :: (3 :: (2 :: (1 :: [])))))) (6 :: (2 :: []))) (cpS M 46 1 (7 :: (6 :: (5 :: (4 :: (3 :: (2 :: (1 :: []))))))) (6 :: (2 :: []))) 8 53 6 sh_8 sh_53 (by decide) (cpS_row (d := 46) (s := 1) (i := 7) (by decide) (by decide) hR6)) rfl (by decide) rfl (Nat.le_of_ble_eq_true rfl) ?_
  refine X.aload_n dX3_copyFrom_93 rfl ?_
  refine X.getR dX3_copyFrom_94 fi_X3_40 sh_1 rfl ?_
  refine X.aload_n dX3_copyFrom_97 rfl ?_
  refine X.getR dX3_copyFrom_98 fi_X3_40 sh_46 rfl ?_
  have hR8 : ∀ x ∈ (8 :: (7 :: (6 :: (5 :: (4 :: (3 :: (2 :: (1 :: [])))))))), x < 20 := List.forall_mem_cons.mpr ⟨by decide, hR7⟩
  refine X.callN0 (As := [.inr (some 9), .inr (some 54)]) (rest := []) dX3_copyFrom_101 mk_X3_56 (c_copy (cpS M 46 1 (7 :: (6 :: (5 :: (4 :: (3 :: (2 :: (1 :: []))))))) (6 :: (2 :: []))) (cpS M 46 1 (8 :: (7 :: (6 :: (5 :: (4 :: (3 :: (2 :: (1 :: [])))))))) (6 :: (2 :: []))) 9 54 6 sh_9 sh_54 (by decide) (cpS_row (d := 46) (s := 1) (i := 8) (by decide) (by decide) hR7)) rfl (by decide) rfl (Nat.le_of_ble_eq_true rfl) ?_
  refine X.aload_n dX3_copyFrom_104 rfl ?_
  refine X.aload_n dX3_copyFrom_105 rfl ?_
  refine X.getI (v := M 1 10) 10 dX3_copyFrom_106 fi_X3_43 sh_1 rfl (congrFun (cpS_src (d := 46) (s := 1) (i := 0) (by decide) (by decide) hR8) 10) ?_
  refine X.putI 10 10 rfl dX3_copyFrom_109 fi_X3_43 sh_46 rfl rfl ?_
  rw [show mset (cpS M 46 1 (8 :: (7 :: (6 :: (5 :: (4 :: (3 :: (2 :: (1 :: [])))))))) (6 :: (2 :: []))) 46 10 (M 1 10) = (cpS M 46 1 (8 :: (7 :: (6 :: (5 :: (4 :: (3 :: (2 :: (1 :: [])))))))) (10 :: (6 :: (2 :: [])))) from cpS_fld (by decide)]
  refine X.aload_n dX3_copyFrom_112 rfl ?_
  refine X.aload_n dX3_copyFrom_113 rfl ?_
  refine X.getI (v := M 1 11) 11 dX3_copyFrom_114 fi_X3_46 sh_1 rfl (congrFun (cpS_src (d := 46) (s := 1) (i := 0) (by decide) (by decide) hR8) 11) ?_
  refine X.putI 11 11 rfl dX3_copyFrom_117 fi_X3_46 sh_46 rfl rfl ?_
  rw [show mset (cpS M 46 1 (8 :: (7 :: (6 :: (5 :: (4 :: (3 :: (2 :: (1 :: [])))))))) (10 :: (6 :: (2 :: [])))) 46 11 (M 1 11) = (cpS M 46 1 (8 :: (7 :: (6 :: (5 :: (4 :: (3 :: (2 :: (1 :: [])))))))) (11 :: (10 :: (6 :: (2 :: []))))) from cpS_fld (by decide)]
  refine X.iconst dX3_copyFrom_120 ?_
  refine X.istore_n (lv2 := [some (.inr (some 46)), some (.inr (some 1)), some (.inl 0)]) dX3_copyFrom_121 (Nat.le_of_ble_eq_true rfl) rfl ?_
  refine X.iload_n dX3_copyFrom_122 rfl ?_
  refine X.iconst dX3_copyFrom_123 ?_
  refine X.icmp_ge (tgt := 148) dX3_copyFrom_124 (by decide) (by decide) (by decide) (fun h => absurd h (by decide)) (fun h1 => ?_)
  refine X.aload_n dX3_copyFrom_127 rfl ?_
  refine X.getR dX3_copyFrom_128 fi_X3_52 sh_46 rfl ?_
  refine X.iload_n dX3_copyFrom_131 rfl ?_
  refine X.aald dX3_copyFrom_132 sh_55 (by decide) (by decide) (by decide) rfl ?_
  refine X.aload_n dX3_copyFrom_133 rfl ?_
  refine X.getR dX3_copyFrom_134 fi_X3_52 sh_1 rfl ?_
  refine X.iload_n dX3_copyFrom_137 rfl ?_
  refine X.aald dX3_copyFrom_138 sh_10 (by decide) (by decide) (by decide) rfl ?_
  have hR9 : ∀ x ∈ (14 :: (13 :: (12 :: (11 :: (8 :: (7 :: (6 :: (5 :: (4 :: (3 :: (2 :: (1 :: [])))))))))))), x < 20 := by intro x hx; simp only [List.mem_cons] at hx; rcases hx with h | h | h | h | hx <;> first | omega | exact hR8 x (List.mem_cons.mpr hx) | exact hR8 x (by simpa using hx)
  refine X.callV0 (As := [.inr (some 11)]) (rest := []) dX3_copyFrom_139 mk_X3_60 sh_56 (c_cpMem_46_1_0 M (8 :: (7 :: (6 :: (5 :: (4 :: (3 :: (2 :: (1 :: [])))))))) (11 :: (10 :: (6 :: (2 :: [])))) hR8) rfl (by decide) rfl (Nat.le_of_ble_eq_true rfl) ?_
  refine X.iinc (y := 1) (lv2 := [some (.inr (some 46)), some (.inr (some 1)), some (.inl 1)]) dX3_copyFrom_142 rfl rfl rfl ?_
  refine X.goto (tgt := 122) dX3_copyFrom_145 (by decide) ?_
  refine X.iload_n dX3_copyFrom_122 rfl ?_
  refine X.iconst dX3_copyFrom_123 ?_
  refine X.icmp_ge (tgt := 148) dX3_copyFrom_124 (by decide) (by decide) (by decide) (fun h => absurd h (by decide)) (fun h2 => ?_)
  refine X.aload_n dX3_copyFrom_127 rfl ?_
  refine X.getR dX3_copyFrom_128 fi_X3_52 sh_46 rfl ?_
  refine X.iload_n dX3_copyFrom_131 rfl ?_
  refine X.aald dX3_copyFrom_132 sh_55 (by decide) (by decide) (by decide) rfl ?_
  refine X.aload_n dX3_copyFrom_133 rfl ?_
  refine X.getR dX3_copyFrom_134 fi_X3_52 sh_1 rfl ?_
  refine X.iload_n dX3_copyFrom_137 rfl ?_
  refine X.aald dX3_copyFrom_138 sh_10 (by decide) (by decide) (by decide) rfl ?_
  have hR10 : ∀ x ∈ (19 :: (18 :: (17 :: (16 :: (14 :: (13 :: (12 :: (11 :: (8 :: (7 :: (6 :: (5 :: (4 :: (3 :: (2 :: (1 :: [])))))))))))))))), x < 20 := by intro x hx; simp only [List.mem_cons] at hx; rcases hx with h | h | h | h | hx <;> first | omega | exact hR9 x (List.mem_cons.mpr hx) | exact hR9 x (by simpa using hx)
  refine X.callV0 (As := [.inr (some 16)]) (rest := []) dX3_copyFrom_139 mk_X3_60 sh_61 (c_cpMem_46_1_1 M (14 :: (13 :: (12 :: (11 :: (8 :: (7 :: (6 :: (5 :: (4 :: (3 :: (2 :: (1 :: [])))))))))))) (11 :: (10 :: (6 :: (2 :: [])))) hR9) rfl (by decide) rfl (Nat.le_of_ble_eq_true rfl) ?_
  refine X.iinc (y := 2) (lv2 := [some (.inr (some 46)), some (.inr (some 1)), some (.inl 2)]) dX3_copyFrom_142 rfl rfl rfl ?_
  refine X.goto (tgt := 122) dX3_copyFrom_145 (by decide) ?_
  refine X.iload_n dX3_copyFrom_122 rfl ?_
  refine X.iconst dX3_copyFrom_123 ?_
  refine X.icmp_ge (tgt := 148) dX3_copyFrom_124 (by decide) (by decide) (by decide) (fun h3 => ?_) (fun h => absurd h (by decide))
  exact X.vret dX3_copyFrom_148 rfl rfl rfl
set_option maxHeartbeats 4000000 in
set_option maxRecDepth 100000 in
theorem c_cpMem_66_1_0 (M : Mem) (R : List Nat) (F : List Int) (hR0 : ∀ x ∈ R, x < 20) : CX mX1_copyFrom 3 [.inr (some 76), .inr (some 11)] (cpS M 66 1 R F) none (cpS M 66 1 (14 :: (13 :: (12 :: (11 :: R)))) F) := by
  refine CX.of (by decide +kernel) (Nat.le_of_ble_eq_true rfl) [some (.inr (some 76)), some (.inr (some 11))] rfl ?_
  refine X.aload_n dX1_copyFrom_0 rfl ?_
  refine X.getR dX1_copyFrom_1 fi_X1_9 sh_11 rfl ?_
  refine X.aload_n dX1_copyFrom_4 rfl ?_
  refine X.getR dX1_copyFrom_5 fi_X1_9 sh_76 rfl ?_
  have hR1 : ∀ x ∈ (11 :: R), x < 20 := List.forall_mem_cons.mpr ⟨by decide, hR0⟩
  refine X.callN0 (As := [.inr (some 12), .inr (some 77)]) (rest := []) dX1_copyFrom_8 mk_X1_24 (c_copy (cpS M 66 1 R F) (cpS M 66 1 (11 :: R) F) 12 77 120 sh_12 sh_77 (by decide) (cpS_row (d := 66) (s := 1) (i := 11) (by decide) (by decide) hR0)) rfl (by decide) rfl (Nat.le_of_ble_eq_true rfl) ?_
  refine X.aload_n dX1_copyFrom_11 rfl ?_
  refine X.getR dX1_copyFrom_12 fi_X1_15 sh_11 rfl ?_
  refine X.aload_n dX1_copyFrom_15 rfl ?_
  refine X.getR dX1_copyFrom_16 fi_X1_15 sh_76 rfl ?_
  have hR2 : ∀ x ∈ (12 :: (11 :: R)), x < 20 := List.forall_mem_cons.mpr ⟨by decide, hR1⟩
  refine X.callN0 (As := [.inr (some 13), .inr (some 78)]) (rest := []) dX1_copyFrom_19 mk_X1_24 (c_copy (cpS M 66 1 (11 :: R) F) (cpS M 66 1 (12 :: (11 :: R)) F) 13 78 120 sh_13 sh_78 (by decide) (cpS_row (d := 66) (s := 1) (i := 12) (by decide) (by decide) hR1)) rfl (by decide) rfl (Nat.le_of_ble_eq_true rfl) ?_
  refine X.aload_n dX1_copyFrom_22 rfl ?_
  refine X.getR dX1_copyFrom_23 fi_X1_18 sh_11 rfl ?_
  refine X.aload_n dX1_copyFrom_26 rfl ?_
  refine X.getR dX1_copyFrom_27 fi_X1_18 sh_76 rfl ?_
  have hR3 : ∀ x ∈ (13 :: (12 :: (11 :: R))), x < 20 := List.forall_mem_cons.mpr ⟨by decide, hR2⟩
  refine X.callN0 (As := [.inr (some 14), .inr (some 79)]) (rest := []) dX1_copyFrom_30 mk_X1_24 (c_copy (cpS M 66 1 (12 :: (11 :: R)) F) (cpS M 66 1 (13 :: (12 :: (11 :: R))) F) 14 79 120 sh_14 sh_79 (by decide) (cpS_row (d := 66) (s := 1) (i := 13) (by decide) (by decide) hR2)) rfl (by decide) rfl (Nat.le_of_ble_eq_true rfl) ?_
  refine X.aload_n dX1_copyFrom_33 rfl ?_
  refine X.getR dX1_copyFrom_34 fi_X1_21 sh_11 rfl ?_
  refine X.aload_n dX1_copyFrom_37 rfl ?_
  refine X.getR dX1_copyFrom_38 fi_X1_21 sh_76 rfl ?_
  have hR4 : ∀ x ∈ (14 :: (13 :: (12 :: (11 :: R)))), x < 20 := List.forall_mem_cons.mpr ⟨by decide, hR3⟩
  refine X.callN0 (As := [.inr (some 15), .inr (some 80)]) (rest := []) dX1_copyFrom_41 mk_X1_24 (c_copy (cpS M 66 1 (13 :: (12 :: (11 :: R))) F) (cpS M 66 1 (14 :: (13 :: (12 :: (11 :: R)))) F) 15 80 120 sh_15 sh_80 (by decide) (cpS_row (d := 66) (s := 1) (i := 14) (by decide) (by decide) hR3)) rfl (by decide) rfl (Nat.le_of_ble_eq_true rfl) ?_
  exact X.vret dX1_copyFrom_44 rfl rfl rfl
set_option maxHeartbeats 4000000 in
set_option maxRecDepth 100000 in
theorem c_cpMem_66_1_1 (M : Mem) (R : List Nat) (F : List Int) (hR0 : ∀ x ∈ R, x < 20) : CX mX1_copyFrom 3 [.inr (some 81), .inr (some 16)] (cpS M 66 1 R F) none (cpS M 66 1 (19 :: (18 :: (17 :: (16 :: R)))) F) := by
  refine CX.of (by decide +kernel) (Nat.le_of_ble_eq_true rfl) [some (.inr (some 81)), some (.inr (some 16))] rfl ?_
  refine X.aload_n dX1_copyFrom_0 rfl ?_
  refine X.getR dX1_copyFrom_1 fi_X1_9 sh_16 rfl ?_
  refine X.aload_n dX1_copyFrom_4 rfl ?_
  refine X.getR dX1_copyFrom_5 fi_X1_9 sh_81 rfl ?_
  have hR1 : ∀ x ∈ (16 :: R), x < 20 := List.forall_mem_cons.mpr ⟨by decide, hR0⟩
  refine X.callN0 (As := [.inr (some 17), .inr (some 82)]) (rest := []) dX1_copyFrom_8 mk_X1_24 (c_copy (cpS M 66 1 R F) (cpS M 66 1 (16 :: R) F) 17 82 120 sh_17 sh_82 (by decide) (cpS_row (d := 66) (s := 1) (i := 16) (by decide) (by decide) hR0)) rfl (by decide) rfl (Nat.le_of_ble_eq_true rfl) ?_
  refine X.aload_n dX1_copyFrom_11 rfl ?_
  refine X.getR dX1_copyFrom_12 fi_X1_15 sh_16 rfl ?_
  refine X.aload_n dX1_copyFrom_15 rfl ?_
  refine X.getR dX1_copyFrom_16 fi_X1_15 sh_81 rfl ?_
  have hR2 : ∀ x ∈ (17 :: (16 :: R)), x < 20 := List.forall_mem_cons.mpr ⟨by decide, hR1⟩
  refine X.callN0 (As := [.inr (some 18), .inr (some 83)]) (rest := []) dX1_copyFrom_19 mk_X1_24 (c_copy (cpS M 66 1 (16 :: R) F) (cpS M 66 1 (17 :: (16 :: R)) F) 18 83 120 sh_18 sh_83 (by decide) (cpS_row (d := 66) (s := 1) (i := 17) (by decide) (by decide) hR1)) rfl (by decide) rfl (Nat.le_of_ble_eq_true rfl) ?_
  refine X.aload_n dX1_copyFrom_22 rfl ?_
  refine X.getR dX1_copyFrom_23 fi_X1_18 sh_16 rfl ?_
  refine X.aload_n dX1_copyFrom_26 rfl ?_
  refine X.getR dX1_copyFrom_27 fi_X1_18 sh_81 rfl ?_
  have hR3 : ∀ x ∈ (18 :: (17 :: (16 :: R))), x < 20 := List.forall_mem_cons.mpr ⟨by decide, hR2⟩
  refine X.callN0 (As := [.inr (some 19), .inr (some 84)]) (rest := []) dX1_copyFrom_30 mk_X1_24 (c_copy (cpS M 66 1 (17 :: (16 :: R)) F) (cpS M 66 1 (18 :: (17 :: (16 :: R))) F) 19 84 120 sh_19 sh_84 (by decide) (cpS_row (d := 66) (s := 1) (i := 18) (by decide) (by decide) hR2)) rfl (by decide) rfl (Nat.le_of_ble_eq_true rfl) ?_
  refine X.aload_n dX1_copyFrom_33 rfl ?_
  refine X.getR dX1_copyFrom_34 fi_X1_21 sh_16 rfl ?_
  refine X.aload_n dX1_copyFrom_37 rfl ?_
  refine X.getR dX1_copyFrom_38 fi_X1_21 sh_81 rfl ?_
  have hR4 : ∀ x ∈ (19 :: (18 :: (17 :: (16 :: R)))), x < 20 := List.forall_mem_cons.mpr ⟨by decide, hR3⟩
  refine X.callN0 (As := [.inr (some 20), .inr (some 85)]) (rest := []) dX1_copyFrom_41 mk_X1_24 (c_copy (cpS M 66 1 (18 :: (17 :: (16 :: R))) F) (cpS M 66 1 (19 :: (18 :: (17 :: (16 :: R)))) F) 20 85 120 sh_20 sh_85 (by decide) (cpS_row (d := 66) (s := 1) (i := 19) (by decide) (by decide) hR3)) rfl (by decide) rfl (Nat.le_of_ble_eq_true rfl) ?_
  exact X.vret dX1_copyFrom_44 rfl rfl rfl
set_option maxHeartbeats 4000000 in
set_option maxRecDepth 100000 in
theorem c_copyFrom_66_1 (M : Mem) : CX mX3_copyFrom 4 [.inr (some 66), .inr (some 1)] (cpS M 66 1 [] []) none (cpS M 66 1 fullR fullF) := by
  have hR0 : ∀ x ∈ ([] : List Nat), x < 20 := fun x hx => by cases hx
  refine CX.of (by decide +kernel) (Nat.le_of_ble_eq_true rfl) [some (.inr (some 66)), some (.inr (some 1)), none] rfl ?_
  refine X.aload_n dX3_copyFrom_0 rfl ?_
  refine X.getR dX3_copyFrom_1 fi_X3_9 sh_1 rfl ?_
  refine X.aload_n dX3_copyFrom_4 rfl ?_
  refine X.getR dX3_copyFrom_5 fi_X3_9 sh_66 rfl ?_
  have hR1 : ∀ x ∈ (1 :: []), x < 20 := List.forall_mem_cons.mpr ⟨by decide, hR0⟩
  refine X.callN0 (As := [.inr (some 2), .inr (some 67)]) (rest := []) dX3_copyFrom_8 mk_X3_56 (c_copy (cpS M 66 1 [] []) (cpS M 66 1 (1 :: []) []) 2 67 120 sh_2 sh_67 (by decide) (cpS_row (d := 66) (s := 1) (i := 1) (by decide) (by decide) hR0)) rfl (by decide) rfl (Nat.le_of_ble_eq_true rfl) ?_
  refine X.aload_n dX3_copyFrom_11 rfl ?_
  refine X.getR dX3_copyFrom_12 fi_X3_15 sh_1 rfl ?_
  refine X.aload_n dX3_copyFrom_15 rfl ?_
  refine X.getR dX3_copyFrom_16 fi_X3_15 sh_66 rfl ?_
  have hR2 : ∀ x ∈ (2 :: (1 :: [])), x < 20 := List.forall_mem_cons.mpr ⟨by decide, hR1⟩
  refine X.callN0 (As := [.inr (some 3), .inr (some 68)]) (rest := []) dX3_copyFrom_19 mk_X3_56 (c_copy (cpS M 66 1 (1 :: []) []) (cpS M 66 1 (2 :: (1 :: [])) []) 3 68 120 sh_3 sh_68 (by decide) (cpS_row (d := 66) (s := 1) (i := 2) (by decide) (by decide) hR1)) rfl (by decide) rfl (Nat.le_of_ble_eq_true rfl) ?_
  refine X.aload_n dX3_copyFrom_22 rfl ?_
  refine X.aload_n dX3_copyFrom_23 rfl ?_
  refine X.getI (v := M 1 2) 2 dX3_copyFrom_24 fi_X3_18 sh_1 rfl (congrFun (cpS_src (d := 66) (s := 1) (i := 0) (by decide) (by decide) hR2) 2) ?_
  refine X.putI 2 2 rfl dX3_copyFrom_27 fi_X3_18 sh_66 rfl rfl ?_
  rw [show mset (cpS M 66 1 (2 :: (1 :: [])) []) 66 2 (M 1 2) = (cpS M 66 1 (2 :: (1 :: [])) (2 :: [])) from cpS_fld (by decide)]
  refine X.aload_n dX3_copyFrom_30 rfl ?_
  refine X.getR dX3_copyFrom_31 fi_X3_22 sh_1 rfl ?_
  refine X.aload_n dX3_copyFrom_34 rfl ?_
  refine X.getR dX3_copyFrom_35 fi_X3_22 sh_66 rfl ?_
  have hR3 : ∀ x ∈ (3 :: (2 :: (1 :: []))), x < 20 := List.forall_mem_cons.mpr ⟨by decide, hR2⟩
  refine X.callN0 (As := [.inr (some 4), .inr (some 69)]) (rest := []) dX3_copyFrom_38 mk_X3_56 (c_copy (cpS M 66 1 (2 :: (1 :: [])) (2 :: [])) (cpS M 66 1 (3 :: (2 :: (1 :: []))) (2 :: [])) 4 69 10 sh_4 sh_69 (by decide) (cpS_row (d := 66) (s := 1) (i := 3) (by decide) (by decide) hR2)) rfl (by decide) rfl (Nat.le_of_ble_eq_true rfl) ?_
  refine X.aload_n dX3_copyFrom_41 rfl ?_
  refine X.getR dX3_copyFrom_42 fi_X3_25 sh_1 rfl ?_
  refine X.aload_n dX3_copyFrom_45 rfl ?_
  refine X.getR dX3_copyFrom_46 fi_X3_25 sh_66 rfl ?_
  have hR4 : ∀ x ∈ (4 :: (3 :: (2 :: (1 :: [])))), x < 20 := List.forall_mem_cons.mpr ⟨by decide, hR3⟩
  refine X.callN0 (As := [.inr (some 5), .inr (some 70)]) (rest := []) dX3_copyFrom_49 mk_X3_56 (c_copy (cpS M 66 1 (3 :: (2 :: (1 :: []))) (2 :: [])) (cpS M 66 1 (4 :: (3 :: (2 :: (1 :: [])))) (2 :: [])) 5 70 10 sh_5 sh_70 (by decide) (cpS_row (d := 66) (s := 1) (i := 4) (by decide) (by decide) hR3)) rfl (by decide) rfl (Nat.le_of_ble_eq_true rfl) ?_
  refine X.aload_n dX3_copyFrom_52 rfl ?_
  refine X.getR dX3_copyFrom_53 fi_X3_28 sh_1 rfl ?_
  refine X.aload_n dX3_copyFrom_56 rfl ?_
  refine X.getR dX3_copyFrom_57 fi_X3_28 sh_66 rfl ?_
  have hR5 : ∀ x ∈ (5 :: (4 :: (3 :: (2 :: (1 :: []))))), x < 20 := List.forall_mem_cons.mpr ⟨by decide, hR4⟩
  refine X.callN0 (As := [.inr (some 6), .inr (some 71)]) (rest := []) dX3_copyFrom_60 mk_X3_56 (c_copy (cpS M 66 1 (4 :: (3 :: (2 :: (1 :: [])))) (2 :: [])) (cpS M 66 1 (5 :: (4 :: (3 :: (2 :: (1 :: []))))) (2 :: [])) 6 71 10 sh_6 sh_71 (by decide) (cpS_row (d := 66) (s := 1) (i := 5) (by decide) (by decide) hR4)) rfl (by decide) rfl (Nat.le_of_ble_eq_true rfl) ?_
  refine X.aload_n dX3_copyFrom_63 rfl ?_
  refine X.aload_n dX3_copyFrom_64 rfl ?_
  refine X.getI (v := M 1 6) 6 dX3_copyFrom_65 fi_X3_31 sh_1 rfl (congrFun (cpS_src (d := 66) (s := 1) (i := 0) (by decide) (by decide) hR5) 6) ?_
  refine X.putI 6 6 rfl dX3_copyFrom_68 fi_X3_31 sh_66 rfl rfl ?_
  rw [show mset (cpS M 66 1 (5 :: (4 :: (3 :: (2 :: (1 :: []))))) (2 :: [])) 66 6 (M 1 6) = (cpS M 66 1 (5 :: (4 :: (3 :: (2 :: (1 :: []))))) (6 :: (2 :: []))) from cpS_fld (by decide)]
  refine X.aload_n dX3_copyFrom_71 rfl ?_
  refine X.getR dX3_copyFrom_72 fi_X3_34 sh_1 rfl ?_
  refine X.aload_n dX3_copyFrom_75 rfl ?_
  refine X.getR dX3_copyFrom_76 fi_X3_34 sh_66 rfl ?_
  have hR6 : ∀ x ∈ (6 :: (5 :: (4 :: (3 :: (2 :: (1 :: [])))))), x < 20 := List.forall_mem_cons.mpr ⟨by decide, hR5⟩
  refine X.callN0 (As := [.inr (some 7), .inr (some 72)]) (rest := []) dX3_copyFrom_79 mk_X3_56 (c_copy (cpS M 66 1 (5 :: (4 :: (3 :: (2 :: (1 :: []))))) (6 :: (2 :: []))) (cpS M 66 1 (6 :: (5 :: (4 :: (3 :: (2 :: (1 :: [])))))) (6 :: (2 :: []))) 7 72 6 sh_7 sh_72 (by decide) (cpS_row (d := 66) (s := 1) (i := 6) (by decide) (by decide) hR5)) rfl (by decide) rfl (Nat.le_of_ble_eq_true rfl) ?_
  refine X.aload_n dX3_copyFrom_82 rfl ?_
  refine X.getR dX3_copyFrom_83 fi_X3_37 sh_1 rfl ?_
  refine X.aload_n dX3_copyFrom_86 rfl ?_
  refine X.getR dX3_copyFrom_87 fi_X3_37 sh_66 rfl ?_
  have hR7 : ∀ x ∈ (7 :: (6 :: (5 :: (4 :: (3 :: (2 :: (1 :: []))))))), x < 20 := List.forall_mem_cons.mpr ⟨by decide, hR6⟩
  refine X.callN0 (As := [.inr (some 8), .inr (some 73)]) (rest := []) dX3_copyFrom_90 mk_X3_56 (c_copy (cpS M 66 1 (6 :: (5 :: (4 :: (3 :: (2 :: (1 :: [])))))) (6 :: (2 :: []))) (cpS M 66 1 (7 :: (6 :: (5 :: (4 :: (3 :: (2 :: (1 :: []))))))) (6 :: (2 :: []))) 8 73 6 sh_8 sh_73 (by decide) (cpS_row (d := 66) (s := 1) (i := 7) (by decide) (by decide) hR6)) rfl (by decide) rfl (Nat.le_of_ble_eq_true rfl) ?_
  refine X.aload_n dX3_copyFrom_93 rfl ?_
  refine X.getR dX3_copyFrom_94 fi_X3_40 sh_1 rfl ?_
  refine X.aload_n dX3_copyFrom_97 rfl ?_
  refine X.getR dX3_copyFrom_98 fi_X3_40 sh_66 rfl ?_
  have hR8 : ∀ x ∈ (8 :: (7 :: (6 :: (5 :: (4 :: (3 :: (2 :: (1 :: [])))))))), x < 20 := List.forall_mem_cons.mpr ⟨by decide, hR7⟩
  refine X.callN0 (As := [.inr (some 9), .inr (some 74)]) (rest := []) dX3_copyFrom_101 mk_X3_56 (c_copy (cpS M 66 1 (7 :: (6 :: (5 :: (4 :: (3 :: (2 :: (1 :: []))))))) (6 :: (2 :: []))) (cpS M 66 1 (8 :: (7 :: (6 :: (5 :: (4 :: (3 :: (2 :: (1 :: [])))))))) (6 :: (2 :: []))) 9 74 6 sh_9 sh_74 (by decide) (cpS_row (d := 66) (s := 1) (i := 8) (by decide) (by decide) hR7)) rfl (by decide) rfl (Nat.le_of_ble_eq_true rfl) ?_
  refine X.aload_n dX3_copyFrom_104 rfl ?_
  refine X.aload_n dX3_copyFrom_105 rfl ?_
  refine X.getI (v := M 1 10) 10 dX3_copyFrom_106 fi_X3_43 sh_1 rfl (congrFun (cpS_src (d := 66) (s := 1) (i := 0) (by decide) (by decide) hR8) 10) ?_
  refine X.putI 10 10 rfl dX3_copyFrom_109 fi_X3_43 sh_66 rfl rfl ?_
  rw [show mset (cpS M 66 1 (8 :: (7 :: (6 :: (5 :: (4 :: (3 :: (2 :: (1 :: [])))))))) (6 :: (2 :: []))) 66 10 (M 1 10) = (cpS M 66 1 (8 :: (7 :: (6 :: (5 :: (4 :: (3 :: (2 :: (1 :: [])))))))) (10 :: (6 :: (2 :: [])))) from cpS_fld (by decide)]
  refine X.aload_n dX3_copyFrom_112 rfl ?_
  refine X.aload_n dX3_copyFrom_113 rfl ?_
  refine X.getI (v := M 1 11) 11 dX3_copyFrom_114 fi_X3_46 sh_1 rfl (congrFun (cpS_src (d := 66) (s := 1) (i := 0) (by decide) (by decide) hR8) 11) ?_
  refine X.putI 11 11 rfl dX3_copyFrom_117 fi_X3_46 sh_66 rfl rfl ?_
  rw [show mset (cpS M 66 1 (8 :: (7 :: (6 :: (5 :: (4 :: (3 :: (2 :: (1 :: [])))))))) (10 :: (6 :: (2 :: [])))) 66 11 (M 1 11) = (cpS M 66 1 (8 :: (7 :: (6 :: (5 :: (4 :: (3 :: (2 :: (1 :: [])))))))) (11 :: (10 :: (6 :: (2 :: []))))) from cpS_fld (by decide)]
  refine X.iconst dX3_copyFrom_120 ?_
  refine X.istore_n (lv2 := [some (.inr (some 66)), some (.inr (some 1)), some (.inl 0)]) dX3_copyFrom_121 (Nat.le_of_ble_eq_true rfl) rfl ?_
  refine X.iload_n dX3_copyFrom_122 rfl ?_
  refine X.iconst dX3_copyFrom_123 ?_
  refine X.icmp_ge (tgt := 148) dX3_copyFrom_124 (by decide) (by decide) (by decide) (fun h => absurd h (by decide)) (fun h1 => ?_)
  refine X.aload_n dX3_copyFrom_127 rfl ?_
  refine X.getR dX3_copyFrom_128 fi_X3_52 sh_66 rfl ?_
  refine X.iload_n dX3_copyFrom_131 rfl ?_
  refine X.aald dX3_copyFrom_132 sh_75 (by decide) (by decide) (by decide) rfl ?_
  refine X.aload_n dX3_copyFrom_133 rfl ?_
  refine X.getR dX3_copyFrom_134 fi_X3_52 sh_1 rfl ?_
  refine X.iload_n dX3_copyFrom_137 rfl ?_
  refine X.aald dX3_copyFrom_138 sh_10 (by decide) (by decide) (by decide) rfl ?_
  have hR9 : ∀ x ∈ (14 :: (13 :: (12 :: (11 :: (8 :: (7 :: (6 :: (5 :: (4 :: (3 :: (2 :: (1 :: [])))))))))))), x < 20 := by intro x hx; simp only [List.mem_cons] at hx; rcases hx with h | h | h | h | hx <;> first | omega | exact hR8 x (List.mem_cons.mpr hx) | exact hR8 x (by simpa using hx)
  refine X.callV0 (As := [.inr (some 11)]) (rest := []) dX3_copyFrom_139 mk_X3_60 sh_76 (c_cpMem_66_1_0 M (8 :: (7 :: (6 :: (5 :: (4 :: (3 :: (2 :: (1 :: [])))))))) (11 :: (10 :: (6 :: (2 :: [])))) hR8) rfl (by decide) rfl (Nat.le_of_ble_eq_true rfl) ?_
  refine X.iinc (y := 1) (lv2 := [some (.inr (some 66)), some (.inr (some 1)), some (.inl 1)]) dX3_copyFrom_142 rfl rfl rfl ?_
  refine X.goto (tgt := 122) dX3_copyFrom_145 (by decide) ?_
  refine X.iload_n dX3_copyFrom_122 rfl ?_
  refine X.iconst dX3_copyFrom_123 ?_
  refine X.icmp_ge (tgt := 148) dX3_copyFrom_124 (by decide) (by decide) (by decide) (fun h => absurd h (by decide)) (fun h2 => ?_)
  refine X.aload_n dX3_copyFrom_127 rfl ?_
  refine X.getR dX3_copyFrom_128 fi_X3_52 sh_66 rfl ?_
  refine X.iload_n dX3_copyFrom_131 rfl ?_
  refine X.aald dX3_copyFrom_132 sh_75 (by decide) (by decide) (by decide) rfl ?_
  refine X.aload_n dX3_copyFrom_133 rfl ?_
  refine X.getR dX3_copyFrom_134 fi_X3_52 sh_1 rfl ?_
  refine X.iload_n dX3_copyFrom_137 rfl ?_
  refine X.aald dX3_copyFrom_138 sh_10 (by decide) (by decide) (by decide) rfl ?_
  have hR10 : ∀ x ∈ (19 :: (18 :: (17 :: (16 :: (14 :: (13 :: (12 :: (11 :: (8 :: (7 :: (6 :: (5 :: (4 :: (3 :: (2 :: (1 :: [])))))))))))))))), x < 20 := by intro x hx; simp only [List.mem_cons] at hx; rcases hx with h | h | h | h | hx <;> first | omega | exact hR9 x (List.mem_cons.mpr hx) | exact hR9 x (by simpa using hx)
  refine X.callV0 (As := [.inr (some 16)]) (rest := []) dX3_copyFrom_139 mk_X3_60 sh_81 (c_cpMem_66_1_1 M (14 :: (13 :: (12 :: (11 :: (8 :: (7 :: (6 :: (5 :: (4 :: (3 :: (2 :: (1 :: [])))))))))))) (11 :: (10 :: (6 :: (2 :: [])))) hR9) rfl (by decide) rfl (Nat.le_of_ble_eq_true rfl) ?_
  refine X.iinc (y := 2) (lv2 := [some (.inr (some 66)), some (.inr (some 1)), some (.inl 2)]) dX3_copyFrom_142 rfl rfl rfl ?_
  refine X.goto (tgt := 122) dX3_copyFrom_145 (by decide) ?_
  refine X.iload_n dX3_copyFrom_122 rfl ?_
  refine X.iconst dX3_copyFrom_123 ?_
  refine X.icmp_ge (tgt := 148) dX3_copyFrom_124 (by decide) (by decide) (by decide) (fun h3 => ?_) (fun h => absurd h (by decide))
  exact X.vret dX3_copyFrom_148 rfl rfl rfl
set_option maxHeartbeats 4000000 in
set_option maxRecDepth 100000 in
theorem c_cpMem_86_1_0 (M : Mem) (R : List Nat) (F : List Int) (hR0 : ∀ x ∈ R, x < 20) : CX mX1_copyFrom 3 [.inr (some 96), .inr (some 11)] (cpS M 86 1 R F) none (cpS M 86 1 (14 :: (13 :: (12 :: (11 :: R)))) F) := by
  refine CX.of (by decide +kernel) (Nat.le_of_ble_eq_true rfl) [some (.inr (some 96)), some (.inr (some 11))] rfl ?_
  refine X.aload_n dX1_copyFrom_0 rfl ?_
  refine X.getR dX1_copyFrom_1 fi_X1_9 sh_11 rfl ?_
  refine X.aload_n dX1_copyFrom_4 rfl ?_
  refine X.getR dX1_copyFrom_5 fi_X1_9 sh_96 rfl ?_
  have hR1 : ∀ x ∈ (11 :: R), x < 20 := List.forall_mem_cons.mpr ⟨by decide, hR0⟩
  refine X.callN0 (As := [.inr (some 12), .inr (some 97)]) (rest := []) dX1_copyFrom_8 mk_X1_24 (c_copy (cpS M 86 1 R F) (cpS M 86 1 (11 :: R) F) 12 97 120 sh_12 sh_97 (by decide) (cpS_row (d := 86) (s := 1) (i := 11) (by decide) (by decide) hR0)) rfl (by decide) rfl (Nat.le_of_ble_eq_true rfl) ?_
  refine X.aload_n dX1_copyFrom_11 rfl ?_
  refine X.getR dX1_copyFrom_12 fi_X1_15 sh_11 rfl ?_
  refine X.aload_n dX1_copyFrom_15 rfl ?_
  refine X.getR dX1_copyFrom_16 fi_X1_15 sh_96 rfl ?_
  have hR2 : ∀ x ∈ (12 :: (11 :: R)), x < 20 := List.forall_mem_cons.mpr ⟨by decide, hR1⟩
  refine X.callN0 (As := [.inr (some 13), .inr (some 98)]) (rest := []) dX1_copyFrom_19 mk_X1_24 (c_copy (cpS M 86 1 (11 :: R) F) (cpS M 86 1 (12 :: (11 :: R)) F) 13 98 120 sh_13 sh_98 (by decide) (cpS_row (d := 86) (s := 1) (i := 12) (by decide) (by decide) hR1)) rfl (by decide) rfl (Nat.le_of_ble_eq_true rfl) ?_
  refine X.aload_n dX1_copyFrom_22 rfl ?_
  refine X.getR dX1_copyFrom_23 fi_X1_18 sh_11 rfl ?_
  refine X.aload_n dX1_copyFrom_26 rfl ?_
  refine X.getR dX1_copyFrom_27 fi_X1_18 sh_96 rfl ?_
  have hR3 : ∀ x ∈ (13 :: (12 :: (11 :: R))), x < 20 := List.forall_mem_cons.mpr ⟨by decide, hR2⟩
  refine X.callN0 (As := [.inr (some 14), .inr (some 99)]) (rest := []) dX1_copyFrom_30 mk_X1_24 (c_copy (cpS M 86 1 (12 :: (11 :: R)) F) (cpS M 86 1 (13 :: (12 :: (11 :: R))) F) 14 99 120 sh_14 sh_99 (by decide) (cpS_row (d := 86) (s := 1) (i := 13) (by decide) (by decide) hR2)) rfl (by decide) rfl (Nat.le_of_ble_eq_true rfl) ?_
  refine X.aload_n dX1_copyFrom_33 rfl ?_
  refine X.getR dX1_copyFrom_34 fi_X1_21 sh_11 rfl ?_
  refine X.aload_n dX1_copyFrom_37 rfl ?_
  refine X.getR dX1_copyFrom_38 fi_X1_21 sh_96 rfl ?_
  have hR4 : ∀ x ∈ (14 :: (13 :: (12 :: (11 :: R)))), x < 20 := List.forall_mem_cons.mpr ⟨by decide, hR3⟩
  refine X.callN0 (As := [.inr (some 15), .inr (some 100)]) (rest := []) dX1_copyFrom_41 mk_X1_24 (c_copy (cpS M 86 1 (13 :: (12 :: (11 :: R))) F) (cpS M 86 1 (14 :: (13 :: (12 :: (11 :: R)))) F) 15 100 120 sh_15 sh_100 (by decide) (cpS_row (d := 86) (s := 1) (i := 14) (by decide) (by decide) hR3)) rfl (by decide) rfl (Nat.le_of_ble_eq_true rfl) ?_
  exact X.vret dX1_copyFrom_44 rfl rfl rfl
set_option maxHeartbeats 4000000 in
set_option maxRecDepth 100000 in
theorem c_cpMem_86_1_1 (M : Mem) (R : List Nat) (F : List Int) (hR0 : ∀ x ∈ R, x < 20) : CX mX1_copyFrom 3 [.inr (some 101), .inr (some 16)] (cpS M 86 1 R F) none (cpS M 86 1 (19 :: (18 :: (17 :: (16 :: R)))) F) := by
  refine CX.of (by decide +kernel) (Nat.le_of_ble_eq_true rfl) [some (.inr (some 101)), some (.inr (some 16))] rfl ?_
  refine X.aload_n dX1_copyFrom_0 rfl ?_
  refine X.getR dX1_copyFrom_1 fi_X1_9 sh_16 rfl ?_
  refine X.aload_n dX1_copyFrom_4 rfl ?_
  refine X.getR dX1_copyFrom_5 fi_X1_9 sh_101 rfl ?_
  have hR1 : ∀ x ∈ (16 :: R), x < 20 := List.forall_mem_cons.mpr ⟨by decide, hR0⟩
  refine X.callN0 (As := [.inr (some 17), .inr (some 102)]) (rest := []) dX1_copyFrom_8 mk_X1_24 (c_copy (cpS M 86 1 R F) (cpS M 86 1 (16 :: R) F) 17 102 120 sh_17 sh_102 (by decide) (cpS_row (d := 86) (s := 1) (i := 16) (by decide) (by decide) hR0)) rfl (by decide) rfl (Nat.le_of_ble_eq_true rfl) ?_
  refine X.aload_n dX1_copyFrom_11 rfl ?_
  refine X.getR dX1_copyFrom_12 fi_X1_15 sh_16 rfl ?_
  refine X.aload_n dX1_copyFrom_15 rfl ?_
  refine X.getR dX1_copyFrom_16 fi_X1_15 sh_101 rfl ?_
  have hR2 : ∀ x ∈ (17 :: (16 :: R)), x < 20 := List.forall_mem_cons.mpr ⟨by decide, hR1⟩
  refine X.callN0 (As := [.inr (some 18), .inr (some 103)]) (rest := []) dX1_copyFrom_19 mk_X1_24 (c_copy (cpS M 86 1 (16 :: R) F) (cpS M 86 1 (17 :: (16 :: R)) F) 18 103 120 sh_18 sh_103 (by decide) (cpS_row (d := 86) (s := 1) (i := 17) (by decide) (by decide) hR1)) rfl (by decide) rfl (Nat.le_of_ble_eq_true rfl) ?_
  refine X.aload_n dX1_copyFrom_22 rfl ?_
  refine X.getR dX1_copyFrom_23 fi_X1_18 sh_16 rfl ?_
  refine X.aload_n dX1_copyFrom_26 rfl ?_
  refine X.getR dX1_copyFrom_27 fi_X1_18 sh_101 rfl ?_
  have hR3 : ∀ x ∈ (18 :: (17 :: (16 :: R))), x < 20 := List.forall_mem_cons.mpr ⟨by decide, hR2⟩
  refine X.callN0 (As := [.inr (some 19), .inr (some 104)]) (rest := []) dX1_copyFrom_30 mk_X1_24 (c_copy (cpS M 86 1 (17 :: (16 :: R)) F) (cpS M 86 1 (18 :: (17 :: (16 :: R))) F) 19 104 120 sh_19 sh_104 (by decide) (cpS_row (d := 86) (s := 1) (i := 18) (by decide) (by decide) hR2)) rfl (by decide) rfl (Nat.le_of_ble_eq_true rfl) ?_
  refine X.aload_n dX1_copyFrom_33 rfl ?_
  refine X.getR dX1_copyFrom_34 fi_X1_21 sh_16 rfl ?_
  refine X.aload_n dX1_copyFrom_37 rfl ?_
  refine X.getR dX1_copyFrom_38 fi_X1_21 sh_101 rfl ?_
  have hR4 : ∀ x ∈ (19 :: (18 :: (17 :: (16 :: R)))), x < 20 := List.forall_mem_cons.mpr ⟨by decide, hR3⟩
  refine X.callN0 (As := [.inr (some 20), .inr (some 105)]) (rest := []) dX1_copyFrom_41 mk_X1_24 (c_copy (cpS M 86 1 (18 :: (17 :: (16 :: R))) F) (cpS M 86 1 (19 :: (18 :: (17 :: (16 :: R)))) F) 20 105 120 sh_20 sh_105 (by decide) (cpS_row (d := 86) (s := 1) (i := 19) (by decide) (by decide) hR3)) rfl (by decide) rfl (Nat.le_of_ble_eq_true rfl) ?_
  exact X.vret dX1_copyFrom_44 rfl rfl rfl
set_option maxHeartbeats 4000000 in
set_option maxRecDepth 100000 in
theorem c_copyFrom_86_1 (M : Mem) : CX mX3_copyFrom 4 [.inr (some 86), .inr (some 1)] (cpS M 86 1 [] []) none (cpS M 86 1 fullR fullF) := by
  have hR0 : ∀ x ∈ ([] : List Nat), x < 20 := fun x hx => by cases hx
  refine CX.of (by decide +kernel) (Nat.le_of_ble_eq_true rfl) [some (.inr (some 86)), some (.inr (some 1)), none] rfl ?_
  refine X.aload_n dX3_copyFrom_0 rfl ?_
  refine X.getR dX3_copyFrom_1 fi_X3_9 sh_1 rfl ?_
  refine X.aload_n dX3_copyFrom_4 rfl ?_
  refine X.getR dX3_copyFrom_5 fi_X3_9 sh_86 rfl ?_
  have hR1 : ∀ x ∈ (1 :: []), x < 20 := List.forall_mem_cons.mpr ⟨by decide, hR0⟩
  refine X.callN0 (As := [.inr (some 2), .inr (some 87)]) (rest := []) dX3_copyFrom_8 mk_X3_56 (c_copy (cpS M 86 1 [] []) (cpS M 86 1 (1 :: []) []) 2 87 120 sh_2 sh_87 (by decide) (cpS_row (d := 86) (s := 1) (i := 1) (by decide) (by decide) hR0)) rfl (by decide) rfl (Nat.le_of_ble_eq_true rfl) ?_
  refine X.aload_n dX3_copyFrom_11 rfl ?_
  refine X.getR dX3_copyFrom_12 fi_X3_15 sh_1 rfl ?_
  refine X.aload_n dX3_copyFrom_15 rfl ?_
  refine X.getR dX3_copyFrom_16 fi_X3_15 sh_86 rfl ?_
  have hR2 : ∀ x ∈ (2 :: (1 :: [])), x < 20 := List.forall_mem_cons.mpr ⟨by decide, hR1⟩
  refine X.callN0 (As := [.inr (some 3), .inr (some 88)]) (rest := []) dX3_copyFrom_19 mk_X3_56 (c_copy (cpS M 86 1 (1 :: []) []) (cpS M 86 1 (2 :: (1 :: [])) []) 3 88 120 sh_3 sh_88 (by decide) (cpS_row (d := 86) (s := 1) (i := 2) (by decide) (by decide) hR1)) rfl (by decide) rfl (Nat.le_of_ble_eq_true rfl) ?_
  refine X.aload_n dX3_copyFrom_22 rfl ?_
  refine X.aload_n dX3_copyFrom_23 rfl ?_
  refine X.getI (v := M 1 2) 2 dX3_copyFrom_24 fi_X3_18 sh_1 rfl (congrFun (cpS_src (d := 86) (s := 1) (i := 0) (by decide) (by decide) hR2) 2) ?_
  refine X.putI 2 2 rfl dX3_copyFrom_27 fi_X3_18 sh_86 rfl rfl ?_
  rw [show mset (cpS M 86 1 (2 :: (1 :: [])) []) 86 2 (M 1 2) = (cpS M 86 1 (2 :: (1 :: [])) (2 :: [])) from cpS_fld (by decide)]
  refine X.aload_n dX3_copyFrom_30 rfl ?_
  refine X.getR dX3_copyFrom_31 fi_X3_22 sh_1 rfl ?_
  refine X.aload_n dX3_copyFrom_34 rfl ?_
  refine X.getR dX3_copyFrom_35 fi_X3_22 sh_86 rfl ?_
  have hR3 : ∀ x ∈ (3 :: (2 :: (1 :: []))), x < 20 := List.forall_mem_cons.mpr ⟨by decide, hR2⟩
  refine X.callN0 (As := [.inr (some 4), .inr (some 89)]) (rest := []) dX3_copyFrom_38 mk_X3_56 (c_copy (cpS M 86 1 (2 :: (1 :: [])) (2 :: [])) (cpS M 86 1 (3 :: (2 :: (1 :: []))) (2 :: [])) 4 89 10 sh_4 sh_89 (by decide) (cpS_row (d := 86) (s := 1) (i := 3) (by decide) (by decide) hR2)) rfl (by decide) rfl (Nat.le_of_ble_eq_true rfl) ?_
  refine X.aload_n dX3_copyFrom_41 rfl ?_
  refine X.getR dX3_copyFrom_42 fi_X3_25 sh_1 rfl ?_
  refine X.aload_n dX3_copyFrom_45 rfl ?_
  refine X.getR dX3_copyFrom_46 fi_X3_25 sh_86 rfl ?_
  have hR4 : ∀ x ∈ (4 :: (3 :: (2 :: (1 :: [])))), x < 20 := List.forall_mem_cons.mpr ⟨by decide, hR3⟩
  refine X.callN0 (As := [.inr (some 5), .inr (some 90)]) (rest := []) dX3_copyFrom_49 mk_X3_56 (c_copy (cpS M 86 1 (3 :: (2 :: (1 :: []))) (2 :: [])) (cpS M 86 1 (4 :: (3 :: (2 :: (1 :: [])))) (2 :: [])) 5 90 10 sh_5 sh_90 (by decide) (cpS_row (d := 86) (s := 1) (i := 4) (by decide) (by decide) hR3)) rfl (by decide) rfl (Nat.le_of_ble_eq_true rfl) ?_
  refine X.aload_n dX3_copyFrom_52 rfl ?_
  refine X.getR dX3_copyFrom_53 fi_X3_28 sh_1 rfl ?_
  refine X.aload_n dX3_copyFrom_56 rfl ?_
  refine X.getR dX3_copyFrom_57 fi_X3_28 sh_86 rfl ?_
  have hR5 : ∀ x ∈ (5 :: (4 :: (3 :: (2 :: (1 :: []))))), x < 20 := List.forall_mem_cons.mpr ⟨by decide, hR4⟩
  refine X.callN0 (As := [.inr (some 6), .inr (some 91)]) (rest := []) dX3_copyFrom_60 mk_X3_56 (c_copy (cpS M 86 1 (4 :: (3 :: (2 :: (1 :: [])))) (2 :: [])) (cpS M 86 1 (5 :: (4 :: (3 :: (2 :: (1 :: []))))) (2 :: [])) 6 91 10 sh_6 sh_91 (by decide) (cpS_row (d := 86) (s := 1) (i := 5) (by decide) (by decide) hR4)) rfl (by decide) rfl (Nat.le_of_ble_eq_true rfl) ?_
  refine X.aload_n dX3_copyFrom_63 rfl ?_
  refine X.aload_n dX3_copyFrom_64 rfl ?_
  refine X.getI (v := M 1 6) 6 dX3_copyFrom_65 fi_X3_31 sh_1 rfl (congrFun (cpS_src (d := 86) (s := 1) (i := 0) (by decide) (by decide) hR5) 6) ?_
  refine X.putI 6 6 rfl dX3_copyFrom_68 fi_X3_31 sh_86 rfl rfl ?_
  rw [show mset (cpS M 86 1 (5 :: (4 :: (3 :: (2 :: (1 :: []))))) (2 :: [])) 86 6 (M 1 6) = (cpS M 86 1 (5 :: (4 :: (3 :: (2 :: (1 :: []))))) (6 :: (2 :: []))) from cpS_fld (by decide)]
  refine X.aload_n dX3_copyFrom_71 rfl ?_
  refine X.getR dX3_copyFrom_72 fi_X3_34 sh_1 rfl ?_
  refine X.aload_n dX3_copyFrom_75 rfl ?_
  refine X.getR dX3_copyFrom_76 fi_X3_34 sh_86 rfl ?_
  have hR6 : ∀ x ∈ (6 :: (5 :: (4 :: (3 :: (2 :: (1 :: [])))))), x < 20 := List.forall_mem_cons.mpr ⟨by decide, hR5⟩
  refine X.callN0 (As := [.inr (some 7), .inr (some 92)]) (rest := []) dX3_copyFrom_79 mk_X3_56 (c_copy (cpS M 86 1 (5 :: (4 :: (3 :: (2 :: (1 :: []))))) (6 :: (2 :: []))) (cpS M 86 1 (6 :: (5 :: (4 :: (3 :: (2 :: (1 :: [])))))) (6 :: (2 :: []))) 7 92 6 sh_7 sh_92 (by decide) (cpS_row (d := 86) (s := 1) (i := 6) (by decide) (by decide) hR5)) rfl (by decide) rfl (Nat.le_of_ble_eq_true rfl) ?_
  refine X.aload_n dX3_copyFrom_82 rfl ?_
  refine X.getR dX3_copyFrom_83 fi_X3_37 sh_1 rfl ?_
  refine X.aload_n dX3_copyFrom_86 rfl ?_
  refine X.getR dX3_copyFrom_87 fi_X3_37 sh_86 rfl ?_
  have hR7 : ∀ x ∈ (7 :: (6 :: (5 :: (4 :: (3 :: (2 :: (1 :: []))))))), x < 20 := List.forall_mem_cons.mpr ⟨by decide, hR6⟩
  refine X.callN0 (As := [.inr (some 8), .inr (some 93)]) (rest := []) dX3_copyFrom_90 mk_X3_56 (c_copy (cpS M 86 1 (6 :: (5 :: (4 :: (3 :: (2 :: (1 :: [])))))) (6 :: (2 :: []))) (cpS M 86 1 (7 :: (6 :: (5 :: (4 :: (3 :: (2 :: (1 :: []))))))) (6 :: (2 :: []))) 8 93 6 sh_8 sh_93 (by decide) (cpS_row (d := 86) (s := 1) (i := 7) (by decide) (by decide) hR6)) rfl (by decide) rfl (Nat.le_of_ble_eq_true rfl) ?_
  refine X.aload_n dX3_copyFrom_93 rfl ?_
  refine X.getR dX3_copyFrom_94 fi_X3_40 sh_1 rfl ?_
  refine X.aload_n dX3_copyFrom_97 rfl ?_
  refine X.getR dX3_copyFrom_98 fi_X3_40 sh_86 rfl ?_
  have hR8 : ∀ x ∈ (8 :: (7 :: (6 :: (5 :: (4 :: (3 :: (2 :: (1 :: [])))))))), x < 20 := List.forall_mem_cons.mpr ⟨by decide, hR7⟩
  refine X.callN0 (As := [.inr (some 9), .inr (some 94)]) (rest := []) dX3_copyFrom_101 mk_X3_56 (c_copy (cpS M 86 1 (7 :: (6 :: (5 :: (4 :: (3 :: (2 :: (1 :: []))))))) (6 :: (2 :: []))) (cpS M 86 1 (8 :: (7 :: (6 :: (5 :: (4 :: (3 :: (2 :: (1 :: [])))))))) (6 :: (2 :: []))) 9 94 6 sh_9 sh_94 (by decide) (cpS_row (d := 86) (s := 1) (i := 8) (by decide) (by decide) hR7)) rfl (by decide) rfl (Nat.le_of_ble_eq_true rfl) ?_
  refine X.aload_n dX3_copyFrom_104 rfl ?_
  refine X.aload_n dX3_copyFrom_105 rfl ?_
  refine X.getI (v := M 1 10) 10 dX3_copyFrom_106 fi_X3_43 sh_1 rfl (congrFun (cpS_src (d := 86) (s := 1) (i := 0) (by decide) (by decide) hR8) 10) ?_
  refine X.putI 10 10 rfl dX3_copyFrom_109 fi_X3_43 sh_86 rfl rfl ?_
  rw [show mset (cpS M 86 1 (8 :: (7 :: (6 :: (5 :: (4 :: (3 :: (2 :: (1 :: [])))))))) (6 :: (2 :: []))) 86 10 (M 1 10) = (cpS M 86 1 (8 :: (7 :: (6 :: (5 :: (4 :: (3 :: (2 :: (1 :: [])))))))) (10 :: (6 :: (2 :: [])))) from cpS_fld (by decide)]
  refine X.aload_n dX3_copyFrom_112 rfl ?_
  refine X.aload_n dX3_copyFrom_113 rfl ?_
  refine X.getI (v := M 1 11) 11 dX3_copyFrom_114 fi_X3_46 sh_1 rfl (congrFun (cpS_src (d := 86) (s := 1) (i := 0) (by decide) (by decide) hR8) 11) ?_
  refine X.putI 11 11 rfl dX3_copyFrom_117 fi_X3_46 sh_86 rfl rfl ?_
  rw [show mset (cpS M 86 1 (8 :: (7 :: (6 :: (5 :: (4 :: (3 :: (2 :: (1 :: [])))))))) (10 :: (6 :: (2 :: [])))) 86 11 (M 1 11) = (cpS M 86 1 (8 :: (7 :: (6 :: (5 :: (4 :: (3 :: (2 :: (1 :: [])))))))) (11 :: (10 :: (6 :: (2 :: []))))) from cpS_fld (by decide)]
  refine X.iconst dX3_copyFrom_120 ?_
  refine X.istore_n (lv2 := [some (.inr (some 86)), some (.inr (some 1)), some (.inl 0)]) dX3_copyFrom_121 (Nat.le_of_ble_eq_true rfl) rfl ?_
  refine X.iload_n dX3_copyFrom_122 rfl ?_
  refine X.iconst dX3_copyFrom_123 ?_
  refine X.icmp_ge (tgt := 148) dX3_copyFrom_124 (by decide) (by decide) (by decide) (fun h => absurd h (by decide)) (fun h1 => ?_)
  refine X.aload_n dX3_copyFrom_127 rfl ?_
  refine X.getR dX3_copyFrom_128 fi_X3_52 sh_86 rfl ?_
  refine X.iload_n dX3_copyFrom_131 rfl ?_
  refine X.aald dX3_copyFrom_132 sh_95 (by decide) (by decide) (by decide) rfl ?_
  refine X.aload_n dX3_copyFrom_133 rfl ?_
  refine X.getR dX3_copyFrom_134 fi_X3_52 sh_1 rfl ?_
  refine X.iload_n dX3_copyFrom_137 rfl ?_
  refine X.aald dX3_copyFrom_138 sh_10 (by decide) (by decide) (by decide) rfl ?_
  have hR9 : ∀ x ∈ (14 :: (13 :: (12 :: (11 :: (8 :: (7 :: (6 :: (5 :: (4 :: (3 :: (2 :: (1 :: [])))))))))))), x < 20 := by intro x hx; simp only [List.mem_cons] at hx; rcases hx with h | h | h | h | hx <;> first | omega | exact hR8 x (List.mem_cons.mpr hx) | exact hR8 x (by simpa using hx)
  refine X.callV0 (As := [.inr (some 11)]) (rest := []) dX3_copyFrom_139 mk_X3_60 sh_96 (c_cpMem_86_1_0 M (8 :: (7 :: (6 :: (5 :: (4 :: (3 :: (2 :: (1 :: [])))))))) (11 :: (10 :: (6 :: (2 :: [])))) hR8) rfl (by decide) rfl (Nat.le_of_ble_eq_true rfl) ?_
  refine X.iinc (y := 1) (lv2 := [some (.inr (some 86)), some (.inr (some 1)), some (.inl 1)]) dX3_copyFrom_142 rfl rfl rfl ?_
  refine X.goto (tgt := 122) dX3_copyFrom_145 (by decide) ?_
  refine X.iload_n dX3_copyFrom_122 rfl ?_
  refine X.iconst dX3_copyFrom_123 ?_
  refine X.icmp_ge (tgt := 148) dX3_copyFrom_124 (by decide) (by decide) (by decide) (fun h => absurd h (by decide)) (fun h2 => ?_)
  refine X.aload_n dX3_copyFrom_127 rfl ?_
  refine X.getR dX3_copyFrom_128 fi_X3_52 sh_86 rfl ?_
  refine X.iload_n dX3_copyFrom_131 rfl ?_
  refine X.aald dX3_copyFrom_132 sh_95 (by decide) (by decide) (by decide) rfl ?_
  refine X.aload_n dX3_copyFrom_133 rfl ?_
  refine X.getR dX3_copyFrom_134 fi_X3_52 sh_1 rfl ?_
  refine X.iload_n dX3_copyFrom_137 rfl ?_
  refine X.aald dX3_copyFrom_138 sh_10 (by decide) (by decide) (by decide) rfl ?_
  have hR10 : ∀ x ∈ (19 :: (18 :: (17 :: (16 :: (14 :: (13 :: (12 :: (11 :: (8 :: (7 :: (6 :: (5 :: (4 :: (3 :: (2 :: (1 :: [])))))))))))))))), x < 20 := by intro x hx; simp only [List.mem_cons] at hx; rcases hx with h | h | h | h | hx <;> first | omega | exact hR9 x (List.mem_cons.mpr hx) | exact hR9 x (by simpa using hx)
  refine X.callV0 (As := [.inr (some 16)]) (rest := []) dX3_copyFrom_139 mk_X3_60 sh_101 (c_cpMem_86_1_1 M (14 :: (13 :: (12 :: (11 :: (8 :: (7 :: (6 :: (5 :: (4 :: (3 :: (2 :: (1 :: [])))))))))))) (11 :: (10 :: (6 :: (2 :: [])))) hR9) rfl (by decide) rfl (Nat.le_of_ble_eq_true rfl) ?_
  refine X.iinc (y := 2) (lv2 := [some (.inr (some 86)), some (.inr (some 1)), some (.inl 2)]) dX3_copyFrom_142 rfl rfl rfl ?_
  refine X.goto (tgt := 122) dX3_copyFrom_145 (by decide) ?_
  refine X.iload_n dX3_copyFrom_122 rfl ?_
  refine X.iconst dX3_copyFrom_123 ?_
  refine X.icmp_ge (tgt := 148) dX3_copyFrom_124 (by decide) (by decide) (by decide) (fun h3 => ?_) (fun h => absurd h (by decide))
  exact X.vret dX3_copyFrom_148 rfl rfl rfl
set_option maxHeartbeats 4000000 in
set_option maxRecDepth 100000 in
theorem c_cpMem_106_1_0 (M : Mem) (R : List Nat) (F : List Int) (hR0 : ∀ x ∈ R, x < 20) : CX mX1_copyFrom 3 [.inr (some 116), .inr (some 11)] (cpS M 106 1 R F) none (cpS M 106 1 (14 :: (13 :: (12 :: (11 :: R)))) F) := by
  refine CX.of (by decide +kernel) (Nat.le_of_ble_eq_true rfl) [some (.inr (some 116)), some (.inr (some 11))] rfl ?_
  refine X.aload_n dX1_copyFrom_0 rfl ?_
  refine X.getR dX1_copyFrom_1 fi_X1_9 sh_11 rfl ?_
  refine X.aload_n dX1_copyFrom_4 rfl ?_
  refine X.getR dX1_copyFrom_5 fi_X1_9 sh_116 rfl ?_
  have hR1 : ∀ x ∈ (11 :: R), x < 20 := List.forall_mem_cons.mpr ⟨by decide, hR0⟩
  refine X.callN0 (As := [.inr (some 12), .inr (some 117)]) (rest := []) dX1_copyFrom_8 mk_X1_24 (c_copy (cpS M 106 1 R F) (cpS M 106 1 (11 :: R) F) 12 117 120 sh_12 sh_117 (by decide) (cpS_row (d := 106) (s := 1) (i := 11) (by decide) (by decide) hR0)) rfl (by decide) rfl (Nat.le_of_ble_eq_true rfl) ?_
  refine X.aload_n dX1_copyFrom_11 rfl ?_
  refine X.getR dX1_copyFrom_12 fi_X1_15 sh_11 rfl ?_
  refine X.aload_n dX1_copyFrom_15 rfl ?_
  refine X.getR dX1_copyFrom_16 fi_X1_15 sh_116 rfl ?_
  have hR2 : ∀ x ∈ (12 :: (11 :: R)), x < 20 := List.forall_mem_cons.mpr ⟨by decide, hR1⟩
  refine X.callN0 (As := [.inr (some 13), .inr (some 118)]) (rest := []) dX1_copyFrom_19 mk_X1_24 (c_copy (cpS M 106 1 (11 :: R) F) (cpS M 106 1 (12 :: (11 :: R)) F) 13 118 120 sh_13 sh_118 (by decide) (cpS_row (d := 106) (s := 1) (i := 12) (by decide) (by decide) hR1)) rfl (by decide) rfl (Nat.le_of_ble_eq_true rfl) ?_
  refine X.aload_n dX1_copyFrom_22 rfl ?_
  refine X.getR dX1_copyFrom_23 fi_X1_18 sh_11 rfl ?_
  refine X.aload_n dX1_copyFrom_26 rfl ?_
  refine X.getR dX1_copyFrom_27 fi_X1_18 sh_116 rfl ?_
  have hR3 : ∀ x ∈ (13 :: (12 :: (11 :: R))), x < 20 := List.forall_mem_cons.mpr ⟨by decide, hR2⟩
  refine X.callN0 (As := [.inr (some 14), .inr (some 119)]) (rest := []) dX1_copyFrom_30 mk_X1_24 (c_copy (cpS M 106 1 (12 :: (11 :: R)) F) (cpS M 106 1 (13 :: (12 :: (11 :: R))) F) 14 119 120 sh_14 sh_119 (by decide) (cpS_row (d := 106) (s := 1) (i := 13) (by decide) (by decide) hR2)) rfl (by decide) rfl (Nat.le_of_ble_eq_true rfl) ?_
  refine X.aload_n dX1_copyFrom_33 rfl ?_
  refine X.getR dX1_copyFrom_34 fi_X1_21 sh_11 rfl ?_
  refine X.aload_n dX1_copyFrom_37 rfl ?_
  refine X.getR dX1_copyFrom_38 fi_X1_21 sh_116 rfl ?_
  have hR4 : ∀ x ∈ (14 :: (13 :: (12 :: (11 :: R)))), x < 20 := List.forall_mem_cons.mpr ⟨by decide, hR3⟩
  refine X.callN0 (As := [.inr (some 15), .inr (some 120)]) (rest := []) dX1_copyFrom_41 mk_X1_24 (c_copy (cpS M 106 1 (13 :: (12 :: (11 :: R))) F) (cpS M 106 1 (14 :: (13 :: (12 :: (11 :: R)))) F) 15 120 120 sh_15 sh_120 (by decide) (cpS_row (d := 106) (s := 1) (i := 14) (by decide) (by decide) hR3)) rfl (by decide) rfl (Nat.le_of_ble_eq_true rfl) ?_
  exact X.vret dX1_copyFrom_44 rfl rfl rfl
set_option maxHeartbeats 4000000 in
set_option maxRecDepth 100000 in
theorem c_cpMem_106_1_1 (M : Mem) (R : List Nat) (F : List Int) (hR0 : ∀ x ∈ R, x < 20) : CX mX1_copyFrom 3 [.inr (some 121), .inr (some 16)] (cpS M 106 1 R F) none (cpS M 106 1 (19 :: (18 :: (17 :: (16 :: R)))) F) := by
  refine CX.of (by decide +kernel) (Nat.le_of_ble_eq_true rfl) [some (.inr (some 121)), some (.inr (some 16))] rfl ?_
  refine X.aload_n dX1_copyFrom_0 rfl ?_
  refine X.getR dX1_copyFrom_1 fi_X1_9 sh_16 rfl ?_
  refine X.aload_n dX1_copyFrom_4 rfl ?_
  refine X.getR dX1_copyFrom_5 fi_X1_9 sh_121 rfl ?_
  have hR1 : ∀ x ∈ (16 :: R), x < 20 := List.forall_mem_cons.mpr ⟨by decide, hR0⟩
  refine X.callN0 (As := [.inr (some 17), .inr (some 122)]) (rest := []) dX1_copyFrom_8 mk_X1_24 (c_copy (cpS M 106 1 R F) (cpS M 106 1 (16 :: R) F) 17 122 120 sh_17 sh_122 (by decide) (cpS_row (d := 106) (s := 1) (i := 16) (by decide) (by decide) hR0)) rfl (by decide) rfl (Nat.le_of_ble_eq_true rfl) ?_
  refine X.aload_n dX1_copyFrom_11 rfl ?_
  refine X.getR dX1_copyFrom_12 fi_X1_15 sh_16 rfl ?_
  refine X.aload_n dX1_copyFrom_15 rfl ?_
  refine X.getR dX1_copyFrom_16 fi_X1_15 sh_121 rfl ?_
  have hR2 : ∀ x ∈ (17 :: (16 :: R)), x < 20 := List.forall_mem_cons.mpr ⟨by decide, hR1⟩
  refine X.callN0 (As := [.inr (some 18), .inr (some 123)]) (rest := []) dX1_copyFrom_19 mk_X1_24 (c_copy (cpS M 106 1 (16 :: R) F) (cpS M 106 1 (17 :: (16 :: R)) F) 18 123 120 sh_18 sh_123 (by decide) (cpS_row (d := 106) (s := 1) (i := 17) (by decide) (by decide) hR1)) rfl (by decide) rfl (Nat.le_of_ble_eq_true rfl) ?_
  refine X.aload_n dX1_copyFrom_22 rfl ?_
  refine X.getR dX1_copyFrom_23 fi_X1_18 sh_16 rfl ?_
  refine X.aload_n dX1_copyFrom_26 rfl ?_
  refine X.getR dX1_copyFrom_27 fi_X1_18 sh_121 rfl ?_
  have hR3 : ∀ x ∈ (18 :: (17 :: (16 :: R))), x < 20 := List.forall_mem_cons.mpr ⟨by decide, hR2⟩
  refine X.callN0 (As := [.inr (some 19), .inr (some 124)]) (rest := []) dX1_copyFrom_30 mk_X1_24 (c_copy (cpS M 106 1 (17 :: (16 :: R)) F) (cpS M 106 1 (18 :: (17 :: (16 :: R))) F) 19 124 120 sh_19 sh_124 (by decide) (cpS_row (d := 106) (s := 1) (i := 18) (by decide) (by decide) hR2)) rfl (by decide) rfl (Nat.le_of_ble_eq_true rfl) ?_
  refine X.aload_n dX1_copyFrom_33 rfl ?_
  refine X.getR dX1_copyFrom_34 fi_X1_21 sh_16 rfl ?_
  refine X.aload_n dX1_copyFrom_37 rfl ?_
  refine X.getR dX1_copyFrom_38 fi_X1_21 sh_121 rfl ?_
  have hR4 : ∀ x ∈ (19 :: (18 :: (17 :: (16 :: R)))), x < 20 := List.forall_mem_cons.mpr ⟨by decide, hR3⟩
  refine X.callN0 (As := [.inr (some 20), .inr (some 125)]) (rest := []) dX1_copyFrom_41 mk_X1_24 (c_copy (cpS M 106 1 (18 :: (17 :: (16 :: R))) F) (cpS M 106 1 (19 :: (18 :: (17 :: (16 :: R)))) F) 20 125 120 sh_20 sh_125 (by decide) (cpS_row (d := 106) (s := 1) (i := 19) (by decide) (by decide) hR3)) rfl (by decide) rfl (Nat.le_of_ble_eq_true rfl) ?_
  exact X.vret dX1_copyFrom_44 rfl rfl rfl
set_option maxHeartbeats 4000000 in
set_option maxRecDepth 100000 in
theorem c_copyFrom_106_1 (M : Mem) : CX mX3_copyFrom 4 [.inr (some 106), .inr (some 1)] (cpS M 106 1 [] []) none (cpS M 106 1 fullR fullF) := by
  have hR0 : ∀ x ∈ ([] : List Nat), x < 20 := fun x hx => by cases hx
  refine CX.of (by decide +kernel) (Nat.le_of_ble_eq_true rfl) [some (.inr (some 106)), some (.inr (some 1)), none] rfl ?_
  refine X.aload_n dX3_copyFrom_0 rfl ?_
  refine X.getR dX3_copyFrom_1 fi_X3_9 sh_1 rfl ?_
  refine X.aload_n dX3_copyFrom_4 rfl ?_
  refine X.getR dX3_copyFrom_5 fi_X3_9 sh_106 rfl ?_
  have hR1 : ∀ x ∈ (1 :: []), x < 20 := List.forall_mem_cons.mpr ⟨by decide, hR0⟩
  refine X.callN0 (As := [.inr (some 2), .inr (some 107)]) (rest := []) dX3_copyFrom_8 mk_X3_56 (c_copy (cpS M 106 1 [] []) (cpS M 106 1 (1 :: []) []) 2 107 120 sh_2 sh_107 (by decide) (cpS_row (d := 106) (s := 1) (i := 1) (by decide) (by decide) hR0)) rfl (by decide) rfl (Nat.le_of_ble_eq_true rfl) ?_
  refine X.aload_n dX3_copyFrom_11 rfl ?_
  refine X.getR dX3_copyFrom_12 fi_X3_15 sh_1 rfl ?_
  refine X.aload_n dX3_copyFrom_15 rfl ?_
  refine X.getR dX3_copyFrom_16 fi_X3_15 sh_106 rfl ?_
  have hR2 : ∀ x ∈ (2 :: (1 :: [])), x < 20 := List.forall_mem_cons.mpr ⟨by decide, hR1⟩
  refine X.callN0 (As := [.inr (some 3), .inr (some 108)]) (rest := []) dX3_copyFrom_19 mk_X3_56 (c_copy (cpS M 106 1 (1 :: []) []) (cpS M 106 1 (2 :: (1 :: [])) []) 3 108 120 sh_3 sh_108 (by decide) (cpS_row (d := 106) (s := 1) (i := 2) (by decide) (by decide) hR1)) rfl (by decide) rfl (Nat.le_of_ble_eq_true rfl) ?_
  refine X.aload_n dX3_copyFrom_22 rfl ?_
  refine X.aload_n dX3_copyFrom_23 rfl ?_
  refine X.getI (v := M 1 2) 2 dX3_copyFrom_24 fi_X3_18 sh_1 rfl (congrFun (cpS_src (d := 106) (s := 1) (i := 0) (by decide) (by decide) hR2) 2) ?_
  refine X.putI 2 2 rfl dX3_copyFrom_27 fi_X3_18 sh_106 rfl rfl ?_
  rw [show mset (cpS M 106 1 (2 :: (1 :: [])) []) 106 2 (M 1 2) = (cpS M 106 1 (2 :: (1 :: [])) (2 :: [])) from cpS_fld (by decide)]
  refine X.aload_n dX3_copyFrom_30 rfl ?_
  refine X.getR dX3_copyFrom_31 fi_X3_22 sh_1 rfl ?_
  refine X.aload_n dX3_copyFrom_34 rfl ?_
  refine X.getR dX3_copyFrom_35 fi_X3_22 sh_106 rfl ?_
  have hR3 : ∀ x ∈ (3 :: (2 :: (1 :: []))), x < 20 := List.forall_mem_cons.mpr ⟨by decide, hR2⟩
  refine X.callN0 (As := [.inr (some 4), .inr (some 109)]) (rest := []) dX3_copyFrom_38 mk_X3_56 (c_copy (cpS M 106 1 (2 :: (1 :: [])) (2 :: [])) (cpS M 106 1 (3 :: (2 :: (1 :: []))) (2 :: [])) 4 109 10 sh_4 sh_109 (by decide) (cpS_row (d := 106) (s := 1) (i := 3) (by decide) (by decide) hR2)) rfl (by decide) rfl (Nat.le_of_ble_eq_true rfl) ?_
  refine X.aload_n dX3_copyFrom_41 rfl ?_
  refine X.getR dX3_copyFrom_42 fi_X3_25 sh_1 rfl ?_
  refine X.aload_n dX3_copyFrom_45 rfl ?_
  refine X.getR dX3_copyFrom_46 fi_X3_25 sh_106 rfl ?_
  have hR4 : ∀ x ∈ (4 :: (3 :: (2 :: (1 :: [])))), x < 20 := List.forall_mem_cons.mpr ⟨by decide, hR3⟩
  refine X.callN0 (As := [.inr (some 5), .inr (some 110)]) (rest := []) dX3_copyFrom_49 mk_X3_56 (c_copy (cpS M 106 1 (3 :: (2 :: (1 :: []))) (2 :: [])) (cpS M 106 1 (4 :: (3 :: (2 :: (1 :: [])))) (2 :: [])) 5 110 10 sh_5 sh_110 (by decide) (cpS_row (d := 106) (s := 1) (i := 4) (by decide) (by decide) hR3)) rfl (by decide) rfl (Nat.le_of_ble_eq_true rfl) ?_
  refine X.aload_n dX3_copyFrom_52 rfl ?_
  refine X.getR dX3_copyFrom_53 fi_X3_28 sh_1 rfl ?_
  refine X.aload_n dX3_copyFrom_56 rfl ?_
  refine X.getR dX3_copyFrom_57 fi_X3_28 sh_106 rfl ?_
  have hR5 : ∀ x ∈ (5 :: (4 :: (3 :: (2 :: (1 :: []))))), x < 20 := List.forall_mem_cons.mpr ⟨by decide, hR4⟩
  refine X.callN0 (As := [.inr (some 6), .inr (some 111)]) (rest := []) dX3_copyFrom_60 mk_X3_56 (c_copy (cpS M 106 1 (4 :: (3 :: (2 :: (1 :: [])))) (2 :: [])) (cpS M 106 1 (5 :: (4 :: (3 :: (2 :: (1 :: []))))) (2 :: [])) 6 111 10 sh_6 sh_111 (by decide) (cpS_row (d := 106) (s := 1) (i := 5) (by decide) (by decide) hR4)) rfl (by decide) rfl (Nat.le_of_ble_eq_true rfl) ?_
  refine X.aload_n dX3_copyFrom_63 rfl ?_
  refine X.aload_n dX3_copyFrom_64 rfl ?_
  refine X.getI (v := M 1 6) 6 dX3_copyFrom_65 fi_X3_31 sh_1 rfl (congrFun (cpS_src (d := 106) (s := 1) (i := 0) (by decide) (by decide) hR5) 6) ?_
  refine X.putI 6 6 rfl dX3_copyFrom_68 fi_X3_31 sh_106 rfl rfl ?_
  rw [show mset (cpS M 106 1 (5 :: (4 :: (3 :: (2 :: (1 :: []))))) (2 :: [])) 106 6 (M 1 6) = (cpS M 106 1 (5 :: (4 :: (3 :: (2 :: (1 :: []))))) (6 :: (2 :: []))) from cpS_fld (by decide)]
  refine X.aload_n dX3_copyFrom_71 rfl ?_
  refine X.getR dX3_copyFrom_72 fi_X3_34 sh_1 rfl ?_
  refine X.aload_n dX3_copyFrom_75 rfl ?_
  refine X.getR dX3_copyFrom_76 fi_X3_34 sh_106 rfl ?_
  have hR6 : ∀ x ∈ (6 :: (5 :: (4 :: (3 :: (2 :: (1 :: [])))))), x < 20 := List.forall_mem_cons.mpr ⟨by decide, hR5⟩
  refine X.callN0 (As := [.inr (some 7), .inr (some 112)]) (rest := []) dX3_copyFrom_79 mk_X3_56 (c_copy (cpS M 106 1 (5 :: (4 :: (3 :: (2 :: (1 :: []))))) (6 :: (2 :: []))) (cpS M 106 1 (6 :: (5 :: (4 :: (3 :: (2 :: (1 :: [])))))) (6 :: (2 :: []))) 7 112 6 sh_7 sh_112 (by decide) (cpS_row (d := 106) (s := 1) (i := 6) (by decide) (by decide) hR5)) rfl (by decide) rfl (Nat.le_of_ble_eq_true rfl) ?_
  refine X.aload_n dX3_copyFrom_82 rfl ?_
  refine X.getR dX3_copyFrom_83 fi_X3_37 sh_1 rfl ?_
  refine X.aload_n dX3_copyFrom_86 rfl ?_
  refine X.getR dX3_copyFrom_87 fi_X3_37 sh_106 rfl ?_
  have hR7 : ∀ x ∈ (7 :: (6 :: (5 :: (4 :: (3 :: (2 :: (1 :: []))))))), x < 20 := List.forall_mem_cons.mpr ⟨by decide, hR6⟩
  refine X.callN0 (As := [.inr (some 8), .inr (some 113)]) (rest := []) dX3_copyFrom_90 mk_X3_56 (c_copy (cpS M 106 1 (6 :: (5 :: (4 :: (3 :: (2 :: (1 :: [])))))) (6 :: (2 :: []))) (cpS M 106 1 (7 :: (6 :: (5 :: (4 :: (3 :: (2 :: (1 :: []))))))) (6 :: (2 :: []))) 8 113 6 sh_8 sh_113 (by decide) (cpS_row (d := 106) (s := 1) (i := 7) (by decide) (by decide) hR6)) rfl (by decide) rfl (Nat.le_of_ble_eq_true rfl) ?_
  refine X.aload_n dX3_copyFrom_93 rfl ?_
  refine X.getR dX3_copyFrom_94 fi_X3_40 sh_1 rfl ?_
  refine X.aload_n dX3_copyFrom_97 rfl ?_
  refine X.getR dX3_copyFrom_98 fi_X3_40 sh_106 rfl ?_
  have hR8 : ∀ x ∈ (8 :: (7 :: (6 :: (5 :: (4 :: (3 :: (2 :: (1 :: [])))))))), x < 20 := List.forall_mem_cons.mpr ⟨by decide, hR7⟩
  refine X.callN0 (As := [.inr (some 9), .inr (some 114)]) (rest := []) dX3_copyFrom_101 mk_X3_56 (c_copy (cpS M 106 1 (7 :: (6 :: (5 :: (4 :: (3 :: (2 :: (1 :: []))))))) (6 :: (2 :: []))) (cpS M 106 1 (8 :: (7 :: (6 :: (5 :: (4 :: (3 :: (2 :: (1 :: [])))))))) (6 :: (2 :: []))) 9 114 6 sh_9 sh_114 (by decide) (cpS_row (d := 106) (s := 1) (i := 8) (by decide) (by decide) hR7)) rfl (by decide) rfl (Nat.le_of_ble_eq_true rfl) ?_
  refine X.aload_n dX3_copyFrom_104 rfl ?_
  refine X.aload_n dX3_copyFrom_105 rfl ?_
  refine X.getI (v := M 1 10) 10 dX3_copyFrom_106 fi_X3_43 sh_1 rfl (congrFun (cpS_src (d := 106) (s := 1) (i := 0) (by decide) (by decide) hR8) 10) ?_
  refine X.putI 10 10 rfl dX3_copyFrom_109 fi_X3_43 sh_106 rfl rfl ?_
  rw [show mset (cpS M 106 1 (8 :: (7 :: (6 :: (5 :: (4 :: (3 :: (2 :: (1 :: [])))))))) (6 :: (2 :: []))) 106 10 (M 1 10) = (cpS M 106 1 (8 :: (7 :: (6 :: (5 :: (4 :: (3 :: (2 :: (1 :: [])))))))) (10 :: (6 :: (2 :: [])))) from cpS_fld (by decide)]
  refine X.aload_n dX3_copyFrom_112 rfl ?_
  refine X.aload_n dX3_copyFrom_113 rfl ?_
  refine X.getI (v := M 1 11) 11 dX3_copyFrom_114 fi_X3_46 sh_1 rfl (congrFun (cpS_src (d := 106) (s := 1) (i := 0) (by decide) (by decide) hR8) 11) ?_
  refine X.putI 11 11 rfl dX3_copyFrom_117 fi_X3_46 sh_106 rfl rfl ?_
  rw [show mset (cpS M 106 1 (8 :: (7 :: (6 :: (5 :: (4 :: (3 :: (2 :: (1 :: [])))))))) (10 :: (6 :: (2 :: [])))) 106 11 (M 1 11) = (cpS M 106 1 (8 :: (7 :: (6 :: (5 :: (4 :: (3 :: (2 :: (1 :: [])))))))) (11 :: (10 :: (6 :: (2 :: []))))) from cpS_fld (by decide)]
  refine X.iconst dX3_copyFrom_120 ?_
  refine X.istore_n (lv2 := [some (.inr (some 106)), some (.inr (some 1)), some (.inl 0)]) dX3_copyFrom_121 (Nat.le_of_ble_eq_true rfl) rfl ?_
  refine X.iload_n dX3_copyFrom_122 rfl ?_
  refine X.iconst dX3_copyFrom_123 ?_
  refine X.icmp_ge (tgt := 148) dX3_copyFrom_124 (by decide) (by decide) (by decide) (fun h => absurd h (by decide)) (fun h1 => ?_)
  refine X.aload_n dX3_copyFrom_127 rfl ?_
  refine X.getR dX3_copyFrom_128 fi_X3_52 sh_106 rfl ?_
  refine X.iload_n dX3_copyFrom_131 rfl ?_
  refine X.aald dX3_copyFrom_132 sh_115 (by decide) (by decide) (by decide) rfl ?_
  refine X.aload_n dX3_copyFrom_133 rfl ?_
  refine X.getR dX3_copyFrom_134 fi_X3_52 sh_1 rfl ?_
  refine X.iload_n dX3_copyFrom_137 rfl ?_
  refine X.aald dX3_copyFrom_138 sh_10 (by decide) (by decide) (by decide) rfl ?_
  have hR9 : ∀ x ∈ (14 :: (13 :: (12 :: (11 :: (8 :: (7 :: (6 :: (5 :: (4 :: (3 :: (2 :: (1 :: [])))))))))))), x < 20 := by intro x hx; simp only [List.mem_cons] at hx; rcases hx with h | h | h | h | hx <;> first | omega | exact hR8 x (List.mem_cons.mpr hx) | exact hR8 x (by simpa using hx)
  refine X.callV0 (As := [.inr (some 11)]) (rest := []) dX3_copyFrom_139 mk_X3_60 sh_116 (c_cpMem_106_1_0 M (8 :: (7 :: (6 :: (5 :: (4 :: (3 :: (2 :: (1 :: [])))))))) (11 :: (10 :: (6 :: (2 :: [])))) hR8) rfl (by decide) rfl (Nat.le_of_ble_eq_true rfl) ?_
  refine X.iinc (y := 1) (lv2 := [some (.inr (some 106)), some (.inr (some 1)), some (.inl 1)]) dX3_copyFrom_142 rfl rfl rfl ?_
  refine X.goto (tgt := 122) dX3_copyFrom_145 (by decide) ?_
  refine X.iload_n dX3_copyFrom_122 rfl ?_
  refine X.iconst dX3_copyFrom_123 ?_
  refine X.icmp_ge (tgt := 148) dX3_copyFrom_124 (by decide) (by decide) (by decide) (fun h => absurd h (by decide)) (fun h2 => ?_)
  refine X.aload_n dX3_copyFrom_127 rfl ?_
  refine X.getR dX3_copyFrom_128 fi_X3_52 sh_106 rfl ?_
  refine X.iload_n dX3_copyFrom_131 rfl ?_
  refine X.aald dX3_copyFrom_132 sh_115 (by decide) (by decide) (by decide) rfl ?_
  refine X.aload_n dX3_copyFrom_133 rfl ?_
  refine X.getR dX3_copyFrom_134 fi_X3_52 sh_1 rfl ?_
  refine X.iload_n dX3_copyFrom_137 rfl ?_
  refine X.aald dX3_copyFrom_138 sh_10 (by decide) (by decide) (by decide) rfl ?_
  have hR10 : ∀ x ∈ (19 :: (18 :: (17 :: (16 :: (14 :: (13 :: (12 :: (11 :: (8 :: (7 :: (6 :: (5 :: (4 :: (3 :: (2 :: (1 :: [])))))))))))))))), x < 20 := by intro x hx; simp only [List.mem_cons] at hx; rcases hx with h | h | h | h | hx <;> first | omega | exact hR9 x (List.mem_cons.mpr hx) | exact hR9 x (by simpa using hx)
  refine X.callV0 (As := [.inr (some 16)]) (rest := []) dX3_copyFrom_139 mk_X3_60 sh_121 (c_cpMem_106_1_1 M (14 :: (13 :: (12 :: (11 :: (8 :: (7 :: (6 :: (5 :: (4 :: (3 :: (2 :: (1 :: [])))))))))))) (11 :: (10 :: (6 :: (2 :: [])))) hR9) rfl (by decide) rfl (Nat.le_of_ble_eq_true rfl) ?_
  refine X.iinc (y := 2) (lv2 := [some (.inr (some 106)), some (.inr (some 1)), some (.inl 2)]) dX3_copyFrom_142 rfl rfl rfl ?_
  refine X.goto (tgt := 122) dX3_copyFrom_145 (by decide) ?_
  refine X.iload_n dX3_copyFrom_122 rfl ?_
  refine X.iconst dX3_copyFrom_123 ?_
  refine X.icmp_ge (tgt := 148) dX3_copyFrom_124 (by decide) (by decide) (by decide) (fun h3 => ?_) (fun h => absurd h (by decide))
  exact X.vret dX3_copyFrom_148 rfl rfl rfl
set_option maxHeartbeats 4000000 in
set_option maxRecDepth 100000 in
theorem c_cpMem_1_26_0 (M : Mem) (R : List Nat) (F : List Int) (hR0 : ∀ x ∈ R, x < 20) : CX mX1_copyFrom 3 [.inr (some 11), .inr (some 36)] (cpS M 1 26 R F) none (cpS M 1 26 (14 :: (13 :: (12 :: (11 :: R)))) F) := by
  refine CX.of (by decide +kernel) (Nat.le_of_ble_eq_true rfl) [some (.inr (some 11)), some (.inr (some 36))] rfl ?_
  refine X.aload_n dX1_copyFrom_0 rfl ?_
  refine X.getR dX1_copyFrom_1 fi_X1_9 sh_36 rfl ?_
  refine X.aload_n dX1_copyFrom_4 rfl ?_
  refine X.getR dX1_copyFrom_5 fi_X1_9 sh_11 rfl ?_
  have hR1 : ∀ x ∈ (11 :: R), x < 20 := List.forall_mem_cons.mpr ⟨by decide, hR0⟩
  refine X.callN0 (As := [.inr (some 37), .inr (some 12)]) (rest := []) dX1_copyFrom_8 mk_X1_24 (c_copy (cpS M 1 26 R F) (cpS M 1 26 (11 :: R) F) 37 12 120 sh_37 sh_12 (by decide) (cpS_row (d := 1) (s := 26) (i := 11) (by decide) (by decide) hR0)) rfl (by decide) rfl (Nat.le_of_ble_eq_true rfl) ?_
  refine X.aload_n dX1_copyFrom_11 rfl ?_
  refine X.getR dX1_copyFrom_12 fi_X1_15 sh_36 rfl ?_
  refine X.aload_n dX1_copyFrom_15 rfl ?_
  refine X.getR dX1_copyFrom_16 fi_X1_15 sh_11 rfl ?_
  have hR2 : ∀ x ∈ (12 :: (11 :: R)), x < 20 := List.forall_mem_cons.mpr ⟨by decide, hR1⟩
  refine X.callN0 (As := [.inr (some 38), .inr (some 13)]) (rest := []) dX1_copyFrom_19 mk_X1_24 (c_copy (cpS M 1 26 (11 :: R) F) (cpS M 1 26 (12 :: (11 :: R)) F) 38 13 120 sh_38 sh_13 (by decide) (cpS_row (d := 1) (s := 26) (i := 12) (by decide) (by decide) hR1)) rfl (by decide) rfl (Nat.le_of_ble_eq_true rfl) ?_
  refine X.aload_n dX1_copyFrom_22 rfl ?_
  refine X.getR dX1_copyFrom_23 fi_X1_18 sh_36 rfl ?_
  refine X.aload_n dX1_copyFrom_26 rfl ?_
  refine X.getR dX1_copyFrom_27 fi_X1_18 sh_11 rfl ?_
  have hR3 : ∀ x ∈ (13 :: (12 :: (11 :: R))), x < 20 := List.forall_mem_cons.mpr ⟨by decide, hR2⟩
  refine X.callN0 (As := [.inr (some 39), .inr (some 14)]) (rest := []) dX1_copyFrom_30 mk_X1_24 (c_copy (cpS M 1 26 (12 :: (11 :: R)) F) (cpS M 1 26 (13 :: (12 :: (11 :: R))) F) 39 14 120 sh_39 sh_14 (by decide) (cpS_row (d := 1) (s := 26) (i := 13) (by decide) (by decide) hR2)) rfl (by decide) rfl (Nat.le_of_ble_eq_true rfl) ?_
  refine X.aload_n dX1_copyFrom_33 rfl ?_
  refine X.getR dX1_copyFrom_34 fi_X1_21 sh_36 rfl ?_
  refine X.aload_n dX1_copyFrom_37 rfl ?_
  refine X.getR dX1_copyFrom_38 fi_X1_21 sh_11 rfl ?_
  have hR4 : ∀ x ∈ (14 :: (13 :: (12 :: (11 :: R)))), x < 20 := List.forall_mem_cons.mpr ⟨by decide, hR3⟩
  refine X.callN0 (As := [.inr (some 40), .inr (some 15)]) (rest := []) dX1_copyFrom_41 mk_X1_24 (c_copy (cpS M 1 26 (13 :: (12 :: (11 :: R))) F) (cpS M 1 26 (14 :: (13 :: (12 :: (11 :: R)))) F) 40 15 120 sh_40 sh_15 (by decide) (cpS_row (d := 1) (s := 26) (i := 14) (by decide) (by decide) hR3)) rfl (by decide) rfl (Nat.le_of_ble_eq_true rfl) ?_
  exact X.vret dX1_copyFrom_44 rfl rfl rfl
set_option maxHeartbeats 4000000 in
set_option maxRecDepth 100000 in
theorem c_cpMem_1_26_1 (M : Mem) (R : List Nat) (F : List Int) (hR0 : ∀ x ∈ R, x < 20) : CX mX1_copyFrom 3 [.inr (some 16), .inr (some 41)] (cpS M 1 26 R F) none (cpS M 1 26 (19 :: (18 :: (17 :: (16 :: R)))) F) := by
  refine CX.of (by decide +kernel) (Nat.le_of_ble_eq_true rfl) [some (.inr (some 16)), some (.inr (some 41))] rfl ?_
  refine X.aload_n dX1_copyFrom_0 rfl ?_
  refine X.getR dX1_copyFrom_1 fi_X1_9 sh_41 rfl ?_
  refine X.aload_n dX1_copyFrom_4 rfl ?_
  refine X.getR dX1_copyFrom_5 fi_X1_9 sh_16 rfl ?_
  have hR1 : ∀ x ∈ (16 :: R), x < 20 := List.forall_mem_cons.mpr ⟨by decide, hR0⟩
  refine X.callN0 (As := [.inr (some 42), .inr (some 17)]) (rest := []) dX1_copyFrom_8 mk_X1_24 (c_copy (cpS M 1 26 R F) (cpS M 1 26 (16 :: R) F) 42 17 120 sh_42 sh_17 (by decide) (cpS_row (d := 1) (s := 26) (i := 16) (by decide) (by decide) hR0)) rfl (by decide) rfl (Nat.le_of_ble_eq_true rfl) ?_
  refine X.aload_n dX1_copyFrom_11 rfl ?_
  refine X.getR dX1_copyFrom_12 fi_X1_15 sh_41 rfl ?_
  refine X.aload_n dX1_copyFrom_15 rfl ?_
  refine X.getR dX1_copyFrom_16 fi_X1_15 sh_16 rfl ?_
  have hR2 : ∀ x ∈ (17 :: (16 :: R)), x < 20 := List.forall_mem_cons.mpr ⟨by decide, hR1⟩
  refine X.callN0 (As := [.inr (some 43), .inr (some 18)]) (rest := []) dX1_copyFrom_19 mk_X1_24 (c_copy (cpS M 1 26 (16 :: R) F) (cpS M 1 26 (17 :: (16 :: R)) F) 43 18 120 sh_43 sh_18 (by decide) (cpS_row (d := 1) (s := 26) (i := 17) (by decide) (by decide) hR1)) rfl (by decide) rfl (Nat.le_of_ble_eq_true rfl) ?_
  refine X.aload_n dX1_copyFrom_22 rfl ?_
  refine X.getR dX1_copyFrom_23 fi_X1_18 sh_41 rfl ?_
  refine X.aload_n dX1_copyFrom_26 rfl ?_
  refine X.getR dX1_copyFrom_27 fi_X1_18 sh_16 rfl ?_
  have hR3 : ∀ x ∈ (18 :: (17 :: (16 :: R))), x < 20 := List.forall_mem_cons.mpr ⟨by decide, hR2⟩
  refine X.callN0 (As := [.inr (some 44), .inr (some 19)]) (rest := []) dX1_copyFrom_30 mk_X1_24 (c_copy (cpS M 1 26 (17 :: (16 :: R)) F) (cpS M 1 26 (18 :: (17 :: (16 :: R))) F) 44 19 120 sh_44 sh_19 (by decide) (cpS_row (d := 1) (s := 26) (i := 18) (by decide) (by decide) hR2)) rfl (by decide) rfl (Nat.le_of_ble_eq_true rfl) ?_
  refine X.aload_n dX1_copyFrom_33 rfl ?_
  refine X.getR dX1_copyFrom_34 fi_X1_21 sh_41 rfl ?_
  refine X.aload_n dX1_copyFrom_37 rfl ?_
  refine X.getR dX1_copyFrom_38 fi_X1_21 sh_16 rfl ?_
  have hR4 : ∀ x ∈ (19 :: (18 :: (17 :: (16 :: R)))), x < 20 := List.forall_mem_cons.mpr ⟨by decide, hR3⟩
  refine X.callN0 (As := [.inr (some 45), .inr (some 20)]) (rest := []) dX1_copyFrom_41 mk_X1_24 (c_copy (cpS M 1 26 (18 :: (17 :: (16 :: R))) F) (cpS M 1 26 (19 :: (18 :: (17 :: (16 :: R)))) F) 45 20 120 sh_45 sh_20 (by decide) (cpS_row (d := 1) (s := 26) (i := 19) (by decide) (by decide) hR3)) rfl (by decide) rfl (Nat.le_of_ble_eq_true rfl) ?_
  exact X.vret dX1_copyFrom_44 rfl rfl rfl
set_option maxHeartbeats 4000000 in
set_option maxRecDepth 100000 in
theorem c_copyFrom_1_26 (M : Mem) : CX mX3_copyFrom 4 [.inr (some 1), .inr (some 26)] (cpS M 1 26 [] []) none (cpS M 1 26 fullR fullF) := by
  have hR0 : ∀ x ∈ ([] : List Nat), x < 20 := fun x hx => by cases hx
  refine CX.of (by decide +kernel) (Nat.le_of_ble_eq_true rfl) [some (.inr (some 1)), some (.inr (some 26)), none] rfl ?_
  refine X.aload_n dX3_copyFrom_0 rfl ?_
  refine X.getR dX3_copyFrom_1 fi_X3_9 sh_26 rfl ?_
  refine X.aload_n dX3_copyFrom_4 rfl ?_
  refine X.getR dX3_copyFrom_5 fi_X3_9 sh_1 rfl ?_
  have hR1 : ∀ x ∈ (1 :: []), x < 20 := List.forall_mem_cons.mpr ⟨by decide, hR0⟩
  refine X.callN0 (As := [.inr (some 27), .inr (some 2)]) (rest := []) dX3_copyFrom_8 mk_X3_56 (c_copy (cpS M 1 26 [] []) (cpS M 1 26 (1 :: []) []) 27 2 120 sh_27 sh_2 (by decide) (cpS_row (d := 1) (s := 26) (i := 1) (by decide) (by decide) hR0)) rfl (by decide) rfl (Nat.le_of_ble_eq_true rfl) ?_
  refine X.aload_n dX3_copyFrom_11 rfl ?_
  refine X.getR dX3_copyFrom_12 fi_X3_15 sh_26 rfl ?_
  refine X.aload_n dX3_copyFrom_15 rfl ?_
  refine X.getR dX3_copyFrom_16 fi_X3_15 sh_1 rfl ?_
  have hR2 : ∀ x ∈ (2 :: (1 :: [])), x < 20 := List.forall_mem_cons.mpr ⟨by decide, hR1⟩
  refine X.callN0 (As := [.inr (some 28), .inr (some 3)]) (rest := []) dX3_copyFrom_19 mk_X3_56 (c_copy (cpS M 1 26 (1 :: []) []) (cpS M 1 26 (2 :: (1 :: [])) []) 28 3 120 sh_28 sh_3 (by decide) (cpS_row (d := 1) (s := 26) (i := 2) (by decide) (by decide) hR1)) rfl (by decide) rfl (Nat.le_of_ble_eq_true rfl) ?_
  refine X.aload_n dX3_copyFrom_22 rfl ?_
  refine X.aload_n dX3_copyFrom_23 rfl ?_
  refine X.getI (v := M 26 2) 2 dX3_copyFrom_24 fi_X3_18 sh_26 rfl (congrFun (cpS_src (d := 1) (s := 26) (i := 0) (by decide) (by decide) hR2) 2) ?_
  refine X.putI 2 2 rfl dX3_copyFrom_27 fi_X3_18 sh_1 rfl rfl ?_
  rw [show mset (cpS M 1 26 (2 :: (1 :: [])) []) 1 2 (M 26 2) = (cpS M 1 26 (2 :: (1 :: [])) (2 :: [])) from cpS_fld (by decide)]
  refine X.aload_n dX3_copyFrom_30 rfl ?_
  refine X.getR dX3_copyFrom_31 fi_X3_22 sh_26 rfl ?_
  refine X.aload_n dX3_copyFrom_34 rfl ?_
  refine X.getR dX3_copyFrom_35 fi_X3_22 sh_1 rfl ?_
  have hR3 : ∀ x ∈ (3 :: (2 :: (1 :: []))), x < 20 := List.forall_mem_cons.mpr ⟨by decide, hR2⟩
  refine X.callN0 (As := [.inr (some 29), .inr (some 4)]) (rest := []) dX3_copyFrom_38 mk_X3_56 (c_copy (cpS M 1 26 (2 :: (1 :: [])) (2 :: [])) (cpS M 1 26 (3 :: (2 :: (1 :: []))) (2 :: [])) 29 4 10 sh_29 sh_4 (by decide) (cpS_row (d := 1) (s := 26) (i := 3) (by decide) (by decide) hR2)) rfl (by decide) rfl (Nat.le_of_ble_eq_true rfl) ?_
  refine X.aload_n dX3_copyFrom_41 rfl ?_
  refine X.getR dX3_copyFrom_42 fi_X3_25 sh_26 rfl ?_
  refine X.aload_n dX3_copyFrom_45 rfl ?_
  refine X.getR dX3_copyFrom_46 fi_X3_25 sh_1 rfl ?_
  have hR4 : ∀ x ∈ (4 :: (3 :: (2 :: (1 :: [])))), x < 20 := List.forall_mem_cons.mpr ⟨by decide, hR3⟩
  refine X.callN0 (As := [.inr (some 30), .inr (some 5)]) (rest := []) dX3_copyFrom_49 mk_X3_56 (c_copy (cpS M 1 26 (3 :: (2 :: (1 :: []))) (2 :: [])) (cpS M 1 26 (4 :: (3 :: (2 :: (1 :: [])))) (2 :: [])) 30 5 10 sh_30 sh_5 (by decide) (cpS_row (d := 1) (s := 26) (i := 4) (by decide) (by decide) hR3)) rfl (by decide) rfl (Nat.le_of_ble_eq_true rfl) ?_
  refine X.aload_n dX3_copyFrom_52 rfl ?_
  refine X.getR dX3_copyFrom_53 fi_X3_28 sh_26 rfl ?_
  refine X.aload_n dX3_copyFrom_56 rfl ?_
  refine X.getR dX3_copyFrom_57 fi_X3_28 sh_1 rfl ?_
  have hR5 : ∀ x ∈ (5 :: (4 :: (3 :: (2 :: (1 :: []))))), x < 20 := List.forall_mem_cons.mpr ⟨by decide, hR4⟩
  refine X.callN0 (As := [.inr (some 31), .inr (some 6)]) (rest := []) dX3_copyFrom_60 mk_X3_56 (c_copy (cpS M 1 26 (4 :: (3 :: (2 :: (1 :: [])))) (2 :: [])) (cpS M 1 26 (5 :: (4 :: (3 :: (2 :: (1 :: []))))) (2 :: [])) 31 6 10 sh_31 sh_6 (by decide) (cpS_row (d := 1) (s := 26) (i := 5) (by decide) (by decide) hR4)) rfl (by decide) rfl (Nat.le_of_ble_eq_true rfl) ?_
  refine X.aload_n dX3_copyFrom_63 rfl ?_
  refine X.aload_n dX3_copyFrom_64 rfl ?_
  refine X.getI (v := M 26 6) 6 dX3_copyFrom_65 fi_X3_31 sh_26 rfl (congrFun (cpS_src (d := 1) (s := 26) (i := 0) (by decide) (by decide) hR5) 6) ?_
  refine X.putI 6 6 rfl dX3_copyFrom_68 fi_X3_31 sh_1 rfl rfl ?_
  rw [show mset (cpS M 1 26 (5 :: (4 :: (3 :: (2 :: (1 :: []))))) (2 :: [])) 1 6 (M 26 6) = (cpS M 1 26 (5 :: (4 :: (3 :: (2 :: (1 :: []))))) (6 :: (2 :: []))) from cpS_fld (by decide)]
  refine X.aload_n dX3_copyFrom_71 rfl ?_
  refine X.getR dX3_copyFrom_72 fi_X3_34 sh_26 rfl ?_
  refine X.aload_n dX3_copyFrom_75 rfl ?_
  refine X.getR dX3_copyFrom_76 fi_X3_34 sh_1 rfl ?_
  have hR6 : ∀ x ∈ (6 :: (5 :: (4 :: (3 :: (2 :: (1 :: [])))))), x < 20 := List.forall_mem_cons.mpr ⟨by decide, hR5⟩
  refine X.callN0 (As := [.inr (some 32), .inr (some 7)]) (rest := []) dX3_copyFrom_79 mk_X3_56 (c_copy (cpS M 1 26 (5 :: (4 :: (3 :: (2 :: (1 :: []))))) (6 :: (2 :: []))) (cpS M 1 26 (6 :: (5 :: (4 :: (3 :: (2 :: (1 :: [])))))) (6 :: (2 :: []))) 32 7 6 sh_32 sh_7 (by decide) (cpS_row (d := 1) (s := 26) (i := 6) (by decide) (by decide) hR5)) rfl (by decide) rfl (Nat.le_of_ble_eq_true rfl) ?_
  refine X.aload_n dX3_copyFrom_82 rfl ?_
  refine X.getR dX3_copyFrom_83 fi_X3_37 sh_26 rfl ?_
  refine X.aload_n dX3_copyFrom_86 rfl ?_
  refine X.getR dX3_copyFrom_87 fi_X3_37 sh_1 rfl ?_
  have hR7 : ∀ x ∈ (7 :: (6 :: (5 :: (4 :: (3 :: (2 :: (1 :: []))))))), x < 20 := List.forall_mem_cons.mpr ⟨by decide, hR6⟩
  refine X.callN0 (As := [.inr (some 33), .inr (some 8)]) (rest := []) dX3_copyFrom_90 mk_X3_56 (c_copy (cpS M 1 26 (6 :: (5 :: (4 :: (3 :: (2 :: (1 :: [])))))) (6 :: (2 :: []))) (cpS M 1 26 (7 :: (6 :: (5 :: (4 :: (3 :: (2 :: (1 :: []))))))) (6 :: (2 :: []))) 33 8 6 sh_33 sh_8 (by decide) (cpS_row (d := 1) (s := 26) (i := 7) (by decide) (by decide) hR6)) rfl (by decide) rfl (Nat.le_of_ble_eq_true rfl) ?_
  refine X.aload_n dX3_copyFrom_93 rfl ?_
  refine X.getR dX3_copyFrom_94 fi_X3_40 sh_26 rfl ?_
  refine X.aload_n dX3_copyFrom_97 rfl ?_
  refine X.getR dX3_copyFrom_98 fi_X3_40 sh_1 rfl ?_
  have hR8 : ∀ x ∈ (8 :: (7 :: (6 :: (5 :: (4 :: (3 :: (2 :: (1 :: [])))))))), x < 20 := List.forall_mem_cons.mpr ⟨by decide, hR7⟩
  refine X.callN0 (As := [.inr (some 34), .inr (some 9)]) (rest := []) dX3_copyFrom_101 mk_X3_56 (c_copy (cpS M 1 26 (7 :: (6 :: (5 :: (4 :: (3 :: (2 :: (1 :: []))))))) (6 :: (2 :: []))) (cpS M 1 26 (8 :: (7 :: (6 :: (5 :: (4 :: (3 :: (2 :: (1 :: [])))))))) (6 :: (2 :: []))) 34 9 6 sh_34 sh_9 (by decide) (cpS_row (d := 1) (s := 26) (i := 8) (by decide) (by decide) hR7)) rfl (by decide) rfl (Nat.le_of_ble_eq_true rfl) ?_
  refine X.aload_n dX3_copyFrom_104 rfl ?_
  refine X.aload_n dX3_copyFrom_105 rfl ?_
  refine X.getI (v := M 26 10) 10 dX3_copyFrom_106 fi_X3_43 sh_26 rfl (congrFun (cpS_src (d := 1) (s := 26) (i := 0) (by decide) (by decide) hR8) 10) ?_
  refine X.putI 10 10 rfl dX3_copyFrom_109 fi_X3_43 sh_1 rfl rfl ?_
  rw [show mset (cpS M 1 26 (8 :: (7 :: (6 :: (5 :: (4 :: (3 :: (2 :: (1 :: [])))))))) (6 :: (2 :: []))) 1 10 (M 26 10) = (cpS M 1 26 (8 :: (7 :: (6 :: (5 :: (4 :: (3 :: (2 :: (1 :: [])))))))) (10 :: (6 :: (2 :: [])))) from cpS_fld (by decide)]
  refine X.aload_n dX3_copyFrom_112 rfl ?_
  refine X.aload_n dX3_copyFrom_113 rfl ?_
  refine X.getI (v := M 26 11) 11 dX3_copyFrom_114 fi_X3_46 sh_26 rfl (congrFun (cpS_src (d := 1) (s := 26) (i := 0) (by decide) (by decide) hR8) 11) ?_
  refine X.putI 11 11 rfl dX3_copyFrom_117 fi_X3_46 sh_1 rfl rfl ?_
  rw [show mset (cpS M 1 26 (8 :: (7 :: (6 :: (5 :: (4 :: (3 :: (2 :: (1 :: [])))))))) (10 :: (6 :: (2 :: [])))) 1 11 (M 26 11) = (cpS M 1 26 (8 :: (7 :: (6 :: (5 :: (4 :: (3 :: (2 :: (1 :: [])))))))) (11 :: (10 :: (6 :: (2 :: []))))) from cpS_fld (by decide)]
  refine X.iconst dX3_copyFrom_120 ?_
  refine X.istore_n (lv2 := [some (.inr (some 1)), some (.inr (some 26)), some (.inl 0)]) dX3_copyFrom_121 (Nat.le_of_ble_eq_true rfl) rfl ?_
  refine X.iload_n dX3_copyFrom_122 rfl ?_
  refine X.iconst dX3_copyFrom_123 ?_
  refine X.icmp_ge (tgt := 148) dX3_copyFrom_124 (by decide) (by decide) (by decide) (fun h => absurd h (by decide)) (fun h1 => ?_)
  refine X.aload_n dX3_copyFrom_127 rfl ?_
  refine X.getR dX3_copyFrom_128 fi_X3_52 sh_1 rfl ?_
  refine X.iload_n dX3_copyFrom_131 rfl ?_
  refine X.aald dX3_copyFrom_132 sh_10 (by decide) (by decide) (by decide) rfl ?_
  refine X.aload_n dX3_copyFrom_133 rfl ?_
  refine X.getR dX3_copyFrom_134 fi_X3_52 sh_26 rfl ?_
  refine X.iload_n dX3_copyFrom_137 rfl ?_
  refine X.aald dX3_copyFrom_138 sh_35 (by decide) (by decide) (by decide) rfl ?_
  have hR9 : ∀ x ∈ (14 :: (13 :: (12 :: (11 :: (8 :: (7 :: (6 :: (5 :: (4 :: (3 :: (2 :: (1 :: [])))))))))))), x < 20 := by intro x hx; simp only [List.mem_cons] at hx; rcases hx with h | h | h | h | hx <;> first | omega | exact hR8 x (List.mem_cons.mpr hx) | exact hR8 x (by simpa using hx)
  refine X.callV0 (As := [.inr (some 36)]) (rest := []) dX3_copyFrom_139 mk_X3_60 sh_11 (c_cpMem_1_26_0 M (8 :: (7 :: (6 :: (5 :: (4 :: (3 :: (2 :: (1 :: [])))))))) (11 :: (10 :: (6 :: (2 :: [])))) hR8) rfl (by decide) rfl (Nat.le_of_ble_eq_true rfl) ?_
  refine X.iinc (y := 1) (lv2 := [some (.inr (some 1)), some (.inr (some 26)), some (.inl 1)]) dX3_copyFrom_142 rfl rfl rfl ?_
  refine X.goto (tgt := 122) dX3_copyFrom_145 (by decide) ?_
  refine X.iload_n dX3_copyFrom_122 rfl ?_
  refine X.iconst dX3_copyFrom_123 ?_
  refine X.icmp_ge (tgt := 148) dX3_copyFrom_124 (by decide) (by decide) (by decide) (fun h => absurd h (by decide)) (fun h2 => ?_)
  refine X.aload_n dX3_copyFrom_127 rfl ?_
  refine X.getR dX3_copyFrom_128 fi_X3_52 sh_1 rfl ?_
  refine X.iload_n dX3_copyFrom_131 rfl ?_
  refine X.aald dX3_copyFrom_132 sh_10 (by decide) (by decide) (by decide) rfl ?_
  refine X.aload_n dX3_copyFrom_133 rfl ?_
  refine X.getR dX3_copyFrom_134 fi_X3_52 sh_26 rfl ?_
  refine X.iload_n dX3_copyFrom_137 rfl ?_
  refine X.aald dX3_copyFrom_138 sh_35 (by decide) (by decide) (by decide) rfl ?_
  have hR10 : ∀ x ∈ (19 :: (18 :: (17 :: (16 :: (14 :: (13 :: (12 :: (11 :: (8 :: (7 :: (6 :: (5 :: (4 :: (3 :: (2 :: (1 :: [])))))))))))))))), x < 20 := by intro x hx; simp only [List.mem_cons] at hx; rcases hx with h | h | h | h | hx <;> first | omega | exact hR9 x (List.mem_cons.mpr hx) | exact hR9 x (by simpa using hx)
  refine X.callV0 (As := [.inr (some 41)]) (rest := []) dX3_copyFrom_139 mk_X3_60 sh_16 (c_cpMem_1_26_1 M (14 :: (13 :: (12 :: (11 :: (8 :: (7 :: (6 :: (5 :: (4 :: (3 :: (2 :: (1 :: [])))))))))))) (11 :: (10 :: (6 :: (2 :: [])))) hR9) rfl (by decide) rfl (Nat.le_of_ble_eq_true rfl) ?_
  refine X.iinc (y := 2) (lv2 := [some (.inr (some 1)), some (.inr (some 26)), some (.inl 2)]) dX3_copyFrom_142 rfl rfl rfl ?_
  refine X.goto (tgt := 122) dX3_copyFrom_145 (by decide) ?_
  refine X.iload_n dX3_copyFrom_122 rfl ?_
  refine X.iconst dX3_copyFrom_123 ?_
  refine X.icmp_ge (tgt := 148) dX3_copyFrom_124 (by decide) (by decide) (by decide) (fun h3 => ?_) (fun h => absurd h (by decide))
  exact X.vret dX3_copyFrom_148 rfl rfl rfl
set_option maxHeartbeats 4000000 in
set_option maxRecDepth 100000 in
theorem c_cpMem_1_46_0 (M : Mem) (R : List Nat) (F : List Int) (hR0 : ∀ x ∈ R, x < 20) : CX mX1_copyFrom 3 [.inr (some 11), .inr (some 56)] (cpS M 1 46 R F) none (cpS M 1 46 (14 :: (13 :: (12 :: (11 :: R)))) F) := by
  refine CX.of (by decide +kernel) (Nat.le_of_ble_eq_true rfl) [some (.inr (some 11)), some (.inr (some 56))] rfl ?_
  refine X.aload_n dX1_copyFrom_0 rfl ?_
  refine X.getR dX1_copyFrom_1 fi_X1_9 sh_56 rfl ?_
  refine X.aload_n dX1_copyFrom_4 rfl ?_
  refine X.getR dX1_copyFrom_5 fi_X1_9 sh_11 rfl ?_
  have hR1 : ∀ x ∈ (11 :: R), x < 20 := List.forall_mem_cons.mpr ⟨by decide, hR0⟩
  refine X.callN0 (As := [.inr (some 57), .inr (some 12)]) (rest := []) dX1_copyFrom_8 mk_X1_24 (c_copy (cpS M 1 46 R F) (cpS M 1 46 (11 :: R) F) 57 12 120 sh_57 sh_12 (by decide) (cpS_row (d := 1) (s := 46) (i := 11) (by decide) (by decide) hR0)) rfl (by decide) rfl (Nat.le_of_ble_eq_true rfl) ?_
  refine X.aload_n dX1_copyFrom_11 rfl ?_
  refine X.getR dX1_copyFrom_12 fi_X1_15 sh_56 rfl ?_
  refine X.aload_n dX1_copyFrom_15 rfl ?_
  refine X.getR dX1_copyFrom_16 fi_X1_15 sh_11 rfl ?_
  have hR2 : ∀ x ∈ (12 :: (11 :: R)), x < 20 := List.forall_mem_cons.mpr ⟨by decide, hR1⟩
  refine X.callN0 (As := [.inr (some 58), .inr (some 13)]) (rest := []) dX1_copyFrom_19 mk_X1_24 (c_copy (cpS M 1 46 (11 :: R) F) (cpS M 1 46 (12 :: (11 :: R)) F) 58 13 120 sh_58 sh_13 (by decide) (cpS_row (d := 1) (s := 46) (i := 12) (by decide) (by decide) hR1)) rfl (by decide) rfl (Nat.le_of_ble_eq_true rfl) ?_
  refine X.aload_n dX1_copyFrom_22 rfl ?_
  refine X.getR dX1_copyFrom_23 fi_X1_18 sh_56 rfl ?_
  refine X.aload_n dX1_copyFrom_26 rfl ?_
  refine X.getR dX1_copyFrom_27 fi_X1_18 sh_11 rfl ?_
  have hR3 : ∀ x ∈ (13 :: (12 :: (11 :: R))), x < 20 := List.forall_mem_cons.mpr ⟨by decide, hR2⟩
  refine X.callN0 (As := [.inr (some 59), .inr (some 14)]) (rest := []) dX1_copyFrom_30 mk_X1_24 (c_copy (cpS M 1 46 (12 :: (11 :: R)) F) (cpS M 1 46 (13 :: (12 :: (11 :: R))) F) 59 14 120 sh_59 sh_14 (by decide) (cpS_row (d := 1) (s := 46) (i := 13) (by decide) (by decide) hR2)) rfl (by decide) rfl (Nat.le_of_ble_eq_true rfl) ?_
  refine X.aload_n dX1_copyFrom_33 rfl ?_
  refine X.getR dX1_copyFrom_34 fi_X1_21 sh_56 rfl ?_
  refine X.aload_n dX1_copyFrom_37 rfl ?_
  refine X.getR dX1_copyFrom_38 fi_X1_21 sh_11 rfl ?_
  have hR4 : ∀ x ∈ (14 :: (13 :: (12 :: (11 :: R)))), x < 20 := List.forall_mem_cons.mpr ⟨by decide, hR3⟩
  refine X.callN0 (As := [.inr (some 60), .inr (some 15)]) (rest := []) dX1_copyFrom_41 mk_X1_24 (c_copy (cpS M 1 46 (13 :: (12 :: (11 :: R))) F) (cpS M 1 46 (14 :: (13 :: (12 :: (11 :: R)))) F) 60 15 120 sh_60 sh_15 (by decide) (cpS_row (d := 1) (s := 46) (i := 14) (by decide) (by decide) hR3)) rfl (by decide) rfl (Nat.le_of_ble_eq_true rfl) ?_
  exact X.vret dX1_copyFrom_44 rfl rfl rfl
set_option maxHeartbeats 4000000 in
set_option maxRecDepth 100000 in
theorem c_cpMem_1_46_1 (M : Mem) (R : List Nat) (F : List Int) (hR0 : ∀ x ∈ R, x < 20) : CX mX1_copyFrom 3 [.inr (some 16), .inr (some 61)] (cpS M 1 46 R F) none (cpS M 1 46 (19 :: (18 :: (17 :: (16 :: R)))) F) := by
  refine CX.of (by decide +kernel) (Nat.le_of_ble_eq_true rfl) [some (.inr (some 16)), some (.inr (some 61))] rfl ?_
  refine X.aload_n dX1_copyFrom_0 rfl ?_
  refine X.getR dX1_copyFrom_1 fi_X1_9 sh_61 rfl ?_
  refine X.aload_n dX1_copyFrom_4 rfl ?_
  refine X.getR dX1_copyFrom_5 fi_X1_9 sh_16 rfl ?_
  have hR1 : ∀ x ∈ (16 :: R), x < 20 := List.forall_mem_cons.mpr ⟨by decide, hR0⟩
  refine X.callN0 (As := [.inr (some 62), .inr (some 17)]) (rest := []) dX1_copyFrom_8 mk_X1_24 (c_copy (cpS M 1 46 R F) (cpS M 1 46 (16 :: R) F) 62 17 120 sh_62 sh_17 (by decide) (cpS_row (d := 1) (s := 46) (i := 16) (by decide) (by decide) hR0)) rfl (by decide) rfl (Nat.le_of_ble_eq_true rfl) ?_
  refine X.aload_n dX1_copyFrom_11 rfl ?_
  refine X.getR dX1_copyFrom_12 fi_X1_15 sh_61 rfl ?_
  refine X.aload_n dX1_copyFrom_15 rfl ?_
  refine X.getR dX1_copyFrom_16 fi_X1_15 sh_16 rfl ?_
  have hR2 : ∀ x ∈ (17 :: (16 :: R)), x < 20 := List.forall_mem_cons.mpr ⟨by decide, hR1⟩
  refine X.callN0 (As := [.inr (some 63), .inr (some 18)]) (rest := []) dX1_copyFrom_19 mk_X1_24 (c_copy (cpS M 1 46 (16 :: R) F) (cpS M 1 46 (17 :: (16 :: R)) F) 63 18 120 sh_63 sh_18 (by decide) (cpS_row (d := 1) (s := 46) (i := 17) (by decide) (by decide) hR1)) rfl (by decide) rfl (Nat.le_of_ble_eq_true rfl) ?_
  refine X.aload_n dX1_copyFrom_22 rfl ?_
  refine X.getR dX1_copyFrom_23 fi_X1_18 sh_61 rfl ?_
  refine X.aload_n dX1_copyFrom_26 rfl ?_
  refine X.getR dX1_copyFrom_27 fi_X1_18 sh_16 rfl ?_
  have hR3 : ∀ x ∈ (18 :: (17 :: (16 :: R))), x < 20 := List.forall_mem_cons.mpr ⟨by decide, hR2⟩
  refine X.callN0 (As := [.inr (some 64), .inr (some 19)]) (rest := []) dX1_copyFrom_30 mk_X1_24 (c_copy (cpS M 1 46 (17 :: (16 :: R)) F) (cpS M 1 46 (18 :: (17 :: (16 :: R))) F) 64 19 120 sh_64 sh_19 (by decide) (cpS_row (d := 1) (s := 46) (i := 18) (by decide) (by decide) hR2)) rfl (by decide) rfl (Nat.le_of_ble_eq_true rfl) ?_
  refine X.aload_n dX1_copyFrom_33 rfl ?_
  refine X.getR dX1_copyFrom_34 fi_X1_21 sh_61 rfl ?_
  refine X.aload_n dX1_copyFrom_37 rfl ?_
  refine X.getR dX1_copyFrom_38 fi_X1_21 sh_16 rfl ?_
  have hR4 : ∀ x ∈ (19 :: (18 :: (17 :: (16 :: R)))), x < 20 := List.forall_mem_cons.mpr ⟨by decide, hR3⟩
  refine X.callN0 (As := [.inr (some 65), .inr (some 20)]) (rest := []) dX1_copyFrom_41 mk_X1_24 (c_copy (cpS M 1 46 (18 :: (17 :: (16 :: R))) F) (cpS M 1 46 (19 :: (18 :: (17 :: (16 :: R)))) F) 65 20 120 sh_65 sh_20 (by decide) (cpS_row (d := 1) (s := 46) (i := 19) (by decide) (by decide) hR3)) rfl (by decide) rfl (Nat.le_of_ble_eq_true rfl) ?_
  exact X.vret dX1_copyFrom_44 rfl rfl rfl
set_option maxHeartbeats 4000000 in
set_option maxRecDepth 100000 in
theorem c_copyFrom_1_46 (M : Mem) : CX mX3_copyFrom 4 [.inr (some 1), .inr (some 46)] (cpS M 1 46 [] []) none (cpS M 1 46 fullR fullF) := by
  have hR0 : ∀ x ∈ ([] : List Nat), x < 20 := fun x hx => by cases hx
  refine CX.of (by decide +kernel) (Nat.le_of_ble_eq_true rfl) [some (.inr (some 1)), some (.inr (some 46)), none] rfl ?_
  refine X.aload_n dX3_copyFrom_0 rfl ?_
  refine X.getR dX3_copyFrom_1 fi_X3_9 sh_46 rfl ?_
  refine X.aload_n dX3_copyFrom_4 rfl ?_
  refine X.getR dX3_copyFrom_5 fi_X3_9 sh_1 rfl ?_
  have hR1 : ∀ x ∈ (1 :: []), x < 20 := List.forall_mem_cons.mpr ⟨by decide, hR0⟩
  refine X.callN0 (As := [.inr (some 47), .inr (some 2)]) (rest := []) dX3_copyFrom_8 mk_X3_56 (c_copy (cpS M 1 46 [] []) (cpS M 1 46 (1 :: []) []) 47 2 120 sh_47 sh_2 (by decide) (cpS_row (d := 1) (s := 46) (i := 1) (by decide) (by decide) hR0)) rfl (by decide) rfl (Nat.le_of_ble_eq_true rfl) ?_
  refine X.aload_n dX3_copyFrom_11 rfl ?_
  refine X.getR dX3_copyFrom_12 fi_X3_15 sh_46 rfl ?_
  refine X.aload_n dX3_copyFrom_15 rfl ?_
  refine X.getR dX3_copyFrom_16 fi_X3_15 sh_1 rfl ?_
  have hR2 : ∀ x ∈ (2 :: (1 :: [])), x < 20 := List.forall_mem_cons.mpr ⟨by decide, hR1⟩
  refine X.callN0 (As := [.inr (some 48), .inr (some 3)]) (rest := []) dX3_copyFrom_19 mk_X3_56 (c_copy (cpS M 1 46 (1 :: []) []) (cpS M 1 46 (2 :: (1 :: [])) []) 48 3 120 sh_48 sh_3 (by decide) (cpS_row (d := 1) (s := 46) (i := 2) (by decide) (by decide) hR1)) rfl (by decide) rfl (Nat.le_of_ble_eq_true rfl) ?_
  refine X.aload_n dX3_copyFrom_22 rfl ?_
  refine X.aload_n dX3_copyFrom_23 rfl ?_
  refine X.getI (v := M 46 2) 2 dX3_copyFrom_24 fi_X3_18 sh_46 rfl (congrFun (cpS_src (d := 1) (s := 46) (i := 0) (by decide) (by decide) hR2) 2) ?_
  refine X.putI 2 2 rfl dX3_copyFrom_27 fi_X3_18 sh_1 rfl rfl ?_
  rw [show mset (cpS M 1 46 (2 :: (1 :: [])) []) 1 2 (M 46 2) = (cpS M 1 46 (2 :: (1 :: [])) (2 :: [])) from cpS_fld (by decide)]
  refine X.aload_n dX3_copyFrom_30 rfl ?_
  refine X.getR dX3_copyFrom_31 fi_X3_22 sh_46 rfl ?_
  refine X.aload_n dX3_copyFrom_34 rfl ?_
  refine X.getR dX3_copyFrom_35 fi_X3_22 sh_1 rfl ?_
  have hR3 : ∀ x ∈ (3 :: (2 :: (1 :: []))), x < 20 := List.forall_mem_cons.mpr ⟨by decide, hR2⟩
  refine X.callN0 (As := [.inr (some 49), .inr (some 4)]) (rest := []) dX3_copyFrom_38 mk_X3_56 (c_copy (cpS M 1 46 (2 :: (1 :: [])) (2 :: [])) (cpS M 1 46 (3 :: (2 :: (1 :: []))) (2 :: [])) 49 4 10 sh_49 sh_4 (by decide) (cpS_row (d := 1) (s := 46) (i := 3) (by decide) (by decide) hR2)) rfl (by decide) rfl (Nat.le_of_ble_eq_true rfl) ?_
  refine X.aload_n dX3_copyFrom_41 rfl ?_
  refine X.getR dX3_copyFrom_42 fi_X3_25 sh_46 rfl ?_
  refine X.aload_n dX3_copyFrom_45 rfl ?_
  refine X.getR dX3_copyFrom_46 fi_X3_25 sh_1 rfl ?_
  have hR4 : ∀ x ∈ (4 :: (3 :: (2 :: (1 :: [])))), x < 20 := List.forall_mem_cons.mpr ⟨by decide, hR3⟩
  refine X.callN0 (As := [.inr (some 50), .inr (some 5)]) (rest := []) dX3_copyFrom_49 mk_X3_56 (c_copy (cpS M 1 46 (3 :: (2 :: (1 :: []))) (2 :: [])) (cpS M 1 46 (4 :: (3 :: (2 :: (1 :: [])))) (2 :: [])) 50 5 10 sh_50 sh_5 (by decide) (cpS_row (d := 1) (s := 46) (i := 4) (by decide) (by decide) hR3)) rfl (by decide) rfl (Nat.le_of_ble_eq_true rfl) ?_
  refine X.aload_n dX3_copyFrom_52 rfl ?_
  refine X.getR dX3_copyFrom_53 fi_X3_28 sh_46 rfl ?_
  refine X.aload_n dX3_copyFrom_56 rfl ?_
  refine X.getR dX3_copyFrom_57 fi_X3_28 sh_1 rfl ?_
  have hR5 : ∀ x ∈ (5 :: (4 :: (3 :: (2 :: (1 :: []))))), x < 20 := List.forall_mem_cons.mpr ⟨by decide, hR4⟩
  refine X.callN0 (As := [.inr (some 51), .inr (some 6)]) (rest := []) dX3_copyFrom_60 mk_X3_56 (c_copy (cpS M 1 46 (4 :: (3 :: (2 :: (1 :: [])))) (2 :: [])) (cpS M 1 46 (5 :: (4 :: (3 :: (2 :: (1 :: []))))) (2 :: [])) 51 6 10 sh_51 sh_6 (by decide) (cpS_row (d := 1) (s := 46) (i := 5) (by decide) (by decide) hR4)) rfl (by decide) rfl (Nat.le_of_ble_eq_true rfl) ?_
  refine X.aload_n dX3_copyFrom_63 rfl ?_
  refine X.aload_n dX3_copyFrom_64 rfl ?_
  refine X.getI (v := M 46 6) 6 dX3_copyFrom_65 fi_X3_31 sh_46 rfl (congrFun (cpS_src (d := 1) (s := 46) (i := 0) (by decide) (by decide) hR5) 6) ?_
  refine X.putI 6 6 rfl dX3_copyFrom_68 fi_X3_31 sh_1 rfl rfl ?_
  rw [show mset (cpS M 1 46 (5 :: (4 :: (3 :: (2 :: (1 :: []))))) (2 :: [])) 1 6 (M 46 6) = (cpS M 1 46 (5 :: (4 :: (3 :: (2 :: (1 :: []))))) (6 :: (2 :: []))) from cpS_fld (by decide)]
  refine X.aload_n dX3_copyFrom_71 rfl ?_
  refine X.getR dX3_copyFrom_72 fi_X3_34 sh_46 rfl ?_
  refine X.aload_n dX3_copyFrom_75 rfl ?_
  refine X.getR dX3_copyFrom_76 fi_X3_34 sh_1 rfl ?_
  have hR6 : ∀ x ∈ (6 :: (5 :: (4 :: (3 :: (2 :: (1 :: [])))))), x < 20 := List.forall_mem_cons.mpr ⟨by decide, hR5⟩
  refine X.callN0 (As := [.inr (some 52), .inr (some 7)]) (rest := []) dX3_copyFrom_79 mk_X3_56 (c_copy (cpS M 1 46 (5 :: (4 :: (3 :: (2 :: (1 :: []))))) (6 :: (2 :: []))) (cpS M 1 46 (6 :: (5 :: (4 :: (3 :: (2 :: (1 :: [])))))) (6 :: (2 :: []))) 52 7 6 sh_52 sh_7 (by decide) (cpS_row (d := 1) (s := 46) (i := 6) (by decide) (by decide) hR5)) rfl (by decide) rfl (Nat.le_of_ble_eq_true rfl) ?_
  refine X.aload_n dX3_copyFrom_82 rfl ?_
  refine X.getR dX3_copyFrom_83 fi_X3_37 sh_46 rfl ?_
  refine X.aload_n dX3_copyFrom_86 rfl ?_
  refine X.getR dX3_copyFrom_87 fi_X3_37 sh_1 rfl ?_
  have hR7 : ∀ x ∈ (7 :: (6 :: (5 :: (4 :: (3 :: (2 :: (1 :: []))))))), x < 20 := List.forall_mem_cons.mpr ⟨by decide, hR6⟩
  refine X.callN0 (As := [.inr (some 53), .inr (some 8)]) (rest := []) dX3_copyFrom_90 mk_X3_56 (c_copy (cpS M 1 46 (6 :: (5 :: (4 :: (3 :: (2 :: (1 :: [])))))) (6 :: (2 :: []))) (cpS M 1 46 (7 :: (6 :: (5 :: (4 :: (3 :: (2 :: (1 :: []))))))) (6 :: (2 :: []))) 53 8 6 sh_53 sh_8 (by decide) (cpS_row (d := 1) (s := 46) (i := 7) (by decide) (by decide) hR6)) rfl (by decide) rfl (Nat.le_of_ble_eq_true rfl) ?_
  refine X.aload_n dX3_copyFrom_93 rfl ?_
  refine X.getR dX3_copyFrom_94 fi_X3_40 sh_46 rfl ?_
  refine X.aload_n dX3_copyFrom_97 rfl ?_
  refine X.getR dX3_copyFrom_98 fi_X3_40 sh_1 rfl ?_
  have hR8 : ∀ x ∈ (8 :: (7 :: (6 :: (5 :: (4 :: (3 :: (2 :: (1 :: [])))))))), x < 20 := List.forall_mem_cons.mpr ⟨by decide, hR7⟩
  refine X.callN0 (As := [.inr (some 54), .inr (some 9)]) (rest := []) dX3_copyFrom_101 mk_X3_56 (c_copy (cpS M 1 46 (7 :: (6 :: (5 :: (4 :: (3 :: (2 :: (1 :: []))))))) (6 :: (2 :: []))) (cpS M 1 46 (8 :: (7 :: (6 :: (5 :: (4 :: (3 :: (2 :: (1 :: [])))))))) (6 :: (2 :: []))) 54 9 6 sh_54 sh_9 (by decide) (cpS_row (d := 1) (s := 46) (i := 8) (by decide) (by decide) hR7)) rfl (by decide) rfl (Nat.le_of_ble_eq_true rfl) ?_
  refine X.aload_n dX3_copyFrom_104 rfl ?_
  refine X.aload_n dX3_copyFrom_105 rfl ?_
  refine X.getI (v := M 46 10) 10 dX3_copyFrom_106 fi_X3_43 sh_46 rfl (congrFun (cpS_src (d := 1) (s := 46) (i := 0) (by decide) (by decide) hR8) 10) ?_
  refine X.putI 10 10 rfl dX3_copyFrom_109 fi_X3_43 sh_1 rfl rfl ?_
  rw [show mset (cpS M 1 46 (8 :: (7 :: (6 :: (5 :: (4 :: (3 :: (2 :: (1 :: [])))))))) (6 :: (2 :: []))) 1 10 (M 46 10) = (cpS M 1 46 (8 :: (7 :: (6 :: (5 :: (4 :: (3 :: (2 :: (1 :: [])))))))) (10 :: (6 :: (2 :: [])))) from cpS_fld (by decide)]
  refine X.aload_n dX3_copyFrom_112 rfl ?_
  refine X.aload_n dX3_copyFrom_113 rfl ?_
  refine X.getI (v := M 46 11) 11 dX3_copyFrom_114 fi_X3_46 sh_46 rfl (congrFun (cpS_src (d := 1) (s := 46) (i := 0) (by decide) (by decide) hR8) 11) ?_
  refine X.putI 11 11 rfl dX3_copyFrom_117 fi_X3_46 sh_1 rfl rfl ?_
  rw [show mset (cpS M 1 46 (8 :: (7 :: (6 :: (5 :: (4 :: (3 :: (2 :: (1 :: [])))))))) (10 :: (6 :: (2 :: [])))) 1 11 (M 46 11) = (cpS M 1 46 (8 :: (7 :: (6 :: (5 :: (4 :: (3 :: (2 :: (1 :: [])))))))) (11 :: (10 :: (6 :: (2 :: []))))) from cpS_fld (by decide)]
  refine X.iconst dX3_copyFrom_120 ?_
  refine X.istore_n (lv2 := [some (.inr (some 1)), some (.inr (some 46)), some (.inl 0)]) dX3_copyFrom_121 (Nat.le_of_ble_eq_true rfl) rfl ?_
  refine X.iload_n dX3_copyFrom_122 rfl ?_
  refine X.iconst dX3_copyFrom_123 ?_
  refine X.icmp_ge (tgt := 148) dX3_copyFrom_124 (by decide) (by decide) (by decide) (fun h => absurd h (by decide)) (fun h1 => ?_)
  refine X.aload_n dX3_copyFrom_127 rfl ?_
  refine X.getR dX3_copyFrom_128 fi_X3_52 sh_1 rfl ?_
  refine X.iload_n dX3_copyFrom_131 rfl ?_
  refine X.aald dX3_copyFrom_132 sh_10 (by decide) (by decide) (by decide) rfl ?_
  refine X.aload_n dX3_copyFrom_133 rfl ?_
  refine X.getR dX3_copyFrom_134 fi_X3_52 sh_46 rfl ?_
  refine X.iload_n dX3_copyFrom_137 rfl ?_
  refine X.aald dX3_copyFrom_138 sh_55 (by decide) (by decide) (by decide) rfl ?_
  have hR9 : ∀ x ∈ (14 :: (13 :: (12 :: (11 :: (8 :: (7 :: (6 :: (5 :: (4 :: (3 :: (2 :: (1 :: [])))))))))))), x < 20 := by intro x hx; simp only [List.mem_cons] at hx; rcases hx with h | h | h | h | hx <;> first | omega | exact hR8 x (List.mem_cons.mpr hx) | exact hR8 x (by simpa using hx)
  refine X.callV0 (As := [.inr (some 56)]) (rest := []) dX3_copyFrom_139 mk_X3_60 sh_11 (c_cpMem_1_46_0 M (8 :: (7 :: (6 :: (5 :: (4 :: (3 :: (2 :: (1 :: [])))))))) (11 :: (10 :: (6 :: (2 :: [])))) hR8) rfl (by decide) rfl (Nat.le_of_ble_eq_true rfl) ?_
  refine X.iinc (y := 1) (lv2 := [some (.inr (some 1)), some (.inr (some 46)), some (.inl 1)]) dX3_copyFrom_142 rfl rfl rfl ?_
  refine X.goto (tgt := 122) dX3_copyFrom_145 (by decide) ?_
  refine X.iload_n dX3_copyFrom_122 rfl ?_
  refine X.iconst dX3_copyFrom_123 ?_
  refine X.icmp_ge (tgt := 148) dX3_copyFrom_124 (by decide) (by decide) (by decide) (fun h => absurd h (by decide)) (fun h2 => ?_)
  refine X.aload_n dX3_copyFrom_127 rfl ?_
  refine X.getR dX3_copyFrom_128 fi_X3_52 sh_1 rfl ?_
  refine X.iload_n dX3_copyFrom_131 rfl ?_
  refine X.aald dX3_copyFrom_132 sh_10 (by decide) (by decide) (by decide) rfl ?_
  refine X.aload_n dX3_copyFrom_133 rfl ?_
  refine X.getR dX3_copyFrom_134 fi_X3_52 sh_46 rfl ?_
  refine X.iload_n dX3_copyFrom_137 rfl ?_
  refine X.aald dX3_copyFrom_138 sh_55 (by decide) (by decide) (by decide) rfl ?_
  have hR10 : ∀ x ∈ (19 :: (18 :: (17 :: (16 :: (14 :: (13 :: (12 :: (11 :: (8 :: (7 :: (6 :: (5 :: (4 :: (3 :: (2 :: (1 :: [])))))))))))))))), x < 20 := by intro x hx; simp only [List.mem_cons] at hx; rcases hx with h | h | h | h | hx <;> first | omega | exact hR9 x (List.mem_cons.mpr hx) | exact hR9 x (by simpa using hx)
  refine X.callV0 (As := [.inr (some 61)]) (rest := []) dX3_copyFrom_139 mk_X3_60 sh_16 (c_cpMem_1_46_1 M (14 :: (13 :: (12 :: (11 :: (8 :: (7 :: (6 :: (5 :: (4 :: (3 :: (2 :: (1 :: [])))))))))))) (11 :: (10 :: (6 :: (2 :: [])))) hR9) rfl (by decide) rfl (Nat.le_of_ble_eq_true rfl) ?_
  refine X.iinc (y := 2) (lv2 := [some (.inr (some 1)), some (.inr (some 46)), some (.inl 2)]) dX3_copyFrom_142 rfl rfl rfl ?_
  refine X.goto (tgt := 122) dX3_copyFrom_145 (by decide) ?_
  refine X.iload_n dX3_copyFrom_122 rfl ?_
  refine X.iconst dX3_copyFrom_123 ?_
  refine X.icmp_ge (tgt := 148) dX3_copyFrom_124 (by decide) (by decide) (by decide) (fun h3 => ?_) (fun h => absurd h (by decide))
  exact X.vret dX3_copyFrom_148 rfl rfl rfl
set_option maxHeartbeats 4000000 in
set_option maxRecDepth 100000 in
theorem c_cpMem_1_66_0 (M : Mem) (R : List Nat) (F : List Int) (hR0 : ∀ x ∈ R, x < 20) : CX mX1_copyFrom 3 [.inr (some 11), .inr (some 76)] (cpS M 1 66 R F) none (cpS M 1 66 (14 :: (13 :: (12 :: (11 :: R)))) F) := by
  refine CX.of (by decide +kernel) (Nat.le_of_ble_eq_true rfl) [some (.inr (some 11)), some (.inr (some 76))] rfl ?_
  refine X.aload_n dX1_copyFrom_0 rfl ?_
  refine X.getR dX1_copyFrom_1 fi_X1_9 sh_76 rfl ?_
  refine X.aload_n dX1_copyFrom_4 rfl ?_
  refine X.getR dX1_copyFrom_5 fi_X1_9 sh_11 rfl ?_
  have hR1 : ∀ x ∈ (11 :: R), x < 20 := List.forall_mem_cons.mpr ⟨by decide, hR0⟩
  refine X.callN0 (As := [.inr (some 77), .inr (some 12)]) (rest := []) dX1_copyFrom_8 mk_X1_24 (c_copy (cpS M 1 66 R F) (cpS M 1 66 (11 :: R) F) 77 12 120 sh_77 sh_12 (by decide) (cpS_row (d := 1) (s := 66) (i := 11) (by decide) (by decide) hR0)) rfl (by decide) rfl (Nat.le_of_ble_eq_true rfl) ?_
  refine X.aload_n dX1_copyFrom_11 rfl ?_
  refine X.getR dX1_copyFrom_12 fi_X1_15 sh_76 rfl ?_
  refine X.aload_n dX1_copyFrom_15 rfl ?_
  refine X.getR dX1_copyFrom_16 fi_X1_15 sh_11 rfl ?_
  have hR2 : ∀ x ∈ (12 :: (11 :: R)), x < 20 := List.forall_mem_cons.mpr ⟨by decide, hR1⟩
  refine X.callN0 (As := [.inr (some 78), .inr (some 13)]) (rest := []) dX1_copyFrom_19 mk_X1_24 (c_copy (cpS M 1 66 (11 :: R) F) (cpS M 1 66 (12 :: (11 :: R)) F) 78 13 120 sh_78 sh_13 (by decide) (cpS_row (d := 1) (s := 66) (i := 12) (by decide) (by decide) hR1)) rfl (by decide) rfl (Nat.le_of_ble_eq_true rfl) ?_
  refine X.aload_n dX1_copyFrom_22 rfl ?_
  refine X.getR dX1_copyFrom_23 fi_X1_18 sh_76 rfl ?_
  refine X.aload_n dX1_copyFrom_26 rfl ?_
  refine X.getR dX1_copyFrom_27 fi_X1_18 sh_11 rfl ?_
  have hR3 : ∀ x ∈ (13 :: (12 :: (11 :: R))), x < 20 := List.forall_mem_cons.mpr ⟨by decide, hR2⟩
  refine X.callN0 (As := [.inr (some 79), .inr (some 14)]) (rest := []) dX1_copyFrom_30 mk_X1_24 (c_copy (cpS M 1 66 (12 :: (11 :: R)) F) (cpS M 1 66 (13 :: (12 :: (11 :: R))) F) 79 14 120 sh_79 sh_14 (by decide) (cpS_row (d := 1) (s := 66) (i := 13) (by decide) (by decide) hR2)) rfl (by decide) rfl (Nat.le_of_ble_eq_true rfl) ?_
  refine X.aload_n dX1_copyFrom_33 rfl ?_
  refine X.getR dX1_copyFrom_34 fi_X1_21 sh_76 rfl ?_
  refine X.aload_n dX1_copyFrom_37 rfl ?_
  refine X.getR dX1_copyFrom_38 fi_X1_21 sh_11 rfl ?_
  have hR4 : ∀ x ∈ (14 :: (13 :: (12 :: (11 :: R)))), x < 20 := List.forall_mem_cons.mpr ⟨by decide, hR3⟩
  refine X.callN0 (As := [.inr (some 80), .inr (some 15)]) (rest := []) dX1_copyFrom_41 mk_X1_24 (c_copy (cpS M 1 66 (13 :: (12 :: (11 :: R))) F) (cpS M 1 66 (14 :: (13 :: (12 :: (11 :: R)))) F) 80 15 120 sh_80 sh_15 (by decide) (cpS_row (d := 1) (s := 66) (i := 14) (by decide) (by decide) hR3)) rfl (by decide) rfl (Nat.le_of_ble_eq_true rfl) ?_
  exact X.vret dX1_copyFrom_44 rfl rfl rfl
set_option maxHeartbeats 4000000 in
set_option maxRecDepth 100000 in
theorem c_cpMem_1_66_1 (M : Mem) (R : List Nat) (F : List Int) (hR0 : ∀ x ∈ R, x < 20) : CX mX1_copyFrom 3 [.inr (some 16), .inr (some 81)] (cpS M 1 66 R F) none (cpS M 1 66 (19 :: (18 :: (17 :: (16 :: R)))) F) := by
  refine CX.of (by decide +kernel) (Nat.le_of_ble_eq_true rfl) [some (.inr (some 16)), some (.inr (some 81))] rfl ?_
  refine X.aload_n dX1_copyFrom_0 rfl ?_
  refine X.getR dX1_copyFrom_1 fi_X1_9 sh_81 rfl ?_
  refine X.aload_n dX1_copyFrom_4 rfl ?_
  refine X.getR dX1_copyFrom_5 fi_X1_9 sh_16 rfl ?_
  have hR1 : ∀ x ∈ (16 :: R), x < 20 := List.forall_mem_cons.mpr ⟨by decide, hR0⟩
  refine X.callN0 (As := [.inr (some 82), .inr (some 17)]) (rest := []) dX1_copyFrom_8 mk_X1_24 (c_copy (cpS M 1 66 R F) (cpS M 1 66 (16 :: R) F) 82 17 120 sh_82 sh_17 (by decide) (cpS_row (d := 1) (s := 66) (i := 16) (by decide) (by decide) hR0)) rfl (by decide) rfl (Nat.le_of_ble_eq_true rfl) ?_
  refine X.aload_n dX1_copyFrom_11 rfl ?_
  refine X.getR dX1_copyFrom_12 fi_X1_15 sh_81 rfl ?_
  refine X.aload_n dX1_copyFrom_15 rfl ?_
  refine X.getR dX1_copyFrom_16 fi_X1_15 sh_16 rfl ?_
  have hR2 : ∀ x ∈ (17 :: (16 :: R)), x < 20 := List.forall_mem_cons.mpr ⟨by decide, hR1⟩
  refine X.callN0 (As := [.inr (some 83), .inr (some 18)]) (rest := []) dX1_copyFrom_19 mk_X1_24 (c_copy (cpS M 1 66 (16 :: R) F) (cpS M 1 66 (17 :: (16 :: R)) F) 83 18 120 sh_83 sh_18 (by decide) (cpS_row (d := 1) (s := 66) (i := 17) (by decide) (by decide) hR1)) rfl (by decide) rfl (Nat.le_of_ble_eq_true rfl) ?_
  refine X.aload_n dX1_copyFrom_22 rfl ?_
  refine X.getR dX1_copyFrom_23 fi_X1_18 sh_81 rfl ?_
  refine X.aload_n dX1_copyFrom_26 rfl ?_
  refine X.getR dX1_copyFrom_27 fi_X1_18 sh_16 rfl ?_
  have hR3 : ∀ x ∈ (18 :: (17 :: (16 :: R))), x < 20 := List.forall_mem_cons.mpr ⟨by decide, hR2⟩
  refine X.callN0 (As := [.inr (some 84), .inr (some 19)]) (rest := []) dX1_copyFrom_30 mk_X1_24 (c_copy (cpS M 1 66 (17 :: (16 :: R)) F) (cpS M 1 66 (18 :: (17 :: (16 :: R))) F) 84 19 120 sh_84 sh_19 (by decide) (cpS_row (d := 1) (s := 66) (i := 18) (by decide) (by decide) hR2)) rfl (by decide) rfl (Nat.le_of_ble_eq_true rfl) ?_
  refine X.aload_n dX1_copyFrom_33 rfl ?_
  refine X.getR dX1_copyFrom_34 fi_X1_21 sh_81 rfl ?_
  refine X.aload_n dX1_copyFrom_37 rfl ?_
  refine X.getR dX1_copyFrom_38 fi_X1_21 sh_16 rfl ?_
  have hR4 : ∀ x ∈ (19 :: (18 :: (17 :: (16 :: R)))), x < 20 := List.forall_mem_cons.mpr ⟨by decide, hR3⟩
  refine X.callN0 (As := [.inr (some 85), .inr (some 20)]) (rest := []) dX1_copyFrom_41 mk_X1_24 (c_copy (cpS M 1 66 (18 :: (17 :: (16 :: R))) F) (cpS M 1 66 (19 :: (18 :: (17 :: (16 :: R)))) F) 85 20 120 sh_85 sh_20 (by decide) (cpS_row (d := 1) (s := 66) (i := 19) (by decide) (by decide) hR3)) rfl (by decide) rfl (Nat.le_of_ble_eq_true rfl) ?_
  exact X.vret dX1_copyFrom_44 rfl rfl rfl
set_option maxHeartbeats 4000000 in
set_option maxRecDepth 100000 in
theorem c_copyFrom_1_66 (M : Mem) : CX mX3_copyFrom 4 [.inr (some 1), .inr (some 66)] (cpS M 1 66 [] []) none (cpS M 1 66 fullR fullF) := by
  have hR0 : ∀ x ∈ ([] : List Nat), x < 20 := fun x hx => by cases hx
  refine CX.of (by decide +kernel) (Nat.le_of_ble_eq_true rfl) [some (.inr (some 1)), some (.inr (some 66)), none] rfl ?_
  refine X.aload_n dX3_copyFrom_0 rfl ?_
  refine X.getR dX3_copyFrom_1 fi_X3_9 sh_66 rfl ?_
  refine X.aload_n dX3_copyFrom_4 rfl ?_
  refine X.getR dX3_copyFrom_5 fi_X3_9 sh_1 rfl ?_
  have hR1 : ∀ x ∈ (1 :: []), x < 20 := List.forall_mem_cons.mpr ⟨by decide, hR0⟩
  refine X.callN0 (As := [.inr (some 67), .inr (some 2)]) (rest := []) dX3_copyFrom_8 mk_X3_56 (c_copy (cpS M 1 66 [] []) (cpS M 1 66 (1 :: []) []) 67 2 120 sh_67 sh_2 (by decide) (cpS_row (d := 1) (s := 66) (i := 1) (by decide) (by decide) hR0)) rfl (by decide) rfl (Nat.le_of_ble_eq_true rfl) ?_
  refine X.aload_n dX3_copyFrom_11 rfl ?_
  refine X.getR dX3_copyFrom_12 fi_X3_15 sh_66 rfl ?_
  refine X.aload_n dX3_copyFrom_15 rfl ?_
  refine X.getR dX3_copyFrom_16 fi_X3_15 sh_1 rfl ?_
  have hR2 : ∀ x ∈ (2 :: (1 :: [])), x < 20 := List.forall_mem_cons.mpr ⟨by decide, hR1⟩
  refine X.callN0 (As := [.inr (some 68), .inr (some 3)]) (rest := []) dX3_copyFrom_19 mk_X3_56 (c_copy (cpS M 1 66 (1 :: []) []) (cpS M 1 66 (2 :: (1 :: [])) []) 68 3 120 sh_68 sh_3 (by decide) (cpS_row (d := 1) (s := 66) (i := 2) (by decide) (by decide) hR1)) rfl (by decide) rfl (Nat.le_of_ble_eq_true rfl) ?_
  refine X.aload_n dX3_copyFrom_22 rfl ?_
  refine X.aload_n dX3_copyFrom_23 rfl ?_
  refine X.getI (v := M 66 2) 2 dX3_copyFrom_24 fi_X3_18 sh_66 rfl (congrFun (cpS_src (d := 1) (s := 66) (i := 0) (by decide) (by decide) hR2) 2) ?_
  refine X.putI 2 2 rfl dX3_copyFrom_27 fi_X3_18 sh_1 rfl rfl ?_
  rw [show mset (cpS M 1 66 (2 :: (1 :: [])) []) 1 2 (M 66 2) = (cpS M 1 66 (2 :: (1 :: [])) (2 :: [])) from cpS_fld (by decide)]
  refine X.aload_n dX3_copyFrom_30 rfl ?_
  refine X.getR dX3_copyFrom_31 fi_X3_22 sh_66 rfl ?_
  refine X.aload_n dX3_copyFrom_34 rfl ?_
  refine X.getR dX3_copyFrom_35 fi_X3_22 sh_1 rfl ?_
  have hR3 : ∀ x ∈ (3 :: (2 :: (1 :: []))), x < 20 := List.forall_mem_cons.mpr ⟨by decide, hR2⟩
  refine X.callN0 (As := [.inr (some 69), .inr (some 4)]) (rest := []) dX3_copyFrom_38 mk_X3_56 (c_copy (cpS M 1 66 (2 :: (1 :: [])) (2 :: [])) (cpS M 1 66 (3 :: (2 :: (1 :: []))) (2 :: [])) 69 4 10 sh_69 sh_4 (by decide) (cpS_row (d := 1) (s := 66) (i := 3) (by decide) (by decide) hR2)) rfl (by decide) rfl (Nat.le_of_ble_eq_true rfl) ?_
  refine X.aload_n dX3_copyFrom_41 rfl ?_
  refine X.getR dX3_copyFrom_42 fi_X3_25 sh_66 rfl ?_
  refine X.aload_n dX3_copyFrom_45 rfl ?_
  refine X.getR dX3_copyFrom_46 fi_X3_25 sh_1 rfl ?_
  have hR4 : ∀ x ∈ (4 :: (3 :: (2 :: (1 :: [])))), x < 20 := List.forall_mem_cons.mpr ⟨by decide, hR3⟩
  refine X.callN0 (As := [.inr (some 70), .inr (some 5)]) (rest := []) dX3_copyFrom_49 mk_X3_56 (c_copy (cpS M 1 66 (3 :: (2 :: (1 :: []))) (2 :: [])) (cpS M 1 66 (4 :: (3 :: (2 :: (1 :: [])))) (2 :: [])) 70 5 10 sh_70 sh_5 (by decide) (cpS_row (d := 1) (s := 66) (i := 4) (by decide) (by decide) hR3)) rfl (by decide) rfl (Nat.le_of_ble_eq_true rfl) ?_
  refine X.aload_n dX3_copyFrom_52 rfl ?_
  refine X.getR dX3_copyFrom_53 fi_X3_28 sh_66 rfl ?_
  refine X.aload_n dX3_copyFrom_56 rfl ?_
  refine X.getR dX3_copyFrom_57 fi_X3_28 sh_1 rfl ?_
  have hR5 : ∀ x ∈ (5 :: (4 :: (3 :: (2 :: (1 :: []))))), x < 20 := List.forall_mem_cons.mpr ⟨by decide, hR4⟩
  refine X.callN0 (As := [.inr (some 71), .inr (some 6)]) (rest := []) dX3_copyFrom_60 mk_X3_56 (c_copy (cpS M 1 66 (4 :: (3 :: (2 :: (1 :: [])))) (2 :: [])) (cpS M 1 66 (5 :: (4 :: (3 :: (2 :: (1 :: []))))) (2 :: [])) 71 6 10 sh_71 sh_6 (by decide) (cpS_row (d := 1) (s := 66) (i := 5) (by decide) (by decide) hR4)) rfl (by decide) rfl (Nat.le_of_ble_eq_true rfl) ?_
  refine X.aload_n dX3_copyFrom_63 rfl ?_
  refine X.aload_n dX3_copyFrom_64 rfl ?_
  refine X.getI (v := M 66 6) 6 dX3_copyFrom_65 fi_X3_31 sh_66 rfl (congrFun (cpS_src (d := 1) (s := 66) (i := 0) (by decide) (by decide) hR5) 6) ?_
  refine X.putI 6 6 rfl dX3_copyFrom_68 fi_X3_31 sh_1 rfl rfl ?_
  rw [show mset (cpS M 1 66 (5 :: (4 :: (3 :: (2 :: (1 :: []))))) (2 :: [])) 1 6 (M 66 6) = (cpS M 1 66 (5 :: (4 :: (3 :: (2 :: (1 :: []))))) (6 :: (2 :: []))) from cpS_fld (by decide)]
  refine X.aload_n dX3_copyFrom_71 rfl ?_
  refine X.getR dX3_copyFrom_72 fi_X3_34 sh_66 rfl ?_
  refine X.aload_n dX3_copyFrom_75 rfl ?_
  refine X.getR dX3_copyFrom_76 fi_X3_34 sh_1 rfl ?_
  have hR6 : ∀ x ∈ (6 :: (5 :: (4 :: (3 :: (2 :: (1 :: [])))))), x < 20 := List.forall_mem_cons.mpr ⟨by decide, hR5⟩
  refine X.callN0 (As := [.inr (some 72), .inr (some 7)]) (rest := []) dX3_copyFrom_79 mk_X3_56 (c_copy (cpS M 1 66 (5 :: (4 :: (3 :: (2 :: (1 :: []))))) (6 :: (2 :: []))) (cpS M 1 66 (6 :: (5 :: (4 :: (3 :: (2 :: (1 :: [])))))) (6 :: (2 :: []))) 72 7 6 sh_72 sh_7 (by decide) (cpS_row (d := 1) (s := 66) (i := 6) (by decide) (by decide) hR5)) rfl (by decide) rfl (Nat.le_of_ble_eq_true rfl) ?_
  refine X.aload_n dX3_copyFrom_82 rfl ?_
  refine X.getR dX3_copyFrom_83 fi_X3_37 sh_66 rfl ?_
  refine X.aload_n dX3_copyFrom_86 rfl ?_
  refine X.getR dX3_copyFrom_87 fi_X3_37 sh_1 rfl ?_
  have hR7 : ∀ x ∈ (7 :: (6 :: (5 :: (4 :: (3 :: (2 :: (1 :: []))))))), x < 20 := List.forall_mem_cons.mpr ⟨by decide, hR6⟩
  refine X.callN0 (As := [.inr (some 73), .inr (some 8)]) (rest := []) dX3_copyFrom_90 mk_X3_56 (c_copy (cpS M 1 66 (6 :: (5 :: (4 :: (3 :: (2 :: (1 :: [])))))) (6 :: (2 :: []))) (cpS M 1 66 (7 :: (6 :: (5 :: (4 :: (3 :: (2 :: (1 :: []))))))) (6 :: (2 :: []))) 73 8 6 sh_73 sh_8 (by decide) (cpS_row (d := 1) (s := 66) (i := 7) (by decide) (by decide) hR6)) rfl (by decide) rfl (Nat.le_of_ble_eq_true rfl) ?_
  refine X.aload_n dX3_copyFrom_93 rfl ?_
  refine X.getR dX3_copyFrom_94 fi_X3_40 sh_66 rfl ?_
  refine X.aload_n dX3_copyFrom_97 rfl ?_
  refine X.getR dX3_copyFrom_98 fi_X3_40 sh_1 rfl ?_
  have hR8 : ∀ x ∈ (8 :: (7 :: (6 :: (5 :: (4 :: (3 :: (2 :: (1 :: [])))))))), x < 20 := List.forall_mem_cons.mpr ⟨by decide, hR7⟩
  refine X.callN0 (As := [.inr (some 74), .inr (some 9)]) (rest := []) dX3_copyFrom_101 mk_X3_56 (c_copy (cpS M 1 66 (7 :: (6 :: (5 :: (4 :: (3 :: (2 :: (1 :: []))))))) (6 :: (2 :: []))) (cpS M 1 66 (8 :: (7 :: (6 :: (5 :: (4 :: (3 :: (2 :: (1 :: [])))))))) (6 :: (2 :: []))) 74 9 6 sh_74 sh_9 (by decide) (cpS_row (d := 1) (s := 66) (i := 8) (by decide) (by decide) hR7)) rfl (by decide) rfl (Nat.le_of_ble_eq_true rfl) ?_
  refine X.aload_n dX3_copyFrom_104 rfl ?_
  refine X.aload_n dX3_copyFrom_105 rfl ?_
  refine X.getI (v := M 66 10) 10 dX3_copyFrom_106 fi_X3_43 sh_66 rfl (congrFun (cpS_src (d := 1) (s := 66) (i := 0) (by decide) (by decide) hR8) 10) ?_
  refine X.putI 10 10 rfl dX3_copyFrom_109 fi_X3_43 sh_1 rfl rfl ?_
  rw [show mset (cpS M 1 66 (8 :: (7 :: (6 :: (5 :: (4 :: (3 :: (2 :: (1 :: [])))))))) (6 :: (2 :: []))) 1 10 (M 66 10) = (cpS M 1 66 (8 :: (7 :: (6 :: (5 :: (4 :: (3 :: (2 :: (1 :: [])))))))) (10 :: (6 :: (2 :: [])))) from cpS_fld (by decide)]
  refine X.aload_n dX3_copyFrom_112 rfl ?_
  refine X.aload_n dX3_copyFrom_113 rfl ?_
  refine X.getI (v := M 66 11) 11 dX3_copyFrom_114 fi_X3_46 sh_66 rfl (congrFun (cpS_src (d := 1) (s := 66) (i := 0) (by decide) (by decide) hR8) 11) ?_
  refine X.putI 11 11 rfl dX3_copyFrom_117 fi_X3_46 sh_1 rfl rfl ?_
  rw [show mset (cpS M 1 66 (8 :: (7 :: (6 :: (5 :: (4 :: (3 :: (2 :: (1 :: [])))))))) (10 :: (6 :: (2 :: [])))) 1 11 (M 66 11) = (cpS M 1 66 (8 :: (7 :: (6 :: (5 :: (4 :: (3 :: (2 :: (1 :: [])))))))) (11 :: (10 :: (6 :: (2 :: []))))) from cpS_fld (by decide)]
  refine X.iconst dX3_copyFrom_120 ?_
  refine X.istore_n (lv2 := [some (.inr (some 1)), some (.inr (some 66)), some (.inl 0)]) dX3_copyFrom_121 (Nat.le_of_ble_eq_true rfl) rfl ?_
  refine X.iload_n dX3_copyFrom_122 rfl ?_
  refine X.iconst dX3_copyFrom_123 ?_
  refine X.icmp_ge (tgt := 148) dX3_copyFrom_124 (by decide) (by decide) (by decide) (fun h => absurd h (by decide)) (fun h1 => ?_)
  refine X.aload_n dX3_copyFrom_127 rfl ?_
  refine X.getR dX3_copyFrom_128 fi_X3_52 sh_1 rfl ?_
  refine X.iload_n dX3_copyFrom_131 rfl ?_
  refine X.aald dX3_copyFrom_132 sh_10 (by decide) (by decide) (by decide) rfl ?_
  refine X.aload_n dX3_copyFrom_133 rfl ?_
  refine X.getR dX3_copyFrom_134 fi_X3_52 sh_66 rfl ?_
  refine X.iload_n dX3_copyFrom_137 rfl ?_
  refine X.aald dX3_copyFrom_138 sh_75 (by decide) (by decide) (by decide) rfl ?_
  have hR9 : ∀ x ∈ (14 :: (13 :: (12 :: (11 :: (8 :: (7 :: (6 :: (5 :: (4 :: (3 :: (2 :: (1 :: [])))))))))))), x < 20 := by intro x hx; simp only [List.mem_cons] at hx; rcases hx with h | h | h | h | hx <;> first | omega | exact hR8 x (List.mem_cons.mpr hx) | exact hR8 x (by simpa using hx)
  refine X.callV0 (As := [.inr (some 76)]) (rest := []) dX3_copyFrom_139 mk_X3_60 sh_11 (c_cpMem_1_66_0 M (8 :: (7 :: (6 :: (5 :: (4 :: (3 :: (2 :: (1 :: [])))))))) (11 :: (10 :: (6 :: (2 :: [])))) hR8) rfl (by decide) rfl (Nat.le_of_ble_eq_true rfl) ?_
  refine X.iinc (y := 1) (lv2 := [some (.inr (some 1)), some (.inr (some 66)), some (.inl 1)]) dX3_copyFrom_142 rfl rfl rfl ?_
  refine X.goto (tgt := 122) dX3_copyFrom_145 (by decide) ?_
  refine X.iload_n dX3_copyFrom_122 rfl ?_
  refine X.iconst dX3_copyFrom_123 ?_
  refine X.icmp_ge (tgt := 148) dX3_copyFrom_124 (by decide) (by decide) (by decide) (fun h => absurd h (by decide)) (fun h2 => ?_)
  refine X.aload_n dX3_copyFrom_127 rfl ?_
  refine X.getR dX3_copyFrom_128 fi_X3_52 sh_1 rfl ?_
  refine X.iload_n dX3_copyFrom_131 rfl ?_
  refine X.aald dX3_copyFrom_132 sh_10 (by decide) (by decide) (by decide) rfl ?_
  refine X.aload_n dX3_copyFrom_133 rfl ?_
  refine X.getR dX3_copyFrom_134 fi_X3_52 sh_66 rfl ?_
  refine X.iload_n dX3_copyFrom_137 rfl ?_
  refine X.aald dX3_copyFrom_138 sh_75 (by decide) (by decide) (by decide) rfl ?_
  have hR10 : ∀ x ∈ (19 :: (18 :: (17 :: (16 :: (14 :: (13 :: (12 :: (11 :: (8 :: (7 :: (6 :: (5 :: (4 :: (3 :: (2 :: (1 :: [])))))))))))))))), x < 20 := by intro x hx; simp only [List.mem_cons] at hx; rcases hx with h | h | h | h | hx <;> first | omega | exact hR9 x (List.mem_cons.mpr hx) | exact hR9 x (by simpa using hx)
  refine X.callV0 (As := [.inr (some 81)]) (rest := []) dX3_copyFrom_139 mk_X3_60 sh_16 (c_cpMem_1_66_1 M (14 :: (13 :: (12 :: (11 :: (8 :: (7 :: (6 :: (5 :: (4 :: (3 :: (2 :: (1 :: [])))))))))))) (11 :: (10 :: (6 :: (2 :: [])))) hR9) rfl (by decide) rfl (Nat.le_of_ble_eq_true rfl) ?_
  refine X.iinc (y := 2) (lv2 := [some (.inr (some 1)), some (.inr (some 66)), some (.inl 2)]) dX3_copyFrom_142 rfl rfl rfl ?_
  refine X.goto (tgt := 122) dX3_copyFrom_145 (by decide) ?_
  refine X.iload_n dX3_copyFrom_122 rfl ?_
  refine X.iconst dX3_copyFrom_123 ?_
  refine X.icmp_ge (tgt := 148) dX3_copyFrom_124 (by decide) (by decide) (by decide) (fun h3 => ?_) (fun h => absurd h (by decide))
  exact X.vret dX3_copyFrom_148 rfl rfl rfl
set_option maxHeartbeats 4000000 in
set_option maxRecDepth 100000 in
theorem c_cpMem_1_86_0 (M : Mem) (R : List Nat) (F : List Int) (hR0 : ∀ x ∈ R, x < 20) : CX mX1_copyFrom 3 [.inr (some 11), .inr (some 96)] (cpS M 1 86 R F) none (cpS M 1 86 (14 :: (13 :: (12 :: (11 :: R)))) F) := by
  refine CX.of (by decide +kernel) (Nat.le_of_ble_eq_true rfl) [some (.inr (some 11)), some (.inr (some 96))] rfl ?_
  refine X.aload_n dX1_copyFrom_0 rfl ?_
  refine X.getR dX1_copyFrom_1 fi_X1_9 sh_96 rfl ?_
  refine X.aload_n dX1_copyFrom_4 rfl ?_
  refine X.getR dX1_copyFrom_5 fi_X1_9 sh_11 rfl ?_
  have hR1 : ∀ x ∈ (11 :: R), x < 20 := List.forall_mem_cons.mpr ⟨by decide, hR0⟩
  refine X.callN0 (As := [.inr (some 97), .inr (some 12)]) (rest := []) dX1_copyFrom_8 mk_X1_24 (c_copy (cpS M 1 86 R F) (cpS M 1 86 (11 :: R) F) 97 12 120 sh_97 sh_12 (by decide) (cpS_row (d := 1) (s := 86) (i := 11) (by decide) (by decide) hR0)) rfl (by decide) rfl (Nat.le_of_ble_eq_true rfl) ?_
  refine X.aload_n dX1_copyFrom_11 rfl ?_
  refine X.getR dX1_copyFrom_12 fi_X1_15 sh_96 rfl ?_
  refine X.aload_n dX1_copyFrom_15 rfl ?_
  refine X.getR dX1_copyFrom_16 fi_X1_15 sh_11 rfl ?_
  have hR2 : ∀ x ∈ (12 :: (11 :: R)), x < 20 := List.forall_mem_cons.mpr ⟨by decide, hR1⟩
  refine X.callN0 (As := [.inr (some 98), .inr (some 13)]) (rest := []) dX1_copyFrom_19 mk_X1_24 (c_copy (cpS M 1 86 (11 :: R) F) (cpS M 1 86 (12 :: (11 :: R)) F) 98 13 120 sh_98 sh_13 (by decide) (cpS_row (d := 1) (s := 86) (i := 12) (by decide) (by decide) hR1)) rfl (by decide) rfl (Nat.le_of_ble_eq_true rfl) ?_
  refine X.aload_n dX1_copyFrom_22 rfl ?_
  refine X.getR dX1_copyFrom_23 fi_X1_18 sh_96 rfl ?_
  refine X.aload_n dX1_copyFrom_26 rfl ?_
  refine X.getR dX1_copyFrom_27 fi_X1_18 sh_11 rfl ?_
  have hR3 : ∀ x ∈ (13 :: (12 :: (11 :: R))), x < 20 := List.forall_mem_cons.mpr ⟨by decide, hR2⟩
  refine X.callN0 (As := [.inr (some 99), .inr (some 14)]) (rest := []) dX1_copyFrom_30 mk_X1_24 (c_copy (cpS M 1 86 (12 :: (11 :: R)) F) (cpS M 1 86 (13 :: (12 :: (11 :: R))) F) 99 14 120 sh_99 sh_14 (by decide) (cpS_row (d := 1) (s := 86) (i := 13) (by decide) (by decide) hR2)) rfl (by decide) rfl (Nat.le_of_ble_eq_true rfl) ?_
  refine X.aload_n dX1_copyFrom_33 rfl ?_
  refine X.getR dX1_copyFrom_34 fi_X1_21 sh_96 rfl ?_
  refine X.aload_n dX1_copyFrom_37 rfl ?_
  refine X.getR dX1_copyFrom_38 fi_X1_21 sh_11 rfl ?_
  have hR4 : ∀ x ∈ (14 :: (13 :: (12 :: (11 :: R)))), x < 20 := List.forall_mem_cons.mpr ⟨by decide, hR3⟩
  refine X.callN0 (As := [.inr (some 100), .inr (some 15)]) (rest := []) dX1_copyFrom_41 mk_X1_24 (c_copy (cpS M 1 86 (13 :: (12 :: (11 :: R))) F) (cpS M 1 86 (14 :: (13 :: (12 :: (11 :: R)))) F) 100 15 120 sh_100 sh_15 (by decide) (cpS_row (d := 1) (s := 86) (i := 14) (by decide) (by decide) hR3)) rfl (by decide) rfl (Nat.le_of_ble_eq_true rfl) ?_
  exact X.vret dX1_copyFrom_44 rfl rfl rfl
set_option maxHeartbeats 4000000 in
set_option maxRecDepth 100000 in
theorem c_cpMem_1_86_1 (M : Mem) (R : List Nat) (F : List Int) (hR0 : ∀ x ∈ R, x < 20) : CX mX1_copyFrom 3 [.inr (some 16), .inr (some 101)] (cpS M 1 86 R F) none (cpS M 1 86 (19 :: (18 :: (17 :: (16 :: R)))) F) := by
  refine CX.of (by decide +kernel) (Nat.le_of_ble_eq_true rfl) [some (.inr (some 16)), some (.inr (some 101))] rfl ?_
  refine X.aload_n dX1_copyFrom_0 rfl ?_
  refine X.getR dX1_copyFrom_1 fi_X1_9 sh_101 rfl ?_
  refine X.aload_n dX1_copyFrom_4 rfl ?_
  refine X.getR dX1_copyFrom_5 fi_X1_9 sh_16 rfl ?_
  have hR1 : ∀ x ∈ (16 :: R), x < 20 := List.forall_mem_cons.mpr ⟨by decide, hR0⟩
  refine X.callN0 (As := [.inr (some 102), .inr (some 17)]) (rest := []) dX1_copyFrom_8 mk_X1_24 (c_copy (cpS M 1 86 R F) (cpS M 1 86 (16 :: R) F) 102 17 120 sh_102 sh_17 (by decide) (cpS_row (d := 1) (s := 86) (i := 16) (by decide) (by decide) hR0)) rfl (by decide) rfl (Nat.le_of_ble_eq_true rfl) ?_
  refine X.aload_n dX1_copyFrom_11 rfl ?_
  refine X.getR dX1_copyFrom_12 fi_X1_15 sh_101 rfl ?_
  refine X.aload_n dX1_copyFrom_15 rfl ?_
  refine X.getR dX1_copyFrom_16 fi_X1_15 sh_16 rfl ?_
  have hR2 : ∀ x ∈ (17 :: (16 :: R)), x < 20 := List.forall_mem_cons.mpr ⟨by decide, hR1⟩
  refine X.callN0 (As := [.inr (some 103), .inr (some 18)]) (rest := []) dX1_copyFrom_19 mk_X1_24 (c_copy (cpS M 1 86 (16 :: R) F) (cpS M 1 86 (17 :: (16 :: R)) F) 103 18 120 sh_103 sh_18 (by decide) (cpS_row (d := 1) (s := 86) (i := 17) (by decide) (by decide) hR1)) rfl (by decide) rfl (Nat.le_of_ble_eq_true rfl) ?_
  refine X.aload_n dX1_copyFrom_22 rfl ?_
  refine X.getR dX1_copyFrom_23 fi_X1_18 sh_101 rfl ?_
  refine X.aload_n dX1_copyFrom_26 rfl ?_
  refine X.getR dX1_copyFrom_27 fi_X1_18 sh_16 rfl ?_
  have hR3 : ∀ x ∈ (18 :: (17 :: (16 :: R))), x < 20 := List.forall_mem_cons.mpr ⟨by decide, hR2⟩
  refine X.callN0 (As := [.inr (some 104), .inr (some 19)]) (rest := []) dX1_copyFrom_30 mk_X1_24 (c_copy (cpS M 1 86 (17 :: (16 :: R)) F) (cpS M 1 86 (18 :: (17 :: (16 :: R))) F) 104 19 120 sh_104 sh_19 (by decide) (cpS_row (d := 1) (s := 86) (i := 18) (by decide) (by decide) hR2)) rfl (by decide) rfl (Nat.le_of_ble_eq_true rfl) ?_
  refine X.aload_n dX1_copyFrom_33 rfl ?_
  refine X.getR dX1_copyFrom_34 fi_X1_21 sh_101 rfl ?_
  refine X.aload_n dX1_copyFrom_37 rfl ?_
  refine X.getR dX1_copyFrom_38 fi_X1_21 sh_16 rfl ?_
  have hR4 : ∀ x ∈ (19 :: (18 :: (17 :: (16 :: R)))), x < 20 := List.forall_mem_cons.mpr ⟨by decide, hR3⟩
  refine X.callN0 (As := [.inr (some 105), .inr (some 20)]) (rest := []) dX1_copyFrom_41 mk_X1_24 (c_copy (cpS M 1 86 (18 :: (17 :: (16 :: R))) F) (cpS M 1 86 (19 :: (18 :: (17 :: (16 :: R)))) F) 105 20 120 sh_105 sh_20 (by decide) (cpS_row (d := 1) (s := 86) (i := 19) (by decide) (by decide) hR3)) rfl (by decide) rfl (Nat.le_of_ble_eq_true rfl) ?_
  exact X.vret dX1_copyFrom_44 rfl rfl rfl
set_option maxHeartbeats 4000000 in
set_option maxRecDepth 100000 in
theorem c_copyFrom_1_86 (M : Mem) : CX mX3_copyFrom 4 [.inr (some 1), .inr (some 86)] (cpS M 1 86 [] []) none (cpS M 1 86 fullR fullF) := by
  have hR0 : ∀ x ∈ ([] : List Nat), x < 20 := fun x hx => by cases hx
  refine CX.of (by decide +kernel) (Nat.le_of_ble_eq_true rfl) [some (.inr (some 1)), some (.inr (some 86)), none] rfl ?_
  refine X.aload_n dX3_copyFrom_0 rfl ?_
  refine X.getR dX3_copyFrom_1 fi_X3_9 sh_86 rfl ?_
  refine X.aload_n dX3_copyFrom_4 rfl ?_
  refine X.getR dX3_copyFrom_5 fi_X3_9 sh_1 rfl ?_
  have hR1 : ∀ x ∈ (1 :: []), x < 20 := List.forall_mem_cons.mpr ⟨by decide, hR0⟩
  refine X.callN0 (As := [.inr (some 87), .inr (some 2)]) (rest := []) dX3_copyFrom_8 mk_X3_56 (c_copy (cpS M 1 86 [] []) (cpS M 1 86 (1 :: []) []) 87 2 120 sh_87 sh_2 (by decide) (cpS_row (d := 1) (s := 86) (i := 1) (by decide) (by decide) hR0)) rfl (by decide) rfl (Nat.le_of_ble_eq_true rfl) ?_
  refine X.aload_n dX3_copyFrom_11 rfl ?_
  refine X.getR dX3_copyFrom_12 fi_X3_15 sh_86 rfl ?_
  refine X.aload_n dX3_copyFrom_15 rfl ?_
  refine X.getR dX3_copyFrom_16 fi_X3_15 sh_1 rfl ?_
  have hR2 : ∀ x ∈ (2 :: (1 :: [])), x < 20 := List.forall_mem_cons.mpr ⟨by decide, hR1⟩
  refine X.callN0 (As := [.inr (some 88), .inr (some 3)]) (rest := []) dX3_copyFrom_19 mk_X3_56 (c_copy (cpS M 1 86 (1 :: []) []) (cpS M 1 86 (2 :: (1 :: [])) []) 88 3 120 sh_88 sh_3 (by decide) (cpS_row (d := 1) (s := 86) (i := 2) (by decide) (by decide) hR1)) rfl (by decide) rfl (Nat.le_of_ble_eq_true rfl) ?_
  refine X.aload_n dX3_copyFrom_22 rfl ?_
  refine X.aload_n dX3_copyFrom_23 rfl ?_
  refine X.getI (v := M 86 2) 2 dX3_copyFrom_24 fi_X3_18 sh_86 rfl (congrFun (cpS_src (d := 1) (s := 86) (i := 0) (by decide) (by decide) hR2) 2) ?_
  refine X.putI 2 2 rfl dX3_copyFrom_27 fi_X3_18 sh_1 rfl rfl ?_
  rw [show mset (cpS M 1 86 (2 :: (1 :: [])) []) 1 2 (M 86 2) = (cpS M 1 86 (2 :: (1 :: [])) (2 :: [])) from cpS_fld (by decide)]
  refine X.aload_n dX3_copyFrom_30 rfl ?_
  refine X.getR dX3_copyFrom_31 fi_X3_22 sh_86 rfl ?_
  refine X.aload_n dX3_copyFrom_34 rfl ?_
  refine X.getR dX3_copyFrom_35 fi_X3_22 sh_1 rfl ?_
  have hR3 : ∀ x ∈ (3 :: (2 :: (1 :: []))), x < 20 := List.forall_mem_cons.mpr ⟨by decide, hR2⟩
  refine X.callN0 (As := [.inr (some 89), .inr (some 4)]) (rest := []) dX3_copyFrom_38 mk_X3_56 (c_copy (cpS M 1 86 (2 :: (1 :: [])) (2 :: [])) (cpS M 1 86 (3 :: (2 :: (1 :: []))) (2 :: [])) 89 4 10 sh_89 sh_4 (by decide) (cpS_row (d := 1) (s := 86) (i := 3) (by decide) (by decide) hR2)) rfl (by decide) rfl (Nat.le_of_ble_eq_true rfl) ?_
  refine X.aload_n dX3_copyFrom_41 rfl ?_
  refine X.getR dX3_copyFrom_42 fi_X3_25 sh_86 rfl ?_
  refine X.aload_n dX3_copyFrom_45 rfl ?_
  refine X.getR dX3_copyFrom_46 fi_X3_25 sh_1 rfl ?_
  have hR4 : ∀ x ∈ (4 :: (3 :: (2 :: (1 :: [])))), x < 20 := List.forall_mem_cons.mpr ⟨by decide, hR3⟩
  refine X.callN0 (As := [.inr (some 90), .inr (some 5)]) (rest := []) dX3_copyFrom_49 mk_X3_56 (c_copy (cpS M 1 86 (3 :: (2 :: (1 :: []))) (2 :: [])) (cpS M 1 86 (4 :: (3 :: (2 :: (1 :: [])))) (2 :: [])) 90 5 10 sh_90 sh_5 (by decide) (cpS_row (d := 1) (s := 86) (i := 4) (by decide) (by decide) hR3)) rfl (by decide) rfl (Nat.le_of_ble_eq_true rfl) ?_
  refine X.aload_n dX3_copyFrom_52 rfl ?_
  refine X.getR dX3_copyFrom_53 fi_X3_28 sh_86 rfl ?_
  refine X.aload_n dX3_copyFrom_56 rfl ?_
  refine X.getR dX3_copyFrom_57 fi_X3_28 sh_1 rfl ?_
  have hR5 : ∀ x ∈ (5 :: (4 :: (3 :: (2 :: (1 :: []))))), x < 20 := List.forall_mem_cons.mpr ⟨by decide, hR4⟩
  refine X.callN0 (As := [.inr (some 91), .inr (some 6)]) (rest := []) dX3_copyFrom_60 mk_X3_56 (c_copy (cpS M 1 86 (4 :: (3 :: (2 :: (1 :: [])))) (2 :: [])) (cpS M 1 86 (5 :: (4 :: (3 :: (2 :: (1 :: []))))) (2 :: [])) 91 6 10 sh_91 sh_6 (by decide) (cpS_row (d := 1) (s := 86) (i := 5) (by decide) (by decide) hR4)) rfl (by decide) rfl (Nat.le_of_ble_eq_true rfl) ?_
  refine X.aload_n dX3_copyFrom_63 rfl ?_
  refine X.aload_n dX3_copyFrom_64 rfl ?_
  refine X.getI (v := M 86 6) 6 dX3_copyFrom_65 fi_X3_31 sh_86 rfl (congrFun (cpS_src (d := 1) (s := 86) (i := 0) (by decide) (by decide) hR5) 6) ?_
  refine X.putI 6 6 rfl dX3_copyFrom_68 fi_X3_31 sh_1 rfl rfl ?_
  rw [show mset (cpS M 1 86 (5 :: (4 :: (3 :: (2 :: (1 :: []))))) (2 :: [])) 1 6 (M 86 6) = (cpS M 1 86 (5 :: (4 :: (3 :: (2 :: (1 :: []))))) (6 :: (2 :: []))) from cpS_fld (by decide)]
  refine X.aload_n dX3_copyFrom_71 rfl ?_
  refine X.getR dX3_copyFrom_72 fi_X3_34 sh_86 rfl ?_
  refine X.aload_n dX3_copyFrom_75 rfl ?_
  refine X.getR dX3_copyFrom_76 fi_X3_34 sh_1 rfl ?_
  have hR6 : ∀ x ∈ (6 :: (5 :: (4 :: (3 :: (2 :: (1 :: [])))))), x < 20 := List.forall_mem_cons.mpr ⟨by decide, hR5⟩
  refine X.callN0 (As := [.inr (some 92), .inr (some 7)]) (rest := []) dX3_copyFrom_79 mk_X3_56 (c_copy (cpS M 1 86 (5 :: (4 :: (3 :: (2 :: (1 :: []))))) (6 :: (2 :: []))) (cpS M 1 86 (6 :: (5 :: (4 :: (3 :: (2 :: (1 :: [])))))) (6 :: (2 :: []))) 92 7 6 sh_92 sh_7 (by decide) (cpS_row (d := 1) (s := 86) (i := 6) (by decide) (by decide) hR5)) rfl (by decide) rfl (Nat.le_of_ble_eq_true rfl) ?_
  refine X.aload_n dX3_copyFrom_82 rfl ?_
  refine X.getR dX3_copyFrom_83 fi_X3_37 sh_86 rfl ?_
  refine X.aload_n dX3_copyFrom_86 rfl ?_
  refine X.getR dX3_copyFrom_87 fi_X3_37 sh_1 rfl ?_
  have hR7 : ∀ x ∈ (7 :: (6 :: (5 :: (4 :: (3 :: (2 :: (1 :: []))))))), x < 20 := List.forall_mem_cons.mpr ⟨by decide, hR6⟩
  refine X.callN0 (As := [.inr (some 93), .inr (some 8)]) (rest := []) dX3_copyFrom_90 mk_X3_56 (c_copy (cpS M 1 86 (6 :: (5 :: (4 :: (3 :: (2 :: (1 :: [])))))) (6 :: (2 :: []))) (cpS M 1 86 (7 :: (6 :: (5 :: (4 :: (3 :: (2 :: (1 :: []))))))) (6 :: (2 :: []))) 93 8 6 sh_93 sh_8 (by decide) (cpS_row (d := 1) (s := 86) (i := 7) (by decide) (by decide) hR6)) rfl (by decide) rfl (Nat.le_of_ble_eq_true rfl) ?_
  refine X.aload_n dX3_copyFrom_93 rfl ?_
  refine X.getR dX3_copyFrom_94 fi_X3_40 sh_86 rfl ?_
  refine X.aload_n dX3_copyFrom_97 rfl ?_
  refine X.getR dX3_copyFrom_98 fi_X3_40 sh_1 rfl ?_
  have hR8 : ∀ x ∈ (8 :: (7 :: (6 :: (5 :: (4 :: (3 :: (2 :: (1 :: [])))))))), x < 20 := List.forall_mem_cons.mpr ⟨by decide, hR7⟩
  refine X.callN0 (As := [.inr (some 94), .inr (some 9)]) (rest := []) dX3_copyFrom_101 mk_X3_56 (c_copy (cpS M 1 86 (7 :: (6 :: (5 :: (4 :: (3 :: (2 :: (1 :: []))))))) (6 :: (2 :: []))) (cpS M 1 86 (8 :: (7 :: (6 :: (5 :: (4 :: (3 :: (2 :: (1 :: [])))))))) (6 :: (2 :: []))) 94 9 6 sh_94 sh_9 (by decide) (cpS_row (d := 1) (s := 86) (i := 8) (by decide) (by decide) hR7)) rfl (by decide) rfl (Nat.le_of_ble_eq_true rfl) ?_
  refine X.aload_n dX3_copyFrom_104 rfl ?_
  refine X.aload_n dX3_copyFrom_105 rfl ?_
  refine X.getI (v := M 86 10) 10 dX3_copyFrom_106 fi_X3_43 sh_86 rfl (congrFun (cpS_src (d := 1) (s := 86) (i := 0) (by decide) (by decide) hR8) 10) ?_
  refine X.putI 10 10 rfl dX3_copyFrom_109 fi_X3_43 sh_1 rfl rfl ?_
  rw [show mset (cpS M 1 86 (8 :: (7 :: (6 :: (5 :: (4 :: (3 :: (2 :: (1 :: [])))))))) (6 :: (2 :: []))) 1 10 (M 86 10) = (cpS M 1 86 (8 :: (7 :: (6 :: (5 :: (4 :: (3 :: (2 :: (1 :: [])))))))) (10 :: (6 :: (2 :: [])))) from cpS_fld (by decide)]
  refine X.aload_n dX3_copyFrom_112 rfl ?_
  refine X.aload_n dX3_copyFrom_113 rfl ?_
  refine X.getI (v := M 86 11) 11 dX3_copyFrom_114 fi_X3_46 sh_86 rfl (congrFun (cpS_src (d := 1) (s := 86) (i := 0) (by decide) (by decide) hR8) 11) ?_
  refine X.putI 11 11 rfl dX3_copyFrom_117 fi_X3_46 sh_1 rfl rfl ?_
  rw [show mset (cpS M 1 86 (8 :: (7 :: (6 :: (5 :: (4 :: (3 :: (2 :: (1 :: [])))))))) (10 :: (6 :: (2 :: [])))) 1 11 (M 86 11) = (cpS M 1 86 (8 :: (7 :: (6 :: (5 :: (4 :: (3 :: (2 :: (1 :: [])))))))) (11 :: (10 :: (6 :: (2 :: []))))) from cpS_fld (by decide)]
  refine X.iconst dX3_copyFrom_120 ?_
  refine X.istore_n (lv2 := [some (.inr (some 1)), some (.inr (some 86)), some (.inl 0)]) dX3_copyFrom_121 (Nat.le_of_ble_eq_true rfl) rfl ?_
  refine X.iload_n dX3_copyFrom_122 rfl ?_
  refine X.iconst dX3_copyFrom_123 ?_
  refine X.icmp_ge (tgt := 148) dX3_copyFrom_124 (by decide) (by decide) (by decide) (fun h => absurd h (by decide)) (fun h1 => ?_)
  refine X.aload_n dX3_copyFrom_127 rfl ?_
  refine X.getR dX3_copyFrom_128 fi_X3_52 sh_1 rfl ?_
  refine X.iload_n dX3_copyFrom_131 rfl ?_
  refine X.aald dX3_copyFrom_132 sh_10 (by decide) (by decide) (by decide) rfl ?_
  refine X.aload_n dX3_copyFrom_133 rfl ?_
  refine X.getR dX3_copyFrom_134 fi_X3_52 sh_86 rfl ?_
  refine X.iload_n dX3_copyFrom_137 rfl ?_
  refine X.aald dX3_copyFrom_138 sh_95 (by decide) (by decide) (by decide) rfl ?_
  have hR9 : ∀ x ∈ (14 :: (13 :: (12 :: (11 :: (8 :: (7 :: (6 :: (5 :: (4 :: (3 :: (2 :: (1 :: [])))))))))))), x < 20 := by intro x hx; simp only [List.mem_cons] at hx; rcases hx with h | h | h | h | hx <;> first | omega | exact hR8 x (List.mem_cons.mpr hx) | exact hR8 x (by simpa using hx)
  refine X.callV0 (As := [.inr (some 96)]) (rest := []) dX3_copyFrom_139 mk_X3_60 sh_11 (c_cpMem_1_86_0 M (8 :: (7 :: (6 :: (5 :: (4 :: (3 :: (2 :: (1 :: [])))))))) (11 :: (10 :: (6 :: (2 :: [])))) hR8) rfl (by decide) rfl (Nat.le_of_ble_eq_true rfl) ?_
  refine X.iinc (y := 1) (lv2 := [some (.inr (some 1)), some (.inr (some 86)), some (.inl 1)]) dX3_copyFrom_142 rfl rfl rfl ?_
  refine X.goto (tgt := 122) dX3_copyFrom_145 (by decide) ?_
  refine X.iload_n dX3_copyFrom_122 rfl ?_
  refine X.iconst dX3_copyFrom_123 ?_
  refine X.icmp_ge (tgt := 148) dX3_copyFrom_124 (by decide) (by decide) (by decide) (fun h => absurd h (by decide)) (fun h2 => ?_)
  refine X.aload_n dX3_copyFrom_127 rfl ?_
  refine X.getR dX3_copyFrom_128 fi_X3_52 sh_1 rfl ?_
  refine X.iload_n dX3_copyFrom_131 rfl ?_
  refine X.aald dX3_copyFrom_132 sh_10 (by decide) (by decide) (by decide) rfl ?_
  refine X.aload_n dX3_copyFrom_133 rfl ?_
  refine X.getR dX3_copyFrom_134 fi_X3_52 sh_86 rfl ?_
  refine X.iload_n dX3_copyFrom_137 rfl ?_
  refine X.aald dX3_copyFrom_138 sh_95 (by decide) (by decide) (by decide) rfl ?_
  have hR10 : ∀ x ∈ (19 :: (18 :: (17 :: (16 :: (14 :: (13 :: (12 :: (11 :: (8 :: (7 :: (6 :: (5 :: (4 :: (3 :: (2 :: (1 :: [])))))))))))))))), x < 20 := by intro x hx; simp only [List.mem_cons] at hx; rcases hx with h | h | h | h | hx <;> first | omega | exact hR9 x (List.mem_cons.mpr hx) | exact hR9 x (by simpa using hx)
  refine X.callV0 (As := [.inr (some 101)]) (rest := []) dX3_copyFrom_139 mk_X3_60 sh_16 (c_cpMem_1_86_1 M (14 :: (13 :: (12 :: (11 :: (8 :: (7 :: (6 :: (5 :: (4 :: (3 :: (2 :: (1 :: [])))))))))))) (11 :: (10 :: (6 :: (2 :: [])))) hR9) rfl (by decide) rfl (Nat.le_of_ble_eq_true rfl) ?_
  refine X.iinc (y := 2) (lv2 := [some (.inr (some 1)), some (.inr (some 86)), some (.inl 2)]) dX3_copyFrom_142 rfl rfl rfl ?_
  refine X.goto (tgt := 122) dX3_copyFrom_145 (by decide) ?_
  refine X.iload_n dX3_copyFrom_122 rfl ?_
  refine X.iconst dX3_copyFrom_123 ?_
  refine X.icmp_ge (tgt := 148) dX3_copyFrom_124 (by decide) (by decide) (by decide) (fun h3 => ?_) (fun h => absurd h (by decide))
  exact X.vret dX3_copyFrom_148 rfl rfl rfl
set_option maxHeartbeats 4000000 in
set_option maxRecDepth 100000 in
theorem c_cpMem_1_106_0 (M : Mem) (R : List Nat) (F : List Int) (hR0 : ∀ x ∈ R, x < 20) : CX mX1_copyFrom 3 [.inr (some 11), .inr (some 116)] (cpS M 1 106 R F) none (cpS M 1 106 (14 :: (13 :: (12 :: (11 :: R)))) F) := by
  refine CX.of (by decide +kernel) (Nat.le_of_ble_eq_true rfl) [some (.inr (some 11)), some (.inr (some 116))] rfl ?_
  refine X.aload_n dX1_copyFrom_0 rfl ?_
  refine X.getR dX1_copyFrom_1 fi_X1_9 sh_116 rfl ?_
  refine X.aload_n dX1_copyFrom_4 rfl ?_
  refine X.getR dX1_copyFrom_5 fi_X1_9 sh_11 rfl ?_
  have hR1 : ∀ x ∈ (11 :: R), x < 20 := List.forall_mem_cons.mpr ⟨by decide, hR0⟩
  refine X.callN0 (As := [.inr (some 117), .inr (some 12)]) (rest := []) dX1_copyFrom_8 mk_X1_24 (c_copy (cpS M 1 106 R F) (cpS M 1 106 (11 :: R) F) 117 12 120 sh_117 sh_12 (by decide) (cpS_row (d := 1) (s := 106) (i := 11) (by decide) (by decide) hR0)) rfl (by decide) rfl (Nat.le_of_ble_eq_true rfl) ?_
  refine X.aload_n dX1_copyFrom_11 rfl ?_
  refine X.getR dX1_copyFrom_12 fi_X1_15 sh_116 rfl ?_
  refine X.aload_n dX1_copyFrom_15 rfl ?_
  refine X.getR dX1_copyFrom_16 fi_X1_15 sh_11 rfl ?_
  have hR2 : ∀ x ∈ (12 :: (11 :: R)), x < 20 := List.forall_mem_cons.mpr ⟨by decide, hR1⟩
  refine X.callN0 (As := [.inr (some 118), .inr (some 13)]) (rest := []) dX1_copyFrom_19 mk_X1_24 (c_copy (cpS M 1 106 (11 :: R) F) (cpS M 1 106 (12 :: (11 :: R)) F) 118 13 120 sh_118 sh_13 (by decide) (cpS_row (d := 1) (s := 106) (i := 12) (by decide) (by decide) hR1)) rfl (by decide) rfl (Nat.le_of_ble_eq_true rfl) ?_
  refine X.aload_n dX1_copyFrom_22 rfl ?_
  refine X.getR dX1_copyFrom_23 fi_X1_18 sh_116 rfl ?_
  refine X.aload_n dX1_copyFrom_26 rfl ?_
  refine X.getR dX1_copyFrom_27 fi_X1_18 sh_11 rfl ?_
  have hR3 : ∀ x ∈ (13 :: (12 :: (11 :: R))), x < 20 := List.forall_mem_cons.mpr ⟨by decide, hR2⟩
  refine X.callN0 (As := [.inr (some 119), .inr (some 14)]) (rest := []) dX1_copyFrom_30 mk_X1_24 (c_copy (cpS M 1 106 (12 :: (11 :: R)) F) (cpS M 1 106 (13 :: (12 :: (11 :: R))) F) 119 14 120 sh_119 sh_14 (by decide) (cpS_row (d := 1) (s := 106) (i := 13) (by decide) (by decide) hR2)) rfl (by decide) rfl (Nat.le_of_ble_eq_true rfl) ?_
  refine X.aload_n dX1_copyFrom_33 rfl ?_
  refine X.getR dX1_copyFrom_34 fi_X1_21 sh_116 rfl ?_
  refine X.aload_n dX1_copyFrom_37 rfl ?_
  refine X.getR dX1_copyFrom_38 fi_X1_21 sh_11 rfl ?_
  have hR4 : ∀ x ∈ (14 :: (13 :: (12 :: (11 :: R)))), x < 20 := List.forall_mem_cons.mpr ⟨by decide, hR3⟩
  refine X.callN0 (As := [.inr (some 120), .inr (some 15)]) (rest := []) dX1_copyFrom_41 mk_X1_24 (c_copy (cpS M 1 106 (13 :: (12 :: (11 :: R))) F) (cpS M 1 106 (14 :: (13 :: (12 :: (11 :: R)))) F) 120 15 120 sh_120 sh_15 (by decide) (cpS_row (d := 1) (s := 106) (i := 14) (by decide) (by decide) hR3)) rfl (by decide) rfl (Nat.le_of_ble_eq_true rfl) ?_
  exact X.vret dX1_copyFrom_44 rfl rfl rfl
set_option maxHeartbeats 4000000 in
set_option maxRecDepth 100000 in
theorem c_cpMem_1_106_1 (M : Mem) (R : List Nat) (F : List Int) (hR0 : ∀ x ∈ R, x < 20) : CX mX1_copyFrom 3 [.inr (some 16), .inr (some 121)] (cpS M 1 106 R F) none (cpS M 1 106 (19 :: (18 :: (17 :: (16 :: R)))) F) := by
  refine CX.of (by decide +kernel) (Nat.le_of_ble_eq_true rfl) [some (.inr (some 16)), some (.inr (some 121))] rfl ?_
  refine X.aload_n dX1_copyFrom_0 rfl ?_
  refine X.getR dX1_copyFrom_1 fi_X1_9 sh_121 rfl ?_
  refine X.aload_n dX1_copyFrom_4 rfl ?_
  refine X.getR dX1_copyFrom_5 fi_X1_9 sh_16 rfl ?_
  have hR1 : ∀ x ∈ (16 :: R), x < 20 := List.forall_mem_cons.mpr ⟨by decide, hR0⟩
  refine X.callN0 (As := [.inr (some 122), .inr (some 17)]) (rest := []) dX1_copyFrom_8 mk_X1_24 (c_copy (cpS M 1 106 R F) (cpS M 1 106 (16 :: R) F) 122 17 120 sh_122 sh_17 (by decide) (cpS_row (d := 1) (s := 106) (i := 16) (by decide) (by decide) hR0)) rfl (by decide) rfl (Nat.le_of_ble_eq_true rfl) ?_
  refine X.aload_n dX1_copyFrom_11 rfl ?_
  refine X.getR dX1_copyFrom_12 fi_X1_15 sh_121 rfl ?_
  refine X.aload_n dX1_copyFrom_15 rfl ?_
  refine X.getR dX1_copyFrom_16 fi_X1_15 sh_16 rfl ?_
  have hR2 : ∀ x ∈ (17 :: (16 :: R)), x < 20 := List.forall_mem_cons.mpr ⟨by decide, hR1⟩
  refine X.callN0 (As := [.inr (some 123), .inr (some 18)]) (rest := []) dX1_copyFrom_19 mk_X1_24 (c_copy (cpS M 1 106 (16 :: R) F) (cpS M 1 106 (17 :: (16 :: R)) F) 123 18 120 sh_123 sh_18 (by decide) (cpS_row (d := 1) (s := 106) (i := 17) (by decide) (by decide) hR1)) rfl (by decide) rfl (Nat.le_of_ble_eq_true rfl) ?_
  refine X.aload_n dX1_copyFrom_22 rfl ?_
  refine X.getR dX1_copyFrom_23 fi_X1_18 sh_121 rfl ?_
  refine X.aload_n dX1_copyFrom_26 rfl ?_
  refine X.getR dX1_copyFrom_27 fi_X1_18 sh_16 rfl ?_
  have hR3 : ∀ x ∈ (18 :: (17 :: (16 :: R))), x < 20 := List.forall_mem_cons.mpr ⟨by decide, hR2⟩
  refine X.callN0 (As := [.inr (some 124), .inr (some 19)]) (rest := []) dX1_copyFrom_30 mk_X1_24 (c_copy (cpS M 1 106 (17 :: (16 :: R)) F) (cpS M 1 106 (18 :: (17 :: (16 :: R))) F) 124 19 120 sh_124 sh_19 (by decide) (cpS_row (d := 1) (s := 106) (i := 18) (by decide) (by decide) hR2)) rfl (by decide) rfl (Nat.le_of_ble_eq_true rfl) ?_
  refine X.aload_n dX1_copyFrom_33 rfl ?_
  refine X.getR dX1_copyFrom_34 fi_X1_21 sh_121 rfl ?_
  refine X.aload_n dX1_copyFrom_37 rfl ?_
  refine X.getR dX1_copyFrom_38 fi_X1_21 sh_16 rfl ?_
  have hR4 : ∀ x ∈ (19 :: (18 :: (17 :: (16 :: R)))), x < 20 := List.forall_mem_cons.mpr ⟨by decide, hR3⟩
  refine X.callN0 (As := [.inr (some 125), .inr (some 20)]) (rest := []) dX1_copyFrom_41 mk_X1_24 (c_copy (cpS M 1 106 (18 :: (17 :: (16 :: R))) F) (cpS M 1 106 (19 :: (18 :: (17 :: (16 :: R)))) F) 125 20 120 sh_125 sh_20 (by decide) (cpS_row (d := 1) (s := 106) (i := 19) (by decide) (by decide) hR3)) rfl (by decide) rfl (Nat.le_of_ble_eq_true rfl) ?_
  exact X.vret dX1_copyFrom_44 rfl rfl rfl
set_option maxHeartbeats 4000000 in
set_option maxRecDepth 100000 in
theorem c_copyFrom_1_106 (M : Mem) : CX mX3_copyFrom 4 [.inr (some 1), .inr (some 106)] (cpS M 1 106 [] []) none (cpS M 1 106 fullR fullF) := by
  have hR0 : ∀ x ∈ ([] : List Nat), x < 20 := fun x hx => by cases hx
  refine CX.of (by decide +kernel) (Nat.le_of_ble_eq_true rfl) [some (.inr (some 1)), some (.inr (some 106)), none] rfl ?_
  refine X.aload_n dX3_copyFrom_0 rfl ?_
  refine X.getR dX3_copyFrom_1 fi_X3_9 sh_106 rfl ?_
  refine X.aload_n dX3_copyFrom_4 rfl ?_
  refine X.getR dX3_copyFrom_5 fi_X3_9 sh_1 rfl ?_
  have hR1 : ∀ x ∈ (1 :: []), x < 20 := List.forall_mem_cons.mpr ⟨by decide, hR0⟩
  refine X.callN0 (As := [.inr (some 107), .inr (some 2)]) (rest := []) dX3_copyFrom_8 mk_X3_56 (c_copy (cpS M 1 106 [] []) (cpS M 1 106 (1 :: []) []) 107 2 120 sh_107 sh_2 (by decide) (cpS_row (d := 1) (s := 106) (i := 1) (by decide) (by decide) hR0)) rfl (by decide) rfl (Nat.le_of_ble_eq_true rfl) ?_
  refine X.aload_n dX3_copyFrom_11 rfl ?_
  refine X.getR dX3_copyFrom_12 fi_X3_15 sh_106 rfl ?_
  refine X.aload_n dX3_copyFrom_15 rfl ?_
  refine X.getR dX3_copyFrom_16 fi_X3_15 sh_1 rfl ?_
  have hR2 : ∀ x ∈ (2 :: (1 :: [])), x < 20 := List.forall_mem_cons.mpr ⟨by decide, hR1⟩
  refine X.callN0 (As := [.inr (some 108), .inr (some 3)]) (rest := []) dX3_copyFrom_19 mk_X3_56 (c_copy (cpS M 1 106 (1 :: []) []) (cpS M 1 106 (2 :: (1 :: [])) []) 108 3 120 sh_108 sh_3 (by decide) (cpS_row (d := 1) (s := 106) (i := 2) (by decide) (by decide) hR1)) rfl (by decide) rfl (Nat.le_of_ble_eq_true rfl) ?_
  refine X.aload_n dX3_copyFrom_22 rfl ?_
  refine X.aload_n dX3_copyFrom_23 rfl ?_
  refine X.getI (v := M 106 2) 2 dX3_copyFrom_24 fi_X3_18 sh_106 rfl (congrFun (cpS_src (d := 1) (s := 106) (i := 0) (by decide) (by decide) hR2) 2) ?_
  refine X.putI 2 2 rfl dX3_copyFrom_27 fi_X3_18 sh_1 rfl rfl ?_
  rw [show mset (cpS M 1 106 (2 :: (1 :: [])) []) 1 2 (M 106 2) = (cpS M 1 106 (2 :: (1 :: [])) (2 :: [])) from cpS_fld (by decide)]
  refine X.aload_n dX3_copyFrom_30 rfl ?_
  refine X.getR dX3_copyFrom_31 fi_X3_22 sh_106 rfl ?_
  refine X.aload_n dX3_copyFrom_34 rfl ?_
  refine X.getR dX3_copyFrom_35 fi_X3_22 sh_1 rfl ?_
  have hR3 : ∀ x ∈ (3 :: (2 :: (1 :: []))), x < 20 := List.forall_mem_cons.mpr ⟨by decide, hR2⟩
  refine X.callN0 (As := [.inr (some 109), .inr (some 4)]) (rest := []) dX3_copyFrom_38 mk_X3_56 (c_copy (cpS M 1 106 (2 :: (1 :: [])) (2 :: [])) (cpS M 1 106 (3 :: (2 :: (1 :: []))) (2 :: [])) 109 4 10 sh_109 sh_4 (by decide) (cpS_row (d := 1) (s := 106) (i := 3) (by decide) (by decide) hR2)) rfl (by decide) rfl (Nat.le_of_ble_eq_true rfl) ?_
  refine X.aload_n dX3_copyFrom_41 rfl ?_
  refine X.getR dX3_copyFrom_42 fi_X3_25 sh_106 rfl ?_
  refine X.aload_n dX3_copyFrom_45 rfl ?_
  refine X.getR dX3_copyFrom_46 fi_X3_25 sh_1 rfl ?_
  have hR4 : ∀ x ∈ (4 :: (3 :: (2 :: (1 :: [])))), x < 20 := List.forall_mem_cons.mpr ⟨by decide, hR3⟩
  refine X.callN0 (As := [.inr (some 110), .inr (some 5)]) (rest := []) dX3_copyFrom_49 mk_X3_56 (c_copy (cpS M 1 106 (3 :: (2 :: (1 :: []))) (2 :: [])) (cpS M 1 106 (4 :: (3 :: (2 :: (1 :: [])))) (2 :: [])) 110 5 10 sh_110 sh_5 (by decide) (cpS_row (d := 1) (s := 106) (i := 4) (by decide) (by decide) hR3)) rfl (by decide) rfl (Nat.le_of_ble_eq_true rfl) ?_
  refine X.aload_n dX3_copyFrom_52 rfl ?_
  refine X.getR dX3_copyFrom_53 fi_X3_28 sh_106 rfl ?_
  refine X.aload_n dX3_copyFrom_56 rfl ?_
  refine X.getR dX3_copyFrom_57 fi_X3_28 sh_1 rfl ?_
  have hR5 : ∀ x ∈ (5 :: (4 :: (3 :: (2 :: (1 :: []))))), x < 20 := List.forall_mem_cons.mpr ⟨by decide, hR4⟩
  refine X.callN0 (As := [.inr (some 111), .inr (some 6)]) (rest := []) dX3_copyFrom_60 mk_X3_56 (c_copy (cpS M 1 106 (4 :: (3 :: (2 :: (1 :: [])))) (2 :: [])) (cpS M 1 106 (5 :: (4 :: (3 :: (2 :: (1 :: []))))) (2 :: [])) 111 6 10 sh_111 sh_6 (by decide) (cpS_row (d := 1) (s := 106) (i := 5) (by decide) (by decide) hR4)) rfl (by decide) rfl (Nat.le_of_ble_eq_true rfl) ?_
  refine X.aload_n dX3_copyFrom_63 rfl ?_
  refine X.aload_n dX3_copyFrom_64 rfl ?_
  refine X.getI (v := M 106 6) 6 dX3_copyFrom_65 fi_X3_31 sh_106 rfl (congrFun (cpS_src (d := 1) (s := 106) (i := 0) (by decide) (by decide) hR5) 6) ?_
  refine X.putI 6 6 rfl dX3_copyFrom_68 fi_X3_31 sh_1 rfl rfl ?_
  rw [show mset (cpS M 1 106 (5 :: (4 :: (3 :: (2 :: (1 :: []))))) (2 :: [])) 1 6 (M 106 6) = (cpS M 1 106 (5 :: (4 :: (3 :: (2 :: (1 :: []))))) (6 :: (2 :: []))) from cpS_fld (by decide)]
  refine X.aload_n dX3_copyFrom_71 rfl ?_
  refine X.getR dX3_copyFrom_72 fi_X3_34 sh_106 rfl ?_
  refine X.aload_n dX3_copyFrom_75 rfl ?_
  refine X.getR dX3_copyFrom_76 fi_X3_34 sh_1 rfl ?_
  have hR6 : ∀ x ∈ (6 :: (5 :: (4 :: (3 :: (2 :: (1 :: [])))))), x < 20 := List.forall_mem_cons.mpr ⟨by decide, hR5⟩
  refine X.callN0 (As := [.inr (some 112), .inr (some 7)]) (rest := []) dX3_copyFrom_79 mk_X3_56 (c_copy (cpS M 1 106 (5 :: (4 :: (3 :: (2 :: (1 :: []))))) (6 :: (2 :: []))) (cpS M 1 106 (6 :: (5 :: (4 :: (3 :: (2 :: (1 :: [])))))) (6 :: (2 :: []))) 112 7 6 sh_112 sh_7 (by decide) (cpS_row (d := 1) (s := 106) (i := 6) (by decide) (by decide) hR5)) rfl (by decide) rfl (Nat.le_of_ble_eq_true rfl) ?_
  refine X.aload_n dX3_copyFrom_82 rfl ?_
  refine X.getR dX3_copyFrom_83 fi_X3_37 sh_106 rfl ?_
  refine X.aload_n dX3_copyFrom_86 rfl ?_
  refine X.getR dX3_copyFrom_87 fi_X3_37 sh_1 rfl ?_
  have hR7 : ∀ x ∈ (7 :: (6 :: (5 :: (4 :: (3 :: (2 :: (1 :: []))))))), x < 20 := List.forall_mem_cons.mpr ⟨by decide, hR6⟩
  refine X.callN0 (As := [.inr (some 113), .inr (some 8)]) (rest := []) dX3_copyFrom_90 mk_X3_56 (c_copy (cpS M 1 106 (6 :: (5 :: (4 :: (3 :: (2 :: (1 :: [])))))) (6 :: (2 :: []))) (cpS M 1 106 (7 :: (6 :: (5 :: (4 :: (3 :: (2 :: (1 :: []))))))) (6 :: (2 :: []))) 113 8 6 sh_113 sh_8 (by decide) (cpS_row (d := 1) (s := 106) (i := 7) (by decide) (by decide) hR6)) rfl (by decide) rfl (Nat.le_of_ble_eq_true rfl) ?_
  refine X.aload_n dX3_copyFrom_93 rfl ?_
  refine X.getR dX3_copyFrom_94 fi_X3_40 sh_106 rfl ?_
  refine X.aload_n dX3_copyFrom_97 rfl ?_
  refine X.getR dX3_copyFrom_98 fi_X3_40 sh_1 rfl ?_
  have hR8 : ∀ x ∈ (8 :: (7 :: (6 :: (5 :: (4 :: (3 :: (2 :: (1 :: [])))))))), x < 20 := List.forall_mem_cons.mpr ⟨by decide, hR7⟩
  refine X.callN0 (As := [.inr (some 114), .inr (some 9)]) (rest := []) dX3_copyFrom_101 mk_X3_56 (c_copy (cpS M 1 106 (7 :: (6 :: (5 :: (4 :: (3 :: (2 :: (1 :: []))))))) (6 :: (2 :: []))) (cpS M 1 106 (8 :: (7 :: (6 :: (5 :: (4 :: (3 :: (2 :: (1 :: [])))))))) (6 :: (2 :: []))) 114 9 6 sh_114 sh_9 (by decide) (cpS_row (d := 1) (s := 106) (i := 8) (by decide) (by decide) hR7)) rfl (by decide) rfl (Nat.le_of_ble_eq_true rfl) ?_
  refine X.aload_n dX3_copyFrom_104 rfl ?_
  refine X.aload_n dX3_copyFrom_105 rfl ?_
  refine X.getI (v := M 106 10) 10 dX3_copyFrom_106 fi_X3_43 sh_106 rfl (congrFun (cpS_src (d := 1) (s := 106) (i := 0) (by decide) (by decide) hR8) 10) ?_
  refine X.putI 10 10 rfl dX3_copyFrom_109 fi_X3_43 sh_1 rfl rfl ?_
  rw [show mset (cpS M 1 106 (8 :: (7 :: (6 :: (5 :: (4 :: (3 :: (2 :: (1 :: [])))))))) (6 :: (2 :: []))) 1 10 (M 106 10) = (cpS M 1 106 (8 :: (7 :: (6 :: (5 :: (4 :: (3 :: (2 :: (1 :: [])))))))) (10 :: (6 :: (2 :: [])))) from cpS_fld (by decide)]
  refine X.aload_n dX3_copyFrom_112 rfl ?_
  refine X.aload_n dX3_copyFrom_113 rfl ?_
  refine X.getI (v := M 106 11) 11 dX3_copyFrom_114 fi_X3_46 sh_106 rfl (congrFun (cpS_src (d := 1) (s := 106) (i := 0) (by decide) (by decide) hR8) 11) ?_
  refine X.putI 11 11 rfl dX3_copyFrom_117 fi_X3_46 sh_1 rfl rfl ?_
  rw [show mset (cpS M 1 106 (8 :: (7 :: (6 :: (5 :: (4 :: (3 :: (2 :: (1 :: [])))))))) (10 :: (6 :: (2 :: [])))) 1 11 (M 106 11) = (cpS M 1 106 (8 :: (7 :: (6 :: (5 :: (4 :: (3 :: (2 :: (1 :: [])))))))) (11 :: (10 :: (6 :: (2 :: []))))) from cpS_fld (by decide)]
  refine X.iconst dX3_copyFrom_120 ?_
  refine X.istore_n (lv2 := [some (.inr (some 1)), some (.inr (some 106)), some (.inl 0)]) dX3_copyFrom_121 (Nat.le_of_ble_eq_true rfl) rfl ?_
  refine X.iload_n dX3_copyFrom_122 rfl ?_
  refine X.iconst dX3_copyFrom_123 ?_
  refine X.icmp_ge (tgt := 148) dX3_copyFrom_124 (by decide) (by decide) (by decide) (fun h => absurd h (by decide)) (fun h1 => ?_)
  refine X.aload_n dX3_copyFrom_127 rfl ?_
  refine X.getR dX3_copyFrom_128 fi_X3_52 sh_1 rfl ?_
  refine X.iload_n dX3_copyFrom_131 rfl ?_
  refine X.aald dX3_copyFrom_132 sh_10 (by decide) (by decide) (by decide) rfl ?_
  refine X.aload_n dX3_copyFrom_133 rfl ?_
  refine X.getR dX3_copyFrom_134 fi_X3_52 sh_106 rfl ?_
  refine X.iload_n dX3_copyFrom_137 rfl ?_
  refine X.aald dX3_copyFrom_138 sh_115 (by decide) (by decide) (by decide) rfl ?_
  have hR9 : ∀ x ∈ (14 :: (13 :: (12 :: (11 :: (8 :: (7 :: (6 :: (5 :: (4 :: (3 :: (2 :: (1 :: [])))))))))))), x < 20 := by intro x hx; simp only [List.mem_cons] at hx; rcases hx with h | h | h | h | hx <;> first | omega | exact hR8 x (List.mem_cons.mpr hx) | exact hR8 x (by simpa using hx)
  refine X.callV0 (As := [.inr (some 116)]) (rest := []) dX3_copyFrom_139 mk_X3_60 sh_11 (c_cpMem_1_106_0 M (8 :: (7 :: (6 :: (5 :: (4 :: (3 :: (2 :: (1 :: [])))))))) (11 :: (10 :: (6 :: (2 :: [])))) hR8) rfl (by decide) rfl (Nat.le_of_ble_eq_true rfl) ?_
  refine X.iinc (y := 1) (lv2 := [some (.inr (some 1)), some (.inr (some 106)), some (.inl 1)]) dX3_copyFrom_142 rfl rfl rfl ?_
  refine X.goto (tgt := 122) dX3_copyFrom_145 (by decide) ?_
  refine X.iload_n dX3_copyFrom_122 rfl ?_
  refine X.iconst dX3_copyFrom_123 ?_
  refine X.icmp_ge (tgt := 148) dX3_copyFrom_124 (by decide) (by decide) (by decide) (fun h => absurd h (by decide)) (fun h2 => ?_)
  refine X.aload_n dX3_copyFrom_127 rfl ?_
  refine X.getR dX3_copyFrom_128 fi_X3_52 sh_1 rfl ?_
  refine X.iload_n dX3_copyFrom_131 rfl ?_
  refine X.aald dX3_copyFrom_132 sh_10 (by decide) (by decide) (by decide) rfl ?_
  refine X.aload_n dX3_copyFrom_133 rfl ?_
  refine X.getR dX3_copyFrom_134 fi_X3_52 sh_106 rfl ?_
  refine X.iload_n dX3_copyFrom_137 rfl ?_
  refine X.aald dX3_copyFrom_138 sh_115 (by decide) (by decide) (by decide) rfl ?_
  have hR10 : ∀ x ∈ (19 :: (18 :: (17 :: (16 :: (14 :: (13 :: (12 :: (11 :: (8 :: (7 :: (6 :: (5 :: (4 :: (3 :: (2 :: (1 :: [])))))))))))))))), x < 20 := by intro x hx; simp only [List.mem_cons] at hx; rcases hx with h | h | h | h | hx <;> first | omega | exact hR9 x (List.mem_cons.mpr hx) | exact hR9 x (by simpa using hx)
  refine X.callV0 (As := [.inr (some 121)]) (rest := []) dX3_copyFrom_139 mk_X3_60 sh_16 (c_cpMem_1_106_1 M (14 :: (13 :: (12 :: (11 :: (8 :: (7 :: (6 :: (5 :: (4 :: (3 :: (2 :: (1 :: [])))))))))))) (11 :: (10 :: (6 :: (2 :: [])))) hR9) rfl (by decide) rfl (Nat.le_of_ble_eq_true rfl) ?_
  refine X.iinc (y := 2) (lv2 := [some (.inr (some 1)), some (.inr (some 106)), some (.inl 2)]) dX3_copyFrom_142 rfl rfl rfl ?_
  refine X.goto (tgt := 122) dX3_copyFrom_145 (by decide) ?_
  refine X.iload_n dX3_copyFrom_122 rfl ?_
  refine X.iconst dX3_copyFrom_123 ?_
  refine X.icmp_ge (tgt := 148) dX3_copyFrom_124 (by decide) (by decide) (by decide) (fun h3 => ?_) (fun h => absurd h (by decide))
  exact X.vret dX3_copyFrom_148 rfl rfl rfl
