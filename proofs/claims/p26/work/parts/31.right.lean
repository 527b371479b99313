/-! ===== THE LAW'S isRight ===== -/
section LQ
variable {M : Mem} {v : Vw} {z : Int} {H : Int → Vw} {tl : Int} {T : Int → Int}
theorem lq_known (hR : RF M (v, z, H, tl, T)) (s c r w : Int) {x : Int} (hs : inR s) (hc : inR c) (hr : inR r) (hw : inR w) (e : qKnown v s c r w = x) : CX mX6_known 2 [.inr (some 0), .inl s, .inl c, .inl r, .inl w] M (some (.inl x)) M := by
  subst e; exact c_known M v (VA.of hR.1.1) hR.1.2.1 hR.1.2.2.1 (VM.of hR.1.1) s c r w hs hc hr hw
theorem lq_cell (hR : RF M (v, z, H, tl, T)) (c r w : Int) {x : Int} (hc : inR c) (hr : inR r) (hw : inR w) (e : qCell v c r w = x) : CX mX6_cell 2 [.inr (some 0), .inl c, .inl r, .inl w] M (some (.inl x)) M := by
  subst e; exact c_cell M v (VA.of hR.1.1) hR.1.2.1 hR.1.2.2.1 c r w hc hr hw
theorem lq_scout (hR : RF M (v, z, H, tl, T)) (k w : Int) {x : Int} (hk : inR k) (hw : inR w) (e : qScout v k w = x) : CX mX6_scout 2 [.inr (some 0), .inl k, .inl w] M (some (.inl x)) M := by
  subst e; exact c_scout M v (VA.of hR.1.1) hR.1.2.1 hR.1.2.2.1 k w hk hw
theorem lq_light (hR : RF M (v, z, H, tl, T)) (k w : Int) {x : Int} (hk : inR k) (hw : inR w) (e : qLight v k w = x) : CX mX6_light 2 [.inr (some 0), .inl k, .inl w] M (some (.inl x)) M := by
  subst e; exact c_light M v (VA.of hR.1.1) hR.1.2.1 k w hk hw
theorem lq_count (hR : RF M (v, z, H, tl, T)) (w : Int) {x : Int} (hw : inR w) (e : qCount v z tl w = x) : CX mX6_count 2 [.inr (some 0), .inl w] M (some (.inl x)) M := by
  subst e; exact c_count M v (VA.of hR.1.1) hR.1.2.1 hR.1.2.2.1 (VM.of hR.1.1) z tl w hR.1.2.2.2.2.1 hR.2.1 hw
theorem lq_lookout (hR : RF M (v, z, H, tl, T)) (k dd : Int) {x : Int} (hk : inR k) (hd : inR dd) (e : qLook v k dd = x) : CX mX6_lookout 6 [.inr (some 0), .inl k, .inl dd] M (some (.inl x)) M := by
  subst e; exact c_lookout M v (VA.of hR.1.1) hR.1.2.1 hR.1.2.2.1 k dd hk hd
theorem lq_alone (hR : RF M (v, z, H, tl, T)) (k : Int) {x : Int} (hk : inR k) (e : qAlone v k = x) : CX mX6_alone 2 [.inr (some 0), .inl k] M (some (.inl x)) M := by
  subst e; exact c_alone M v (VA.of hR.1.1) hR.1.2.1 hR.1.2.2.1 k hk
end LQ
def RQ (σ : AbS) : Option AV → Mem → Prop := fun r M' => r = some (.inl 1) ∧ RF M' σ
set_option maxHeartbeats 4000000 in
set_option maxRecDepth 100000 in
theorem c_isRight (M : Mem) (v : Vw) (z : Int) (H : Int → Vw) (tl : Int) (T : Int → Int) (hR : RF M (v, z, H, tl, T)) (hL : LK v) : CQ mL_isRight 7 [.inr (some 0)] M (RQ (v, z, H, tl, T)) := by
  have hS : SI v := hR.1.2.1
  have n0 := hS.n0
  have n1 := hS.n1
  have n2 := hS.n2
  have cl := cnt_range (fun c => lit v c) 120 0
  refine CX.of (by decide +kernel) (Nat.le_of_ble_eq_true rfl) [some (.inr (some 0)), none, none, none, none, none, none, none, none, none, none] rfl ?_
  refine X.iconst dL_isRight_0 ?_
  refine X.istore_n (lv2 := [some (.inr (some 0)), some (.inl 0), none, none, none, none, none, none, none, none, none]) dL_isRight_1 (Nat.le_of_ble_eq_true rfl) rfl ?_
  refine X.iconst dL_isRight_2 ?_
  refine X.istore_n (lv2 := [some (.inr (some 0)), some (.inl 0), some (.inl 0), none, none, none, none, none, none, none, none]) dL_isRight_3 (Nat.le_of_ble_eq_true rfl) rfl ?_
  have L4 : ∀ sd, 0 ≤ sd → sd ≤ 2 → ∀ lt : Int, ∀ x3 : Option AV, ∀ x4 : Option AV, ∀ x5 : Option AV, ∀ x6 : Option AV, ∀ x7 : Option AV, ∀ x8 : Option AV, ∀ x9 : Option AV, ∀ x10 : Option AV, ((sd = 0 → lt = 0) ∧ (sd = 1 → lt = cnt (fun c => lit v c) 120 0) ∧ (sd = 2 → lt = 2 * cnt (fun c => lit v c) 120 0)) → VQ mL_isRight 7 4 [some (.inr (some 0)), some (.inl lt), some (.inl sd), x3, x4, x5, x6, x7, x8, x9, x10] [] M (RQ (v, z, H, tl, T)) := by
    refine down_ind 0 2 ?_ ?_
    · skip
      intro lt x3 x4 x5 x6 x7 x8 x9 x10 hlt
      refine X.iload_n dL_isRight_4 rfl ?_
      refine X.iconst dL_isRight_5 ?_
      refine X.icmp_ge (tgt := 325) dL_isRight_6 (by decide) ⟨by omega, by omega⟩ (by decide) (fun h1 => ?_) (fun h => by exfalso; omega)
      refine X.iconst dL_isRight_325 ?_
      refine X.istore_n (lv2 := [some (.inr (some 0)), some (.inl lt), some (.inl 0), x3, x4, x5, x6, x7, x8, x9, x10]) dL_isRight_326 (Nat.le_of_ble_eq_true rfl) rfl ?_
      have L327 : ∀ k, 0 ≤ k → k ≤ (v 0 0) → ∀ x3 : Option AV, ∀ x4 : Option AV, ∀ x5 : Option AV, ∀ x6 : Option AV, ∀ x7 : Option AV, ∀ x8 : Option AV, ∀ x9 : Option AV, ∀ x10 : Option AV, ∀ M1 : Mem, RF M1 (v, z, H, tl, T) → VQ mL_isRight 7 327 [some (.inr (some 0)), some (.inl lt), some (.inl k), x3, x4, x5, x6, x7, x8, x9, x10] [] M1 (RQ (v, z, H, tl, T)) := by
        refine down_ind 0 (v 0 0) ?_ ?_
        · skip
          intro x3 x4 x5 x6 x7 x8 x9 x10 M1 hR1
          refine X.iload_n dL_isRight_327 rfl ?_
          refine X.aload_n dL_isRight_328 rfl ?_
          refine X.iconst dL_isRight_329 ?_
          refine X.callV1 (As := [.inl 0]) (rest := [.inl (v 0 0)]) dL_isRight_330 mk_L_12 sh_0 (lq_count (x := v 0 0) hR1 0 (by decide) qCount_0) rfl (by decide) rfl (Nat.le_of_ble_eq_true rfl) ?_
          refine X.icmp_ge (tgt := 636) dL_isRight_333 (by decide) ⟨by omega, by omega⟩ ⟨by omega, by omega⟩ (fun h2 => ?_) (fun h => by exfalso; omega)
          refine X.iload_n dL_isRight_636 rfl ?_
          refine X.iconst dL_isRight_637 ?_
          refine X.aload_n dL_isRight_638 rfl ?_
          refine X.iconst dL_isRight_639 ?_
          refine X.callV1 (As := [.inl 3]) (rest := [.inl 2, .inl lt]) dL_isRight_640 mk_L_12 sh_0 (lq_count (x := cnt (fun c => lit v c) 120 0) hR1 3 (by decide) qCount_3) rfl (by decide) rfl (Nat.le_of_ble_eq_true rfl) ?_
          refine X.imul (c := 2 * (cnt (fun c => lit v c) 120 0)) dL_isRight_643 rfl ?_
          refine X.icmp_ne (tgt := 651) dL_isRight_644 (by decide) ⟨by omega, by omega⟩ ⟨by omega, by omega⟩ (fun h => by exfalso; omega) (fun h3 => ?_)
          refine X.iconst dL_isRight_647 ?_
          refine X.goto (tgt := 652) dL_isRight_648 (by decide) ?_
          exact Y.zret dL_isRight_652 rfl (by decide) ⟨rfl, hR1⟩
        · intro k hk1 hk2 ihk
          intro x3 x4 x5 x6 x7 x8 x9 x10 M1 hR1
          refine X.iload_n dL_isRight_327 rfl ?_
          refine X.aload_n dL_isRight_328 rfl ?_
          refine X.iconst dL_isRight_329 ?_
          refine X.callV1 (As := [.inl 0]) (rest := [.inl k]) dL_isRight_330 mk_L_12 sh_0 (lq_count (x := v 0 0) hR1 0 (by decide) qCount_0) rfl (by decide) rfl (Nat.le_of_ble_eq_true rfl) ?_
          refine X.icmp_ge (tgt := 636) dL_isRight_333 (by decide) ⟨by omega, by omega⟩ ⟨by omega, by omega⟩ (fun h => by exfalso; omega) (fun h4 => ?_)
          have hkk : 0 ≤ k ∧ k < v 0 0 := ⟨hk1, hk2⟩
          have h4 := hS.r4 k
          have h3 := hS.r3 k
          have h5 := hS.r5 k
          have hon := hS.on hk1 hk2
          have hcr : 0 ≤ v 4 k % 12 ∧ v 4 k % 12 ≤ 11 ∧ 0 ≤ v 4 k / 12 ∧ v 4 k / 12 ≤ 9 := by omega
          have hx : v 4 k / 12 * 12 + v 4 k % 12 = v 4 k := by omega
          have ha := qAlone_le hkk
          have hb := scout_le hkk
          have c1 := cnt_range (fun c => sees v k c) 120 0
          have c2 := cnt_range (fun c => sSees v (v 3 k) c) 120 0
          refine X.aload_n dL_isRight_336 rfl ?_
          refine X.iload_n dL_isRight_337 rfl ?_
          refine X.iconst dL_isRight_338 ?_
          refine X.callV1 (As := [.inl k, .inl 1]) (rest := []) dL_isRight_339 mk_L_26 sh_0 (lq_scout (x := v 4 k % 12) hR1 k 1 ⟨by omega, by omega⟩ (by decide) (qScout_1 hkk)) rfl (by decide) rfl (Nat.le_of_ble_eq_true rfl) ?_
          refine X.istore_n (lv2 := [some (.inr (some 0)), some (.inl lt), some (.inl k), some (.inl (v 4 k % 12)), x4, x5, x6, x7, x8, x9, x10]) dL_isRight_342 (Nat.le_of_ble_eq_true rfl) rfl ?_
          refine X.aload_n dL_isRight_343 rfl ?_
          refine X.iload_n dL_isRight_344 rfl ?_
          refine X.iconst dL_isRight_345 ?_
          refine X.callV1 (As := [.inl k, .inl 2]) (rest := []) dL_isRight_346 mk_L_26 sh_0 (lq_scout (x := v 4 k / 12) hR1 k 2 ⟨by omega, by omega⟩ (by decide) (qScout_2 hkk)) rfl (by decide) rfl (Nat.le_of_ble_eq_true rfl) ?_
          refine X.istore (lv2 := [some (.inr (some 0)), some (.inl lt), some (.inl k), some (.inl (v 4 k % 12)), some (.inl (v 4 k / 12)), x5, x6, x7, x8, x9, x10]) dL_isRight_349 (Nat.le_of_ble_eq_true rfl) rfl ?_
          refine X.aload_n dL_isRight_351 rfl ?_
          refine X.iload_n dL_isRight_352 rfl ?_
          refine X.iconst dL_isRight_353 ?_
          refine X.callV1 (As := [.inl k, .inl 0]) (rest := []) dL_isRight_354 mk_L_26 sh_0 (lq_scout (x := v 3 k) hR1 k 0 ⟨by omega, by omega⟩ (by decide) (qScout_0 hkk)) rfl (by decide) rfl (Nat.le_of_ble_eq_true rfl) ?_
          refine X.istore (lv2 := [some (.inr (some 0)), some (.inl lt), some (.inl k), some (.inl (v 4 k % 12)), some (.inl (v 4 k / 12)), some (.inl (v 3 k)), x6, x7, x8, x9, x10]) dL_isRight_357 (Nat.le_of_ble_eq_true rfl) rfl ?_
          refine X.aload_n dL_isRight_359 rfl ?_
          refine X.iload_n dL_isRight_360 rfl ?_
          refine X.iload dL_isRight_361 rfl ?_
          refine X.iconst dL_isRight_363 ?_
          refine X.callV1 (As := [.inl (v 4 k % 12), .inl (v 4 k / 12), .inl 3]) (rest := []) dL_isRight_364 mk_L_18 sh_0 (lq_cell (x := k) hR1 (v 4 k % 12) (v 4 k / 12) 3 ⟨by omega, by omega⟩ ⟨by omega, by omega⟩ (by decide) ((qCell_3 hcr).trans (by rw [hx]; exact sIn_own hS hkk))) rfl (by decide) rfl (Nat.le_of_ble_eq_true rfl) ?_
          refine X.iload_n dL_isRight_367 rfl ?_
          refine X.icmp_ne (tgt := 460) dL_isRight_368 (by decide) ⟨by omega, by omega⟩ ⟨by omega, by omega⟩ (fun h => by exfalso; omega) (fun h5 => ?_)
          refine X.aload_n dL_isRight_371 rfl ?_
          refine X.iload_n dL_isRight_372 rfl ?_
          refine X.iload dL_isRight_373 rfl ?_
          refine X.iconst dL_isRight_375 ?_
          refine X.callV1 (As := [.inl (v 4 k % 12), .inl (v 4 k / 12), .inl 1]) (rest := []) dL_isRight_376 mk_L_18 sh_0 (lq_cell (x := 0) hR1 (v 4 k % 12) (v 4 k / 12) 1 ⟨by omega, by omega⟩ ⟨by omega, by omega⟩ (by decide) ((qCell_1 hcr).trans (by rw [hx]; exact hon.2))) rfl (by decide) rfl (Nat.le_of_ble_eq_true rfl) ?_
          refine X.if_ne (tgt := 460) dL_isRight_379 (by decide) (by decide) (fun h => absurd h (by decide)) (fun h6 => ?_)
          refine X.aload_n dL_isRight_382 rfl ?_
          refine X.iload dL_isRight_383 rfl ?_
          refine X.iload_n dL_isRight_385 rfl ?_
          refine X.iload dL_isRight_386 rfl ?_
          refine X.iconst dL_isRight_388 ?_
          refine X.callV1 (As := [.inl (v 3 k), .inl (v 4 k % 12), .inl (v 4 k / 12), .inl 4]) (rest := []) dL_isRight_389 mk_L_22 sh_0 (lq_known (x := 1) hR1 (v 3 k) (v 4 k % 12) (v 4 k / 12) 4 ⟨by omega, by omega⟩ ⟨by omega, by omega⟩ ⟨by omega, by omega⟩ (by decide) ((qKnown_4 h3 hcr).trans (by rw [hx]; exact bi_t (sSees_own hS hkk)))) rfl (by decide) rfl (Nat.le_of_ble_eq_true rfl) ?_
          refine X.iconst dL_isRight_392 ?_
          refine X.icmp_ne (tgt := 460) dL_isRight_393 (by decide) (by decide) (by decide) (fun h => absurd h (by decide)) (fun h7 => ?_)
          refine X.aload_n dL_isRight_396 rfl ?_
          refine X.iconst dL_isRight_397 ?_
          refine X.iload dL_isRight_398 rfl ?_
          refine X.isub (c := 1 - (v 3 k)) dL_isRight_400 rfl ?_
          refine X.iload_n dL_isRight_401 rfl ?_
          refine X.iload dL_isRight_402 rfl ?_
          refine X.iconst dL_isRight_404 ?_
          refine X.callV1 (As := [.inl (1 - (v 3 k)), .inl (v 4 k % 12), .inl (v 4 k / 12), .inl 4]) (rest := []) dL_isRight_405 mk_L_22 sh_0 (lq_known (x := bi (sSees v (1 - v 3 k) (v 4 k))) hR1 (1 - (v 3 k)) (v 4 k % 12) (v 4 k / 12) 4 ⟨by omega, by omega⟩ ⟨by omega, by omega⟩ ⟨by omega, by omega⟩ (by decide) ((qKnown_4 (by omega) hcr).trans (by rw [hx]))) rfl (by decide) rfl (Nat.le_of_ble_eq_true rfl) ?_
          refine X.aload_n dL_isRight_408 rfl ?_
          refine X.iload_n dL_isRight_409 rfl ?_
          refine X.iconst dL_isRight_410 ?_
          refine X.callV1 (As := [.inl k, .inl 5]) (rest := [.inl (bi (sSees v (1 - v 3 k) (v 4 k)))]) dL_isRight_411 mk_L_26 sh_0 (lq_scout (x := bi (sSees v (1 - v 3 k) (v 4 k))) hR1 k 5 ⟨by omega, by omega⟩ (by decide) (qScout_5 hkk)) rfl (by decide) rfl (Nat.le_of_ble_eq_true rfl) ?_
          refine X.icmp_ne (tgt := 460) dL_isRight_414 (by decide) (bi_inR _) (bi_inR _) (fun h => by exfalso; omega) (fun h8 => ?_)
          refine X.aload_n dL_isRight_417 rfl ?_
          refine X.iload_n dL_isRight_418 rfl ?_
          refine X.iload_n dL_isRight_419 rfl ?_
          refine X.iload dL_isRight_420 rfl ?_
          refine Y.callV (As := [.inl k, .inl (v 4 k % 12), .inl (v 4 k / 12)]) (rest := []) dL_isRight_422 mk_L_68 sh_0 (c_way M1 v z H tl T hR1 k (v 4 k % 12) (v 4 k / 12) ⟨by omega, by omega⟩ ⟨by omega, by omega⟩ ⟨by omega, by omega⟩) rfl (by decide) rfl (Nat.le_of_ble_eq_true rfl) (fun r9 M9 h9 => ?_)
          have h90 : r9 = some (.inl 0) := h9.1.trans (congrArg (fun q => some (Sum.inl q : AV)) (qWay_own hS hkk))
          have hR2 : RF M9 (v, z, H, tl, T) := h9.2.1
          subst h90
          refine X.if_ne (tgt := 460) dL_isRight_425 (by decide) (by decide) (fun h => absurd h (by decide)) (fun h9 => ?_)
          refine X.aload_n dL_isRight_428 rfl ?_
          refine X.iload_n dL_isRight_429 rfl ?_
          refine X.callV1 (As := [.inl k]) (rest := []) dL_isRight_430 mk_L_71 sh_0 (lq_alone (x := qAlone v k) hR2 k ⟨by omega, by omega⟩ rfl) rfl (by decide) rfl (Nat.le_of_ble_eq_true rfl) ?_
          refine X.aload_n dL_isRight_433 rfl ?_
          refine X.iload_n dL_isRight_434 rfl ?_
          refine X.iconst dL_isRight_435 ?_
          refine X.callV1 (As := [.inl k, .inl 4]) (rest := [.inl (qAlone v k)]) dL_isRight_436 mk_L_26 sh_0 (lq_scout (x := cnt (fun c => sees v k c) 120 0) hR2 k 4 ⟨by omega, by omega⟩ (by decide) (qScout_4 hkk)) rfl (by decide) rfl (Nat.le_of_ble_eq_true rfl) ?_
          refine X.icmp_gt (tgt := 460) dL_isRight_439 (by decide) ⟨by omega, by omega⟩ ⟨by omega, by omega⟩ (fun h => by exfalso; omega) (fun h10 => ?_)
          refine X.aload_n dL_isRight_442 rfl ?_
          refine X.iload_n dL_isRight_443 rfl ?_
          refine X.iconst dL_isRight_444 ?_
          refine X.callV1 (As := [.inl k, .inl 4]) (rest := []) dL_isRight_445 mk_L_26 sh_0 (lq_scout (x := cnt (fun c => sees v k c) 120 0) hR2 k 4 ⟨by omega, by omega⟩ (by decide) (qScout_4 hkk)) rfl (by decide) rfl (Nat.le_of_ble_eq_true rfl) ?_
          refine X.aload_n dL_isRight_448 rfl ?_
          refine X.bipush dL_isRight_449 (by decide) ?_
          refine X.iload dL_isRight_451 rfl ?_
          refine X.iadd (c := 6 + (v 3 k)) dL_isRight_453 rfl ?_
          refine X.callV1 (As := [.inl (6 + (v 3 k))]) (rest := [.inl (cnt (fun c => sees v k c) 120 0)]) dL_isRight_454 mk_L_12 sh_0 (lq_count (x := cnt (fun c => sSees v (v 3 k) c) 120 0) hR2 (6 + (v 3 k)) ⟨by omega, by omega⟩ (qCount_6 h3)) rfl (by decide) rfl (Nat.le_of_ble_eq_true rfl) ?_
          refine X.icmp_le (tgt := 462) dL_isRight_457 (by decide) ⟨by omega, by omega⟩ ⟨by omega, by omega⟩ (fun h11 => ?_) (fun h => by exfalso; omega)
          refine X.iconst dL_isRight_462 ?_
          refine X.aload_n dL_isRight_463 rfl ?_
          refine X.iload_n dL_isRight_464 rfl ?_
          refine X.iconst dL_isRight_465 ?_
          refine X.callV1 (As := [.inl k, .inl 3]) (rest := [.inl 2]) dL_isRight_466 mk_L_26 sh_0 (lq_scout (x := v 5 k) hR2 k 3 ⟨by omega, by omega⟩ (by decide) (qScout_3 hkk)) rfl (by decide) rfl (Nat.le_of_ble_eq_true rfl) ?_
          refine X.imul (c := 2 * (v 5 k)) dL_isRight_469 rfl ?_
          refine X.istore (lv2 := [some (.inr (some 0)), some (.inl lt), some (.inl k), some (.inl (v 4 k % 12)), some (.inl (v 4 k / 12)), some (.inl (v 3 k)), some (.inl (2 * (v 5 k))), x7, x8, x9, x10]) dL_isRight_470 (Nat.le_of_ble_eq_true rfl) rfl ?_
          obtain ⟨x, hx0, hxe, hxd, hxw⟩ := look_spec hS hkk (dd := 2) (by omega)
          have hxb := dist_bd hxd
          have hi1 := iabs_r (a := x % 12 - v 4 k % 12)
          have hi2 := iabs_r (a := x / 12 - v 4 k / 12)
          refine X.aload_n dL_isRight_472 rfl ?_
          refine X.iload_n dL_isRight_473 rfl ?_
          refine X.iconst dL_isRight_474 ?_
          refine X.callV1 (As := [.inl k, .inl 2]) (rest := []) dL_isRight_475 mk_L_74 sh_0 (lq_lookout (x := 100 * (x % 12) + x / 12) hR2 k 2 ⟨by omega, by omega⟩ (by decide) hxe) rfl (by decide) rfl (Nat.le_of_ble_eq_true rfl) ?_
          refine X.istore (lv2 := [some (.inr (some 0)), some (.inl lt), some (.inl k), some (.inl (v 4 k % 12)), some (.inl (v 4 k / 12)), some (.inl (v 3 k)), some (.inl (2 * (v 5 k))), some (.inl (100 * (x % 12) + x / 12)), x8, x9, x10]) dL_isRight_478 (Nat.le_of_ble_eq_true rfl) rfl ?_
          refine X.iload dL_isRight_480 rfl ?_
          refine X.bipush dL_isRight_482 (by decide) ?_
          refine X.idiv (c := x % 12) dL_isRight_484 (by omega) (by decide) (by omega) ?_
          refine X.istore (lv2 := [some (.inr (some 0)), some (.inl lt), some (.inl k), some (.inl (v 4 k % 12)), some (.inl (v 4 k / 12)), some (.inl (v 3 k)), some (.inl (2 * (v 5 k))), some (.inl (100 * (x % 12) + x / 12)), some (.inl (x % 12)), x9, x10]) dL_isRight_485 (Nat.le_of_ble_eq_true rfl) rfl ?_
          refine X.iload dL_isRight_487 rfl ?_
          refine X.bipush dL_isRight_489 (by decide) ?_
          refine X.irem (c := x / 12) dL_isRight_491 (by omega) (by decide) (by omega) ?_
          refine X.istore (lv2 := [some (.inr (some 0)), some (.inl lt), some (.inl k), some (.inl (v 4 k % 12)), some (.inl (v 4 k / 12)), some (.inl (v 3 k)), some (.inl (2 * (v 5 k))), some (.inl (100 * (x % 12) + x / 12)), some (.inl (x % 12)), some (.inl (x / 12)), x10]) dL_isRight_492 (Nat.le_of_ble_eq_true rfl) rfl ?_
          refine X.iload dL_isRight_494 rfl ?_
          refine X.if_lt (tgt := 554) dL_isRight_496 (by decide) ⟨by omega, by omega⟩ (fun h => by exfalso; omega) (fun h12 => ?_)
          refine X.iload dL_isRight_499 rfl ?_
          refine X.iload_n dL_isRight_501 rfl ?_
          refine X.callS1 (As := [.inl (x % 12), .inl (v 4 k % 12)]) (rest := []) dL_isRight_502 mk_L_77 (c_apart M9 (x % 12) (v 4 k % 12) ⟨by omega, by omega⟩ ⟨by omega, by omega⟩) rfl (by decide) rfl (Nat.le_of_ble_eq_true rfl) ?_
          refine X.iconst dL_isRight_505 ?_
          refine X.icmp_gt (tgt := 554) dL_isRight_506 (by decide) ⟨by omega, by omega⟩ (by decide) (fun h => by exfalso; omega) (fun h13 => ?_)
          refine X.iload dL_isRight_509 rfl ?_
          refine X.iload dL_isRight_511 rfl ?_
          refine X.callS1 (As := [.inl (x / 12), .inl (v 4 k / 12)]) (rest := []) dL_isRight_513 mk_L_77 (c_apart M9 (x / 12) (v 4 k / 12) ⟨by omega, by omega⟩ ⟨by omega, by omega⟩) rfl (by decide) rfl (Nat.le_of_ble_eq_true rfl) ?_
          refine X.iconst dL_isRight_516 ?_
          refine X.icmp_gt (tgt := 554) dL_isRight_517 (by decide) ⟨by omega, by omega⟩ (by decide) (fun h => by exfalso; omega) (fun h14 => ?_)
          refine X.aload_n dL_isRight_520 rfl ?_
          refine X.iload dL_isRight_521 rfl ?_
          refine X.iload dL_isRight_523 rfl ?_
          refine X.iconst dL_isRight_525 ?_
          refine X.callV1 (As := [.inl (x % 12), .inl (x / 12), .inl 1]) (rest := []) dL_isRight_526 mk_L_18 sh_0 (lq_cell (x := 0) hR2 (x % 12) (x / 12) 1 ⟨by omega, by omega⟩ ⟨by omega, by omega⟩ (by decide) ((qCell_1 (by omega)).trans (by rw [show x / 12 * 12 + x % 12 = x by omega]; exact hxw))) rfl (by decide) rfl (Nat.le_of_ble_eq_true rfl) ?_
          refine X.if_ne (tgt := 554) dL_isRight_529 (by decide) (by decide) (fun h => absurd h (by decide)) (fun h15 => ?_)
          refine X.aload_n dL_isRight_532 rfl ?_
          refine X.iload_n dL_isRight_533 rfl ?_
          refine X.iconst dL_isRight_534 ?_
          refine X.callV1 (As := [.inl k, .inl 0]) (rest := []) dL_isRight_535 mk_L_74 sh_0 (lq_lookout (x := 100 * (v 4 k % 12) + v 4 k / 12) hR2 k 0 ⟨by omega, by omega⟩ (by decide) (look_own hS hkk)) rfl (by decide) rfl (Nat.le_of_ble_eq_true rfl) ?_
          refine X.bipush dL_isRight_538 (by decide) ?_
          refine X.iload_n dL_isRight_540 rfl ?_
          refine X.imul (c := 100 * (v 4 k % 12)) dL_isRight_541 rfl ?_
          refine X.iload dL_isRight_542 rfl ?_
          refine X.iadd (c := (100 * (v 4 k % 12)) + (v 4 k / 12)) dL_isRight_544 rfl ?_
          refine X.icmp_ne (tgt := 554) dL_isRight_545 (by decide) ⟨by omega, by omega⟩ ⟨by omega, by omega⟩ (fun h => by exfalso; omega) (fun h16 => ?_)
          refine X.iload dL_isRight_548 rfl ?_
          refine X.iconst dL_isRight_550 ?_
          refine X.icmp_ge (tgt := 556) dL_isRight_551 (by decide) ⟨by omega, by omega⟩ (by decide) (fun h17 => ?_) (fun h => by exfalso; omega)
          refine X.aload_n dL_isRight_556 rfl ?_
          refine X.iload_n dL_isRight_557 rfl ?_
          refine X.iload_n dL_isRight_558 rfl ?_
          refine X.iconst dL_isRight_559 ?_
          refine X.iadd (c := (v 4 k % 12) + 3) dL_isRight_560 rfl ?_
          refine X.bipush dL_isRight_561 (by decide) ?_
          refine X.irem (c := (v 4 k % 12 + 3) % 12) dL_isRight_563 (by omega) (by decide) rfl ?_
          refine X.iload dL_isRight_564 rfl ?_
          refine Y.callV (As := [.inl k, .inl ((v 4 k % 12 + 3) % 12), .inl (v 4 k / 12)]) (rest := []) dL_isRight_566 mk_L_68 sh_0 (c_way M9 v z H tl T hR2 k ((v 4 k % 12 + 3) % 12) (v 4 k / 12) ⟨by omega, by omega⟩ ⟨by omega, by omega⟩ ⟨by omega, by omega⟩) rfl (by decide) rfl (Nat.le_of_ble_eq_true rfl) (fun r9 M9 h9 => ?_)
          have h90 : r9 = some (.inl (qWay v k ((v 4 k % 12 + 3) % 12) (v 4 k / 12))) := h9.1
          have hR3 : RF M9 (v, z, H, tl, T) := h9.2.1
          subst h90
          have hw := qWay_far hS hkk (c := ((v 4 k % 12 + 3) % 12)) (r := v 4 k / 12) (by omega) (by omega)
          refine X.istore (lv2 := [some (.inr (some 0)), some (.inl lt), some (.inl k), some (.inl (v 4 k % 12)), some (.inl (v 4 k / 12)), some (.inl (v 3 k)), some (.inl (2 * (v 5 k))), some (.inl (100 * (x % 12) + x / 12)), some (.inl (x % 12)), some (.inl (x / 12)), some (.inl (qWay v k ((v 4 k % 12 + 3) % 12) (v 4 k / 12)))]) dL_isRight_569 (Nat.le_of_ble_eq_true rfl) rfl ?_
          refine X.iload dL_isRight_571 rfl ?_
          refine X.if_lt (tgt := 630) dL_isRight_573 (by decide) ⟨by omega, by omega⟩ (fun h18 => ?_) (fun h18 => ?_)
          · skip
            refine X.iinc (y := k + 1) (lv2 := [some (.inr (some 0)), some (.inl lt), some (.inl (k + 1)), some (.inl (v 4 k % 12)), some (.inl (v 4 k / 12)), some (.inl (v 3 k)), some (.inl (2 * (v 5 k))), some (.inl (100 * (x % 12) + x / 12)), some (.inl (x % 12)), some (.inl (x / 12)), some (.inl (qWay v k ((v 4 k % 12 + 3) % 12) (v 4 k / 12)))]) dL_isRight_630 rfl rfl rfl ?_
            refine X.goto (tgt := 327) dL_isRight_633 (by decide) ?_
            exact ihk (some (.inl (v 4 k % 12))) (some (.inl (v 4 k / 12))) (some (.inl (v 3 k))) (some (.inl (2 * (v 5 k)))) (some (.inl (100 * (x % 12) + x / 12))) (some (.inl (x % 12))) (some (.inl (x / 12))) (some (.inl (qWay v k ((v 4 k % 12 + 3) % 12) (v 4 k / 12)))) _ hR3
          · skip
            have hw2 := hw.2 (by omega)
            have hi3 := iabs_r (a := ((v 4 k % 12 + 3) % 12) - v 4 k % 12)
            have hmr := me_r hS hL.2 h3 (v 4 k / 12 * 12 + ((v 4 k % 12 + 3) % 12))
            refine X.iload dL_isRight_576 rfl ?_
            refine X.iload_n dL_isRight_578 rfl ?_
            refine X.iconst dL_isRight_579 ?_
            refine X.iadd (c := (v 4 k % 12) + 3) dL_isRight_580 rfl ?_
            refine X.bipush dL_isRight_581 (by decide) ?_
            refine X.irem (c := (v 4 k % 12 + 3) % 12) dL_isRight_583 (by omega) (by decide) rfl ?_
            refine X.iload_n dL_isRight_584 rfl ?_
            refine X.callS1 (As := [.inl ((v 4 k % 12 + 3) % 12), .inl (v 4 k % 12)]) (rest := [.inl (qWay v k ((v 4 k % 12 + 3) % 12) (v 4 k / 12))]) dL_isRight_585 mk_L_77 (c_apart M9 ((v 4 k % 12 + 3) % 12) (v 4 k % 12) ⟨by omega, by omega⟩ ⟨by omega, by omega⟩) rfl (by decide) rfl (Nat.le_of_ble_eq_true rfl) ?_
            refine X.icmp_lt (tgt := 628) dL_isRight_588 (by decide) ⟨by omega, by omega⟩ ⟨by omega, by omega⟩ (fun h => by exfalso; omega) (fun h19 => ?_)
            refine X.aload_n dL_isRight_591 rfl ?_
            refine X.iload dL_isRight_592 rfl ?_
            refine X.iload_n dL_isRight_594 rfl ?_
            refine X.iconst dL_isRight_595 ?_
            refine X.iadd (c := (v 4 k % 12) + 3) dL_isRight_596 rfl ?_
            refine X.bipush dL_isRight_597 (by decide) ?_
            refine X.irem (c := (v 4 k % 12 + 3) % 12) dL_isRight_599 (by omega) (by decide) rfl ?_
            refine X.iload dL_isRight_600 rfl ?_
            refine X.iconst dL_isRight_602 ?_
            refine X.callV1 (As := [.inl (v 3 k), .inl ((v 4 k % 12 + 3) % 12), .inl (v 4 k / 12), .inl 0]) (rest := []) dL_isRight_603 mk_L_22 sh_0 (lq_known (x := me v (v 3 k) (v 4 k / 12 * 12 + ((v 4 k % 12 + 3) % 12))) hR3 (v 3 k) ((v 4 k % 12 + 3) % 12) (v 4 k / 12) 0 ⟨by omega, by omega⟩ ⟨by omega, by omega⟩ ⟨by omega, by omega⟩ (by decide) (qKnown_0 h3 (by omega))) rfl (by decide) rfl (Nat.le_of_ble_eq_true rfl) ?_
            refine X.if_eq (tgt := 628) dL_isRight_606 (by decide) ⟨by omega, by omega⟩ (fun h => by exfalso; omega) (fun h20 => ?_)
            refine X.aload_n dL_isRight_609 rfl ?_
            refine X.iload dL_isRight_610 rfl ?_
            refine X.iload_n dL_isRight_612 rfl ?_
            refine X.iconst dL_isRight_613 ?_
            refine X.iadd (c := (v 4 k % 12) + 3) dL_isRight_614 rfl ?_
            refine X.bipush dL_isRight_615 (by decide) ?_
            refine X.irem (c := (v 4 k % 12 + 3) % 12) dL_isRight_617 (by omega) (by decide) rfl ?_
            refine X.iload dL_isRight_618 rfl ?_
            refine X.iconst dL_isRight_620 ?_
            refine X.callV1 (As := [.inl (v 3 k), .inl ((v 4 k % 12 + 3) % 12), .inl (v 4 k / 12), .inl 2]) (rest := []) dL_isRight_621 mk_L_22 sh_0 (lq_known (x := 0) hR3 (v 3 k) ((v 4 k % 12 + 3) % 12) (v 4 k / 12) 2 ⟨by omega, by omega⟩ ⟨by omega, by omega⟩ ⟨by omega, by omega⟩ (by decide) ((qKnown_2 h3 (by omega)).trans ((if_neg (by omega)).trans hw2.2.2))) rfl (by decide) rfl (Nat.le_of_ble_eq_true rfl) ?_
            refine X.iconst dL_isRight_624 ?_
            refine X.icmp_ne (tgt := 630) dL_isRight_625 (by decide) (by decide) (by decide) (fun h21 => ?_) (fun h => absurd h (by decide))
            refine X.iinc (y := k + 1) (lv2 := [some (.inr (some 0)), some (.inl lt), some (.inl (k + 1)), some (.inl (v 4 k % 12)), some (.inl (v 4 k / 12)), some (.inl (v 3 k)), some (.inl (2 * (v 5 k))), some (.inl (100 * (x % 12) + x / 12)), some (.inl (x % 12)), some (.inl (x / 12)), some (.inl (qWay v k ((v 4 k % 12 + 3) % 12) (v 4 k / 12)))]) dL_isRight_630 rfl rfl rfl ?_
            refine X.goto (tgt := 327) dL_isRight_633 (by decide) ?_
            exact ihk (some (.inl (v 4 k % 12))) (some (.inl (v 4 k / 12))) (some (.inl (v 3 k))) (some (.inl (2 * (v 5 k)))) (some (.inl (100 * (x % 12) + x / 12))) (some (.inl (x % 12))) (some (.inl (x / 12))) (some (.inl (qWay v k ((v 4 k % 12 + 3) % 12) (v 4 k / 12)))) _ hR3
      exact L327 0 (by omega) (by omega) x3 x4 x5 x6 x7 x8 x9 x10 _ hR
    · intro sd hsd1 hsd2 ihsd
      intro lt x3 x4 x5 x6 x7 x8 x9 x10 hlt
      have hs01 : 0 ≤ sd ∧ sd ≤ 1 := by omega
      refine X.iload_n dL_isRight_4 rfl ?_
      refine X.iconst dL_isRight_5 ?_
      refine X.icmp_ge (tgt := 325) dL_isRight_6 (by decide) ⟨by omega, by omega⟩ (by decide) (fun h => by exfalso; omega) (fun h22 => ?_)
      refine X.iconst dL_isRight_9 ?_
      refine X.istore_n (lv2 := [some (.inr (some 0)), some (.inl lt), some (.inl sd), some (.inl 0), x4, x5, x6, x7, x8, x9, x10]) dL_isRight_10 (Nat.le_of_ble_eq_true rfl) rfl ?_
      refine X.iconst dL_isRight_11 ?_
      refine X.istore (lv2 := [some (.inr (some 0)), some (.inl lt), some (.inl sd), some (.inl 0), some (.inl 0), x5, x6, x7, x8, x9, x10]) dL_isRight_12 (Nat.le_of_ble_eq_true rfl) rfl ?_
      refine X.iconst dL_isRight_14 ?_
      refine X.istore (lv2 := [some (.inr (some 0)), some (.inl lt), some (.inl sd), some (.inl 0), some (.inl 0), some (.inl 0), x6, x7, x8, x9, x10]) dL_isRight_15 (Nat.le_of_ble_eq_true rfl) rfl ?_
      have L17 : ∀ r, 0 ≤ r → r ≤ 10 → ∀ l1 : Int, ∀ s1 : Int, ∀ k1 : Int, ∀ x6 : Option AV, ∀ x7 : Option AV, ∀ x8 : Option AV, ∀ x9 : Option AV, ∀ x10 : Option AV, (s1 = cnt (fun x => sSees v sd x) (r * 12).toNat 0 ∧ k1 = cnt (fun x => 0 < me v sd x) (r * 12).toNat 0 ∧ l1 = lt + cnt (fun x => lit v x) (r * 12).toNat 0) → VQ mL_isRight 7 17 [some (.inr (some 0)), some (.inl l1), some (.inl sd), some (.inl s1), some (.inl k1), some (.inl r), x6, x7, x8, x9, x10] [] M (RQ (v, z, H, tl, T)) := by
        refine down_ind 0 10 ?_ ?_
        · skip
          intro l1 s1 k1 x6 x7 x8 x9 x10 h1
          have h1 : s1 = cnt (fun x => sSees v sd x) 120 0 ∧ k1 = cnt (fun x => 0 < me v sd x) 120 0 ∧ l1 = lt + cnt (fun x => lit v x) 120 0 := h1
          have c1 := cnt_range (fun x => sSees v sd x) 120 0
          have c2 := cnt_range (fun x => 0 < me v sd x) 120 0
          refine X.iload dL_isRight_17 rfl ?_
          refine X.bipush dL_isRight_19 (by decide) ?_
          refine X.icmp_ge (tgt := 292) dL_isRight_21 (by decide) ⟨by omega, by omega⟩ (by decide) (fun h23 => ?_) (fun h => by exfalso; omega)
          refine X.aload_n dL_isRight_292 rfl ?_
          refine X.bipush dL_isRight_293 (by decide) ?_
          refine X.iload_n dL_isRight_295 rfl ?_
          refine X.iadd (c := 6 + sd) dL_isRight_296 rfl ?_
          refine X.callV1 (As := [.inl (6 + sd)]) (rest := []) dL_isRight_297 mk_L_12 sh_0 (lq_count (x := cnt (fun c => sSees v sd c) 120 0) hR (6 + sd) ⟨by omega, by omega⟩ (qCount_6 hs01)) rfl (by decide) rfl (Nat.le_of_ble_eq_true rfl) ?_
          refine X.iload_n dL_isRight_300 rfl ?_
          refine X.icmp_ne (tgt := 317) dL_isRight_301 (by decide) ⟨by omega, by omega⟩ ⟨by omega, by omega⟩ (fun h => by exfalso; omega) (fun h24 => ?_)
          refine X.aload_n dL_isRight_304 rfl ?_
          refine X.bipush dL_isRight_305 (by decide) ?_
          refine X.iload_n dL_isRight_307 rfl ?_
          refine X.iadd (c := 8 + sd) dL_isRight_308 rfl ?_
          refine X.callV1 (As := [.inl (8 + sd)]) (rest := []) dL_isRight_309 mk_L_12 sh_0 (lq_count (x := cnt (fun c => 0 < me v sd c) 120 0) hR (8 + sd) ⟨by omega, by omega⟩ (qCount_8 hs01)) rfl (by decide) rfl (Nat.le_of_ble_eq_true rfl) ?_
          refine X.iload dL_isRight_312 rfl ?_
          refine X.icmp_eq (tgt := 319) dL_isRight_314 (by decide) ⟨by omega, by omega⟩ ⟨by omega, by omega⟩ (fun h25 => ?_) (fun h => by exfalso; omega)
          refine X.iinc (y := sd + 1) (lv2 := [some (.inr (some 0)), some (.inl l1), some (.inl (sd + 1)), some (.inl s1), some (.inl k1), some (.inl 10), x6, x7, x8, x9, x10]) dL_isRight_319 rfl rfl rfl ?_
          refine X.goto (tgt := 4) dL_isRight_322 (by decide) ?_
          exact ihsd l1 (some (.inl s1)) (some (.inl k1)) (some (.inl 10)) x6 x7 x8 x9 x10 (by omega)
        · intro r hr1 hr2 ihr
          intro l1 s1 k1 x6 x7 x8 x9 x10 h1
          refine X.iload dL_isRight_17 rfl ?_
          refine X.bipush dL_isRight_19 (by decide) ?_
          refine X.icmp_ge (tgt := 292) dL_isRight_21 (by decide) ⟨by omega, by omega⟩ (by decide) (fun h => by exfalso; omega) (fun h26 => ?_)
          refine X.iconst dL_isRight_24 ?_
          refine X.istore (lv2 := [some (.inr (some 0)), some (.inl l1), some (.inl sd), some (.inl s1), some (.inl k1), some (.inl r), some (.inl 0), x7, x8, x9, x10]) dL_isRight_25 (Nat.le_of_ble_eq_true rfl) rfl ?_
          have L27 : ∀ c, 0 ≤ c → c ≤ 12 → ∀ l2 : Int, ∀ s2 : Int, ∀ k2 : Int, ∀ x7 : Option AV, ∀ x8 : Option AV, ∀ x9 : Option AV, ∀ x10 : Option AV, (s2 = cnt (fun x => sSees v sd x) (r * 12 + c).toNat 0 ∧ k2 = cnt (fun x => 0 < me v sd x) (r * 12 + c).toNat 0 ∧ l2 = lt + cnt (fun x => lit v x) (r * 12 + c).toNat 0) → VQ mL_isRight 7 27 [some (.inr (some 0)), some (.inl l2), some (.inl sd), some (.inl s2), some (.inl k2), some (.inl r), some (.inl c), x7, x8, x9, x10] [] M (RQ (v, z, H, tl, T)) := by
            refine down_ind 0 12 ?_ ?_
            · skip
              intro l2 s2 k2 x7 x8 x9 x10 h2
              refine X.iload dL_isRight_27 rfl ?_
              refine X.bipush dL_isRight_29 (by decide) ?_
              refine X.icmp_ge (tgt := 286) dL_isRight_31 (by decide) ⟨by omega, by omega⟩ (by decide) (fun h27 => ?_) (fun h => by exfalso; omega)
              refine X.iinc (y := r + 1) (lv2 := [some (.inr (some 0)), some (.inl l2), some (.inl sd), some (.inl s2), some (.inl k2), some (.inl (r + 1)), some (.inl 12), x7, x8, x9, x10]) dL_isRight_286 rfl rfl rfl ?_
              refine X.goto (tgt := 17) dL_isRight_289 (by decide) ?_
              exact ihr l2 s2 k2 (some (.inl 12)) x7 x8 x9 x10 (by rw [show (r + 1) * 12 = r * 12 + 12 by omega]; exact h2)
            · intro c hc1 hc2 ihc
              intro l2 s2 k2 x7 x8 x9 x10 h2
              refine X.iload dL_isRight_27 rfl ?_
              refine X.bipush dL_isRight_29 (by decide) ?_
              refine X.icmp_ge (tgt := 286) dL_isRight_31 (by decide) ⟨by omega, by omega⟩ (by decide) (fun h => by exfalso; omega) (fun h28 => ?_)
              have hx : 0 ≤ r * 12 + c ∧ r * 12 + c < 120 := by omega
              have hcr : 0 ≤ c ∧ c ≤ 11 ∧ 0 ≤ r ∧ r ≤ 9 := by omega
              have hmr := me_r hS hL.2 hs01 (r * 12 + c)
              have hkh := kh_r hS sd (r * 12 + c)
              have hkw := kw_r hS sd (r * 12 + c)
              have hke := ke_r hS sd (r * 12 + c)
              have hq1 := hS.r1 (r * 12 + c)
              have hq2 := hS.r2 (r * 12 + c)
              have hsr := sIn_range hS (r * 12 + c)
              have es : cnt (fun x => sSees v sd x) (r * 12 + (c + 1)).toNat 0 = cnt (fun x => sSees v sd x) (r * 12 + c).toNat 0 + bi (sSees v sd (r * 12 + c)) := by rw [← Int.add_assoc]; exact cP_step hx.1
              have ek : cnt (fun x => 0 < me v sd x) (r * 12 + (c + 1)).toNat 0 = cnt (fun x => 0 < me v sd x) (r * 12 + c).toNat 0 + bi (0 < me v sd (r * 12 + c)) := by rw [← Int.add_assoc]; exact cP_step hx.1
              have el : cnt (fun x => lit v x) (r * 12 + (c + 1)).toNat 0 = cnt (fun x => lit v x) (r * 12 + c).toNat 0 + bi (lit v (r * 12 + c)) := by rw [← Int.add_assoc]; exact cP_step hx.1
              by_cases p : sSees v sd (r * 12 + c)
              · have kn := sees_kn hL hs01 hx p
                rw [bi_t p] at es
                have hx : 0 ≤ r * 12 + c ∧ r * 12 + c < 120 := by omega
                have hcr : 0 ≤ c ∧ c ≤ 11 ∧ 0 ≤ r ∧ r ≤ 9 := by omega
                have hmr := me_r hS hL.2 hs01 (r * 12 + c)
                have hkh := kh_r hS sd (r * 12 + c)
                have hkw := kw_r hS sd (r * 12 + c)
                have hke := ke_r hS sd (r * 12 + c)
                have hq1 := hS.r1 (r * 12 + c)
                have hq2 := hS.r2 (r * 12 + c)
                have hsr := sIn_range hS (r * 12 + c)
                have es : cnt (fun x => sSees v sd x) (r * 12 + (c + 1)).toNat 0 = cnt (fun x => sSees v sd x) (r * 12 + c).toNat 0 + bi (sSees v sd (r * 12 + c)) := by rw [← Int.add_assoc]; exact cP_step hx.1
                have ek : cnt (fun x => 0 < me v sd x) (r * 12 + (c + 1)).toNat 0 = cnt (fun x => 0 < me v sd x) (r * 12 + c).toNat 0 + bi (0 < me v sd (r * 12 + c)) := by rw [← Int.add_assoc]; exact cP_step hx.1
                have el : cnt (fun x => lit v x) (r * 12 + (c + 1)).toNat 0 = cnt (fun x => lit v x) (r * 12 + c).toNat 0 + bi (lit v (r * 12 + c)) := by rw [← Int.add_assoc]; exact cP_step hx.1
                refine X.aload_n dL_isRight_34 rfl ?_
                refine X.iload_n dL_isRight_35 rfl ?_
                refine X.iload dL_isRight_36 rfl ?_
                refine X.iload dL_isRight_38 rfl ?_
                refine X.iconst dL_isRight_40 ?_
                refine X.callV1 (As := [.inl sd, .inl c, .inl r, .inl 0]) (rest := []) dL_isRight_41 mk_L_22 sh_0 (lq_known (x := me v sd (r * 12 + c)) hR sd c r 0 ⟨by omega, by omega⟩ ⟨by omega, by omega⟩ ⟨by omega, by omega⟩ (by decide) (qKnown_0 hs01 hcr)) rfl (by decide) rfl (Nat.le_of_ble_eq_true rfl) ?_
                refine X.istore (lv2 := [some (.inr (some 0)), some (.inl l2), some (.inl sd), some (.inl s2), some (.inl k2), some (.inl r), some (.inl c), some (.inl (me v sd (r * 12 + c))), x8, x9, x10]) dL_isRight_44 (Nat.le_of_ble_eq_true rfl) rfl ?_
                refine X.aload_n dL_isRight_46 rfl ?_
                refine X.iload_n dL_isRight_47 rfl ?_
                refine X.iload dL_isRight_48 rfl ?_
                refine X.iload dL_isRight_50 rfl ?_
                refine X.iconst dL_isRight_52 ?_
                refine X.callV1 (As := [.inl sd, .inl c, .inl r, .inl 4]) (rest := []) dL_isRight_53 mk_L_22 sh_0 (lq_known (x := 1) hR sd c r 4 ⟨by omega, by omega⟩ ⟨by omega, by omega⟩ ⟨by omega, by omega⟩ (by decide) ((qKnown_4 hs01 hcr).trans (bi_t p))) rfl (by decide) rfl (Nat.le_of_ble_eq_true rfl) ?_
                refine X.iconst dL_isRight_56 ?_
                refine X.icmp_ne (tgt := 64) dL_isRight_57 (by decide) (by decide) (by decide) (fun h => absurd h (by decide)) (fun h29 => ?_)
                refine X.iconst dL_isRight_60 ?_
                refine X.goto (tgt := 65) dL_isRight_61 (by decide) ?_
                refine X.istore (lv2 := [some (.inr (some 0)), some (.inl l2), some (.inl sd), some (.inl s2), some (.inl k2), some (.inl r), some (.inl c), some (.inl (me v sd (r * 12 + c))), some (.inl 1), x9, x10]) dL_isRight_65 (Nat.le_of_ble_eq_true rfl) rfl ?_
                refine X.iload_n dL_isRight_67 rfl ?_
                refine X.iload dL_isRight_68 rfl ?_
                refine X.if_eq (tgt := 77) dL_isRight_70 (by decide) (by decide) (fun h => absurd h (by decide)) (fun h30 => ?_)
                refine X.iconst dL_isRight_73 ?_
                refine X.goto (tgt := 78) dL_isRight_74 (by decide) ?_
                refine X.iadd (c := s2 + 1) dL_isRight_78 rfl ?_
                refine X.istore_n (lv2 := [some (.inr (some 0)), some (.inl l2), some (.inl sd), some (.inl (s2 + 1)), some (.inl k2), some (.inl r), some (.inl c), some (.inl (me v sd (r * 12 + c))), some (.inl 1), x9, x10]) dL_isRight_79 (Nat.le_of_ble_eq_true rfl) rfl ?_
                refine X.iload dL_isRight_80 rfl ?_
                refine X.iload dL_isRight_82 rfl ?_
                refine X.if_le (tgt := 91) dL_isRight_84 (by decide) ⟨by omega, by omega⟩ (fun h => by exfalso; omega) (fun h31 => ?_)
                rw [bi_t (show 0 < me v sd (r * 12 + c) by omega)] at ek
                refine X.iconst dL_isRight_87 ?_
                refine X.goto (tgt := 92) dL_isRight_88 (by decide) ?_
                refine X.iadd (c := k2 + 1) dL_isRight_92 rfl ?_
                refine X.istore (lv2 := [some (.inr (some 0)), some (.inl l2), some (.inl sd), some (.inl (s2 + 1)), some (.inl (k2 + 1)), some (.inl r), some (.inl c), some (.inl (me v sd (r * 12 + c))), some (.inl 1), x9, x10]) dL_isRight_93 (Nat.le_of_ble_eq_true rfl) rfl ?_
                refine X.iload_n dL_isRight_95 rfl ?_
                refine X.aload_n dL_isRight_96 rfl ?_
                refine X.iload dL_isRight_97 rfl ?_
                refine X.iload dL_isRight_99 rfl ?_
                refine X.iconst dL_isRight_101 ?_
                refine X.callV1 (As := [.inl c, .inl r, .inl 2]) (rest := [.inl l2]) dL_isRight_102 mk_L_18 sh_0 (lq_cell (x := bi (lit v (r * 12 + c))) hR c r 2 ⟨by omega, by omega⟩ ⟨by omega, by omega⟩ (by decide) (qCell_2 hcr)) rfl (by decide) rfl (Nat.le_of_ble_eq_true rfl) ?_
                refine X.iadd (c := l2 + (bi (lit v (r * 12 + c)))) dL_isRight_105 rfl ?_
                refine X.istore_n (lv2 := [some (.inr (some 0)), some (.inl (l2 + (bi (lit v (r * 12 + c))))), some (.inl sd), some (.inl (s2 + 1)), some (.inl (k2 + 1)), some (.inl r), some (.inl c), some (.inl (me v sd (r * 12 + c))), some (.inl 1), x9, x10]) dL_isRight_106 (Nat.le_of_ble_eq_true rfl) rfl ?_
                refine X.aload_n dL_isRight_107 rfl ?_
                refine X.iload dL_isRight_108 rfl ?_
                refine X.iload dL_isRight_110 rfl ?_
                refine X.iconst dL_isRight_112 ?_
                refine X.callV1 (As := [.inl c, .inl r, .inl 3]) (rest := []) dL_isRight_113 mk_L_18 sh_0 (lq_cell (x := sIn v (r * 12 + c)) hR c r 3 ⟨by omega, by omega⟩ ⟨by omega, by omega⟩ (by decide) (qCell_3 hcr)) rfl (by decide) rfl (Nat.le_of_ble_eq_true rfl) ?_
                refine X.istore (lv2 := [some (.inr (some 0)), some (.inl (l2 + (bi (lit v (r * 12 + c))))), some (.inl sd), some (.inl (s2 + 1)), some (.inl (k2 + 1)), some (.inl r), some (.inl c), some (.inl (me v sd (r * 12 + c))), some (.inl 1), some (.inl (sIn v (r * 12 + c))), x10]) dL_isRight_116 (Nat.le_of_ble_eq_true rfl) rfl ?_
                refine X.iload dL_isRight_118 rfl ?_
                refine X.if_lt (tgt := 138) dL_isRight_120 (by decide) ⟨by omega, by omega⟩ (fun h32 => ?_) (fun h32 => ?_)
                · skip
                  have ho : ke v sd (r * 12 + c) = 0 := kn.2.2.2.trans (bi_f (fun q => q.1 (by omega)))
                  refine X.iconst dL_isRight_138 ?_
                  refine X.istore (lv2 := [some (.inr (some 0)), some (.inl (l2 + (bi (lit v (r * 12 + c))))), some (.inl sd), some (.inl (s2 + 1)), some (.inl (k2 + 1)), some (.inl r), some (.inl c), some (.inl (me v sd (r * 12 + c))), some (.inl 1), some (.inl (sIn v (r * 12 + c))), some (.inl 0)]) dL_isRight_139 (Nat.le_of_ble_eq_true rfl) rfl ?_
                  refine X.iload dL_isRight_141 rfl ?_
                  refine X.if_lt (tgt := 204) dL_isRight_143 (by decide) ⟨by omega, by omega⟩ (fun h => by exfalso; omega) (fun h33 => ?_)
                  refine X.iload dL_isRight_146 rfl ?_
                  refine X.aload_n dL_isRight_148 rfl ?_
                  refine X.iconst dL_isRight_149 ?_
                  refine X.callV1 (As := [.inl 4]) (rest := [.inl (me v sd (r * 12 + c))]) dL_isRight_150 mk_L_12 sh_0 (lq_count (x := v 0 2) hR 4 (by decide) qCount_4) rfl (by decide) rfl (Nat.le_of_ble_eq_true rfl) ?_
                  refine X.icmp_gt (tgt := 204) dL_isRight_153 (by decide) ⟨by omega, by omega⟩ ⟨by omega, by omega⟩ (fun h => by exfalso; omega) (fun h34 => ?_)
                  refine X.iload dL_isRight_156 rfl ?_
                  refine X.if_eq (tgt := 171) dL_isRight_158 (by decide) (by decide) (fun h => absurd h (by decide)) (fun h35 => ?_)
                  refine X.iload dL_isRight_161 rfl ?_
                  refine X.aload_n dL_isRight_163 rfl ?_
                  refine X.iconst dL_isRight_164 ?_
                  refine X.callV1 (As := [.inl 4]) (rest := [.inl (me v sd (r * 12 + c))]) dL_isRight_165 mk_L_12 sh_0 (lq_count (x := v 0 2) hR 4 (by decide) qCount_4) rfl (by decide) rfl (Nat.le_of_ble_eq_true rfl) ?_
                  refine X.icmp_ne (tgt := 204) dL_isRight_168 (by decide) ⟨by omega, by omega⟩ ⟨by omega, by omega⟩ (fun h => by exfalso; omega) (fun h36 => ?_)
                  refine X.iload dL_isRight_171 rfl ?_
                  refine X.if_ne (tgt := 180) dL_isRight_173 (by decide) ⟨by omega, by omega⟩ (fun h37 => ?_) (fun h => by exfalso; omega)
                  refine X.iconst dL_isRight_180 ?_
                  refine X.aload_n dL_isRight_181 rfl ?_
                  refine X.iload_n dL_isRight_182 rfl ?_
                  refine X.iload dL_isRight_183 rfl ?_
                  refine X.iload dL_isRight_185 rfl ?_
                  refine X.iconst dL_isRight_187 ?_
                  refine X.callV1 (As := [.inl sd, .inl c, .inl r, .inl 1]) (rest := [.inl 0]) dL_isRight_188 mk_L_22 sh_0 (lq_known (x := kh v sd (r * 12 + c)) hR sd c r 1 ⟨by omega, by omega⟩ ⟨by omega, by omega⟩ ⟨by omega, by omega⟩ (by decide) ((qKnown_1 hs01 hcr).trans (if_neg (by omega)))) rfl (by decide) rfl (Nat.le_of_ble_eq_true rfl) ?_
                  refine X.bipush dL_isRight_191 (by decide) ?_
                  refine X.icmp_ne (tgt := 200) dL_isRight_193 (by decide) ⟨by omega, by omega⟩ (by decide) (fun h38 => ?_) (fun h => by exfalso; omega)
                  refine X.iconst dL_isRight_200 ?_
                  refine X.icmp_eq (tgt := 206) dL_isRight_201 (by decide) (by decide) (by decide) (fun h39 => ?_) (fun h => absurd h (by decide))
                  refine X.iload dL_isRight_206 rfl ?_
                  refine X.if_eq (tgt := 280) dL_isRight_208 (by decide) (by decide) (fun h => absurd h (by decide)) (fun h40 => ?_)
                  refine X.aload_n dL_isRight_211 rfl ?_
                  refine X.iload_n dL_isRight_212 rfl ?_
                  refine X.iload dL_isRight_213 rfl ?_
                  refine X.iload dL_isRight_215 rfl ?_
                  refine X.iconst dL_isRight_217 ?_
                  refine X.callV1 (As := [.inl sd, .inl c, .inl r, .inl 1]) (rest := []) dL_isRight_218 mk_L_22 sh_0 (lq_known (x := kh v sd (r * 12 + c)) hR sd c r 1 ⟨by omega, by omega⟩ ⟨by omega, by omega⟩ ⟨by omega, by omega⟩ (by decide) ((qKnown_1 hs01 hcr).trans (if_neg (by omega)))) rfl (by decide) rfl (Nat.le_of_ble_eq_true rfl) ?_
                  refine X.aload_n dL_isRight_221 rfl ?_
                  refine X.iload dL_isRight_222 rfl ?_
                  refine X.iload dL_isRight_224 rfl ?_
                  refine X.iconst dL_isRight_226 ?_
                  refine X.callV1 (As := [.inl c, .inl r, .inl 0]) (rest := [.inl (kh v sd (r * 12 + c))]) dL_isRight_227 mk_L_18 sh_0 (lq_cell (x := v 1 (r * 12 + c)) hR c r 0 ⟨by omega, by omega⟩ ⟨by omega, by omega⟩ (by decide) (qCell_0 hcr)) rfl (by decide) rfl (Nat.le_of_ble_eq_true rfl) ?_
                  refine X.icmp_ne (tgt := 278) dL_isRight_230 (by decide) ⟨by omega, by omega⟩ ⟨by omega, by omega⟩ (fun h => by exfalso; omega) (fun h41 => ?_)
                  refine X.aload_n dL_isRight_233 rfl ?_
                  refine X.iload_n dL_isRight_234 rfl ?_
                  refine X.iload dL_isRight_235 rfl ?_
                  refine X.iload dL_isRight_237 rfl ?_
                  refine X.iconst dL_isRight_239 ?_
                  refine X.callV1 (As := [.inl sd, .inl c, .inl r, .inl 2]) (rest := []) dL_isRight_240 mk_L_22 sh_0 (lq_known (x := kw v sd (r * 12 + c)) hR sd c r 2 ⟨by omega, by omega⟩ ⟨by omega, by omega⟩ ⟨by omega, by omega⟩ (by decide) ((qKnown_2 hs01 hcr).trans (if_neg (by omega)))) rfl (by decide) rfl (Nat.le_of_ble_eq_true rfl) ?_
                  refine X.aload_n dL_isRight_243 rfl ?_
                  refine X.iload dL_isRight_244 rfl ?_
                  refine X.iload dL_isRight_246 rfl ?_
                  refine X.iconst dL_isRight_248 ?_
                  refine X.callV1 (As := [.inl c, .inl r, .inl 1]) (rest := [.inl (kw v sd (r * 12 + c))]) dL_isRight_249 mk_L_18 sh_0 (lq_cell (x := v 2 (r * 12 + c)) hR c r 1 ⟨by omega, by omega⟩ ⟨by omega, by omega⟩ (by decide) (qCell_1 hcr)) rfl (by decide) rfl (Nat.le_of_ble_eq_true rfl) ?_
                  refine X.icmp_ne (tgt := 278) dL_isRight_252 (by decide) ⟨by omega, by omega⟩ ⟨by omega, by omega⟩ (fun h => by exfalso; omega) (fun h42 => ?_)
                  refine X.aload_n dL_isRight_255 rfl ?_
                  refine X.iload_n dL_isRight_256 rfl ?_
                  refine X.iload dL_isRight_257 rfl ?_
                  refine X.iload dL_isRight_259 rfl ?_
                  refine X.iconst dL_isRight_261 ?_
                  refine X.callV1 (As := [.inl sd, .inl c, .inl r, .inl 3]) (rest := []) dL_isRight_262 mk_L_22 sh_0 (lq_known (x := ke v sd (r * 12 + c)) hR sd c r 3 ⟨by omega, by omega⟩ ⟨by omega, by omega⟩ ⟨by omega, by omega⟩ (by decide) ((qKnown_3 hs01 hcr).trans (if_neg (by omega)))) rfl (by decide) rfl (Nat.le_of_ble_eq_true rfl) ?_
                  refine X.iload dL_isRight_265 rfl ?_
                  refine X.if_eq (tgt := 274) dL_isRight_267 (by decide) (by decide) (fun h43 => ?_) (fun h => absurd h (by decide))
                  refine X.iconst dL_isRight_274 ?_
                  refine X.icmp_eq (tgt := 280) dL_isRight_275 (by decide) ⟨by omega, by omega⟩ (by decide) (fun h44 => ?_) (fun h => by exfalso; omega)
                  refine X.iinc (y := c + 1) (lv2 := [some (.inr (some 0)), some (.inl (l2 + (bi (lit v (r * 12 + c))))), some (.inl sd), some (.inl (s2 + 1)), some (.inl (k2 + 1)), some (.inl r), some (.inl (c + 1)), some (.inl (me v sd (r * 12 + c))), some (.inl 1), some (.inl (sIn v (r * 12 + c))), some (.inl 0)]) dL_isRight_280 rfl rfl rfl ?_
                  refine X.goto (tgt := 27) dL_isRight_283 (by decide) ?_
                  exact ihc (l2 + (bi (lit v (r * 12 + c)))) (s2 + 1) (k2 + 1) (some (.inl (me v sd (r * 12 + c)))) (some (.inl 1)) (some (.inl (sIn v (r * 12 + c)))) (some (.inl 0)) ⟨by omega, by omega, by omega⟩
                · skip
                  have h3q := hS.r3 (sIn v (r * 12 + c))
                  refine X.aload_n dL_isRight_123 rfl ?_
                  refine X.iload dL_isRight_124 rfl ?_
                  refine X.iconst dL_isRight_126 ?_
                  refine X.callV1 (As := [.inl (sIn v (r * 12 + c)), .inl 0]) (rest := []) dL_isRight_127 mk_L_26 sh_0 (lq_scout (x := v 3 (sIn v (r * 12 + c))) hR (sIn v (r * 12 + c)) 0 ⟨by omega, by omega⟩ (by decide) (qScout_0 (by omega))) rfl (by decide) rfl (Nat.le_of_ble_eq_true rfl) ?_
                  refine X.iload_n dL_isRight_130 rfl ?_
                  refine X.icmp_eq (tgt := 138) dL_isRight_131 (by decide) ⟨by omega, by omega⟩ ⟨by omega, by omega⟩ (fun h131 => ?_) (fun h131 => ?_)
                  · skip
                    have ho : ke v sd (r * 12 + c) = 0 := kn.2.2.2.trans (bi_f (fun q => q.2 h131))
                    refine X.iconst dL_isRight_138 ?_
                    refine X.istore (lv2 := [some (.inr (some 0)), some (.inl (l2 + (bi (lit v (r * 12 + c))))), some (.inl sd), some (.inl (s2 + 1)), some (.inl (k2 + 1)), some (.inl r), some (.inl c), some (.inl (me v sd (r * 12 + c))), some (.inl 1), some (.inl (sIn v (r * 12 + c))), some (.inl 0)]) dL_isRight_139 (Nat.le_of_ble_eq_true rfl) rfl ?_
                    refine X.iload dL_isRight_141 rfl ?_
                    refine X.if_lt (tgt := 204) dL_isRight_143 (by decide) ⟨by omega, by omega⟩ (fun h => by exfalso; omega) (fun h45 => ?_)
                    refine X.iload dL_isRight_146 rfl ?_
                    refine X.aload_n dL_isRight_148 rfl ?_
                    refine X.iconst dL_isRight_149 ?_
                    refine X.callV1 (As := [.inl 4]) (rest := [.inl (me v sd (r * 12 + c))]) dL_isRight_150 mk_L_12 sh_0 (lq_count (x := v 0 2) hR 4 (by decide) qCount_4) rfl (by decide) rfl (Nat.le_of_ble_eq_true rfl) ?_
                    refine X.icmp_gt (tgt := 204) dL_isRight_153 (by decide) ⟨by omega, by omega⟩ ⟨by omega, by omega⟩ (fun h => by exfalso; omega) (fun h46 => ?_)
                    refine X.iload dL_isRight_156 rfl ?_
                    refine X.if_eq (tgt := 171) dL_isRight_158 (by decide) (by decide) (fun h => absurd h (by decide)) (fun h47 => ?_)
                    refine X.iload dL_isRight_161 rfl ?_
                    refine X.aload_n dL_isRight_163 rfl ?_
                    refine X.iconst dL_isRight_164 ?_
                    refine X.callV1 (As := [.inl 4]) (rest := [.inl (me v sd (r * 12 + c))]) dL_isRight_165 mk_L_12 sh_0 (lq_count (x := v 0 2) hR 4 (by decide) qCount_4) rfl (by decide) rfl (Nat.le_of_ble_eq_true rfl) ?_
                    refine X.icmp_ne (tgt := 204) dL_isRight_168 (by decide) ⟨by omega, by omega⟩ ⟨by omega, by omega⟩ (fun h => by exfalso; omega) (fun h48 => ?_)
                    refine X.iload dL_isRight_171 rfl ?_
                    refine X.if_ne (tgt := 180) dL_isRight_173 (by decide) ⟨by omega, by omega⟩ (fun h49 => ?_) (fun h => by exfalso; omega)
                    refine X.iconst dL_isRight_180 ?_
                    refine X.aload_n dL_isRight_181 rfl ?_
                    refine X.iload_n dL_isRight_182 rfl ?_
                    refine X.iload dL_isRight_183 rfl ?_
                    refine X.iload dL_isRight_185 rfl ?_
                    refine X.iconst dL_isRight_187 ?_
                    refine X.callV1 (As := [.inl sd, .inl c, .inl r, .inl 1]) (rest := [.inl 0]) dL_isRight_188 mk_L_22 sh_0 (lq_known (x := kh v sd (r * 12 + c)) hR sd c r 1 ⟨by omega, by omega⟩ ⟨by omega, by omega⟩ ⟨by omega, by omega⟩ (by decide) ((qKnown_1 hs01 hcr).trans (if_neg (by omega)))) rfl (by decide) rfl (Nat.le_of_ble_eq_true rfl) ?_
                    refine X.bipush dL_isRight_191 (by decide) ?_
                    refine X.icmp_ne (tgt := 200) dL_isRight_193 (by decide) ⟨by omega, by omega⟩ (by decide) (fun h50 => ?_) (fun h => by exfalso; omega)
                    refine X.iconst dL_isRight_200 ?_
                    refine X.icmp_eq (tgt := 206) dL_isRight_201 (by decide) (by decide) (by decide) (fun h51 => ?_) (fun h => absurd h (by decide))
                    refine X.iload dL_isRight_206 rfl ?_
                    refine X.if_eq (tgt := 280) dL_isRight_208 (by decide) (by decide) (fun h => absurd h (by decide)) (fun h52 => ?_)
                    refine X.aload_n dL_isRight_211 rfl ?_
                    refine X.iload_n dL_isRight_212 rfl ?_
                    refine X.iload dL_isRight_213 rfl ?_
                    refine X.iload dL_isRight_215 rfl ?_
                    refine X.iconst dL_isRight_217 ?_
                    refine X.callV1 (As := [.inl sd, .inl c, .inl r, .inl 1]) (rest := []) dL_isRight_218 mk_L_22 sh_0 (lq_known (x := kh v sd (r * 12 + c)) hR sd c r 1 ⟨by omega, by omega⟩ ⟨by omega, by omega⟩ ⟨by omega, by omega⟩ (by decide) ((qKnown_1 hs01 hcr).trans (if_neg (by omega)))) rfl (by decide) rfl (Nat.le_of_ble_eq_true rfl) ?_
                    refine X.aload_n dL_isRight_221 rfl ?_
                    refine X.iload dL_isRight_222 rfl ?_
                    refine X.iload dL_isRight_224 rfl ?_
                    refine X.iconst dL_isRight_226 ?_
                    refine X.callV1 (As := [.inl c, .inl r, .inl 0]) (rest := [.inl (kh v sd (r * 12 + c))]) dL_isRight_227 mk_L_18 sh_0 (lq_cell (x := v 1 (r * 12 + c)) hR c r 0 ⟨by omega, by omega⟩ ⟨by omega, by omega⟩ (by decide) (qCell_0 hcr)) rfl (by decide) rfl (Nat.le_of_ble_eq_true rfl) ?_
                    refine X.icmp_ne (tgt := 278) dL_isRight_230 (by decide) ⟨by omega, by omega⟩ ⟨by omega, by omega⟩ (fun h => by exfalso; omega) (fun h53 => ?_)
                    refine X.aload_n dL_isRight_233 rfl ?_
                    refine X.iload_n dL_isRight_234 rfl ?_
                    refine X.iload dL_isRight_235 rfl ?_
                    refine X.iload dL_isRight_237 rfl ?_
                    refine X.iconst dL_isRight_239 ?_
                    refine X.callV1 (As := [.inl sd, .inl c, .inl r, .inl 2]) (rest := []) dL_isRight_240 mk_L_22 sh_0 (lq_known (x := kw v sd (r * 12 + c)) hR sd c r 2 ⟨by omega, by omega⟩ ⟨by omega, by omega⟩ ⟨by omega, by omega⟩ (by decide) ((qKnown_2 hs01 hcr).trans (if_neg (by omega)))) rfl (by decide) rfl (Nat.le_of_ble_eq_true rfl) ?_
                    refine X.aload_n dL_isRight_243 rfl ?_
                    refine X.iload dL_isRight_244 rfl ?_
                    refine X.iload dL_isRight_246 rfl ?_
                    refine X.iconst dL_isRight_248 ?_
                    refine X.callV1 (As := [.inl c, .inl r, .inl 1]) (rest := [.inl (kw v sd (r * 12 + c))]) dL_isRight_249 mk_L_18 sh_0 (lq_cell (x := v 2 (r * 12 + c)) hR c r 1 ⟨by omega, by omega⟩ ⟨by omega, by omega⟩ (by decide) (qCell_1 hcr)) rfl (by decide) rfl (Nat.le_of_ble_eq_true rfl) ?_
                    refine X.icmp_ne (tgt := 278) dL_isRight_252 (by decide) ⟨by omega, by omega⟩ ⟨by omega, by omega⟩ (fun h => by exfalso; omega) (fun h54 => ?_)
                    refine X.aload_n dL_isRight_255 rfl ?_
                    refine X.iload_n dL_isRight_256 rfl ?_
                    refine X.iload dL_isRight_257 rfl ?_
                    refine X.iload dL_isRight_259 rfl ?_
                    refine X.iconst dL_isRight_261 ?_
                    refine X.callV1 (As := [.inl sd, .inl c, .inl r, .inl 3]) (rest := []) dL_isRight_262 mk_L_22 sh_0 (lq_known (x := ke v sd (r * 12 + c)) hR sd c r 3 ⟨by omega, by omega⟩ ⟨by omega, by omega⟩ ⟨by omega, by omega⟩ (by decide) ((qKnown_3 hs01 hcr).trans (if_neg (by omega)))) rfl (by decide) rfl (Nat.le_of_ble_eq_true rfl) ?_
                    refine X.iload dL_isRight_265 rfl ?_
                    refine X.if_eq (tgt := 274) dL_isRight_267 (by decide) (by decide) (fun h55 => ?_) (fun h => absurd h (by decide))
                    refine X.iconst dL_isRight_274 ?_
                    refine X.icmp_eq (tgt := 280) dL_isRight_275 (by decide) ⟨by omega, by omega⟩ (by decide) (fun h56 => ?_) (fun h => by exfalso; omega)
                    refine X.iinc (y := c + 1) (lv2 := [some (.inr (some 0)), some (.inl (l2 + (bi (lit v (r * 12 + c))))), some (.inl sd), some (.inl (s2 + 1)), some (.inl (k2 + 1)), some (.inl r), some (.inl (c + 1)), some (.inl (me v sd (r * 12 + c))), some (.inl 1), some (.inl (sIn v (r * 12 + c))), some (.inl 0)]) dL_isRight_280 rfl rfl rfl ?_
                    refine X.goto (tgt := 27) dL_isRight_283 (by decide) ?_
                    exact ihc (l2 + (bi (lit v (r * 12 + c)))) (s2 + 1) (k2 + 1) (some (.inl (me v sd (r * 12 + c)))) (some (.inl 1)) (some (.inl (sIn v (r * 12 + c)))) (some (.inl 0)) ⟨by omega, by omega, by omega⟩
                  · skip
                    have ho : ke v sd (r * 12 + c) = 1 := kn.2.2.2.trans (bi_t ⟨by omega, h131⟩)
                    refine X.iconst dL_isRight_134 ?_
                    refine X.goto (tgt := 139) dL_isRight_135 (by decide) ?_
                    refine X.istore (lv2 := [some (.inr (some 0)), some (.inl (l2 + (bi (lit v (r * 12 + c))))), some (.inl sd), some (.inl (s2 + 1)), some (.inl (k2 + 1)), some (.inl r), some (.inl c), some (.inl (me v sd (r * 12 + c))), some (.inl 1), some (.inl (sIn v (r * 12 + c))), some (.inl 1)]) dL_isRight_139 (Nat.le_of_ble_eq_true rfl) rfl ?_
                    refine X.iload dL_isRight_141 rfl ?_
                    refine X.if_lt (tgt := 204) dL_isRight_143 (by decide) ⟨by omega, by omega⟩ (fun h => by exfalso; omega) (fun h57 => ?_)
                    refine X.iload dL_isRight_146 rfl ?_
                    refine X.aload_n dL_isRight_148 rfl ?_
                    refine X.iconst dL_isRight_149 ?_
                    refine X.callV1 (As := [.inl 4]) (rest := [.inl (me v sd (r * 12 + c))]) dL_isRight_150 mk_L_12 sh_0 (lq_count (x := v 0 2) hR 4 (by decide) qCount_4) rfl (by decide) rfl (Nat.le_of_ble_eq_true rfl) ?_
                    refine X.icmp_gt (tgt := 204) dL_isRight_153 (by decide) ⟨by omega, by omega⟩ ⟨by omega, by omega⟩ (fun h => by exfalso; omega) (fun h58 => ?_)
                    refine X.iload dL_isRight_156 rfl ?_
                    refine X.if_eq (tgt := 171) dL_isRight_158 (by decide) (by decide) (fun h => absurd h (by decide)) (fun h59 => ?_)
                    refine X.iload dL_isRight_161 rfl ?_
                    refine X.aload_n dL_isRight_163 rfl ?_
                    refine X.iconst dL_isRight_164 ?_
                    refine X.callV1 (As := [.inl 4]) (rest := [.inl (me v sd (r * 12 + c))]) dL_isRight_165 mk_L_12 sh_0 (lq_count (x := v 0 2) hR 4 (by decide) qCount_4) rfl (by decide) rfl (Nat.le_of_ble_eq_true rfl) ?_
                    refine X.icmp_ne (tgt := 204) dL_isRight_168 (by decide) ⟨by omega, by omega⟩ ⟨by omega, by omega⟩ (fun h => by exfalso; omega) (fun h60 => ?_)
                    refine X.iload dL_isRight_171 rfl ?_
                    refine X.if_ne (tgt := 180) dL_isRight_173 (by decide) ⟨by omega, by omega⟩ (fun h61 => ?_) (fun h => by exfalso; omega)
                    refine X.iconst dL_isRight_180 ?_
                    refine X.aload_n dL_isRight_181 rfl ?_
                    refine X.iload_n dL_isRight_182 rfl ?_
                    refine X.iload dL_isRight_183 rfl ?_
                    refine X.iload dL_isRight_185 rfl ?_
                    refine X.iconst dL_isRight_187 ?_
                    refine X.callV1 (As := [.inl sd, .inl c, .inl r, .inl 1]) (rest := [.inl 0]) dL_isRight_188 mk_L_22 sh_0 (lq_known (x := kh v sd (r * 12 + c)) hR sd c r 1 ⟨by omega, by omega⟩ ⟨by omega, by omega⟩ ⟨by omega, by omega⟩ (by decide) ((qKnown_1 hs01 hcr).trans (if_neg (by omega)))) rfl (by decide) rfl (Nat.le_of_ble_eq_true rfl) ?_
                    refine X.bipush dL_isRight_191 (by decide) ?_
                    refine X.icmp_ne (tgt := 200) dL_isRight_193 (by decide) ⟨by omega, by omega⟩ (by decide) (fun h62 => ?_) (fun h => by exfalso; omega)
                    refine X.iconst dL_isRight_200 ?_
                    refine X.icmp_eq (tgt := 206) dL_isRight_201 (by decide) (by decide) (by decide) (fun h63 => ?_) (fun h => absurd h (by decide))
                    refine X.iload dL_isRight_206 rfl ?_
                    refine X.if_eq (tgt := 280) dL_isRight_208 (by decide) (by decide) (fun h => absurd h (by decide)) (fun h64 => ?_)
                    refine X.aload_n dL_isRight_211 rfl ?_
                    refine X.iload_n dL_isRight_212 rfl ?_
                    refine X.iload dL_isRight_213 rfl ?_
                    refine X.iload dL_isRight_215 rfl ?_
                    refine X.iconst dL_isRight_217 ?_
                    refine X.callV1 (As := [.inl sd, .inl c, .inl r, .inl 1]) (rest := []) dL_isRight_218 mk_L_22 sh_0 (lq_known (x := kh v sd (r * 12 + c)) hR sd c r 1 ⟨by omega, by omega⟩ ⟨by omega, by omega⟩ ⟨by omega, by omega⟩ (by decide) ((qKnown_1 hs01 hcr).trans (if_neg (by omega)))) rfl (by decide) rfl (Nat.le_of_ble_eq_true rfl) ?_
                    refine X.aload_n dL_isRight_221 rfl ?_
                    refine X.iload dL_isRight_222 rfl ?_
                    refine X.iload dL_isRight_224 rfl ?_
                    refine X.iconst dL_isRight_226 ?_
                    refine X.callV1 (As := [.inl c, .inl r, .inl 0]) (rest := [.inl (kh v sd (r * 12 + c))]) dL_isRight_227 mk_L_18 sh_0 (lq_cell (x := v 1 (r * 12 + c)) hR c r 0 ⟨by omega, by omega⟩ ⟨by omega, by omega⟩ (by decide) (qCell_0 hcr)) rfl (by decide) rfl (Nat.le_of_ble_eq_true rfl) ?_
                    refine X.icmp_ne (tgt := 278) dL_isRight_230 (by decide) ⟨by omega, by omega⟩ ⟨by omega, by omega⟩ (fun h => by exfalso; omega) (fun h65 => ?_)
                    refine X.aload_n dL_isRight_233 rfl ?_
                    refine X.iload_n dL_isRight_234 rfl ?_
                    refine X.iload dL_isRight_235 rfl ?_
                    refine X.iload dL_isRight_237 rfl ?_
                    refine X.iconst dL_isRight_239 ?_
                    refine X.callV1 (As := [.inl sd, .inl c, .inl r, .inl 2]) (rest := []) dL_isRight_240 mk_L_22 sh_0 (lq_known (x := kw v sd (r * 12 + c)) hR sd c r 2 ⟨by omega, by omega⟩ ⟨by omega, by omega⟩ ⟨by omega, by omega⟩ (by decide) ((qKnown_2 hs01 hcr).trans (if_neg (by omega)))) rfl (by decide) rfl (Nat.le_of_ble_eq_true rfl) ?_
                    refine X.aload_n dL_isRight_243 rfl ?_
                    refine X.iload dL_isRight_244 rfl ?_
                    refine X.iload dL_isRight_246 rfl ?_
                    refine X.iconst dL_isRight_248 ?_
                    refine X.callV1 (As := [.inl c, .inl r, .inl 1]) (rest := [.inl (kw v sd (r * 12 + c))]) dL_isRight_249 mk_L_18 sh_0 (lq_cell (x := v 2 (r * 12 + c)) hR c r 1 ⟨by omega, by omega⟩ ⟨by omega, by omega⟩ (by decide) (qCell_1 hcr)) rfl (by decide) rfl (Nat.le_of_ble_eq_true rfl) ?_
                    refine X.icmp_ne (tgt := 278) dL_isRight_252 (by decide) ⟨by omega, by omega⟩ ⟨by omega, by omega⟩ (fun h => by exfalso; omega) (fun h66 => ?_)
                    refine X.aload_n dL_isRight_255 rfl ?_
                    refine X.iload_n dL_isRight_256 rfl ?_
                    refine X.iload dL_isRight_257 rfl ?_
                    refine X.iload dL_isRight_259 rfl ?_
                    refine X.iconst dL_isRight_261 ?_
                    refine X.callV1 (As := [.inl sd, .inl c, .inl r, .inl 3]) (rest := []) dL_isRight_262 mk_L_22 sh_0 (lq_known (x := ke v sd (r * 12 + c)) hR sd c r 3 ⟨by omega, by omega⟩ ⟨by omega, by omega⟩ ⟨by omega, by omega⟩ (by decide) ((qKnown_3 hs01 hcr).trans (if_neg (by omega)))) rfl (by decide) rfl (Nat.le_of_ble_eq_true rfl) ?_
                    refine X.iload dL_isRight_265 rfl ?_
                    refine X.if_eq (tgt := 274) dL_isRight_267 (by decide) (by decide) (fun h => absurd h (by decide)) (fun h67 => ?_)
                    refine X.iconst dL_isRight_270 ?_
                    refine X.goto (tgt := 275) dL_isRight_271 (by decide) ?_
                    refine X.icmp_eq (tgt := 280) dL_isRight_275 (by decide) ⟨by omega, by omega⟩ (by decide) (fun h68 => ?_) (fun h => by exfalso; omega)
                    refine X.iinc (y := c + 1) (lv2 := [some (.inr (some 0)), some (.inl (l2 + (bi (lit v (r * 12 + c))))), some (.inl sd), some (.inl (s2 + 1)), some (.inl (k2 + 1)), some (.inl r), some (.inl (c + 1)), some (.inl (me v sd (r * 12 + c))), some (.inl 1), some (.inl (sIn v (r * 12 + c))), some (.inl 1)]) dL_isRight_280 rfl rfl rfl ?_
                    refine X.goto (tgt := 27) dL_isRight_283 (by decide) ?_
                    exact ihc (l2 + (bi (lit v (r * 12 + c)))) (s2 + 1) (k2 + 1) (some (.inl (me v sd (r * 12 + c)))) (some (.inl 1)) (some (.inl (sIn v (r * 12 + c)))) (some (.inl 1)) ⟨by omega, by omega, by omega⟩
              · rw [bi_f p] at es
                have hx : 0 ≤ r * 12 + c ∧ r * 12 + c < 120 := by omega
                have hcr : 0 ≤ c ∧ c ≤ 11 ∧ 0 ≤ r ∧ r ≤ 9 := by omega
                have hmr := me_r hS hL.2 hs01 (r * 12 + c)
                have hkh := kh_r hS sd (r * 12 + c)
                have hkw := kw_r hS sd (r * 12 + c)
                have hke := ke_r hS sd (r * 12 + c)
                have hq1 := hS.r1 (r * 12 + c)
                have hq2 := hS.r2 (r * 12 + c)
                have hsr := sIn_range hS (r * 12 + c)
                have es : cnt (fun x => sSees v sd x) (r * 12 + (c + 1)).toNat 0 = cnt (fun x => sSees v sd x) (r * 12 + c).toNat 0 + bi (sSees v sd (r * 12 + c)) := by rw [← Int.add_assoc]; exact cP_step hx.1
                have ek : cnt (fun x => 0 < me v sd x) (r * 12 + (c + 1)).toNat 0 = cnt (fun x => 0 < me v sd x) (r * 12 + c).toNat 0 + bi (0 < me v sd (r * 12 + c)) := by rw [← Int.add_assoc]; exact cP_step hx.1
                have el : cnt (fun x => lit v x) (r * 12 + (c + 1)).toNat 0 = cnt (fun x => lit v x) (r * 12 + c).toNat 0 + bi (lit v (r * 12 + c)) := by rw [← Int.add_assoc]; exact cP_step hx.1
                refine X.aload_n dL_isRight_34 rfl ?_
                refine X.iload_n dL_isRight_35 rfl ?_
                refine X.iload dL_isRight_36 rfl ?_
                refine X.iload dL_isRight_38 rfl ?_
                refine X.iconst dL_isRight_40 ?_
                refine X.callV1 (As := [.inl sd, .inl c, .inl r, .inl 0]) (rest := []) dL_isRight_41 mk_L_22 sh_0 (lq_known (x := me v sd (r * 12 + c)) hR sd c r 0 ⟨by omega, by omega⟩ ⟨by omega, by omega⟩ ⟨by omega, by omega⟩ (by decide) (qKnown_0 hs01 hcr)) rfl (by decide) rfl (Nat.le_of_ble_eq_true rfl) ?_
                refine X.istore (lv2 := [some (.inr (some 0)), some (.inl l2), some (.inl sd), some (.inl s2), some (.inl k2), some (.inl r), some (.inl c), some (.inl (me v sd (r * 12 + c))), x8, x9, x10]) dL_isRight_44 (Nat.le_of_ble_eq_true rfl) rfl ?_
                refine X.aload_n dL_isRight_46 rfl ?_
                refine X.iload_n dL_isRight_47 rfl ?_
                refine X.iload dL_isRight_48 rfl ?_
                refine X.iload dL_isRight_50 rfl ?_
                refine X.iconst dL_isRight_52 ?_
                refine X.callV1 (As := [.inl sd, .inl c, .inl r, .inl 4]) (rest := []) dL_isRight_53 mk_L_22 sh_0 (lq_known (x := 0) hR sd c r 4 ⟨by omega, by omega⟩ ⟨by omega, by omega⟩ ⟨by omega, by omega⟩ (by decide) ((qKnown_4 hs01 hcr).trans (bi_f p))) rfl (by decide) rfl (Nat.le_of_ble_eq_true rfl) ?_
                refine X.iconst dL_isRight_56 ?_
                refine X.icmp_ne (tgt := 64) dL_isRight_57 (by decide) (by decide) (by decide) (fun h69 => ?_) (fun h => absurd h (by decide))
                refine X.iconst dL_isRight_64 ?_
                refine X.istore (lv2 := [some (.inr (some 0)), some (.inl l2), some (.inl sd), some (.inl s2), some (.inl k2), some (.inl r), some (.inl c), some (.inl (me v sd (r * 12 + c))), some (.inl 0), x9, x10]) dL_isRight_65 (Nat.le_of_ble_eq_true rfl) rfl ?_
                refine X.iload_n dL_isRight_67 rfl ?_
                refine X.iload dL_isRight_68 rfl ?_
                refine X.if_eq (tgt := 77) dL_isRight_70 (by decide) (by decide) (fun h70 => ?_) (fun h => absurd h (by decide))
                refine X.iconst dL_isRight_77 ?_
                refine X.iadd (c := s2 + 0) dL_isRight_78 rfl ?_
                refine X.istore_n (lv2 := [some (.inr (some 0)), some (.inl l2), some (.inl sd), some (.inl (s2 + 0)), some (.inl k2), some (.inl r), some (.inl c), some (.inl (me v sd (r * 12 + c))), some (.inl 0), x9, x10]) dL_isRight_79 (Nat.le_of_ble_eq_true rfl) rfl ?_
                refine X.iload dL_isRight_80 rfl ?_
                refine X.iload dL_isRight_82 rfl ?_
                refine X.if_le (tgt := 91) dL_isRight_84 (by decide) ⟨by omega, by omega⟩ (fun h71 => ?_) (fun h71 => ?_)
                · skip
                  rw [bi_f (show ¬ 0 < me v sd (r * 12 + c) by omega)] at ek
                  refine X.iconst dL_isRight_91 ?_
                  refine X.iadd (c := k2 + 0) dL_isRight_92 rfl ?_
                  refine X.istore (lv2 := [some (.inr (some 0)), some (.inl l2), some (.inl sd), some (.inl (s2 + 0)), some (.inl (k2 + 0)), some (.inl r), some (.inl c), some (.inl (me v sd (r * 12 + c))), some (.inl 0), x9, x10]) dL_isRight_93 (Nat.le_of_ble_eq_true rfl) rfl ?_
                  refine X.iload_n dL_isRight_95 rfl ?_
                  refine X.aload_n dL_isRight_96 rfl ?_
                  refine X.iload dL_isRight_97 rfl ?_
                  refine X.iload dL_isRight_99 rfl ?_
                  refine X.iconst dL_isRight_101 ?_
                  refine X.callV1 (As := [.inl c, .inl r, .inl 2]) (rest := [.inl l2]) dL_isRight_102 mk_L_18 sh_0 (lq_cell (x := bi (lit v (r * 12 + c))) hR c r 2 ⟨by omega, by omega⟩ ⟨by omega, by omega⟩ (by decide) (qCell_2 hcr)) rfl (by decide) rfl (Nat.le_of_ble_eq_true rfl) ?_
                  refine X.iadd (c := l2 + (bi (lit v (r * 12 + c)))) dL_isRight_105 rfl ?_
                  refine X.istore_n (lv2 := [some (.inr (some 0)), some (.inl (l2 + (bi (lit v (r * 12 + c))))), some (.inl sd), some (.inl (s2 + 0)), some (.inl (k2 + 0)), some (.inl r), some (.inl c), some (.inl (me v sd (r * 12 + c))), some (.inl 0), x9, x10]) dL_isRight_106 (Nat.le_of_ble_eq_true rfl) rfl ?_
                  refine X.aload_n dL_isRight_107 rfl ?_
                  refine X.iload dL_isRight_108 rfl ?_
                  refine X.iload dL_isRight_110 rfl ?_
                  refine X.iconst dL_isRight_112 ?_
                  refine X.callV1 (As := [.inl c, .inl r, .inl 3]) (rest := []) dL_isRight_113 mk_L_18 sh_0 (lq_cell (x := sIn v (r * 12 + c)) hR c r 3 ⟨by omega, by omega⟩ ⟨by omega, by omega⟩ (by decide) (qCell_3 hcr)) rfl (by decide) rfl (Nat.le_of_ble_eq_true rfl) ?_
                  refine X.istore (lv2 := [some (.inr (some 0)), some (.inl (l2 + (bi (lit v (r * 12 + c))))), some (.inl sd), some (.inl (s2 + 0)), some (.inl (k2 + 0)), some (.inl r), some (.inl c), some (.inl (me v sd (r * 12 + c))), some (.inl 0), some (.inl (sIn v (r * 12 + c))), x10]) dL_isRight_116 (Nat.le_of_ble_eq_true rfl) rfl ?_
                  refine X.iload dL_isRight_118 rfl ?_
                  refine X.if_lt (tgt := 138) dL_isRight_120 (by decide) ⟨by omega, by omega⟩ (fun h72 => ?_) (fun h72 => ?_)
                  · skip
                    refine X.iconst dL_isRight_138 ?_
                    refine X.istore (lv2 := [some (.inr (some 0)), some (.inl (l2 + (bi (lit v (r * 12 + c))))), some (.inl sd), some (.inl (s2 + 0)), some (.inl (k2 + 0)), some (.inl r), some (.inl c), some (.inl (me v sd (r * 12 + c))), some (.inl 0), some (.inl (sIn v (r * 12 + c))), some (.inl 0)]) dL_isRight_139 (Nat.le_of_ble_eq_true rfl) rfl ?_
                    refine X.iload dL_isRight_141 rfl ?_
                    refine X.if_lt (tgt := 204) dL_isRight_143 (by decide) ⟨by omega, by omega⟩ (fun h => by exfalso; omega) (fun h73 => ?_)
                    refine X.iload dL_isRight_146 rfl ?_
                    refine X.aload_n dL_isRight_148 rfl ?_
                    refine X.iconst dL_isRight_149 ?_
                    refine X.callV1 (As := [.inl 4]) (rest := [.inl (me v sd (r * 12 + c))]) dL_isRight_150 mk_L_12 sh_0 (lq_count (x := v 0 2) hR 4 (by decide) qCount_4) rfl (by decide) rfl (Nat.le_of_ble_eq_true rfl) ?_
                    refine X.icmp_gt (tgt := 204) dL_isRight_153 (by decide) ⟨by omega, by omega⟩ ⟨by omega, by omega⟩ (fun h => by exfalso; omega) (fun h74 => ?_)
                    refine X.iload dL_isRight_156 rfl ?_
                    refine X.if_eq (tgt := 171) dL_isRight_158 (by decide) (by decide) (fun h75 => ?_) (fun h => absurd h (by decide))
                    refine X.iload dL_isRight_171 rfl ?_
                    refine X.if_ne (tgt := 180) dL_isRight_173 (by decide) ⟨by omega, by omega⟩ (fun h => by exfalso; omega) (fun h76 => ?_)
                    refine X.iconst dL_isRight_176 ?_
                    refine X.goto (tgt := 181) dL_isRight_177 (by decide) ?_
                    refine X.aload_n dL_isRight_181 rfl ?_
                    refine X.iload_n dL_isRight_182 rfl ?_
                    refine X.iload dL_isRight_183 rfl ?_
                    refine X.iload dL_isRight_185 rfl ?_
                    refine X.iconst dL_isRight_187 ?_
                    refine X.callV1 (As := [.inl sd, .inl c, .inl r, .inl 1]) (rest := [.inl 1]) dL_isRight_188 mk_L_22 sh_0 (lq_known (x := (-19)) hR sd c r 1 ⟨by omega, by omega⟩ ⟨by omega, by omega⟩ ⟨by omega, by omega⟩ (by decide) ((qKnown_1 hs01 hcr).trans (if_pos (by omega)))) rfl (by decide) rfl (Nat.le_of_ble_eq_true rfl) ?_
                    refine X.bipush dL_isRight_191 (by decide) ?_
                    refine X.icmp_ne (tgt := 200) dL_isRight_193 (by decide) (by decide) (by decide) (fun h => absurd h (by decide)) (fun h77 => ?_)
                    refine X.iconst dL_isRight_196 ?_
                    refine X.goto (tgt := 201) dL_isRight_197 (by decide) ?_
                    refine X.icmp_eq (tgt := 206) dL_isRight_201 (by decide) (by decide) (by decide) (fun h78 => ?_) (fun h => absurd h (by decide))
                    refine X.iload dL_isRight_206 rfl ?_
                    refine X.if_eq (tgt := 280) dL_isRight_208 (by decide) (by decide) (fun h79 => ?_) (fun h => absurd h (by decide))
                    refine X.iinc (y := c + 1) (lv2 := [some (.inr (some 0)), some (.inl (l2 + (bi (lit v (r * 12 + c))))), some (.inl sd), some (.inl (s2 + 0)), some (.inl (k2 + 0)), some (.inl r), some (.inl (c + 1)), some (.inl (me v sd (r * 12 + c))), some (.inl 0), some (.inl (sIn v (r * 12 + c))), some (.inl 0)]) dL_isRight_280 rfl rfl rfl ?_
                    refine X.goto (tgt := 27) dL_isRight_283 (by decide) ?_
                    exact ihc (l2 + (bi (lit v (r * 12 + c)))) (s2 + 0) (k2 + 0) (some (.inl (me v sd (r * 12 + c)))) (some (.inl 0)) (some (.inl (sIn v (r * 12 + c)))) (some (.inl 0)) ⟨by omega, by omega, by omega⟩
                  · skip
                    have h3q := hS.r3 (sIn v (r * 12 + c))
                    refine X.aload_n dL_isRight_123 rfl ?_
                    refine X.iload dL_isRight_124 rfl ?_
                    refine X.iconst dL_isRight_126 ?_
                    refine X.callV1 (As := [.inl (sIn v (r * 12 + c)), .inl 0]) (rest := []) dL_isRight_127 mk_L_26 sh_0 (lq_scout (x := v 3 (sIn v (r * 12 + c))) hR (sIn v (r * 12 + c)) 0 ⟨by omega, by omega⟩ (by decide) (qScout_0 (by omega))) rfl (by decide) rfl (Nat.le_of_ble_eq_true rfl) ?_
                    refine X.iload_n dL_isRight_130 rfl ?_
                    refine X.icmp_eq (tgt := 138) dL_isRight_131 (by decide) ⟨by omega, by omega⟩ ⟨by omega, by omega⟩ (fun h131 => ?_) (fun h131 => ?_)
                    · skip
                      refine X.iconst dL_isRight_138 ?_
                      refine X.istore (lv2 := [some (.inr (some 0)), some (.inl (l2 + (bi (lit v (r * 12 + c))))), some (.inl sd), some (.inl (s2 + 0)), some (.inl (k2 + 0)), some (.inl r), some (.inl c), some (.inl (me v sd (r * 12 + c))), some (.inl 0), some (.inl (sIn v (r * 12 + c))), some (.inl 0)]) dL_isRight_139 (Nat.le_of_ble_eq_true rfl) rfl ?_
                      refine X.iload dL_isRight_141 rfl ?_
                      refine X.if_lt (tgt := 204) dL_isRight_143 (by decide) ⟨by omega, by omega⟩ (fun h => by exfalso; omega) (fun h80 => ?_)
                      refine X.iload dL_isRight_146 rfl ?_
                      refine X.aload_n dL_isRight_148 rfl ?_
                      refine X.iconst dL_isRight_149 ?_
                      refine X.callV1 (As := [.inl 4]) (rest := [.inl (me v sd (r * 12 + c))]) dL_isRight_150 mk_L_12 sh_0 (lq_count (x := v 0 2) hR 4 (by decide) qCount_4) rfl (by decide) rfl (Nat.le_of_ble_eq_true rfl) ?_
                      refine X.icmp_gt (tgt := 204) dL_isRight_153 (by decide) ⟨by omega, by omega⟩ ⟨by omega, by omega⟩ (fun h => by exfalso; omega) (fun h81 => ?_)
                      refine X.iload dL_isRight_156 rfl ?_
                      refine X.if_eq (tgt := 171) dL_isRight_158 (by decide) (by decide) (fun h82 => ?_) (fun h => absurd h (by decide))
                      refine X.iload dL_isRight_171 rfl ?_
                      refine X.if_ne (tgt := 180) dL_isRight_173 (by decide) ⟨by omega, by omega⟩ (fun h => by exfalso; omega) (fun h83 => ?_)
                      refine X.iconst dL_isRight_176 ?_
                      refine X.goto (tgt := 181) dL_isRight_177 (by decide) ?_
                      refine X.aload_n dL_isRight_181 rfl ?_
                      refine X.iload_n dL_isRight_182 rfl ?_
                      refine X.iload dL_isRight_183 rfl ?_
                      refine X.iload dL_isRight_185 rfl ?_
                      refine X.iconst dL_isRight_187 ?_
                      refine X.callV1 (As := [.inl sd, .inl c, .inl r, .inl 1]) (rest := [.inl 1]) dL_isRight_188 mk_L_22 sh_0 (lq_known (x := (-19)) hR sd c r 1 ⟨by omega, by omega⟩ ⟨by omega, by omega⟩ ⟨by omega, by omega⟩ (by decide) ((qKnown_1 hs01 hcr).trans (if_pos (by omega)))) rfl (by decide) rfl (Nat.le_of_ble_eq_true rfl) ?_
                      refine X.bipush dL_isRight_191 (by decide) ?_
                      refine X.icmp_ne (tgt := 200) dL_isRight_193 (by decide) (by decide) (by decide) (fun h => absurd h (by decide)) (fun h84 => ?_)
                      refine X.iconst dL_isRight_196 ?_
                      refine X.goto (tgt := 201) dL_isRight_197 (by decide) ?_
                      refine X.icmp_eq (tgt := 206) dL_isRight_201 (by decide) (by decide) (by decide) (fun h85 => ?_) (fun h => absurd h (by decide))
                      refine X.iload dL_isRight_206 rfl ?_
                      refine X.if_eq (tgt := 280) dL_isRight_208 (by decide) (by decide) (fun h86 => ?_) (fun h => absurd h (by decide))
                      refine X.iinc (y := c + 1) (lv2 := [some (.inr (some 0)), some (.inl (l2 + (bi (lit v (r * 12 + c))))), some (.inl sd), some (.inl (s2 + 0)), some (.inl (k2 + 0)), some (.inl r), some (.inl (c + 1)), some (.inl (me v sd (r * 12 + c))), some (.inl 0), some (.inl (sIn v (r * 12 + c))), some (.inl 0)]) dL_isRight_280 rfl rfl rfl ?_
                      refine X.goto (tgt := 27) dL_isRight_283 (by decide) ?_
                      exact ihc (l2 + (bi (lit v (r * 12 + c)))) (s2 + 0) (k2 + 0) (some (.inl (me v sd (r * 12 + c)))) (some (.inl 0)) (some (.inl (sIn v (r * 12 + c)))) (some (.inl 0)) ⟨by omega, by omega, by omega⟩
                    · skip
                      refine X.iconst dL_isRight_134 ?_
                      refine X.goto (tgt := 139) dL_isRight_135 (by decide) ?_
                      refine X.istore (lv2 := [some (.inr (some 0)), some (.inl (l2 + (bi (lit v (r * 12 + c))))), some (.inl sd), some (.inl (s2 + 0)), some (.inl (k2 + 0)), some (.inl r), some (.inl c), some (.inl (me v sd (r * 12 + c))), some (.inl 0), some (.inl (sIn v (r * 12 + c))), some (.inl 1)]) dL_isRight_139 (Nat.le_of_ble_eq_true rfl) rfl ?_
                      refine X.iload dL_isRight_141 rfl ?_
                      refine X.if_lt (tgt := 204) dL_isRight_143 (by decide) ⟨by omega, by omega⟩ (fun h => by exfalso; omega) (fun h87 => ?_)
                      refine X.iload dL_isRight_146 rfl ?_
                      refine X.aload_n dL_isRight_148 rfl ?_
                      refine X.iconst dL_isRight_149 ?_
                      refine X.callV1 (As := [.inl 4]) (rest := [.inl (me v sd (r * 12 + c))]) dL_isRight_150 mk_L_12 sh_0 (lq_count (x := v 0 2) hR 4 (by decide) qCount_4) rfl (by decide) rfl (Nat.le_of_ble_eq_true rfl) ?_
                      refine X.icmp_gt (tgt := 204) dL_isRight_153 (by decide) ⟨by omega, by omega⟩ ⟨by omega, by omega⟩ (fun h => by exfalso; omega) (fun h88 => ?_)
                      refine X.iload dL_isRight_156 rfl ?_
                      refine X.if_eq (tgt := 171) dL_isRight_158 (by decide) (by decide) (fun h89 => ?_) (fun h => absurd h (by decide))
                      refine X.iload dL_isRight_171 rfl ?_
                      refine X.if_ne (tgt := 180) dL_isRight_173 (by decide) ⟨by omega, by omega⟩ (fun h => by exfalso; omega) (fun h90 => ?_)
                      refine X.iconst dL_isRight_176 ?_
                      refine X.goto (tgt := 181) dL_isRight_177 (by decide) ?_
                      refine X.aload_n dL_isRight_181 rfl ?_
                      refine X.iload_n dL_isRight_182 rfl ?_
                      refine X.iload dL_isRight_183 rfl ?_
                      refine X.iload dL_isRight_185 rfl ?_
                      refine X.iconst dL_isRight_187 ?_
                      refine X.callV1 (As := [.inl sd, .inl c, .inl r, .inl 1]) (rest := [.inl 1]) dL_isRight_188 mk_L_22 sh_0 (lq_known (x := (-19)) hR sd c r 1 ⟨by omega, by omega⟩ ⟨by omega, by omega⟩ ⟨by omega, by omega⟩ (by decide) ((qKnown_1 hs01 hcr).trans (if_pos (by omega)))) rfl (by decide) rfl (Nat.le_of_ble_eq_true rfl) ?_
                      refine X.bipush dL_isRight_191 (by decide) ?_
                      refine X.icmp_ne (tgt := 200) dL_isRight_193 (by decide) (by decide) (by decide) (fun h => absurd h (by decide)) (fun h91 => ?_)
                      refine X.iconst dL_isRight_196 ?_
                      refine X.goto (tgt := 201) dL_isRight_197 (by decide) ?_
                      refine X.icmp_eq (tgt := 206) dL_isRight_201 (by decide) (by decide) (by decide) (fun h92 => ?_) (fun h => absurd h (by decide))
                      refine X.iload dL_isRight_206 rfl ?_
                      refine X.if_eq (tgt := 280) dL_isRight_208 (by decide) (by decide) (fun h93 => ?_) (fun h => absurd h (by decide))
                      refine X.iinc (y := c + 1) (lv2 := [some (.inr (some 0)), some (.inl (l2 + (bi (lit v (r * 12 + c))))), some (.inl sd), some (.inl (s2 + 0)), some (.inl (k2 + 0)), some (.inl r), some (.inl (c + 1)), some (.inl (me v sd (r * 12 + c))), some (.inl 0), some (.inl (sIn v (r * 12 + c))), some (.inl 1)]) dL_isRight_280 rfl rfl rfl ?_
                      refine X.goto (tgt := 27) dL_isRight_283 (by decide) ?_
                      exact ihc (l2 + (bi (lit v (r * 12 + c)))) (s2 + 0) (k2 + 0) (some (.inl (me v sd (r * 12 + c)))) (some (.inl 0)) (some (.inl (sIn v (r * 12 + c)))) (some (.inl 1)) ⟨by omega, by omega, by omega⟩
                · skip
                  rw [bi_t (show 0 < me v sd (r * 12 + c) by omega)] at ek
                  refine X.iconst dL_isRight_87 ?_
                  refine X.goto (tgt := 92) dL_isRight_88 (by decide) ?_
                  refine X.iadd (c := k2 + 1) dL_isRight_92 rfl ?_
                  refine X.istore (lv2 := [some (.inr (some 0)), some (.inl l2), some (.inl sd), some (.inl (s2 + 0)), some (.inl (k2 + 1)), some (.inl r), some (.inl c), some (.inl (me v sd (r * 12 + c))), some (.inl 0), x9, x10]) dL_isRight_93 (Nat.le_of_ble_eq_true rfl) rfl ?_
                  refine X.iload_n dL_isRight_95 rfl ?_
                  refine X.aload_n dL_isRight_96 rfl ?_
                  refine X.iload dL_isRight_97 rfl ?_
                  refine X.iload dL_isRight_99 rfl ?_
                  refine X.iconst dL_isRight_101 ?_
                  refine X.callV1 (As := [.inl c, .inl r, .inl 2]) (rest := [.inl l2]) dL_isRight_102 mk_L_18 sh_0 (lq_cell (x := bi (lit v (r * 12 + c))) hR c r 2 ⟨by omega, by omega⟩ ⟨by omega, by omega⟩ (by decide) (qCell_2 hcr)) rfl (by decide) rfl (Nat.le_of_ble_eq_true rfl) ?_
                  refine X.iadd (c := l2 + (bi (lit v (r * 12 + c)))) dL_isRight_105 rfl ?_
                  refine X.istore_n (lv2 := [some (.inr (some 0)), some (.inl (l2 + (bi (lit v (r * 12 + c))))), some (.inl sd), some (.inl (s2 + 0)), some (.inl (k2 + 1)), some (.inl r), some (.inl c), some (.inl (me v sd (r * 12 + c))), some (.inl 0), x9, x10]) dL_isRight_106 (Nat.le_of_ble_eq_true rfl) rfl ?_
                  refine X.aload_n dL_isRight_107 rfl ?_
                  refine X.iload dL_isRight_108 rfl ?_
                  refine X.iload dL_isRight_110 rfl ?_
                  refine X.iconst dL_isRight_112 ?_
                  refine X.callV1 (As := [.inl c, .inl r, .inl 3]) (rest := []) dL_isRight_113 mk_L_18 sh_0 (lq_cell (x := sIn v (r * 12 + c)) hR c r 3 ⟨by omega, by omega⟩ ⟨by omega, by omega⟩ (by decide) (qCell_3 hcr)) rfl (by decide) rfl (Nat.le_of_ble_eq_true rfl) ?_
                  refine X.istore (lv2 := [some (.inr (some 0)), some (.inl (l2 + (bi (lit v (r * 12 + c))))), some (.inl sd), some (.inl (s2 + 0)), some (.inl (k2 + 1)), some (.inl r), some (.inl c), some (.inl (me v sd (r * 12 + c))), some (.inl 0), some (.inl (sIn v (r * 12 + c))), x10]) dL_isRight_116 (Nat.le_of_ble_eq_true rfl) rfl ?_
                  refine X.iload dL_isRight_118 rfl ?_
                  refine X.if_lt (tgt := 138) dL_isRight_120 (by decide) ⟨by omega, by omega⟩ (fun h94 => ?_) (fun h94 => ?_)
                  · skip
                    refine X.iconst dL_isRight_138 ?_
                    refine X.istore (lv2 := [some (.inr (some 0)), some (.inl (l2 + (bi (lit v (r * 12 + c))))), some (.inl sd), some (.inl (s2 + 0)), some (.inl (k2 + 1)), some (.inl r), some (.inl c), some (.inl (me v sd (r * 12 + c))), some (.inl 0), some (.inl (sIn v (r * 12 + c))), some (.inl 0)]) dL_isRight_139 (Nat.le_of_ble_eq_true rfl) rfl ?_
                    refine X.iload dL_isRight_141 rfl ?_
                    refine X.if_lt (tgt := 204) dL_isRight_143 (by decide) ⟨by omega, by omega⟩ (fun h => by exfalso; omega) (fun h95 => ?_)
                    refine X.iload dL_isRight_146 rfl ?_
                    refine X.aload_n dL_isRight_148 rfl ?_
                    refine X.iconst dL_isRight_149 ?_
                    refine X.callV1 (As := [.inl 4]) (rest := [.inl (me v sd (r * 12 + c))]) dL_isRight_150 mk_L_12 sh_0 (lq_count (x := v 0 2) hR 4 (by decide) qCount_4) rfl (by decide) rfl (Nat.le_of_ble_eq_true rfl) ?_
                    refine X.icmp_gt (tgt := 204) dL_isRight_153 (by decide) ⟨by omega, by omega⟩ ⟨by omega, by omega⟩ (fun h => by exfalso; omega) (fun h96 => ?_)
                    refine X.iload dL_isRight_156 rfl ?_
                    refine X.if_eq (tgt := 171) dL_isRight_158 (by decide) (by decide) (fun h97 => ?_) (fun h => absurd h (by decide))
                    refine X.iload dL_isRight_171 rfl ?_
                    refine X.if_ne (tgt := 180) dL_isRight_173 (by decide) ⟨by omega, by omega⟩ (fun h98 => ?_) (fun h => by exfalso; omega)
                    refine X.iconst dL_isRight_180 ?_
                    refine X.aload_n dL_isRight_181 rfl ?_
                    refine X.iload_n dL_isRight_182 rfl ?_
                    refine X.iload dL_isRight_183 rfl ?_
                    refine X.iload dL_isRight_185 rfl ?_
                    refine X.iconst dL_isRight_187 ?_
                    refine X.callV1 (As := [.inl sd, .inl c, .inl r, .inl 1]) (rest := [.inl 0]) dL_isRight_188 mk_L_22 sh_0 (lq_known (x := kh v sd (r * 12 + c)) hR sd c r 1 ⟨by omega, by omega⟩ ⟨by omega, by omega⟩ ⟨by omega, by omega⟩ (by decide) ((qKnown_1 hs01 hcr).trans (if_neg (by omega)))) rfl (by decide) rfl (Nat.le_of_ble_eq_true rfl) ?_
                    refine X.bipush dL_isRight_191 (by decide) ?_
                    refine X.icmp_ne (tgt := 200) dL_isRight_193 (by decide) ⟨by omega, by omega⟩ (by decide) (fun h99 => ?_) (fun h => by exfalso; omega)
                    refine X.iconst dL_isRight_200 ?_
                    refine X.icmp_eq (tgt := 206) dL_isRight_201 (by decide) (by decide) (by decide) (fun h100 => ?_) (fun h => absurd h (by decide))
                    refine X.iload dL_isRight_206 rfl ?_
                    refine X.if_eq (tgt := 280) dL_isRight_208 (by decide) (by decide) (fun h101 => ?_) (fun h => absurd h (by decide))
                    refine X.iinc (y := c + 1) (lv2 := [some (.inr (some 0)), some (.inl (l2 + (bi (lit v (r * 12 + c))))), some (.inl sd), some (.inl (s2 + 0)), some (.inl (k2 + 1)), some (.inl r), some (.inl (c + 1)), some (.inl (me v sd (r * 12 + c))), some (.inl 0), some (.inl (sIn v (r * 12 + c))), some (.inl 0)]) dL_isRight_280 rfl rfl rfl ?_
                    refine X.goto (tgt := 27) dL_isRight_283 (by decide) ?_
                    exact ihc (l2 + (bi (lit v (r * 12 + c)))) (s2 + 0) (k2 + 1) (some (.inl (me v sd (r * 12 + c)))) (some (.inl 0)) (some (.inl (sIn v (r * 12 + c)))) (some (.inl 0)) ⟨by omega, by omega, by omega⟩
                  · skip
                    have h3q := hS.r3 (sIn v (r * 12 + c))
                    refine X.aload_n dL_isRight_123 rfl ?_
                    refine X.iload dL_isRight_124 rfl ?_
                    refine X.iconst dL_isRight_126 ?_
                    refine X.callV1 (As := [.inl (sIn v (r * 12 + c)), .inl 0]) (rest := []) dL_isRight_127 mk_L_26 sh_0 (lq_scout (x := v 3 (sIn v (r * 12 + c))) hR (sIn v (r * 12 + c)) 0 ⟨by omega, by omega⟩ (by decide) (qScout_0 (by omega))) rfl (by decide) rfl (Nat.le_of_ble_eq_true rfl) ?_
                    refine X.iload_n dL_isRight_130 rfl ?_
                    refine X.icmp_eq (tgt := 138) dL_isRight_131 (by decide) ⟨by omega, by omega⟩ ⟨by omega, by omega⟩ (fun h131 => ?_) (fun h131 => ?_)
                    · skip
                      refine X.iconst dL_isRight_138 ?_
                      refine X.istore (lv2 := [some (.inr (some 0)), some (.inl (l2 + (bi (lit v (r * 12 + c))))), some (.inl sd), some (.inl (s2 + 0)), some (.inl (k2 + 1)), some (.inl r), some (.inl c), some (.inl (me v sd (r * 12 + c))), some (.inl 0), some (.inl (sIn v (r * 12 + c))), some (.inl 0)]) dL_isRight_139 (Nat.le_of_ble_eq_true rfl) rfl ?_
                      refine X.iload dL_isRight_141 rfl ?_
                      refine X.if_lt (tgt := 204) dL_isRight_143 (by decide) ⟨by omega, by omega⟩ (fun h => by exfalso; omega) (fun h102 => ?_)
                      refine X.iload dL_isRight_146 rfl ?_
                      refine X.aload_n dL_isRight_148 rfl ?_
                      refine X.iconst dL_isRight_149 ?_
                      refine X.callV1 (As := [.inl 4]) (rest := [.inl (me v sd (r * 12 + c))]) dL_isRight_150 mk_L_12 sh_0 (lq_count (x := v 0 2) hR 4 (by decide) qCount_4) rfl (by decide) rfl (Nat.le_of_ble_eq_true rfl) ?_
                      refine X.icmp_gt (tgt := 204) dL_isRight_153 (by decide) ⟨by omega, by omega⟩ ⟨by omega, by omega⟩ (fun h => by exfalso; omega) (fun h103 => ?_)
                      refine X.iload dL_isRight_156 rfl ?_
                      refine X.if_eq (tgt := 171) dL_isRight_158 (by decide) (by decide) (fun h104 => ?_) (fun h => absurd h (by decide))
                      refine X.iload dL_isRight_171 rfl ?_
                      refine X.if_ne (tgt := 180) dL_isRight_173 (by decide) ⟨by omega, by omega⟩ (fun h105 => ?_) (fun h => by exfalso; omega)
                      refine X.iconst dL_isRight_180 ?_
                      refine X.aload_n dL_isRight_181 rfl ?_
                      refine X.iload_n dL_isRight_182 rfl ?_
                      refine X.iload dL_isRight_183 rfl ?_
                      refine X.iload dL_isRight_185 rfl ?_
                      refine X.iconst dL_isRight_187 ?_
                      refine X.callV1 (As := [.inl sd, .inl c, .inl r, .inl 1]) (rest := [.inl 0]) dL_isRight_188 mk_L_22 sh_0 (lq_known (x := kh v sd (r * 12 + c)) hR sd c r 1 ⟨by omega, by omega⟩ ⟨by omega, by omega⟩ ⟨by omega, by omega⟩ (by decide) ((qKnown_1 hs01 hcr).trans (if_neg (by omega)))) rfl (by decide) rfl (Nat.le_of_ble_eq_true rfl) ?_
                      refine X.bipush dL_isRight_191 (by decide) ?_
                      refine X.icmp_ne (tgt := 200) dL_isRight_193 (by decide) ⟨by omega, by omega⟩ (by decide) (fun h106 => ?_) (fun h => by exfalso; omega)
                      refine X.iconst dL_isRight_200 ?_
                      refine X.icmp_eq (tgt := 206) dL_isRight_201 (by decide) (by decide) (by decide) (fun h107 => ?_) (fun h => absurd h (by decide))
                      refine X.iload dL_isRight_206 rfl ?_
                      refine X.if_eq (tgt := 280) dL_isRight_208 (by decide) (by decide) (fun h108 => ?_) (fun h => absurd h (by decide))
                      refine X.iinc (y := c + 1) (lv2 := [some (.inr (some 0)), some (.inl (l2 + (bi (lit v (r * 12 + c))))), some (.inl sd), some (.inl (s2 + 0)), some (.inl (k2 + 1)), some (.inl r), some (.inl (c + 1)), some (.inl (me v sd (r * 12 + c))), some (.inl 0), some (.inl (sIn v (r * 12 + c))), some (.inl 0)]) dL_isRight_280 rfl rfl rfl ?_
                      refine X.goto (tgt := 27) dL_isRight_283 (by decide) ?_
                      exact ihc (l2 + (bi (lit v (r * 12 + c)))) (s2 + 0) (k2 + 1) (some (.inl (me v sd (r * 12 + c)))) (some (.inl 0)) (some (.inl (sIn v (r * 12 + c)))) (some (.inl 0)) ⟨by omega, by omega, by omega⟩
                    · skip
                      refine X.iconst dL_isRight_134 ?_
                      refine X.goto (tgt := 139) dL_isRight_135 (by decide) ?_
                      refine X.istore (lv2 := [some (.inr (some 0)), some (.inl (l2 + (bi (lit v (r * 12 + c))))), some (.inl sd), some (.inl (s2 + 0)), some (.inl (k2 + 1)), some (.inl r), some (.inl c), some (.inl (me v sd (r * 12 + c))), some (.inl 0), some (.inl (sIn v (r * 12 + c))), some (.inl 1)]) dL_isRight_139 (Nat.le_of_ble_eq_true rfl) rfl ?_
                      refine X.iload dL_isRight_141 rfl ?_
                      refine X.if_lt (tgt := 204) dL_isRight_143 (by decide) ⟨by omega, by omega⟩ (fun h => by exfalso; omega) (fun h109 => ?_)
                      refine X.iload dL_isRight_146 rfl ?_
                      refine X.aload_n dL_isRight_148 rfl ?_
                      refine X.iconst dL_isRight_149 ?_
                      refine X.callV1 (As := [.inl 4]) (rest := [.inl (me v sd (r * 12 + c))]) dL_isRight_150 mk_L_12 sh_0 (lq_count (x := v 0 2) hR 4 (by decide) qCount_4) rfl (by decide) rfl (Nat.le_of_ble_eq_true rfl) ?_
                      refine X.icmp_gt (tgt := 204) dL_isRight_153 (by decide) ⟨by omega, by omega⟩ ⟨by omega, by omega⟩ (fun h => by exfalso; omega) (fun h110 => ?_)
                      refine X.iload dL_isRight_156 rfl ?_
                      refine X.if_eq (tgt := 171) dL_isRight_158 (by decide) (by decide) (fun h111 => ?_) (fun h => absurd h (by decide))
                      refine X.iload dL_isRight_171 rfl ?_
                      refine X.if_ne (tgt := 180) dL_isRight_173 (by decide) ⟨by omega, by omega⟩ (fun h112 => ?_) (fun h => by exfalso; omega)
                      refine X.iconst dL_isRight_180 ?_
                      refine X.aload_n dL_isRight_181 rfl ?_
                      refine X.iload_n dL_isRight_182 rfl ?_
                      refine X.iload dL_isRight_183 rfl ?_
                      refine X.iload dL_isRight_185 rfl ?_
                      refine X.iconst dL_isRight_187 ?_
                      refine X.callV1 (As := [.inl sd, .inl c, .inl r, .inl 1]) (rest := [.inl 0]) dL_isRight_188 mk_L_22 sh_0 (lq_known (x := kh v sd (r * 12 + c)) hR sd c r 1 ⟨by omega, by omega⟩ ⟨by omega, by omega⟩ ⟨by omega, by omega⟩ (by decide) ((qKnown_1 hs01 hcr).trans (if_neg (by omega)))) rfl (by decide) rfl (Nat.le_of_ble_eq_true rfl) ?_
                      refine X.bipush dL_isRight_191 (by decide) ?_
                      refine X.icmp_ne (tgt := 200) dL_isRight_193 (by decide) ⟨by omega, by omega⟩ (by decide) (fun h113 => ?_) (fun h => by exfalso; omega)
                      refine X.iconst dL_isRight_200 ?_
                      refine X.icmp_eq (tgt := 206) dL_isRight_201 (by decide) (by decide) (by decide) (fun h114 => ?_) (fun h => absurd h (by decide))
                      refine X.iload dL_isRight_206 rfl ?_
                      refine X.if_eq (tgt := 280) dL_isRight_208 (by decide) (by decide) (fun h115 => ?_) (fun h => absurd h (by decide))
                      refine X.iinc (y := c + 1) (lv2 := [some (.inr (some 0)), some (.inl (l2 + (bi (lit v (r * 12 + c))))), some (.inl sd), some (.inl (s2 + 0)), some (.inl (k2 + 1)), some (.inl r), some (.inl (c + 1)), some (.inl (me v sd (r * 12 + c))), some (.inl 0), some (.inl (sIn v (r * 12 + c))), some (.inl 1)]) dL_isRight_280 rfl rfl rfl ?_
                      refine X.goto (tgt := 27) dL_isRight_283 (by decide) ?_
                      exact ihc (l2 + (bi (lit v (r * 12 + c)))) (s2 + 0) (k2 + 1) (some (.inl (me v sd (r * 12 + c)))) (some (.inl 0)) (some (.inl (sIn v (r * 12 + c)))) (some (.inl 1)) ⟨by omega, by omega, by omega⟩
          exact L27 0 (by omega) (by omega) l1 s1 k1 x7 x8 x9 x10 (by rw [Int.add_zero]; exact h1)
      exact L17 0 (by omega) (by omega) lt 0 0 x6 x7 x8 x9 x10 ⟨rfl, rfl, (Int.add_zero _).symm⟩
  exact L4 0 (by omega) (by omega) 0 none none none none none none none none (by omega)
