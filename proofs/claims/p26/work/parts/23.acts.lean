set_option maxHeartbeats 4000000 in
set_option maxRecDepth 100000 in
theorem c_setHeight (M : Mem) (v : Vw) (z : Int) (H : Int → Vw) (tl : Int) (T : Int → Int) (hR : RF M (v, z, H, tl, T)) (c r x : Int) (hc : inR c) (hr : inR r) (hx : inR x) : CQ mX6_setHeight 7 [.inr (some 0), .inl c, .inl r, .inl x] M (OUT M (oHeight (v, z, H, tl, T) c r x)) := by
  have hv : VA M v := VA.of hR.1.1
  have hS : SI v := hR.1.2.1
  have hG : SG M v := hR.1.2.2.1
  have hm : VM M v := VM.of hR.1.1
  have hn1 : 0 ≤ M 24 2 ∧ M 24 2 ≤ 4 := hR.1.2.2.2.1
  have hz : M 24 1 = z := hR.1.2.2.2.2.1
  have hz1 : 0 ≤ z ∧ z ≤ 5 := hR.1.2.2.2.2.2.1
  have htl : M 126 1 = tl := hR.2.1
  have htb : 0 ≤ tl ∧ tl ≤ 120 := hR.2.2.1
  have n0 := hS.n0
  have n1 := hS.n1
  have n2 := hS.n2
  refine CX.of (by decide +kernel) (Nat.le_of_ble_eq_true rfl) [some (.inr (some 0)), some (.inl c), some (.inl r), some (.inl x), none, none] rfl ?_
  refine X.iload_n dX6_setHeight_0 rfl ?_
  refine X.iload_n dX6_setHeight_1 rfl ?_
  by_cases p1 : 0 ≤ c ∧ c ≤ 11 ∧ 0 ≤ r ∧ r ≤ 9
  · skip
    refine X.callS1 (As := [.inl c, .inl r]) (rest := []) dX6_setHeight_2 mk_X6_44 (CX.bt (c_isCell M c r ⟨by omega, by omega⟩ ⟨by omega, by omega⟩) p1) rfl (by decide) rfl (Nat.le_of_ble_eq_true rfl) ?_
    refine X.if_eq (tgt := 18) dX6_setHeight_5 (by decide) (by decide) (fun h => absurd h (by decide)) (fun h1 => ?_)
    refine X.iload_n dX6_setHeight_8 rfl ?_
    refine X.iconst dX6_setHeight_9 ?_
    refine X.bipush dX6_setHeight_10 (by decide) ?_
    by_cases p2 : 0 ≤ x ∧ x ≤ 9
    · skip
      refine X.callS1 (As := [.inl x, .inl 0, .inl 9]) (rest := []) dX6_setHeight_12 mk_X6_48 (CX.bt (c_isWithin M x 0 9 ⟨by omega, by omega⟩ (by decide) (by decide)) p2) rfl (by decide) rfl (Nat.le_of_ble_eq_true rfl) ?_
      refine X.if_ne (tgt := 21) dX6_setHeight_15 (by decide) (by decide) (fun h2 => ?_) (fun h => absurd h (by decide))
      refine X.iload_n dX6_setHeight_21 rfl ?_
      refine X.iload_n dX6_setHeight_22 rfl ?_
      refine X.callS1 (As := [.inl c, .inl r]) (rest := []) dX6_setHeight_23 mk_X6_52 (c_cellAt M c r) rfl (by decide) rfl (Nat.le_of_ble_eq_true rfl) ?_
      refine X.istore (lv2 := [some (.inr (some 0)), some (.inl c), some (.inl r), some (.inl x), some (.inl (r * 12 + c)), none]) dX6_setHeight_26 (Nat.le_of_ble_eq_true rfl) rfl ?_
      refine X.aload_n dX6_setHeight_28 rfl ?_
      refine X.getR dX6_setHeight_29 fi_X6_12 sh_0 rfl ?_
      refine X.getR dX6_setHeight_32 fi_X6_56 sh_1 rfl ?_
      refine X.iload dX6_setHeight_35 rfl ?_
      have q3 := SI.r1 hS (r * 12 + c)
      refine X.iald (v := v 1 (r * 12 + c)) dX6_setHeight_37 sh_2 (by decide) (by omega) (rd_1 hv (by omega)) ?_
      refine X.istore (lv2 := [some (.inr (some 0)), some (.inl c), some (.inl r), some (.inl x), some (.inl (r * 12 + c)), some (.inl (v 1 (r * 12 + c)))]) dX6_setHeight_38 (Nat.le_of_ble_eq_true rfl) rfl ?_
      refine X.aload_n dX6_setHeight_40 rfl ?_
      refine X.getR dX6_setHeight_41 fi_X6_26 sh_0 rfl ?_
      refine X.aload_n dX6_setHeight_44 rfl ?_
      refine X.getR dX6_setHeight_45 fi_X6_12 sh_0 rfl ?_
      refine X.callV0 (As := [.inr (some 1)]) (rest := []) dX6_setHeight_48 mk_X6_60 sh_24 (c_keep M (M 24 2) z rfl hz hn1 hz1) rfl (by decide) rfl (Nat.le_of_ble_eq_true rfl) ?_
      refine X.aload_n dX6_setHeight_51 rfl ?_
      refine X.getR dX6_setHeight_52 fi_X6_12 sh_0 rfl ?_
      refine X.getR dX6_setHeight_55 fi_X6_56 sh_1 rfl ?_
      refine X.iload dX6_setHeight_58 rfl ?_
      refine X.iload_n dX6_setHeight_60 rfl ?_
      refine X.iast dX6_setHeight_61 sh_2 (by decide) (by omega) ?_
      refine X.aload_n dX6_setHeight_62 rfl ?_
      refine X.callV0 (As := []) (rest := []) dX6_setHeight_63 mk_X6_64 sh_0 (c_look (mset (keepM M (M 24 2) z) 2 (r * 12 + c) x) (vset v 1 (r * 12 + c) x) (VA.of (vF_set (t := 1) hR.kV (by decide) (by rw [if_pos (by decide)]; omega))) (hS.height p2)) rfl (by decide) rfl (Nat.le_of_ble_eq_true rfl) ?_
      refine X.iload dX6_setHeight_66 rfl ?_
      exact Y.iret dX6_setHeight_68 rfl (by unfold OUT oHeight; rw [if_pos p1, if_pos p2]; exact ⟨rfl, hR.act (fun a ha => by first | rfl | rw [mset_row (by omega), mset_row (by omega), mset_row (by omega), mset_row (by omega)] | rw [mset_row (by omega)]) (vF_set (t := 1) hR.kV (by decide) (by rw [if_pos (by decide)]; omega)) (hS.height p2)⟩)
    · skip
      refine X.callS1 (As := [.inl x, .inl 0, .inl 9]) (rest := []) dX6_setHeight_12 mk_X6_48 (CX.bf (c_isWithin M x 0 9 ⟨by omega, by omega⟩ (by decide) (by decide)) p2) rfl (by decide) rfl (Nat.le_of_ble_eq_true rfl) ?_
      refine X.if_ne (tgt := 21) dX6_setHeight_15 (by decide) (by decide) (fun h => absurd h (by decide)) (fun h4 => ?_)
      refine X.bipush dX6_setHeight_18 (by decide) ?_
      exact Y.iret dX6_setHeight_20 rfl (by unfold OUT oHeight; rw [if_pos p1, if_neg p2]; exact ⟨rfl, hR, fun _ _ => rfl⟩)
  · skip
    refine X.callS1 (As := [.inl c, .inl r]) (rest := []) dX6_setHeight_2 mk_X6_44 (CX.bf (c_isCell M c r ⟨by omega, by omega⟩ ⟨by omega, by omega⟩) p1) rfl (by decide) rfl (Nat.le_of_ble_eq_true rfl) ?_
    refine X.if_eq (tgt := 18) dX6_setHeight_5 (by decide) (by decide) (fun h5 => ?_) (fun h => absurd h (by decide))
    refine X.bipush dX6_setHeight_18 (by decide) ?_
    exact Y.iret dX6_setHeight_20 rfl (by unfold OUT oHeight; rw [if_neg p1]; exact ⟨rfl, hR, fun _ _ => rfl⟩)
set_option maxHeartbeats 4000000 in
set_option maxRecDepth 100000 in
theorem c_setWall (M : Mem) (v : Vw) (z : Int) (H : Int → Vw) (tl : Int) (T : Int → Int) (hR : RF M (v, z, H, tl, T)) (c r x : Int) (hc : inR c) (hr : inR r) (hx : inR x) : CQ mX6_setWall 7 [.inr (some 0), .inl c, .inl r, .inl x] M (OUT M (oWall (v, z, H, tl, T) c r x)) := by
  have hv : VA M v := VA.of hR.1.1
  have hS : SI v := hR.1.2.1
  have hG : SG M v := hR.1.2.2.1
  have hm : VM M v := VM.of hR.1.1
  have hn1 : 0 ≤ M 24 2 ∧ M 24 2 ≤ 4 := hR.1.2.2.2.1
  have hz : M 24 1 = z := hR.1.2.2.2.2.1
  have hz1 : 0 ≤ z ∧ z ≤ 5 := hR.1.2.2.2.2.2.1
  have htl : M 126 1 = tl := hR.2.1
  have htb : 0 ≤ tl ∧ tl ≤ 120 := hR.2.2.1
  have n0 := hS.n0
  have n1 := hS.n1
  have n2 := hS.n2
  refine CX.of (by decide +kernel) (Nat.le_of_ble_eq_true rfl) [some (.inr (some 0)), some (.inl c), some (.inl r), some (.inl x), none, none] rfl ?_
  refine X.iload_n dX6_setWall_0 rfl ?_
  refine X.iload_n dX6_setWall_1 rfl ?_
  by_cases p1 : 0 ≤ c ∧ c ≤ 11 ∧ 0 ≤ r ∧ r ≤ 9
  · skip
    refine X.callS1 (As := [.inl c, .inl r]) (rest := []) dX6_setWall_2 mk_X6_44 (CX.bt (c_isCell M c r ⟨by omega, by omega⟩ ⟨by omega, by omega⟩) p1) rfl (by decide) rfl (Nat.le_of_ble_eq_true rfl) ?_
    refine X.if_eq (tgt := 17) dX6_setWall_5 (by decide) (by decide) (fun h => absurd h (by decide)) (fun h1 => ?_)
    refine X.iload_n dX6_setWall_8 rfl ?_
    refine X.iconst dX6_setWall_9 ?_
    refine X.iconst dX6_setWall_10 ?_
    by_cases p2 : 0 ≤ x ∧ x ≤ 1
    · skip
      refine X.callS1 (As := [.inl x, .inl 0, .inl 1]) (rest := []) dX6_setWall_11 mk_X6_48 (CX.bt (c_isWithin M x 0 1 ⟨by omega, by omega⟩ (by decide) (by decide)) p2) rfl (by decide) rfl (Nat.le_of_ble_eq_true rfl) ?_
      refine X.if_ne (tgt := 20) dX6_setWall_14 (by decide) (by decide) (fun h2 => ?_) (fun h => absurd h (by decide))
      refine X.iload_n dX6_setWall_20 rfl ?_
      refine X.iload_n dX6_setWall_21 rfl ?_
      refine X.callS1 (As := [.inl c, .inl r]) (rest := []) dX6_setWall_22 mk_X6_52 (c_cellAt M c r) rfl (by decide) rfl (Nat.le_of_ble_eq_true rfl) ?_
      refine X.istore (lv2 := [some (.inr (some 0)), some (.inl c), some (.inl r), some (.inl x), some (.inl (r * 12 + c)), none]) dX6_setWall_25 (Nat.le_of_ble_eq_true rfl) rfl ?_
      refine X.iload_n dX6_setWall_27 rfl ?_
      refine X.iconst dX6_setWall_28 ?_
      refine X.icmp_ne (tgt := 49) dX6_setWall_29 (by decide) ⟨by omega, by omega⟩ (by decide) (fun p3 => ?_) (fun p3 => ?_)
      · skip
        have p4 : ¬ (x = 1 ∧ ¬ sIn v (r * 12 + c) = -19) := fun q => p3 q.1
        refine X.aload_n dX6_setWall_49 rfl ?_
        refine X.getR dX6_setWall_50 fi_X6_12 sh_0 rfl ?_
        refine X.getR dX6_setWall_53 fi_X6_71 sh_1 rfl ?_
        refine X.iload dX6_setWall_56 rfl ?_
        have q3 := SI.r2 hS (r * 12 + c)
        refine X.iald (v := v 2 (r * 12 + c)) dX6_setWall_58 sh_3 (by decide) (by omega) (rd_2 hv (by omega)) ?_
        refine X.istore (lv2 := [some (.inr (some 0)), some (.inl c), some (.inl r), some (.inl x), some (.inl (r * 12 + c)), some (.inl (v 2 (r * 12 + c)))]) dX6_setWall_59 (Nat.le_of_ble_eq_true rfl) rfl ?_
        refine X.aload_n dX6_setWall_61 rfl ?_
        refine X.getR dX6_setWall_62 fi_X6_26 sh_0 rfl ?_
        refine X.aload_n dX6_setWall_65 rfl ?_
        refine X.getR dX6_setWall_66 fi_X6_12 sh_0 rfl ?_
        refine X.callV0 (As := [.inr (some 1)]) (rest := []) dX6_setWall_69 mk_X6_60 sh_24 (c_keep M (M 24 2) z rfl hz hn1 hz1) rfl (by decide) rfl (Nat.le_of_ble_eq_true rfl) ?_
        refine X.aload_n dX6_setWall_72 rfl ?_
        refine X.getR dX6_setWall_73 fi_X6_12 sh_0 rfl ?_
        refine X.getR dX6_setWall_76 fi_X6_71 sh_1 rfl ?_
        refine X.iload dX6_setWall_79 rfl ?_
        refine X.iload_n dX6_setWall_81 rfl ?_
        refine X.iast dX6_setWall_82 sh_3 (by decide) (by omega) ?_
        refine X.aload_n dX6_setWall_83 rfl ?_
        refine X.callV0 (As := []) (rest := []) dX6_setWall_84 mk_X6_64 sh_0 (c_look (mset (keepM M (M 24 2) z) 3 (r * 12 + c) x) (vset v 2 (r * 12 + c) x) (VA.of (vF_set (t := 2) hR.kV (by decide) (by rw [if_pos (by decide)]; omega))) (hS.wall p2 p4)) rfl (by decide) rfl (Nat.le_of_ble_eq_true rfl) ?_
        refine X.iload dX6_setWall_87 rfl ?_
        exact Y.iret dX6_setWall_89 rfl (by unfold OUT oWall; rw [if_pos p1, if_pos p2, if_neg p4]; exact ⟨rfl, hR.act (fun a ha => by first | rfl | rw [mset_row (by omega), mset_row (by omega), mset_row (by omega), mset_row (by omega)] | rw [mset_row (by omega)]) (vF_set (t := 2) hR.kV (by decide) (by rw [if_pos (by decide)]; omega)) (hS.wall p2 p4)⟩)
      · skip
        refine X.aload_n dX6_setWall_32 rfl ?_
        refine X.getR dX6_setWall_33 fi_X6_12 sh_0 rfl ?_
        refine X.iload dX6_setWall_36 rfl ?_
        refine X.callV1 (As := [.inl (r * 12 + c)]) (rest := []) dX6_setWall_38 mk_X6_67 sh_1 (c_scoutIn M v hv hS (r * 12 + c) ⟨by omega, by omega⟩) rfl (by decide) rfl (Nat.le_of_ble_eq_true rfl) ?_
        refine X.bipush dX6_setWall_41 (by decide) ?_
        have hi := sIn_range hS (r * 12 + c)
        refine X.icmp_eq (tgt := 49) dX6_setWall_43 (by decide) ⟨by omega, by omega⟩ (by decide) (fun p5 => ?_) (fun p5 => ?_)
        · skip
          have p4 : ¬ (x = 1 ∧ ¬ sIn v (r * 12 + c) = -19) := fun q => q.2 p5
          refine X.aload_n dX6_setWall_49 rfl ?_
          refine X.getR dX6_setWall_50 fi_X6_12 sh_0 rfl ?_
          refine X.getR dX6_setWall_53 fi_X6_71 sh_1 rfl ?_
          refine X.iload dX6_setWall_56 rfl ?_
          have q4 := SI.r2 hS (r * 12 + c)
          refine X.iald (v := v 2 (r * 12 + c)) dX6_setWall_58 sh_3 (by decide) (by omega) (rd_2 hv (by omega)) ?_
          refine X.istore (lv2 := [some (.inr (some 0)), some (.inl c), some (.inl r), some (.inl x), some (.inl (r * 12 + c)), some (.inl (v 2 (r * 12 + c)))]) dX6_setWall_59 (Nat.le_of_ble_eq_true rfl) rfl ?_
          refine X.aload_n dX6_setWall_61 rfl ?_
          refine X.getR dX6_setWall_62 fi_X6_26 sh_0 rfl ?_
          refine X.aload_n dX6_setWall_65 rfl ?_
          refine X.getR dX6_setWall_66 fi_X6_12 sh_0 rfl ?_
          refine X.callV0 (As := [.inr (some 1)]) (rest := []) dX6_setWall_69 mk_X6_60 sh_24 (c_keep M (M 24 2) z rfl hz hn1 hz1) rfl (by decide) rfl (Nat.le_of_ble_eq_true rfl) ?_
          refine X.aload_n dX6_setWall_72 rfl ?_
          refine X.getR dX6_setWall_73 fi_X6_12 sh_0 rfl ?_
          refine X.getR dX6_setWall_76 fi_X6_71 sh_1 rfl ?_
          refine X.iload dX6_setWall_79 rfl ?_
          refine X.iload_n dX6_setWall_81 rfl ?_
          refine X.iast dX6_setWall_82 sh_3 (by decide) (by omega) ?_
          refine X.aload_n dX6_setWall_83 rfl ?_
          refine X.callV0 (As := []) (rest := []) dX6_setWall_84 mk_X6_64 sh_0 (c_look (mset (keepM M (M 24 2) z) 3 (r * 12 + c) x) (vset v 2 (r * 12 + c) x) (VA.of (vF_set (t := 2) hR.kV (by decide) (by rw [if_pos (by decide)]; omega))) (hS.wall p2 p4)) rfl (by decide) rfl (Nat.le_of_ble_eq_true rfl) ?_
          refine X.iload dX6_setWall_87 rfl ?_
          exact Y.iret dX6_setWall_89 rfl (by unfold OUT oWall; rw [if_pos p1, if_pos p2, if_neg p4]; exact ⟨rfl, hR.act (fun a ha => by first | rfl | rw [mset_row (by omega), mset_row (by omega), mset_row (by omega), mset_row (by omega)] | rw [mset_row (by omega)]) (vF_set (t := 2) hR.kV (by decide) (by rw [if_pos (by decide)]; omega)) (hS.wall p2 p4)⟩)
        · skip
          have p4 : x = 1 ∧ ¬ sIn v (r * 12 + c) = -19 := ⟨by omega, p5⟩
          refine X.bipush dX6_setWall_46 (by decide) ?_
          exact Y.iret dX6_setWall_48 rfl (by unfold OUT oWall; rw [if_pos p1, if_pos p2, if_pos p4]; exact ⟨rfl, hR, fun _ _ => rfl⟩)
    · skip
      refine X.callS1 (As := [.inl x, .inl 0, .inl 1]) (rest := []) dX6_setWall_11 mk_X6_48 (CX.bf (c_isWithin M x 0 1 ⟨by omega, by omega⟩ (by decide) (by decide)) p2) rfl (by decide) rfl (Nat.le_of_ble_eq_true rfl) ?_
      refine X.if_ne (tgt := 20) dX6_setWall_14 (by decide) (by decide) (fun h => absurd h (by decide)) (fun h5 => ?_)
      refine X.bipush dX6_setWall_17 (by decide) ?_
      exact Y.iret dX6_setWall_19 rfl (by unfold OUT oWall; rw [if_pos p1, if_neg p2]; exact ⟨rfl, hR, fun _ _ => rfl⟩)
  · skip
    refine X.callS1 (As := [.inl c, .inl r]) (rest := []) dX6_setWall_2 mk_X6_44 (CX.bf (c_isCell M c r ⟨by omega, by omega⟩ ⟨by omega, by omega⟩) p1) rfl (by decide) rfl (Nat.le_of_ble_eq_true rfl) ?_
    refine X.if_eq (tgt := 17) dX6_setWall_5 (by decide) (by decide) (fun h6 => ?_) (fun h => absurd h (by decide))
    refine X.bipush dX6_setWall_17 (by decide) ?_
    exact Y.iret dX6_setWall_19 rfl (by unfold OUT oWall; rw [if_neg p1]; exact ⟨rfl, hR, fun _ _ => rfl⟩)
set_option maxHeartbeats 4000000 in
set_option maxRecDepth 100000 in
theorem c_append (M : Mem) (v : Vw) (z : Int) (H : Int → Vw) (tl : Int) (T : Int → Int) (hR : RF M (v, z, H, tl, T)) (x : Int) (hx : inR x) : CQ mX6_append 7 [.inr (some 0), .inl x] M (OUT M (oAppend (v, z, H, tl, T) x)) := by
  have hv : VA M v := VA.of hR.1.1
  have hS : SI v := hR.1.2.1
  have hG : SG M v := hR.1.2.2.1
  have hm : VM M v := VM.of hR.1.1
  have hn1 : 0 ≤ M 24 2 ∧ M 24 2 ≤ 4 := hR.1.2.2.2.1
  have hz : M 24 1 = z := hR.1.2.2.2.2.1
  have hz1 : 0 ≤ z ∧ z ≤ 5 := hR.1.2.2.2.2.2.1
  have htl : M 126 1 = tl := hR.2.1
  have htb : 0 ≤ tl ∧ tl ≤ 120 := hR.2.2.1
  have n0 := hS.n0
  have n1 := hS.n1
  have n2 := hS.n2
  refine CX.of (by decide +kernel) (Nat.le_of_ble_eq_true rfl) [some (.inr (some 0)), some (.inl x)] rfl ?_
  refine X.iload_n dX6_append_0 rfl ?_
  refine X.iconst dX6_append_1 ?_
  refine X.sipush dX6_append_2 (by decide) ?_
  by_cases p1 : 1 ≤ x ∧ x ≤ 255
  · skip
    refine X.callS1 (As := [.inl x, .inl 1, .inl 255]) (rest := []) dX6_append_5 mk_X6_48 (CX.bt (c_isWithin M x 1 255 ⟨by omega, by omega⟩ (by decide) (by decide)) p1) rfl (by decide) rfl (Nat.le_of_ble_eq_true rfl) ?_
    refine X.if_ne (tgt := 14) dX6_append_8 (by decide) (by decide) (fun h1 => ?_) (fun h => absurd h (by decide))
    refine X.aload_n dX6_append_14 rfl ?_
    refine X.getR dX6_append_15 fi_X6_33 sh_0 rfl ?_
    refine X.getI (v := tl) 1 dX6_append_18 fi_X6_74 sh_126 rfl htl ?_
    refine X.bipush dX6_append_21 (by decide) ?_
    refine X.icmp_lt (tgt := 29) dX6_append_23 (by decide) ⟨by omega, by omega⟩ (by decide) (fun p2 => ?_) (fun p2 => ?_)
    · skip
      refine X.aload_n dX6_append_29 rfl ?_
      refine X.getR dX6_append_30 fi_X6_33 sh_0 rfl ?_
      refine X.iload_n dX6_append_33 rfl ?_
      refine X.callV0 (As := [.inl x]) (rest := []) dX6_append_34 mk_X6_78 sh_126 (c_put M tl x htl (by omega)) rfl (by decide) rfl (Nat.le_of_ble_eq_true rfl) ?_
      refine X.aload_n dX6_append_37 rfl ?_
      refine X.getR dX6_append_38 fi_X6_33 sh_0 rfl ?_
      refine X.getI (v := tl + 1) 1 dX6_append_41 fi_X6_74 sh_126 rfl mset_at ?_
      exact Y.iret dX6_append_44 rfl (by unfold OUT oAppend; rw [if_pos p1, if_neg (show ¬ 120 ≤ tl by omega)]; exact ⟨rfl, hR.put (by omega) (by omega)⟩)
    · skip
      refine X.bipush dX6_append_26 (by decide) ?_
      exact Y.iret dX6_append_28 rfl (by unfold OUT oAppend; rw [if_pos p1, if_pos (show 120 ≤ tl by omega)]; exact ⟨rfl, hR, fun _ _ => rfl⟩)
  · skip
    refine X.callS1 (As := [.inl x, .inl 1, .inl 255]) (rest := []) dX6_append_5 mk_X6_48 (CX.bf (c_isWithin M x 1 255 ⟨by omega, by omega⟩ (by decide) (by decide)) p1) rfl (by decide) rfl (Nat.le_of_ble_eq_true rfl) ?_
    refine X.if_ne (tgt := 14) dX6_append_8 (by decide) (by decide) (fun h => absurd h (by decide)) (fun h2 => ?_)
    refine X.bipush dX6_append_11 (by decide) ?_
    exact Y.iret dX6_append_13 rfl (by unfold OUT oAppend; rw [if_neg p1]; exact ⟨rfl, hR, fun _ _ => rfl⟩)
set_option maxHeartbeats 4000000 in
set_option maxRecDepth 100000 in
theorem c_addScout (M : Mem) (v : Vw) (z : Int) (H : Int → Vw) (tl : Int) (T : Int → Int) (hR : RF M (v, z, H, tl, T)) (sd c r g : Int) (hsd : inR sd) (hc : inR c) (hr : inR r) (hg : inR g) : CQ mX6_addScout 7 [.inr (some 0), .inl sd, .inl c, .inl r, .inl g] M (OUT M (oAddS (v, z, H, tl, T) sd c r g)) := by
  have hv : VA M v := VA.of hR.1.1
  have hS : SI v := hR.1.2.1
  have hG : SG M v := hR.1.2.2.1
  have hm : VM M v := VM.of hR.1.1
  have hn1 : 0 ≤ M 24 2 ∧ M 24 2 ≤ 4 := hR.1.2.2.2.1
  have hz : M 24 1 = z := hR.1.2.2.2.2.1
  have hz1 : 0 ≤ z ∧ z ≤ 5 := hR.1.2.2.2.2.2.1
  have htl : M 126 1 = tl := hR.2.1
  have htb : 0 ≤ tl ∧ tl ≤ 120 := hR.2.2.1
  have n0 := hS.n0
  have n1 := hS.n1
  have n2 := hS.n2
  refine CX.of (by decide +kernel) (Nat.le_of_ble_eq_true rfl) [some (.inr (some 0)), some (.inl sd), some (.inl c), some (.inl r), some (.inl g), none] rfl ?_
  refine X.iload_n dX6_addScout_0 rfl ?_
  refine X.iconst dX6_addScout_1 ?_
  refine X.iconst dX6_addScout_2 ?_
  by_cases p1 : 0 ≤ sd ∧ sd ≤ 1
  · skip
    refine X.callS1 (As := [.inl sd, .inl 0, .inl 1]) (rest := []) dX6_addScout_3 mk_X6_48 (CX.bt (c_isWithin M sd 0 1 ⟨by omega, by omega⟩ (by decide) (by decide)) p1) rfl (by decide) rfl (Nat.le_of_ble_eq_true rfl) ?_
    refine X.if_eq (tgt := 28) dX6_addScout_6 (by decide) (by decide) (fun h => absurd h (by decide)) (fun h1 => ?_)
    refine X.iload_n dX6_addScout_9 rfl ?_
    refine X.iload_n dX6_addScout_10 rfl ?_
    by_cases p2 : 0 ≤ c ∧ c ≤ 11 ∧ 0 ≤ r ∧ r ≤ 9
    · skip
      refine X.callS1 (As := [.inl c, .inl r]) (rest := []) dX6_addScout_11 mk_X6_44 (CX.bt (c_isCell M c r ⟨by omega, by omega⟩ ⟨by omega, by omega⟩) p2) rfl (by decide) rfl (Nat.le_of_ble_eq_true rfl) ?_
      refine X.if_eq (tgt := 28) dX6_addScout_14 (by decide) (by decide) (fun h => absurd h (by decide)) (fun h2 => ?_)
      refine X.iload dX6_addScout_17 rfl ?_
      refine X.iconst dX6_addScout_19 ?_
      refine X.bipush dX6_addScout_20 (by decide) ?_
      by_cases p3 : 1 ≤ g ∧ g ≤ 8
      · skip
        refine X.callS1 (As := [.inl g, .inl 1, .inl 8]) (rest := []) dX6_addScout_22 mk_X6_48 (CX.bt (c_isWithin M g 1 8 ⟨by omega, by omega⟩ (by decide) (by decide)) p3) rfl (by decide) rfl (Nat.le_of_ble_eq_true rfl) ?_
        refine X.if_ne (tgt := 31) dX6_addScout_25 (by decide) (by decide) (fun h3 => ?_) (fun h => absurd h (by decide))
        refine X.iload_n dX6_addScout_31 rfl ?_
        refine X.iload_n dX6_addScout_32 rfl ?_
        refine X.callS1 (As := [.inl c, .inl r]) (rest := []) dX6_addScout_33 mk_X6_52 (c_cellAt M c r) rfl (by decide) rfl (Nat.le_of_ble_eq_true rfl) ?_
        refine X.istore (lv2 := [some (.inr (some 0)), some (.inl sd), some (.inl c), some (.inl r), some (.inl g), some (.inl (r * 12 + c))]) dX6_addScout_36 (Nat.le_of_ble_eq_true rfl) rfl ?_
        refine X.aload_n dX6_addScout_38 rfl ?_
        refine X.getR dX6_addScout_39 fi_X6_12 sh_0 rfl ?_
        refine X.iload dX6_addScout_42 rfl ?_
        by_cases p4 : v 2 (r * 12 + c) = 0 ∧ sIn v (r * 12 + c) = -19
        · skip
          refine X.callV1 (As := [.inl (r * 12 + c)]) (rest := []) dX6_addScout_44 mk_X6_89 sh_1 (CX.bt (c_isFree M v hv hS (r * 12 + c) (by omega)) p4) rfl (by decide) rfl (Nat.le_of_ble_eq_true rfl) ?_
          refine X.if_ne (tgt := 53) dX6_addScout_47 (by decide) (by decide) (fun h4 => ?_) (fun h => absurd h (by decide))
          refine X.aload_n dX6_addScout_53 rfl ?_
          refine X.getR dX6_addScout_54 fi_X6_12 sh_0 rfl ?_
          refine X.getI (v := v 0 0) 2 dX6_addScout_57 fi_X6_93 sh_1 rfl (rd_0_0 hv) ?_
          refine X.bipush dX6_addScout_60 (by decide) ?_
          refine X.icmp_lt (tgt := 68) dX6_addScout_62 (by decide) ⟨by omega, by omega⟩ (by decide) (fun p5 => ?_) (fun p5 => ?_)
          · skip
            refine X.aload_n dX6_addScout_68 rfl ?_
            refine X.getR dX6_addScout_69 fi_X6_26 sh_0 rfl ?_
            refine X.aload_n dX6_addScout_72 rfl ?_
            refine X.getR dX6_addScout_73 fi_X6_12 sh_0 rfl ?_
            refine X.callV0 (As := [.inr (some 1)]) (rest := []) dX6_addScout_76 mk_X6_60 sh_24 (c_keep M (M 24 2) z rfl hz hn1 hz1) rfl (by decide) rfl (Nat.le_of_ble_eq_true rfl) ?_
            refine X.aload_n dX6_addScout_79 rfl ?_
            refine X.getR dX6_addScout_80 fi_X6_12 sh_0 rfl ?_
            refine X.iload_n dX6_addScout_83 rfl ?_
            refine X.iload dX6_addScout_84 rfl ?_
            refine X.iload dX6_addScout_86 rfl ?_
            refine X.callV0 (As := [.inl sd, .inl (r * 12 + c), .inl g]) (rest := []) dX6_addScout_88 mk_X6_96 sh_1 (c_putScout (keepM M (M 24 2) z) (v 0 0) sd (r * 12 + c) g (rd_0_0 (VA.keep hv)) (by omega)) rfl (by decide) rfl (Nat.le_of_ble_eq_true rfl) ?_
            refine X.aload_n dX6_addScout_91 rfl ?_
            refine X.callV0 (As := []) (rest := []) dX6_addScout_92 mk_X6_64 sh_0 (c_look (mset (mset (mset (mset (keepM M (M 24 2) z) 4 (v 0 0) sd) 5 (v 0 0) (r * 12 + c)) 6 (v 0 0) g) 1 2 (v 0 0 + 1)) (putSV v sd (r * 12 + c) g) (VA.of (vF_putS hR.kV n0.1)) (hS.putS (by omega) p1 (by omega) p3 p4.1 p4.2)) rfl (by decide) rfl (Nat.le_of_ble_eq_true rfl) ?_
            refine X.aload_n dX6_addScout_95 rfl ?_
            refine X.getR dX6_addScout_96 fi_X6_12 sh_0 rfl ?_
            refine X.getI (v := v 0 0 + 1) 2 dX6_addScout_99 fi_X6_93 sh_1 rfl ((congrFun (lookM_no (by omega)) 2).trans mset_at) ?_
            refine X.iconst dX6_addScout_102 ?_
            refine X.isub (c := v 0 0) dX6_addScout_103 (by omega) ?_
            exact Y.iret dX6_addScout_104 rfl (by unfold OUT oAddS; rw [if_pos p1, if_pos p2, if_pos p3, if_pos p4, if_neg (show ¬ 10 ≤ v 0 0 by omega)]; exact ⟨rfl, hR.act (fun a ha => by first | rfl | rw [mset_row (by omega), mset_row (by omega), mset_row (by omega), mset_row (by omega)] | rw [mset_row (by omega)]) (vF_putS hR.kV n0.1) (hS.putS (by omega) p1 (by omega) p3 p4.1 p4.2)⟩)
          · skip
            refine X.bipush dX6_addScout_65 (by decide) ?_
            exact Y.iret dX6_addScout_67 rfl (by unfold OUT oAddS; rw [if_pos p1, if_pos p2, if_pos p3, if_pos p4, if_pos (show 10 ≤ v 0 0 by omega)]; exact ⟨rfl, hR, fun _ _ => rfl⟩)
        · skip
          refine X.callV1 (As := [.inl (r * 12 + c)]) (rest := []) dX6_addScout_44 mk_X6_89 sh_1 (CX.bf (c_isFree M v hv hS (r * 12 + c) (by omega)) p4) rfl (by decide) rfl (Nat.le_of_ble_eq_true rfl) ?_
          refine X.if_ne (tgt := 53) dX6_addScout_47 (by decide) (by decide) (fun h => absurd h (by decide)) (fun h5 => ?_)
          refine X.bipush dX6_addScout_50 (by decide) ?_
          exact Y.iret dX6_addScout_52 rfl (by unfold OUT oAddS; rw [if_pos p1, if_pos p2, if_pos p3, if_neg p4]; exact ⟨rfl, hR, fun _ _ => rfl⟩)
      · skip
        refine X.callS1 (As := [.inl g, .inl 1, .inl 8]) (rest := []) dX6_addScout_22 mk_X6_48 (CX.bf (c_isWithin M g 1 8 ⟨by omega, by omega⟩ (by decide) (by decide)) p3) rfl (by decide) rfl (Nat.le_of_ble_eq_true rfl) ?_
        refine X.if_ne (tgt := 31) dX6_addScout_25 (by decide) (by decide) (fun h => absurd h (by decide)) (fun h6 => ?_)
        refine X.bipush dX6_addScout_28 (by decide) ?_
        exact Y.iret dX6_addScout_30 rfl (by unfold OUT oAddS; rw [if_pos p1, if_pos p2, if_neg p3]; exact ⟨rfl, hR, fun _ _ => rfl⟩)
    · skip
      refine X.callS1 (As := [.inl c, .inl r]) (rest := []) dX6_addScout_11 mk_X6_44 (CX.bf (c_isCell M c r ⟨by omega, by omega⟩ ⟨by omega, by omega⟩) p2) rfl (by decide) rfl (Nat.le_of_ble_eq_true rfl) ?_
      refine X.if_eq (tgt := 28) dX6_addScout_14 (by decide) (by decide) (fun h7 => ?_) (fun h => absurd h (by decide))
      refine X.bipush dX6_addScout_28 (by decide) ?_
      exact Y.iret dX6_addScout_30 rfl (by unfold OUT oAddS; rw [if_pos p1, if_neg p2]; exact ⟨rfl, hR, fun _ _ => rfl⟩)
  · skip
    refine X.callS1 (As := [.inl sd, .inl 0, .inl 1]) (rest := []) dX6_addScout_3 mk_X6_48 (CX.bf (c_isWithin M sd 0 1 ⟨by omega, by omega⟩ (by decide) (by decide)) p1) rfl (by decide) rfl (Nat.le_of_ble_eq_true rfl) ?_
    refine X.if_eq (tgt := 28) dX6_addScout_6 (by decide) (by decide) (fun h8 => ?_) (fun h => absurd h (by decide))
    refine X.bipush dX6_addScout_28 (by decide) ?_
    exact Y.iret dX6_addScout_30 rfl (by unfold OUT oAddS; rw [if_neg p1]; exact ⟨rfl, hR, fun _ _ => rfl⟩)
set_option maxHeartbeats 4000000 in
set_option maxRecDepth 100000 in
theorem c_removeScout (M : Mem) (v : Vw) (z : Int) (H : Int → Vw) (tl : Int) (T : Int → Int) (hR : RF M (v, z, H, tl, T)) (k : Int) (hk : inR k) : CQ mX6_removeScout 7 [.inr (some 0), .inl k] M (OUT M (oRemS (v, z, H, tl, T) k)) := by
  have hv : VA M v := VA.of hR.1.1
  have hS : SI v := hR.1.2.1
  have hG : SG M v := hR.1.2.2.1
  have hm : VM M v := VM.of hR.1.1
  have hn1 : 0 ≤ M 24 2 ∧ M 24 2 ≤ 4 := hR.1.2.2.2.1
  have hz : M 24 1 = z := hR.1.2.2.2.2.1
  have hz1 : 0 ≤ z ∧ z ≤ 5 := hR.1.2.2.2.2.2.1
  have htl : M 126 1 = tl := hR.2.1
  have htb : 0 ≤ tl ∧ tl ≤ 120 := hR.2.2.1
  have n0 := hS.n0
  have n1 := hS.n1
  have n2 := hS.n2
  refine CX.of (by decide +kernel) (Nat.le_of_ble_eq_true rfl) [some (.inr (some 0)), some (.inl k)] rfl ?_
  refine X.aload_n dX6_removeScout_0 rfl ?_
  refine X.iload_n dX6_removeScout_1 rfl ?_
  by_cases p1 : 0 ≤ k ∧ k ≤ v 0 0 - 1
  · skip
    refine X.callV1 (As := [.inl k]) (rest := []) dX6_removeScout_2 mk_X6_100 sh_0 (CX.bt (c_isScout M v hv hS k ⟨by omega, by omega⟩) p1) rfl (by decide) rfl (Nat.le_of_ble_eq_true rfl) ?_
    refine X.if_ne (tgt := 11) dX6_removeScout_5 (by decide) (by decide) (fun h1 => ?_) (fun h => absurd h (by decide))
    refine X.aload_n dX6_removeScout_11 rfl ?_
    refine X.getR dX6_removeScout_12 fi_X6_26 sh_0 rfl ?_
    refine X.aload_n dX6_removeScout_15 rfl ?_
    refine X.getR dX6_removeScout_16 fi_X6_12 sh_0 rfl ?_
    refine X.callV0 (As := [.inr (some 1)]) (rest := []) dX6_removeScout_19 mk_X6_60 sh_24 (c_keep M (M 24 2) z rfl hz hn1 hz1) rfl (by decide) rfl (Nat.le_of_ble_eq_true rfl) ?_
    refine X.aload_n dX6_removeScout_22 rfl ?_
    refine X.getR dX6_removeScout_23 fi_X6_12 sh_0 rfl ?_
    refine X.iload_n dX6_removeScout_26 rfl ?_
    refine X.callV0 (As := [.inl k]) (rest := []) dX6_removeScout_27 mk_X6_128 sh_1 (c_dropScout (keepM M (M 24 2) z) (v 0 0) k (rd_0_0 (VA.keep hv)) (by omega) (by omega)) rfl (by decide) rfl (Nat.le_of_ble_eq_true rfl) ?_
    refine X.aload_n dX6_removeScout_30 rfl ?_
    refine X.callV0 (As := []) (rest := []) dX6_removeScout_31 mk_X6_64 sh_0 (c_look (mset (drop3 (keepM M (M 24 2) z) 4 k (v 0 0)) 1 2 (v 0 0 - 1)) (dropSV v k) (VA.of (vF_dropS hR.kV (by omega))) (hS.dropS (by omega))) rfl (by decide) rfl (Nat.le_of_ble_eq_true rfl) ?_
    refine X.aload_n dX6_removeScout_34 rfl ?_
    refine X.getR dX6_removeScout_35 fi_X6_12 sh_0 rfl ?_
    refine X.getI (v := v 0 0 - 1) 2 dX6_removeScout_38 fi_X6_93 sh_1 rfl ((congrFun (lookM_no (by omega)) 2).trans mset_at) ?_
    exact Y.iret dX6_removeScout_41 rfl (by unfold OUT oRemS; rw [if_pos p1]; exact ⟨rfl, hR.act (fun a ha => by rw [mset_row (by omega), drop3_rows.1 a (by omega) (by omega) (by omega)]) (vF_dropS hR.kV (by omega)) (hS.dropS (by omega))⟩)
  · skip
    refine X.callV1 (As := [.inl k]) (rest := []) dX6_removeScout_2 mk_X6_100 sh_0 (CX.bf (c_isScout M v hv hS k ⟨by omega, by omega⟩) p1) rfl (by decide) rfl (Nat.le_of_ble_eq_true rfl) ?_
    refine X.if_ne (tgt := 11) dX6_removeScout_5 (by decide) (by decide) (fun h => absurd h (by decide)) (fun h2 => ?_)
    refine X.bipush dX6_removeScout_8 (by decide) ?_
    exact Y.iret dX6_removeScout_10 rfl (by unfold OUT oRemS; rw [if_neg p1]; exact ⟨rfl, hR, fun _ _ => rfl⟩)
set_option maxHeartbeats 4000000 in
set_option maxRecDepth 100000 in
theorem c_addLight (M : Mem) (v : Vw) (z : Int) (H : Int → Vw) (tl : Int) (T : Int → Int) (hR : RF M (v, z, H, tl, T)) (c r g o : Int) (hc : inR c) (hr : inR r) (hg : inR g) (ho : inR o) : CQ mX6_addLight 7 [.inr (some 0), .inl c, .inl r, .inl g, .inl o] M (OUT M (oAddL (v, z, H, tl, T) c r g o)) := by
  have hv : VA M v := VA.of hR.1.1
  have hS : SI v := hR.1.2.1
  have hG : SG M v := hR.1.2.2.1
  have hm : VM M v := VM.of hR.1.1
  have hn1 : 0 ≤ M 24 2 ∧ M 24 2 ≤ 4 := hR.1.2.2.2.1
  have hz : M 24 1 = z := hR.1.2.2.2.2.1
  have hz1 : 0 ≤ z ∧ z ≤ 5 := hR.1.2.2.2.2.2.1
  have htl : M 126 1 = tl := hR.2.1
  have htb : 0 ≤ tl ∧ tl ≤ 120 := hR.2.2.1
  have n0 := hS.n0
  have n1 := hS.n1
  have n2 := hS.n2
  refine CX.of (by decide +kernel) (Nat.le_of_ble_eq_true rfl) [some (.inr (some 0)), some (.inl c), some (.inl r), some (.inl g), some (.inl o)] rfl ?_
  refine X.iload_n dX6_addLight_0 rfl ?_
  refine X.iload_n dX6_addLight_1 rfl ?_
  by_cases p1 : 0 ≤ c ∧ c ≤ 11 ∧ 0 ≤ r ∧ r ≤ 9
  · skip
    refine X.callS1 (As := [.inl c, .inl r]) (rest := []) dX6_addLight_2 mk_X6_44 (CX.bt (c_isCell M c r ⟨by omega, by omega⟩ ⟨by omega, by omega⟩) p1) rfl (by decide) rfl (Nat.le_of_ble_eq_true rfl) ?_
    refine X.if_eq (tgt := 28) dX6_addLight_5 (by decide) (by decide) (fun h => absurd h (by decide)) (fun h1 => ?_)
    refine X.iload_n dX6_addLight_8 rfl ?_
    refine X.iconst dX6_addLight_9 ?_
    refine X.iconst dX6_addLight_10 ?_
    by_cases p2 : 0 ≤ g ∧ g ≤ 4
    · skip
      refine X.callS1 (As := [.inl g, .inl 0, .inl 4]) (rest := []) dX6_addLight_11 mk_X6_48 (CX.bt (c_isWithin M g 0 4 ⟨by omega, by omega⟩ (by decide) (by decide)) p2) rfl (by decide) rfl (Nat.le_of_ble_eq_true rfl) ?_
      refine X.if_eq (tgt := 28) dX6_addLight_14 (by decide) (by decide) (fun h => absurd h (by decide)) (fun h2 => ?_)
      refine X.iload dX6_addLight_17 rfl ?_
      refine X.iconst dX6_addLight_19 ?_
      refine X.bipush dX6_addLight_20 (by decide) ?_
      by_cases p3 : 0 ≤ o ∧ o ≤ 50
      · skip
        refine X.callS1 (As := [.inl o, .inl 0, .inl 50]) (rest := []) dX6_addLight_22 mk_X6_48 (CX.bt (c_isWithin M o 0 50 ⟨by omega, by omega⟩ (by decide) (by decide)) p3) rfl (by decide) rfl (Nat.le_of_ble_eq_true rfl) ?_
        refine X.if_ne (tgt := 31) dX6_addLight_25 (by decide) (by decide) (fun h3 => ?_) (fun h => absurd h (by decide))
        refine X.aload_n dX6_addLight_31 rfl ?_
        refine X.getR dX6_addLight_32 fi_X6_12 sh_0 rfl ?_
        refine X.getI (v := v 0 1) 6 dX6_addLight_35 fi_X6_131 sh_1 rfl (rd_0_1 hv) ?_
        refine X.bipush dX6_addLight_38 (by decide) ?_
        refine X.icmp_lt (tgt := 46) dX6_addLight_40 (by decide) ⟨by omega, by omega⟩ (by decide) (fun p5 => ?_) (fun p5 => ?_)
        · skip
          refine X.aload_n dX6_addLight_46 rfl ?_
          refine X.getR dX6_addLight_47 fi_X6_26 sh_0 rfl ?_
          refine X.aload_n dX6_addLight_50 rfl ?_
          refine X.getR dX6_addLight_51 fi_X6_12 sh_0 rfl ?_
          refine X.callV0 (As := [.inr (some 1)]) (rest := []) dX6_addLight_54 mk_X6_60 sh_24 (c_keep M (M 24 2) z rfl hz hn1 hz1) rfl (by decide) rfl (Nat.le_of_ble_eq_true rfl) ?_
          refine X.aload_n dX6_addLight_57 rfl ?_
          refine X.getR dX6_addLight_58 fi_X6_12 sh_0 rfl ?_
          refine X.iload_n dX6_addLight_61 rfl ?_
          refine X.iload_n dX6_addLight_62 rfl ?_
          refine X.callS1 (As := [.inl c, .inl r]) (rest := [.inr (some 1)]) dX6_addLight_63 mk_X6_52 (c_cellAt (keepM M (M 24 2) z) c r) rfl (by decide) rfl (Nat.le_of_ble_eq_true rfl) ?_
          refine X.iload_n dX6_addLight_66 rfl ?_
          refine X.iload dX6_addLight_67 rfl ?_
          refine X.callV0 (As := [.inl (r * 12 + c), .inl g, .inl o]) (rest := []) dX6_addLight_69 mk_X6_134 sh_1 (c_putLight (keepM M (M 24 2) z) (v 0 1) (r * 12 + c) g o (rd_0_1 (VA.keep hv)) (by omega)) rfl (by decide) rfl (Nat.le_of_ble_eq_true rfl) ?_
          refine X.aload_n dX6_addLight_72 rfl ?_
          refine X.callV0 (As := []) (rest := []) dX6_addLight_73 mk_X6_64 sh_0 (c_look (mset (mset (mset (mset (keepM M (M 24 2) z) 7 (v 0 1) (r * 12 + c)) 8 (v 0 1) g) 9 (v 0 1) o) 1 6 (v 0 1 + 1)) (putLV v (r * 12 + c) g o) (VA.of (vF_putL hR.kV n1.1)) (hS.putL (by omega) (by omega) p2 p3)) rfl (by decide) rfl (Nat.le_of_ble_eq_true rfl) ?_
          refine X.aload_n dX6_addLight_76 rfl ?_
          refine X.getR dX6_addLight_77 fi_X6_12 sh_0 rfl ?_
          refine X.getI (v := v 0 1 + 1) 6 dX6_addLight_80 fi_X6_131 sh_1 rfl ((congrFun (lookM_no (by omega)) 6).trans mset_at) ?_
          refine X.iconst dX6_addLight_83 ?_
          refine X.isub (c := v 0 1) dX6_addLight_84 (by omega) ?_
          exact Y.iret dX6_addLight_85 rfl (by unfold OUT oAddL; rw [if_pos p1, if_pos p2, if_pos p3, if_neg (show ¬ 6 ≤ v 0 1 by omega)]; exact ⟨rfl, hR.act (fun a ha => by first | rfl | rw [mset_row (by omega), mset_row (by omega), mset_row (by omega), mset_row (by omega)] | rw [mset_row (by omega)]) (vF_putL hR.kV n1.1) (hS.putL (by omega) (by omega) p2 p3)⟩)
        · skip
          refine X.bipush dX6_addLight_43 (by decide) ?_
          exact Y.iret dX6_addLight_45 rfl (by unfold OUT oAddL; rw [if_pos p1, if_pos p2, if_pos p3, if_pos (show 6 ≤ v 0 1 by omega)]; exact ⟨rfl, hR, fun _ _ => rfl⟩)
      · skip
        refine X.callS1 (As := [.inl o, .inl 0, .inl 50]) (rest := []) dX6_addLight_22 mk_X6_48 (CX.bf (c_isWithin M o 0 50 ⟨by omega, by omega⟩ (by decide) (by decide)) p3) rfl (by decide) rfl (Nat.le_of_ble_eq_true rfl) ?_
        refine X.if_ne (tgt := 31) dX6_addLight_25 (by decide) (by decide) (fun h => absurd h (by decide)) (fun h4 => ?_)
        refine X.bipush dX6_addLight_28 (by decide) ?_
        exact Y.iret dX6_addLight_30 rfl (by unfold OUT oAddL; rw [if_pos p1, if_pos p2, if_neg p3]; exact ⟨rfl, hR, fun _ _ => rfl⟩)
    · skip
      refine X.callS1 (As := [.inl g, .inl 0, .inl 4]) (rest := []) dX6_addLight_11 mk_X6_48 (CX.bf (c_isWithin M g 0 4 ⟨by omega, by omega⟩ (by decide) (by decide)) p2) rfl (by decide) rfl (Nat.le_of_ble_eq_true rfl) ?_
      refine X.if_eq (tgt := 28) dX6_addLight_14 (by decide) (by decide) (fun h5 => ?_) (fun h => absurd h (by decide))
      refine X.bipush dX6_addLight_28 (by decide) ?_
      exact Y.iret dX6_addLight_30 rfl (by unfold OUT oAddL; rw [if_pos p1, if_neg p2]; exact ⟨rfl, hR, fun _ _ => rfl⟩)
  · skip
    refine X.callS1 (As := [.inl c, .inl r]) (rest := []) dX6_addLight_2 mk_X6_44 (CX.bf (c_isCell M c r ⟨by omega, by omega⟩ ⟨by omega, by omega⟩) p1) rfl (by decide) rfl (Nat.le_of_ble_eq_true rfl) ?_
    refine X.if_eq (tgt := 28) dX6_addLight_5 (by decide) (by decide) (fun h6 => ?_) (fun h => absurd h (by decide))
    refine X.bipush dX6_addLight_28 (by decide) ?_
    exact Y.iret dX6_addLight_30 rfl (by unfold OUT oAddL; rw [if_neg p1]; exact ⟨rfl, hR, fun _ _ => rfl⟩)
set_option maxHeartbeats 4000000 in
set_option maxRecDepth 100000 in
theorem c_setOil (M : Mem) (v : Vw) (z : Int) (H : Int → Vw) (tl : Int) (T : Int → Int) (hR : RF M (v, z, H, tl, T)) (k o : Int) (hk : inR k) (ho : inR o) : CQ mX6_setOil 7 [.inr (some 0), .inl k, .inl o] M (OUT M (oOil (v, z, H, tl, T) k o)) := by
  have hv : VA M v := VA.of hR.1.1
  have hS : SI v := hR.1.2.1
  have hG : SG M v := hR.1.2.2.1
  have hm : VM M v := VM.of hR.1.1
  have hn1 : 0 ≤ M 24 2 ∧ M 24 2 ≤ 4 := hR.1.2.2.2.1
  have hz : M 24 1 = z := hR.1.2.2.2.2.1
  have hz1 : 0 ≤ z ∧ z ≤ 5 := hR.1.2.2.2.2.2.1
  have htl : M 126 1 = tl := hR.2.1
  have htb : 0 ≤ tl ∧ tl ≤ 120 := hR.2.2.1
  have n0 := hS.n0
  have n1 := hS.n1
  have n2 := hS.n2
  refine CX.of (by decide +kernel) (Nat.le_of_ble_eq_true rfl) [some (.inr (some 0)), some (.inl k), some (.inl o), none] rfl ?_
  refine X.aload_n dX6_setOil_0 rfl ?_
  refine X.iload_n dX6_setOil_1 rfl ?_
  by_cases p1 : 0 ≤ k ∧ k ≤ v 0 1 - 1
  · skip
    refine X.callV1 (As := [.inl k]) (rest := []) dX6_setOil_2 mk_X6_137 sh_0 (CX.bt (c_isLight M v hv hS k ⟨by omega, by omega⟩) p1) rfl (by decide) rfl (Nat.le_of_ble_eq_true rfl) ?_
    refine X.if_eq (tgt := 18) dX6_setOil_5 (by decide) (by decide) (fun h => absurd h (by decide)) (fun h1 => ?_)
    refine X.iload_n dX6_setOil_8 rfl ?_
    refine X.iconst dX6_setOil_9 ?_
    refine X.bipush dX6_setOil_10 (by decide) ?_
    by_cases p2 : 0 ≤ o ∧ o ≤ 50
    · skip
      refine X.callS1 (As := [.inl o, .inl 0, .inl 50]) (rest := []) dX6_setOil_12 mk_X6_48 (CX.bt (c_isWithin M o 0 50 ⟨by omega, by omega⟩ (by decide) (by decide)) p2) rfl (by decide) rfl (Nat.le_of_ble_eq_true rfl) ?_
      refine X.if_ne (tgt := 21) dX6_setOil_15 (by decide) (by decide) (fun h2 => ?_) (fun h => absurd h (by decide))
      refine X.aload_n dX6_setOil_21 rfl ?_
      refine X.getR dX6_setOil_22 fi_X6_12 sh_0 rfl ?_
      refine X.getR dX6_setOil_25 fi_X6_140 sh_1 rfl ?_
      refine X.iload_n dX6_setOil_28 rfl ?_
      have q3 := SI.r8 hS k
      refine X.iald (v := v 8 k) dX6_setOil_29 sh_9 (by decide) (by omega) (rd_8 hv (by omega)) ?_
      refine X.istore_n (lv2 := [some (.inr (some 0)), some (.inl k), some (.inl o), some (.inl (v 8 k))]) dX6_setOil_30 (Nat.le_of_ble_eq_true rfl) rfl ?_
      refine X.aload_n dX6_setOil_31 rfl ?_
      refine X.getR dX6_setOil_32 fi_X6_26 sh_0 rfl ?_
      refine X.aload_n dX6_setOil_35 rfl ?_
      refine X.getR dX6_setOil_36 fi_X6_12 sh_0 rfl ?_
      refine X.callV0 (As := [.inr (some 1)]) (rest := []) dX6_setOil_39 mk_X6_60 sh_24 (c_keep M (M 24 2) z rfl hz hn1 hz1) rfl (by decide) rfl (Nat.le_of_ble_eq_true rfl) ?_
      refine X.aload_n dX6_setOil_42 rfl ?_
      refine X.getR dX6_setOil_43 fi_X6_12 sh_0 rfl ?_
      refine X.getR dX6_setOil_46 fi_X6_140 sh_1 rfl ?_
      refine X.iload_n dX6_setOil_49 rfl ?_
      refine X.iload_n dX6_setOil_50 rfl ?_
      refine X.iast dX6_setOil_51 sh_9 (by decide) (by omega) ?_
      refine X.aload_n dX6_setOil_52 rfl ?_
      refine X.callV0 (As := []) (rest := []) dX6_setOil_53 mk_X6_64 sh_0 (c_look (mset (keepM M (M 24 2) z) 9 k o) (vset v 8 k o) (VA.of (vF_set (t := 8) hR.kV (by decide) (by rw [if_neg (by decide), if_neg (by decide)]; omega))) (hS.oil p2)) rfl (by decide) rfl (Nat.le_of_ble_eq_true rfl) ?_
      refine X.iload_n dX6_setOil_56 rfl ?_
      exact Y.iret dX6_setOil_57 rfl (by unfold OUT oOil; rw [if_pos p1, if_pos p2]; exact ⟨rfl, hR.act (fun a ha => by first | rfl | rw [mset_row (by omega), mset_row (by omega), mset_row (by omega), mset_row (by omega)] | rw [mset_row (by omega)]) (vF_set (t := 8) hR.kV (by decide) (by rw [if_neg (by decide), if_neg (by decide)]; omega)) (hS.oil p2)⟩)
    · skip
      refine X.callS1 (As := [.inl o, .inl 0, .inl 50]) (rest := []) dX6_setOil_12 mk_X6_48 (CX.bf (c_isWithin M o 0 50 ⟨by omega, by omega⟩ (by decide) (by decide)) p2) rfl (by decide) rfl (Nat.le_of_ble_eq_true rfl) ?_
      refine X.if_ne (tgt := 21) dX6_setOil_15 (by decide) (by decide) (fun h => absurd h (by decide)) (fun h4 => ?_)
      refine X.bipush dX6_setOil_18 (by decide) ?_
      exact Y.iret dX6_setOil_20 rfl (by unfold OUT oOil; rw [if_pos p1, if_neg p2]; exact ⟨rfl, hR, fun _ _ => rfl⟩)
  · skip
    refine X.callV1 (As := [.inl k]) (rest := []) dX6_setOil_2 mk_X6_137 sh_0 (CX.bf (c_isLight M v hv hS k ⟨by omega, by omega⟩) p1) rfl (by decide) rfl (Nat.le_of_ble_eq_true rfl) ?_
    refine X.if_eq (tgt := 18) dX6_setOil_5 (by decide) (by decide) (fun h5 => ?_) (fun h => absurd h (by decide))
    refine X.bipush dX6_setOil_18 (by decide) ?_
    exact Y.iret dX6_setOil_20 rfl (by unfold OUT oOil; rw [if_neg p1]; exact ⟨rfl, hR, fun _ _ => rfl⟩)
set_option maxHeartbeats 4000000 in
set_option maxRecDepth 100000 in
theorem c_removeLight (M : Mem) (v : Vw) (z : Int) (H : Int → Vw) (tl : Int) (T : Int → Int) (hR : RF M (v, z, H, tl, T)) (k : Int) (hk : inR k) : CQ mX6_removeLight 7 [.inr (some 0), .inl k] M (OUT M (oRemL (v, z, H, tl, T) k)) := by
  have hv : VA M v := VA.of hR.1.1
  have hS : SI v := hR.1.2.1
  have hG : SG M v := hR.1.2.2.1
  have hm : VM M v := VM.of hR.1.1
  have hn1 : 0 ≤ M 24 2 ∧ M 24 2 ≤ 4 := hR.1.2.2.2.1
  have hz : M 24 1 = z := hR.1.2.2.2.2.1
  have hz1 : 0 ≤ z ∧ z ≤ 5 := hR.1.2.2.2.2.2.1
  have htl : M 126 1 = tl := hR.2.1
  have htb : 0 ≤ tl ∧ tl ≤ 120 := hR.2.2.1
  have n0 := hS.n0
  have n1 := hS.n1
  have n2 := hS.n2
  refine CX.of (by decide +kernel) (Nat.le_of_ble_eq_true rfl) [some (.inr (some 0)), some (.inl k)] rfl ?_
  refine X.aload_n dX6_removeLight_0 rfl ?_
  refine X.iload_n dX6_removeLight_1 rfl ?_
  by_cases p1 : 0 ≤ k ∧ k ≤ v 0 1 - 1
  · skip
    refine X.callV1 (As := [.inl k]) (rest := []) dX6_removeLight_2 mk_X6_137 sh_0 (CX.bt (c_isLight M v hv hS k ⟨by omega, by omega⟩) p1) rfl (by decide) rfl (Nat.le_of_ble_eq_true rfl) ?_
    refine X.if_ne (tgt := 11) dX6_removeLight_5 (by decide) (by decide) (fun h1 => ?_) (fun h => absurd h (by decide))
    refine X.aload_n dX6_removeLight_11 rfl ?_
    refine X.getR dX6_removeLight_12 fi_X6_26 sh_0 rfl ?_
    refine X.aload_n dX6_removeLight_15 rfl ?_
    refine X.getR dX6_removeLight_16 fi_X6_12 sh_0 rfl ?_
    refine X.callV0 (As := [.inr (some 1)]) (rest := []) dX6_removeLight_19 mk_X6_60 sh_24 (c_keep M (M 24 2) z rfl hz hn1 hz1) rfl (by decide) rfl (Nat.le_of_ble_eq_true rfl) ?_
    refine X.aload_n dX6_removeLight_22 rfl ?_
    refine X.getR dX6_removeLight_23 fi_X6_12 sh_0 rfl ?_
    refine X.iload_n dX6_removeLight_26 rfl ?_
    refine X.callV0 (As := [.inl k]) (rest := []) dX6_removeLight_27 mk_X6_143 sh_1 (c_dropLight (keepM M (M 24 2) z) (v 0 1) k (rd_0_1 (VA.keep hv)) (by omega) (by omega)) rfl (by decide) rfl (Nat.le_of_ble_eq_true rfl) ?_
    refine X.aload_n dX6_removeLight_30 rfl ?_
    refine X.callV0 (As := []) (rest := []) dX6_removeLight_31 mk_X6_64 sh_0 (c_look (mset (drop3 (keepM M (M 24 2) z) 7 k (v 0 1)) 1 6 (v 0 1 - 1)) (dropLV v k) (VA.of (vF_dropL hR.kV (by omega))) (hS.dropL (by omega))) rfl (by decide) rfl (Nat.le_of_ble_eq_true rfl) ?_
    refine X.aload_n dX6_removeLight_34 rfl ?_
    refine X.getR dX6_removeLight_35 fi_X6_12 sh_0 rfl ?_
    refine X.getI (v := v 0 1 - 1) 6 dX6_removeLight_38 fi_X6_131 sh_1 rfl ((congrFun (lookM_no (by omega)) 6).trans mset_at) ?_
    exact Y.iret dX6_removeLight_41 rfl (by unfold OUT oRemL; rw [if_pos p1]; exact ⟨rfl, hR.act (fun a ha => by rw [mset_row (by omega), drop3_rows.1 a (by omega) (by omega) (by omega)]) (vF_dropL hR.kV (by omega)) (hS.dropL (by omega))⟩)
  · skip
    refine X.callV1 (As := [.inl k]) (rest := []) dX6_removeLight_2 mk_X6_137 sh_0 (CX.bf (c_isLight M v hv hS k ⟨by omega, by omega⟩) p1) rfl (by decide) rfl (Nat.le_of_ble_eq_true rfl) ?_
    refine X.if_ne (tgt := 11) dX6_removeLight_5 (by decide) (by decide) (fun h => absurd h (by decide)) (fun h2 => ?_)
    refine X.bipush dX6_removeLight_8 (by decide) ?_
    exact Y.iret dX6_removeLight_10 rfl (by unfold OUT oRemL; rw [if_neg p1]; exact ⟨rfl, hR, fun _ _ => rfl⟩)
set_option maxHeartbeats 4000000 in
set_option maxRecDepth 100000 in
theorem c_setFogTime (M : Mem) (v : Vw) (z : Int) (H : Int → Vw) (tl : Int) (T : Int → Int) (hR : RF M (v, z, H, tl, T)) (x : Int) (hx : inR x) : CQ mX6_setFogTime 7 [.inr (some 0), .inl x] M (OUT M (oFog (v, z, H, tl, T) x)) := by
  have hv : VA M v := VA.of hR.1.1
  have hS : SI v := hR.1.2.1
  have hG : SG M v := hR.1.2.2.1
  have hm : VM M v := VM.of hR.1.1
  have hn1 : 0 ≤ M 24 2 ∧ M 24 2 ≤ 4 := hR.1.2.2.2.1
  have hz : M 24 1 = z := hR.1.2.2.2.2.1
  have hz1 : 0 ≤ z ∧ z ≤ 5 := hR.1.2.2.2.2.2.1
  have htl : M 126 1 = tl := hR.2.1
  have htb : 0 ≤ tl ∧ tl ≤ 120 := hR.2.2.1
  have n0 := hS.n0
  have n1 := hS.n1
  have n2 := hS.n2
  refine CX.of (by decide +kernel) (Nat.le_of_ble_eq_true rfl) [some (.inr (some 0)), some (.inl x), none] rfl ?_
  refine X.iload_n dX6_setFogTime_0 rfl ?_
  refine X.iconst dX6_setFogTime_1 ?_
  refine X.bipush dX6_setFogTime_2 (by decide) ?_
  by_cases p1 : 1 ≤ x ∧ x ≤ 99
  · skip
    refine X.callS1 (As := [.inl x, .inl 1, .inl 99]) (rest := []) dX6_setFogTime_4 mk_X6_48 (CX.bt (c_isWithin M x 1 99 ⟨by omega, by omega⟩ (by decide) (by decide)) p1) rfl (by decide) rfl (Nat.le_of_ble_eq_true rfl) ?_
    refine X.if_ne (tgt := 13) dX6_setFogTime_7 (by decide) (by decide) (fun h1 => ?_) (fun h => absurd h (by decide))
    refine X.aload_n dX6_setFogTime_13 rfl ?_
    refine X.getR dX6_setFogTime_14 fi_X6_12 sh_0 rfl ?_
    refine X.getI (v := v 0 2) 10 dX6_setFogTime_17 fi_X6_146 sh_1 rfl (rd_0_2 hv) ?_
    refine X.istore_n (lv2 := [some (.inr (some 0)), some (.inl x), some (.inl (v 0 2))]) dX6_setFogTime_20 (Nat.le_of_ble_eq_true rfl) rfl ?_
    refine X.aload_n dX6_setFogTime_21 rfl ?_
    refine X.getR dX6_setFogTime_22 fi_X6_26 sh_0 rfl ?_
    refine X.aload_n dX6_setFogTime_25 rfl ?_
    refine X.getR dX6_setFogTime_26 fi_X6_12 sh_0 rfl ?_
    refine X.callV0 (As := [.inr (some 1)]) (rest := []) dX6_setFogTime_29 mk_X6_60 sh_24 (c_keep M (M 24 2) z rfl hz hn1 hz1) rfl (by decide) rfl (Nat.le_of_ble_eq_true rfl) ?_
    refine X.aload_n dX6_setFogTime_32 rfl ?_
    refine X.getR dX6_setFogTime_33 fi_X6_12 sh_0 rfl ?_
    refine X.iload_n dX6_setFogTime_36 rfl ?_
    refine X.callV0 (As := [.inl x]) (rest := []) dX6_setFogTime_37 mk_X6_149 sh_1 (c_changeFogTime (keepM M (M 24 2) z) v hS (fun i hi => rd_9 (VM.keep hm) hi) (fun i hi => rd_13 (VM.keep hm) hi) x hx) rfl (by decide) rfl (Nat.le_of_ble_eq_true rfl) ?_
    refine X.aload_n dX6_setFogTime_40 rfl ?_
    refine X.callV0 (As := []) (rest := []) dX6_setFogTime_41 mk_X6_64 sh_0 (c_look (limM (mset (keepM M (M 24 2) z) 1 10 x) v x) (limV v x) (VA.of (vF_lim hR.kV p1.1)) (hS.lim p1)) rfl (by decide) rfl (Nat.le_of_ble_eq_true rfl) ?_
    refine X.iload_n dX6_setFogTime_44 rfl ?_
    exact Y.iret dX6_setFogTime_45 rfl (by unfold OUT oFog; rw [if_pos p1]; exact ⟨rfl, hR.act (fun a ha => by unfold limM; rw [mgen_row (Frow_no (by omega)), mgen_row (Frow_no (by omega)), mset_row (by omega)]) (vF_lim hR.kV p1.1) (hS.lim p1)⟩)
  · skip
    refine X.callS1 (As := [.inl x, .inl 1, .inl 99]) (rest := []) dX6_setFogTime_4 mk_X6_48 (CX.bf (c_isWithin M x 1 99 ⟨by omega, by omega⟩ (by decide) (by decide)) p1) rfl (by decide) rfl (Nat.le_of_ble_eq_true rfl) ?_
    refine X.if_ne (tgt := 13) dX6_setFogTime_7 (by decide) (by decide) (fun h => absurd h (by decide)) (fun h2 => ?_)
    refine X.bipush dX6_setFogTime_10 (by decide) ?_
    exact Y.iret dX6_setFogTime_12 rfl (by unfold OUT oFog; rw [if_neg p1]; exact ⟨rfl, hR, fun _ _ => rfl⟩)
set_option maxHeartbeats 4000000 in
set_option maxRecDepth 100000 in
theorem c_pass (M : Mem) (v : Vw) (z : Int) (H : Int → Vw) (tl : Int) (T : Int → Int) (hR : RF M (v, z, H, tl, T)) (n : Int) (hn : inR n) : CQ mX6_pass 8 [.inr (some 0), .inl n] M (OUT M (oPass (v, z, H, tl, T) n)) := by
  have hv : VA M v := VA.of hR.1.1
  have hS : SI v := hR.1.2.1
  have hG : SG M v := hR.1.2.2.1
  have hm : VM M v := VM.of hR.1.1
  have hn1 : 0 ≤ M 24 2 ∧ M 24 2 ≤ 4 := hR.1.2.2.2.1
  have hz : M 24 1 = z := hR.1.2.2.2.2.1
  have hz1 : 0 ≤ z ∧ z ≤ 5 := hR.1.2.2.2.2.2.1
  have htl : M 126 1 = tl := hR.2.1
  have htb : 0 ≤ tl ∧ tl ≤ 120 := hR.2.2.1
  have n0 := hS.n0
  have n1 := hS.n1
  have n2 := hS.n2
  refine CX.of (by decide +kernel) (Nat.le_of_ble_eq_true rfl) [some (.inr (some 0)), some (.inl n), none, none] rfl ?_
  refine X.iload_n dX6_pass_0 rfl ?_
  refine X.iconst dX6_pass_1 ?_
  refine X.bipush dX6_pass_2 (by decide) ?_
  by_cases p1 : 1 ≤ n ∧ n ≤ 99
  · skip
    refine X.callS1 (As := [.inl n, .inl 1, .inl 99]) (rest := []) dX6_pass_4 mk_X6_48 (CX.bt (c_isWithin M n 1 99 ⟨by omega, by omega⟩ (by decide) (by decide)) p1) rfl (by decide) rfl (Nat.le_of_ble_eq_true rfl) ?_
    refine X.if_ne (tgt := 13) dX6_pass_7 (by decide) (by decide) (fun h1 => ?_) (fun h => absurd h (by decide))
    refine X.aload_n dX6_pass_13 rfl ?_
    refine X.getR dX6_pass_14 fi_X6_26 sh_0 rfl ?_
    refine X.aload_n dX6_pass_17 rfl ?_
    refine X.getR dX6_pass_18 fi_X6_12 sh_0 rfl ?_
    refine X.callV0 (As := [.inr (some 1)]) (rest := []) dX6_pass_21 mk_X6_60 sh_24 (c_keep M (M 24 2) z rfl hz hn1 hz1) rfl (by decide) rfl (Nat.le_of_ble_eq_true rfl) ?_
    refine X.iconst dX6_pass_24 ?_
    refine X.istore_n (lv2 := [some (.inr (some 0)), some (.inl n), some (.inl 0), none]) dX6_pass_25 (Nat.le_of_ble_eq_true rfl) rfl ?_
    refine X.iconst dX6_pass_26 ?_
    refine X.istore_n (lv2 := [some (.inr (some 0)), some (.inl n), some (.inl 0), some (.inl 0)]) dX6_pass_27 (Nat.le_of_ble_eq_true rfl) rfl ?_
    have L28 : ∀ k, 0 ≤ k → k ≤ n → ∀ acc : Int, ∀ (w : Vw) (M1 : Mem), RF M1 (w, imin (z + 1) 5, pushH H z v, tl, T) → (∀ a, 132 ≤ a → M1 a = M a) → VQ mX6_pass 8 28 [some (.inr (some 0)), some (.inl n), some (.inl acc), some (.inl k)] [] M1 (fun r M' => r = some (.inl (acc + outN (n - k).toNat w)) ∧ RF M' (passN (n - k).toNat w, imin (z + 1) 5, pushH H z v, tl, T) ∧ ∀ a, 132 ≤ a → M' a = M a) := by
      refine down_ind 0 n ?_ ?_
      · skip
        intro acc w M1 hR1 hM1
        refine X.iload_n dX6_pass_28 rfl ?_
        refine X.iload_n dX6_pass_29 rfl ?_
        refine X.icmp_ge (tgt := 46) dX6_pass_30 (by decide) ⟨by omega, by omega⟩ ⟨by omega, by omega⟩ (fun h2 => ?_) (fun h => by exfalso; omega)
        refine X.iload_n dX6_pass_46 rfl ?_
        exact Y.iret dX6_pass_47 rfl (by rw [Int.sub_self]; exact ⟨congrArg (fun q => some (Sum.inl q : AV)) (Int.add_zero _).symm, hR1, hM1⟩)
      · intro k hk1 hk2 ihk
        intro acc w M1 hR1 hM1
        rw [outN_step hk2, passN_step hk2, ← Int.add_assoc]
        refine X.iload_n dX6_pass_28 rfl ?_
        refine X.iload_n dX6_pass_29 rfl ?_
        refine X.icmp_ge (tgt := 46) dX6_pass_30 (by decide) ⟨by omega, by omega⟩ ⟨by omega, by omega⟩ (fun h => by exfalso; omega) (fun h3 => ?_)
        refine X.iload_n dX6_pass_33 rfl ?_
        refine X.aload_n dX6_pass_34 rfl ?_
        refine X.callV1 (As := []) (rest := [.inl acc]) dX6_pass_35 mk_X6_152 sh_0 (c_passTurn M1 w (VA.of hR1.1.1) hR1.1.2.1 hR1.1.2.2.1 (VM.of hR1.1.1)) rfl (by decide) rfl (Nat.le_of_ble_eq_true rfl) ?_
        refine X.iadd (c := acc + (outV w)) dX6_pass_38 rfl ?_
        refine X.istore_n (lv2 := [some (.inr (some 0)), some (.inl n), some (.inl (acc + (outV w))), some (.inl k)]) dX6_pass_39 (Nat.le_of_ble_eq_true rfl) rfl ?_
        refine X.iinc (y := k + 1) (lv2 := [some (.inr (some 0)), some (.inl n), some (.inl (acc + (outV w))), some (.inl (k + 1))]) dX6_pass_40 rfl rfl rfl ?_
        refine X.goto (tgt := 28) dX6_pass_43 (by decide) ?_
        exact ihk (acc + (outV w)) _ _ hR1.pt (fun a ha => (ptM_no (by omega)).trans (hM1 a ha))
    have e := L28 0 (by omega) (by omega) 0 v _ hR.keep (fun a ha => keepM_hi hn1 (by omega))
    rw [Int.sub_zero, Int.zero_add] at e
    unfold OUT oPass
    rw [if_pos p1]
    exact e
  · skip
    refine X.callS1 (As := [.inl n, .inl 1, .inl 99]) (rest := []) dX6_pass_4 mk_X6_48 (CX.bf (c_isWithin M n 1 99 ⟨by omega, by omega⟩ (by decide) (by decide)) p1) rfl (by decide) rfl (Nat.le_of_ble_eq_true rfl) ?_
    refine X.if_ne (tgt := 13) dX6_pass_7 (by decide) (by decide) (fun h => absurd h (by decide)) (fun h4 => ?_)
    refine X.bipush dX6_pass_10 (by decide) ?_
    exact Y.iret dX6_pass_12 rfl (by unfold OUT oPass; rw [if_neg p1]; exact ⟨rfl, hR, fun _ _ => rfl⟩)
set_option maxHeartbeats 4000000 in
set_option maxRecDepth 100000 in
theorem c_undo (M : Mem) (v : Vw) (z : Int) (H : Int → Vw) (tl : Int) (T : Int → Int) (hR : RF M (v, z, H, tl, T)) : CQ mX6_undo 6 [.inr (some 0)] M (OUT M (oUndo (v, z, H, tl, T) )) := by
  have hv : VA M v := VA.of hR.1.1
  have hS : SI v := hR.1.2.1
  have hG : SG M v := hR.1.2.2.1
  have hm : VM M v := VM.of hR.1.1
  have hn1 : 0 ≤ M 24 2 ∧ M 24 2 ≤ 4 := hR.1.2.2.2.1
  have hz : M 24 1 = z := hR.1.2.2.2.2.1
  have hz1 : 0 ≤ z ∧ z ≤ 5 := hR.1.2.2.2.2.2.1
  have htl : M 126 1 = tl := hR.2.1
  have htb : 0 ≤ tl ∧ tl ≤ 120 := hR.2.2.1
  have n0 := hS.n0
  have n1 := hS.n1
  have n2 := hS.n2
  refine CX.of (by decide +kernel) (Nat.le_of_ble_eq_true rfl) [some (.inr (some 0))] rfl ?_
  refine X.aload_n dX6_undo_0 rfl ?_
  refine X.getR dX6_undo_1 fi_X6_26 sh_0 rfl ?_
  refine X.getI (v := z) 1 dX6_undo_4 fi_X6_156 sh_24 rfl hz ?_
  refine X.if_ne (tgt := 13) dX6_undo_7 (by decide) ⟨by omega, by omega⟩ (fun p1 => ?_) (fun p1 => ?_)
  · skip
    refine X.aload_n dX6_undo_13 rfl ?_
    refine X.getR dX6_undo_14 fi_X6_26 sh_0 rfl ?_
    refine X.aload_n dX6_undo_17 rfl ?_
    refine X.getR dX6_undo_18 fi_X6_12 sh_0 rfl ?_
    refine X.callV0 (As := [.inr (some 1)]) (rest := []) dX6_undo_21 mk_X6_159 sh_24 (c_restore M (M 24 2) z rfl hz hn1 (by omega)) rfl (by decide) rfl (Nat.le_of_ble_eq_true rfl) ?_
    refine X.aload_n dX6_undo_24 rfl ?_
    refine X.getR dX6_undo_25 fi_X6_19 sh_0 rfl ?_
    refine X.aload_n dX6_undo_28 rfl ?_
    refine X.getR dX6_undo_29 fi_X6_12 sh_0 rfl ?_
    refine X.callV0 (As := [.inr (some 1)]) (rest := []) dX6_undo_32 mk_X6_115 sh_21 (c_refresh (restM M (M 24 2) z) (H (z - 1)) (VA.of (rest_view hR (by omega)).1) (rest_view hR (by omega)).2) rfl (by decide) rfl (Nat.le_of_ble_eq_true rfl) ?_
    refine X.aload_n dX6_undo_35 rfl ?_
    refine X.getR dX6_undo_36 fi_X6_26 sh_0 rfl ?_
    refine X.getI (v := z - 1) 1 dX6_undo_39 fi_X6_156 sh_24 rfl ((hR.undo (by omega)).1.1.2.2.2.2.1) ?_
    exact Y.iret dX6_undo_42 rfl (by unfold OUT oUndo; rw [if_neg p1]; exact ⟨rfl, hR.undo (by omega)⟩)
  · skip
    refine X.bipush dX6_undo_10 (by decide) ?_
    exact Y.iret dX6_undo_12 rfl (by unfold OUT oUndo; rw [if_pos p1]; exact ⟨rfl, hR, fun _ _ => rfl⟩)
set_option maxHeartbeats 4000000 in
set_option maxRecDepth 100000 in
theorem c_step_0 (M : Mem) (v : Vw) (z : Int) (H : Int → Vw) (tl : Int) (T : Int → Int) (hR : RF M (v, z, H, tl, T)) (k ac dn : Int) (hk : inR k) (hac : inR ac) (hdn : inR dn) (hsd : 0 ≤ k → k < v 0 0 → v 3 k = 0) : CQ mX6_step 7 [.inr (some 0), .inl k, .inl ac, .inl dn] M (OUT M (oStep (v, z, H, tl, T) k ac dn)) := by
  have hv : VA M v := VA.of hR.1.1
  have hS : SI v := hR.1.2.1
  have hG : SG M v := hR.1.2.2.1
  have hm : VM M v := VM.of hR.1.1
  have hn1 : 0 ≤ M 24 2 ∧ M 24 2 ≤ 4 := hR.1.2.2.2.1
  have hz : M 24 1 = z := hR.1.2.2.2.2.1
  have hz1 : 0 ≤ z ∧ z ≤ 5 := hR.1.2.2.2.2.2.1
  have htl : M 126 1 = tl := hR.2.1
  have htb : 0 ≤ tl ∧ tl ≤ 120 := hR.2.2.1
  have n0 := hS.n0
  have n1 := hS.n1
  have n2 := hS.n2
  refine CX.of (by decide +kernel) (Nat.le_of_ble_eq_true rfl) [some (.inr (some 0)), some (.inl k), some (.inl ac), some (.inl dn), none, none, none, none] rfl ?_
  refine X.aload_n dX6_step_0 rfl ?_
  refine X.iload_n dX6_step_1 rfl ?_
  by_cases p1 : 0 ≤ k ∧ k ≤ v 0 0 - 1
  · skip
    refine X.callV1 (As := [.inl k]) (rest := []) dX6_step_2 mk_X6_100 sh_0 (CX.bt (c_isScout M v hv hS k ⟨by omega, by omega⟩) p1) rfl (by decide) rfl (Nat.le_of_ble_eq_true rfl) ?_
    refine X.if_eq (tgt := 26) dX6_step_5 (by decide) (by decide) (fun h => absurd h (by decide)) (fun h1 => ?_)
    refine X.iload_n dX6_step_8 rfl ?_
    refine X.iconst dX6_step_9 ?_
    refine X.iconst dX6_step_10 ?_
    by_cases p2 : (-1) ≤ ac ∧ ac ≤ 1
    · skip
      refine X.callS1 (As := [.inl ac, .inl (-1), .inl 1]) (rest := []) dX6_step_11 mk_X6_48 (CX.bt (c_isWithin M ac (-1) 1 ⟨by omega, by omega⟩ (by decide) (by decide)) p2) rfl (by decide) rfl (Nat.le_of_ble_eq_true rfl) ?_
      refine X.if_eq (tgt := 26) dX6_step_14 (by decide) (by decide) (fun h => absurd h (by decide)) (fun h2 => ?_)
      refine X.iload_n dX6_step_17 rfl ?_
      refine X.iconst dX6_step_18 ?_
      refine X.iconst dX6_step_19 ?_
      by_cases p3 : (-1) ≤ dn ∧ dn ≤ 1
      · skip
        refine X.callS1 (As := [.inl dn, .inl (-1), .inl 1]) (rest := []) dX6_step_20 mk_X6_48 (CX.bt (c_isWithin M dn (-1) 1 ⟨by omega, by omega⟩ (by decide) (by decide)) p3) rfl (by decide) rfl (Nat.le_of_ble_eq_true rfl) ?_
        refine X.if_ne (tgt := 29) dX6_step_23 (by decide) (by decide) (fun h3 => ?_) (fun h => absurd h (by decide))
        refine X.iload_n dX6_step_29 rfl ?_
        refine X.if_ne (tgt := 40) dX6_step_30 (by decide) ⟨by omega, by omega⟩ (fun p4 => ?_) (fun p4 => ?_)
        · skip
          have p6 : ¬ (ac = 0 ∧ dn = 0) := fun q => p4 q.1
          refine X.aload_n dX6_step_40 rfl ?_
          refine X.getR dX6_step_41 fi_X6_12 sh_0 rfl ?_
          refine X.getR dX6_step_44 fi_X6_103 sh_1 rfl ?_
          refine X.iload_n dX6_step_47 rfl ?_
          have q4 := SI.r4 hS k
          refine X.iald (v := v 4 k) dX6_step_48 sh_5 (by decide) (by omega) (rd_4 hv (by omega)) ?_
          refine X.istore (lv2 := [some (.inr (some 0)), some (.inl k), some (.inl ac), some (.inl dn), some (.inl (v 4 k)), none, none, none]) dX6_step_49 (Nat.le_of_ble_eq_true rfl) rfl ?_
          refine X.iload dX6_step_51 rfl ?_
          refine X.callS1 (As := [.inl (v 4 k)]) (rest := []) dX6_step_53 mk_X6_106 (c_columnOf M (v 4 k) (by omega)) rfl (by decide) rfl (Nat.le_of_ble_eq_true rfl) ?_
          refine X.iload_n dX6_step_56 rfl ?_
          refine X.iadd (c := ((v 4 k) % 12) + ac) dX6_step_57 rfl ?_
          refine X.istore (lv2 := [some (.inr (some 0)), some (.inl k), some (.inl ac), some (.inl dn), some (.inl (v 4 k)), some (.inl (((v 4 k) % 12) + ac)), none, none]) dX6_step_58 (Nat.le_of_ble_eq_true rfl) rfl ?_
          refine X.iload dX6_step_60 rfl ?_
          refine X.callS1 (As := [.inl (v 4 k)]) (rest := []) dX6_step_62 mk_X6_109 (c_rowOf M (v 4 k) (by omega)) rfl (by decide) rfl (Nat.le_of_ble_eq_true rfl) ?_
          refine X.iload_n dX6_step_65 rfl ?_
          refine X.iadd (c := ((v 4 k) / 12) + dn) dX6_step_66 rfl ?_
          refine X.istore (lv2 := [some (.inr (some 0)), some (.inl k), some (.inl ac), some (.inl dn), some (.inl (v 4 k)), some (.inl (((v 4 k) % 12) + ac)), some (.inl (((v 4 k) / 12) + dn)), none]) dX6_step_67 (Nat.le_of_ble_eq_true rfl) rfl ?_
          refine X.iload dX6_step_69 rfl ?_
          refine X.iload dX6_step_71 rfl ?_
          by_cases p7 : 0 ≤ (((v 4 k) % 12) + ac) ∧ (((v 4 k) % 12) + ac) ≤ 11 ∧ 0 ≤ (((v 4 k) / 12) + dn) ∧ (((v 4 k) / 12) + dn) ≤ 9
          · skip
            refine X.callS1 (As := [.inl (((v 4 k) % 12) + ac), .inl (((v 4 k) / 12) + dn)]) (rest := []) dX6_step_73 mk_X6_44 (CX.bt (c_isCell M (((v 4 k) % 12) + ac) (((v 4 k) / 12) + dn) ⟨by omega, by omega⟩ ⟨by omega, by omega⟩) p7) rfl (by decide) rfl (Nat.le_of_ble_eq_true rfl) ?_
            refine X.if_eq (tgt := 95) dX6_step_76 (by decide) (by decide) (fun h => absurd h (by decide)) (fun h5 => ?_)
            refine X.aload_n dX6_step_79 rfl ?_
            refine X.iload dX6_step_80 rfl ?_
            refine X.iload dX6_step_82 rfl ?_
            refine X.iload dX6_step_84 rfl ?_
            refine X.callS1 (As := [.inl (((v 4 k) % 12) + ac), .inl (((v 4 k) / 12) + dn)]) (rest := [.inl (v 4 k), .inr (some 0)]) dX6_step_86 mk_X6_52 (c_cellAt M (((v 4 k) % 12) + ac) (((v 4 k) / 12) + dn)) rfl (by decide) rfl (Nat.le_of_ble_eq_true rfl) ?_
            by_cases p8 : (v 2 ((((v 4 k) / 12) + dn) * 12 + (((v 4 k) % 12) + ac)) = 0 ∧ sIn v ((((v 4 k) / 12) + dn) * 12 + (((v 4 k) % 12) + ac)) = -19) ∧ iabs (v 1 (v 4 k) - v 1 ((((v 4 k) / 12) + dn) * 12 + (((v 4 k) % 12) + ac))) ≤ 2
            · skip
              refine X.callV1 (As := [.inl (v 4 k), .inl ((((v 4 k) / 12) + dn) * 12 + (((v 4 k) % 12) + ac))]) (rest := []) dX6_step_89 mk_X6_112 sh_0 (CX.bt (c_canStep M v hv hS (v 4 k) ((((v 4 k) / 12) + dn) * 12 + (((v 4 k) % 12) + ac)) (by omega) (by omega)) p8) rfl (by decide) rfl (Nat.le_of_ble_eq_true rfl) ?_
              refine X.if_ne (tgt := 98) dX6_step_92 (by decide) (by decide) (fun h6 => ?_) (fun h => absurd h (by decide))
              refine X.aload_n dX6_step_98 rfl ?_
              refine X.getR dX6_step_99 fi_X6_26 sh_0 rfl ?_
              refine X.aload_n dX6_step_102 rfl ?_
              refine X.getR dX6_step_103 fi_X6_12 sh_0 rfl ?_
              refine X.callV0 (As := [.inr (some 1)]) (rest := []) dX6_step_106 mk_X6_60 sh_24 (c_keep M (M 24 2) z rfl hz hn1 hz1) rfl (by decide) rfl (Nat.le_of_ble_eq_true rfl) ?_
              refine X.aload_n dX6_step_109 rfl ?_
              refine X.getR dX6_step_110 fi_X6_12 sh_0 rfl ?_
              refine X.getR dX6_step_113 fi_X6_103 sh_1 rfl ?_
              refine X.iload_n dX6_step_116 rfl ?_
              refine X.iload dX6_step_117 rfl ?_
              refine X.iload dX6_step_119 rfl ?_
              refine X.callS1 (As := [.inl (((v 4 k) % 12) + ac), .inl (((v 4 k) / 12) + dn)]) (rest := [.inl k, .inr (some 5)]) dX6_step_121 mk_X6_52 (c_cellAt (keepM M (M 24 2) z) (((v 4 k) % 12) + ac) (((v 4 k) / 12) + dn)) rfl (by decide) rfl (Nat.le_of_ble_eq_true rfl) ?_
              refine X.iast dX6_step_124 sh_5 (by decide) (by omega) ?_
              refine X.aload_n dX6_step_125 rfl ?_
              refine X.getR dX6_step_126 fi_X6_19 sh_0 rfl ?_
              refine X.aload_n dX6_step_129 rfl ?_
              refine X.getR dX6_step_130 fi_X6_12 sh_0 rfl ?_
              have hw : vF (mset (keepM M (M 24 2) z) (1 + 4) k (stepC v k ac dn)) 1 = vset v 4 k (stepC v k ac dn) := vF_set (t := 4) hR.kV (by decide) (by rw [if_neg (by decide), if_pos (by decide)]; omega)
              have hSw : SI (vset v 4 k (stepC v k ac dn)) := hS.move (by unfold stepC; omega) p8.1.1 p8.1.2
              refine X.callV0 (As := [.inr (some 1)]) (rest := []) dX6_step_133 mk_X6_115 sh_21 (c_refresh (mset (keepM M (M 24 2) z) (1 + 4) k (stepC v k ac dn)) (vset v 4 k (stepC v k ac dn)) (VA.of hw) hSw) rfl (by decide) rfl (Nat.le_of_ble_eq_true rfl) ?_
              refine X.aload_n dX6_step_136 rfl ?_
              refine X.aload_n dX6_step_137 rfl ?_
              refine X.getR dX6_step_138 fi_X6_12 sh_0 rfl ?_
              refine X.getR dX6_step_141 fi_X6_118 sh_1 rfl ?_
              refine X.iload_n dX6_step_144 rfl ?_
              refine X.iald (v := 0) dX6_step_145 sh_4 (by decide) (by omega) ((rd_3 (v := vset v 4 k (stepC v k ac dn)) (VAx.ref (VA.of hw)) (show 0 ≤ k ∧ k < v 0 0 by omega)).trans (hsd (by omega) (by omega))) ?_
              refine X.callV1 (As := [.inl 0]) (rest := []) dX6_step_146 mk_X6_121 sh_0 (c_countUncovered_0 (mgen (mset (keepM M (M 24 2) z) (1 + 4) k (stepC v k ac dn)) (Fref (vset v 4 k (stepC v k ac dn))) 0 120) (vset v 4 k (stepC v k ac dn)) (VAx.ref (VA.of hw)) hSw SG.ref (v 9) (fun i hi => (congrFun (mgen_row (Fref_lo (by decide))) i).trans (rd_9 (VM.of hw) hi)) hS.r9) rfl (by decide) rfl (Nat.le_of_ble_eq_true rfl) ?_
              refine X.istore (lv2 := [some (.inr (some 0)), some (.inl k), some (.inl ac), some (.inl dn), some (.inl (v 4 k)), some (.inl (((v 4 k) % 12) + ac)), some (.inl (((v 4 k) / 12) + dn)), some (.inl (cnt (fun k_1 => sSees (vset v 4 k (stepC v k ac dn)) 0 k_1 ∧ v 9 k_1 = 0) 120 0))]) dX6_step_149 (Nat.le_of_ble_eq_true rfl) rfl ?_
              refine X.aload_n dX6_step_151 rfl ?_
              refine X.getR dX6_step_152 fi_X6_12 sh_0 rfl ?_
              refine X.aload_n dX6_step_155 rfl ?_
              refine X.getR dX6_step_156 fi_X6_19 sh_0 rfl ?_
              refine X.callV0 (As := [.inr (some 21)]) (rest := []) dX6_step_159 mk_X6_124 sh_1 (c_remember (mgen (mset (keepM M (M 24 2) z) (1 + 4) k (stepC v k ac dn)) (Fref (vset v 4 k (stepC v k ac dn))) 0 120) (vset v 4 k (stepC v k ac dn)) (VAx.ref (VA.of hw)) hSw SG.ref) rfl (by decide) rfl (Nat.le_of_ble_eq_true rfl) ?_
              refine X.iload dX6_step_162 rfl ?_
              exact Y.iret dX6_step_164 rfl (by unfold OUT oStep; rw [if_pos p1, if_pos p2, if_pos p3, if_neg p6, if_pos p7, if_pos (show (v 2 (stepC v k ac dn) = 0 ∧ sIn v (stepC v k ac dn) = -19) ∧ iabs (v 1 (v 4 k) - v 1 (stepC v k ac dn)) ≤ 2 from p8)]; exact ⟨by show _ = some (Sum.inl (uncV (vset v 4 k (stepC v k ac dn)) (v 3 k))); unfold uncV; rw [hsd (by omega) (by omega)]; rfl, hR.act (fun a ha => mset_row (by omega)) hw hSw⟩)
            · skip
              refine X.callV1 (As := [.inl (v 4 k), .inl ((((v 4 k) / 12) + dn) * 12 + (((v 4 k) % 12) + ac))]) (rest := []) dX6_step_89 mk_X6_112 sh_0 (CX.bf (c_canStep M v hv hS (v 4 k) ((((v 4 k) / 12) + dn) * 12 + (((v 4 k) % 12) + ac)) (by omega) (by omega)) p8) rfl (by decide) rfl (Nat.le_of_ble_eq_true rfl) ?_
              refine X.if_ne (tgt := 98) dX6_step_92 (by decide) (by decide) (fun h => absurd h (by decide)) (fun h7 => ?_)
              refine X.bipush dX6_step_95 (by decide) ?_
              exact Y.iret dX6_step_97 rfl (by unfold OUT oStep; rw [if_pos p1, if_pos p2, if_pos p3, if_neg p6, if_pos p7, if_neg (show ¬ ((v 2 (stepC v k ac dn) = 0 ∧ sIn v (stepC v k ac dn) = -19) ∧ iabs (v 1 (v 4 k) - v 1 (stepC v k ac dn)) ≤ 2) from p8)]; exact ⟨rfl, hR, fun _ _ => rfl⟩)
          · skip
            refine X.callS1 (As := [.inl (((v 4 k) % 12) + ac), .inl (((v 4 k) / 12) + dn)]) (rest := []) dX6_step_73 mk_X6_44 (CX.bf (c_isCell M (((v 4 k) % 12) + ac) (((v 4 k) / 12) + dn) ⟨by omega, by omega⟩ ⟨by omega, by omega⟩) p7) rfl (by decide) rfl (Nat.le_of_ble_eq_true rfl) ?_
            refine X.if_eq (tgt := 95) dX6_step_76 (by decide) (by decide) (fun h8 => ?_) (fun h => absurd h (by decide))
            refine X.bipush dX6_step_95 (by decide) ?_
            exact Y.iret dX6_step_97 rfl (by unfold OUT oStep; rw [if_pos p1, if_pos p2, if_pos p3, if_neg p6, if_neg p7]; exact ⟨rfl, hR, fun _ _ => rfl⟩)
        · skip
          refine X.iload_n dX6_step_33 rfl ?_
          refine X.if_ne (tgt := 40) dX6_step_34 (by decide) ⟨by omega, by omega⟩ (fun p5 => ?_) (fun p5 => ?_)
          · skip
            have p6 : ¬ (ac = 0 ∧ dn = 0) := fun q => p5 q.2
            refine X.aload_n dX6_step_40 rfl ?_
            refine X.getR dX6_step_41 fi_X6_12 sh_0 rfl ?_
            refine X.getR dX6_step_44 fi_X6_103 sh_1 rfl ?_
            refine X.iload_n dX6_step_47 rfl ?_
            have q9 := SI.r4 hS k
            refine X.iald (v := v 4 k) dX6_step_48 sh_5 (by decide) (by omega) (rd_4 hv (by omega)) ?_
            refine X.istore (lv2 := [some (.inr (some 0)), some (.inl k), some (.inl ac), some (.inl dn), some (.inl (v 4 k)), none, none, none]) dX6_step_49 (Nat.le_of_ble_eq_true rfl) rfl ?_
            refine X.iload dX6_step_51 rfl ?_
            refine X.callS1 (As := [.inl (v 4 k)]) (rest := []) dX6_step_53 mk_X6_106 (c_columnOf M (v 4 k) (by omega)) rfl (by decide) rfl (Nat.le_of_ble_eq_true rfl) ?_
            refine X.iload_n dX6_step_56 rfl ?_
            refine X.iadd (c := ((v 4 k) % 12) + ac) dX6_step_57 rfl ?_
            refine X.istore (lv2 := [some (.inr (some 0)), some (.inl k), some (.inl ac), some (.inl dn), some (.inl (v 4 k)), some (.inl (((v 4 k) % 12) + ac)), none, none]) dX6_step_58 (Nat.le_of_ble_eq_true rfl) rfl ?_
            refine X.iload dX6_step_60 rfl ?_
            refine X.callS1 (As := [.inl (v 4 k)]) (rest := []) dX6_step_62 mk_X6_109 (c_rowOf M (v 4 k) (by omega)) rfl (by decide) rfl (Nat.le_of_ble_eq_true rfl) ?_
            refine X.iload_n dX6_step_65 rfl ?_
            refine X.iadd (c := ((v 4 k) / 12) + dn) dX6_step_66 rfl ?_
            refine X.istore (lv2 := [some (.inr (some 0)), some (.inl k), some (.inl ac), some (.inl dn), some (.inl (v 4 k)), some (.inl (((v 4 k) % 12) + ac)), some (.inl (((v 4 k) / 12) + dn)), none]) dX6_step_67 (Nat.le_of_ble_eq_true rfl) rfl ?_
            refine X.iload dX6_step_69 rfl ?_
            refine X.iload dX6_step_71 rfl ?_
            by_cases p7 : 0 ≤ (((v 4 k) % 12) + ac) ∧ (((v 4 k) % 12) + ac) ≤ 11 ∧ 0 ≤ (((v 4 k) / 12) + dn) ∧ (((v 4 k) / 12) + dn) ≤ 9
            · skip
              refine X.callS1 (As := [.inl (((v 4 k) % 12) + ac), .inl (((v 4 k) / 12) + dn)]) (rest := []) dX6_step_73 mk_X6_44 (CX.bt (c_isCell M (((v 4 k) % 12) + ac) (((v 4 k) / 12) + dn) ⟨by omega, by omega⟩ ⟨by omega, by omega⟩) p7) rfl (by decide) rfl (Nat.le_of_ble_eq_true rfl) ?_
              refine X.if_eq (tgt := 95) dX6_step_76 (by decide) (by decide) (fun h => absurd h (by decide)) (fun h10 => ?_)
              refine X.aload_n dX6_step_79 rfl ?_
              refine X.iload dX6_step_80 rfl ?_
              refine X.iload dX6_step_82 rfl ?_
              refine X.iload dX6_step_84 rfl ?_
              refine X.callS1 (As := [.inl (((v 4 k) % 12) + ac), .inl (((v 4 k) / 12) + dn)]) (rest := [.inl (v 4 k), .inr (some 0)]) dX6_step_86 mk_X6_52 (c_cellAt M (((v 4 k) % 12) + ac) (((v 4 k) / 12) + dn)) rfl (by decide) rfl (Nat.le_of_ble_eq_true rfl) ?_
              by_cases p8 : (v 2 ((((v 4 k) / 12) + dn) * 12 + (((v 4 k) % 12) + ac)) = 0 ∧ sIn v ((((v 4 k) / 12) + dn) * 12 + (((v 4 k) % 12) + ac)) = -19) ∧ iabs (v 1 (v 4 k) - v 1 ((((v 4 k) / 12) + dn) * 12 + (((v 4 k) % 12) + ac))) ≤ 2
              · skip
                refine X.callV1 (As := [.inl (v 4 k), .inl ((((v 4 k) / 12) + dn) * 12 + (((v 4 k) % 12) + ac))]) (rest := []) dX6_step_89 mk_X6_112 sh_0 (CX.bt (c_canStep M v hv hS (v 4 k) ((((v 4 k) / 12) + dn) * 12 + (((v 4 k) % 12) + ac)) (by omega) (by omega)) p8) rfl (by decide) rfl (Nat.le_of_ble_eq_true rfl) ?_
                refine X.if_ne (tgt := 98) dX6_step_92 (by decide) (by decide) (fun h11 => ?_) (fun h => absurd h (by decide))
                refine X.aload_n dX6_step_98 rfl ?_
                refine X.getR dX6_step_99 fi_X6_26 sh_0 rfl ?_
                refine X.aload_n dX6_step_102 rfl ?_
                refine X.getR dX6_step_103 fi_X6_12 sh_0 rfl ?_
                refine X.callV0 (As := [.inr (some 1)]) (rest := []) dX6_step_106 mk_X6_60 sh_24 (c_keep M (M 24 2) z rfl hz hn1 hz1) rfl (by decide) rfl (Nat.le_of_ble_eq_true rfl) ?_
                refine X.aload_n dX6_step_109 rfl ?_
                refine X.getR dX6_step_110 fi_X6_12 sh_0 rfl ?_
                refine X.getR dX6_step_113 fi_X6_103 sh_1 rfl ?_
                refine X.iload_n dX6_step_116 rfl ?_
                refine X.iload dX6_step_117 rfl ?_
                refine X.iload dX6_step_119 rfl ?_
                refine X.callS1 (As := [.inl (((v 4 k) % 12) + ac), .inl (((v 4 k) / 12) + dn)]) (rest := [.inl k, .inr (some 5)]) dX6_step_121 mk_X6_52 (c_cellAt (keepM M (M 24 2) z) (((v 4 k) % 12) + ac) (((v 4 k) / 12) + dn)) rfl (by decide) rfl (Nat.le_of_ble_eq_true rfl) ?_
                refine X.iast dX6_step_124 sh_5 (by decide) (by omega) ?_
                refine X.aload_n dX6_step_125 rfl ?_
                refine X.getR dX6_step_126 fi_X6_19 sh_0 rfl ?_
                refine X.aload_n dX6_step_129 rfl ?_
                refine X.getR dX6_step_130 fi_X6_12 sh_0 rfl ?_
                have hw : vF (mset (keepM M (M 24 2) z) (1 + 4) k (stepC v k ac dn)) 1 = vset v 4 k (stepC v k ac dn) := vF_set (t := 4) hR.kV (by decide) (by rw [if_neg (by decide), if_pos (by decide)]; omega)
                have hSw : SI (vset v 4 k (stepC v k ac dn)) := hS.move (by unfold stepC; omega) p8.1.1 p8.1.2
                refine X.callV0 (As := [.inr (some 1)]) (rest := []) dX6_step_133 mk_X6_115 sh_21 (c_refresh (mset (keepM M (M 24 2) z) (1 + 4) k (stepC v k ac dn)) (vset v 4 k (stepC v k ac dn)) (VA.of hw) hSw) rfl (by decide) rfl (Nat.le_of_ble_eq_true rfl) ?_
                refine X.aload_n dX6_step_136 rfl ?_
                refine X.aload_n dX6_step_137 rfl ?_
                refine X.getR dX6_step_138 fi_X6_12 sh_0 rfl ?_
                refine X.getR dX6_step_141 fi_X6_118 sh_1 rfl ?_
                refine X.iload_n dX6_step_144 rfl ?_
                refine X.iald (v := 0) dX6_step_145 sh_4 (by decide) (by omega) ((rd_3 (v := vset v 4 k (stepC v k ac dn)) (VAx.ref (VA.of hw)) (show 0 ≤ k ∧ k < v 0 0 by omega)).trans (hsd (by omega) (by omega))) ?_
                refine X.callV1 (As := [.inl 0]) (rest := []) dX6_step_146 mk_X6_121 sh_0 (c_countUncovered_0 (mgen (mset (keepM M (M 24 2) z) (1 + 4) k (stepC v k ac dn)) (Fref (vset v 4 k (stepC v k ac dn))) 0 120) (vset v 4 k (stepC v k ac dn)) (VAx.ref (VA.of hw)) hSw SG.ref (v 9) (fun i hi => (congrFun (mgen_row (Fref_lo (by decide))) i).trans (rd_9 (VM.of hw) hi)) hS.r9) rfl (by decide) rfl (Nat.le_of_ble_eq_true rfl) ?_
                refine X.istore (lv2 := [some (.inr (some 0)), some (.inl k), some (.inl ac), some (.inl dn), some (.inl (v 4 k)), some (.inl (((v 4 k) % 12) + ac)), some (.inl (((v 4 k) / 12) + dn)), some (.inl (cnt (fun k_1 => sSees (vset v 4 k (stepC v k ac dn)) 0 k_1 ∧ v 9 k_1 = 0) 120 0))]) dX6_step_149 (Nat.le_of_ble_eq_true rfl) rfl ?_
                refine X.aload_n dX6_step_151 rfl ?_
                refine X.getR dX6_step_152 fi_X6_12 sh_0 rfl ?_
                refine X.aload_n dX6_step_155 rfl ?_
                refine X.getR dX6_step_156 fi_X6_19 sh_0 rfl ?_
                refine X.callV0 (As := [.inr (some 21)]) (rest := []) dX6_step_159 mk_X6_124 sh_1 (c_remember (mgen (mset (keepM M (M 24 2) z) (1 + 4) k (stepC v k ac dn)) (Fref (vset v 4 k (stepC v k ac dn))) 0 120) (vset v 4 k (stepC v k ac dn)) (VAx.ref (VA.of hw)) hSw SG.ref) rfl (by decide) rfl (Nat.le_of_ble_eq_true rfl) ?_
                refine X.iload dX6_step_162 rfl ?_
                exact Y.iret dX6_step_164 rfl (by unfold OUT oStep; rw [if_pos p1, if_pos p2, if_pos p3, if_neg p6, if_pos p7, if_pos (show (v 2 (stepC v k ac dn) = 0 ∧ sIn v (stepC v k ac dn) = -19) ∧ iabs (v 1 (v 4 k) - v 1 (stepC v k ac dn)) ≤ 2 from p8)]; exact ⟨by show _ = some (Sum.inl (uncV (vset v 4 k (stepC v k ac dn)) (v 3 k))); unfold uncV; rw [hsd (by omega) (by omega)]; rfl, hR.act (fun a ha => mset_row (by omega)) hw hSw⟩)
              · skip
                refine X.callV1 (As := [.inl (v 4 k), .inl ((((v 4 k) / 12) + dn) * 12 + (((v 4 k) % 12) + ac))]) (rest := []) dX6_step_89 mk_X6_112 sh_0 (CX.bf (c_canStep M v hv hS (v 4 k) ((((v 4 k) / 12) + dn) * 12 + (((v 4 k) % 12) + ac)) (by omega) (by omega)) p8) rfl (by decide) rfl (Nat.le_of_ble_eq_true rfl) ?_
                refine X.if_ne (tgt := 98) dX6_step_92 (by decide) (by decide) (fun h => absurd h (by decide)) (fun h12 => ?_)
                refine X.bipush dX6_step_95 (by decide) ?_
                exact Y.iret dX6_step_97 rfl (by unfold OUT oStep; rw [if_pos p1, if_pos p2, if_pos p3, if_neg p6, if_pos p7, if_neg (show ¬ ((v 2 (stepC v k ac dn) = 0 ∧ sIn v (stepC v k ac dn) = -19) ∧ iabs (v 1 (v 4 k) - v 1 (stepC v k ac dn)) ≤ 2) from p8)]; exact ⟨rfl, hR, fun _ _ => rfl⟩)
            · skip
              refine X.callS1 (As := [.inl (((v 4 k) % 12) + ac), .inl (((v 4 k) / 12) + dn)]) (rest := []) dX6_step_73 mk_X6_44 (CX.bf (c_isCell M (((v 4 k) % 12) + ac) (((v 4 k) / 12) + dn) ⟨by omega, by omega⟩ ⟨by omega, by omega⟩) p7) rfl (by decide) rfl (Nat.le_of_ble_eq_true rfl) ?_
              refine X.if_eq (tgt := 95) dX6_step_76 (by decide) (by decide) (fun h13 => ?_) (fun h => absurd h (by decide))
              refine X.bipush dX6_step_95 (by decide) ?_
              exact Y.iret dX6_step_97 rfl (by unfold OUT oStep; rw [if_pos p1, if_pos p2, if_pos p3, if_neg p6, if_neg p7]; exact ⟨rfl, hR, fun _ _ => rfl⟩)
          · skip
            have p6 : ac = 0 ∧ dn = 0 := ⟨by omega, by omega⟩
            refine X.bipush dX6_step_37 (by decide) ?_
            exact Y.iret dX6_step_39 rfl (by unfold OUT oStep; rw [if_pos p1, if_pos p2, if_pos p3, if_pos p6]; exact ⟨rfl, hR, fun _ _ => rfl⟩)
      · skip
        refine X.callS1 (As := [.inl dn, .inl (-1), .inl 1]) (rest := []) dX6_step_20 mk_X6_48 (CX.bf (c_isWithin M dn (-1) 1 ⟨by omega, by omega⟩ (by decide) (by decide)) p3) rfl (by decide) rfl (Nat.le_of_ble_eq_true rfl) ?_
        refine X.if_ne (tgt := 29) dX6_step_23 (by decide) (by decide) (fun h => absurd h (by decide)) (fun h14 => ?_)
        refine X.bipush dX6_step_26 (by decide) ?_
        exact Y.iret dX6_step_28 rfl (by unfold OUT oStep; rw [if_pos p1, if_pos p2, if_neg p3]; exact ⟨rfl, hR, fun _ _ => rfl⟩)
    · skip
      refine X.callS1 (As := [.inl ac, .inl (-1), .inl 1]) (rest := []) dX6_step_11 mk_X6_48 (CX.bf (c_isWithin M ac (-1) 1 ⟨by omega, by omega⟩ (by decide) (by decide)) p2) rfl (by decide) rfl (Nat.le_of_ble_eq_true rfl) ?_
      refine X.if_eq (tgt := 26) dX6_step_14 (by decide) (by decide) (fun h15 => ?_) (fun h => absurd h (by decide))
      refine X.bipush dX6_step_26 (by decide) ?_
      exact Y.iret dX6_step_28 rfl (by unfold OUT oStep; rw [if_pos p1, if_neg p2]; exact ⟨rfl, hR, fun _ _ => rfl⟩)
  · skip
    refine X.callV1 (As := [.inl k]) (rest := []) dX6_step_2 mk_X6_100 sh_0 (CX.bf (c_isScout M v hv hS k ⟨by omega, by omega⟩) p1) rfl (by decide) rfl (Nat.le_of_ble_eq_true rfl) ?_
    refine X.if_eq (tgt := 26) dX6_step_5 (by decide) (by decide) (fun h16 => ?_) (fun h => absurd h (by decide))
    refine X.bipush dX6_step_26 (by decide) ?_
    exact Y.iret dX6_step_28 rfl (by unfold OUT oStep; rw [if_neg p1]; exact ⟨rfl, hR, fun _ _ => rfl⟩)
set_option maxHeartbeats 4000000 in
set_option maxRecDepth 100000 in
theorem c_step_1 (M : Mem) (v : Vw) (z : Int) (H : Int → Vw) (tl : Int) (T : Int → Int) (hR : RF M (v, z, H, tl, T)) (k ac dn : Int) (hk : inR k) (hac : inR ac) (hdn : inR dn) (hsd : 0 ≤ k → k < v 0 0 → v 3 k = 1) : CQ mX6_step 7 [.inr (some 0), .inl k, .inl ac, .inl dn] M (OUT M (oStep (v, z, H, tl, T) k ac dn)) := by
  have hv : VA M v := VA.of hR.1.1
  have hS : SI v := hR.1.2.1
  have hG : SG M v := hR.1.2.2.1
  have hm : VM M v := VM.of hR.1.1
  have hn1 : 0 ≤ M 24 2 ∧ M 24 2 ≤ 4 := hR.1.2.2.2.1
  have hz : M 24 1 = z := hR.1.2.2.2.2.1
  have hz1 : 0 ≤ z ∧ z ≤ 5 := hR.1.2.2.2.2.2.1
  have htl : M 126 1 = tl := hR.2.1
  have htb : 0 ≤ tl ∧ tl ≤ 120 := hR.2.2.1
  have n0 := hS.n0
  have n1 := hS.n1
  have n2 := hS.n2
  refine CX.of (by decide +kernel) (Nat.le_of_ble_eq_true rfl) [some (.inr (some 0)), some (.inl k), some (.inl ac), some (.inl dn), none, none, none, none] rfl ?_
  refine X.aload_n dX6_step_0 rfl ?_
  refine X.iload_n dX6_step_1 rfl ?_
  by_cases p1 : 0 ≤ k ∧ k ≤ v 0 0 - 1
  · skip
    refine X.callV1 (As := [.inl k]) (rest := []) dX6_step_2 mk_X6_100 sh_0 (CX.bt (c_isScout M v hv hS k ⟨by omega, by omega⟩) p1) rfl (by decide) rfl (Nat.le_of_ble_eq_true rfl) ?_
    refine X.if_eq (tgt := 26) dX6_step_5 (by decide) (by decide) (fun h => absurd h (by decide)) (fun h1 => ?_)
    refine X.iload_n dX6_step_8 rfl ?_
    refine X.iconst dX6_step_9 ?_
    refine X.iconst dX6_step_10 ?_
    by_cases p2 : (-1) ≤ ac ∧ ac ≤ 1
    · skip
      refine X.callS1 (As := [.inl ac, .inl (-1), .inl 1]) (rest := []) dX6_step_11 mk_X6_48 (CX.bt (c_isWithin M ac (-1) 1 ⟨by omega, by omega⟩ (by decide) (by decide)) p2) rfl (by decide) rfl (Nat.le_of_ble_eq_true rfl) ?_
      refine X.if_eq (tgt := 26) dX6_step_14 (by decide) (by decide) (fun h => absurd h (by decide)) (fun h2 => ?_)
      refine X.iload_n dX6_step_17 rfl ?_
      refine X.iconst dX6_step_18 ?_
      refine X.iconst dX6_step_19 ?_
      by_cases p3 : (-1) ≤ dn ∧ dn ≤ 1
      · skip
        refine X.callS1 (As := [.inl dn, .inl (-1), .inl 1]) (rest := []) dX6_step_20 mk_X6_48 (CX.bt (c_isWithin M dn (-1) 1 ⟨by omega, by omega⟩ (by decide) (by decide)) p3) rfl (by decide) rfl (Nat.le_of_ble_eq_true rfl) ?_
        refine X.if_ne (tgt := 29) dX6_step_23 (by decide) (by decide) (fun h3 => ?_) (fun h => absurd h (by decide))
        refine X.iload_n dX6_step_29 rfl ?_
        refine X.if_ne (tgt := 40) dX6_step_30 (by decide) ⟨by omega, by omega⟩ (fun p4 => ?_) (fun p4 => ?_)
        · skip
          have p6 : ¬ (ac = 0 ∧ dn = 0) := fun q => p4 q.1
          refine X.aload_n dX6_step_40 rfl ?_
          refine X.getR dX6_step_41 fi_X6_12 sh_0 rfl ?_
          refine X.getR dX6_step_44 fi_X6_103 sh_1 rfl ?_
          refine X.iload_n dX6_step_47 rfl ?_
          have q4 := SI.r4 hS k
          refine X.iald (v := v 4 k) dX6_step_48 sh_5 (by decide) (by omega) (rd_4 hv (by omega)) ?_
          refine X.istore (lv2 := [some (.inr (some 0)), some (.inl k), some (.inl ac), some (.inl dn), some (.inl (v 4 k)), none, none, none]) dX6_step_49 (Nat.le_of_ble_eq_true rfl) rfl ?_
          refine X.iload dX6_step_51 rfl ?_
          refine X.callS1 (As := [.inl (v 4 k)]) (rest := []) dX6_step_53 mk_X6_106 (c_columnOf M (v 4 k) (by omega)) rfl (by decide) rfl (Nat.le_of_ble_eq_true rfl) ?_
          refine X.iload_n dX6_step_56 rfl ?_
          refine X.iadd (c := ((v 4 k) % 12) + ac) dX6_step_57 rfl ?_
          refine X.istore (lv2 := [some (.inr (some 0)), some (.inl k), some (.inl ac), some (.inl dn), some (.inl (v 4 k)), some (.inl (((v 4 k) % 12) + ac)), none, none]) dX6_step_58 (Nat.le_of_ble_eq_true rfl) rfl ?_
          refine X.iload dX6_step_60 rfl ?_
          refine X.callS1 (As := [.inl (v 4 k)]) (rest := []) dX6_step_62 mk_X6_109 (c_rowOf M (v 4 k) (by omega)) rfl (by decide) rfl (Nat.le_of_ble_eq_true rfl) ?_
          refine X.iload_n dX6_step_65 rfl ?_
          refine X.iadd (c := ((v 4 k) / 12) + dn) dX6_step_66 rfl ?_
          refine X.istore (lv2 := [some (.inr (some 0)), some (.inl k), some (.inl ac), some (.inl dn), some (.inl (v 4 k)), some (.inl (((v 4 k) % 12) + ac)), some (.inl (((v 4 k) / 12) + dn)), none]) dX6_step_67 (Nat.le_of_ble_eq_true rfl) rfl ?_
          refine X.iload dX6_step_69 rfl ?_
          refine X.iload dX6_step_71 rfl ?_
          by_cases p7 : 0 ≤ (((v 4 k) % 12) + ac) ∧ (((v 4 k) % 12) + ac) ≤ 11 ∧ 0 ≤ (((v 4 k) / 12) + dn) ∧ (((v 4 k) / 12) + dn) ≤ 9
          · skip
            refine X.callS1 (As := [.inl (((v 4 k) % 12) + ac), .inl (((v 4 k) / 12) + dn)]) (rest := []) dX6_step_73 mk_X6_44 (CX.bt (c_isCell M (((v 4 k) % 12) + ac) (((v 4 k) / 12) + dn) ⟨by omega, by omega⟩ ⟨by omega, by omega⟩) p7) rfl (by decide) rfl (Nat.le_of_ble_eq_true rfl) ?_
            refine X.if_eq (tgt := 95) dX6_step_76 (by decide) (by decide) (fun h => absurd h (by decide)) (fun h5 => ?_)
            refine X.aload_n dX6_step_79 rfl ?_
            refine X.iload dX6_step_80 rfl ?_
            refine X.iload dX6_step_82 rfl ?_
            refine X.iload dX6_step_84 rfl ?_
            refine X.callS1 (As := [.inl (((v 4 k) % 12) + ac), .inl (((v 4 k) / 12) + dn)]) (rest := [.inl (v 4 k), .inr (some 0)]) dX6_step_86 mk_X6_52 (c_cellAt M (((v 4 k) % 12) + ac) (((v 4 k) / 12) + dn)) rfl (by decide) rfl (Nat.le_of_ble_eq_true rfl) ?_
            by_cases p8 : (v 2 ((((v 4 k) / 12) + dn) * 12 + (((v 4 k) % 12) + ac)) = 0 ∧ sIn v ((((v 4 k) / 12) + dn) * 12 + (((v 4 k) % 12) + ac)) = -19) ∧ iabs (v 1 (v 4 k) - v 1 ((((v 4 k) / 12) + dn) * 12 + (((v 4 k) % 12) + ac))) ≤ 2
            · skip
              refine X.callV1 (As := [.inl (v 4 k), .inl ((((v 4 k) / 12) + dn) * 12 + (((v 4 k) % 12) + ac))]) (rest := []) dX6_step_89 mk_X6_112 sh_0 (CX.bt (c_canStep M v hv hS (v 4 k) ((((v 4 k) / 12) + dn) * 12 + (((v 4 k) % 12) + ac)) (by omega) (by omega)) p8) rfl (by decide) rfl (Nat.le_of_ble_eq_true rfl) ?_
              refine X.if_ne (tgt := 98) dX6_step_92 (by decide) (by decide) (fun h6 => ?_) (fun h => absurd h (by decide))
              refine X.aload_n dX6_step_98 rfl ?_
              refine X.getR dX6_step_99 fi_X6_26 sh_0 rfl ?_
              refine X.aload_n dX6_step_102 rfl ?_
              refine X.getR dX6_step_103 fi_X6_12 sh_0 rfl ?_
              refine X.callV0 (As := [.inr (some 1)]) (rest := []) dX6_step_106 mk_X6_60 sh_24 (c_keep M (M 24 2) z rfl hz hn1 hz1) rfl (by decide) rfl (Nat.le_of_ble_eq_true rfl) ?_
              refine X.aload_n dX6_step_109 rfl ?_
              refine X.getR dX6_step_110 fi_X6_12 sh_0 rfl ?_
              refine X.getR dX6_step_113 fi_X6_103 sh_1 rfl ?_
              refine X.iload_n dX6_step_116 rfl ?_
              refine X.iload dX6_step_117 rfl ?_
              refine X.iload dX6_step_119 rfl ?_
              refine X.callS1 (As := [.inl (((v 4 k) % 12) + ac), .inl (((v 4 k) / 12) + dn)]) (rest := [.inl k, .inr (some 5)]) dX6_step_121 mk_X6_52 (c_cellAt (keepM M (M 24 2) z) (((v 4 k) % 12) + ac) (((v 4 k) / 12) + dn)) rfl (by decide) rfl (Nat.le_of_ble_eq_true rfl) ?_
              refine X.iast dX6_step_124 sh_5 (by decide) (by omega) ?_
              refine X.aload_n dX6_step_125 rfl ?_
              refine X.getR dX6_step_126 fi_X6_19 sh_0 rfl ?_
              refine X.aload_n dX6_step_129 rfl ?_
              refine X.getR dX6_step_130 fi_X6_12 sh_0 rfl ?_
              have hw : vF (mset (keepM M (M 24 2) z) (1 + 4) k (stepC v k ac dn)) 1 = vset v 4 k (stepC v k ac dn) := vF_set (t := 4) hR.kV (by decide) (by rw [if_neg (by decide), if_pos (by decide)]; omega)
              have hSw : SI (vset v 4 k (stepC v k ac dn)) := hS.move (by unfold stepC; omega) p8.1.1 p8.1.2
              refine X.callV0 (As := [.inr (some 1)]) (rest := []) dX6_step_133 mk_X6_115 sh_21 (c_refresh (mset (keepM M (M 24 2) z) (1 + 4) k (stepC v k ac dn)) (vset v 4 k (stepC v k ac dn)) (VA.of hw) hSw) rfl (by decide) rfl (Nat.le_of_ble_eq_true rfl) ?_
              refine X.aload_n dX6_step_136 rfl ?_
              refine X.aload_n dX6_step_137 rfl ?_
              refine X.getR dX6_step_138 fi_X6_12 sh_0 rfl ?_
              refine X.getR dX6_step_141 fi_X6_118 sh_1 rfl ?_
              refine X.iload_n dX6_step_144 rfl ?_
              refine X.iald (v := 1) dX6_step_145 sh_4 (by decide) (by omega) ((rd_3 (v := vset v 4 k (stepC v k ac dn)) (VAx.ref (VA.of hw)) (show 0 ≤ k ∧ k < v 0 0 by omega)).trans (hsd (by omega) (by omega))) ?_
              refine X.callV1 (As := [.inl 1]) (rest := []) dX6_step_146 mk_X6_121 sh_0 (c_countUncovered_1 (mgen (mset (keepM M (M 24 2) z) (1 + 4) k (stepC v k ac dn)) (Fref (vset v 4 k (stepC v k ac dn))) 0 120) (vset v 4 k (stepC v k ac dn)) (VAx.ref (VA.of hw)) hSw SG.ref (v 13) (fun i hi => (congrFun (mgen_row (Fref_lo (by decide))) i).trans (rd_13 (VM.of hw) hi)) hS.r13) rfl (by decide) rfl (Nat.le_of_ble_eq_true rfl) ?_
              refine X.istore (lv2 := [some (.inr (some 0)), some (.inl k), some (.inl ac), some (.inl dn), some (.inl (v 4 k)), some (.inl (((v 4 k) % 12) + ac)), some (.inl (((v 4 k) / 12) + dn)), some (.inl (cnt (fun k_1 => sSees (vset v 4 k (stepC v k ac dn)) 1 k_1 ∧ v 13 k_1 = 0) 120 0))]) dX6_step_149 (Nat.le_of_ble_eq_true rfl) rfl ?_
              refine X.aload_n dX6_step_151 rfl ?_
              refine X.getR dX6_step_152 fi_X6_12 sh_0 rfl ?_
              refine X.aload_n dX6_step_155 rfl ?_
              refine X.getR dX6_step_156 fi_X6_19 sh_0 rfl ?_
              refine X.callV0 (As := [.inr (some 21)]) (rest := []) dX6_step_159 mk_X6_124 sh_1 (c_remember (mgen (mset (keepM M (M 24 2) z) (1 + 4) k (stepC v k ac dn)) (Fref (vset v 4 k (stepC v k ac dn))) 0 120) (vset v 4 k (stepC v k ac dn)) (VAx.ref (VA.of hw)) hSw SG.ref) rfl (by decide) rfl (Nat.le_of_ble_eq_true rfl) ?_
              refine X.iload dX6_step_162 rfl ?_
              exact Y.iret dX6_step_164 rfl (by unfold OUT oStep; rw [if_pos p1, if_pos p2, if_pos p3, if_neg p6, if_pos p7, if_pos (show (v 2 (stepC v k ac dn) = 0 ∧ sIn v (stepC v k ac dn) = -19) ∧ iabs (v 1 (v 4 k) - v 1 (stepC v k ac dn)) ≤ 2 from p8)]; exact ⟨by show _ = some (Sum.inl (uncV (vset v 4 k (stepC v k ac dn)) (v 3 k))); unfold uncV; rw [hsd (by omega) (by omega)]; rfl, hR.act (fun a ha => mset_row (by omega)) hw hSw⟩)
            · skip
              refine X.callV1 (As := [.inl (v 4 k), .inl ((((v 4 k) / 12) + dn) * 12 + (((v 4 k) % 12) + ac))]) (rest := []) dX6_step_89 mk_X6_112 sh_0 (CX.bf (c_canStep M v hv hS (v 4 k) ((((v 4 k) / 12) + dn) * 12 + (((v 4 k) % 12) + ac)) (by omega) (by omega)) p8) rfl (by decide) rfl (Nat.le_of_ble_eq_true rfl) ?_
              refine X.if_ne (tgt := 98) dX6_step_92 (by decide) (by decide) (fun h => absurd h (by decide)) (fun h7 => ?_)
              refine X.bipush dX6_step_95 (by decide) ?_
              exact Y.iret dX6_step_97 rfl (by unfold OUT oStep; rw [if_pos p1, if_pos p2, if_pos p3, if_neg p6, if_pos p7, if_neg (show ¬ ((v 2 (stepC v k ac dn) = 0 ∧ sIn v (stepC v k ac dn) = -19) ∧ iabs (v 1 (v 4 k) - v 1 (stepC v k ac dn)) ≤ 2) from p8)]; exact ⟨rfl, hR, fun _ _ => rfl⟩)
          · skip
            refine X.callS1 (As := [.inl (((v 4 k) % 12) + ac), .inl (((v 4 k) / 12) + dn)]) (rest := []) dX6_step_73 mk_X6_44 (CX.bf (c_isCell M (((v 4 k) % 12) + ac) (((v 4 k) / 12) + dn) ⟨by omega, by omega⟩ ⟨by omega, by omega⟩) p7) rfl (by decide) rfl (Nat.le_of_ble_eq_true rfl) ?_
            refine X.if_eq (tgt := 95) dX6_step_76 (by decide) (by decide) (fun h8 => ?_) (fun h => absurd h (by decide))
            refine X.bipush dX6_step_95 (by decide) ?_
            exact Y.iret dX6_step_97 rfl (by unfold OUT oStep; rw [if_pos p1, if_pos p2, if_pos p3, if_neg p6, if_neg p7]; exact ⟨rfl, hR, fun _ _ => rfl⟩)
        · skip
          refine X.iload_n dX6_step_33 rfl ?_
          refine X.if_ne (tgt := 40) dX6_step_34 (by decide) ⟨by omega, by omega⟩ (fun p5 => ?_) (fun p5 => ?_)
          · skip
            have p6 : ¬ (ac = 0 ∧ dn = 0) := fun q => p5 q.2
            refine X.aload_n dX6_step_40 rfl ?_
            refine X.getR dX6_step_41 fi_X6_12 sh_0 rfl ?_
            refine X.getR dX6_step_44 fi_X6_103 sh_1 rfl ?_
            refine X.iload_n dX6_step_47 rfl ?_
            have q9 := SI.r4 hS k
            refine X.iald (v := v 4 k) dX6_step_48 sh_5 (by decide) (by omega) (rd_4 hv (by omega)) ?_
            refine X.istore (lv2 := [some (.inr (some 0)), some (.inl k), some (.inl ac), some (.inl dn), some (.inl (v 4 k)), none, none, none]) dX6_step_49 (Nat.le_of_ble_eq_true rfl) rfl ?_
            refine X.iload dX6_step_51 rfl ?_
            refine X.callS1 (As := [.inl (v 4 k)]) (rest := []) dX6_step_53 mk_X6_106 (c_columnOf M (v 4 k) (by omega)) rfl (by decide) rfl (Nat.le_of_ble_eq_true rfl) ?_
            refine X.iload_n dX6_step_56 rfl ?_
            refine X.iadd (c := ((v 4 k) % 12) + ac) dX6_step_57 rfl ?_
            refine X.istore (lv2 := [some (.inr (some 0)), some (.inl k), some (.inl ac), some (.inl dn), some (.inl (v 4 k)), some (.inl (((v 4 k) % 12) + ac)), none, none]) dX6_step_58 (Nat.le_of_ble_eq_true rfl) rfl ?_
            refine X.iload dX6_step_60 rfl ?_
            refine X.callS1 (As := [.inl (v 4 k)]) (rest := []) dX6_step_62 mk_X6_109 (c_rowOf M (v 4 k) (by omega)) rfl (by decide) rfl (Nat.le_of_ble_eq_true rfl) ?_
            refine X.iload_n dX6_step_65 rfl ?_
            refine X.iadd (c := ((v 4 k) / 12) + dn) dX6_step_66 rfl ?_
            refine X.istore (lv2 := [some (.inr (some 0)), some (.inl k), some (.inl ac), some (.inl dn), some (.inl (v 4 k)), some (.inl (((v 4 k) % 12) + ac)), some (.inl (((v 4 k) / 12) + dn)), none]) dX6_step_67 (Nat.le_of_ble_eq_true rfl) rfl ?_
            refine X.iload dX6_step_69 rfl ?_
            refine X.iload dX6_step_71 rfl ?_
            by_cases p7 : 0 ≤ (((v 4 k) % 12) + ac) ∧ (((v 4 k) % 12) + ac) ≤ 11 ∧ 0 ≤ (((v 4 k) / 12) + dn) ∧ (((v 4 k) / 12) + dn) ≤ 9
            · skip
              refine X.callS1 (As := [.inl (((v 4 k) % 12) + ac), .inl (((v 4 k) / 12) + dn)]) (rest := []) dX6_step_73 mk_X6_44 (CX.bt (c_isCell M (((v 4 k) % 12) + ac) (((v 4 k) / 12) + dn) ⟨by omega, by omega⟩ ⟨by omega, by omega⟩) p7) rfl (by decide) rfl (Nat.le_of_ble_eq_true rfl) ?_
              refine X.if_eq (tgt := 95) dX6_step_76 (by decide) (by decide) (fun h => absurd h (by decide)) (fun h10 => ?_)
              refine X.aload_n dX6_step_79 rfl ?_
              refine X.iload dX6_step_80 rfl ?_
              refine X.iload dX6_step_82 rfl ?_
              refine X.iload dX6_step_84 rfl ?_
              refine X.callS1 (As := [.inl (((v 4 k) % 12) + ac), .inl (((v 4 k) / 12) + dn)]) (rest := [.inl (v 4 k), .inr (some 0)]) dX6_step_86 mk_X6_52 (c_cellAt M (((v 4 k) % 12) + ac) (((v 4 k) / 12) + dn)) rfl (by decide) rfl (Nat.le_of_ble_eq_true rfl) ?_
              by_cases p8 : (v 2 ((((v 4 k) / 12) + dn) * 12 + (((v 4 k) % 12) + ac)) = 0 ∧ sIn v ((((v 4 k) / 12) + dn) * 12 + (((v 4 k) % 12) + ac)) = -19) ∧ iabs (v 1 (v 4 k) - v 1 ((((v 4 k) / 12) + dn) * 12 + (((v 4 k) % 12) + ac))) ≤ 2
              · skip
                refine X.callV1 (As := [.inl (v 4 k), .inl ((((v 4 k) / 12) + dn) * 12 + (((v 4 k) % 12) + ac))]) (rest := []) dX6_step_89 mk_X6_112 sh_0 (CX.bt (c_canStep M v hv hS (v 4 k) ((((v 4 k) / 12) + dn) * 12 + (((v 4 k) % 12) + ac)) (by omega) (by omega)) p8) rfl (by decide) rfl (Nat.le_of_ble_eq_true rfl) ?_
                refine X.if_ne (tgt := 98) dX6_step_92 (by decide) (by decide) (fun h11 => ?_) (fun h => absurd h (by decide))
                refine X.aload_n dX6_step_98 rfl ?_
                refine X.getR dX6_step_99 fi_X6_26 sh_0 rfl ?_
                refine X.aload_n dX6_step_102 rfl ?_
                refine X.getR dX6_step_103 fi_X6_12 sh_0 rfl ?_
                refine X.callV0 (As := [.inr (some 1)]) (rest := []) dX6_step_106 mk_X6_60 sh_24 (c_keep M (M 24 2) z rfl hz hn1 hz1) rfl (by decide) rfl (Nat.le_of_ble_eq_true rfl) ?_
                refine X.aload_n dX6_step_109 rfl ?_
                refine X.getR dX6_step_110 fi_X6_12 sh_0 rfl ?_
                refine X.getR dX6_step_113 fi_X6_103 sh_1 rfl ?_
                refine X.iload_n dX6_step_116 rfl ?_
                refine X.iload dX6_step_117 rfl ?_
                refine X.iload dX6_step_119 rfl ?_
                refine X.callS1 (As := [.inl (((v 4 k) % 12) + ac), .inl (((v 4 k) / 12) + dn)]) (rest := [.inl k, .inr (some 5)]) dX6_step_121 mk_X6_52 (c_cellAt (keepM M (M 24 2) z) (((v 4 k) % 12) + ac) (((v 4 k) / 12) + dn)) rfl (by decide) rfl (Nat.le_of_ble_eq_true rfl) ?_
                refine X.iast dX6_step_124 sh_5 (by decide) (by omega) ?_
                refine X.aload_n dX6_step_125 rfl ?_
                refine X.getR dX6_step_126 fi_X6_19 sh_0 rfl ?_
                refine X.aload_n dX6_step_129 rfl ?_
                refine X.getR dX6_step_130 fi_X6_12 sh_0 rfl ?_
                have hw : vF (mset (keepM M (M 24 2) z) (1 + 4) k (stepC v k ac dn)) 1 = vset v 4 k (stepC v k ac dn) := vF_set (t := 4) hR.kV (by decide) (by rw [if_neg (by decide), if_pos (by decide)]; omega)
                have hSw : SI (vset v 4 k (stepC v k ac dn)) := hS.move (by unfold stepC; omega) p8.1.1 p8.1.2
                refine X.callV0 (As := [.inr (some 1)]) (rest := []) dX6_step_133 mk_X6_115 sh_21 (c_refresh (mset (keepM M (M 24 2) z) (1 + 4) k (stepC v k ac dn)) (vset v 4 k (stepC v k ac dn)) (VA.of hw) hSw) rfl (by decide) rfl (Nat.le_of_ble_eq_true rfl) ?_
                refine X.aload_n dX6_step_136 rfl ?_
                refine X.aload_n dX6_step_137 rfl ?_
                refine X.getR dX6_step_138 fi_X6_12 sh_0 rfl ?_
                refine X.getR dX6_step_141 fi_X6_118 sh_1 rfl ?_
                refine X.iload_n dX6_step_144 rfl ?_
                refine X.iald (v := 1) dX6_step_145 sh_4 (by decide) (by omega) ((rd_3 (v := vset v 4 k (stepC v k ac dn)) (VAx.ref (VA.of hw)) (show 0 ≤ k ∧ k < v 0 0 by omega)).trans (hsd (by omega) (by omega))) ?_
                refine X.callV1 (As := [.inl 1]) (rest := []) dX6_step_146 mk_X6_121 sh_0 (c_countUncovered_1 (mgen (mset (keepM M (M 24 2) z) (1 + 4) k (stepC v k ac dn)) (Fref (vset v 4 k (stepC v k ac dn))) 0 120) (vset v 4 k (stepC v k ac dn)) (VAx.ref (VA.of hw)) hSw SG.ref (v 13) (fun i hi => (congrFun (mgen_row (Fref_lo (by decide))) i).trans (rd_13 (VM.of hw) hi)) hS.r13) rfl (by decide) rfl (Nat.le_of_ble_eq_true rfl) ?_
                refine X.istore (lv2 := [some (.inr (some 0)), some (.inl k), some (.inl ac), some (.inl dn), some (.inl (v 4 k)), some (.inl (((v 4 k) % 12) + ac)), some (.inl (((v 4 k) / 12) + dn)), some (.inl (cnt (fun k_1 => sSees (vset v 4 k (stepC v k ac dn)) 1 k_1 ∧ v 13 k_1 = 0) 120 0))]) dX6_step_149 (Nat.le_of_ble_eq_true rfl) rfl ?_
                refine X.aload_n dX6_step_151 rfl ?_
                refine X.getR dX6_step_152 fi_X6_12 sh_0 rfl ?_
                refine X.aload_n dX6_step_155 rfl ?_
                refine X.getR dX6_step_156 fi_X6_19 sh_0 rfl ?_
                refine X.callV0 (As := [.inr (some 21)]) (rest := []) dX6_step_159 mk_X6_124 sh_1 (c_remember (mgen (mset (keepM M (M 24 2) z) (1 + 4) k (stepC v k ac dn)) (Fref (vset v 4 k (stepC v k ac dn))) 0 120) (vset v 4 k (stepC v k ac dn)) (VAx.ref (VA.of hw)) hSw SG.ref) rfl (by decide) rfl (Nat.le_of_ble_eq_true rfl) ?_
                refine X.iload dX6_step_162 rfl ?_
                exact Y.iret dX6_step_164 rfl (by unfold OUT oStep; rw [if_pos p1, if_pos p2, if_pos p3, if_neg p6, if_pos p7, if_pos (show (v 2 (stepC v k ac dn) = 0 ∧ sIn v (stepC v k ac dn) = -19) ∧ iabs (v 1 (v 4 k) - v 1 (stepC v k ac dn)) ≤ 2 from p8)]; exact ⟨by show _ = some (Sum.inl (uncV (vset v 4 k (stepC v k ac dn)) (v 3 k))); unfold uncV; rw [hsd (by omega) (by omega)]; rfl, hR.act (fun a ha => mset_row (by omega)) hw hSw⟩)
              · skip
                refine X.callV1 (As := [.inl (v 4 k), .inl ((((v 4 k) / 12) + dn) * 12 + (((v 4 k) % 12) + ac))]) (rest := []) dX6_step_89 mk_X6_112 sh_0 (CX.bf (c_canStep M v hv hS (v 4 k) ((((v 4 k) / 12) + dn) * 12 + (((v 4 k) % 12) + ac)) (by omega) (by omega)) p8) rfl (by decide) rfl (Nat.le_of_ble_eq_true rfl) ?_
                refine X.if_ne (tgt := 98) dX6_step_92 (by decide) (by decide) (fun h => absurd h (by decide)) (fun h12 => ?_)
                refine X.bipush dX6_step_95 (by decide) ?_
                exact Y.iret dX6_step_97 rfl (by unfold OUT oStep; rw [if_pos p1, if_pos p2, if_pos p3, if_neg p6, if_pos p7, if_neg (show ¬ ((v 2 (stepC v k ac dn) = 0 ∧ sIn v (stepC v k ac dn) = -19) ∧ iabs (v 1 (v 4 k) - v 1 (stepC v k ac dn)) ≤ 2) from p8)]; exact ⟨rfl, hR, fun _ _ => rfl⟩)
            · skip
              refine X.callS1 (As := [.inl (((v 4 k) % 12) + ac), .inl (((v 4 k) / 12) + dn)]) (rest := []) dX6_step_73 mk_X6_44 (CX.bf (c_isCell M (((v 4 k) % 12) + ac) (((v 4 k) / 12) + dn) ⟨by omega, by omega⟩ ⟨by omega, by omega⟩) p7) rfl (by decide) rfl (Nat.le_of_ble_eq_true rfl) ?_
              refine X.if_eq (tgt := 95) dX6_step_76 (by decide) (by decide) (fun h13 => ?_) (fun h => absurd h (by decide))
              refine X.bipush dX6_step_95 (by decide) ?_
              exact Y.iret dX6_step_97 rfl (by unfold OUT oStep; rw [if_pos p1, if_pos p2, if_pos p3, if_neg p6, if_neg p7]; exact ⟨rfl, hR, fun _ _ => rfl⟩)
          · skip
            have p6 : ac = 0 ∧ dn = 0 := ⟨by omega, by omega⟩
            refine X.bipush dX6_step_37 (by decide) ?_
            exact Y.iret dX6_step_39 rfl (by unfold OUT oStep; rw [if_pos p1, if_pos p2, if_pos p3, if_pos p6]; exact ⟨rfl, hR, fun _ _ => rfl⟩)
      · skip
        refine X.callS1 (As := [.inl dn, .inl (-1), .inl 1]) (rest := []) dX6_step_20 mk_X6_48 (CX.bf (c_isWithin M dn (-1) 1 ⟨by omega, by omega⟩ (by decide) (by decide)) p3) rfl (by decide) rfl (Nat.le_of_ble_eq_true rfl) ?_
        refine X.if_ne (tgt := 29) dX6_step_23 (by decide) (by decide) (fun h => absurd h (by decide)) (fun h14 => ?_)
        refine X.bipush dX6_step_26 (by decide) ?_
        exact Y.iret dX6_step_28 rfl (by unfold OUT oStep; rw [if_pos p1, if_pos p2, if_neg p3]; exact ⟨rfl, hR, fun _ _ => rfl⟩)
    · skip
      refine X.callS1 (As := [.inl ac, .inl (-1), .inl 1]) (rest := []) dX6_step_11 mk_X6_48 (CX.bf (c_isWithin M ac (-1) 1 ⟨by omega, by omega⟩ (by decide) (by decide)) p2) rfl (by decide) rfl (Nat.le_of_ble_eq_true rfl) ?_
      refine X.if_eq (tgt := 26) dX6_step_14 (by decide) (by decide) (fun h15 => ?_) (fun h => absurd h (by decide))
      refine X.bipush dX6_step_26 (by decide) ?_
      exact Y.iret dX6_step_28 rfl (by unfold OUT oStep; rw [if_pos p1, if_neg p2]; exact ⟨rfl, hR, fun _ _ => rfl⟩)
  · skip
    refine X.callV1 (As := [.inl k]) (rest := []) dX6_step_2 mk_X6_100 sh_0 (CX.bf (c_isScout M v hv hS k ⟨by omega, by omega⟩) p1) rfl (by decide) rfl (Nat.le_of_ble_eq_true rfl) ?_
    refine X.if_eq (tgt := 26) dX6_step_5 (by decide) (by decide) (fun h16 => ?_) (fun h => absurd h (by decide))
    refine X.bipush dX6_step_26 (by decide) ?_
    exact Y.iret dX6_step_28 rfl (by unfold OUT oStep; rw [if_neg p1]; exact ⟨rfl, hR, fun _ _ => rfl⟩)
theorem c_step (M : Mem) (v : Vw) (z : Int) (H : Int → Vw) (tl : Int) (T : Int → Int) (hR : RF M (v, z, H, tl, T)) (k ac dn : Int) (hk : inR k) (hac : inR ac) (hdn : inR dn) : CQ mX6_step 7 [.inr (some 0), .inl k, .inl ac, .inl dn] M (OUT M (oStep (v, z, H, tl, T) k ac dn)) := by
  have : 0 ≤ v 3 k ∧ v 3 k ≤ 1 := hR.1.2.1.r3 k
  by_cases h : v 3 k = 0
  · exact c_step_0 M v z H tl T hR k ac dn hk hac hdn (fun _ _ => h)
  · exact c_step_1 M v z H tl T hR k ac dn hk hac hdn (fun _ _ => by omega)
set_option maxHeartbeats 4000000 in
set_option maxRecDepth 100000 in
theorem c_way_0 (M : Mem) (v : Vw) (z : Int) (H : Int → Vw) (tl : Int) (T : Int → Int) (hR : RF M (v, z, H, tl, T)) (k c r : Int) (hk : inR k) (hc : inR c) (hr : inR r) (hsd : 0 ≤ k → k < v 0 0 → v 3 k = 0) : CQ mX6_way 4 [.inr (some 0), .inl k, .inl c, .inl r] M (OUT M (qWay v k c r, (v, z, H, tl, T))) := by
  have hv : VA M v := VA.of hR.1.1
  have hS : SI v := hR.1.2.1
  have hG : SG M v := hR.1.2.2.1
  have hm : VM M v := VM.of hR.1.1
  have hn1 : 0 ≤ M 24 2 ∧ M 24 2 ≤ 4 := hR.1.2.2.2.1
  have hz : M 24 1 = z := hR.1.2.2.2.2.1
  have hz1 : 0 ≤ z ∧ z ≤ 5 := hR.1.2.2.2.2.2.1
  have htl : M 126 1 = tl := hR.2.1
  have htb : 0 ≤ tl ∧ tl ≤ 120 := hR.2.2.1
  have n0 := hS.n0
  have n1 := hS.n1
  have n2 := hS.n2
  refine CX.of (by decide +kernel) (Nat.le_of_ble_eq_true rfl) [some (.inr (some 0)), some (.inl k), some (.inl c), some (.inl r), none] rfl ?_
  refine X.aload_n dX6_way_0 rfl ?_
  refine X.iload_n dX6_way_1 rfl ?_
  by_cases p1 : 0 ≤ k ∧ k ≤ v 0 0 - 1
  · skip
    refine X.callV1 (As := [.inl k]) (rest := []) dX6_way_2 mk_X6_100 sh_0 (CX.bt (c_isScout M v hv hS k ⟨by omega, by omega⟩) p1) rfl (by decide) rfl (Nat.le_of_ble_eq_true rfl) ?_
    refine X.if_eq (tgt := 16) dX6_way_5 (by decide) (by decide) (fun h => absurd h (by decide)) (fun h1 => ?_)
    refine X.iload_n dX6_way_8 rfl ?_
    refine X.iload_n dX6_way_9 rfl ?_
    by_cases p2 : 0 ≤ c ∧ c ≤ 11 ∧ 0 ≤ r ∧ r ≤ 9
    · skip
      refine X.callS1 (As := [.inl c, .inl r]) (rest := []) dX6_way_10 mk_X6_44 (CX.bt (c_isCell M c r ⟨by omega, by omega⟩ ⟨by omega, by omega⟩) p2) rfl (by decide) rfl (Nat.le_of_ble_eq_true rfl) ?_
      refine X.if_ne (tgt := 19) dX6_way_13 (by decide) (by decide) (fun h2 => ?_) (fun h => absurd h (by decide))
      refine X.aload_n dX6_way_19 rfl ?_
      refine X.getR dX6_way_20 fi_X6_12 sh_0 rfl ?_
      refine X.getR dX6_way_23 fi_X6_177 sh_1 rfl ?_
      refine X.aload_n dX6_way_26 rfl ?_
      refine X.getR dX6_way_27 fi_X6_12 sh_0 rfl ?_
      refine X.getR dX6_way_30 fi_X6_118 sh_1 rfl ?_
      refine X.iload_n dX6_way_33 rfl ?_
      refine X.iald (v := 0) dX6_way_34 sh_4 (by decide) (by omega) ((rd_3 hv (by omega)).trans (hsd (by omega) (by omega))) ?_
      refine X.aald dX6_way_35 sh_10 (by decide) (by decide) (by decide) rfl ?_
      refine X.astore (lv2 := [some (.inr (some 0)), some (.inl k), some (.inl c), some (.inl r), some (.inr (some 11))]) dX6_way_36 (Nat.le_of_ble_eq_true rfl) rfl ?_
      refine X.aload_n dX6_way_38 rfl ?_
      refine X.getR dX6_way_39 fi_X6_40 sh_0 rfl ?_
      refine X.aload dX6_way_42 rfl ?_
      refine X.aload_n dX6_way_44 rfl ?_
      refine X.getR dX6_way_45 fi_X6_12 sh_0 rfl ?_
      refine X.getR dX6_way_48 fi_X6_103 sh_1 rfl ?_
      refine X.iload_n dX6_way_51 rfl ?_
      have q3 := SI.r4 hS k
      refine X.iald (v := v 4 k) dX6_way_52 sh_5 (by decide) (by omega) (rd_4 hv (by omega)) ?_
      refine X.iload_n dX6_way_53 rfl ?_
      refine X.iload_n dX6_way_54 rfl ?_
      refine X.callS1 (As := [.inl c, .inl r]) (rest := [.inl (v 4 k), .inr (some 11), .inr (some 129)]) dX6_way_55 mk_X6_52 (c_cellAt M c r) rfl (by decide) rfl (Nat.le_of_ble_eq_true rfl) ?_
      refine Y.callV (As := [.inr (some 11), .inl (v 4 k), .inl (r * 12 + c)]) (rest := []) dX6_way_58 mk_X6_219 sh_129 (c_shortest_0 M v hm hS (v 4 k) (r * 12 + c) (hS.r4 k) (by omega)) rfl (by decide) rfl (Nat.le_of_ble_eq_true rfl) (fun r9 M9 h9 => ?_)
      obtain ⟨h90, h9f⟩ := h9
      subst h90
      exact Y.iret dX6_way_61 rfl (by unfold OUT qWay; rw [if_pos p1, if_pos p2]; exact ⟨by rw [hsd (by omega) (by omega)]; rfl, hR.frame (fun a ha => h9f a (by omega) (by omega) (by omega)), fun a ha => h9f a (by omega) (by omega) (by omega)⟩)
    · skip
      refine X.callS1 (As := [.inl c, .inl r]) (rest := []) dX6_way_10 mk_X6_44 (CX.bf (c_isCell M c r ⟨by omega, by omega⟩ ⟨by omega, by omega⟩) p2) rfl (by decide) rfl (Nat.le_of_ble_eq_true rfl) ?_
      refine X.if_ne (tgt := 19) dX6_way_13 (by decide) (by decide) (fun h => absurd h (by decide)) (fun h4 => ?_)
      refine X.bipush dX6_way_16 (by decide) ?_
      exact Y.iret dX6_way_18 rfl (by unfold OUT qWay; rw [if_pos p1, if_neg p2]; exact ⟨rfl, hR, fun _ _ => rfl⟩)
  · skip
    refine X.callV1 (As := [.inl k]) (rest := []) dX6_way_2 mk_X6_100 sh_0 (CX.bf (c_isScout M v hv hS k ⟨by omega, by omega⟩) p1) rfl (by decide) rfl (Nat.le_of_ble_eq_true rfl) ?_
    refine X.if_eq (tgt := 16) dX6_way_5 (by decide) (by decide) (fun h5 => ?_) (fun h => absurd h (by decide))
    refine X.bipush dX6_way_16 (by decide) ?_
    exact Y.iret dX6_way_18 rfl (by unfold OUT qWay; rw [if_neg p1]; exact ⟨rfl, hR, fun _ _ => rfl⟩)
set_option maxHeartbeats 4000000 in
set_option maxRecDepth 100000 in
theorem c_way_1 (M : Mem) (v : Vw) (z : Int) (H : Int → Vw) (tl : Int) (T : Int → Int) (hR : RF M (v, z, H, tl, T)) (k c r : Int) (hk : inR k) (hc : inR c) (hr : inR r) (hsd : 0 ≤ k → k < v 0 0 → v 3 k = 1) : CQ mX6_way 4 [.inr (some 0), .inl k, .inl c, .inl r] M (OUT M (qWay v k c r, (v, z, H, tl, T))) := by
  have hv : VA M v := VA.of hR.1.1
  have hS : SI v := hR.1.2.1
  have hG : SG M v := hR.1.2.2.1
  have hm : VM M v := VM.of hR.1.1
  have hn1 : 0 ≤ M 24 2 ∧ M 24 2 ≤ 4 := hR.1.2.2.2.1
  have hz : M 24 1 = z := hR.1.2.2.2.2.1
  have hz1 : 0 ≤ z ∧ z ≤ 5 := hR.1.2.2.2.2.2.1
  have htl : M 126 1 = tl := hR.2.1
  have htb : 0 ≤ tl ∧ tl ≤ 120 := hR.2.2.1
  have n0 := hS.n0
  have n1 := hS.n1
  have n2 := hS.n2
  refine CX.of (by decide +kernel) (Nat.le_of_ble_eq_true rfl) [some (.inr (some 0)), some (.inl k), some (.inl c), some (.inl r), none] rfl ?_
  refine X.aload_n dX6_way_0 rfl ?_
  refine X.iload_n dX6_way_1 rfl ?_
  by_cases p1 : 0 ≤ k ∧ k ≤ v 0 0 - 1
  · skip
    refine X.callV1 (As := [.inl k]) (rest := []) dX6_way_2 mk_X6_100 sh_0 (CX.bt (c_isScout M v hv hS k ⟨by omega, by omega⟩) p1) rfl (by decide) rfl (Nat.le_of_ble_eq_true rfl) ?_
    refine X.if_eq (tgt := 16) dX6_way_5 (by decide) (by decide) (fun h => absurd h (by decide)) (fun h1 => ?_)
    refine X.iload_n dX6_way_8 rfl ?_
    refine X.iload_n dX6_way_9 rfl ?_
    by_cases p2 : 0 ≤ c ∧ c ≤ 11 ∧ 0 ≤ r ∧ r ≤ 9
    · skip
      refine X.callS1 (As := [.inl c, .inl r]) (rest := []) dX6_way_10 mk_X6_44 (CX.bt (c_isCell M c r ⟨by omega, by omega⟩ ⟨by omega, by omega⟩) p2) rfl (by decide) rfl (Nat.le_of_ble_eq_true rfl) ?_
      refine X.if_ne (tgt := 19) dX6_way_13 (by decide) (by decide) (fun h2 => ?_) (fun h => absurd h (by decide))
      refine X.aload_n dX6_way_19 rfl ?_
      refine X.getR dX6_way_20 fi_X6_12 sh_0 rfl ?_
      refine X.getR dX6_way_23 fi_X6_177 sh_1 rfl ?_
      refine X.aload_n dX6_way_26 rfl ?_
      refine X.getR dX6_way_27 fi_X6_12 sh_0 rfl ?_
      refine X.getR dX6_way_30 fi_X6_118 sh_1 rfl ?_
      refine X.iload_n dX6_way_33 rfl ?_
      refine X.iald (v := 1) dX6_way_34 sh_4 (by decide) (by omega) ((rd_3 hv (by omega)).trans (hsd (by omega) (by omega))) ?_
      refine X.aald dX6_way_35 sh_10 (by decide) (by decide) (by decide) rfl ?_
      refine X.astore (lv2 := [some (.inr (some 0)), some (.inl k), some (.inl c), some (.inl r), some (.inr (some 16))]) dX6_way_36 (Nat.le_of_ble_eq_true rfl) rfl ?_
      refine X.aload_n dX6_way_38 rfl ?_
      refine X.getR dX6_way_39 fi_X6_40 sh_0 rfl ?_
      refine X.aload dX6_way_42 rfl ?_
      refine X.aload_n dX6_way_44 rfl ?_
      refine X.getR dX6_way_45 fi_X6_12 sh_0 rfl ?_
      refine X.getR dX6_way_48 fi_X6_103 sh_1 rfl ?_
      refine X.iload_n dX6_way_51 rfl ?_
      have q3 := SI.r4 hS k
      refine X.iald (v := v 4 k) dX6_way_52 sh_5 (by decide) (by omega) (rd_4 hv (by omega)) ?_
      refine X.iload_n dX6_way_53 rfl ?_
      refine X.iload_n dX6_way_54 rfl ?_
      refine X.callS1 (As := [.inl c, .inl r]) (rest := [.inl (v 4 k), .inr (some 16), .inr (some 129)]) dX6_way_55 mk_X6_52 (c_cellAt M c r) rfl (by decide) rfl (Nat.le_of_ble_eq_true rfl) ?_
      refine Y.callV (As := [.inr (some 16), .inl (v 4 k), .inl (r * 12 + c)]) (rest := []) dX6_way_58 mk_X6_219 sh_129 (c_shortest_1 M v hm hS (v 4 k) (r * 12 + c) (hS.r4 k) (by omega)) rfl (by decide) rfl (Nat.le_of_ble_eq_true rfl) (fun r9 M9 h9 => ?_)
      obtain ⟨h90, h9f⟩ := h9
      subst h90
      exact Y.iret dX6_way_61 rfl (by unfold OUT qWay; rw [if_pos p1, if_pos p2]; exact ⟨by rw [hsd (by omega) (by omega)]; rfl, hR.frame (fun a ha => h9f a (by omega) (by omega) (by omega)), fun a ha => h9f a (by omega) (by omega) (by omega)⟩)
    · skip
      refine X.callS1 (As := [.inl c, .inl r]) (rest := []) dX6_way_10 mk_X6_44 (CX.bf (c_isCell M c r ⟨by omega, by omega⟩ ⟨by omega, by omega⟩) p2) rfl (by decide) rfl (Nat.le_of_ble_eq_true rfl) ?_
      refine X.if_ne (tgt := 19) dX6_way_13 (by decide) (by decide) (fun h => absurd h (by decide)) (fun h4 => ?_)
      refine X.bipush dX6_way_16 (by decide) ?_
      exact Y.iret dX6_way_18 rfl (by unfold OUT qWay; rw [if_pos p1, if_neg p2]; exact ⟨rfl, hR, fun _ _ => rfl⟩)
  · skip
    refine X.callV1 (As := [.inl k]) (rest := []) dX6_way_2 mk_X6_100 sh_0 (CX.bf (c_isScout M v hv hS k ⟨by omega, by omega⟩) p1) rfl (by decide) rfl (Nat.le_of_ble_eq_true rfl) ?_
    refine X.if_eq (tgt := 16) dX6_way_5 (by decide) (by decide) (fun h5 => ?_) (fun h => absurd h (by decide))
    refine X.bipush dX6_way_16 (by decide) ?_
    exact Y.iret dX6_way_18 rfl (by unfold OUT qWay; rw [if_neg p1]; exact ⟨rfl, hR, fun _ _ => rfl⟩)
theorem c_way (M : Mem) (v : Vw) (z : Int) (H : Int → Vw) (tl : Int) (T : Int → Int) (hR : RF M (v, z, H, tl, T)) (k c r : Int) (hk : inR k) (hc : inR c) (hr : inR r) : CQ mX6_way 4 [.inr (some 0), .inl k, .inl c, .inl r] M (OUT M (qWay v k c r, (v, z, H, tl, T))) := by
  have : 0 ≤ v 3 k ∧ v 3 k ≤ 1 := hR.1.2.1.r3 k
  by_cases h : v 3 k = 0
  · exact c_way_0 M v z H tl T hR k c r hk hc hr (fun _ _ => h)
  · exact c_way_1 M v z H tl T hR k c r hk hc hr (fun _ _ => by omega)
