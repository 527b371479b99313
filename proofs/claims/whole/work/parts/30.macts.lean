set_option maxHeartbeats 4000000 in
set_option maxRecDepth 100000 in
theorem c_mlook0 (M : Mem) (v : Vw) (hv : WA (M 133) v) (hS : SI v) : CQ mX7_look 6 [.inr (some 132)] M (fun r M' => r = none ∧ (∀ a, a ≠ 133 → M' a = M a) ∧ LK (M 133) (M' 133) v 2 0) := by
  have n0 := hS.n0
  have n1 := hS.n1
  have n2 := hS.n2
  refine CX.of (by decide +kernel) (Nat.le_of_ble_eq_true rfl) [some (.inr (some 132)), none, none, none, none] rfl ?_
  refine X.iconst dX7_look_0 ?_
  refine X.istore_n (lv2 := [some (.inr (some 132)), some (.inl 0), none, none, none]) dX7_look_1 (Nat.le_of_ble_eq_true rfl) rfl ?_
  have L2 : ∀ sd, 0 ≤ sd → sd ≤ 2 → ∀ x2 : Option AV, ∀ x3 : Option AV, ∀ x4 : Option AV, ∀ M1 : Mem, (∀ a, a ≠ 133 → M1 a = M a) → LK (M 133) (M1 133) v sd 0 → VQ mX7_look 6 2 [some (.inr (some 132)), some (.inl sd), x2, x3, x4] [] M1 (fun r M' => r = none ∧ (∀ a, a ≠ 133 → M' a = M a) ∧ LK (M 133) (M' 133) v 2 0) := by
    refine down_ind 0 2 ?_ ?_
    · skip
      intro x2 x3 x4 M1 hM1 hL
      refine X.iload_n dX7_look_2 rfl ?_
      refine X.iconst dX7_look_3 ?_
      refine X.icmp_ge (tgt := 138) dX7_look_4 (by decide) ⟨by omega, by omega⟩ (by decide) (fun h1 => ?_) (fun h => by exfalso; omega)
      exact Y.vret dX7_look_138 rfl ⟨rfl, hM1, hL⟩
    · intro sd hsd1 hsd2 ihsd
      intro x2 x3 x4 M1 hM1 hL
      have hsd : 0 ≤ sd ∧ sd ≤ 1 := ⟨by omega, by omega⟩
      refine X.iload_n dX7_look_2 rfl ?_
      refine X.iconst dX7_look_3 ?_
      refine X.icmp_ge (tgt := 138) dX7_look_4 (by decide) ⟨by omega, by omega⟩ (by decide) (fun h => by exfalso; omega) (fun h2 => ?_)
      refine X.iconst dX7_look_7 ?_
      refine X.istore_n (lv2 := [some (.inr (some 132)), some (.inl sd), some (.inl 0), x3, x4]) dX7_look_8 (Nat.le_of_ble_eq_true rfl) rfl ?_
      have L9 : ∀ c, 0 ≤ c → c ≤ 120 → ∀ x3 : Option AV, ∀ x4 : Option AV, ∀ M1 : Mem, (∀ a, a ≠ 133 → M1 a = M a) → LK (M 133) (M1 133) v sd c → VQ mX7_look 6 9 [some (.inr (some 132)), some (.inl sd), some (.inl c), x3, x4] [] M1 (fun r M' => r = none ∧ (∀ a, a ≠ 133 → M' a = M a) ∧ LK (M 133) (M' 133) v 2 0) := by
        refine down_ind 0 120 ?_ ?_
        · skip
          intro x3 x4 M1 hM1 hL
          refine X.iload_n dX7_look_9 rfl ?_
          refine X.bipush dX7_look_10 (by decide) ?_
          refine X.icmp_ge (tgt := 132) dX7_look_12 (by decide) ⟨by omega, by omega⟩ (by decide) (fun h3 => ?_) (fun h => by exfalso; omega)
          refine X.iinc (y := sd + 1) (lv2 := [some (.inr (some 132)), some (.inl (sd + 1)), some (.inl 120), x3, x4]) dX7_look_132 rfl rfl rfl ?_
          refine X.goto (tgt := 2) dX7_look_135 (by decide) ?_
          exact ihsd (some (.inl 120)) x3 x4 M1 hM1 hL.side
        · intro c hc1 hc2 ihc
          intro x3 x4 M1 hM1 hL
          have hv1 : WA (M1 133) v := hv.frame hS hL.1
          have hsi := sIn_range hS c
          refine X.iload_n dX7_look_9 rfl ?_
          refine X.bipush dX7_look_10 (by decide) ?_
          refine X.icmp_ge (tgt := 132) dX7_look_12 (by decide) ⟨by omega, by omega⟩ (by decide) (fun h => by exfalso; omega) (fun h4 => ?_)
          refine X.aload_n dX7_look_15 rfl ?_
          refine X.iload_n dX7_look_16 rfl ?_
          refine X.iload_n dX7_look_17 rfl ?_
          by_cases hp : sSees v sd c
          · skip
            refine X.callV1 (As := [.inl sd, .inl c]) (rest := []) dX7_look_18 mk_X7_80 sh_132 (CX.bt (c_sideSees M1 v hv1 hS sd c ⟨by omega, by omega⟩ (by omega)) hp) rfl (by decide) rfl (Nat.le_of_ble_eq_true rfl) ?_
            refine X.if_eq (tgt := 126) dX7_look_21 (by decide) (by decide) (fun h => absurd h (by decide)) (fun h5 => ?_)
            refine X.bipush dX7_look_24 (by decide) ?_
            refine X.iload_n dX7_look_26 rfl ?_
            refine X.imul (c := 120 * sd) dX7_look_27 rfl ?_
            refine X.iload_n dX7_look_28 rfl ?_
            refine X.iadd (c := (120 * sd) + c) dX7_look_29 rfl ?_
            refine X.istore_n (lv2 := [some (.inr (some 132)), some (.inl sd), some (.inl c), some (.inl ((120 * sd) + c)), x4]) dX7_look_30 (Nat.le_of_ble_eq_true rfl) rfl ?_
            refine X.aload_n dX7_look_31 rfl ?_
            refine X.iload_n dX7_look_32 rfl ?_
            refine X.callV1 (As := [.inl c]) (rest := []) dX7_look_33 mk_X7_83 sh_132 (c_mscoutIn M1 v hv1 hS c ⟨by omega, by omega⟩) rfl (by decide) rfl (Nat.le_of_ble_eq_true rfl) ?_
            refine X.istore (lv2 := [some (.inr (some 132)), some (.inl sd), some (.inl c), some (.inl ((120 * sd) + c)), some (.inl (sIn v c))]) dX7_look_36 (Nat.le_of_ble_eq_true rfl) rfl ?_
            refine X.aload_n dX7_look_38 rfl ?_
            refine X.getR dX7_look_39 fi_X7_7 sh_132 rfl ?_
            refine X.sipush dX7_look_42 (by decide) ?_
            refine X.iload_n dX7_look_45 rfl ?_
            refine X.iadd (c := 308 + ((120 * sd) + c)) dX7_look_46 rfl ?_
            refine X.aload_n dX7_look_47 rfl ?_
            refine X.getR dX7_look_48 fi_X7_7 sh_132 rfl ?_
            refine X.iconst dX7_look_51 ?_
            refine X.iald (v := v 0 2) dX7_look_52 sh_133 (by decide) (by decide) (ws_0_2 hv1) ?_
            refine X.iast dX7_look_53 sh_133 (by decide) (by omega) ?_
            refine X.aload_n dX7_look_54 rfl ?_
            refine X.getR dX7_look_55 fi_X7_7 sh_132 rfl ?_
            refine X.sipush dX7_look_58 (by decide) ?_
            refine X.iload_n dX7_look_61 rfl ?_
            refine X.iadd (c := 548 + ((120 * sd) + c)) dX7_look_62 rfl ?_
            refine X.aload_n dX7_look_63 rfl ?_
            refine X.getR dX7_look_64 fi_X7_7 sh_132 rfl ?_
            refine X.bipush dX7_look_67 (by decide) ?_
            refine X.iload_n dX7_look_69 rfl ?_
            refine X.iadd (c := 68 + c) dX7_look_70 rfl ?_
            have q6 := SI.r1 hS c
            refine X.iald (v := v 1 c) dX7_look_71 sh_133 (by decide) (by omega) (ws_1 (WA.st hv1 hS (by omega)) (by omega)) ?_
            refine X.iast dX7_look_72 sh_133 (by decide) (by omega) ?_
            refine X.aload_n dX7_look_73 rfl ?_
            refine X.getR dX7_look_74 fi_X7_7 sh_132 rfl ?_
            refine X.sipush dX7_look_77 (by decide) ?_
            refine X.iload_n dX7_look_80 rfl ?_
            refine X.iadd (c := 788 + ((120 * sd) + c)) dX7_look_81 rfl ?_
            refine X.aload_n dX7_look_82 rfl ?_
            refine X.getR dX7_look_83 fi_X7_7 sh_132 rfl ?_
            refine X.sipush dX7_look_86 (by decide) ?_
            refine X.iload_n dX7_look_89 rfl ?_
            refine X.iadd (c := 188 + c) dX7_look_90 rfl ?_
            have q7 := SI.r2 hS c
            refine X.iald (v := v 2 c) dX7_look_91 sh_133 (by decide) (by omega) (ws_2 (WA.st (WA.st hv1 hS (by omega)) hS (by omega)) (by omega)) ?_
            refine X.iast dX7_look_92 sh_133 (by decide) (by omega) ?_
            refine X.aload_n dX7_look_93 rfl ?_
            refine X.getR dX7_look_94 fi_X7_7 sh_132 rfl ?_
            refine X.sipush dX7_look_97 (by decide) ?_
            refine X.iload_n dX7_look_100 rfl ?_
            refine X.iadd (c := 1028 + ((120 * sd) + c)) dX7_look_101 rfl ?_
            refine X.iload dX7_look_102 rfl ?_
            refine X.bipush dX7_look_104 (by decide) ?_
            refine X.icmp_eq (tgt := 124) dX7_look_106 (by decide) ⟨by omega, by omega⟩ (by decide) (fun h106 => ?_) (fun h106 => ?_)
            · skip
              refine X.iconst dX7_look_124 ?_
              refine X.iast dX7_look_125 sh_133 (by decide) (by omega) ?_
              refine X.iinc (y := c + 1) (lv2 := [some (.inr (some 132)), some (.inl sd), some (.inl (c + 1)), some (.inl ((120 * sd) + c)), some (.inl (sIn v c))]) dX7_look_126 rfl rfl rfl ?_
              refine X.goto (tgt := 9) dX7_look_129 (by decide) ?_
              exact ihc (some (.inl ((120 * sd) + c))) (some (.inl (sIn v c))) _ (fun a ha => by rw [mset_row ha, mset_row ha, mset_row ha, mset_row ha]; exact hM1 a ha) (hL.put hsd (by omega) hp rfl rfl rfl (show _ = nv v sd 3 c from (by show _ = bi (¬ sIn v c = -19 ∧ ¬ v 3 (sIn v c) = sd); rw [bi_f (fun q : ¬ sIn v c = -19 ∧ ¬ v 3 (sIn v c) = sd => q.1 h106)])) (by omega) (by omega) (by omega) (by omega))
            · skip
              refine X.aload_n dX7_look_109 rfl ?_
              refine X.iload dX7_look_110 rfl ?_
              refine X.iconst dX7_look_112 ?_
              have q8 := SI.r3 hS (sIn v c)
              refine X.callV1 (As := [.inl (sIn v c), .inl 0]) (rest := [.inl (1028 + ((120 * sd) + c)), .inr (some 133)]) dX7_look_113 mk_X7_43 sh_132 (c_ofScout_0 (mset (mset (mset M1 133 (308 + ((120 * sd) + c)) (v 0 2)) 133 (548 + ((120 * sd) + c)) (v 1 c)) 133 (788 + ((120 * sd) + c)) (v 2 c)) v (WA.st (WA.st (WA.st hv1 hS (by omega)) hS (by omega)) hS (by omega)) hS (sIn v c) (by omega)) rfl (by decide) rfl (Nat.le_of_ble_eq_true rfl) ?_
              refine X.iload_n dX7_look_116 rfl ?_
              refine X.icmp_eq (tgt := 124) dX7_look_117 (by decide) ⟨by omega, by omega⟩ ⟨by omega, by omega⟩ (fun h117 => ?_) (fun h117 => ?_)
              · skip
                refine X.iconst dX7_look_124 ?_
                refine X.iast dX7_look_125 sh_133 (by decide) (by omega) ?_
                refine X.iinc (y := c + 1) (lv2 := [some (.inr (some 132)), some (.inl sd), some (.inl (c + 1)), some (.inl ((120 * sd) + c)), some (.inl (sIn v c))]) dX7_look_126 rfl rfl rfl ?_
                refine X.goto (tgt := 9) dX7_look_129 (by decide) ?_
                exact ihc (some (.inl ((120 * sd) + c))) (some (.inl (sIn v c))) _ (fun a ha => by rw [mset_row ha, mset_row ha, mset_row ha, mset_row ha]; exact hM1 a ha) (hL.put hsd (by omega) hp rfl rfl rfl (show _ = nv v sd 3 c from (by show _ = bi (¬ sIn v c = -19 ∧ ¬ v 3 (sIn v c) = sd); rw [bi_f (fun q : ¬ sIn v c = -19 ∧ ¬ v 3 (sIn v c) = sd => q.2 h117)])) (by omega) (by omega) (by omega) (by omega))
              · skip
                refine X.iconst dX7_look_120 ?_
                refine X.goto (tgt := 125) dX7_look_121 (by decide) ?_
                refine X.iast dX7_look_125 sh_133 (by decide) (by omega) ?_
                refine X.iinc (y := c + 1) (lv2 := [some (.inr (some 132)), some (.inl sd), some (.inl (c + 1)), some (.inl ((120 * sd) + c)), some (.inl (sIn v c))]) dX7_look_126 rfl rfl rfl ?_
                refine X.goto (tgt := 9) dX7_look_129 (by decide) ?_
                exact ihc (some (.inl ((120 * sd) + c))) (some (.inl (sIn v c))) _ (fun a ha => by rw [mset_row ha, mset_row ha, mset_row ha, mset_row ha]; exact hM1 a ha) (hL.put hsd (by omega) hp rfl rfl rfl (show _ = nv v sd 3 c from (by show _ = bi (¬ sIn v c = -19 ∧ ¬ v 3 (sIn v c) = sd); rw [bi_t (show ¬ sIn v c = -19 ∧ ¬ v 3 (sIn v c) = sd from ⟨h106, h117⟩)])) (by omega) (by omega) (by omega) (by omega))
          · skip
            refine X.callV1 (As := [.inl sd, .inl c]) (rest := []) dX7_look_18 mk_X7_80 sh_132 (CX.bf (c_sideSees M1 v hv1 hS sd c ⟨by omega, by omega⟩ (by omega)) hp) rfl (by decide) rfl (Nat.le_of_ble_eq_true rfl) ?_
            refine X.if_eq (tgt := 126) dX7_look_21 (by decide) (by decide) (fun h9 => ?_) (fun h => absurd h (by decide))
            refine X.iinc (y := c + 1) (lv2 := [some (.inr (some 132)), some (.inl sd), some (.inl (c + 1)), x3, x4]) dX7_look_126 rfl rfl rfl ?_
            refine X.goto (tgt := 9) dX7_look_129 (by decide) ?_
            exact ihc x3 x4 M1 hM1 (hL.skip hp)
      exact L9 0 (by omega) (by omega) x3 x4 M1 hM1 hL
  exact L2 0 (by omega) (by omega) none none none M (fun _ _ => rfl) LK.start
theorem c_mlook (M : Mem) (v : Vw) (h : WF (M 133) v) : CQ mX7_look 6 [.inr (some 132)] M (fun r M' => r = none ∧ (∀ a, a ≠ 133 → M' a = M a) ∧ WF (M' 133) (lookV v)) :=
  (c_mlook0 M v h.wa h.2.2).mono fun r M' q => ⟨q.1, q.2.1, (q.2.2.view h.1 h.2.1 h.2.2).1, (q.2.2.view h.1 h.2.1 h.2.2).2, h.2.2.look⟩
set_option maxHeartbeats 4000000 in
set_option maxRecDepth 100000 in
theorem c_act_lt (M : Mem) (z : Int) (hz : M 132 4 = z) (h0 : 0 ≤ z ∧ z < 5) : CX mX7_act 0 [.inr (some 132)] M none (mset (mw M 135 (1268 * z) (1268 * z + 1268) (fun i => M 133 (i - 1268 * z))) 132 4 (z + 1)) := by
  refine CX.of (by decide +kernel) (Nat.le_of_ble_eq_true rfl) [some (.inr (some 132)), none] rfl ?_
  refine X.aload_n dX7_act_0 rfl ?_
  refine X.getI (v := z) 4 dX7_act_1 fi_X7_29 sh_132 rfl hz ?_
  refine X.iconst dX7_act_4 ?_
  refine X.icmp_ne (tgt := 49) dX7_act_5 (by decide) ⟨by omega, by omega⟩ (by decide) (fun h1 => ?_) (fun h => by exfalso; omega)
  refine X.iconst dX7_act_49 ?_
  refine X.istore_n (lv2 := [some (.inr (some 132)), some (.inl 0)]) dX7_act_50 (Nat.le_of_ble_eq_true rfl) rfl ?_
  have L51 : ∀ k, 0 ≤ k → k ≤ 1268 → VX mX7_act 0 51 [some (.inr (some 132)), some (.inl k)] [] (mw M 135 (1268 * z) (1268 * z + k) (fun i => M 133 (i - (1268 * z)))) none (mset (mw M 135 (1268 * z) (1268 * z + 1268) (fun i => M 133 (i - 1268 * z))) 132 4 (z + 1)) := by
    refine down_ind 0 1268 ?_ ?_
    · skip
      refine X.iload_n dX7_act_51 rfl ?_
      refine X.sipush dX7_act_52 (by decide) ?_
      refine X.icmp_ge (tgt := 85) dX7_act_55 (by decide) ⟨by omega, by omega⟩ (by decide) (fun h2 => ?_) (fun h => by exfalso; omega)
      refine X.aload_n dX7_act_85 rfl ?_
      refine X.dup dX7_act_86 ?_
      refine X.getI (v := z) 4 dX7_act_87 fi_X7_29 sh_132 rfl ((congrFun (mw_no (by decide)) 4).trans hz) ?_
      refine X.iconst dX7_act_90 ?_
      refine X.iadd (c := z + 1) dX7_act_91 rfl ?_
      refine X.putI 4 4 rfl dX7_act_92 fi_X7_29 sh_132 rfl rfl ?_
      exact X.vret dX7_act_95 rfl rfl rfl
    · intro k hk1 hk2 ihk
      refine X.iload_n dX7_act_51 rfl ?_
      refine X.sipush dX7_act_52 (by decide) ?_
      refine X.icmp_ge (tgt := 85) dX7_act_55 (by decide) ⟨by omega, by omega⟩ (by decide) (fun h => by exfalso; omega) (fun h3 => ?_)
      refine X.aload_n dX7_act_58 rfl ?_
      refine X.getR dX7_act_59 fi_X7_16 sh_132 rfl ?_
      refine X.sipush dX7_act_62 (by decide) ?_
      refine X.aload_n dX7_act_65 rfl ?_
      refine X.getI (v := z) 4 dX7_act_66 fi_X7_29 sh_132 rfl ((congrFun (mw_no (by decide)) 4).trans hz) ?_
      refine X.imul (c := 1268 * z) dX7_act_69 rfl ?_
      refine X.iload_n dX7_act_70 rfl ?_
      refine X.iadd (c := (1268 * z) + k) dX7_act_71 rfl ?_
      refine X.aload_n dX7_act_72 rfl ?_
      refine X.getR dX7_act_73 fi_X7_7 sh_132 rfl ?_
      refine X.iload_n dX7_act_76 rfl ?_
      refine X.iald (v := M 133 k) dX7_act_77 sh_133 (by decide) (by omega) (congrFun (mw_no (by decide)) k) ?_
      refine X.iast dX7_act_78 sh_135 (by decide) (by omega) ?_
      refine X.iinc (y := k + 1) (lv2 := [some (.inr (some 132)), some (.inl (k + 1))]) dX7_act_79 rfl rfl rfl ?_
      refine X.goto (tgt := 51) dX7_act_82 (by decide) ?_
      rw [mw_step (lo := 1268 * z) (k := 1268 * z + k) (f := fun i => M 133 (i - 1268 * z)) (by omega) (by show M 133 k = M 133 (1268 * z + k - 1268 * z); congr 1; omega), Int.add_assoc]
      exact ihk
  have e := L51 0 (by omega) (by omega)
  rw [mw_0 (by omega)] at e
  exact e
set_option maxHeartbeats 4000000 in
set_option maxRecDepth 100000 in
theorem c_act_5 (M : Mem) (hz : M 132 4 = 5) : CX mX7_act 0 [.inr (some 132)] M none (mset (mw (mset (mw M 135 0 5072 (fun i => M 135 (i + 1268))) 132 4 4) 135 5072 6340 (fun i => M 133 (i - 5072))) 132 4 5) := by
  refine CX.of (by decide +kernel) (Nat.le_of_ble_eq_true rfl) [some (.inr (some 132)), none] rfl ?_
  refine X.aload_n dX7_act_0 rfl ?_
  refine X.getI (v := 5) 4 dX7_act_1 fi_X7_29 sh_132 rfl hz ?_
  refine X.iconst dX7_act_4 ?_
  refine X.icmp_ne (tgt := 49) dX7_act_5 (by decide) (by decide) (by decide) (fun h => absurd h (by decide)) (fun h1 => ?_)
  refine X.iconst dX7_act_8 ?_
  refine X.istore_n (lv2 := [some (.inr (some 132)), some (.inl 0)]) dX7_act_9 (Nat.le_of_ble_eq_true rfl) rfl ?_
  have L10 : ∀ k, 0 ≤ k → k ≤ 5072 → VX mX7_act 0 10 [some (.inr (some 132)), some (.inl k)] [] (mw M 135 0 k (fun i => M 135 (i + 1268))) none (mset (mw (mset (mw M 135 0 5072 (fun i => M 135 (i + 1268))) 132 4 4) 135 5072 6340 (fun i => M 133 (i - 5072))) 132 4 5) := by
    refine down_ind 0 5072 ?_ ?_
    · skip
      refine X.iload_n dX7_act_10 rfl ?_
      refine X.sipush dX7_act_11 (by decide) ?_
      refine X.icmp_ge (tgt := 39) dX7_act_14 (by decide) ⟨by omega, by omega⟩ (by decide) (fun h2 => ?_) (fun h => by exfalso; omega)
      refine X.aload_n dX7_act_39 rfl ?_
      refine X.dup dX7_act_40 ?_
      refine X.getI (v := 5) 4 dX7_act_41 fi_X7_29 sh_132 rfl ((congrFun (mw_no (by decide)) 4).trans hz) ?_
      refine X.iconst dX7_act_44 ?_
      refine X.isub (c := 4) dX7_act_45 rfl ?_
      refine X.putI 4 4 rfl dX7_act_46 fi_X7_29 sh_132 rfl rfl ?_
      refine X.iconst dX7_act_49 ?_
      refine X.istore_n (lv2 := [some (.inr (some 132)), some (.inl 0)]) dX7_act_50 (Nat.le_of_ble_eq_true rfl) rfl ?_
      have L51 : ∀ k, 0 ≤ k → k ≤ 1268 → VX mX7_act 0 51 [some (.inr (some 132)), some (.inl k)] [] (mw (mset (mw M 135 0 5072 (fun i => M 135 (i + 1268))) 132 4 4) 135 5072 (5072 + k) (fun i => M 133 (i - 5072))) none (mset (mw (mset (mw M 135 0 5072 (fun i => M 135 (i + 1268))) 132 4 4) 135 5072 6340 (fun i => M 133 (i - 5072))) 132 4 5) := by
        refine down_ind 0 1268 ?_ ?_
        · skip
          refine X.iload_n dX7_act_51 rfl ?_
          refine X.sipush dX7_act_52 (by decide) ?_
          refine X.icmp_ge (tgt := 85) dX7_act_55 (by decide) ⟨by omega, by omega⟩ (by decide) (fun h3 => ?_) (fun h => by exfalso; omega)
          refine X.aload_n dX7_act_85 rfl ?_
          refine X.dup dX7_act_86 ?_
          refine X.getI (v := 4) 4 dX7_act_87 fi_X7_29 sh_132 rfl ((congrFun (mw_no (by decide)) 4).trans mset_at) ?_
          refine X.iconst dX7_act_90 ?_
          refine X.iadd (c := 5) dX7_act_91 rfl ?_
          refine X.putI 4 4 rfl dX7_act_92 fi_X7_29 sh_132 rfl rfl ?_
          exact X.vret dX7_act_95 rfl rfl rfl
        · intro k hk1 hk2 ihk
          refine X.iload_n dX7_act_51 rfl ?_
          refine X.sipush dX7_act_52 (by decide) ?_
          refine X.icmp_ge (tgt := 85) dX7_act_55 (by decide) ⟨by omega, by omega⟩ (by decide) (fun h => by exfalso; omega) (fun h4 => ?_)
          refine X.aload_n dX7_act_58 rfl ?_
          refine X.getR dX7_act_59 fi_X7_16 sh_132 rfl ?_
          refine X.sipush dX7_act_62 (by decide) ?_
          refine X.aload_n dX7_act_65 rfl ?_
          refine X.getI (v := 4) 4 dX7_act_66 fi_X7_29 sh_132 rfl ((congrFun (mw_no (by decide)) 4).trans mset_at) ?_
          refine X.imul (c := 5072) dX7_act_69 rfl ?_
          refine X.iload_n dX7_act_70 rfl ?_
          refine X.iadd (c := 5072 + k) dX7_act_71 rfl ?_
          refine X.aload_n dX7_act_72 rfl ?_
          refine X.getR dX7_act_73 fi_X7_7 sh_132 rfl ?_
          refine X.iload_n dX7_act_76 rfl ?_
          refine X.iald (v := M 133 k) dX7_act_77 sh_133 (by decide) (by omega) (by rw [mw_no (by decide), mset_row (by decide), mw_no (by decide)]) ?_
          refine X.iast dX7_act_78 sh_135 (by decide) (by omega) ?_
          refine X.iinc (y := k + 1) (lv2 := [some (.inr (some 132)), some (.inl (k + 1))]) dX7_act_79 rfl rfl rfl ?_
          refine X.goto (tgt := 51) dX7_act_82 (by decide) ?_
          rw [mw_step (lo := 5072) (k := 5072 + k) (f := fun i => M 133 (i - 5072)) (by omega) (by show M 133 k = M 133 (5072 + k - 5072); congr 1; omega), Int.add_assoc]
          exact ihk
      have e := L51 0 (by omega) (by omega)
      rw [mw_0 (by omega)] at e
      exact e
    · intro k hk1 hk2 ihk
      refine X.iload_n dX7_act_10 rfl ?_
      refine X.sipush dX7_act_11 (by decide) ?_
      refine X.icmp_ge (tgt := 39) dX7_act_14 (by decide) ⟨by omega, by omega⟩ (by decide) (fun h => by exfalso; omega) (fun h5 => ?_)
      refine X.aload_n dX7_act_17 rfl ?_
      refine X.getR dX7_act_18 fi_X7_16 sh_132 rfl ?_
      refine X.iload_n dX7_act_21 rfl ?_
      refine X.aload_n dX7_act_22 rfl ?_
      refine X.getR dX7_act_23 fi_X7_16 sh_132 rfl ?_
      refine X.iload_n dX7_act_26 rfl ?_
      refine X.sipush dX7_act_27 (by decide) ?_
      refine X.iadd (c := k + 1268) dX7_act_30 rfl ?_
      refine X.iald (v := M 135 (k + 1268)) dX7_act_31 sh_135 (by decide) (by omega) (by rw [mw_at, if_neg (by omega)]) ?_
      refine X.iast dX7_act_32 sh_135 (by decide) (by omega) ?_
      refine X.iinc (y := k + 1) (lv2 := [some (.inr (some 132)), some (.inl (k + 1))]) dX7_act_33 rfl rfl rfl ?_
      refine X.goto (tgt := 10) dX7_act_36 (by decide) ?_
      rw [mw_step (f := fun i => M 135 (i + 1268)) (by omega) rfl]
      exact ihk
  have e := L10 0 (by omega) (by omega)
  rw [mw_0 (by omega)] at e
  exact e
theorem c_act (M : Mem) (z : Int) (hz : M 132 4 = z) (h0 : 0 ≤ z ∧ z ≤ 5) : CX mX7_act 0 [.inr (some 132)] M none (actM M z) := by
  unfold actM
  by_cases e : z = 5
  · rw [if_pos e]; exact c_act_5 M (hz.trans e)
  · rw [if_neg e]; exact c_act_lt M z hz (by omega)
set_option maxHeartbeats 4000000 in
set_option maxRecDepth 100000 in
theorem c_remove (M : Mem) (f n o : Int) (hf : 4 ≤ f ∧ f ≤ 44) (hn : 0 ≤ n ∧ n ≤ 10) (ho : 0 ≤ o ∧ o < n) : CX mX7_remove 0 [.inr (some 132), .inl f, .inl n, .inl o] M none (mw M 133 (f + 4 * o) (f + 4 * n - 4) (fun i => M 133 (i + 4))) := by
  refine CX.of (by decide +kernel) (Nat.le_of_ble_eq_true rfl) [some (.inr (some 132)), some (.inl f), some (.inl n), some (.inl o), none] rfl ?_
  refine X.iload_n dX7_remove_0 rfl ?_
  refine X.iconst dX7_remove_1 ?_
  refine X.iload_n dX7_remove_2 rfl ?_
  refine X.imul (c := 4 * o) dX7_remove_3 rfl ?_
  refine X.iadd (c := f + (4 * o)) dX7_remove_4 rfl ?_
  refine X.istore (lv2 := [some (.inr (some 132)), some (.inl f), some (.inl n), some (.inl o), some (.inl (f + (4 * o)))]) dX7_remove_5 (Nat.le_of_ble_eq_true rfl) rfl ?_
  have L7 : ∀ k, (f + 4 * o) ≤ k → k ≤ (f + 4 * n - 4) → VX mX7_remove 0 7 [some (.inr (some 132)), some (.inl f), some (.inl n), some (.inl o), some (.inl k)] [] (mw M 133 (f + 4 * o) k (fun i => M 133 (i + 4))) none (mw M 133 (f + 4 * o) (f + 4 * n - 4) (fun i => M 133 (i + 4))) := by
    refine down_ind (f + 4 * o) (f + 4 * n - 4) ?_ ?_
    · skip
      refine X.iload dX7_remove_7 rfl ?_
      refine X.iload_n dX7_remove_9 rfl ?_
      refine X.iconst dX7_remove_10 ?_
      refine X.iload_n dX7_remove_11 rfl ?_
      refine X.imul (c := 4 * n) dX7_remove_12 rfl ?_
      refine X.iadd (c := f + (4 * n)) dX7_remove_13 rfl ?_
      refine X.iconst dX7_remove_14 ?_
      refine X.isub (c := (f + (4 * n)) - 4) dX7_remove_15 rfl ?_
      refine X.icmp_ge (tgt := 41) dX7_remove_16 (by decide) ⟨by omega, by omega⟩ ⟨by omega, by omega⟩ (fun h1 => ?_) (fun h => by exfalso; omega)
      exact X.vret dX7_remove_41 rfl rfl rfl
    · intro k hk1 hk2 ihk
      refine X.iload dX7_remove_7 rfl ?_
      refine X.iload_n dX7_remove_9 rfl ?_
      refine X.iconst dX7_remove_10 ?_
      refine X.iload_n dX7_remove_11 rfl ?_
      refine X.imul (c := 4 * n) dX7_remove_12 rfl ?_
      refine X.iadd (c := f + (4 * n)) dX7_remove_13 rfl ?_
      refine X.iconst dX7_remove_14 ?_
      refine X.isub (c := (f + (4 * n)) - 4) dX7_remove_15 rfl ?_
      refine X.icmp_ge (tgt := 41) dX7_remove_16 (by decide) ⟨by omega, by omega⟩ ⟨by omega, by omega⟩ (fun h => by exfalso; omega) (fun h2 => ?_)
      refine X.aload_n dX7_remove_19 rfl ?_
      refine X.getR dX7_remove_20 fi_X7_7 sh_132 rfl ?_
      refine X.iload dX7_remove_23 rfl ?_
      refine X.aload_n dX7_remove_25 rfl ?_
      refine X.getR dX7_remove_26 fi_X7_7 sh_132 rfl ?_
      refine X.iload dX7_remove_29 rfl ?_
      refine X.iconst dX7_remove_31 ?_
      refine X.iadd (c := k + 4) dX7_remove_32 rfl ?_
      refine X.iald (v := M 133 (k + 4)) dX7_remove_33 sh_133 (by decide) (by omega) (by rw [mw_at, if_neg (by omega)]) ?_
      refine X.iast dX7_remove_34 sh_133 (by decide) (by omega) ?_
      refine X.iinc (y := k + 1) (lv2 := [some (.inr (some 132)), some (.inl f), some (.inl n), some (.inl o), some (.inl (k + 1))]) dX7_remove_35 rfl rfl rfl ?_
      refine X.goto (tgt := 7) dX7_remove_38 (by decide) ?_
      rw [mw_step (f := fun i => M 133 (i + 4)) (by omega) rfl]
      exact ihk
  have e := L7 (f + 4 * o) (by omega) (by omega)
  rw [mw_0 (by omega)] at e
  exact e
/-- rows 133 and 134 exchanged up to k -/
def exM (M : Mem) (k : Int) : Mem := fun a i => if (a = 133 ∧ 0 ≤ i ∧ i < k) then M 134 i else if (a = 134 ∧ 0 ≤ i ∧ i < k) then M 133 i else M a i
theorem exM_no {M : Mem} {k : Int} {a : Nat} (h : a ≠ 133 ∧ a ≠ 134) : exM M k a = M a := by
  funext i; unfold exM; rw [if_neg (fun q => h.1 q.1), if_neg (fun q => h.2 q.1)]
theorem exM_a {M : Mem} {k i : Int} : exM M k 133 i = if 0 ≤ i ∧ i < k then M 134 i else M 133 i := by
  unfold exM
  by_cases h : 0 ≤ i ∧ i < k
  · rw [if_pos ⟨rfl, h⟩, if_pos h]
  · rw [if_neg (fun q => h q.2), if_neg (fun q => h q.2), if_neg h]
theorem exM_b {M : Mem} {k i : Int} : exM M k 134 i = if 0 ≤ i ∧ i < k then M 133 i else M 134 i := by
  unfold exM
  rw [if_neg (fun q => absurd q.1 (by decide))]
  by_cases h : 0 ≤ i ∧ i < k
  · rw [if_pos ⟨rfl, h⟩, if_pos h]
  · rw [if_neg (fun q => h q.2), if_neg h]
theorem exM_0 {M : Mem} : exM M 0 = M := by
  funext a i; unfold exM; rw [if_neg (by omega), if_neg (by omega)]
theorem exM_step {M : Mem} {k : Int} (h : 0 ≤ k) : mset (mset (exM M k) 133 k (M 134 k)) 134 k (M 133 k) = exM M (k + 1) := by
  funext a i
  by_cases h3 : a = 133
  · subst h3
    rw [mset_row (by decide), mset_self, exM_a, exM_a]
    by_cases e : i = k
    · subst e; rw [if_pos rfl, if_pos (by omega)]
    · rw [if_neg e]
      by_cases q : 0 ≤ i ∧ i < k
      · rw [if_pos q, if_pos (by omega)]
      · rw [if_neg q, if_neg (by omega)]
  by_cases h4 : a = 134
  · subst h4
    rw [mset_self, mset_row (by decide), exM_b, exM_b]
    by_cases e : i = k
    · subst e; rw [if_pos rfl, if_pos (by omega)]
    · rw [if_neg e]
      by_cases q : 0 ≤ i ∧ i < k
      · rw [if_pos q, if_pos (by omega)]
      · rw [if_neg q, if_neg (by omega)]
  rw [mset_row h4, mset_row h3, exM_no ⟨h3, h4⟩, exM_no ⟨h3, h4⟩]
set_option maxHeartbeats 4000000 in
set_option maxRecDepth 100000 in
theorem c_exchange (M : Mem) : CX mX7_exchange 0 [.inr (some 132)] M none (exM M 1268) := by
  refine CX.of (by decide +kernel) (Nat.le_of_ble_eq_true rfl) [some (.inr (some 132)), none, none] rfl ?_
  refine X.iconst dX7_exchange_0 ?_
  refine X.istore_n (lv2 := [some (.inr (some 132)), some (.inl 0), none]) dX7_exchange_1 (Nat.le_of_ble_eq_true rfl) rfl ?_
  have L2 : ∀ k, 0 ≤ k → k ≤ 1268 → ∀ x2 : Option AV, VX mX7_exchange 0 2 [some (.inr (some 132)), some (.inl k), x2] [] (exM M k) none (exM M 1268) := by
    refine down_ind 0 1268 ?_ ?_
    · skip
      intro x2
      refine X.iload_n dX7_exchange_2 rfl ?_
      refine X.sipush dX7_exchange_3 (by decide) ?_
      refine X.icmp_ge (tgt := 41) dX7_exchange_6 (by decide) ⟨by omega, by omega⟩ (by decide) (fun h1 => ?_) (fun h => by exfalso; omega)
      exact X.vret dX7_exchange_41 rfl rfl rfl
    · intro k hk1 hk2 ihk
      intro x2
      refine X.iload_n dX7_exchange_2 rfl ?_
      refine X.sipush dX7_exchange_3 (by decide) ?_
      refine X.icmp_ge (tgt := 41) dX7_exchange_6 (by decide) ⟨by omega, by omega⟩ (by decide) (fun h => by exfalso; omega) (fun h2 => ?_)
      refine X.aload_n dX7_exchange_9 rfl ?_
      refine X.getR dX7_exchange_10 fi_X7_7 sh_132 rfl ?_
      refine X.iload_n dX7_exchange_13 rfl ?_
      refine X.iald (v := M 133 k) dX7_exchange_14 sh_133 (by decide) (by omega) (by rw [exM_a, if_neg (by omega)]) ?_
      refine X.istore_n (lv2 := [some (.inr (some 132)), some (.inl k), some (.inl (M 133 k))]) dX7_exchange_15 (Nat.le_of_ble_eq_true rfl) rfl ?_
      refine X.aload_n dX7_exchange_16 rfl ?_
      refine X.getR dX7_exchange_17 fi_X7_7 sh_132 rfl ?_
      refine X.iload_n dX7_exchange_20 rfl ?_
      refine X.aload_n dX7_exchange_21 rfl ?_
      refine X.getR dX7_exchange_22 fi_X7_13 sh_132 rfl ?_
      refine X.iload_n dX7_exchange_25 rfl ?_
      refine X.iald (v := M 134 k) dX7_exchange_26 sh_134 (by decide) (by omega) (by rw [exM_b, if_neg (by omega)]) ?_
      refine X.iast dX7_exchange_27 sh_133 (by decide) (by omega) ?_
      refine X.aload_n dX7_exchange_28 rfl ?_
      refine X.getR dX7_exchange_29 fi_X7_13 sh_132 rfl ?_
      refine X.iload_n dX7_exchange_32 rfl ?_
      refine X.iload_n dX7_exchange_33 rfl ?_
      refine X.iast dX7_exchange_34 sh_134 (by decide) (by omega) ?_
      refine X.iinc (y := k + 1) (lv2 := [some (.inr (some 132)), some (.inl (k + 1)), some (.inl (M 133 k))]) dX7_exchange_35 rfl rfl rfl ?_
      refine X.goto (tgt := 2) dX7_exchange_38 (by decide) ?_
      rw [exM_step hk1]
      exact ihk (some (.inl (M 133 k)))
  have e := L2 0 (by omega) (by omega) none
  rw [exM_0] at e
  exact e
theorem lightT {M : Mem} {k x : Int} (h : 0 ≤ k) (hx : x = dim1 (M 133 (44 + 4 * k + 3))) : mset (mw M 133 44 (44 + 4 * k) (fun i => if i % 4 = 3 then dim1 (M 133 i) else M 133 i)) 133 (44 + (4 * k) + 3) x = mw M 133 44 (44 + 4 * (k + 1)) (fun i => if i % 4 = 3 then dim1 (M 133 i) else M 133 i) := by
  funext b i
  by_cases e : b = 133
  · subst e
    rw [mset_self, mw_at, mw_at]
    by_cases e2 : i = 44 + 4 * k + 3
    · subst e2; rw [if_pos rfl, if_pos (by omega), if_pos (by omega), hx]
    · rw [if_neg e2]
      by_cases q : 44 ≤ i ∧ i < 44 + 4 * k
      · rw [if_pos q, if_pos (show 44 ≤ i ∧ i < 44 + 4 * (k + 1) by omega)]
      · rw [if_neg q]
        by_cases q2 : 44 ≤ i ∧ i < 44 + 4 * (k + 1)
        · rw [if_pos q2, if_neg (by omega)]
        · rw [if_neg q2]
  · rw [mset_row e, mw_no e, mw_no e]
theorem memT {S : Int → Int} {v : Vw} (h : WF S v) {k : Int} (h1 : 308 ≤ k) (h2 : k < 548) : 0 ≤ S k ∧ S k ≤ 99 := by
  by_cases e : k < 428
  · have q := wm h.ww (t := 0) (s := 0) (j := k - 308) (by decide) (by decide) (by omega)
    rw [show 308 + 240 * ((0 : Nat) : Int) + 120 * 0 + (k - 308) = k by omega] at q
    rw [q]; exact h.2.2.r9 _
  · have q := wm h.ww (t := 0) (s := 1) (j := k - 428) (by decide) (by decide) (by omega)
    rw [show 308 + 240 * ((0 : Nat) : Int) + 120 * 1 + (k - 428) = k by omega] at q
    rw [q]; exact h.2.2.r13 _
theorem turnT {M : Mem} {v : Vw} (h : WF (M 133) v) : WF (mset (mw (mw M 133 44 (44 + 4 * (v 0 1)) (fun i => if i % 4 = 3 then dim1 (M 133 i) else M 133 i)) 133 308 548 (fun i => imax 0 (M 133 i - 1))) 133 3 (M 133 3 + 1) 133) (fadeV (turnV v)) := by
  have n1 := h.2.2.n1
  refine h.turn fun i => ?_
  rw [mset_self, mw_at, mw_at]
  by_cases a : i = 3
  · rw [if_pos a, if_pos a]
  rw [if_neg a, if_neg a]
  by_cases b : 308 ≤ i ∧ i < 548
  · rw [if_pos b, if_pos b]
  rw [if_neg b, if_neg b]
  by_cases c : 44 ≤ i ∧ i < 44 + 4 * v 0 1
  · rw [if_pos c]
    by_cases d : i % 4 = 3
    · rw [if_pos d, if_pos ⟨c.1, c.2, d⟩]
    · rw [if_neg d, if_neg (fun q => d q.2.2)]
  · rw [if_neg c, if_neg (fun q => c ⟨q.1, q.2.1⟩)]
set_option maxHeartbeats 4000000 in
set_option maxRecDepth 100000 in
theorem c_turn (M : Mem) (v : Vw) (h : WF (M 133) v) : CQ mX7_turn 7 [.inr (some 132)] M (fun r M' => r = some (.inl (outV v)) ∧ (∀ a, a ≠ 133 → M' a = M a) ∧ WF (M' 133) (passV v)) := by
  have hv := h.wa
  have hS := h.2.2
  have n0 := hS.n0
  have n1 := hS.n1
  have n2 := hS.n2
  refine CX.of (by decide +kernel) (Nat.le_of_ble_eq_true rfl) [some (.inr (some 132)), none, none, none] rfl ?_
  refine X.iconst dX7_turn_0 ?_
  refine X.istore_n (lv2 := [some (.inr (some 132)), some (.inl 0), none, none]) dX7_turn_1 (Nat.le_of_ble_eq_true rfl) rfl ?_
  refine X.iconst dX7_turn_2 ?_
  refine X.istore_n (lv2 := [some (.inr (some 132)), some (.inl 0), some (.inl 0), none]) dX7_turn_3 (Nat.le_of_ble_eq_true rfl) rfl ?_
  have L4 : ∀ k, 0 ≤ k → k ≤ (v 0 1) → ∀ acc : Int, ∀ x3 : Option AV, acc + cnt (fun k => v 8 k = 1) (v 0 1 - k).toNat k = outV v → VQ mX7_turn 7 4 [some (.inr (some 132)), some (.inl acc), some (.inl k), x3] [] (mw M 133 44 (44 + 4 * k) (fun i => if i % 4 = 3 then dim1 (M 133 i) else M 133 i)) (fun r M' => r = some (.inl (outV v)) ∧ (∀ a, a ≠ 133 → M' a = M a) ∧ WF (M' 133) (passV v)) := by
    refine down_ind 0 (v 0 1) ?_ ?_
    · skip
      intro acc x3 hacc
      rw [cnt_end, Int.add_zero] at hacc
      refine X.iload_n dX7_turn_4 rfl ?_
      refine X.aload_n dX7_turn_5 rfl ?_
      refine X.getR dX7_turn_6 fi_X7_7 sh_132 rfl ?_
      refine X.iconst dX7_turn_9 ?_
      refine X.iald (v := v 0 1) dX7_turn_10 sh_133 (by decide) (by decide) (by first | exact ws_0_1 hv | (rw [mw_at, if_neg (by omega)]; exact ws_0_1 hv)) ?_
      refine X.icmp_ge (tgt := 70) dX7_turn_11 (by decide) ⟨by omega, by omega⟩ ⟨by omega, by omega⟩ (fun h1 => ?_) (fun h => by exfalso; omega)
      refine X.sipush dX7_turn_70 (by decide) ?_
      refine X.istore_n (lv2 := [some (.inr (some 132)), some (.inl acc), some (.inl 308), x3]) dX7_turn_73 (Nat.le_of_ble_eq_true rfl) rfl ?_
      have L74 : ∀ k, 308 ≤ k → k ≤ 548 → ∀ x3 : Option AV, VQ mX7_turn 7 74 [some (.inr (some 132)), some (.inl acc), some (.inl k), x3] [] (mw (mw M 133 44 (44 + 4 * (v 0 1)) (fun i => if i % 4 = 3 then dim1 (M 133 i) else M 133 i)) 133 308 k (fun i => imax 0 (M 133 i - 1))) (fun r M' => r = some (.inl (outV v)) ∧ (∀ a, a ≠ 133 → M' a = M a) ∧ WF (M' 133) (passV v)) := by
        refine down_ind 308 548 ?_ ?_
        · skip
          intro x3
          refine X.iload_n dX7_turn_74 rfl ?_
          refine X.sipush dX7_turn_75 (by decide) ?_
          refine X.icmp_ge (tgt := 110) dX7_turn_78 (by decide) ⟨by omega, by omega⟩ (by decide) (fun h2 => ?_) (fun h => by exfalso; omega)
          refine X.aload_n dX7_turn_110 rfl ?_
          refine X.getR dX7_turn_111 fi_X7_7 sh_132 rfl ?_
          refine X.iconst dX7_turn_114 ?_
          refine X.dup2 dX7_turn_115 ?_
          refine X.iald (v := M 133 3) dX7_turn_116 sh_133 (by decide) (by decide) (by rw [mw_at, if_neg (by omega), mw_at, if_neg (by omega)]) ?_
          refine X.iconst dX7_turn_117 ?_
          refine X.iadd (c := (M 133 3) + 1) dX7_turn_118 rfl ?_
          refine X.iast dX7_turn_119 sh_133 (by decide) (by decide) ?_
          refine X.aload_n dX7_turn_120 rfl ?_
          refine Y.callV (As := []) (rest := []) dX7_turn_121 mk_X7_92 sh_132 (c_mlook (mset (mw (mw M 133 44 (44 + 4 * (v 0 1)) (fun i => if i % 4 = 3 then dim1 (M 133 i) else M 133 i)) 133 308 548 (fun i => imax 0 (M 133 i - 1))) 133 3 ((M 133 3) + 1)) (fadeV (turnV v)) (turnT h)) rfl (by decide) rfl (Nat.le_of_ble_eq_true rfl) (fun r9 M9 h9 => ?_)
          obtain ⟨h90, h9f, h9w⟩ := h9
          subst h90
          refine X.iload_n dX7_turn_124 rfl ?_
          exact Y.iret dX7_turn_125 rfl ⟨congrArg (fun q => some (Sum.inl q : AV)) hacc, fun a ha => by rw [h9f a ha, mset_row ha, mw_no ha, mw_no ha], h9w⟩
        · intro k hk1 hk2 ihk
          intro x3
          have hm0 := memT h hk1 hk2
          refine X.iload_n dX7_turn_74 rfl ?_
          refine X.sipush dX7_turn_75 (by decide) ?_
          refine X.icmp_ge (tgt := 110) dX7_turn_78 (by decide) ⟨by omega, by omega⟩ (by decide) (fun h => by exfalso; omega) (fun h3 => ?_)
          refine X.aload_n dX7_turn_81 rfl ?_
          refine X.getR dX7_turn_82 fi_X7_7 sh_132 rfl ?_
          refine X.iload_n dX7_turn_85 rfl ?_
          refine X.dup2 dX7_turn_86 ?_
          refine X.iald (v := M 133 k) dX7_turn_87 sh_133 (by decide) (by omega) (by rw [mw_at, if_neg (by omega), mw_at, if_neg (by omega)]) ?_
          refine X.aload_n dX7_turn_88 rfl ?_
          refine X.getR dX7_turn_89 fi_X7_7 sh_132 rfl ?_
          refine X.iload_n dX7_turn_92 rfl ?_
          refine X.iald (v := M 133 k) dX7_turn_93 sh_133 (by decide) (by omega) (by rw [mw_at, if_neg (by omega), mw_at, if_neg (by omega)]) ?_
          refine X.if_le (tgt := 101) dX7_turn_94 (by decide) ⟨by omega, by omega⟩ (fun h94 => ?_) (fun h94 => ?_)
          · skip
            refine X.iconst dX7_turn_101 ?_
            refine X.isub (c := (M 133 k) - 0) dX7_turn_102 rfl ?_
            refine X.iast dX7_turn_103 sh_133 (by decide) (by omega) ?_
            refine X.iinc (y := k + 1) (lv2 := [some (.inr (some 132)), some (.inl acc), some (.inl (k + 1)), x3]) dX7_turn_104 rfl rfl rfl ?_
            refine X.goto (tgt := 74) dX7_turn_107 (by decide) ?_
            rw [mw_step (f := fun i => imax 0 (M 133 i - 1)) (by omega) (by have q := (dim_sub hm0.1).2; rw [if_neg (by omega)] at q; exact q)]
            exact ihk x3
          · skip
            refine X.iconst dX7_turn_97 ?_
            refine X.goto (tgt := 102) dX7_turn_98 (by decide) ?_
            refine X.isub (c := (M 133 k) - 1) dX7_turn_102 rfl ?_
            refine X.iast dX7_turn_103 sh_133 (by decide) (by omega) ?_
            refine X.iinc (y := k + 1) (lv2 := [some (.inr (some 132)), some (.inl acc), some (.inl (k + 1)), x3]) dX7_turn_104 rfl rfl rfl ?_
            refine X.goto (tgt := 74) dX7_turn_107 (by decide) ?_
            rw [mw_step (f := fun i => imax 0 (M 133 i - 1)) (by omega) (by have q := (dim_sub hm0.1).2; rw [if_pos h94] at q; exact q)]
            exact ihk x3
      have e := L74 308 (by omega) (by omega) x3
      rw [mw_0 (by omega)] at e
      exact e
    · intro k hk1 hk2 ihk
      intro acc x3 hacc
      have q8 := hS.r8 k
      rw [cnt_step _ _ _ hk2] at hacc
      have hv1 : WA ((mw M 133 44 (44 + 4 * k) (fun i => if i % 4 = 3 then dim1 (M 133 i) else M 133 i)) 133) v ∨ True := Or.inr trivial
      refine X.iload_n dX7_turn_4 rfl ?_
      refine X.aload_n dX7_turn_5 rfl ?_
      refine X.getR dX7_turn_6 fi_X7_7 sh_132 rfl ?_
      refine X.iconst dX7_turn_9 ?_
      refine X.iald (v := v 0 1) dX7_turn_10 sh_133 (by decide) (by decide) (by first | exact ws_0_1 hv | (rw [mw_at, if_neg (by omega)]; exact ws_0_1 hv)) ?_
      refine X.icmp_ge (tgt := 70) dX7_turn_11 (by decide) ⟨by omega, by omega⟩ ⟨by omega, by omega⟩ (fun h => by exfalso; omega) (fun h4 => ?_)
      refine X.bipush dX7_turn_14 (by decide) ?_
      refine X.iconst dX7_turn_16 ?_
      refine X.iload_n dX7_turn_17 rfl ?_
      refine X.imul (c := 4 * k) dX7_turn_18 rfl ?_
      refine X.iadd (c := 44 + (4 * k)) dX7_turn_19 rfl ?_
      refine X.iconst dX7_turn_20 ?_
      refine X.iadd (c := (44 + (4 * k)) + 3) dX7_turn_21 rfl ?_
      refine X.istore_n (lv2 := [some (.inr (some 132)), some (.inl acc), some (.inl k), some (.inl ((44 + (4 * k)) + 3))]) dX7_turn_22 (Nat.le_of_ble_eq_true rfl) rfl ?_
      refine X.iload_n dX7_turn_23 rfl ?_
      refine X.aload_n dX7_turn_24 rfl ?_
      refine X.getR dX7_turn_25 fi_X7_7 sh_132 rfl ?_
      refine X.iload_n dX7_turn_28 rfl ?_
      refine X.iald (v := v 8 k) dX7_turn_29 sh_133 (by decide) (by omega) (by rw [mw_at, if_neg (by omega)]; exact ws_8 hv (by omega)) ?_
      refine X.iconst dX7_turn_30 ?_
      refine X.icmp_ne (tgt := 38) dX7_turn_31 (by decide) ⟨by omega, by omega⟩ (by decide) (fun h31 => ?_) (fun h31 => ?_)
      · skip
        refine X.iconst dX7_turn_38 ?_
        refine X.iadd (c := acc + 0) dX7_turn_39 rfl ?_
        refine X.istore_n (lv2 := [some (.inr (some 132)), some (.inl (acc + 0)), some (.inl k), some (.inl ((44 + (4 * k)) + 3))]) dX7_turn_40 (Nat.le_of_ble_eq_true rfl) rfl ?_
        refine X.aload_n dX7_turn_41 rfl ?_
        refine X.getR dX7_turn_42 fi_X7_7 sh_132 rfl ?_
        refine X.iload_n dX7_turn_45 rfl ?_
        refine X.dup2 dX7_turn_46 ?_
        refine X.iald (v := v 8 k) dX7_turn_47 sh_133 (by decide) (by omega) (by rw [mw_at, if_neg (by omega)]; exact ws_8 hv (by omega)) ?_
        refine X.aload_n dX7_turn_48 rfl ?_
        refine X.getR dX7_turn_49 fi_X7_7 sh_132 rfl ?_
        refine X.iload_n dX7_turn_52 rfl ?_
        refine X.iald (v := v 8 k) dX7_turn_53 sh_133 (by decide) (by omega) (by rw [mw_at, if_neg (by omega)]; exact ws_8 hv (by omega)) ?_
        refine X.if_le (tgt := 61) dX7_turn_54 (by decide) ⟨by omega, by omega⟩ (fun h54 => ?_) (fun h54 => ?_)
        · skip
          refine X.iconst dX7_turn_61 ?_
          refine X.isub (c := (v 8 k) - 0) dX7_turn_62 rfl ?_
          refine X.iast dX7_turn_63 sh_133 (by decide) (by omega) ?_
          refine X.iinc (y := k + 1) (lv2 := [some (.inr (some 132)), some (.inl (acc + 0)), some (.inl (k + 1)), some (.inl ((44 + (4 * k)) + 3))]) dX7_turn_64 rfl rfl rfl ?_
          refine X.goto (tgt := 4) dX7_turn_67 (by decide) ?_
          rw [lightT (M := M) hk1 (by rw [ws_8 hv ⟨hk1, hk2⟩]; have q := (dim_sub (hS.r8 k).1).1; rw [if_neg (by omega)] at q; exact q)]
          exact ihk (acc + 0) (some (.inl ((44 + (4 * k)) + 3))) (by rw [bi_f h31, ← Int.add_assoc] at hacc; exact hacc)
        · skip
          refine X.iconst dX7_turn_57 ?_
          refine X.goto (tgt := 62) dX7_turn_58 (by decide) ?_
          refine X.isub (c := (v 8 k) - 1) dX7_turn_62 rfl ?_
          refine X.iast dX7_turn_63 sh_133 (by decide) (by omega) ?_
          refine X.iinc (y := k + 1) (lv2 := [some (.inr (some 132)), some (.inl (acc + 0)), some (.inl (k + 1)), some (.inl ((44 + (4 * k)) + 3))]) dX7_turn_64 rfl rfl rfl ?_
          refine X.goto (tgt := 4) dX7_turn_67 (by decide) ?_
          rw [lightT (M := M) hk1 (by rw [ws_8 hv ⟨hk1, hk2⟩]; have q := (dim_sub (hS.r8 k).1).1; rw [if_pos h54] at q; exact q)]
          exact ihk (acc + 0) (some (.inl ((44 + (4 * k)) + 3))) (by rw [bi_f h31, ← Int.add_assoc] at hacc; exact hacc)
      · skip
        have h31 : v 8 k = 1 := by omega
        refine X.iconst dX7_turn_34 ?_
        refine X.goto (tgt := 39) dX7_turn_35 (by decide) ?_
        refine X.iadd (c := acc + 1) dX7_turn_39 rfl ?_
        refine X.istore_n (lv2 := [some (.inr (some 132)), some (.inl (acc + 1)), some (.inl k), some (.inl ((44 + (4 * k)) + 3))]) dX7_turn_40 (Nat.le_of_ble_eq_true rfl) rfl ?_
        refine X.aload_n dX7_turn_41 rfl ?_
        refine X.getR dX7_turn_42 fi_X7_7 sh_132 rfl ?_
        refine X.iload_n dX7_turn_45 rfl ?_
        refine X.dup2 dX7_turn_46 ?_
        refine X.iald (v := v 8 k) dX7_turn_47 sh_133 (by decide) (by omega) (by rw [mw_at, if_neg (by omega)]; exact ws_8 hv (by omega)) ?_
        refine X.aload_n dX7_turn_48 rfl ?_
        refine X.getR dX7_turn_49 fi_X7_7 sh_132 rfl ?_
        refine X.iload_n dX7_turn_52 rfl ?_
        refine X.iald (v := v 8 k) dX7_turn_53 sh_133 (by decide) (by omega) (by rw [mw_at, if_neg (by omega)]; exact ws_8 hv (by omega)) ?_
        refine X.if_le (tgt := 61) dX7_turn_54 (by decide) ⟨by omega, by omega⟩ (fun h54 => ?_) (fun h54 => ?_)
        · skip
          refine X.iconst dX7_turn_61 ?_
          refine X.isub (c := (v 8 k) - 0) dX7_turn_62 rfl ?_
          refine X.iast dX7_turn_63 sh_133 (by decide) (by omega) ?_
          refine X.iinc (y := k + 1) (lv2 := [some (.inr (some 132)), some (.inl (acc + 1)), some (.inl (k + 1)), some (.inl ((44 + (4 * k)) + 3))]) dX7_turn_64 rfl rfl rfl ?_
          refine X.goto (tgt := 4) dX7_turn_67 (by decide) ?_
          rw [lightT (M := M) hk1 (by rw [ws_8 hv ⟨hk1, hk2⟩]; have q := (dim_sub (hS.r8 k).1).1; rw [if_neg (by omega)] at q; exact q)]
          exact ihk (acc + 1) (some (.inl ((44 + (4 * k)) + 3))) (by rw [bi_t h31, ← Int.add_assoc] at hacc; exact hacc)
        · skip
          refine X.iconst dX7_turn_57 ?_
          refine X.goto (tgt := 62) dX7_turn_58 (by decide) ?_
          refine X.isub (c := (v 8 k) - 1) dX7_turn_62 rfl ?_
          refine X.iast dX7_turn_63 sh_133 (by decide) (by omega) ?_
          refine X.iinc (y := k + 1) (lv2 := [some (.inr (some 132)), some (.inl (acc + 1)), some (.inl (k + 1)), some (.inl ((44 + (4 * k)) + 3))]) dX7_turn_64 rfl rfl rfl ?_
          refine X.goto (tgt := 4) dX7_turn_67 (by decide) ?_
          rw [lightT (M := M) hk1 (by rw [ws_8 hv ⟨hk1, hk2⟩]; have q := (dim_sub (hS.r8 k).1).1; rw [if_pos h54] at q; exact q)]
          exact ihk (acc + 1) (some (.inl ((44 + (4 * k)) + 3))) (by rw [bi_t h31, ← Int.add_assoc] at hacc; exact hacc)
  have e := L4 0 (by omega) (by omega) 0 none (by rw [Int.sub_zero, Int.zero_add]; exact out_cnt (fun k => (hS.r8 k).1) _ _)
  rw [mw_0 (by omega)] at e
  exact e
