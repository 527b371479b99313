set_option maxHeartbeats 4000000 in
set_option maxRecDepth 100000 in
theorem c_here (M : Mem) (n : Int) (T : Int → Int) (i : Int) (hT : TX M n T) (hi : M 132 7 = i) (h0 : 0 ≤ i ∧ i ≤ n) : CQ mX7_here 0 [.inr (some 132)] M (HQ M n T i) := by
  have hn := hT.2.1
  refine CX.of (by decide +kernel) (Nat.le_of_ble_eq_true rfl) [some (.inr (some 132))] rfl ?_
  have L0 : ∀ k, i ≤ k → k ≤ n → (∀ q, i ≤ q → q < k → T q = 32) → VQ mX7_here 0 0 [some (.inr (some 132))] [] (mset M 132 7 k) (HQ M n T i) := by
    refine down_ind i n ?_ ?_
    · skip
      intro hq
      refine X.aload_n dX7_here_0 rfl ?_
      refine X.getI (v := n) 7 dX7_here_1 fi_X7_104 sh_132 rfl mset_at ?_
      refine X.aload_n dX7_here_4 rfl ?_
      refine X.getI (v := n) 6 dX7_here_5 fi_X7_101 sh_132 rfl ((mset_ne (by omega)).trans hT.1) ?_
      refine X.icmp_ge (tgt := 38) dX7_here_8 (by decide) ⟨by omega, by omega⟩ ⟨by omega, by omega⟩ (fun h1 => ?_) (fun h => by exfalso; omega)
      refine X.aload_n dX7_here_38 rfl ?_
      refine X.getI (v := n) 7 dX7_here_39 fi_X7_104 sh_132 rfl mset_at ?_
      refine X.aload_n dX7_here_42 rfl ?_
      refine X.getI (v := n) 6 dX7_here_43 fi_X7_101 sh_132 rfl ((mset_ne (by omega)).trans hT.1) ?_
      refine X.icmp_ge (tgt := 61) dX7_here_46 (by decide) ⟨by omega, by omega⟩ ⟨by omega, by omega⟩ (fun h2 => ?_) (fun h => by exfalso; omega)
      refine X.iconst dX7_here_61 ?_
      exact Y.iret dX7_here_62 rfl ⟨n, ⟨by omega, by omega⟩, rfl, by rw [if_neg (by omega)], fun q => by omega, hq⟩
    · intro k hk1 hk2 ihk
      intro hq
      have htk := hT.2.2.2 k
      refine X.aload_n dX7_here_0 rfl ?_
      refine X.getI (v := k) 7 dX7_here_1 fi_X7_104 sh_132 rfl mset_at ?_
      refine X.aload_n dX7_here_4 rfl ?_
      refine X.getI (v := n) 6 dX7_here_5 fi_X7_101 sh_132 rfl ((mset_ne (by omega)).trans hT.1) ?_
      refine X.icmp_ge (tgt := 38) dX7_here_8 (by decide) ⟨by omega, by omega⟩ ⟨by omega, by omega⟩ (fun h => by exfalso; omega) (fun h3 => ?_)
      refine X.aload_n dX7_here_11 rfl ?_
      refine X.getR dX7_here_12 fi_X7_19 sh_132 rfl ?_
      refine X.aload_n dX7_here_15 rfl ?_
      refine X.getI (v := k) 7 dX7_here_16 fi_X7_104 sh_132 rfl mset_at ?_
      refine X.iald (v := T k) dX7_here_19 sh_136 (by decide) (by omega) ((congrFun (mset_row (by decide)) k).trans (hT.2.2.1 k ⟨by omega, by omega⟩)) ?_
      refine X.bipush dX7_here_20 (by decide) ?_
      refine X.icmp_ne (tgt := 38) dX7_here_22 (by decide) ⟨by omega, by omega⟩ (by decide) (fun h22 => ?_) (fun h22 => ?_)
      · skip
        refine X.aload_n dX7_here_38 rfl ?_
        refine X.getI (v := k) 7 dX7_here_39 fi_X7_104 sh_132 rfl mset_at ?_
        refine X.aload_n dX7_here_42 rfl ?_
        refine X.getI (v := n) 6 dX7_here_43 fi_X7_101 sh_132 rfl ((mset_ne (by omega)).trans hT.1) ?_
        refine X.icmp_ge (tgt := 61) dX7_here_46 (by decide) ⟨by omega, by omega⟩ ⟨by omega, by omega⟩ (fun h => by exfalso; omega) (fun h4 => ?_)
        refine X.aload_n dX7_here_49 rfl ?_
        refine X.getR dX7_here_50 fi_X7_19 sh_132 rfl ?_
        refine X.aload_n dX7_here_53 rfl ?_
        refine X.getI (v := k) 7 dX7_here_54 fi_X7_104 sh_132 rfl mset_at ?_
        refine X.iald (v := T k) dX7_here_57 sh_136 (by decide) (by omega) ((congrFun (mset_row (by decide)) k).trans (hT.2.2.1 k ⟨by omega, by omega⟩)) ?_
        refine X.goto (tgt := 62) dX7_here_58 (by decide) ?_
        exact Y.iret dX7_here_62 rfl ⟨k, ⟨by omega, by omega⟩, rfl, by rw [if_pos (by omega)], fun q => h22, hq⟩
      · skip
        have h22 : T k = 32 := by omega
        refine X.aload_n dX7_here_25 rfl ?_
        refine X.dup dX7_here_26 ?_
        refine X.getI (v := k) 7 dX7_here_27 fi_X7_104 sh_132 rfl mset_at ?_
        refine X.iconst dX7_here_30 ?_
        refine X.iadd (c := k + 1) dX7_here_31 rfl ?_
        refine X.putI 7 7 rfl dX7_here_32 fi_X7_104 sh_132 rfl rfl ?_
        refine X.goto (tgt := 0) dX7_here_35 (by decide) ?_
        rw [mset_mset]
        exact ihk (fun q a b => (Classical.em (q = k)).elim (fun e => by rw [e]; exact h22) (fun e => hq q a (by omega)))
  have e := L0 i (by omega) (by omega) (fun q a b => by omega)
  rw [mset_same hi] at e
  exact e
theorem here_at {M M' : Mem} {n i : Int} {T : Int → Int} {o : Option AV} (h : HQ M n T i o M') (hi : M 132 7 = i) (h32 : i < n → T i ≠ 32) : M' = M ∧ o = some (.inl (if i < n then T i else -1)) := by
  obtain ⟨j, hj, hM, ho, -, hs⟩ := h
  have ej : j = i := Classical.byContradiction fun q => h32 (by omega) (hs i (Int.le_refl _) (by omega))
  rw [ej] at hM ho
  exact ⟨hM.trans (mset_same hi), ho⟩
theorem c_here_t (M : Mem) (n : Int) (T : Int → Int) (i : Int) (hT : TX M n T) (hi : M 132 7 = i) (h0 : 0 ≤ i) (hn : i < n) (h32 : T i ≠ 32) : CX mX7_here 0 [.inr (some 132)] M (some (.inl (T i))) M :=
  (c_here M n T i hT hi ⟨h0, by omega⟩).mono fun r M' q => by have e := here_at q hi (fun _ => h32); rw [if_pos hn] at e; exact ⟨e.2, e.1⟩
theorem c_here_f (M : Mem) (n : Int) (T : Int → Int) (i : Int) (hT : TX M n T) (hi : M 132 7 = i) (h0 : 0 ≤ i ∧ i ≤ n) (hn : ¬ i < n) : CX mX7_here 0 [.inr (some 132)] M (some (.inl (-1))) M :=
  (c_here M n T i hT hi h0).mono fun r M' q => by have e := here_at q hi (fun z => absurd z hn); rw [if_neg hn] at e; exact ⟨e.2, e.1⟩
set_option maxHeartbeats 4000000 in
set_option maxRecDepth 100000 in
theorem c_readsCell (M : Mem) (v : Vw) (g : Int → Int) (n : Int) (T : Int → Int) (i c r : Int) (hT : TX M n T) (hP : PA M v g i c r) (h0 : 0 ≤ i ∧ i ≤ n) (hc : 0 ≤ c ∧ c ≤ 12) (hr : 0 ≤ r ∧ r ≤ 9) (hSv : SI v) (h32 : i < n → T i ≠ 32) : CQ mX7_readsCell 3 [.inr (some 132), .inl c, .inl r] M (CQ1 M v g n T i c r) := by
  have hti := hT.2.2.2 i
  have hsi := sIn_range hSv (r * 12 + c)
  have n0 := hSv.n0
  refine CX.of (by decide +kernel) (Nat.le_of_ble_eq_true rfl) [some (.inr (some 132)), some (.inl c), some (.inl r), none, none] rfl ?_
  by_cases hin : i < n
  · skip
    refine X.aload_n dX7_readsCell_0 rfl ?_
    refine X.callV1 (As := []) (rest := []) dX7_readsCell_1 mk_X7_107 sh_132 (c_here_t M n T i hT hP.1 h0.1 hin (h32 hin)) rfl (by decide) rfl (Nat.le_of_ble_eq_true rfl) ?_
    refine X.istore_n (lv2 := [some (.inr (some 132)), some (.inl c), some (.inl r), some (.inl (T i)), none]) dX7_readsCell_4 (Nat.le_of_ble_eq_true rfl) rfl ?_
    refine X.iload_n dX7_readsCell_5 rfl ?_
    refine X.bipush dX7_readsCell_6 (by decide) ?_
    refine X.icmp_eq (tgt := 28) dX7_readsCell_8 (by decide) ⟨by omega, by omega⟩ (by decide) (fun h1 => ?_) (fun h1 => ?_)
    · skip
      refine X.iconst dX7_readsCell_28 ?_
      exact Y.zret dX7_readsCell_29 rfl (by decide) (Or.inr ⟨rfl, rfl, fun q => by have q1 := q.2.1; rcases q.2.2 with ⟨q2, q3⟩ | ⟨q2, q3, q4⟩ <;> omega⟩)
    · skip
      refine X.iload_n dX7_readsCell_11 rfl ?_
      refine X.bipush dX7_readsCell_12 (by decide) ?_
      refine X.icmp_eq (tgt := 30) dX7_readsCell_14 (by decide) ⟨by omega, by omega⟩ (by decide) (fun h14 => ?_) (fun h14 => ?_)
      · skip
        refine X.iload_n dX7_readsCell_30 rfl ?_
        refine X.iload_n dX7_readsCell_31 rfl ?_
        refine X.callS1 (As := [.inl c, .inl r]) (rest := []) dX7_readsCell_32 mk_X7_46 (c_at M c r) rfl (by decide) rfl (Nat.le_of_ble_eq_true rfl) ?_
        refine X.istore (lv2 := [some (.inr (some 132)), some (.inl c), some (.inl r), some (.inl (T i)), some (.inl (r * 12 + c))]) dX7_readsCell_35 (Nat.le_of_ble_eq_true rfl) rfl ?_
        refine X.iload_n dX7_readsCell_37 rfl ?_
        refine X.bipush dX7_readsCell_38 (by decide) ?_
        refine X.icmp_ne (tgt := 56) dX7_readsCell_40 (by decide) ⟨by omega, by omega⟩ (by decide) (fun h => by exfalso; omega) (fun h2 => ?_)
        refine X.aload_n dX7_readsCell_43 rfl ?_
        refine X.iload dX7_readsCell_44 rfl ?_
        refine X.callV1 (As := [.inl (r * 12 + c)]) (rest := []) dX7_readsCell_46 mk_X7_83 sh_132 (show CX mX7_scoutIn 2 [.inr (some 132), .inl (r * 12 + c)] M (some (.inl (sIn v (r * 12 + c)))) M from c_mscoutIn M (tellV g v) hP.2.1.wa hP.2.1.2.2 (r * 12 + c) ⟨by omega, by omega⟩) rfl (by decide) rfl (Nat.le_of_ble_eq_true rfl) ?_
        refine X.bipush dX7_readsCell_49 (by decide) ?_
        refine X.icmp_eq (tgt := 56) dX7_readsCell_51 (by decide) ⟨by omega, by omega⟩ (by decide) (fun h3 => ?_) (fun h3 => ?_)
        · skip
          refine X.aload_n dX7_readsCell_56 rfl ?_
          refine X.getR dX7_readsCell_57 fi_X7_7 sh_132 rfl ?_
          refine X.sipush dX7_readsCell_60 (by decide) ?_
          refine X.iload dX7_readsCell_63 rfl ?_
          refine X.iadd (c := 188 + (r * 12 + c)) dX7_readsCell_65 rfl ?_
          refine X.iload_n dX7_readsCell_66 rfl ?_
          refine X.bipush dX7_readsCell_67 (by decide) ?_
          refine X.icmp_ne (tgt := 76) dX7_readsCell_69 (by decide) ⟨by omega, by omega⟩ (by decide) (fun h => by exfalso; omega) (fun h4 => ?_)
          refine X.iconst dX7_readsCell_72 ?_
          refine X.goto (tgt := 77) dX7_readsCell_73 (by decide) ?_
          refine X.iast dX7_readsCell_77 sh_133 (by decide) (by omega) ?_
          refine X.aload_n dX7_readsCell_78 rfl ?_
          refine X.getR dX7_readsCell_79 fi_X7_7 sh_132 rfl ?_
          refine X.bipush dX7_readsCell_82 (by decide) ?_
          refine X.iload dX7_readsCell_84 rfl ?_
          refine X.iadd (c := 68 + (r * 12 + c)) dX7_readsCell_86 rfl ?_
          refine X.iload_n dX7_readsCell_87 rfl ?_
          refine X.bipush dX7_readsCell_88 (by decide) ?_
          refine X.icmp_ne (tgt := 106) dX7_readsCell_90 (by decide) ⟨by omega, by omega⟩ (by decide) (fun h => by exfalso; omega) (fun h5 => ?_)
          refine X.aload_n dX7_readsCell_93 rfl ?_
          refine X.getR dX7_readsCell_94 fi_X7_7 sh_132 rfl ?_
          refine X.bipush dX7_readsCell_97 (by decide) ?_
          refine X.iload dX7_readsCell_99 rfl ?_
          refine X.iadd (c := 68 + (r * 12 + c)) dX7_readsCell_101 rfl ?_
          refine X.iald (v := tellV g v 1 (r * 12 + c)) dX7_readsCell_102 sh_133 (by decide) (by omega) ((mset_ne (by omega)).trans (ws_1 hP.2.1.wa (by omega))) ?_
          refine X.goto (tgt := 110) dX7_readsCell_103 (by decide) ?_
          refine X.iast dX7_readsCell_110 sh_133 (by decide) (by omega) ?_
          refine X.aload_n dX7_readsCell_111 rfl ?_
          refine X.dup dX7_readsCell_112 ?_
          refine X.getI (v := i) 7 dX7_readsCell_113 fi_X7_104 sh_132 rfl ((congrFun (mset_row (by decide)) 7).trans ((congrFun (mset_row (by decide)) 7).trans hP.1)) ?_
          refine X.iconst dX7_readsCell_116 ?_
          refine X.iadd (c := i + 1) dX7_readsCell_117 rfl ?_
          refine X.putI 7 7 rfl dX7_readsCell_118 fi_X7_104 sh_132 rfl rfl ?_
          refine X.iconst dX7_readsCell_121 ?_
          exact Y.zret dX7_readsCell_122 rfl (by decide) (Or.inl ⟨rfl, hin, (show alw v (T i) c r from ⟨by omega, Or.inl ⟨h14, by omega⟩⟩), (FRM.row.trans FRM.row).trans FRM.next, hP.read hSv (by omega) hr rfl (show alw v (T i) c r from ⟨by omega, Or.inl ⟨h14, by omega⟩⟩) (by rw [if_pos h14]) (by rw [if_pos h14]) rfl rfl⟩)
        · skip
          refine X.iconst dX7_readsCell_54 ?_
          exact Y.zret dX7_readsCell_55 rfl (by decide) (Or.inr ⟨rfl, rfl, fun q => by have q1 := q.2.1; rcases q.2.2 with ⟨q2, q3⟩ | ⟨q2, q3, q4⟩ <;> omega⟩)
      · skip
        refine X.iload_n dX7_readsCell_17 rfl ?_
        refine X.bipush dX7_readsCell_18 (by decide) ?_
        refine X.bipush dX7_readsCell_20 (by decide) ?_
        by_cases hd : 48 ≤ T i ∧ T i ≤ 57
        · skip
          refine X.callS1 (As := [.inl (T i), .inl 48, .inl 57]) (rest := []) dX7_readsCell_22 mk_X7_32 (CX.bt (c_in M (T i) 48 57 ⟨by omega, by omega⟩ (by decide) (by decide)) hd) rfl (by decide) rfl (Nat.le_of_ble_eq_true rfl) ?_
          refine X.if_ne (tgt := 30) dX7_readsCell_25 (by decide) (by decide) (fun h6 => ?_) (fun h => absurd h (by decide))
          refine X.iload_n dX7_readsCell_30 rfl ?_
          refine X.iload_n dX7_readsCell_31 rfl ?_
          refine X.callS1 (As := [.inl c, .inl r]) (rest := []) dX7_readsCell_32 mk_X7_46 (c_at M c r) rfl (by decide) rfl (Nat.le_of_ble_eq_true rfl) ?_
          refine X.istore (lv2 := [some (.inr (some 132)), some (.inl c), some (.inl r), some (.inl (T i)), some (.inl (r * 12 + c))]) dX7_readsCell_35 (Nat.le_of_ble_eq_true rfl) rfl ?_
          refine X.iload_n dX7_readsCell_37 rfl ?_
          refine X.bipush dX7_readsCell_38 (by decide) ?_
          refine X.icmp_ne (tgt := 56) dX7_readsCell_40 (by decide) ⟨by omega, by omega⟩ (by decide) (fun h7 => ?_) (fun h => by exfalso; omega)
          refine X.aload_n dX7_readsCell_56 rfl ?_
          refine X.getR dX7_readsCell_57 fi_X7_7 sh_132 rfl ?_
          refine X.sipush dX7_readsCell_60 (by decide) ?_
          refine X.iload dX7_readsCell_63 rfl ?_
          refine X.iadd (c := 188 + (r * 12 + c)) dX7_readsCell_65 rfl ?_
          refine X.iload_n dX7_readsCell_66 rfl ?_
          refine X.bipush dX7_readsCell_67 (by decide) ?_
          refine X.icmp_ne (tgt := 76) dX7_readsCell_69 (by decide) ⟨by omega, by omega⟩ (by decide) (fun h8 => ?_) (fun h => by exfalso; omega)
          refine X.iconst dX7_readsCell_76 ?_
          refine X.iast dX7_readsCell_77 sh_133 (by decide) (by omega) ?_
          refine X.aload_n dX7_readsCell_78 rfl ?_
          refine X.getR dX7_readsCell_79 fi_X7_7 sh_132 rfl ?_
          refine X.bipush dX7_readsCell_82 (by decide) ?_
          refine X.iload dX7_readsCell_84 rfl ?_
          refine X.iadd (c := 68 + (r * 12 + c)) dX7_readsCell_86 rfl ?_
          refine X.iload_n dX7_readsCell_87 rfl ?_
          refine X.bipush dX7_readsCell_88 (by decide) ?_
          refine X.icmp_ne (tgt := 106) dX7_readsCell_90 (by decide) ⟨by omega, by omega⟩ (by decide) (fun h9 => ?_) (fun h => by exfalso; omega)
          refine X.iload_n dX7_readsCell_106 rfl ?_
          refine X.bipush dX7_readsCell_107 (by decide) ?_
          refine X.isub (c := (T i) - 48) dX7_readsCell_109 rfl ?_
          refine X.iast dX7_readsCell_110 sh_133 (by decide) (by omega) ?_
          refine X.aload_n dX7_readsCell_111 rfl ?_
          refine X.dup dX7_readsCell_112 ?_
          refine X.getI (v := i) 7 dX7_readsCell_113 fi_X7_104 sh_132 rfl ((congrFun (mset_row (by decide)) 7).trans ((congrFun (mset_row (by decide)) 7).trans hP.1)) ?_
          refine X.iconst dX7_readsCell_116 ?_
          refine X.iadd (c := i + 1) dX7_readsCell_117 rfl ?_
          refine X.putI 7 7 rfl dX7_readsCell_118 fi_X7_104 sh_132 rfl rfl ?_
          refine X.iconst dX7_readsCell_121 ?_
          exact Y.zret dX7_readsCell_122 rfl (by decide) (Or.inl ⟨rfl, hin, (show alw v (T i) c r from ⟨by omega, Or.inr ⟨h14, by omega, by omega⟩⟩), (FRM.row.trans FRM.row).trans FRM.next, hP.read hSv (by omega) hr rfl (show alw v (T i) c r from ⟨by omega, Or.inr ⟨h14, by omega, by omega⟩⟩) (by rw [if_neg h14]) (by rw [if_neg h14]) rfl rfl⟩)
        · skip
          refine X.callS1 (As := [.inl (T i), .inl 48, .inl 57]) (rest := []) dX7_readsCell_22 mk_X7_32 (CX.bf (c_in M (T i) 48 57 ⟨by omega, by omega⟩ (by decide) (by decide)) hd) rfl (by decide) rfl (Nat.le_of_ble_eq_true rfl) ?_
          refine X.if_ne (tgt := 30) dX7_readsCell_25 (by decide) (by decide) (fun h => absurd h (by decide)) (fun h10 => ?_)
          refine X.iconst dX7_readsCell_28 ?_
          exact Y.zret dX7_readsCell_29 rfl (by decide) (Or.inr ⟨rfl, rfl, fun q => by have q1 := q.2.1; rcases q.2.2 with ⟨q2, q3⟩ | ⟨q2, q3, q4⟩ <;> omega⟩)
  · skip
    refine X.aload_n dX7_readsCell_0 rfl ?_
    refine X.callV1 (As := []) (rest := []) dX7_readsCell_1 mk_X7_107 sh_132 (c_here_f M n T i hT hP.1 h0 hin) rfl (by decide) rfl (Nat.le_of_ble_eq_true rfl) ?_
    refine X.istore_n (lv2 := [some (.inr (some 132)), some (.inl c), some (.inl r), some (.inl (-1)), none]) dX7_readsCell_4 (Nat.le_of_ble_eq_true rfl) rfl ?_
    refine X.iload_n dX7_readsCell_5 rfl ?_
    refine X.bipush dX7_readsCell_6 (by decide) ?_
    refine X.icmp_eq (tgt := 28) dX7_readsCell_8 (by decide) ⟨by omega, by omega⟩ (by decide) (fun h11 => ?_) (fun h11 => ?_)
    · skip
      refine X.iconst dX7_readsCell_28 ?_
      exact Y.zret dX7_readsCell_29 rfl (by decide) (Or.inr ⟨rfl, rfl, fun q => absurd q.1 hin⟩)
    · skip
      refine X.iload_n dX7_readsCell_11 rfl ?_
      refine X.bipush dX7_readsCell_12 (by decide) ?_
      refine X.icmp_eq (tgt := 30) dX7_readsCell_14 (by decide) (by decide) (by decide) (fun h => absurd h (by decide)) (fun h14 => ?_)
      refine X.iload_n dX7_readsCell_17 rfl ?_
      refine X.bipush dX7_readsCell_18 (by decide) ?_
      refine X.bipush dX7_readsCell_20 (by decide) ?_
      refine X.callS1 (As := [.inl (-1), .inl 48, .inl 57]) (rest := []) dX7_readsCell_22 mk_X7_32 (CX.bf (c_in M (-1) 48 57 (by decide) (by decide) (by decide)) (by decide)) rfl (by decide) rfl (Nat.le_of_ble_eq_true rfl) ?_
      refine X.if_ne (tgt := 30) dX7_readsCell_25 (by decide) (by decide) (fun h => absurd h (by decide)) (fun h12 => ?_)
      refine X.iconst dX7_readsCell_28 ?_
      exact Y.zret dX7_readsCell_29 rfl (by decide) (Or.inr ⟨rfl, rfl, fun q => absurd q.1 hin⟩)
theorem c_readsCell_t (M : Mem) (v : Vw) (g : Int → Int) (n : Int) (T : Int → Int) (i c r : Int) (hT : TX M n T) (hP : PA M v g i c r) (h0 : 0 ≤ i ∧ i ≤ n) (hc : 0 ≤ c ∧ c ≤ 12) (hr : 0 ≤ r ∧ r ≤ 9) (hSv : SI v) (h32 : i < n → T i ≠ 32) (ha : i < n ∧ alw v (T i) c r) : CQ mX7_readsCell 3 [.inr (some 132), .inl c, .inl r] M (fun o M' => o = some (.inl 1) ∧ FRM M M' ∧ PA M' v (fun j => if j = r * 12 + c then tval (T i) else g j) (i + 1) (c + 1) r) :=
  (c_readsCell M v g n T i c r hT hP h0 hc hr hSv h32).mono fun o M' q => by
    rcases q with ⟨q1, -, -, q2, q3⟩ | ⟨-, -, q⟩
    · exact ⟨q1, q2, q3⟩
    · exact absurd ha q
theorem c_readsCell_f (M : Mem) (v : Vw) (g : Int → Int) (n : Int) (T : Int → Int) (i c r : Int) (hT : TX M n T) (hP : PA M v g i c r) (h0 : 0 ≤ i ∧ i ≤ n) (hc : 0 ≤ c ∧ c ≤ 12) (hr : 0 ≤ r ∧ r ≤ 9) (hSv : SI v) (h32 : i < n → T i ≠ 32) (ha : ¬ (i < n ∧ alw v (T i) c r)) : CX mX7_readsCell 3 [.inr (some 132), .inl c, .inl r] M (some (.inl 0)) M :=
  (c_readsCell M v g n T i c r hT hP h0 hc hr hSv h32).mono fun o M' q => by
    rcases q with ⟨-, q1, q2, -⟩ | ⟨q1, q2, -⟩
    · exact absurd ⟨q1, q2⟩ ha
    · exact ⟨q1, q2⟩
set_option maxHeartbeats 4000000 in
set_option maxRecDepth 100000 in
theorem c_readsRow (M : Mem) (v : Vw) (g : Int → Int) (n : Int) (T : Int → Int) (i r : Int) (hT : TX M n T) (hP : PA M v g i 0 r) (h0 : 0 ≤ i ∧ i < n) (h32 : T i ≠ 32) (hr : 0 ≤ r ∧ r ≤ 10) (hSv : SI v) : CQ mX7_readsRow 4 [.inr (some 132), .inl r] M (RQ1 M v n T r (rdT T v n (n - i).toNat i 0 r g)) := by
  have hti := hT.2.2.2 i
  have hnn := hT.2.1
  refine CX.of (by decide +kernel) (Nat.le_of_ble_eq_true rfl) [some (.inr (some 132)), some (.inl r), none] rfl ?_
  refine X.iload_n dX7_readsRow_0 rfl ?_
  refine X.bipush dX7_readsRow_1 (by decide) ?_
  refine X.icmp_ne (tgt := 8) dX7_readsRow_3 (by decide) ⟨by omega, by omega⟩ (by decide) (fun h1 => ?_) (fun h1 => ?_)
  · skip
    refine X.iconst dX7_readsRow_8 ?_
    refine X.istore_n (lv2 := [some (.inr (some 132)), some (.inl r), some (.inl 0)]) dX7_readsRow_9 (Nat.le_of_ble_eq_true rfl) rfl ?_
    have L10 : ∀ c, 0 ≤ c → c ≤ 12 → ∀ (M2 : Mem) (g2 : Int → Int) (i2 : Int), FRM M M2 → PA M2 v g2 i2 c r → (0 ≤ i2 ∧ i2 ≤ n) → (c = 0 → i2 < n ∧ T i2 ≠ 32) → rdT T v n (n - i).toNat i 0 r g = rdT T v n (n - i2).toNat i2 c r g2 → VQ mX7_readsRow 4 10 [some (.inr (some 132)), some (.inl r), some (.inl c)] [] M2 (RQ1 M v n T r (rdT T v n (n - i).toNat i 0 r g)) := by
      refine down_ind 0 12 ?_ ?_
      · skip
        intro M2 g2 i2 hF2 hP2 hi2 h00 hRR
        refine X.aload_n dX7_readsRow_10 rfl ?_
        refine Y.callV (As := []) (rest := []) dX7_readsRow_11 mk_X7_107 sh_132 (c_here M2 n T i2 (hT.frame hF2) hP2.1 hi2) rfl (by decide) rfl (Nat.le_of_ble_eq_true rfl) (fun r9 M9 h9 => ?_)
        obtain ⟨j, hj, hM9, ho, hj32, hsp⟩ := h9
        have hx1 : j < n → (if j < n then T j else -1) = T j := fun q => if_pos q
        have hx2 : ¬ j < n → (if j < n then T j else -1) = -1 := fun q => if_neg q
        generalize (if j < n then T j else -1) = x at ho hx1 hx2
        subst ho hM9
        have htj := hT.2.2.2 j
        refine X.bipush dX7_readsRow_14 (by decide) ?_
        refine X.icmp_eq (tgt := 36) dX7_readsRow_16 (by decide) ⟨by omega, by omega⟩ (by decide) (fun h16 => ?_) (fun h16 => ?_)
        · skip
          refine X.aload_n dX7_readsRow_36 rfl ?_
          refine X.dup dX7_readsRow_37 ?_
          refine X.getI (v := j) 7 dX7_readsRow_38 fi_X7_104 sh_132 rfl mset_at ?_
          refine X.iconst dX7_readsRow_41 ?_
          refine X.iadd (c := j + 1) dX7_readsRow_42 rfl ?_
          refine X.putI 7 7 rfl dX7_readsRow_43 fi_X7_104 sh_132 rfl rfl ?_
          refine X.iconst dX7_readsRow_46 ?_
          exact Y.zret dX7_readsRow_47 rfl (by decide) ⟨(hF2.trans FRM.next).trans FRM.next, Or.inl ⟨rfl, j + 1, g2, (hP2.goto (j := j)).down (by omega), ⟨by omega, by omega⟩, by omega, by rw [hRR, rdT_sp hsp hj.1 hj.2, rdT_step (by omega), if_neg (by omega), if_neg (by omega), if_pos (by omega)]⟩⟩
        · skip
          refine X.aload_n dX7_readsRow_19 rfl ?_
          refine X.iload_n dX7_readsRow_20 rfl ?_
          refine X.iload_n dX7_readsRow_21 rfl ?_
          refine X.callV1 (As := [.inl 12, .inl r]) (rest := []) dX7_readsRow_22 mk_X7_111 sh_132 (c_readsCell_f (mset M2 132 7 j) v g2 n T j 12 r (hT.frame (hF2.trans FRM.next)) hP2.goto (by omega) (by omega) (by omega) hSv hj32 (fun q => by have := q.2.1; omega)) rfl (by decide) rfl (Nat.le_of_ble_eq_true rfl) ?_
          refine X.if_ne (tgt := 30) dX7_readsRow_25 (by decide) (by decide) (fun h => absurd h (by decide)) (fun h2 => ?_)
          refine X.iconst dX7_readsRow_28 ?_
          exact Y.zret dX7_readsRow_29 rfl (by decide) ⟨hF2.trans FRM.next, Or.inr ⟨rfl, by rw [mset_at]; omega, by rw [mset_at, hRR, rdT_sp hsp hj.1 hj.2]; exact (Classical.em (j < n)).elim (fun hjn => by rw [rdT_step hjn, if_neg (hj32 hjn), if_neg (by omega), if_neg (by omega), if_neg (fun q => by have := q.1; omega)]) (fun hjn => by rw [show j = n by omega, rdT_end, if_pos (by decide)])⟩⟩
      · intro c hc1 hc2 ihc
        intro M2 g2 i2 hF2 hP2 hi2 h00 hRR
        refine X.aload_n dX7_readsRow_10 rfl ?_
        refine Y.callV (As := []) (rest := []) dX7_readsRow_11 mk_X7_107 sh_132 (c_here M2 n T i2 (hT.frame hF2) hP2.1 hi2) rfl (by decide) rfl (Nat.le_of_ble_eq_true rfl) (fun r9 M9 h9 => ?_)
        obtain ⟨j, hj, hM9, ho, hj32, hsp⟩ := h9
        have hx1 : j < n → (if j < n then T j else -1) = T j := fun q => if_pos q
        have hx2 : ¬ j < n → (if j < n then T j else -1) = -1 := fun q => if_neg q
        generalize (if j < n then T j else -1) = x at ho hx1 hx2
        subst ho hM9
        have htj := hT.2.2.2 j
        refine X.bipush dX7_readsRow_14 (by decide) ?_
        refine X.icmp_eq (tgt := 36) dX7_readsRow_16 (by decide) ⟨by omega, by omega⟩ (by decide) (fun h16 => ?_) (fun h16 => ?_)
        · skip
          refine X.aload_n dX7_readsRow_36 rfl ?_
          refine X.dup dX7_readsRow_37 ?_
          refine X.getI (v := j) 7 dX7_readsRow_38 fi_X7_104 sh_132 rfl mset_at ?_
          refine X.iconst dX7_readsRow_41 ?_
          refine X.iadd (c := j + 1) dX7_readsRow_42 rfl ?_
          refine X.putI 7 7 rfl dX7_readsRow_43 fi_X7_104 sh_132 rfl rfl ?_
          refine X.iconst dX7_readsRow_46 ?_
          exact Y.zret dX7_readsRow_47 rfl (by decide) ⟨(hF2.trans FRM.next).trans FRM.next, Or.inl ⟨rfl, j + 1, g2, (hP2.goto (j := j)).down (by omega), ⟨by omega, by omega⟩, by omega, by rw [hRR, rdT_sp hsp hj.1 hj.2, rdT_step (by omega), if_neg (by omega), if_neg (by omega), if_pos (by omega)]⟩⟩
        · skip
          refine X.aload_n dX7_readsRow_19 rfl ?_
          refine X.iload_n dX7_readsRow_20 rfl ?_
          refine X.iload_n dX7_readsRow_21 rfl ?_
          by_cases hno : j < n ∧ alw v (T j) c r
          · skip
            refine Y.callV (As := [.inl c, .inl r]) (rest := []) dX7_readsRow_22 mk_X7_111 sh_132 (c_readsCell_t (mset M2 132 7 j) v g2 n T j c r (hT.frame (hF2.trans FRM.next)) hP2.goto (by omega) (by omega) (by omega) hSv hj32 hno) rfl (by decide) rfl (Nat.le_of_ble_eq_true rfl) (fun r9 M9 h9 => ?_)
            obtain ⟨h90, h9f, h9p⟩ := h9
            subst h90
            refine X.if_ne (tgt := 30) dX7_readsRow_25 (by decide) (by decide) (fun h3 => ?_) (fun h => absurd h (by decide))
            refine X.iinc (y := c + 1) (lv2 := [some (.inr (some 132)), some (.inl r), some (.inl (c + 1))]) dX7_readsRow_30 rfl rfl rfl ?_
            refine X.goto (tgt := 10) dX7_readsRow_33 (by decide) ?_
            exact ihc M9 _ (j + 1) ((hF2.trans FRM.next).trans h9f) h9p (by omega) (fun q => by omega) (by rw [hRR, rdT_sp hsp hj.1 hj.2, rdT_step hno.1, if_neg (hj32 hno.1), if_neg (by omega), if_neg (by have := hx1 hno.1; omega), if_pos hno.2])
          · skip
            refine X.callV1 (As := [.inl c, .inl r]) (rest := []) dX7_readsRow_22 mk_X7_111 sh_132 (c_readsCell_f (mset M2 132 7 j) v g2 n T j c r (hT.frame (hF2.trans FRM.next)) hP2.goto (by omega) (by omega) (by omega) hSv hj32 hno) rfl (by decide) rfl (Nat.le_of_ble_eq_true rfl) ?_
            refine X.if_ne (tgt := 30) dX7_readsRow_25 (by decide) (by decide) (fun h => absurd h (by decide)) (fun h4 => ?_)
            refine X.iconst dX7_readsRow_28 ?_
            exact Y.zret dX7_readsRow_29 rfl (by decide) ⟨hF2.trans FRM.next, Or.inr ⟨rfl, by rw [mset_at]; omega, by rw [mset_at, hRR, rdT_sp hsp hj.1 hj.2]; exact (Classical.em (j < n)).elim (fun hjn => by rw [rdT_step hjn, if_neg (hj32 hjn), if_neg (by omega), if_neg (by omega), if_neg (fun q => hno ⟨hjn, q⟩)]) (fun hjn => by rw [show j = n by omega, rdT_end, if_pos (by first | omega | (by_cases hc0 : c = 0 <;> first | omega | (have q := h00 hc0; have q2 := hsp i2 (Int.le_refl _) (by omega); exact absurd q2 q.2)))])⟩⟩
    exact L10 0 (by omega) (by omega) M g i FRM.refl hP (by omega) (fun _ => ⟨h0.2, h32⟩) rfl
  · skip
    refine X.iconst dX7_readsRow_6 ?_
    exact Y.zret dX7_readsRow_7 rfl (by decide) ⟨FRM.refl, Or.inr ⟨rfl, by rw [hP.1]; omega, by rw [hP.1, rdT_step h0.2, if_neg h32, if_pos (by omega)]⟩⟩
