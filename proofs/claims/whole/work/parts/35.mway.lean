set_option maxHeartbeats 4000000 in
set_option maxRecDepth 100000 in
theorem c_isKnownStep (M : Mem) (v : Vw) (hw : WM (M 133) v) (hS : SI v) (s a b : Int) (hs : 0 ≤ s ∧ s ≤ 1) (ha : 0 ≤ a ∧ a < 120) (hb : 0 ≤ b ∧ b < 120) : CX mX7_isKnownStep 2 [.inr (some 132), .inl s, .inl a, .inl b] M (some (.inl (bi (kst v (mr s 0) a b)))) M := by
  have hd := dist_le ha hb
  have b0 := mr_bd hS (s := s) (i := b)
  have b1 := mr_bd1 hS (s := s) (i := b)
  have b1a := mr_bd1 hS (s := s) (i := a)
  have b2 := mr_bd2 hS (s := s) (i := b)
  have b3 := mr_bd3 hS (s := s) (i := b)
  have hia := iabs_r (a := v (mr s 0 + 1) a - v (mr s 0 + 1) b)
  refine CX.of (by decide +kernel) (Nat.le_of_ble_eq_true rfl) [some (.inr (some 132)), some (.inl s), some (.inl a), some (.inl b), none] rfl ?_
  refine X.bipush dX7_isKnownStep_0 (by decide) ?_
  refine X.iload_n dX7_isKnownStep_2 rfl ?_
  refine X.imul (c := 120 * s) dX7_isKnownStep_3 rfl ?_
  refine X.istore (lv2 := [some (.inr (some 132)), some (.inl s), some (.inl a), some (.inl b), some (.inl (120 * s))]) dX7_isKnownStep_4 (Nat.le_of_ble_eq_true rfl) rfl ?_
  refine X.iload_n dX7_isKnownStep_6 rfl ?_
  refine X.iload_n dX7_isKnownStep_7 rfl ?_
  refine X.callS1 (As := [.inl a, .inl b]) (rest := []) dX7_isKnownStep_8 mk_X7_56 (c_distance M a b (by omega) (by omega)) rfl (by decide) rfl (Nat.le_of_ble_eq_true rfl) ?_
  refine X.iconst dX7_isKnownStep_11 ?_
  refine X.icmp_ne (tgt := 58) dX7_isKnownStep_12 (by decide) ⟨by omega, by omega⟩ (by decide) (fun h1 => ?_) (fun h1 => ?_)
  · skip
    refine X.iconst dX7_isKnownStep_58 ?_
    exact X.zret dX7_isKnownStep_59 rfl (by decide) (by rw [bi_f (fun q : kst v (mr s 0) a b => by have q1 := q.1; have q2 := q.2.1; have q3 := q.2.2.1; have q4 := q.2.2.2.1; have q5 := q.2.2.2.2; omega)]) rfl
  · skip
    refine X.aload_n dX7_isKnownStep_15 rfl ?_
    refine X.iload_n dX7_isKnownStep_16 rfl ?_
    refine X.iload_n dX7_isKnownStep_17 rfl ?_
    refine X.callV1 (As := [.inl s, .inl b]) (rest := []) dX7_isKnownStep_18 mk_X7_86 sh_132 (c_memory M v hw s b (by omega) (by omega)) rfl (by decide) rfl (Nat.le_of_ble_eq_true rfl) ?_
    refine X.if_eq (tgt := 58) dX7_isKnownStep_21 (by decide) ⟨by omega, by omega⟩ (fun h2 => ?_) (fun h2 => ?_)
    · skip
      refine X.iconst dX7_isKnownStep_58 ?_
      exact X.zret dX7_isKnownStep_59 rfl (by decide) (by rw [bi_f (fun q : kst v (mr s 0) a b => by have q1 := q.1; have q2 := q.2.1; have q3 := q.2.2.1; have q4 := q.2.2.2.1; have q5 := q.2.2.2.2; omega)]) rfl
    · skip
      refine X.aload_n dX7_isKnownStep_24 rfl ?_
      refine X.getR dX7_isKnownStep_25 fi_X7_7 sh_132 rfl ?_
      refine X.sipush dX7_isKnownStep_28 (by decide) ?_
      refine X.iload dX7_isKnownStep_31 rfl ?_
      refine X.iadd (c := 788 + (120 * s)) dX7_isKnownStep_33 rfl ?_
      refine X.iload_n dX7_isKnownStep_34 rfl ?_
      refine X.iadd (c := (788 + (120 * s)) + b) dX7_isKnownStep_35 rfl ?_
      refine X.iald (v := v (mr s 0 + 2) b) dX7_isKnownStep_36 sh_133 (by decide) (by omega) (wmx hw (t := 2) (by decide) hs (by omega) (by omega)) ?_
      refine X.iconst dX7_isKnownStep_37 ?_
      refine X.icmp_eq (tgt := 58) dX7_isKnownStep_38 (by decide) ⟨by omega, by omega⟩ (by decide) (fun h3 => ?_) (fun h3 => ?_)
      · skip
        refine X.iconst dX7_isKnownStep_58 ?_
        exact X.zret dX7_isKnownStep_59 rfl (by decide) (by rw [bi_f (fun q : kst v (mr s 0) a b => by have q1 := q.1; have q2 := q.2.1; have q3 := q.2.2.1; have q4 := q.2.2.2.1; have q5 := q.2.2.2.2; omega)]) rfl
      · skip
        refine X.aload_n dX7_isKnownStep_41 rfl ?_
        refine X.getR dX7_isKnownStep_42 fi_X7_7 sh_132 rfl ?_
        refine X.sipush dX7_isKnownStep_45 (by decide) ?_
        refine X.iload dX7_isKnownStep_48 rfl ?_
        refine X.iadd (c := 1028 + (120 * s)) dX7_isKnownStep_50 rfl ?_
        refine X.iload_n dX7_isKnownStep_51 rfl ?_
        refine X.iadd (c := (1028 + (120 * s)) + b) dX7_isKnownStep_52 rfl ?_
        refine X.iald (v := v (mr s 0 + 3) b) dX7_isKnownStep_53 sh_133 (by decide) (by omega) (wmx hw (t := 3) (by decide) hs (by omega) (by omega)) ?_
        refine X.iconst dX7_isKnownStep_54 ?_
        refine X.icmp_ne (tgt := 60) dX7_isKnownStep_55 (by decide) ⟨by omega, by omega⟩ (by decide) (fun h4 => ?_) (fun h4 => ?_)
        · skip
          refine X.aload_n dX7_isKnownStep_60 rfl ?_
          refine X.getR dX7_isKnownStep_61 fi_X7_7 sh_132 rfl ?_
          refine X.sipush dX7_isKnownStep_64 (by decide) ?_
          refine X.iload dX7_isKnownStep_67 rfl ?_
          refine X.iadd (c := 548 + (120 * s)) dX7_isKnownStep_69 rfl ?_
          refine X.iload_n dX7_isKnownStep_70 rfl ?_
          refine X.iadd (c := (548 + (120 * s)) + a) dX7_isKnownStep_71 rfl ?_
          refine X.iald (v := v (mr s 0 + 1) a) dX7_isKnownStep_72 sh_133 (by decide) (by omega) (wmx hw (t := 1) (by decide) hs (by omega) (by omega)) ?_
          refine X.aload_n dX7_isKnownStep_73 rfl ?_
          refine X.getR dX7_isKnownStep_74 fi_X7_7 sh_132 rfl ?_
          refine X.sipush dX7_isKnownStep_77 (by decide) ?_
          refine X.iload dX7_isKnownStep_80 rfl ?_
          refine X.iadd (c := 548 + (120 * s)) dX7_isKnownStep_82 rfl ?_
          refine X.iload_n dX7_isKnownStep_83 rfl ?_
          refine X.iadd (c := (548 + (120 * s)) + b) dX7_isKnownStep_84 rfl ?_
          refine X.iald (v := v (mr s 0 + 1) b) dX7_isKnownStep_85 sh_133 (by decide) (by omega) (wmx hw (t := 1) (by decide) hs (by omega) (by omega)) ?_
          refine X.callS1 (As := [.inl (v (mr s 0 + 1) a), .inl (v (mr s 0 + 1) b)]) (rest := []) dX7_isKnownStep_86 mk_X7_36 (c_apart M (v (mr s 0 + 1) a) (v (mr s 0 + 1) b) ⟨by omega, by omega⟩ ⟨by omega, by omega⟩) rfl (by decide) rfl (Nat.le_of_ble_eq_true rfl) ?_
          refine X.iconst dX7_isKnownStep_89 ?_
          refine X.icmp_gt (tgt := 97) dX7_isKnownStep_90 (by decide) ⟨by omega, by omega⟩ (by decide) (fun h5 => ?_) (fun h5 => ?_)
          · skip
            refine X.iconst dX7_isKnownStep_97 ?_
            exact X.zret dX7_isKnownStep_98 rfl (by decide) (by rw [bi_f (fun q : kst v (mr s 0) a b => by have q1 := q.1; have q2 := q.2.1; have q3 := q.2.2.1; have q4 := q.2.2.2.1; have q5 := q.2.2.2.2; omega)]) rfl
          · skip
            refine X.iconst dX7_isKnownStep_93 ?_
            refine X.goto (tgt := 98) dX7_isKnownStep_94 (by decide) ?_
            exact X.zret dX7_isKnownStep_98 rfl (by decide) (by rw [bi_t (show kst v (mr s 0) a b from ⟨by omega, by omega, by omega, by omega, by omega⟩)]) rfl
        · skip
          refine X.iconst dX7_isKnownStep_58 ?_
          exact X.zret dX7_isKnownStep_59 rfl (by decide) (by rw [bi_f (fun q : kst v (mr s 0) a b => by have q1 := q.1; have q2 := q.2.1; have q3 := q.2.2.1; have q4 := q.2.2.2.1; have q5 := q.2.2.2.2; omega)]) rfl
set_option maxHeartbeats 4000000 in
set_option maxRecDepth 100000 in
theorem c_findSteps (M : Mem) (v : Vw) (hw : WM (M 133) v) (hS : SI v) (s b : Int) (hs : 0 ≤ s ∧ s ≤ 1) (hb : 0 ≤ b ∧ b < 120) : CQ mX7_findSteps 3 [.inr (some 132), .inl s, .inl b] M (fun r M' => r = none ∧ (∀ a, a ≠ 137 → M' a = M a) ∧ ∀ c, 0 ≤ c → c < 120 → M' 137 c = wayS v (mr s 0) b c) := by
  refine CX.of (by decide +kernel) (Nat.le_of_ble_eq_true rfl) [some (.inr (some 132)), some (.inl s), some (.inl b), none, none, none, none] rfl ?_
  refine X.iconst dX7_findSteps_0 ?_
  refine X.istore_n (lv2 := [some (.inr (some 132)), some (.inl s), some (.inl b), some (.inl 0), none, none, none]) dX7_findSteps_1 (Nat.le_of_ble_eq_true rfl) rfl ?_
  have L2 : ∀ k, 0 ≤ k → k ≤ 120 → VQ mX7_findSteps 3 2 [some (.inr (some 132)), some (.inl s), some (.inl b), some (.inl k), none, none, none] [] (mw M 137 0 k (fun i => if i = b then 0 else -19)) (fun r M' => r = none ∧ (∀ a, a ≠ 137 → M' a = M a) ∧ ∀ c, 0 ≤ c → c < 120 → M' 137 c = wayS v (mr s 0) b c) := by
    refine down_ind 0 120 ?_ ?_
    · skip
      refine X.iload_n dX7_findSteps_2 rfl ?_
      refine X.bipush dX7_findSteps_3 (by decide) ?_
      refine X.icmp_ge (tgt := 31) dX7_findSteps_5 (by decide) ⟨by omega, by omega⟩ (by decide) (fun h1 => ?_) (fun h => by exfalso; omega)
      refine X.iconst dX7_findSteps_31 ?_
      refine X.istore_n (lv2 := [some (.inr (some 132)), some (.inl s), some (.inl b), some (.inl 1), none, none, none]) dX7_findSteps_32 (Nat.le_of_ble_eq_true rfl) rfl ?_
      refine X.iconst dX7_findSteps_33 ?_
      refine X.istore (lv2 := [some (.inr (some 132)), some (.inl s), some (.inl b), some (.inl 1), some (.inl 0), none, none]) dX7_findSteps_34 (Nat.le_of_ble_eq_true rfl) rfl ?_
      have L36 : ∀ r, 0 ≤ r → r ≤ 121 → ∀ go : Int, ∀ x5 : Option AV, ∀ x6 : Option AV, ∀ M1 : Mem, (∀ a, a ≠ 137 → M1 a = M a) → FW v (mr s 0) b (M1 137) r → (go = 0 ∨ go = 1) → (go = 1 → r + NC (M1 137) ≤ 120) → (go = 0 → FE v (mr s 0) b (M1 137)) → VQ mX7_findSteps 3 36 [some (.inr (some 132)), some (.inl s), some (.inl b), some (.inl go), some (.inl r), x5, x6] [] M1 (fun r M' => r = none ∧ (∀ a, a ≠ 137 → M' a = M a) ∧ ∀ c, 0 ≤ c → c < 120 → M' 137 c = wayS v (mr s 0) b c) := by
        refine down_ind 0 121 ?_ ?_
        · skip
          intro go x5 x6 M1 hM1 hF hgo hn hc
          have hnc := NC_le (St := M1 137)
          have hg0 : go = 0 := by rcases hgo with q | q <;> omega
          refine X.iload_n dX7_findSteps_36 rfl ?_
          refine X.if_eq (tgt := 129) dX7_findSteps_37 (by decide) ⟨by omega, by omega⟩ (fun h37 => ?_) (fun h => by exfalso; omega)
          exact Y.vret dX7_findSteps_129 rfl ⟨rfl, hM1, fun c c0 c1 => hF.way (hc hg0) ⟨c0, c1⟩⟩
        · intro r hr1 hr2 ihr
          intro go x5 x6 M1 hM1 hF hgo hn hc
          have hnc := NC_le (St := M1 137)
          refine X.iload_n dX7_findSteps_36 rfl ?_
          refine X.if_eq (tgt := 129) dX7_findSteps_37 (by decide) ⟨by omega, by omega⟩ (fun h37 => ?_) (fun h37 => ?_)
          · skip
            exact Y.vret dX7_findSteps_129 rfl ⟨rfl, hM1, fun c c0 c1 => hF.way (hc h37) ⟨c0, c1⟩⟩
          · skip
            have hr : 0 ≤ r ∧ r ≤ 120 := by rcases hgo with q | q <;> omega
            refine X.iconst dX7_findSteps_40 ?_
            refine X.istore_n (lv2 := [some (.inr (some 132)), some (.inl s), some (.inl b), some (.inl 0), some (.inl r), x5, x6]) dX7_findSteps_41 (Nat.le_of_ble_eq_true rfl) rfl ?_
            refine X.iconst dX7_findSteps_42 ?_
            refine X.istore (lv2 := [some (.inr (some 132)), some (.inl s), some (.inl b), some (.inl 0), some (.inl r), some (.inl 0), x6]) dX7_findSteps_43 (Nat.le_of_ble_eq_true rfl) rfl ?_
            have L45 : ∀ k, 0 ≤ k → k ≤ 120 → ∀ g : Int, ∀ x6 : Option AV, ∀ M2 : Mem, (∀ a, a ≠ 137 → M2 a = M a) → TI v (mr s 0) (M1 137) (M2 137) g r k → VQ mX7_findSteps 3 45 [some (.inr (some 132)), some (.inl s), some (.inl b), some (.inl g), some (.inl r), some (.inl k), x6] [] M2 (fun r M' => r = none ∧ (∀ a, a ≠ 137 → M' a = M a) ∧ ∀ c, 0 ≤ c → c < 120 → M' 137 c = wayS v (mr s 0) b c) := by
              refine down_ind 0 120 ?_ ?_
              · skip
                intro g x6 M2 hM2 hT
                have hgo := hT.2.1
                refine X.iload dX7_findSteps_45 rfl ?_
                refine X.bipush dX7_findSteps_47 (by decide) ?_
                refine X.icmp_ge (tgt := 123) dX7_findSteps_49 (by decide) ⟨by omega, by omega⟩ (by decide) (fun h2 => ?_) (fun h => by exfalso; omega)
                refine X.iinc (y := r + 1) (lv2 := [some (.inr (some 132)), some (.inl s), some (.inl b), some (.inl g), some (.inl (r + 1)), some (.inl 120), x6]) dX7_findSteps_123 rfl rfl rfl ?_
                refine X.goto (tgt := 36) dX7_findSteps_126 (by decide) ?_
                exact ihr g (some (.inl 120)) x6 M2 hM2 (hT.done hb hF hr.1) hgo (fun q => by subst q; have := hT.less hr.1; omega) (fun q => by subst q; exact hT.closed hb hF hr.1)
              · intro k hk1 hk2 ihk
                intro g x6 M2 hM2 hT
                refine X.iload dX7_findSteps_45 rfl ?_
                refine X.bipush dX7_findSteps_47 (by decide) ?_
                refine X.icmp_ge (tgt := 123) dX7_findSteps_49 (by decide) ⟨by omega, by omega⟩ (by decide) (fun h => by exfalso; omega) (fun h3 => ?_)
                refine X.iconst dX7_findSteps_52 ?_
                refine X.istore (lv2 := [some (.inr (some 132)), some (.inl s), some (.inl b), some (.inl g), some (.inl r), some (.inl k), some (.inl 0)]) dX7_findSteps_53 (Nat.le_of_ble_eq_true rfl) rfl ?_
                have L55 : ∀ f, 0 ≤ f → f ≤ 120 → ∀ g3 : Int, ∀ M3 : Mem, (∀ a, a ≠ 137 → M3 a = M a) → RI v (mr s 0) (M1 137) (M3 137) g3 r k f → VQ mX7_findSteps 3 55 [some (.inr (some 132)), some (.inl s), some (.inl b), some (.inl g3), some (.inl r), some (.inl k), some (.inl f)] [] M3 (fun r M' => r = none ∧ (∀ a, a ≠ 137 → M' a = M a) ∧ ∀ c, 0 ≤ c → c < 120 → M' 137 c = wayS v (mr s 0) b c) := by
                  refine down_ind 0 120 ?_ ?_
                  · skip
                    intro g3 M3 hM3 hR3
                    refine X.iload dX7_findSteps_55 rfl ?_
                    refine X.bipush dX7_findSteps_57 (by decide) ?_
                    refine X.icmp_ge (tgt := 117) dX7_findSteps_59 (by decide) ⟨by omega, by omega⟩ (by decide) (fun h4 => ?_) (fun h => by exfalso; omega)
                    refine X.iinc (y := k + 1) (lv2 := [some (.inr (some 132)), some (.inl s), some (.inl b), some (.inl g3), some (.inl r), some (.inl (k + 1)), some (.inl 120)]) dX7_findSteps_117 rfl rfl rfl ?_
                    refine X.goto (tgt := 45) dX7_findSteps_120 (by decide) ?_
                    exact ihk g3 (some (.inl 120)) _ hM3 (hR3.exit (by omega) (by left; rfl))
                  · intro f hf1 hf2 ihf
                    intro g3 M3 hM3 hR3
                    have hb1 := hR3.bd hF hr (c := k) (by omega)
                    have hb2 := hR3.bd hF hr (c := f) (by omega)
                    have hw3 : WM (M3 133) v := by rw [hM3 133 (by decide)]; exact hw
                    refine X.iload dX7_findSteps_55 rfl ?_
                    refine X.bipush dX7_findSteps_57 (by decide) ?_
                    refine X.icmp_ge (tgt := 117) dX7_findSteps_59 (by decide) ⟨by omega, by omega⟩ (by decide) (fun h => by exfalso; omega) (fun h5 => ?_)
                    refine X.aload_n dX7_findSteps_62 rfl ?_
                    refine X.getR dX7_findSteps_63 fi_X7_22 sh_132 rfl ?_
                    refine X.iload dX7_findSteps_66 rfl ?_
                    refine X.iald (v := M3 137 k) dX7_findSteps_68 sh_137 (by decide) (by omega) rfl ?_
                    refine X.bipush dX7_findSteps_69 (by decide) ?_
                    refine X.icmp_ne (tgt := 117) dX7_findSteps_71 (by decide) ⟨by omega, by omega⟩ (by decide) (fun h71 => ?_) (fun h71 => ?_)
                    · skip
                      refine X.iinc (y := k + 1) (lv2 := [some (.inr (some 132)), some (.inl s), some (.inl b), some (.inl g3), some (.inl r), some (.inl (k + 1)), some (.inl f)]) dX7_findSteps_117 rfl rfl rfl ?_
                      refine X.goto (tgt := 45) dX7_findSteps_120 (by decide) ?_
                      exact ihk g3 (some (.inl f)) _ hM3 (hR3.exit (by omega) (by right; exact h71))
                    · skip
                      refine X.aload_n dX7_findSteps_74 rfl ?_
                      refine X.getR dX7_findSteps_75 fi_X7_22 sh_132 rfl ?_
                      refine X.iload dX7_findSteps_78 rfl ?_
                      refine X.iald (v := M3 137 f) dX7_findSteps_80 sh_137 (by decide) (by omega) rfl ?_
                      refine X.iload dX7_findSteps_81 rfl ?_
                      refine X.icmp_ne (tgt := 111) dX7_findSteps_83 (by decide) ⟨by omega, by omega⟩ ⟨by omega, by omega⟩ (fun h83 => ?_) (fun h83 => ?_)
                      · skip
                        refine X.iinc (y := f + 1) (lv2 := [some (.inr (some 132)), some (.inl s), some (.inl b), some (.inl g3), some (.inl r), some (.inl k), some (.inl (f + 1))]) dX7_findSteps_111 rfl rfl rfl ?_
                        refine X.goto (tgt := 55) dX7_findSteps_114 (by decide) ?_
                        exact ihf g3 _ hM3 (hR3.skip h71 (fun q => h83 (((hR3.ti h71).old hr.1 (by omega)).mpr q.1)))
                      · skip
                        have h83 : M3 137 f = r := by omega
                        refine X.aload_n dX7_findSteps_86 rfl ?_
                        refine X.iload_n dX7_findSteps_87 rfl ?_
                        refine X.iload dX7_findSteps_88 rfl ?_
                        refine X.iload dX7_findSteps_90 rfl ?_
                        by_cases hp : kst v (mr s 0) f k
                        · skip
                          refine X.callV1 (As := [.inl s, .inl f, .inl k]) (rest := []) dX7_findSteps_92 mk_X7_148 sh_132 (CX.bt (c_isKnownStep M3 v hw3 hS s f k hs (by omega) (by omega)) hp) rfl (by decide) rfl (Nat.le_of_ble_eq_true rfl) ?_
                          refine X.if_eq (tgt := 111) dX7_findSteps_95 (by decide) (by decide) (fun h => absurd h (by decide)) (fun h6 => ?_)
                          refine X.aload_n dX7_findSteps_98 rfl ?_
                          refine X.getR dX7_findSteps_99 fi_X7_22 sh_132 rfl ?_
                          refine X.iload dX7_findSteps_102 rfl ?_
                          refine X.iload dX7_findSteps_104 rfl ?_
                          refine X.iconst dX7_findSteps_106 ?_
                          refine X.iadd (c := r + 1) dX7_findSteps_107 rfl ?_
                          refine X.iast dX7_findSteps_108 sh_137 (by decide) (by omega) ?_
                          refine X.iconst dX7_findSteps_109 ?_
                          refine X.istore_n (lv2 := [some (.inr (some 132)), some (.inl s), some (.inl b), some (.inl 1), some (.inl r), some (.inl k), some (.inl f)]) dX7_findSteps_110 (Nat.le_of_ble_eq_true rfl) rfl ?_
                          refine X.iinc (y := f + 1) (lv2 := [some (.inr (some 132)), some (.inl s), some (.inl b), some (.inl 1), some (.inl r), some (.inl k), some (.inl (f + 1))]) dX7_findSteps_111 rfl rfl rfl ?_
                          refine X.goto (tgt := 55) dX7_findSteps_114 (by decide) ?_
                          exact ihf 1 _ (fun a ha => (mset_row ha).trans (hM3 a ha)) (hR3.hit (by omega) (by omega) hr.1 h71 (((hR3.ti h71).old hr.1 (by omega)).mp h83) hp (fun i => mset_self))
                        · skip
                          refine X.callV1 (As := [.inl s, .inl f, .inl k]) (rest := []) dX7_findSteps_92 mk_X7_148 sh_132 (CX.bf (c_isKnownStep M3 v hw3 hS s f k hs (by omega) (by omega)) hp) rfl (by decide) rfl (Nat.le_of_ble_eq_true rfl) ?_
                          refine X.if_eq (tgt := 111) dX7_findSteps_95 (by decide) (by decide) (fun h7 => ?_) (fun h => absurd h (by decide))
                          refine X.iinc (y := f + 1) (lv2 := [some (.inr (some 132)), some (.inl s), some (.inl b), some (.inl g3), some (.inl r), some (.inl k), some (.inl (f + 1))]) dX7_findSteps_111 rfl rfl rfl ?_
                          refine X.goto (tgt := 55) dX7_findSteps_114 (by decide) ?_
                          exact ihf g3 _ hM3 (hR3.skip h71 (fun q => hp q.2))
                exact L55 0 (by omega) (by omega) g _ hM2 (RI.start hT)
            exact L45 0 (by omega) (by omega) 0 x6 _ hM1 TI.start
      refine L36 0 (by omega) (by omega) 1 none none (mw M 137 0 120 (fun i => if i = b then 0 else -19)) (fun a ha => mw_no ha) (FW.start hb (fun c c0 c1 => by rw [mw_at, if_pos ⟨c0, c1⟩])) (Or.inr rfl) (fun _ => ?_) (fun q => absurd q (by decide))
      have := NC_le (St := (mw M 137 0 120 (fun i => if i = b then 0 else -19)) 137)
      omega
    · intro k hk1 hk2 ihk
      refine X.iload_n dX7_findSteps_2 rfl ?_
      refine X.bipush dX7_findSteps_3 (by decide) ?_
      refine X.icmp_ge (tgt := 31) dX7_findSteps_5 (by decide) ⟨by omega, by omega⟩ (by decide) (fun h => by exfalso; omega) (fun h8 => ?_)
      refine X.aload_n dX7_findSteps_8 rfl ?_
      refine X.getR dX7_findSteps_9 fi_X7_22 sh_132 rfl ?_
      refine X.iload_n dX7_findSteps_12 rfl ?_
      refine X.iload_n dX7_findSteps_13 rfl ?_
      refine X.iload_n dX7_findSteps_14 rfl ?_
      refine X.icmp_ne (tgt := 22) dX7_findSteps_15 (by decide) ⟨by omega, by omega⟩ ⟨by omega, by omega⟩ (fun h15 => ?_) (fun h15 => ?_)
      · skip
        refine X.bipush dX7_findSteps_22 (by decide) ?_
        refine X.iast dX7_findSteps_24 sh_137 (by decide) (by omega) ?_
        refine X.iinc (y := k + 1) (lv2 := [some (.inr (some 132)), some (.inl s), some (.inl b), some (.inl (k + 1)), none, none, none]) dX7_findSteps_25 rfl rfl rfl ?_
        refine X.goto (tgt := 2) dX7_findSteps_28 (by decide) ?_
        rw [mw_step (f := fun i => if i = b then 0 else -19) hk1 (by show _ = if k = b then 0 else -19; rw [if_neg h15])]
        exact ihk
      · skip
        have h15 : k = b := by omega
        refine X.iconst dX7_findSteps_18 ?_
        refine X.goto (tgt := 24) dX7_findSteps_19 (by decide) ?_
        refine X.iast dX7_findSteps_24 sh_137 (by decide) (by omega) ?_
        refine X.iinc (y := k + 1) (lv2 := [some (.inr (some 132)), some (.inl s), some (.inl b), some (.inl (k + 1)), none, none, none]) dX7_findSteps_25 rfl rfl rfl ?_
        refine X.goto (tgt := 2) dX7_findSteps_28 (by decide) ?_
        rw [mw_step (f := fun i => if i = b then 0 else -19) hk1 (by show _ = if k = b then 0 else -19; rw [if_pos h15])]
        exact ihk
  have e := L2 0 (by omega) (by omega)
  rw [mw_0 (by omega)] at e
  exact e
theorem RM.frame {M M' M0 : Mem} {s : AbS} (h : RM M0 s) (hf : ∀ a, a ≠ 137 → M' a = M0 a) (hf0 : ∀ a, a < 132 → M0 a = M a) : RM M' s ∧ ∀ a, a < 132 → M' a = M a := by
  refine ⟨?_, fun a ha => (hf a (by omega)).trans (hf0 a ha)⟩
  unfold RM
  rw [hf 132 (by decide), hf 133 (by decide), hf 135 (by decide), hf 136 (by decide)]
  exact h
set_option maxHeartbeats 4000000 in
set_option maxRecDepth 100000 in
theorem c_mway (M : Mem) (v : Vw) (z : Int) (H : Int → Vw) (tl : Int) (T : Int → Int) (hR : RM M (v, z, H, tl, T)) (k c r : Int) (hk : inR k) (hc : inR c) (hr : inR r) : CQ mX7_way 4 [.inr (some 132), .inl k, .inl c, .inl r] M (OUTM M (qWay v k c r, (v, z, H, tl, T))) := by
  refine CX.of (by decide +kernel) (Nat.le_of_ble_eq_true rfl) [some (.inr (some 132)), some (.inl k), some (.inl c), some (.inl r)] rfl ?_
  refine X.aload_n dX7_way_0 rfl ?_
  refine X.iconst dX7_way_1 ?_
  refine X.putI 0 0 rfl dX7_way_2 fi_X7_25 sh_132 rfl rfl ?_
  have hR0 : RM (mset M 132 0 0) (v, z, H, tl, T) := hR.thrown
  have hf0 : ∀ a, a < 132 → mset M 132 0 0 a = M a := fun a ha => mset_row (by omega)
  generalize mset M 132 0 0 = M0 at hR0 hf0 ⊢
  have hW0 : WF (M0 133) v := hR0.1
  have hv : WA (M0 133) v := hR0.1.wa
  have hw : WM (M0 133) v := hR0.1.ww
  have hS : SI v := hR0.1.2.2
  have hz : M0 132 4 = z := hR0.2.1
  have hz1 : 0 ≤ z ∧ z ≤ 5 := hR0.2.2.1
  have htl : M0 132 6 = tl := hR0.2.2.2.2.1
  have htb : 0 ≤ tl ∧ tl ≤ 120 := hR0.2.2.2.2.2.1
  have n0 := hS.n0
  have n1 := hS.n1
  have n2 := hS.n2
  refine X.aload_n dX7_way_5 rfl ?_
  refine X.iload_n dX7_way_6 rfl ?_
  by_cases p1 : 0 ≤ k ∧ k ≤ v 0 0 - 1
  · skip
    refine X.callV1 (As := [.inl k]) (rest := []) dX7_way_7 mk_X7_120 sh_132 (CX.bt (c_misScout M0 v hv hS k ⟨by omega, by omega⟩) p1) rfl (by decide) rfl (Nat.le_of_ble_eq_true rfl) ?_
    refine X.if_eq (tgt := 21) dX7_way_10 (by decide) (by decide) (fun h => absurd h (by decide)) (fun h1 => ?_)
    refine X.iload_n dX7_way_13 rfl ?_
    refine X.iload_n dX7_way_14 rfl ?_
    by_cases p2 : 0 ≤ c ∧ c ≤ 11 ∧ 0 ≤ r ∧ r ≤ 9
    · skip
      refine X.callS1 (As := [.inl c, .inl r]) (rest := []) dX7_way_15 mk_X7_95 (CX.bt (c_misCell M0 c r ⟨by omega, by omega⟩ ⟨by omega, by omega⟩) p2) rfl (by decide) rfl (Nat.le_of_ble_eq_true rfl) ?_
      refine X.if_ne (tgt := 24) dX7_way_18 (by decide) (by decide) (fun h2 => ?_) (fun h => absurd h (by decide))
      refine X.aload_n dX7_way_24 rfl ?_
      refine X.aload_n dX7_way_25 rfl ?_
      refine X.iload_n dX7_way_26 rfl ?_
      refine X.iconst dX7_way_27 ?_
      have q3 := SI.r3 hS k
      refine X.callV1 (As := [.inl k, .inl 0]) (rest := [.inr (some 132)]) dX7_way_28 mk_X7_43 sh_132 (c_ofScout_0 M0 v hv hS k (by omega)) rfl (by decide) rfl (Nat.le_of_ble_eq_true rfl) ?_
      refine X.aload_n dX7_way_31 rfl ?_
      refine X.iload_n dX7_way_32 rfl ?_
      have q4 := SI.r4 hS k
      refine X.callV1 (As := [.inl k]) (rest := [.inl (v 3 k), .inr (some 132)]) dX7_way_33 mk_X7_49 sh_132 (c_cellOf M0 v hv hS k (by omega)) rfl (by decide) rfl (Nat.le_of_ble_eq_true rfl) ?_
      refine Y.callV (As := [.inl (v 3 k), .inl (v 4 k)]) (rest := []) dX7_way_36 mk_X7_151 sh_132 (c_findSteps M0 v hw hS (v 3 k) (v 4 k) (hS.r3 k) (hS.r4 k)) rfl (by decide) rfl (Nat.le_of_ble_eq_true rfl) (fun r9 M9 h9 => ?_)
      obtain ⟨h90, h9f, h9w⟩ := h9
      subst h90
      refine X.aload_n dX7_way_39 rfl ?_
      refine X.getR dX7_way_40 fi_X7_22 sh_132 rfl ?_
      refine X.iload_n dX7_way_43 rfl ?_
      refine X.iload_n dX7_way_44 rfl ?_
      refine X.callS1 (As := [.inl c, .inl r]) (rest := [.inr (some 137)]) dX7_way_45 mk_X7_46 (c_at M9 c r) rfl (by decide) rfl (Nat.le_of_ble_eq_true rfl) ?_
      refine X.iald (v := wayS v (mr (v 3 k) 0) (v 4 k) (r * 12 + c)) dX7_way_48 sh_137 (by decide) (by omega) (h9w _ (by omega) (by omega)) ?_
      exact Y.iret dX7_way_49 rfl ⟨by show some (Sum.inl _ : AV) = some (Sum.inl _); unfold qWay; rw [if_pos p1, if_pos p2]; rfl, hR0.frame h9f hf0⟩
    · skip
      refine X.callS1 (As := [.inl c, .inl r]) (rest := []) dX7_way_15 mk_X7_95 (CX.bf (c_misCell M0 c r ⟨by omega, by omega⟩ ⟨by omega, by omega⟩) p2) rfl (by decide) rfl (Nat.le_of_ble_eq_true rfl) ?_
      refine X.if_ne (tgt := 24) dX7_way_18 (by decide) (by decide) (fun h => absurd h (by decide)) (fun h5 => ?_)
      refine X.bipush dX7_way_21 (by decide) ?_
      exact Y.iret dX7_way_23 rfl ⟨by show some (Sum.inl _ : AV) = some (Sum.inl _); unfold qWay; rw [if_pos p1, if_neg p2], hR0, hf0⟩
  · skip
    refine X.callV1 (As := [.inl k]) (rest := []) dX7_way_7 mk_X7_120 sh_132 (CX.bf (c_misScout M0 v hv hS k ⟨by omega, by omega⟩) p1) rfl (by decide) rfl (Nat.le_of_ble_eq_true rfl) ?_
    refine X.if_eq (tgt := 21) dX7_way_10 (by decide) (by decide) (fun h6 => ?_) (fun h => absurd h (by decide))
    refine X.bipush dX7_way_21 (by decide) ?_
    exact Y.iret dX7_way_23 rfl ⟨by show some (Sum.inl _ : AV) = some (Sum.inl _); unfold qWay; rw [if_neg p1], hR0, hf0⟩
