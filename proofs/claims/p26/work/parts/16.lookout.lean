/-! over all cells, column by column -/
def lkr {σ : Type} (f : Int → σ → σ) : Nat → Int → Int → σ → σ
  | 0, _, _, s => s
  | n + 1, c, r, s => lkr f n c (r + 1) (f (r * 12 + c) s)
def lkc {σ : Type} (f : Int → σ → σ) : Nat → Int → σ → σ
  | 0, _, s => s
  | n + 1, c, s => lkc f n (c + 1) (lkr f 10 c 0 s)
theorem lkr_step {σ : Type} {f : Int → σ → σ} {c r : Int} {s : σ} (h : r < 10) : lkr f (10 - r).toNat c r s = lkr f (10 - (r + 1)).toNat c (r + 1) (f (r * 12 + c) s) := by
  rw [show (10 - r).toNat = (10 - (r + 1)).toNat + 1 by omega]; rfl
theorem lkc_step {σ : Type} {f : Int → σ → σ} {c : Int} {s : σ} (h : c < 12) : lkc f (12 - c).toNat c s = lkc f (12 - (c + 1)).toNat (c + 1) (lkr f ((10 : Int) - 0).toNat c 0 s) := by
  rw [show (12 - c).toNat = (12 - (c + 1)).toNat + 1 by omega]; rfl
theorem lkr_end {σ : Type} {f : Int → σ → σ} {c r : Int} {s : σ} : lkr f ((10 : Int) - 10).toNat c r s = s := rfl
theorem lkc_end {σ : Type} {f : Int → σ → σ} {c : Int} {s : σ} : lkc f ((12 : Int) - 12).toNat c s = s := rfl
theorem lkr_rel {σ τ : Type} {f : Int → σ → σ} {g : Int → τ → τ} {R : σ → τ → Prop} (h : ∀ x s t, 0 ≤ x ∧ x < 120 → R s t → R (f x s) (g x t)) : ∀ (n : Nat) (c r : Int) (s : σ) (t : τ), 0 ≤ c ∧ c < 12 → 0 ≤ r → r + n ≤ 10 → R s t → R (lkr f n c r s) (lkr g n c r t)
  | 0, _, _, _, _, _, _, _, q => q
  | n + 1, c, r, s, t, hc, hr, hn, q => lkr_rel h n c (r + 1) _ _ hc (by omega) (by omega) (h _ _ _ (by omega) q)
theorem lkc_rel {σ τ : Type} {f : Int → σ → σ} {g : Int → τ → τ} {R : σ → τ → Prop} (h : ∀ x s t, 0 ≤ x ∧ x < 120 → R s t → R (f x s) (g x t)) : ∀ (n : Nat) (c : Int) (s : σ) (t : τ), 0 ≤ c → c + n ≤ 12 → R s t → R (lkc f n c s) (lkc g n c t)
  | 0, _, _, _, _, _, q => q
  | n + 1, c, s, t, hc, hn, q => lkc_rel h n (c + 1) _ _ (by omega) (by omega) (lkr_rel h 10 c 0 _ _ (by omega) (by omega) (by omega) q)
noncomputable def seenC (v : Vw) (rg c : Int) : Int := cnt (fun x => see v c rg x) 120 0
def lkP (v : Vw) (own dd c : Int) : Prop := dist own c ≤ dd ∧ (c = own ∨ (v 2 c = 0 ∧ sIn v c = -19))
noncomputable def stF (v : Vw) (own rg dd : Int) (c : Int) (s : Int × Int) : Int × Int := @ite _ (lkP v own dd c ∧ s.2 < seenC v rg c) (Classical.propDecidable _) (c, seenC v rg c) s
theorem stF_t {v : Vw} {own rg dd c b m : Int} (h : lkP v own dd c ∧ m < seenC v rg c) : stF v own rg dd c (b, m) = (c, seenC v rg c) := if_pos h
theorem stF_f {v : Vw} {own rg dd c b m : Int} (h : ¬ (lkP v own dd c ∧ m < seenC v rg c)) : stF v own rg dd c (b, m) = (b, m) := if_neg h
def finF (s : Int × Int) : Int := 100 * (s.1 % 12) + s.1 / 12
noncomputable def qLook (v : Vw) (k dd : Int) : Int := if (0 ≤ k ∧ k ≤ v 0 0 - 1) then (if (0 ≤ dd ∧ dd ≤ 11) then finF (lkc (stF v (v 4 k) (v 5 k) dd) 12 0 (v 4 k, 0)) else -11) else -11
set_option maxHeartbeats 4000000 in
set_option maxRecDepth 100000 in
theorem c_lookout (M : Mem) (v : Vw) (hv : VA M v) (hS : SI v) (hG : SG M v) (k dd : Int) (hk : inR k) (hdd : inR dd) : CX mX6_lookout 6 [.inr (some 0), .inl k, .inl dd] M (some (.inl (qLook v k dd))) M := by
  have n0 := hS.n0
  have n1 := hS.n1
  have n2 := hS.n2
  refine CX.of (by decide +kernel) (Nat.le_of_ble_eq_true rfl) [some (.inr (some 0)), some (.inl k), some (.inl dd), none, none, none, none, none, none, none] rfl ?_
  refine X.aload_n dX6_lookout_0 rfl ?_
  refine X.iload_n dX6_lookout_1 rfl ?_
  by_cases p1 : 0 ≤ k ∧ k ≤ v 0 0 - 1
  · skip
    refine X.callV1 (As := [.inl k]) (rest := []) dX6_lookout_2 mk_X6_100 sh_0 (CX.bt (c_isScout M v hv hS k ⟨by omega, by omega⟩) p1) rfl (by decide) rfl (Nat.le_of_ble_eq_true rfl) ?_
    refine X.if_eq (tgt := 18) dX6_lookout_5 (by decide) (by decide) (fun h => absurd h (by decide)) (fun h1 => ?_)
    refine X.iload_n dX6_lookout_8 rfl ?_
    refine X.iconst dX6_lookout_9 ?_
    refine X.bipush dX6_lookout_10 (by decide) ?_
    by_cases p2 : 0 ≤ dd ∧ dd ≤ 11
    · skip
      refine X.callS1 (As := [.inl dd, .inl 0, .inl 11]) (rest := []) dX6_lookout_12 mk_X6_48 (CX.bt (c_isWithin M dd 0 11 ⟨by omega, by omega⟩ (by decide) (by decide)) p2) rfl (by decide) rfl (Nat.le_of_ble_eq_true rfl) ?_
      refine X.if_ne (tgt := 21) dX6_lookout_15 (by decide) (by decide) (fun h2 => ?_) (fun h => absurd h (by decide))
      refine X.aload_n dX6_lookout_21 rfl ?_
      refine X.getR dX6_lookout_22 fi_X6_12 sh_0 rfl ?_
      refine X.getR dX6_lookout_25 fi_X6_103 sh_1 rfl ?_
      refine X.iload_n dX6_lookout_28 rfl ?_
      have q3 := SI.r4 hS k
      refine X.iald (v := v 4 k) dX6_lookout_29 sh_5 (by decide) (by omega) (rd_4 hv (by omega)) ?_
      refine X.istore_n (lv2 := [some (.inr (some 0)), some (.inl k), some (.inl dd), some (.inl (v 4 k)), none, none, none, none, none, none]) dX6_lookout_30 (Nat.le_of_ble_eq_true rfl) rfl ?_
      refine X.iload_n dX6_lookout_31 rfl ?_
      refine X.istore (lv2 := [some (.inr (some 0)), some (.inl k), some (.inl dd), some (.inl (v 4 k)), some (.inl (v 4 k)), none, none, none, none, none]) dX6_lookout_32 (Nat.le_of_ble_eq_true rfl) rfl ?_
      refine X.iconst dX6_lookout_34 ?_
      refine X.istore (lv2 := [some (.inr (some 0)), some (.inl k), some (.inl dd), some (.inl (v 4 k)), some (.inl (v 4 k)), some (.inl 0), none, none, none, none]) dX6_lookout_35 (Nat.le_of_ble_eq_true rfl) rfl ?_
      refine X.iconst dX6_lookout_37 ?_
      refine X.istore (lv2 := [some (.inr (some 0)), some (.inl k), some (.inl dd), some (.inl (v 4 k)), some (.inl (v 4 k)), some (.inl 0), some (.inl 0), none, none, none]) dX6_lookout_38 (Nat.le_of_ble_eq_true rfl) rfl ?_
      have L40 : ∀ col, 0 ≤ col → col ≤ 12 → ∀ best : Int, ∀ most : Int, ∀ x7 : Option AV, ∀ x8 : Option AV, ∀ x9 : Option AV, (0 ≤ best ∧ best < 120) → (0 ≤ most ∧ most ≤ 120) → VX mX6_lookout 6 40 [some (.inr (some 0)), some (.inl k), some (.inl dd), some (.inl (v 4 k)), some (.inl best), some (.inl most), some (.inl col), x7, x8, x9] [] M (some (.inl (finF (lkc (stF v (v 4 k) (v 5 k) dd) (12 - col).toNat col (best, most))))) M := by
        refine down_ind 0 12 ?_ ?_
        · skip
          intro best most x7 x8 x9 hb hm
          rw [lkc_end]
          have q5 := hS.r5 k
          refine X.iload dX6_lookout_40 rfl ?_
          refine X.bipush dX6_lookout_42 (by decide) ?_
          refine X.icmp_ge (tgt := 145) dX6_lookout_44 (by decide) ⟨by omega, by omega⟩ (by decide) (fun h4 => ?_) (fun h => by exfalso; omega)
          refine X.bipush dX6_lookout_145 (by decide) ?_
          refine X.iload dX6_lookout_147 rfl ?_
          refine X.callS1 (As := [.inl best]) (rest := [.inl 100]) dX6_lookout_149 mk_X6_106 (c_columnOf M best (by omega)) rfl (by decide) rfl (Nat.le_of_ble_eq_true rfl) ?_
          refine X.imul (c := 100 * (best % 12)) dX6_lookout_152 rfl ?_
          refine X.iload dX6_lookout_153 rfl ?_
          refine X.callS1 (As := [.inl best]) (rest := [.inl (100 * (best % 12))]) dX6_lookout_155 mk_X6_109 (c_rowOf M best (by omega)) rfl (by decide) rfl (Nat.le_of_ble_eq_true rfl) ?_
          refine X.iadd (c := (100 * (best % 12)) + (best / 12)) dX6_lookout_158 rfl ?_
          exact X.iret dX6_lookout_159 rfl rfl rfl
        · intro col hcol1 hcol2 ihcol
          intro best most x7 x8 x9 hb hm
          rw [lkc_step hcol2]
          have q5 := hS.r5 k
          refine X.iload dX6_lookout_40 rfl ?_
          refine X.bipush dX6_lookout_42 (by decide) ?_
          refine X.icmp_ge (tgt := 145) dX6_lookout_44 (by decide) ⟨by omega, by omega⟩ (by decide) (fun h => by exfalso; omega) (fun h5 => ?_)
          refine X.iconst dX6_lookout_47 ?_
          refine X.istore (lv2 := [some (.inr (some 0)), some (.inl k), some (.inl dd), some (.inl (v 4 k)), some (.inl best), some (.inl most), some (.inl col), some (.inl 0), x8, x9]) dX6_lookout_48 (Nat.le_of_ble_eq_true rfl) rfl ?_
          have L50 : ∀ row, 0 ≤ row → row ≤ 10 → ∀ best : Int, ∀ most : Int, ∀ x8 : Option AV, ∀ x9 : Option AV, (0 ≤ best ∧ best < 120) → (0 ≤ most ∧ most ≤ 120) → VX mX6_lookout 6 50 [some (.inr (some 0)), some (.inl k), some (.inl dd), some (.inl (v 4 k)), some (.inl best), some (.inl most), some (.inl col), some (.inl row), x8, x9] [] M (some (.inl (finF (lkc (stF v (v 4 k) (v 5 k) dd) (12 - (col + 1)).toNat (col + 1) (lkr (stF v (v 4 k) (v 5 k) dd) (10 - row).toNat col row (best, most)))))) M := by
            refine down_ind 0 10 ?_ ?_
            · skip
              intro best most x8 x9 hb hm
              rw [lkr_end]
              refine X.iload dX6_lookout_50 rfl ?_
              refine X.bipush dX6_lookout_52 (by decide) ?_
              refine X.icmp_ge (tgt := 139) dX6_lookout_54 (by decide) ⟨by omega, by omega⟩ (by decide) (fun h6 => ?_) (fun h => by exfalso; omega)
              refine X.iinc (y := col + 1) (lv2 := [some (.inr (some 0)), some (.inl k), some (.inl dd), some (.inl (v 4 k)), some (.inl best), some (.inl most), some (.inl (col + 1)), some (.inl 10), x8, x9]) dX6_lookout_139 rfl rfl rfl ?_
              refine X.goto (tgt := 40) dX6_lookout_142 (by decide) ?_
              exact ihcol best most (some (.inl 10)) x8 x9 hb hm
            · intro row hrow1 hrow2 ihrow
              intro best most x8 x9 hb hm
              refine X.iload dX6_lookout_50 rfl ?_
              refine X.bipush dX6_lookout_52 (by decide) ?_
              refine X.icmp_ge (tgt := 139) dX6_lookout_54 (by decide) ⟨by omega, by omega⟩ (by decide) (fun h => by exfalso; omega) (fun h7 => ?_)
              refine X.iload dX6_lookout_57 rfl ?_
              refine X.iload dX6_lookout_59 rfl ?_
              refine X.callS1 (As := [.inl col, .inl row]) (rest := []) dX6_lookout_61 mk_X6_52 (c_cellAt M col row) rfl (by decide) rfl (Nat.le_of_ble_eq_true rfl) ?_
              refine X.istore (lv2 := [some (.inr (some 0)), some (.inl k), some (.inl dd), some (.inl (v 4 k)), some (.inl best), some (.inl most), some (.inl col), some (.inl row), some (.inl (row * 12 + col)), x9]) dX6_lookout_64 (Nat.le_of_ble_eq_true rfl) rfl ?_
              refine X.iload_n dX6_lookout_66 rfl ?_
              refine X.iload dX6_lookout_67 rfl ?_
              refine X.callS1 (As := [.inl (v 4 k), .inl (row * 12 + col)]) (rest := []) dX6_lookout_69 mk_X6_223 (c_distanceOf M (v 4 k) (row * 12 + col) (by omega) (by omega)) rfl (by decide) rfl (Nat.le_of_ble_eq_true rfl) ?_
              refine X.iload_n dX6_lookout_72 rfl ?_
              have hdi := dist_le (hS.r4 k) (show 0 ≤ row * 12 + col ∧ row * 12 + col < 120 by omega)
              refine X.icmp_gt (tgt := 133) dX6_lookout_73 (by decide) ⟨by omega, by omega⟩ ⟨by omega, by omega⟩ (fun h8 => ?_) (fun h8 => ?_)
              · skip
                refine X.iinc (y := row + 1) (lv2 := [some (.inr (some 0)), some (.inl k), some (.inl dd), some (.inl (v 4 k)), some (.inl best), some (.inl most), some (.inl col), some (.inl (row + 1)), some (.inl (row * 12 + col)), x9]) dX6_lookout_133 rfl rfl rfl ?_
                refine X.goto (tgt := 50) dX6_lookout_136 (by decide) ?_
                rw [lkr_step hrow2, stF_f (by rintro ⟨⟨q1, q2⟩, q3⟩; first | omega | (rcases q2 with q | q <;> first | exact absurd q h79 | exact absurd q pf))]
                exact ihrow best most (some (.inl (row * 12 + col))) x9 (by omega) (by omega)
              · skip
                refine X.iload dX6_lookout_76 rfl ?_
                refine X.iload_n dX6_lookout_78 rfl ?_
                refine X.icmp_eq (tgt := 94) dX6_lookout_79 (by decide) ⟨by omega, by omega⟩ ⟨by omega, by omega⟩ (fun h79 => ?_) (fun h79 => ?_)
                · skip
                  refine X.aload_n dX6_lookout_94 rfl ?_
                  refine X.getR dX6_lookout_95 fi_X6_19 sh_0 rfl ?_
                  refine X.aload_n dX6_lookout_98 rfl ?_
                  refine X.getR dX6_lookout_99 fi_X6_12 sh_0 rfl ?_
                  refine X.iload dX6_lookout_102 rfl ?_
                  refine X.aload_n dX6_lookout_104 rfl ?_
                  refine X.getR dX6_lookout_105 fi_X6_12 sh_0 rfl ?_
                  refine X.getR dX6_lookout_108 fi_X6_189 sh_1 rfl ?_
                  refine X.iload_n dX6_lookout_111 rfl ?_
                  have q9 := SI.r5 hS k
                  refine X.iald (v := v 5 k) dX6_lookout_112 sh_6 (by decide) (by omega) (rd_5 hv (by omega)) ?_
                  refine X.callV1 (As := [.inr (some 1), .inl (row * 12 + col), .inl (v 5 k)]) (rest := []) dX6_lookout_113 mk_X6_226 sh_21 (c_countSeenFrom M v hv hS (row * 12 + col) (v 5 k) (by omega) (by omega) hG.1) rfl (by decide) rfl (Nat.le_of_ble_eq_true rfl) ?_
                  have hsr := cnt_range (fun x => see v (row * 12 + col) (v 5 k) x) 120 0
                  have hsr2 : 0 ≤ seenC v (v 5 k) (row * 12 + col) ∧ seenC v (v 5 k) (row * 12 + col) ≤ 120 := hsr
                  refine X.istore (lv2 := [some (.inr (some 0)), some (.inl k), some (.inl dd), some (.inl (v 4 k)), some (.inl best), some (.inl most), some (.inl col), some (.inl row), some (.inl (row * 12 + col)), some (.inl (seenC v (v 5 k) (row * 12 + col)))]) dX6_lookout_116 (Nat.le_of_ble_eq_true rfl) rfl ?_
                  refine X.iload dX6_lookout_118 rfl ?_
                  refine X.iload dX6_lookout_120 rfl ?_
                  refine X.icmp_le (tgt := 133) dX6_lookout_122 (by decide) ⟨by omega, by omega⟩ ⟨by omega, by omega⟩ (fun h122 => ?_) (fun h122 => ?_)
                  · skip
                    refine X.iinc (y := row + 1) (lv2 := [some (.inr (some 0)), some (.inl k), some (.inl dd), some (.inl (v 4 k)), some (.inl best), some (.inl most), some (.inl col), some (.inl (row + 1)), some (.inl (row * 12 + col)), some (.inl (seenC v (v 5 k) (row * 12 + col)))]) dX6_lookout_133 rfl rfl rfl ?_
                    refine X.goto (tgt := 50) dX6_lookout_136 (by decide) ?_
                    rw [lkr_step hrow2, stF_f (by rintro ⟨⟨q1, q2⟩, q3⟩; first | omega | (rcases q2 with q | q <;> first | exact absurd q h79 | exact absurd q pf))]
                    exact ihrow best most (some (.inl (row * 12 + col))) (some (.inl (seenC v (v 5 k) (row * 12 + col)))) (by omega) (by omega)
                  · skip
                    refine X.iload dX6_lookout_125 rfl ?_
                    refine X.istore (lv2 := [some (.inr (some 0)), some (.inl k), some (.inl dd), some (.inl (v 4 k)), some (.inl best), some (.inl (seenC v (v 5 k) (row * 12 + col))), some (.inl col), some (.inl row), some (.inl (row * 12 + col)), some (.inl (seenC v (v 5 k) (row * 12 + col)))]) dX6_lookout_127 (Nat.le_of_ble_eq_true rfl) rfl ?_
                    refine X.iload dX6_lookout_129 rfl ?_
                    refine X.istore (lv2 := [some (.inr (some 0)), some (.inl k), some (.inl dd), some (.inl (v 4 k)), some (.inl (row * 12 + col)), some (.inl (seenC v (v 5 k) (row * 12 + col))), some (.inl col), some (.inl row), some (.inl (row * 12 + col)), some (.inl (seenC v (v 5 k) (row * 12 + col)))]) dX6_lookout_131 (Nat.le_of_ble_eq_true rfl) rfl ?_
                    refine X.iinc (y := row + 1) (lv2 := [some (.inr (some 0)), some (.inl k), some (.inl dd), some (.inl (v 4 k)), some (.inl (row * 12 + col)), some (.inl (seenC v (v 5 k) (row * 12 + col))), some (.inl col), some (.inl (row + 1)), some (.inl (row * 12 + col)), some (.inl (seenC v (v 5 k) (row * 12 + col)))]) dX6_lookout_133 rfl rfl rfl ?_
                    refine X.goto (tgt := 50) dX6_lookout_136 (by decide) ?_
                    rw [lkr_step hrow2, stF_t ⟨⟨by omega, Or.inl h79⟩, h122⟩]
                    exact ihrow (row * 12 + col) (seenC v (v 5 k) (row * 12 + col)) (some (.inl (row * 12 + col))) (some (.inl (seenC v (v 5 k) (row * 12 + col)))) (by omega) (by omega)
                · skip
                  refine X.aload_n dX6_lookout_82 rfl ?_
                  refine X.getR dX6_lookout_83 fi_X6_12 sh_0 rfl ?_
                  refine X.iload dX6_lookout_86 rfl ?_
                  by_cases pf : v 2 (row * 12 + col) = 0 ∧ sIn v (row * 12 + col) = -19
                  · skip
                    refine X.callV1 (As := [.inl (row * 12 + col)]) (rest := []) dX6_lookout_88 mk_X6_89 sh_1 (CX.bt (c_isFree M v hv hS (row * 12 + col) (by omega)) pf) rfl (by decide) rfl (Nat.le_of_ble_eq_true rfl) ?_
                    refine X.if_eq (tgt := 133) dX6_lookout_91 (by decide) (by decide) (fun h => absurd h (by decide)) (fun h10 => ?_)
                    refine X.aload_n dX6_lookout_94 rfl ?_
                    refine X.getR dX6_lookout_95 fi_X6_19 sh_0 rfl ?_
                    refine X.aload_n dX6_lookout_98 rfl ?_
                    refine X.getR dX6_lookout_99 fi_X6_12 sh_0 rfl ?_
                    refine X.iload dX6_lookout_102 rfl ?_
                    refine X.aload_n dX6_lookout_104 rfl ?_
                    refine X.getR dX6_lookout_105 fi_X6_12 sh_0 rfl ?_
                    refine X.getR dX6_lookout_108 fi_X6_189 sh_1 rfl ?_
                    refine X.iload_n dX6_lookout_111 rfl ?_
                    have q11 := SI.r5 hS k
                    refine X.iald (v := v 5 k) dX6_lookout_112 sh_6 (by decide) (by omega) (rd_5 hv (by omega)) ?_
                    refine X.callV1 (As := [.inr (some 1), .inl (row * 12 + col), .inl (v 5 k)]) (rest := []) dX6_lookout_113 mk_X6_226 sh_21 (c_countSeenFrom M v hv hS (row * 12 + col) (v 5 k) (by omega) (by omega) hG.1) rfl (by decide) rfl (Nat.le_of_ble_eq_true rfl) ?_
                    have hsr := cnt_range (fun x => see v (row * 12 + col) (v 5 k) x) 120 0
                    have hsr2 : 0 ≤ seenC v (v 5 k) (row * 12 + col) ∧ seenC v (v 5 k) (row * 12 + col) ≤ 120 := hsr
                    refine X.istore (lv2 := [some (.inr (some 0)), some (.inl k), some (.inl dd), some (.inl (v 4 k)), some (.inl best), some (.inl most), some (.inl col), some (.inl row), some (.inl (row * 12 + col)), some (.inl (seenC v (v 5 k) (row * 12 + col)))]) dX6_lookout_116 (Nat.le_of_ble_eq_true rfl) rfl ?_
                    refine X.iload dX6_lookout_118 rfl ?_
                    refine X.iload dX6_lookout_120 rfl ?_
                    refine X.icmp_le (tgt := 133) dX6_lookout_122 (by decide) ⟨by omega, by omega⟩ ⟨by omega, by omega⟩ (fun h122 => ?_) (fun h122 => ?_)
                    · skip
                      refine X.iinc (y := row + 1) (lv2 := [some (.inr (some 0)), some (.inl k), some (.inl dd), some (.inl (v 4 k)), some (.inl best), some (.inl most), some (.inl col), some (.inl (row + 1)), some (.inl (row * 12 + col)), some (.inl (seenC v (v 5 k) (row * 12 + col)))]) dX6_lookout_133 rfl rfl rfl ?_
                      refine X.goto (tgt := 50) dX6_lookout_136 (by decide) ?_
                      rw [lkr_step hrow2, stF_f (by rintro ⟨⟨q1, q2⟩, q3⟩; first | omega | (rcases q2 with q | q <;> first | exact absurd q h79 | exact absurd q pf))]
                      exact ihrow best most (some (.inl (row * 12 + col))) (some (.inl (seenC v (v 5 k) (row * 12 + col)))) (by omega) (by omega)
                    · skip
                      refine X.iload dX6_lookout_125 rfl ?_
                      refine X.istore (lv2 := [some (.inr (some 0)), some (.inl k), some (.inl dd), some (.inl (v 4 k)), some (.inl best), some (.inl (seenC v (v 5 k) (row * 12 + col))), some (.inl col), some (.inl row), some (.inl (row * 12 + col)), some (.inl (seenC v (v 5 k) (row * 12 + col)))]) dX6_lookout_127 (Nat.le_of_ble_eq_true rfl) rfl ?_
                      refine X.iload dX6_lookout_129 rfl ?_
                      refine X.istore (lv2 := [some (.inr (some 0)), some (.inl k), some (.inl dd), some (.inl (v 4 k)), some (.inl (row * 12 + col)), some (.inl (seenC v (v 5 k) (row * 12 + col))), some (.inl col), some (.inl row), some (.inl (row * 12 + col)), some (.inl (seenC v (v 5 k) (row * 12 + col)))]) dX6_lookout_131 (Nat.le_of_ble_eq_true rfl) rfl ?_
                      refine X.iinc (y := row + 1) (lv2 := [some (.inr (some 0)), some (.inl k), some (.inl dd), some (.inl (v 4 k)), some (.inl (row * 12 + col)), some (.inl (seenC v (v 5 k) (row * 12 + col))), some (.inl col), some (.inl (row + 1)), some (.inl (row * 12 + col)), some (.inl (seenC v (v 5 k) (row * 12 + col)))]) dX6_lookout_133 rfl rfl rfl ?_
                      refine X.goto (tgt := 50) dX6_lookout_136 (by decide) ?_
                      rw [lkr_step hrow2, stF_t ⟨⟨by omega, Or.inr pf⟩, h122⟩]
                      exact ihrow (row * 12 + col) (seenC v (v 5 k) (row * 12 + col)) (some (.inl (row * 12 + col))) (some (.inl (seenC v (v 5 k) (row * 12 + col)))) (by omega) (by omega)
                  · skip
                    refine X.callV1 (As := [.inl (row * 12 + col)]) (rest := []) dX6_lookout_88 mk_X6_89 sh_1 (CX.bf (c_isFree M v hv hS (row * 12 + col) (by omega)) pf) rfl (by decide) rfl (Nat.le_of_ble_eq_true rfl) ?_
                    refine X.if_eq (tgt := 133) dX6_lookout_91 (by decide) (by decide) (fun h12 => ?_) (fun h => absurd h (by decide))
                    refine X.iinc (y := row + 1) (lv2 := [some (.inr (some 0)), some (.inl k), some (.inl dd), some (.inl (v 4 k)), some (.inl best), some (.inl most), some (.inl col), some (.inl (row + 1)), some (.inl (row * 12 + col)), x9]) dX6_lookout_133 rfl rfl rfl ?_
                    refine X.goto (tgt := 50) dX6_lookout_136 (by decide) ?_
                    rw [lkr_step hrow2, stF_f (by rintro ⟨⟨q1, q2⟩, q3⟩; first | omega | (rcases q2 with q | q <;> first | exact absurd q h79 | exact absurd q pf))]
                    exact ihrow best most (some (.inl (row * 12 + col))) x9 (by omega) (by omega)
          exact L50 0 (by omega) (by omega) best most x8 x9 hb hm
      have e := L40 0 (by omega) (by omega) (v 4 k) 0 none none none (by omega) (by omega)
      unfold qLook
      rw [if_pos p1, if_pos p2]
      exact e
    · skip
      refine X.callS1 (As := [.inl dd, .inl 0, .inl 11]) (rest := []) dX6_lookout_12 mk_X6_48 (CX.bf (c_isWithin M dd 0 11 ⟨by omega, by omega⟩ (by decide) (by decide)) p2) rfl (by decide) rfl (Nat.le_of_ble_eq_true rfl) ?_
      refine X.if_ne (tgt := 21) dX6_lookout_15 (by decide) (by decide) (fun h => absurd h (by decide)) (fun h13 => ?_)
      refine X.bipush dX6_lookout_18 (by decide) ?_
      exact X.iret dX6_lookout_20 rfl (by unfold qLook; first | rw [if_neg p1] | rw [if_pos p1, if_neg p2]) rfl
  · skip
    refine X.callV1 (As := [.inl k]) (rest := []) dX6_lookout_2 mk_X6_100 sh_0 (CX.bf (c_isScout M v hv hS k ⟨by omega, by omega⟩) p1) rfl (by decide) rfl (Nat.le_of_ble_eq_true rfl) ?_
    refine X.if_eq (tgt := 18) dX6_lookout_5 (by decide) (by decide) (fun h14 => ?_) (fun h => absurd h (by decide))
    refine X.bipush dX6_lookout_18 (by decide) ?_
    exact X.iret dX6_lookout_20 rfl (by unfold qLook; first | rw [if_neg p1] | rw [if_pos p1, if_neg p2]) rfl
