/-! ===== the model's lookout ===== -/
def mlP (v : Vw) (k own dd x : Int) : Prop := v 2 x = 0 ∧ (sIn v x = -19 ∨ sIn v x = k) ∧ dist own x ≤ dd
noncomputable def mstF (v : Vw) (k own rg dd x : Int) (s : Int × Int) : Int × Int := @ite _ (mlP v k own dd x ∧ s.2 < seenC v rg x) (Classical.propDecidable _) (100 * (x % 12) + x / 12, seenC v rg x) s
theorem mstF_t {v : Vw} {k own rg dd x b m y : Int} (h : mlP v k own dd x ∧ m < seenC v rg x) (hy : y = 100 * (x % 12) + x / 12) : mstF v k own rg dd x (b, m) = (y, seenC v rg x) := by rw [hy]; exact if_pos h
theorem mstF_f {v : Vw} {k own rg dd x b m : Int} (h : ¬ (mlP v k own dd x ∧ m < seenC v rg x)) : mstF v k own rg dd x (b, m) = (b, m) := if_neg h
noncomputable def qLookM (v : Vw) (k dd : Int) : Int := if (0 ≤ k ∧ k ≤ v 0 0 - 1) then (if (0 ≤ dd ∧ dd ≤ 11) then (lkc (mstF v k (v 4 k) (v 5 k) dd) 12 0 (-19, -1)).1 else -11) else -11
theorem cnt_pos {P : Int → Prop} : ∀ (n : Nat) (k i : Int), k ≤ i → i < k + n → P i → 1 ≤ cnt P n k
  | 0, _, _, a, b, _ => by omega
  | n + 1, k, i, a, b, p => by
    simp only [cnt]
    have h0 := bi_ge (P k)
    have h1 := cnt_range P n (k + 1)
    by_cases e : i = k
    · subst e; rw [bi_t p]; omega
    · have := cnt_pos n (k + 1) i (by omega) (by omega) p; omega
theorem dist_self (a : Int) : dist a a = 0 := by unfold dist imax iabs; split <;> split <;> omega
theorem seenC_pos {v : Vw} {rg x : Int} (hx : 0 ≤ x ∧ x < 120) (hr : 0 ≤ rg) : 1 ≤ seenC v rg x := by
  refine cnt_pos 120 0 x hx.1 (by omega) ⟨Or.inl (by rw [dist_self]; exact hr), fun i a b => ?_⟩
  rw [dist_self] at b; omega
theorem lkr_hit {σ : Type} {f : Int → σ → σ} {P : σ → Prop} {x0 : Int} (hp : ∀ x s, 0 ≤ x ∧ x < 120 → P s → P (f x s)) (h0 : ∀ s, P (f x0 s)) : ∀ (n : Nat) (c r : Int) (s : σ), (0 ≤ c ∧ c < 12) → 0 ≤ r → r + n ≤ 10 → ((r ≤ x0 / 12 ∧ x0 / 12 < r + n ∧ x0 % 12 = c) ∨ P s) → P (lkr f n c r s)
  | 0, _, _, _, _, _, _, q => q.elim (fun z => by omega) id
  | n + 1, c, r, s, hc, hr, hn, q => by
    refine lkr_hit hp h0 n c (r + 1) _ hc (by omega) (by omega) ?_
    rcases q with q | q
    · by_cases e : x0 / 12 = r
      · right
        have : r * 12 + c = x0 := by omega
        rw [this]; exact h0 s
      · left; omega
    · exact Or.inr (hp _ _ (by omega) q)
theorem lkc_hit {σ : Type} {f : Int → σ → σ} {P : σ → Prop} {x0 : Int} (hx : 0 ≤ x0 ∧ x0 < 120) (hp : ∀ x s, 0 ≤ x ∧ x < 120 → P s → P (f x s)) (h0 : ∀ s, P (f x0 s)) : ∀ (n : Nat) (c : Int) (s : σ), 0 ≤ c → c + n ≤ 12 → ((c ≤ x0 % 12 ∧ x0 % 12 < c + n) ∨ P s) → P (lkc f n c s)
  | 0, _, _, _, _, q => q.elim (fun z => by omega) id
  | n + 1, c, s, hc, hn, q => by
    refine lkc_hit hx hp h0 n (c + 1) _ (by omega) (by omega) ?_
    by_cases e : x0 % 12 = c
    · right; exact lkr_hit hp h0 10 c 0 s (by omega) (by omega) (by omega) (Or.inl (by omega))
    · rcases q with q | q
      · left; omega
      · right; exact lkr_hit hp h0 10 c 0 s (by omega) (by omega) (by omega) (Or.inr q)
/-- both take the same cells -/
theorem lkP_iff {v : Vw} (hS : SI v) {k dd x : Int} (hk : 0 ≤ k ∧ k < v 0 0) : lkP v (v 4 k) dd x ↔ mlP v k (v 4 k) dd x := by
  have hr := sIn_range hS x
  constructor
  · rintro ⟨a, rfl | ⟨b, c⟩⟩
    · refine ⟨(hS.on hk.1 hk.2).2, ?_, a⟩
      rcases hr with h | ⟨h1, h2, h3⟩
      · exact Or.inl h
      · right
        by_cases e1 : sIn v (v 4 k) < k
        · exact absurd h3 (hS.ne h1 e1 hk.2)
        · by_cases e2 : k < sIn v (v 4 k)
          · exact absurd h3.symm (hS.ne hk.1 e2 h2)
          · omega
    · exact ⟨b, Or.inl c, a⟩
  · rintro ⟨a, b, c⟩
    refine ⟨c, ?_⟩
    rcases b with b | b
    · exact Or.inr ⟨a, b⟩
    · rcases hr with h | ⟨h1, h2, h3⟩
      · omega
      · left; rw [← h3, b]
theorem qLook_eq {v : Vw} (hS : SI v) {k dd : Int} : qLookM v k dd = qLook v k dd := by
  unfold qLookM qLook
  by_cases hk : 0 ≤ k ∧ k ≤ v 0 0 - 1
  · by_cases hd : 0 ≤ dd ∧ dd ≤ 11
    · rw [if_pos hk, if_pos hd, if_pos hk, if_pos hd]
      have hk2 : 0 ≤ k ∧ k < v 0 0 := by omega
      have h5 := hS.r5 k
      have hpos : ∀ x, 0 ≤ x ∧ x < 120 → 1 ≤ seenC v (v 5 k) x := fun x hx => seenC_pos hx h5.1
      have hrel := lkc_rel (f := stF v (v 4 k) (v 5 k) dd) (g := mstF v k (v 4 k) (v 5 k) dd) (R := fun s t => (1 ≤ t.2 ∧ s.2 = t.2 ∧ t.1 = finF s) ∨ (s = (v 4 k, 0) ∧ t = (-19, -1))) (fun x s t hx hr => by
        have hi := lkP_iff hS (dd := dd) (x := x) hk2
        have hp := hpos x hx
        obtain ⟨s1, s2⟩ := s
        obtain ⟨t1, t2⟩ := t
        by_cases hP : lkP v (v 4 k) dd x
        · rcases hr with ⟨a, b, c⟩ | ⟨a, b⟩
          · replace a : 1 ≤ t2 := a
            replace b : s2 = t2 := b
            by_cases hl : t2 < seenC v (v 5 k) x
            · rw [stF_t ⟨hP, by omega⟩, mstF_t ⟨hi.mp hP, hl⟩ rfl]
              exact Or.inl ⟨hp, rfl, rfl⟩
            · rw [stF_f (fun q => by have := q.2; omega), mstF_f (fun q => hl q.2)]
              exact Or.inl ⟨a, b, c⟩
          · obtain ⟨rfl, rfl⟩ := Prod.mk.inj a
            obtain ⟨rfl, rfl⟩ := Prod.mk.inj b
            rw [stF_t ⟨hP, by omega⟩, mstF_t ⟨hi.mp hP, by omega⟩ rfl]
            exact Or.inl ⟨hp, rfl, rfl⟩
        · rw [stF_f (fun q => hP q.1), mstF_f (fun q => hP (hi.mpr q.1))]; exact hr) 12 0 (v 4 k, 0) (-19, -1) (Int.le_refl _) (by decide) (Or.inr ⟨rfl, rfl⟩)
      have hhit := lkc_hit (f := mstF v k (v 4 k) (v 5 k) dd) (P := fun t => 1 ≤ t.2) (x0 := v 4 k) (hS.r4 k) (fun x s hx q => by
        obtain ⟨s1, s2⟩ := s
        have hp := hpos x hx
        by_cases hl : mlP v k (v 4 k) dd x ∧ s2 < seenC v (v 5 k) x
        · rw [mstF_t hl rfl]; exact hp
        · rw [mstF_f hl]; exact q) (fun s => by
        obtain ⟨s1, s2⟩ := s
        have hp := hpos (v 4 k) (hS.r4 k)
        have hP : mlP v k (v 4 k) dd (v 4 k) := (lkP_iff hS hk2).mp ⟨by rw [dist_self]; exact hd.1, Or.inl rfl⟩
        by_cases hl : s2 < seenC v (v 5 k) (v 4 k)
        · rw [mstF_t ⟨hP, hl⟩ rfl]; exact hp
        · rw [mstF_f (fun q => hl q.2)]; show 1 ≤ s2; omega) 12 0 (-19, -1) (Int.le_refl _) (by decide) (Or.inl (by omega))
      rcases hrel with ⟨_, _, c⟩ | ⟨_, b⟩
      · exact c
      · rw [b] at hhit; exact absurd hhit (by decide)
    · rw [if_pos hk, if_neg hd, if_pos hk, if_neg hd]
  · rw [if_neg hk, if_neg hk]
set_option maxHeartbeats 4000000 in
set_option maxRecDepth 100000 in
theorem c_mlookout (M : Mem) (v : Vw) (z : Int) (H : Int → Vw) (tl : Int) (T : Int → Int) (hR : RM M (v, z, H, tl, T)) (k dd : Int) (hk : inR k) (hdd : inR dd) : CQ mX7_lookout 6 [.inr (some 132), .inl k, .inl dd] M (OUTM M (qLookM v k dd, (v, z, H, tl, T))) := by
  refine CX.of (by decide +kernel) (Nat.le_of_ble_eq_true rfl) [some (.inr (some 132)), some (.inl k), some (.inl dd), none, none, none, none, none, none, none] rfl ?_
  refine X.aload_n dX7_lookout_0 rfl ?_
  refine X.iconst dX7_lookout_1 ?_
  refine X.putI 0 0 rfl dX7_lookout_2 fi_X7_25 sh_132 rfl rfl ?_
  have hR0 : RM (mset M 132 0 0) (v, z, H, tl, T) := hR.thrown
  have hf0 : ∀ a, a < 132 → mset M 132 0 0 a = M a := fun a ha => mset_row (by omega)
  generalize mset M 132 0 0 = M0 at hR0 hf0 ⊢
  have hW0 : WF (M0 133) v := hR0.1
  have hv : WA (M0 133) v := hR0.1.wa
  have hw : WM (M0 133) v := hR0.1.ww
  have hS : SI v := hR0.1.2.2
  have hz : M0 132 4 = z := hR0.2.1
  have hz1 : 0 ≤ z ∧ z ≤ 5 := hR0.2.2.1
  have htl : M0 132 6 = tl := hR0.2.2.2.2.1
  have htb : 0 ≤ tl ∧ tl ≤ 120 := hR0.2.2.2.2.2.1
  have n0 := hS.n0
  have n1 := hS.n1
  have n2 := hS.n2
  refine X.aload_n dX7_lookout_5 rfl ?_
  refine X.iload_n dX7_lookout_6 rfl ?_
  by_cases p1 : 0 ≤ k ∧ k ≤ v 0 0 - 1
  · skip
    refine X.callV1 (As := [.inl k]) (rest := []) dX7_lookout_7 mk_X7_120 sh_132 (CX.bt (c_misScout M0 v hv hS k ⟨by omega, by omega⟩) p1) rfl (by decide) rfl (Nat.le_of_ble_eq_true rfl) ?_
    refine X.if_eq (tgt := 23) dX7_lookout_10 (by decide) (by decide) (fun h => absurd h (by decide)) (fun h1 => ?_)
    refine X.iload_n dX7_lookout_13 rfl ?_
    refine X.iconst dX7_lookout_14 ?_
    refine X.bipush dX7_lookout_15 (by decide) ?_
    by_cases p2 : 0 ≤ dd ∧ dd ≤ 11
    · skip
      refine X.callS1 (As := [.inl dd, .inl 0, .inl 11]) (rest := []) dX7_lookout_17 mk_X7_32 (CX.bt (c_in M0 dd 0 11 ⟨by omega, by omega⟩ (by decide) (by decide)) p2) rfl (by decide) rfl (Nat.le_of_ble_eq_true rfl) ?_
      refine X.if_ne (tgt := 26) dX7_lookout_20 (by decide) (by decide) (fun h2 => ?_) (fun h => absurd h (by decide))
      refine X.bipush dX7_lookout_26 (by decide) ?_
      refine X.istore_n (lv2 := [some (.inr (some 132)), some (.inl k), some (.inl dd), some (.inl (-19)), none, none, none, none, none, none]) dX7_lookout_28 (Nat.le_of_ble_eq_true rfl) rfl ?_
      refine X.iconst dX7_lookout_29 ?_
      refine X.istore (lv2 := [some (.inr (some 132)), some (.inl k), some (.inl dd), some (.inl (-19)), some (.inl (-1)), none, none, none, none, none]) dX7_lookout_30 (Nat.le_of_ble_eq_true rfl) rfl ?_
      refine X.iconst dX7_lookout_32 ?_
      refine X.istore (lv2 := [some (.inr (some 132)), some (.inl k), some (.inl dd), some (.inl (-19)), some (.inl (-1)), some (.inl 0), none, none, none, none]) dX7_lookout_33 (Nat.le_of_ble_eq_true rfl) rfl ?_
      have L35 : ∀ col, 0 ≤ col → col ≤ 12 → ∀ best : Int, ∀ most : Int, ∀ x6 : Option AV, ∀ x7 : Option AV, ∀ x8 : Option AV, ∀ x9 : Option AV, (-1 ≤ most ∧ most ≤ 120) → VQ mX7_lookout 6 35 [some (.inr (some 132)), some (.inl k), some (.inl dd), some (.inl best), some (.inl most), some (.inl col), x6, x7, x8, x9] [] M0 (OUTM M ((lkc (mstF v k (v 4 k) (v 5 k) dd) (12 - col).toNat col (best, most)).1, (v, z, H, tl, T))) := by
        refine down_ind 0 12 ?_ ?_
        · skip
          intro best most x6 x7 x8 x9 hm
          rw [lkc_end]
          refine X.iload dX7_lookout_35 rfl ?_
          refine X.bipush dX7_lookout_37 (by decide) ?_
          refine X.icmp_ge (tgt := 181) dX7_lookout_39 (by decide) ⟨by omega, by omega⟩ (by decide) (fun h3 => ?_) (fun h => by exfalso; omega)
          refine X.iload_n dX7_lookout_181 rfl ?_
          exact Y.iret dX7_lookout_182 rfl ⟨rfl, hR0, hf0⟩
        · intro col hcol1 hcol2 ihcol
          intro best most x6 x7 x8 x9 hm
          rw [lkc_step hcol2]
          refine X.iload dX7_lookout_35 rfl ?_
          refine X.bipush dX7_lookout_37 (by decide) ?_
          refine X.icmp_ge (tgt := 181) dX7_lookout_39 (by decide) ⟨by omega, by omega⟩ (by decide) (fun h => by exfalso; omega) (fun h4 => ?_)
          refine X.iconst dX7_lookout_42 ?_
          refine X.istore (lv2 := [some (.inr (some 132)), some (.inl k), some (.inl dd), some (.inl best), some (.inl most), some (.inl col), some (.inl 0), x7, x8, x9]) dX7_lookout_43 (Nat.le_of_ble_eq_true rfl) rfl ?_
          have L45 : ∀ row, 0 ≤ row → row ≤ 10 → ∀ best : Int, ∀ most : Int, ∀ x7 : Option AV, ∀ x8 : Option AV, ∀ x9 : Option AV, (-1 ≤ most ∧ most ≤ 120) → VQ mX7_lookout 6 45 [some (.inr (some 132)), some (.inl k), some (.inl dd), some (.inl best), some (.inl most), some (.inl col), some (.inl row), x7, x8, x9] [] M0 (OUTM M ((lkc (mstF v k (v 4 k) (v 5 k) dd) (12 - (col + 1)).toNat (col + 1) (lkr (mstF v k (v 4 k) (v 5 k) dd) (10 - row).toNat col row (best, most))).1, (v, z, H, tl, T))) := by
            refine down_ind 0 10 ?_ ?_
            · skip
              intro best most x7 x8 x9 hm
              rw [lkr_end]
              refine X.iload dX7_lookout_45 rfl ?_
              refine X.bipush dX7_lookout_47 (by decide) ?_
              refine X.icmp_ge (tgt := 175) dX7_lookout_49 (by decide) ⟨by omega, by omega⟩ (by decide) (fun h5 => ?_) (fun h => by exfalso; omega)
              refine X.iinc (y := col + 1) (lv2 := [some (.inr (some 132)), some (.inl k), some (.inl dd), some (.inl best), some (.inl most), some (.inl (col + 1)), some (.inl 10), x7, x8, x9]) dX7_lookout_175 rfl rfl rfl ?_
              refine X.goto (tgt := 35) dX7_lookout_178 (by decide) ?_
              exact ihcol best most (some (.inl 10)) x7 x8 x9 hm
            · intro row hrow1 hrow2 ihrow
              intro best most x7 x8 x9 hm
              refine X.iload dX7_lookout_45 rfl ?_
              refine X.bipush dX7_lookout_47 (by decide) ?_
              refine X.icmp_ge (tgt := 175) dX7_lookout_49 (by decide) ⟨by omega, by omega⟩ (by decide) (fun h => by exfalso; omega) (fun h6 => ?_)
              refine X.iload dX7_lookout_52 rfl ?_
              refine X.iload dX7_lookout_54 rfl ?_
              refine X.callS1 (As := [.inl col, .inl row]) (rest := []) dX7_lookout_56 mk_X7_46 (c_at M0 col row) rfl (by decide) rfl (Nat.le_of_ble_eq_true rfl) ?_
              refine X.istore (lv2 := [some (.inr (some 132)), some (.inl k), some (.inl dd), some (.inl best), some (.inl most), some (.inl col), some (.inl row), some (.inl (row * 12 + col)), x8, x9]) dX7_lookout_59 (Nat.le_of_ble_eq_true rfl) rfl ?_
              refine X.aload_n dX7_lookout_61 rfl ?_
              refine X.getR dX7_lookout_62 fi_X7_7 sh_132 rfl ?_
              refine X.sipush dX7_lookout_65 (by decide) ?_
              refine X.iload dX7_lookout_68 rfl ?_
              refine X.iadd (c := 188 + (row * 12 + col)) dX7_lookout_70 rfl ?_
              have q7 := SI.r2 hS (row * 12 + col)
              refine X.iald (v := v 2 (row * 12 + col)) dX7_lookout_71 sh_133 (by decide) (by omega) (ws_2 hv (by omega)) ?_
              have hsi := sIn_range hS (row * 12 + col)
              refine X.if_ne (tgt := 114) dX7_lookout_72 (by decide) ⟨by omega, by omega⟩ (fun h8 => ?_) (fun h8 => ?_)
              · skip
                have hP : ¬ mlP v k (v 4 k) dd (row * 12 + col) := fun q => by have q1 := q.1; have q2 := q.2.1; have q3 := q.2.2; omega
                refine X.iconst dX7_lookout_114 ?_
                refine X.istore (lv2 := [some (.inr (some 132)), some (.inl k), some (.inl dd), some (.inl best), some (.inl most), some (.inl col), some (.inl row), some (.inl (row * 12 + col)), some (.inl 0), x9]) dX7_lookout_115 (Nat.le_of_ble_eq_true rfl) rfl ?_
                refine X.iload dX7_lookout_117 rfl ?_
                refine X.if_eq (tgt := 137) dX7_lookout_119 (by decide) (by decide) (fun h9 => ?_) (fun h => absurd h (by decide))
                refine X.iconst dX7_lookout_137 ?_
                refine X.istore (lv2 := [some (.inr (some 132)), some (.inl k), some (.inl dd), some (.inl best), some (.inl most), some (.inl col), some (.inl row), some (.inl (row * 12 + col)), some (.inl 0), some (.inl (-1))]) dX7_lookout_138 (Nat.le_of_ble_eq_true rfl) rfl ?_
                refine X.iload dX7_lookout_140 rfl ?_
                refine X.iload dX7_lookout_142 rfl ?_
                refine X.icmp_le (tgt := 158) dX7_lookout_144 (by decide) (by decide) ⟨by omega, by omega⟩ (fun h144 => ?_) (fun h => by exfalso; omega)
                refine X.iload_n dX7_lookout_158 rfl ?_
                refine X.istore_n (lv2 := [some (.inr (some 132)), some (.inl k), some (.inl dd), some (.inl best), some (.inl most), some (.inl col), some (.inl row), some (.inl (row * 12 + col)), some (.inl 0), some (.inl (-1))]) dX7_lookout_159 (Nat.le_of_ble_eq_true rfl) rfl ?_
                refine X.iload dX7_lookout_160 rfl ?_
                refine X.iload dX7_lookout_162 rfl ?_
                refine X.callS1 (As := [.inl most, .inl (-1)]) (rest := []) dX7_lookout_164 mk_X7_40 (show CX mX7_more 0 [.inl most, .inl (-1)] M0 (some (.inl (most))) M0 from by have e := c_more M0 most (-1) ⟨by omega, by omega⟩ ⟨by omega, by omega⟩; rw [show imax most (-1) = most from by unfold imax; rw [if_neg (by omega)]] at e; exact e) rfl (by decide) rfl (Nat.le_of_ble_eq_true rfl) ?_
                refine X.istore (lv2 := [some (.inr (some 132)), some (.inl k), some (.inl dd), some (.inl best), some (.inl most), some (.inl col), some (.inl row), some (.inl (row * 12 + col)), some (.inl 0), some (.inl (-1))]) dX7_lookout_167 (Nat.le_of_ble_eq_true rfl) rfl ?_
                refine X.iinc (y := row + 1) (lv2 := [some (.inr (some 132)), some (.inl k), some (.inl dd), some (.inl best), some (.inl most), some (.inl col), some (.inl (row + 1)), some (.inl (row * 12 + col)), some (.inl 0), some (.inl (-1))]) dX7_lookout_169 rfl rfl rfl ?_
                refine X.goto (tgt := 45) dX7_lookout_172 (by decide) ?_
                rw [lkr_step hrow2, mstF_f (fun q => hP q.1)]
                exact ihrow best most (some (.inl (row * 12 + col))) (some (.inl 0)) (some (.inl (-1))) (by omega)
              · skip
                refine X.aload_n dX7_lookout_75 rfl ?_
                refine X.iload dX7_lookout_76 rfl ?_
                refine X.callV1 (As := [.inl (row * 12 + col)]) (rest := []) dX7_lookout_78 mk_X7_83 sh_132 (c_mscoutIn M0 v hv hS (row * 12 + col) ⟨by omega, by omega⟩) rfl (by decide) rfl (Nat.le_of_ble_eq_true rfl) ?_
                refine X.bipush dX7_lookout_81 (by decide) ?_
                refine X.icmp_eq (tgt := 96) dX7_lookout_83 (by decide) ⟨by omega, by omega⟩ (by decide) (fun h10 => ?_) (fun h10 => ?_)
                · skip
                  refine X.aload_n dX7_lookout_96 rfl ?_
                  refine X.iload_n dX7_lookout_97 rfl ?_
                  have q11 := SI.r4 hS k
                  refine X.callV1 (As := [.inl k]) (rest := []) dX7_lookout_98 mk_X7_49 sh_132 (c_cellOf M0 v hv hS k (by omega)) rfl (by decide) rfl (Nat.le_of_ble_eq_true rfl) ?_
                  refine X.iload dX7_lookout_101 rfl ?_
                  have hdi := dist_le (hS.r4 k) (show 0 ≤ row * 12 + col ∧ row * 12 + col < 120 by omega)
                  refine X.callS1 (As := [.inl (v 4 k), .inl (row * 12 + col)]) (rest := []) dX7_lookout_103 mk_X7_56 (c_distance M0 (v 4 k) (row * 12 + col) (by omega) (by omega)) rfl (by decide) rfl (Nat.le_of_ble_eq_true rfl) ?_
                  refine X.iload_n dX7_lookout_106 rfl ?_
                  refine X.icmp_gt (tgt := 114) dX7_lookout_107 (by decide) ⟨by omega, by omega⟩ hdd (fun h12 => ?_) (fun h12 => ?_)
                  · skip
                    have hP : ¬ mlP v k (v 4 k) dd (row * 12 + col) := fun q => by have q1 := q.1; have q2 := q.2.1; have q3 := q.2.2; omega
                    refine X.iconst dX7_lookout_114 ?_
                    refine X.istore (lv2 := [some (.inr (some 132)), some (.inl k), some (.inl dd), some (.inl best), some (.inl most), some (.inl col), some (.inl row), some (.inl (row * 12 + col)), some (.inl 0), x9]) dX7_lookout_115 (Nat.le_of_ble_eq_true rfl) rfl ?_
                    refine X.iload dX7_lookout_117 rfl ?_
                    refine X.if_eq (tgt := 137) dX7_lookout_119 (by decide) (by decide) (fun h13 => ?_) (fun h => absurd h (by decide))
                    refine X.iconst dX7_lookout_137 ?_
                    refine X.istore (lv2 := [some (.inr (some 132)), some (.inl k), some (.inl dd), some (.inl best), some (.inl most), some (.inl col), some (.inl row), some (.inl (row * 12 + col)), some (.inl 0), some (.inl (-1))]) dX7_lookout_138 (Nat.le_of_ble_eq_true rfl) rfl ?_
                    refine X.iload dX7_lookout_140 rfl ?_
                    refine X.iload dX7_lookout_142 rfl ?_
                    refine X.icmp_le (tgt := 158) dX7_lookout_144 (by decide) (by decide) ⟨by omega, by omega⟩ (fun h144 => ?_) (fun h => by exfalso; omega)
                    refine X.iload_n dX7_lookout_158 rfl ?_
                    refine X.istore_n (lv2 := [some (.inr (some 132)), some (.inl k), some (.inl dd), some (.inl best), some (.inl most), some (.inl col), some (.inl row), some (.inl (row * 12 + col)), some (.inl 0), some (.inl (-1))]) dX7_lookout_159 (Nat.le_of_ble_eq_true rfl) rfl ?_
                    refine X.iload dX7_lookout_160 rfl ?_
                    refine X.iload dX7_lookout_162 rfl ?_
                    refine X.callS1 (As := [.inl most, .inl (-1)]) (rest := []) dX7_lookout_164 mk_X7_40 (show CX mX7_more 0 [.inl most, .inl (-1)] M0 (some (.inl (most))) M0 from by have e := c_more M0 most (-1) ⟨by omega, by omega⟩ ⟨by omega, by omega⟩; rw [show imax most (-1) = most from by unfold imax; rw [if_neg (by omega)]] at e; exact e) rfl (by decide) rfl (Nat.le_of_ble_eq_true rfl) ?_
                    refine X.istore (lv2 := [some (.inr (some 132)), some (.inl k), some (.inl dd), some (.inl best), some (.inl most), some (.inl col), some (.inl row), some (.inl (row * 12 + col)), some (.inl 0), some (.inl (-1))]) dX7_lookout_167 (Nat.le_of_ble_eq_true rfl) rfl ?_
                    refine X.iinc (y := row + 1) (lv2 := [some (.inr (some 132)), some (.inl k), some (.inl dd), some (.inl best), some (.inl most), some (.inl col), some (.inl (row + 1)), some (.inl (row * 12 + col)), some (.inl 0), some (.inl (-1))]) dX7_lookout_169 rfl rfl rfl ?_
                    refine X.goto (tgt := 45) dX7_lookout_172 (by decide) ?_
                    rw [lkr_step hrow2, mstF_f (fun q => hP q.1)]
                    exact ihrow best most (some (.inl (row * 12 + col))) (some (.inl 0)) (some (.inl (-1))) (by omega)
                  · skip
                    have hP : mlP v k (v 4 k) dd (row * 12 + col) := ⟨by omega, by omega, by omega⟩
                    refine X.iconst dX7_lookout_110 ?_
                    refine X.goto (tgt := 115) dX7_lookout_111 (by decide) ?_
                    refine X.istore (lv2 := [some (.inr (some 132)), some (.inl k), some (.inl dd), some (.inl best), some (.inl most), some (.inl col), some (.inl row), some (.inl (row * 12 + col)), some (.inl 1), x9]) dX7_lookout_115 (Nat.le_of_ble_eq_true rfl) rfl ?_
                    refine X.iload dX7_lookout_117 rfl ?_
                    refine X.if_eq (tgt := 137) dX7_lookout_119 (by decide) (by decide) (fun h => absurd h (by decide)) (fun h14 => ?_)
                    refine X.aload_n dX7_lookout_122 rfl ?_
                    refine X.iload dX7_lookout_123 rfl ?_
                    refine X.aload_n dX7_lookout_125 rfl ?_
                    refine X.iload_n dX7_lookout_126 rfl ?_
                    refine X.iconst dX7_lookout_127 ?_
                    have q15 := SI.r5 hS k
                    refine X.callV1 (As := [.inl k, .inl 3]) (rest := [.inl (row * 12 + col), .inr (some 132)]) dX7_lookout_128 mk_X7_43 sh_132 (c_ofScout_3 M0 v hv hS k (by omega)) rfl (by decide) rfl (Nat.le_of_ble_eq_true rfl) ?_
                    refine X.callV1 (As := [.inl (row * 12 + col), .inl (v 5 k)]) (rest := []) dX7_lookout_131 mk_X7_145 sh_132 (c_seenFrom M0 v hv hS (row * 12 + col) (v 5 k) (by omega) (by omega)) rfl (by decide) rfl (Nat.le_of_ble_eq_true rfl) ?_
                    have hsr : 0 ≤ seenC v (v 5 k) (row * 12 + col) ∧ seenC v (v 5 k) (row * 12 + col) ≤ 120 := cnt_range (fun x => see v (row * 12 + col) (v 5 k) x) 120 0
                    refine X.goto (tgt := 138) dX7_lookout_134 (by decide) ?_
                    refine X.istore (lv2 := [some (.inr (some 132)), some (.inl k), some (.inl dd), some (.inl best), some (.inl most), some (.inl col), some (.inl row), some (.inl (row * 12 + col)), some (.inl 1), some (.inl (seenC v (v 5 k) (row * 12 + col)))]) dX7_lookout_138 (Nat.le_of_ble_eq_true rfl) rfl ?_
                    refine X.iload dX7_lookout_140 rfl ?_
                    refine X.iload dX7_lookout_142 rfl ?_
                    refine X.icmp_le (tgt := 158) dX7_lookout_144 (by decide) ⟨by omega, by omega⟩ ⟨by omega, by omega⟩ (fun h144 => ?_) (fun h144 => ?_)
                    · skip
                      refine X.iload_n dX7_lookout_158 rfl ?_
                      refine X.istore_n (lv2 := [some (.inr (some 132)), some (.inl k), some (.inl dd), some (.inl best), some (.inl most), some (.inl col), some (.inl row), some (.inl (row * 12 + col)), some (.inl 1), some (.inl (seenC v (v 5 k) (row * 12 + col)))]) dX7_lookout_159 (Nat.le_of_ble_eq_true rfl) rfl ?_
                      refine X.iload dX7_lookout_160 rfl ?_
                      refine X.iload dX7_lookout_162 rfl ?_
                      refine X.callS1 (As := [.inl most, .inl (seenC v (v 5 k) (row * 12 + col))]) (rest := []) dX7_lookout_164 mk_X7_40 (show CX mX7_more 0 [.inl most, .inl (seenC v (v 5 k) (row * 12 + col))] M0 (some (.inl (most))) M0 from by have e := c_more M0 most (seenC v (v 5 k) (row * 12 + col)) ⟨by omega, by omega⟩ ⟨by omega, by omega⟩; rw [show imax most (seenC v (v 5 k) (row * 12 + col)) = most from by unfold imax; rw [if_neg (by omega)]] at e; exact e) rfl (by decide) rfl (Nat.le_of_ble_eq_true rfl) ?_
                      refine X.istore (lv2 := [some (.inr (some 132)), some (.inl k), some (.inl dd), some (.inl best), some (.inl most), some (.inl col), some (.inl row), some (.inl (row * 12 + col)), some (.inl 1), some (.inl (seenC v (v 5 k) (row * 12 + col)))]) dX7_lookout_167 (Nat.le_of_ble_eq_true rfl) rfl ?_
                      refine X.iinc (y := row + 1) (lv2 := [some (.inr (some 132)), some (.inl k), some (.inl dd), some (.inl best), some (.inl most), some (.inl col), some (.inl (row + 1)), some (.inl (row * 12 + col)), some (.inl 1), some (.inl (seenC v (v 5 k) (row * 12 + col)))]) dX7_lookout_169 rfl rfl rfl ?_
                      refine X.goto (tgt := 45) dX7_lookout_172 (by decide) ?_
                      rw [lkr_step hrow2, mstF_f (fun q => by have := q.2; omega)]
                      exact ihrow best most (some (.inl (row * 12 + col))) (some (.inl 1)) (some (.inl (seenC v (v 5 k) (row * 12 + col)))) (by omega)
                    · skip
                      refine X.bipush dX7_lookout_147 (by decide) ?_
                      refine X.iload dX7_lookout_149 rfl ?_
                      refine X.imul (c := 100 * col) dX7_lookout_151 rfl ?_
                      refine X.iload dX7_lookout_152 rfl ?_
                      refine X.iadd (c := (100 * col) + row) dX7_lookout_154 rfl ?_
                      refine X.goto (tgt := 159) dX7_lookout_155 (by decide) ?_
                      refine X.istore_n (lv2 := [some (.inr (some 132)), some (.inl k), some (.inl dd), some (.inl ((100 * col) + row)), some (.inl most), some (.inl col), some (.inl row), some (.inl (row * 12 + col)), some (.inl 1), some (.inl (seenC v (v 5 k) (row * 12 + col)))]) dX7_lookout_159 (Nat.le_of_ble_eq_true rfl) rfl ?_
                      refine X.iload dX7_lookout_160 rfl ?_
                      refine X.iload dX7_lookout_162 rfl ?_
                      refine X.callS1 (As := [.inl most, .inl (seenC v (v 5 k) (row * 12 + col))]) (rest := []) dX7_lookout_164 mk_X7_40 (show CX mX7_more 0 [.inl most, .inl (seenC v (v 5 k) (row * 12 + col))] M0 (some (.inl (seenC v (v 5 k) (row * 12 + col)))) M0 from by have e := c_more M0 most (seenC v (v 5 k) (row * 12 + col)) ⟨by omega, by omega⟩ ⟨by omega, by omega⟩; rw [show imax most (seenC v (v 5 k) (row * 12 + col)) = seenC v (v 5 k) (row * 12 + col) from by unfold imax; rw [if_pos (by omega)]] at e; exact e) rfl (by decide) rfl (Nat.le_of_ble_eq_true rfl) ?_
                      refine X.istore (lv2 := [some (.inr (some 132)), some (.inl k), some (.inl dd), some (.inl ((100 * col) + row)), some (.inl (seenC v (v 5 k) (row * 12 + col))), some (.inl col), some (.inl row), some (.inl (row * 12 + col)), some (.inl 1), some (.inl (seenC v (v 5 k) (row * 12 + col)))]) dX7_lookout_167 (Nat.le_of_ble_eq_true rfl) rfl ?_
                      refine X.iinc (y := row + 1) (lv2 := [some (.inr (some 132)), some (.inl k), some (.inl dd), some (.inl ((100 * col) + row)), some (.inl (seenC v (v 5 k) (row * 12 + col))), some (.inl col), some (.inl (row + 1)), some (.inl (row * 12 + col)), some (.inl 1), some (.inl (seenC v (v 5 k) (row * 12 + col)))]) dX7_lookout_169 rfl rfl rfl ?_
                      refine X.goto (tgt := 45) dX7_lookout_172 (by decide) ?_
                      rw [lkr_step hrow2, mstF_t (y := 100 * col + row) ⟨hP, h144⟩ (by omega)]
                      exact ihrow ((100 * col) + row) (seenC v (v 5 k) (row * 12 + col)) (some (.inl (row * 12 + col))) (some (.inl 1)) (some (.inl (seenC v (v 5 k) (row * 12 + col)))) (by omega)
                · skip
                  refine X.aload_n dX7_lookout_86 rfl ?_
                  refine X.iload dX7_lookout_87 rfl ?_
                  refine X.callV1 (As := [.inl (row * 12 + col)]) (rest := []) dX7_lookout_89 mk_X7_83 sh_132 (c_mscoutIn M0 v hv hS (row * 12 + col) ⟨by omega, by omega⟩) rfl (by decide) rfl (Nat.le_of_ble_eq_true rfl) ?_
                  refine X.iload_n dX7_lookout_92 rfl ?_
                  refine X.icmp_ne (tgt := 114) dX7_lookout_93 (by decide) ⟨by omega, by omega⟩ hk (fun h16 => ?_) (fun h16 => ?_)
                  · skip
                    have hP : ¬ mlP v k (v 4 k) dd (row * 12 + col) := fun q => by have q1 := q.1; have q2 := q.2.1; have q3 := q.2.2; omega
                    refine X.iconst dX7_lookout_114 ?_
                    refine X.istore (lv2 := [some (.inr (some 132)), some (.inl k), some (.inl dd), some (.inl best), some (.inl most), some (.inl col), some (.inl row), some (.inl (row * 12 + col)), some (.inl 0), x9]) dX7_lookout_115 (Nat.le_of_ble_eq_true rfl) rfl ?_
                    refine X.iload dX7_lookout_117 rfl ?_
                    refine X.if_eq (tgt := 137) dX7_lookout_119 (by decide) (by decide) (fun h17 => ?_) (fun h => absurd h (by decide))
                    refine X.iconst dX7_lookout_137 ?_
                    refine X.istore (lv2 := [some (.inr (some 132)), some (.inl k), some (.inl dd), some (.inl best), some (.inl most), some (.inl col), some (.inl row), some (.inl (row * 12 + col)), some (.inl 0), some (.inl (-1))]) dX7_lookout_138 (Nat.le_of_ble_eq_true rfl) rfl ?_
                    refine X.iload dX7_lookout_140 rfl ?_
                    refine X.iload dX7_lookout_142 rfl ?_
                    refine X.icmp_le (tgt := 158) dX7_lookout_144 (by decide) (by decide) ⟨by omega, by omega⟩ (fun h144 => ?_) (fun h => by exfalso; omega)
                    refine X.iload_n dX7_lookout_158 rfl ?_
                    refine X.istore_n (lv2 := [some (.inr (some 132)), some (.inl k), some (.inl dd), some (.inl best), some (.inl most), some (.inl col), some (.inl row), some (.inl (row * 12 + col)), some (.inl 0), some (.inl (-1))]) dX7_lookout_159 (Nat.le_of_ble_eq_true rfl) rfl ?_
                    refine X.iload dX7_lookout_160 rfl ?_
                    refine X.iload dX7_lookout_162 rfl ?_
                    refine X.callS1 (As := [.inl most, .inl (-1)]) (rest := []) dX7_lookout_164 mk_X7_40 (show CX mX7_more 0 [.inl most, .inl (-1)] M0 (some (.inl (most))) M0 from by have e := c_more M0 most (-1) ⟨by omega, by omega⟩ ⟨by omega, by omega⟩; rw [show imax most (-1) = most from by unfold imax; rw [if_neg (by omega)]] at e; exact e) rfl (by decide) rfl (Nat.le_of_ble_eq_true rfl) ?_
                    refine X.istore (lv2 := [some (.inr (some 132)), some (.inl k), some (.inl dd), some (.inl best), some (.inl most), some (.inl col), some (.inl row), some (.inl (row * 12 + col)), some (.inl 0), some (.inl (-1))]) dX7_lookout_167 (Nat.le_of_ble_eq_true rfl) rfl ?_
                    refine X.iinc (y := row + 1) (lv2 := [some (.inr (some 132)), some (.inl k), some (.inl dd), some (.inl best), some (.inl most), some (.inl col), some (.inl (row + 1)), some (.inl (row * 12 + col)), some (.inl 0), some (.inl (-1))]) dX7_lookout_169 rfl rfl rfl ?_
                    refine X.goto (tgt := 45) dX7_lookout_172 (by decide) ?_
                    rw [lkr_step hrow2, mstF_f (fun q => hP q.1)]
                    exact ihrow best most (some (.inl (row * 12 + col))) (some (.inl 0)) (some (.inl (-1))) (by omega)
                  · skip
                    refine X.aload_n dX7_lookout_96 rfl ?_
                    refine X.iload_n dX7_lookout_97 rfl ?_
                    have q18 := SI.r4 hS k
                    refine X.callV1 (As := [.inl k]) (rest := []) dX7_lookout_98 mk_X7_49 sh_132 (c_cellOf M0 v hv hS k (by omega)) rfl (by decide) rfl (Nat.le_of_ble_eq_true rfl) ?_
                    refine X.iload dX7_lookout_101 rfl ?_
                    have hdi := dist_le (hS.r4 k) (show 0 ≤ row * 12 + col ∧ row * 12 + col < 120 by omega)
                    refine X.callS1 (As := [.inl (v 4 k), .inl (row * 12 + col)]) (rest := []) dX7_lookout_103 mk_X7_56 (c_distance M0 (v 4 k) (row * 12 + col) (by omega) (by omega)) rfl (by decide) rfl (Nat.le_of_ble_eq_true rfl) ?_
                    refine X.iload_n dX7_lookout_106 rfl ?_
                    refine X.icmp_gt (tgt := 114) dX7_lookout_107 (by decide) ⟨by omega, by omega⟩ hdd (fun h19 => ?_) (fun h19 => ?_)
                    · skip
                      have hP : ¬ mlP v k (v 4 k) dd (row * 12 + col) := fun q => by have q1 := q.1; have q2 := q.2.1; have q3 := q.2.2; omega
                      refine X.iconst dX7_lookout_114 ?_
                      refine X.istore (lv2 := [some (.inr (some 132)), some (.inl k), some (.inl dd), some (.inl best), some (.inl most), some (.inl col), some (.inl row), some (.inl (row * 12 + col)), some (.inl 0), x9]) dX7_lookout_115 (Nat.le_of_ble_eq_true rfl) rfl ?_
                      refine X.iload dX7_lookout_117 rfl ?_
                      refine X.if_eq (tgt := 137) dX7_lookout_119 (by decide) (by decide) (fun h20 => ?_) (fun h => absurd h (by decide))
                      refine X.iconst dX7_lookout_137 ?_
                      refine X.istore (lv2 := [some (.inr (some 132)), some (.inl k), some (.inl dd), some (.inl best), some (.inl most), some (.inl col), some (.inl row), some (.inl (row * 12 + col)), some (.inl 0), some (.inl (-1))]) dX7_lookout_138 (Nat.le_of_ble_eq_true rfl) rfl ?_
                      refine X.iload dX7_lookout_140 rfl ?_
                      refine X.iload dX7_lookout_142 rfl ?_
                      refine X.icmp_le (tgt := 158) dX7_lookout_144 (by decide) (by decide) ⟨by omega, by omega⟩ (fun h144 => ?_) (fun h => by exfalso; omega)
                      refine X.iload_n dX7_lookout_158 rfl ?_
                      refine X.istore_n (lv2 := [some (.inr (some 132)), some (.inl k), some (.inl dd), some (.inl best), some (.inl most), some (.inl col), some (.inl row), some (.inl (row * 12 + col)), some (.inl 0), some (.inl (-1))]) dX7_lookout_159 (Nat.le_of_ble_eq_true rfl) rfl ?_
                      refine X.iload dX7_lookout_160 rfl ?_
                      refine X.iload dX7_lookout_162 rfl ?_
                      refine X.callS1 (As := [.inl most, .inl (-1)]) (rest := []) dX7_lookout_164 mk_X7_40 (show CX mX7_more 0 [.inl most, .inl (-1)] M0 (some (.inl (most))) M0 from by have e := c_more M0 most (-1) ⟨by omega, by omega⟩ ⟨by omega, by omega⟩; rw [show imax most (-1) = most from by unfold imax; rw [if_neg (by omega)]] at e; exact e) rfl (by decide) rfl (Nat.le_of_ble_eq_true rfl) ?_
                      refine X.istore (lv2 := [some (.inr (some 132)), some (.inl k), some (.inl dd), some (.inl best), some (.inl most), some (.inl col), some (.inl row), some (.inl (row * 12 + col)), some (.inl 0), some (.inl (-1))]) dX7_lookout_167 (Nat.le_of_ble_eq_true rfl) rfl ?_
                      refine X.iinc (y := row + 1) (lv2 := [some (.inr (some 132)), some (.inl k), some (.inl dd), some (.inl best), some (.inl most), some (.inl col), some (.inl (row + 1)), some (.inl (row * 12 + col)), some (.inl 0), some (.inl (-1))]) dX7_lookout_169 rfl rfl rfl ?_
                      refine X.goto (tgt := 45) dX7_lookout_172 (by decide) ?_
                      rw [lkr_step hrow2, mstF_f (fun q => hP q.1)]
                      exact ihrow best most (some (.inl (row * 12 + col))) (some (.inl 0)) (some (.inl (-1))) (by omega)
                    · skip
                      have hP : mlP v k (v 4 k) dd (row * 12 + col) := ⟨by omega, by omega, by omega⟩
                      refine X.iconst dX7_lookout_110 ?_
                      refine X.goto (tgt := 115) dX7_lookout_111 (by decide) ?_
                      refine X.istore (lv2 := [some (.inr (some 132)), some (.inl k), some (.inl dd), some (.inl best), some (.inl most), some (.inl col), some (.inl row), some (.inl (row * 12 + col)), some (.inl 1), x9]) dX7_lookout_115 (Nat.le_of_ble_eq_true rfl) rfl ?_
                      refine X.iload dX7_lookout_117 rfl ?_
                      refine X.if_eq (tgt := 137) dX7_lookout_119 (by decide) (by decide) (fun h => absurd h (by decide)) (fun h21 => ?_)
                      refine X.aload_n dX7_lookout_122 rfl ?_
                      refine X.iload dX7_lookout_123 rfl ?_
                      refine X.aload_n dX7_lookout_125 rfl ?_
                      refine X.iload_n dX7_lookout_126 rfl ?_
                      refine X.iconst dX7_lookout_127 ?_
                      have q22 := SI.r5 hS k
                      refine X.callV1 (As := [.inl k, .inl 3]) (rest := [.inl (row * 12 + col), .inr (some 132)]) dX7_lookout_128 mk_X7_43 sh_132 (c_ofScout_3 M0 v hv hS k (by omega)) rfl (by decide) rfl (Nat.le_of_ble_eq_true rfl) ?_
                      refine X.callV1 (As := [.inl (row * 12 + col), .inl (v 5 k)]) (rest := []) dX7_lookout_131 mk_X7_145 sh_132 (c_seenFrom M0 v hv hS (row * 12 + col) (v 5 k) (by omega) (by omega)) rfl (by decide) rfl (Nat.le_of_ble_eq_true rfl) ?_
                      have hsr : 0 ≤ seenC v (v 5 k) (row * 12 + col) ∧ seenC v (v 5 k) (row * 12 + col) ≤ 120 := cnt_range (fun x => see v (row * 12 + col) (v 5 k) x) 120 0
                      refine X.goto (tgt := 138) dX7_lookout_134 (by decide) ?_
                      refine X.istore (lv2 := [some (.inr (some 132)), some (.inl k), some (.inl dd), some (.inl best), some (.inl most), some (.inl col), some (.inl row), some (.inl (row * 12 + col)), some (.inl 1), some (.inl (seenC v (v 5 k) (row * 12 + col)))]) dX7_lookout_138 (Nat.le_of_ble_eq_true rfl) rfl ?_
                      refine X.iload dX7_lookout_140 rfl ?_
                      refine X.iload dX7_lookout_142 rfl ?_
                      refine X.icmp_le (tgt := 158) dX7_lookout_144 (by decide) ⟨by omega, by omega⟩ ⟨by omega, by omega⟩ (fun h144 => ?_) (fun h144 => ?_)
                      · skip
                        refine X.iload_n dX7_lookout_158 rfl ?_
                        refine X.istore_n (lv2 := [some (.inr (some 132)), some (.inl k), some (.inl dd), some (.inl best), some (.inl most), some (.inl col), some (.inl row), some (.inl (row * 12 + col)), some (.inl 1), some (.inl (seenC v (v 5 k) (row * 12 + col)))]) dX7_lookout_159 (Nat.le_of_ble_eq_true rfl) rfl ?_
                        refine X.iload dX7_lookout_160 rfl ?_
                        refine X.iload dX7_lookout_162 rfl ?_
                        refine X.callS1 (As := [.inl most, .inl (seenC v (v 5 k) (row * 12 + col))]) (rest := []) dX7_lookout_164 mk_X7_40 (show CX mX7_more 0 [.inl most, .inl (seenC v (v 5 k) (row * 12 + col))] M0 (some (.inl (most))) M0 from by have e := c_more M0 most (seenC v (v 5 k) (row * 12 + col)) ⟨by omega, by omega⟩ ⟨by omega, by omega⟩; rw [show imax most (seenC v (v 5 k) (row * 12 + col)) = most from by unfold imax; rw [if_neg (by omega)]] at e; exact e) rfl (by decide) rfl (Nat.le_of_ble_eq_true rfl) ?_
                        refine X.istore (lv2 := [some (.inr (some 132)), some (.inl k), some (.inl dd), some (.inl best), some (.inl most), some (.inl col), some (.inl row), some (.inl (row * 12 + col)), some (.inl 1), some (.inl (seenC v (v 5 k) (row * 12 + col)))]) dX7_lookout_167 (Nat.le_of_ble_eq_true rfl) rfl ?_
                        refine X.iinc (y := row + 1) (lv2 := [some (.inr (some 132)), some (.inl k), some (.inl dd), some (.inl best), some (.inl most), some (.inl col), some (.inl (row + 1)), some (.inl (row * 12 + col)), some (.inl 1), some (.inl (seenC v (v 5 k) (row * 12 + col)))]) dX7_lookout_169 rfl rfl rfl ?_
                        refine X.goto (tgt := 45) dX7_lookout_172 (by decide) ?_
                        rw [lkr_step hrow2, mstF_f (fun q => by have := q.2; omega)]
                        exact ihrow best most (some (.inl (row * 12 + col))) (some (.inl 1)) (some (.inl (seenC v (v 5 k) (row * 12 + col)))) (by omega)
                      · skip
                        refine X.bipush dX7_lookout_147 (by decide) ?_
                        refine X.iload dX7_lookout_149 rfl ?_
                        refine X.imul (c := 100 * col) dX7_lookout_151 rfl ?_
                        refine X.iload dX7_lookout_152 rfl ?_
                        refine X.iadd (c := (100 * col) + row) dX7_lookout_154 rfl ?_
                        refine X.goto (tgt := 159) dX7_lookout_155 (by decide) ?_
                        refine X.istore_n (lv2 := [some (.inr (some 132)), some (.inl k), some (.inl dd), some (.inl ((100 * col) + row)), some (.inl most), some (.inl col), some (.inl row), some (.inl (row * 12 + col)), some (.inl 1), some (.inl (seenC v (v 5 k) (row * 12 + col)))]) dX7_lookout_159 (Nat.le_of_ble_eq_true rfl) rfl ?_
                        refine X.iload dX7_lookout_160 rfl ?_
                        refine X.iload dX7_lookout_162 rfl ?_
                        refine X.callS1 (As := [.inl most, .inl (seenC v (v 5 k) (row * 12 + col))]) (rest := []) dX7_lookout_164 mk_X7_40 (show CX mX7_more 0 [.inl most, .inl (seenC v (v 5 k) (row * 12 + col))] M0 (some (.inl (seenC v (v 5 k) (row * 12 + col)))) M0 from by have e := c_more M0 most (seenC v (v 5 k) (row * 12 + col)) ⟨by omega, by omega⟩ ⟨by omega, by omega⟩; rw [show imax most (seenC v (v 5 k) (row * 12 + col)) = seenC v (v 5 k) (row * 12 + col) from by unfold imax; rw [if_pos (by omega)]] at e; exact e) rfl (by decide) rfl (Nat.le_of_ble_eq_true rfl) ?_
                        refine X.istore (lv2 := [some (.inr (some 132)), some (.inl k), some (.inl dd), some (.inl ((100 * col) + row)), some (.inl (seenC v (v 5 k) (row * 12 + col))), some (.inl col), some (.inl row), some (.inl (row * 12 + col)), some (.inl 1), some (.inl (seenC v (v 5 k) (row * 12 + col)))]) dX7_lookout_167 (Nat.le_of_ble_eq_true rfl) rfl ?_
                        refine X.iinc (y := row + 1) (lv2 := [some (.inr (some 132)), some (.inl k), some (.inl dd), some (.inl ((100 * col) + row)), some (.inl (seenC v (v 5 k) (row * 12 + col))), some (.inl col), some (.inl (row + 1)), some (.inl (row * 12 + col)), some (.inl 1), some (.inl (seenC v (v 5 k) (row * 12 + col)))]) dX7_lookout_169 rfl rfl rfl ?_
                        refine X.goto (tgt := 45) dX7_lookout_172 (by decide) ?_
                        rw [lkr_step hrow2, mstF_t (y := 100 * col + row) ⟨hP, h144⟩ (by omega)]
                        exact ihrow ((100 * col) + row) (seenC v (v 5 k) (row * 12 + col)) (some (.inl (row * 12 + col))) (some (.inl 1)) (some (.inl (seenC v (v 5 k) (row * 12 + col)))) (by omega)
          exact L45 0 (by omega) (by omega) best most x7 x8 x9 hm
      have e := L35 0 (by omega) (by omega) (-19) (-1) none none none none (by omega)
      unfold qLookM
      rw [if_pos p1, if_pos p2]
      exact e
    · skip
      refine X.callS1 (As := [.inl dd, .inl 0, .inl 11]) (rest := []) dX7_lookout_17 mk_X7_32 (CX.bf (c_in M0 dd 0 11 ⟨by omega, by omega⟩ (by decide) (by decide)) p2) rfl (by decide) rfl (Nat.le_of_ble_eq_true rfl) ?_
      refine X.if_ne (tgt := 26) dX7_lookout_20 (by decide) (by decide) (fun h => absurd h (by decide)) (fun h23 => ?_)
      refine X.bipush dX7_lookout_23 (by decide) ?_
      exact Y.iret dX7_lookout_25 rfl ⟨by show some (Sum.inl _ : AV) = some (Sum.inl _); unfold qLookM; rw [if_pos p1, if_neg p2], hR0, hf0⟩
  · skip
    refine X.callV1 (As := [.inl k]) (rest := []) dX7_lookout_7 mk_X7_120 sh_132 (CX.bf (c_misScout M0 v hv hS k ⟨by omega, by omega⟩) p1) rfl (by decide) rfl (Nat.le_of_ble_eq_true rfl) ?_
    refine X.if_eq (tgt := 23) dX7_lookout_10 (by decide) (by decide) (fun h24 => ?_) (fun h => absurd h (by decide))
    refine X.bipush dX7_lookout_23 (by decide) ?_
    exact Y.iret dX7_lookout_25 rfl ⟨by show some (Sum.inl _ : AV) = some (Sum.inl _); unfold qLookM; rw [if_neg p1], hR0, hf0⟩
