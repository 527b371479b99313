/-! ===== what loops over rows leave ===== -/
def mgen (M : Mem) (F : Nat → Int → Option Int) (k hi : Int) : Mem := fun a j => if k ≤ j ∧ j < hi then (F a j).getD (M a j) else M a j
theorem mgen_end {M : Mem} {F : Nat → Int → Option Int} {k hi : Int} (h : hi ≤ k) : mgen M F k hi = M := by
  funext a j; unfold mgen; rw [if_neg (by omega)]
theorem mgen_step {M M' : Mem} {F : Nat → Int → Option Int} {k hi : Int} (h : k < hi) (e : ∀ a j, M' a j = if j = k then (F a j).getD (M a j) else M a j) : mgen M' F (k + 1) hi = mgen M F k hi := by
  funext a j
  unfold mgen
  by_cases hj : j = k
  · rw [if_neg (by omega), if_pos (by omega), e, if_pos hj]
  · by_cases h2 : k + 1 ≤ j ∧ j < hi
    · rw [if_pos h2, if_pos (by omega), e, if_neg hj]
    · rw [if_neg h2, if_neg (by omega), e, if_neg hj]
theorem mgen_row {M : Mem} {F : Nat → Int → Option Int} {k hi : Int} {a : Nat} (h : ∀ j, F a j = none) : mgen M F k hi a = M a := by
  funext j; unfold mgen; rw [h j]; simp
theorem mgen_in {M : Mem} {F : Nat → Int → Option Int} {k hi : Int} {a : Nat} {j x : Int} (hj : k ≤ j ∧ j < hi) (h : F a j = some x) : mgen M F k hi a j = x := by
  unfold mgen; rw [if_pos hj, h]; rfl
theorem VA.mgn {M : Mem} {v : Vw} {F : Nat → Int → Option Int} {k hi : Int} (h : VA M v) (hF : ∀ a, 1 ≤ a → a ≤ 9 → ∀ j, F a j = none) : VA (mgen M F k hi) v := h.frame fun a h1 h2 => mgen_row (hF a h1 h2)
/-- one row -/
def Frow (a : Nat) (f : Int → Int) : Nat → Int → Option Int := fun b j => if b = a then some (f j) else none
theorem Frow_step {M : Mem} {a : Nat} {f : Int → Int} {k hi x : Int} (h : k < hi) (hx : x = f k) : mgen (mset M a k x) (Frow a f) (k + 1) hi = mgen M (Frow a f) k hi := by
  refine mgen_step h fun b j => ?_
  subst hx
  unfold mset Frow
  by_cases hj : j = k
  · subst hj
    by_cases hb : b = a
    · simp [hb]
    · simp [hb]
  · simp [hj]
noncomputable def Fref (v : Vw) : Nat → Int → Option Int := fun a j => if a = 22 then some (bi (lit v j)) else if a = 23 then some ((mkN (fun k => sees v k j) (v 0 0).toNat : Nat) : Int) else none
theorem Fref_step {M : Mem} {v : Vw} {c hi x m : Int} (h : c < hi) (hx : x = bi (lit v c)) (hm : m = ((mkN (fun k => sees v k c) (v 0 0).toNat : Nat) : Int)) : mgen (mset (mset M 22 c x) 23 c m) (Fref v) (c + 1) hi = mgen M (Fref v) c hi := by
  refine mgen_step h fun a j => ?_
  subst hx; subst hm
  unfold mset Fref
  by_cases hj : j = c
  · subst hj
    by_cases h1 : a = 22
    · subst h1; simp
    · by_cases h2 : a = 23
      · subst h2; simp
      · simp [h1, h2]
  · simp [hj]
/-- what a side knows anew of a cell that it sees -/
noncomputable def nv (v : Vw) (s : Int) (t : Nat) (j : Int) : Int := if t = 0 then v 0 2 else if t = 1 then v 1 j else if t = 2 then v 2 j else bi (¬ sIn v j = -19 ∧ ¬ v 3 (sIn v j) = s)
noncomputable def Frem (v : Vw) (b : Nat) (s : Int) : Nat → Int → Option Int := fun a j => @ite _ (sSees v s j) (Classical.propDecidable _) (if b ≤ a ∧ a < b + 4 then some (nv v s (a - b) j) else none) none
theorem Frem_no {v : Vw} {b a : Nat} {s : Int} (h : ¬ (b ≤ a ∧ a < b + 4)) (j : Int) : Frem v b s a j = none := by
  unfold Frem; rw [if_neg h]; split <;> rfl
theorem Frem_step {M : Mem} {v : Vw} {b : Nat} {s c hi : Int} (h : c < hi) (p : sSees v s c) : mgen (mset (mset (mset (mset M b c (nv v s 0 c)) (b + 1) c (nv v s 1 c)) (b + 2) c (nv v s 2 c)) (b + 3) c (nv v s 3 c)) (Frem v b s) (c + 1) hi = mgen M (Frem v b s) c hi := by
  refine mgen_step h fun a j => ?_
  unfold mset
  by_cases hj : j = c
  · subst hj
    have e : Frem v b s a j = if b ≤ a ∧ a < b + 4 then some (nv v s (a - b) j) else none := if_pos p
    rw [e]
    by_cases ha : b ≤ a ∧ a < b + 4
    · have : a = b ∨ a = b + 1 ∨ a = b + 2 ∨ a = b + 3 := by omega
      rcases this with rfl | rfl | rfl | rfl
      · simp
      · simp
      · simp
      · simp
    · rw [if_neg ha]
      have h0 : a ≠ b := by omega
      have h1 : a ≠ b + 1 := by omega
      have h2 : a ≠ b + 2 := by omega
      have h3 : a ≠ b + 3 := by omega
      simp [h0, h1, h2, h3]
  · simp [hj]
theorem Frem_skip {M : Mem} {v : Vw} {b : Nat} {s c hi : Int} (h : c < hi) (p : ¬ sSees v s c) : mgen M (Frem v b s) (c + 1) hi = mgen M (Frem v b s) c hi := by
  refine mgen_step h fun a j => ?_
  by_cases hj : j = c
  · subst hj
    have e : Frem v b s a j = none := if_neg p
    rw [e]; simp
  · simp [hj]
def vrow (v : Vw) (t : Nat) (f : Int → Int) : Vw := fun s => if s = t then f else v s
def Fgap (M : Mem) (a : Nat) : Nat → Int → Option Int := Frow a (fun j => M a (j + 1))
set_option maxHeartbeats 4000000 in
set_option maxRecDepth 100000 in
theorem c_refresh (M : Mem) (v : Vw) (hv : VA M v) (hS : SI v) : CX mX2_refresh 5 [.inr (some 21), .inr (some 1)] M none (mgen M (Fref v) 0 120) := by
  have n0 := hS.n0
  have n1 := hS.n1
  have n2 := hS.n2
  refine CX.of (by decide +kernel) (Nat.le_of_ble_eq_true rfl) [some (.inr (some 21)), some (.inr (some 1)), none, none] rfl ?_
  refine X.iconst dX2_refresh_0 ?_
  refine X.istore_n (lv2 := [some (.inr (some 21)), some (.inr (some 1)), some (.inl 0), none]) dX2_refresh_1 (Nat.le_of_ble_eq_true rfl) rfl ?_
  have L2 : ∀ c, 0 ≤ c → c ≤ 120 → ∀ x3 : Option AV, ∀ M1 : Mem, VA M1 v → VX mX2_refresh 5 2 [some (.inr (some 21)), some (.inr (some 1)), some (.inl c), x3] [] M1 none (mgen M1 (Fref v) c 120) := by
    refine down_ind 0 120 ?_ ?_
    · skip
      intro x3 M1 hv1
      refine X.iload_n dX2_refresh_2 rfl ?_
      refine X.bipush dX2_refresh_3 (by decide) ?_
      refine X.icmp_ge (tgt := 90) dX2_refresh_5 (by decide) ⟨by omega, by omega⟩ (by decide) (fun h1 => ?_) (fun h => by exfalso; omega)
      exact X.vret dX2_refresh_90 rfl rfl (mgen_end (Int.le_refl _)).symm
    · intro c hc1 hc2 ihc
      intro x3 M1 hv1
      refine X.iload_n dX2_refresh_2 rfl ?_
      refine X.bipush dX2_refresh_3 (by decide) ?_
      refine X.icmp_ge (tgt := 90) dX2_refresh_5 (by decide) ⟨by omega, by omega⟩ (by decide) (fun h => by exfalso; omega) (fun h2 => ?_)
      refine X.aload_n dX2_refresh_8 rfl ?_
      refine X.getR dX2_refresh_9 fi_X2_9 sh_21 rfl ?_
      refine X.iload_n dX2_refresh_12 rfl ?_
      refine X.aload_n dX2_refresh_13 rfl ?_
      refine X.iload_n dX2_refresh_14 rfl ?_
      by_cases hli : lit v c
      · skip
        refine X.callV1 (As := [.inl c]) (rest := [.inl c, .inr (some 22)]) dX2_refresh_15 mk_X2_18 sh_1 (CX.bt (c_isLit M1 v hv1 hS c (by omega)) hli) rfl (by decide) rfl (Nat.le_of_ble_eq_true rfl) ?_
        refine X.if_eq (tgt := 25) dX2_refresh_18 (by decide) (by decide) (fun h => absurd h (by decide)) (fun h3 => ?_)
        refine X.iconst dX2_refresh_21 ?_
        refine X.goto (tgt := 26) dX2_refresh_22 (by decide) ?_
        refine X.iast dX2_refresh_26 sh_22 (by decide) (by omega) ?_
        refine X.aload_n dX2_refresh_27 rfl ?_
        refine X.getR dX2_refresh_28 fi_X2_15 sh_21 rfl ?_
        refine X.iload_n dX2_refresh_31 rfl ?_
        refine X.iconst dX2_refresh_32 ?_
        refine X.iast dX2_refresh_33 sh_23 (by decide) (by omega) ?_
        refine X.iconst dX2_refresh_34 ?_
        refine X.istore_n (lv2 := [some (.inr (some 21)), some (.inr (some 1)), some (.inl c), some (.inl 0)]) dX2_refresh_35 (Nat.le_of_ble_eq_true rfl) rfl ?_
        have L36 : ∀ k, 0 ≤ k → k ≤ (v 0 0) → VX mX2_refresh 5 36 [some (.inr (some 21)), some (.inr (some 1)), some (.inl c), some (.inl k)] [] (mset (mset M1 22 c 1) 23 c ((mkN (fun k => sees v k c) k.toNat : Nat) : Int)) none (mgen M1 (Fref v) c 120) := by
          refine down_ind 0 (v 0 0) ?_ ?_
          · skip
            have hv2 : VA (mset (mset M1 22 c 1) 23 c ((mkN (fun k => sees v k c) (v 0 0).toNat : Nat) : Int)) v := (hv1.mset (by decide)).mset (by decide)
            have hlc : (mset (mset M1 22 c 1) 23 c ((mkN (fun k => sees v k c) (v 0 0).toNat : Nat) : Int)) 22 c = bi (lit v c) := by simp [mset, bi_t hli]
            refine X.iload_n dX2_refresh_36 rfl ?_
            refine X.aload_n dX2_refresh_37 rfl ?_
            refine X.getI (v := v 0 0) 2 dX2_refresh_38 fi_X2_24 sh_1 rfl (rd_0_0 hv2) ?_
            refine X.icmp_ge (tgt := 84) dX2_refresh_41 (by decide) ⟨by omega, by omega⟩ ⟨by omega, by omega⟩ (fun h4 => ?_) (fun h => by exfalso; omega)
            refine X.iinc (y := c + 1) (lv2 := [some (.inr (some 21)), some (.inr (some 1)), some (.inl (c + 1)), some (.inl (v 0 0))]) dX2_refresh_84 rfl rfl rfl ?_
            refine X.goto (tgt := 2) dX2_refresh_87 (by decide) ?_
            rw [← Fref_step (x := 1) (m := ((mkN (fun k => sees v k c) (v 0 0).toNat : Nat) : Int)) hc2 (bi_t hli).symm rfl]
            exact ihc (some (.inl (v 0 0))) (mset (mset M1 22 c 1) 23 c ((mkN (fun k => sees v k c) (v 0 0).toNat : Nat) : Int)) hv2
          · intro k hk1 hk2 ihk
            have hv2 : VA (mset (mset M1 22 c 1) 23 c ((mkN (fun k => sees v k c) k.toNat : Nat) : Int)) v := (hv1.mset (by decide)).mset (by decide)
            have hlc : (mset (mset M1 22 c 1) 23 c ((mkN (fun k => sees v k c) k.toNat : Nat) : Int)) 22 c = bi (lit v c) := by simp [mset, bi_t hli]
            refine X.iload_n dX2_refresh_36 rfl ?_
            refine X.aload_n dX2_refresh_37 rfl ?_
            refine X.getI (v := v 0 0) 2 dX2_refresh_38 fi_X2_24 sh_1 rfl (rd_0_0 hv2) ?_
            refine X.icmp_ge (tgt := 84) dX2_refresh_41 (by decide) ⟨by omega, by omega⟩ ⟨by omega, by omega⟩ (fun h => by exfalso; omega) (fun h5 => ?_)
            refine X.aload_n dX2_refresh_44 rfl ?_
            refine X.aload_n dX2_refresh_45 rfl ?_
            refine X.aload_n dX2_refresh_46 rfl ?_
            refine X.getR dX2_refresh_47 fi_X2_28 sh_1 rfl ?_
            refine X.iload_n dX2_refresh_50 rfl ?_
            have q6 := SI.r4 hS k
            refine X.iald (v := v 4 k) dX2_refresh_51 sh_5 (by decide) (by omega) (rd_4 hv2 (by omega)) ?_
            refine X.aload_n dX2_refresh_52 rfl ?_
            refine X.getR dX2_refresh_53 fi_X2_31 sh_1 rfl ?_
            refine X.iload_n dX2_refresh_56 rfl ?_
            have q7 := SI.r5 hS k
            refine X.iald (v := v 5 k) dX2_refresh_57 sh_6 (by decide) (by omega) (rd_5 hv2 (by omega)) ?_
            refine X.iload_n dX2_refresh_58 rfl ?_
            by_cases hp : see v (v 4 k) (v 5 k) c
            · skip
              refine X.callV1 (As := [.inr (some 1), .inl (v 4 k), .inl (v 5 k), .inl c]) (rest := []) dX2_refresh_59 mk_X2_34 sh_21 (CX.bt (c_canSee (mset (mset M1 22 c 1) 23 c ((mkN (fun k => sees v k c) k.toNat : Nat) : Int)) v hv2 hS (v 4 k) (v 5 k) c (by omega) (by omega) (by omega) hlc) hp) rfl (by decide) rfl (Nat.le_of_ble_eq_true rfl) ?_
              refine X.if_eq (tgt := 78) dX2_refresh_62 (by decide) (by decide) (fun h => absurd h (by decide)) (fun h8 => ?_)
              refine X.aload_n dX2_refresh_65 rfl ?_
              refine X.getR dX2_refresh_66 fi_X2_15 sh_21 rfl ?_
              refine X.iload_n dX2_refresh_69 rfl ?_
              refine X.dup2 dX2_refresh_70 ?_
              refine X.iald (v := ((mkN (fun k => sees v k c) k.toNat : Nat) : Int)) dX2_refresh_71 sh_23 (by decide) (by omega) mset_at ?_
              refine X.iload_n dX2_refresh_72 rfl ?_
              refine X.callN1 (As := [.inl k]) (rest := [.inl ((mkN (fun k => sees v k c) k.toNat : Nat) : Int), .inl c, .inr (some 23)]) dX2_refresh_73 mk_X2_38 (c_bitOf (mset (mset M1 22 c 1) 23 c ((mkN (fun k => sees v k c) k.toNat : Nat) : Int)) k) rfl (by decide) rfl (Nat.le_of_ble_eq_true rfl) ?_
              refine X.ior (c := ((mkN (fun k => sees v k c) (k + 1).toNat : Nat) : Int)) dX2_refresh_76 (mkN_or (P := fun k => sees v k c) (by omega) hp) ?_
              refine X.iast dX2_refresh_77 sh_23 (by decide) (by omega) ?_
              refine X.iinc (y := k + 1) (lv2 := [some (.inr (some 21)), some (.inr (some 1)), some (.inl c), some (.inl (k + 1))]) dX2_refresh_78 rfl rfl rfl ?_
              refine X.goto (tgt := 36) dX2_refresh_81 (by decide) ?_
              rw [mset_mset]
              exact ihk
            · skip
              refine X.callV1 (As := [.inr (some 1), .inl (v 4 k), .inl (v 5 k), .inl c]) (rest := []) dX2_refresh_59 mk_X2_34 sh_21 (CX.bf (c_canSee (mset (mset M1 22 c 1) 23 c ((mkN (fun k => sees v k c) k.toNat : Nat) : Int)) v hv2 hS (v 4 k) (v 5 k) c (by omega) (by omega) (by omega) hlc) hp) rfl (by decide) rfl (Nat.le_of_ble_eq_true rfl) ?_
              refine X.if_eq (tgt := 78) dX2_refresh_62 (by decide) (by decide) (fun h9 => ?_) (fun h => absurd h (by decide))
              refine X.iinc (y := k + 1) (lv2 := [some (.inr (some 21)), some (.inr (some 1)), some (.inl c), some (.inl (k + 1))]) dX2_refresh_78 rfl rfl rfl ?_
              refine X.goto (tgt := 36) dX2_refresh_81 (by decide) ?_
              rw [mkN_no (P := fun k => sees v k c) (by omega) hp] at ihk
              exact ihk
        exact L36 0 (by omega) (by omega)
      · skip
        refine X.callV1 (As := [.inl c]) (rest := [.inl c, .inr (some 22)]) dX2_refresh_15 mk_X2_18 sh_1 (CX.bf (c_isLit M1 v hv1 hS c (by omega)) hli) rfl (by decide) rfl (Nat.le_of_ble_eq_true rfl) ?_
        refine X.if_eq (tgt := 25) dX2_refresh_18 (by decide) (by decide) (fun h10 => ?_) (fun h => absurd h (by decide))
        refine X.iconst dX2_refresh_25 ?_
        refine X.iast dX2_refresh_26 sh_22 (by decide) (by omega) ?_
        refine X.aload_n dX2_refresh_27 rfl ?_
        refine X.getR dX2_refresh_28 fi_X2_15 sh_21 rfl ?_
        refine X.iload_n dX2_refresh_31 rfl ?_
        refine X.iconst dX2_refresh_32 ?_
        refine X.iast dX2_refresh_33 sh_23 (by decide) (by omega) ?_
        refine X.iconst dX2_refresh_34 ?_
        refine X.istore_n (lv2 := [some (.inr (some 21)), some (.inr (some 1)), some (.inl c), some (.inl 0)]) dX2_refresh_35 (Nat.le_of_ble_eq_true rfl) rfl ?_
        have L36 : ∀ k, 0 ≤ k → k ≤ (v 0 0) → VX mX2_refresh 5 36 [some (.inr (some 21)), some (.inr (some 1)), some (.inl c), some (.inl k)] [] (mset (mset M1 22 c 0) 23 c ((mkN (fun k => sees v k c) k.toNat : Nat) : Int)) none (mgen M1 (Fref v) c 120) := by
          refine down_ind 0 (v 0 0) ?_ ?_
          · skip
            have hv2 : VA (mset (mset M1 22 c 0) 23 c ((mkN (fun k => sees v k c) (v 0 0).toNat : Nat) : Int)) v := (hv1.mset (by decide)).mset (by decide)
            have hlc : (mset (mset M1 22 c 0) 23 c ((mkN (fun k => sees v k c) (v 0 0).toNat : Nat) : Int)) 22 c = bi (lit v c) := by simp [mset, bi_f hli]
            refine X.iload_n dX2_refresh_36 rfl ?_
            refine X.aload_n dX2_refresh_37 rfl ?_
            refine X.getI (v := v 0 0) 2 dX2_refresh_38 fi_X2_24 sh_1 rfl (rd_0_0 hv2) ?_
            refine X.icmp_ge (tgt := 84) dX2_refresh_41 (by decide) ⟨by omega, by omega⟩ ⟨by omega, by omega⟩ (fun h11 => ?_) (fun h => by exfalso; omega)
            refine X.iinc (y := c + 1) (lv2 := [some (.inr (some 21)), some (.inr (some 1)), some (.inl (c + 1)), some (.inl (v 0 0))]) dX2_refresh_84 rfl rfl rfl ?_
            refine X.goto (tgt := 2) dX2_refresh_87 (by decide) ?_
            rw [← Fref_step (x := 0) (m := ((mkN (fun k => sees v k c) (v 0 0).toNat : Nat) : Int)) hc2 (bi_f hli).symm rfl]
            exact ihc (some (.inl (v 0 0))) (mset (mset M1 22 c 0) 23 c ((mkN (fun k => sees v k c) (v 0 0).toNat : Nat) : Int)) hv2
          · intro k hk1 hk2 ihk
            have hv2 : VA (mset (mset M1 22 c 0) 23 c ((mkN (fun k => sees v k c) k.toNat : Nat) : Int)) v := (hv1.mset (by decide)).mset (by decide)
            have hlc : (mset (mset M1 22 c 0) 23 c ((mkN (fun k => sees v k c) k.toNat : Nat) : Int)) 22 c = bi (lit v c) := by simp [mset, bi_f hli]
            refine X.iload_n dX2_refresh_36 rfl ?_
            refine X.aload_n dX2_refresh_37 rfl ?_
            refine X.getI (v := v 0 0) 2 dX2_refresh_38 fi_X2_24 sh_1 rfl (rd_0_0 hv2) ?_
            refine X.icmp_ge (tgt := 84) dX2_refresh_41 (by decide) ⟨by omega, by omega⟩ ⟨by omega, by omega⟩ (fun h => by exfalso; omega) (fun h12 => ?_)
            refine X.aload_n dX2_refresh_44 rfl ?_
            refine X.aload_n dX2_refresh_45 rfl ?_
            refine X.aload_n dX2_refresh_46 rfl ?_
            refine X.getR dX2_refresh_47 fi_X2_28 sh_1 rfl ?_
            refine X.iload_n dX2_refresh_50 rfl ?_
            have q13 := SI.r4 hS k
            refine X.iald (v := v 4 k) dX2_refresh_51 sh_5 (by decide) (by omega) (rd_4 hv2 (by omega)) ?_
            refine X.aload_n dX2_refresh_52 rfl ?_
            refine X.getR dX2_refresh_53 fi_X2_31 sh_1 rfl ?_
            refine X.iload_n dX2_refresh_56 rfl ?_
            have q14 := SI.r5 hS k
            refine X.iald (v := v 5 k) dX2_refresh_57 sh_6 (by decide) (by omega) (rd_5 hv2 (by omega)) ?_
            refine X.iload_n dX2_refresh_58 rfl ?_
            by_cases hp : see v (v 4 k) (v 5 k) c
            · skip
              refine X.callV1 (As := [.inr (some 1), .inl (v 4 k), .inl (v 5 k), .inl c]) (rest := []) dX2_refresh_59 mk_X2_34 sh_21 (CX.bt (c_canSee (mset (mset M1 22 c 0) 23 c ((mkN (fun k => sees v k c) k.toNat : Nat) : Int)) v hv2 hS (v 4 k) (v 5 k) c (by omega) (by omega) (by omega) hlc) hp) rfl (by decide) rfl (Nat.le_of_ble_eq_true rfl) ?_
              refine X.if_eq (tgt := 78) dX2_refresh_62 (by decide) (by decide) (fun h => absurd h (by decide)) (fun h15 => ?_)
              refine X.aload_n dX2_refresh_65 rfl ?_
              refine X.getR dX2_refresh_66 fi_X2_15 sh_21 rfl ?_
              refine X.iload_n dX2_refresh_69 rfl ?_
              refine X.dup2 dX2_refresh_70 ?_
              refine X.iald (v := ((mkN (fun k => sees v k c) k.toNat : Nat) : Int)) dX2_refresh_71 sh_23 (by decide) (by omega) mset_at ?_
              refine X.iload_n dX2_refresh_72 rfl ?_
              refine X.callN1 (As := [.inl k]) (rest := [.inl ((mkN (fun k => sees v k c) k.toNat : Nat) : Int), .inl c, .inr (some 23)]) dX2_refresh_73 mk_X2_38 (c_bitOf (mset (mset M1 22 c 0) 23 c ((mkN (fun k => sees v k c) k.toNat : Nat) : Int)) k) rfl (by decide) rfl (Nat.le_of_ble_eq_true rfl) ?_
              refine X.ior (c := ((mkN (fun k => sees v k c) (k + 1).toNat : Nat) : Int)) dX2_refresh_76 (mkN_or (P := fun k => sees v k c) (by omega) hp) ?_
              refine X.iast dX2_refresh_77 sh_23 (by decide) (by omega) ?_
              refine X.iinc (y := k + 1) (lv2 := [some (.inr (some 21)), some (.inr (some 1)), some (.inl c), some (.inl (k + 1))]) dX2_refresh_78 rfl rfl rfl ?_
              refine X.goto (tgt := 36) dX2_refresh_81 (by decide) ?_
              rw [mset_mset]
              exact ihk
            · skip
              refine X.callV1 (As := [.inr (some 1), .inl (v 4 k), .inl (v 5 k), .inl c]) (rest := []) dX2_refresh_59 mk_X2_34 sh_21 (CX.bf (c_canSee (mset (mset M1 22 c 0) 23 c ((mkN (fun k => sees v k c) k.toNat : Nat) : Int)) v hv2 hS (v 4 k) (v 5 k) c (by omega) (by omega) (by omega) hlc) hp) rfl (by decide) rfl (Nat.le_of_ble_eq_true rfl) ?_
              refine X.if_eq (tgt := 78) dX2_refresh_62 (by decide) (by decide) (fun h16 => ?_) (fun h => absurd h (by decide))
              refine X.iinc (y := k + 1) (lv2 := [some (.inr (some 21)), some (.inr (some 1)), some (.inl c), some (.inl (k + 1))]) dX2_refresh_78 rfl rfl rfl ?_
              refine X.goto (tgt := 36) dX2_refresh_81 (by decide) ?_
              rw [mkN_no (P := fun k => sees v k c) (by omega) hp] at ihk
              exact ihk
        exact L36 0 (by omega) (by omega)
  exact L2 0 (by omega) (by omega) none M hv
set_option maxHeartbeats 4000000 in
set_option maxRecDepth 100000 in
theorem c_rememberCell_0 (M : Mem) (v : Vw) (hv : VA M v) (hS : SI v) (c : Int) (hc : 0 ≤ c ∧ c < 120) : CX mX3_rememberCell 1 [.inr (some 1), .inl 0, .inl c] M none (mset (mset (mset (mset M 12 c (nv v 0 0 c)) 13 c (nv v 0 1 c)) 14 c (nv v 0 2 c)) 15 c (nv v 0 3 c)) := by
  have n0 := hS.n0
  have n1 := hS.n1
  have n2 := hS.n2
  have hi := sIn_range hS c
  have x0 : nv v 0 0 c = v 0 2 := rfl
  have x1 : nv v 0 1 c = v 1 c := rfl
  have x2 : nv v 0 2 c = v 2 c := rfl
  have x3 : nv v 0 3 c = bi (¬ sIn v c = -19 ∧ ¬ v 3 (sIn v c) = 0) := rfl
  rw [x0, x1, x2, x3]
  refine CX.of (by decide +kernel) (Nat.le_of_ble_eq_true rfl) [some (.inr (some 1)), some (.inl 0), some (.inl c), none, none] rfl ?_
  refine X.aload_n dX3_rememberCell_0 rfl ?_
  refine X.getR dX3_rememberCell_1 fi_X3_52 sh_1 rfl ?_
  refine X.iload_n dX3_rememberCell_4 rfl ?_
  refine X.aald dX3_rememberCell_5 sh_10 (by decide) (by decide) (by decide) rfl ?_
  refine X.astore_n (lv2 := [some (.inr (some 1)), some (.inl 0), some (.inl c), some (.inr (some 11)), none]) dX3_rememberCell_6 (Nat.le_of_ble_eq_true rfl) rfl ?_
  refine X.aload_n dX3_rememberCell_7 rfl ?_
  refine X.iload_n dX3_rememberCell_8 rfl ?_
  refine X.callV1 (As := [.inl c]) (rest := []) dX3_rememberCell_9 mk_X3_64 sh_1 (c_scoutIn M v hv hS c ⟨by omega, by omega⟩) rfl (by decide) rfl (Nat.le_of_ble_eq_true rfl) ?_
  refine X.istore (lv2 := [some (.inr (some 1)), some (.inl 0), some (.inl c), some (.inr (some 11)), some (.inl (sIn v c))]) dX3_rememberCell_12 (Nat.le_of_ble_eq_true rfl) rfl ?_
  refine X.aload_n dX3_rememberCell_14 rfl ?_
  refine X.getR dX3_rememberCell_15 fi_X3_103 sh_11 rfl ?_
  refine X.iload_n dX3_rememberCell_18 rfl ?_
  refine X.aload_n dX3_rememberCell_19 rfl ?_
  refine X.getI (v := v 0 2) 10 dX3_rememberCell_20 fi_X3_43 sh_1 rfl (rd_0_2 hv) ?_
  refine X.iast dX3_rememberCell_23 sh_12 (by decide) (by omega) ?_
  refine X.aload_n dX3_rememberCell_24 rfl ?_
  refine X.getR dX3_rememberCell_25 fi_X3_106 sh_11 rfl ?_
  refine X.iload_n dX3_rememberCell_28 rfl ?_
  refine X.aload_n dX3_rememberCell_29 rfl ?_
  refine X.getR dX3_rememberCell_30 fi_X3_9 sh_1 rfl ?_
  refine X.iload_n dX3_rememberCell_33 rfl ?_
  have q1 := SI.r1 hS c
  refine X.iald (v := v 1 c) dX3_rememberCell_34 sh_2 (by decide) (by omega) (rd_1 (hv.mset (by decide)) (by omega)) ?_
  refine X.iast dX3_rememberCell_35 sh_13 (by decide) (by omega) ?_
  refine X.aload_n dX3_rememberCell_36 rfl ?_
  refine X.getR dX3_rememberCell_37 fi_X3_107 sh_11 rfl ?_
  refine X.iload_n dX3_rememberCell_40 rfl ?_
  refine X.aload_n dX3_rememberCell_41 rfl ?_
  refine X.getR dX3_rememberCell_42 fi_X3_15 sh_1 rfl ?_
  refine X.iload_n dX3_rememberCell_45 rfl ?_
  have q2 := SI.r2 hS c
  refine X.iald (v := v 2 c) dX3_rememberCell_46 sh_3 (by decide) (by omega) (rd_2 ((hv.mset (by decide)).mset (by decide)) (by omega)) ?_
  refine X.iast dX3_rememberCell_47 sh_14 (by decide) (by omega) ?_
  refine X.aload_n dX3_rememberCell_48 rfl ?_
  refine X.getR dX3_rememberCell_49 fi_X3_108 sh_11 rfl ?_
  refine X.iload_n dX3_rememberCell_52 rfl ?_
  refine X.iload dX3_rememberCell_53 rfl ?_
  refine X.bipush dX3_rememberCell_55 (by decide) ?_
  refine X.icmp_eq (tgt := 75) dX3_rememberCell_57 (by decide) ⟨by omega, by omega⟩ (by decide) (fun h3 => ?_) (fun h3 => ?_)
  · skip
    refine X.iconst dX3_rememberCell_75 ?_
    refine X.iast dX3_rememberCell_76 sh_15 (by decide) (by omega) ?_
    exact X.vret dX3_rememberCell_77 rfl rfl (by rw [bi_f (by omega)])
  · skip
    refine X.aload_n dX3_rememberCell_60 rfl ?_
    refine X.getR dX3_rememberCell_61 fi_X3_22 sh_1 rfl ?_
    refine X.iload dX3_rememberCell_64 rfl ?_
    have q4 := SI.r3 hS (sIn v c)
    refine X.iald (v := v 3 (sIn v c)) dX3_rememberCell_66 sh_4 (by decide) (by omega) (rd_3 (((hv.mset (by decide)).mset (by decide)).mset (by decide)) (by omega)) ?_
    refine X.iload_n dX3_rememberCell_67 rfl ?_
    refine X.icmp_eq (tgt := 75) dX3_rememberCell_68 (by decide) ⟨by omega, by omega⟩ (by decide) (fun h5 => ?_) (fun h5 => ?_)
    · skip
      refine X.iconst dX3_rememberCell_75 ?_
      refine X.iast dX3_rememberCell_76 sh_15 (by decide) (by omega) ?_
      exact X.vret dX3_rememberCell_77 rfl rfl (by rw [bi_f (by omega)])
    · skip
      refine X.iconst dX3_rememberCell_71 ?_
      refine X.goto (tgt := 76) dX3_rememberCell_72 (by decide) ?_
      refine X.iast dX3_rememberCell_76 sh_15 (by decide) (by omega) ?_
      exact X.vret dX3_rememberCell_77 rfl rfl (by rw [bi_t (by omega)])
set_option maxHeartbeats 4000000 in
set_option maxRecDepth 100000 in
theorem c_rememberCell_1 (M : Mem) (v : Vw) (hv : VA M v) (hS : SI v) (c : Int) (hc : 0 ≤ c ∧ c < 120) : CX mX3_rememberCell 1 [.inr (some 1), .inl 1, .inl c] M none (mset (mset (mset (mset M 17 c (nv v 1 0 c)) 18 c (nv v 1 1 c)) 19 c (nv v 1 2 c)) 20 c (nv v 1 3 c)) := by
  have n0 := hS.n0
  have n1 := hS.n1
  have n2 := hS.n2
  have hi := sIn_range hS c
  have x0 : nv v 1 0 c = v 0 2 := rfl
  have x1 : nv v 1 1 c = v 1 c := rfl
  have x2 : nv v 1 2 c = v 2 c := rfl
  have x3 : nv v 1 3 c = bi (¬ sIn v c = -19 ∧ ¬ v 3 (sIn v c) = 1) := rfl
  rw [x0, x1, x2, x3]
  refine CX.of (by decide +kernel) (Nat.le_of_ble_eq_true rfl) [some (.inr (some 1)), some (.inl 1), some (.inl c), none, none] rfl ?_
  refine X.aload_n dX3_rememberCell_0 rfl ?_
  refine X.getR dX3_rememberCell_1 fi_X3_52 sh_1 rfl ?_
  refine X.iload_n dX3_rememberCell_4 rfl ?_
  refine X.aald dX3_rememberCell_5 sh_10 (by decide) (by decide) (by decide) rfl ?_
  refine X.astore_n (lv2 := [some (.inr (some 1)), some (.inl 1), some (.inl c), some (.inr (some 16)), none]) dX3_rememberCell_6 (Nat.le_of_ble_eq_true rfl) rfl ?_
  refine X.aload_n dX3_rememberCell_7 rfl ?_
  refine X.iload_n dX3_rememberCell_8 rfl ?_
  refine X.callV1 (As := [.inl c]) (rest := []) dX3_rememberCell_9 mk_X3_64 sh_1 (c_scoutIn M v hv hS c ⟨by omega, by omega⟩) rfl (by decide) rfl (Nat.le_of_ble_eq_true rfl) ?_
  refine X.istore (lv2 := [some (.inr (some 1)), some (.inl 1), some (.inl c), some (.inr (some 16)), some (.inl (sIn v c))]) dX3_rememberCell_12 (Nat.le_of_ble_eq_true rfl) rfl ?_
  refine X.aload_n dX3_rememberCell_14 rfl ?_
  refine X.getR dX3_rememberCell_15 fi_X3_103 sh_16 rfl ?_
  refine X.iload_n dX3_rememberCell_18 rfl ?_
  refine X.aload_n dX3_rememberCell_19 rfl ?_
  refine X.getI (v := v 0 2) 10 dX3_rememberCell_20 fi_X3_43 sh_1 rfl (rd_0_2 hv) ?_
  refine X.iast dX3_rememberCell_23 sh_17 (by decide) (by omega) ?_
  refine X.aload_n dX3_rememberCell_24 rfl ?_
  refine X.getR dX3_rememberCell_25 fi_X3_106 sh_16 rfl ?_
  refine X.iload_n dX3_rememberCell_28 rfl ?_
  refine X.aload_n dX3_rememberCell_29 rfl ?_
  refine X.getR dX3_rememberCell_30 fi_X3_9 sh_1 rfl ?_
  refine X.iload_n dX3_rememberCell_33 rfl ?_
  have q1 := SI.r1 hS c
  refine X.iald (v := v 1 c) dX3_rememberCell_34 sh_2 (by decide) (by omega) (rd_1 (hv.mset (by decide)) (by omega)) ?_
  refine X.iast dX3_rememberCell_35 sh_18 (by decide) (by omega) ?_
  refine X.aload_n dX3_rememberCell_36 rfl ?_
  refine X.getR dX3_rememberCell_37 fi_X3_107 sh_16 rfl ?_
  refine X.iload_n dX3_rememberCell_40 rfl ?_
  refine X.aload_n dX3_rememberCell_41 rfl ?_
  refine X.getR dX3_rememberCell_42 fi_X3_15 sh_1 rfl ?_
  refine X.iload_n dX3_rememberCell_45 rfl ?_
  have q2 := SI.r2 hS c
  refine X.iald (v := v 2 c) dX3_rememberCell_46 sh_3 (by decide) (by omega) (rd_2 ((hv.mset (by decide)).mset (by decide)) (by omega)) ?_
  refine X.iast dX3_rememberCell_47 sh_19 (by decide) (by omega) ?_
  refine X.aload_n dX3_rememberCell_48 rfl ?_
  refine X.getR dX3_rememberCell_49 fi_X3_108 sh_16 rfl ?_
  refine X.iload_n dX3_rememberCell_52 rfl ?_
  refine X.iload dX3_rememberCell_53 rfl ?_
  refine X.bipush dX3_rememberCell_55 (by decide) ?_
  refine X.icmp_eq (tgt := 75) dX3_rememberCell_57 (by decide) ⟨by omega, by omega⟩ (by decide) (fun h3 => ?_) (fun h3 => ?_)
  · skip
    refine X.iconst dX3_rememberCell_75 ?_
    refine X.iast dX3_rememberCell_76 sh_20 (by decide) (by omega) ?_
    exact X.vret dX3_rememberCell_77 rfl rfl (by rw [bi_f (by omega)])
  · skip
    refine X.aload_n dX3_rememberCell_60 rfl ?_
    refine X.getR dX3_rememberCell_61 fi_X3_22 sh_1 rfl ?_
    refine X.iload dX3_rememberCell_64 rfl ?_
    have q4 := SI.r3 hS (sIn v c)
    refine X.iald (v := v 3 (sIn v c)) dX3_rememberCell_66 sh_4 (by decide) (by omega) (rd_3 (((hv.mset (by decide)).mset (by decide)).mset (by decide)) (by omega)) ?_
    refine X.iload_n dX3_rememberCell_67 rfl ?_
    refine X.icmp_eq (tgt := 75) dX3_rememberCell_68 (by decide) ⟨by omega, by omega⟩ (by decide) (fun h5 => ?_) (fun h5 => ?_)
    · skip
      refine X.iconst dX3_rememberCell_75 ?_
      refine X.iast dX3_rememberCell_76 sh_20 (by decide) (by omega) ?_
      exact X.vret dX3_rememberCell_77 rfl rfl (by rw [bi_f (by omega)])
    · skip
      refine X.iconst dX3_rememberCell_71 ?_
      refine X.goto (tgt := 76) dX3_rememberCell_72 (by decide) ?_
      refine X.iast dX3_rememberCell_76 sh_20 (by decide) (by omega) ?_
      exact X.vret dX3_rememberCell_77 rfl rfl (by rw [bi_t (by omega)])
noncomputable def remM (M : Mem) (v : Vw) : Mem := mgen (mgen M (Frem v 12 0) 0 120) (Frem v 17 1) 0 120
set_option maxHeartbeats 4000000 in
set_option maxRecDepth 100000 in
theorem c_remember (M : Mem) (v : Vw) (hv : VA M v) (hS : SI v) (hG : SG M v) : CX mX3_remember 2 [.inr (some 1), .inr (some 21)] M none (remM M v) := by
  have n0 := hS.n0
  have n1 := hS.n1
  have n2 := hS.n2
  unfold remM
  refine CX.of (by decide +kernel) (Nat.le_of_ble_eq_true rfl) [some (.inr (some 1)), some (.inr (some 21)), none, none, none] rfl ?_
  refine X.iconst dX3_remember_0 ?_
  refine X.istore_n (lv2 := [some (.inr (some 1)), some (.inr (some 21)), some (.inl 0), none, none]) dX3_remember_1 (Nat.le_of_ble_eq_true rfl) rfl ?_
  refine X.iload_n dX3_remember_2 rfl ?_
  refine X.iconst dX3_remember_3 ?_
  refine X.icmp_ge (tgt := 52) dX3_remember_4 (by decide) (by decide) (by decide) (fun h => absurd h (by decide)) (fun h1 => ?_)
  refine X.aload_n dX3_remember_7 rfl ?_
  refine X.iload_n dX3_remember_8 rfl ?_
  refine X.callV1 (As := [.inl 0]) (rest := []) dX3_remember_9 mk_X3_90 sh_1 (c_scoutsOf M v hv hS 0 (by decide)) rfl (by decide) rfl (Nat.le_of_ble_eq_true rfl) ?_
  refine X.istore_n (lv2 := [some (.inr (some 1)), some (.inr (some 21)), some (.inl 0), some (.inl ((mkN (fun j => v 3 j = 0) (v 0 0).toNat : Nat) : Int)), none]) dX3_remember_12 (Nat.le_of_ble_eq_true rfl) rfl ?_
  refine X.iconst dX3_remember_13 ?_
  refine X.istore (lv2 := [some (.inr (some 1)), some (.inr (some 21)), some (.inl 0), some (.inl ((mkN (fun j => v 3 j = 0) (v 0 0).toNat : Nat) : Int)), some (.inl 0)]) dX3_remember_14 (Nat.le_of_ble_eq_true rfl) rfl ?_
  have L16 : ∀ c, 0 ≤ c → c ≤ 120 → ∀ M1 : Mem, VA M1 v → SG M1 v → VX mX3_remember 2 16 [some (.inr (some 1)), some (.inr (some 21)), some (.inl 0), some (.inl ((mkN (fun k => v 3 k = 0) (v 0 0).toNat : Nat) : Int)), some (.inl c)] [] M1 none (mgen (mgen M1 (Frem v 12 0) c 120) (Frem v 17 1) 0 120) := by
    refine down_ind 0 120 ?_ ?_
    · skip
      intro M1 hv1 hG1
      rw [mgen_end (Int.le_refl _)]
      refine X.iload dX3_remember_16 rfl ?_
      refine X.bipush dX3_remember_18 (by decide) ?_
      refine X.icmp_ge (tgt := 46) dX3_remember_20 (by decide) ⟨by omega, by omega⟩ (by decide) (fun h2 => ?_) (fun h => by exfalso; omega)
      refine X.iinc (y := 1) (lv2 := [some (.inr (some 1)), some (.inr (some 21)), some (.inl 1), some (.inl ((mkN (fun k => v 3 k = 0) (v 0 0).toNat : Nat) : Int)), some (.inl 120)]) dX3_remember_46 rfl rfl rfl ?_
      refine X.goto (tgt := 2) dX3_remember_49 (by decide) ?_
      refine X.iload_n dX3_remember_2 rfl ?_
      refine X.iconst dX3_remember_3 ?_
      refine X.icmp_ge (tgt := 52) dX3_remember_4 (by decide) (by decide) (by decide) (fun h => absurd h (by decide)) (fun h3 => ?_)
      refine X.aload_n dX3_remember_7 rfl ?_
      refine X.iload_n dX3_remember_8 rfl ?_
      refine X.callV1 (As := [.inl 1]) (rest := []) dX3_remember_9 mk_X3_90 sh_1 (c_scoutsOf M1 v hv1 hS 1 (by decide)) rfl (by decide) rfl (Nat.le_of_ble_eq_true rfl) ?_
      refine X.istore_n (lv2 := [some (.inr (some 1)), some (.inr (some 21)), some (.inl 1), some (.inl ((mkN (fun j => v 3 j = 1) (v 0 0).toNat : Nat) : Int)), some (.inl 120)]) dX3_remember_12 (Nat.le_of_ble_eq_true rfl) rfl ?_
      refine X.iconst dX3_remember_13 ?_
      refine X.istore (lv2 := [some (.inr (some 1)), some (.inr (some 21)), some (.inl 1), some (.inl ((mkN (fun j => v 3 j = 1) (v 0 0).toNat : Nat) : Int)), some (.inl 0)]) dX3_remember_14 (Nat.le_of_ble_eq_true rfl) rfl ?_
      have L16 : ∀ c, 0 ≤ c → c ≤ 120 → ∀ M2 : Mem, VA M2 v → SG M2 v → VX mX3_remember 2 16 [some (.inr (some 1)), some (.inr (some 21)), some (.inl 1), some (.inl ((mkN (fun k => v 3 k = 1) (v 0 0).toNat : Nat) : Int)), some (.inl c)] [] M2 none (mgen M2 (Frem v 17 1) c 120) := by
        refine down_ind 0 120 ?_ ?_
        · skip
          intro M2 hv2 hG2
          rw [mgen_end (Int.le_refl _)]
          refine X.iload dX3_remember_16 rfl ?_
          refine X.bipush dX3_remember_18 (by decide) ?_
          refine X.icmp_ge (tgt := 46) dX3_remember_20 (by decide) ⟨by omega, by omega⟩ (by decide) (fun h4 => ?_) (fun h => by exfalso; omega)
          refine X.iinc (y := 2) (lv2 := [some (.inr (some 1)), some (.inr (some 21)), some (.inl 2), some (.inl ((mkN (fun k => v 3 k = 1) (v 0 0).toNat : Nat) : Int)), some (.inl 120)]) dX3_remember_46 rfl rfl rfl ?_
          refine X.goto (tgt := 2) dX3_remember_49 (by decide) ?_
          refine X.iload_n dX3_remember_2 rfl ?_
          refine X.iconst dX3_remember_3 ?_
          refine X.icmp_ge (tgt := 52) dX3_remember_4 (by decide) (by decide) (by decide) (fun h5 => ?_) (fun h => absurd h (by decide))
          exact X.vret dX3_remember_52 rfl rfl rfl
        · intro c hc1 hc2 ihc
          intro M2 hv2 hG2
          refine X.iload dX3_remember_16 rfl ?_
          refine X.bipush dX3_remember_18 (by decide) ?_
          refine X.icmp_ge (tgt := 46) dX3_remember_20 (by decide) ⟨by omega, by omega⟩ (by decide) (fun h => by exfalso; omega) (fun h6 => ?_)
          refine X.aload_n dX3_remember_23 rfl ?_
          refine X.iload dX3_remember_24 rfl ?_
          refine X.iload_n dX3_remember_26 rfl ?_
          by_cases hp : ∃ z, 0 ≤ z ∧ z < v 0 0 ∧ sees v z c ∧ (fun k => v 3 k = 1) z
          · skip
            refine X.callV1 (As := [.inl c, .inl ((mkN (fun k => v 3 k = 1) (v 0 0).toNat : Nat) : Int)]) (rest := []) dX3_remember_27 mk_X3_93 sh_21 (CX.bt (c_isSeen M2 v hv2 hS hG2 c (fun k => v 3 k = 1) (by omega)) hp) rfl (by decide) rfl (Nat.le_of_ble_eq_true rfl) ?_
            refine X.if_eq (tgt := 40) dX3_remember_30 (by decide) (by decide) (fun h => absurd h (by decide)) (fun h7 => ?_)
            refine X.aload_n dX3_remember_33 rfl ?_
            refine X.iload_n dX3_remember_34 rfl ?_
            refine X.iload dX3_remember_35 rfl ?_
            refine X.callV0 (As := [.inl 1, .inl c]) (rest := []) dX3_remember_37 mk_X3_99 sh_1 (c_rememberCell_1 M2 v hv2 hS c (by omega)) rfl (by decide) rfl (Nat.le_of_ble_eq_true rfl) ?_
            refine X.iinc (y := c + 1) (lv2 := [some (.inr (some 1)), some (.inr (some 21)), some (.inl 1), some (.inl ((mkN (fun k => v 3 k = 1) (v 0 0).toNat : Nat) : Int)), some (.inl (c + 1))]) dX3_remember_40 rfl rfl rfl ?_
            refine X.goto (tgt := 16) dX3_remember_43 (by decide) ?_
            rw [← Frem_step (b := 17) (s := 1) hc2 hp]
            exact ihc _ ((((hv2.mset (by decide)).mset (by decide)).mset (by decide)).mset (by decide)) ((((hG2.mset (by decide)).mset (by decide)).mset (by decide)).mset (by decide))
          · skip
            refine X.callV1 (As := [.inl c, .inl ((mkN (fun k => v 3 k = 1) (v 0 0).toNat : Nat) : Int)]) (rest := []) dX3_remember_27 mk_X3_93 sh_21 (CX.bf (c_isSeen M2 v hv2 hS hG2 c (fun k => v 3 k = 1) (by omega)) hp) rfl (by decide) rfl (Nat.le_of_ble_eq_true rfl) ?_
            refine X.if_eq (tgt := 40) dX3_remember_30 (by decide) (by decide) (fun h8 => ?_) (fun h => absurd h (by decide))
            refine X.iinc (y := c + 1) (lv2 := [some (.inr (some 1)), some (.inr (some 21)), some (.inl 1), some (.inl ((mkN (fun k => v 3 k = 1) (v 0 0).toNat : Nat) : Int)), some (.inl (c + 1))]) dX3_remember_40 rfl rfl rfl ?_
            refine X.goto (tgt := 16) dX3_remember_43 (by decide) ?_
            rw [← Frem_skip (b := 17) (s := 1) hc2 hp]
            exact ihc M2 hv2 hG2
      exact L16 0 (by omega) (by omega) M1 hv1 hG1
    · intro c hc1 hc2 ihc
      intro M1 hv1 hG1
      refine X.iload dX3_remember_16 rfl ?_
      refine X.bipush dX3_remember_18 (by decide) ?_
      refine X.icmp_ge (tgt := 46) dX3_remember_20 (by decide) ⟨by omega, by omega⟩ (by decide) (fun h => by exfalso; omega) (fun h9 => ?_)
      refine X.aload_n dX3_remember_23 rfl ?_
      refine X.iload dX3_remember_24 rfl ?_
      refine X.iload_n dX3_remember_26 rfl ?_
      by_cases hp : ∃ z, 0 ≤ z ∧ z < v 0 0 ∧ sees v z c ∧ (fun k => v 3 k = 0) z
      · skip
        refine X.callV1 (As := [.inl c, .inl ((mkN (fun k => v 3 k = 0) (v 0 0).toNat : Nat) : Int)]) (rest := []) dX3_remember_27 mk_X3_93 sh_21 (CX.bt (c_isSeen M1 v hv1 hS hG1 c (fun k => v 3 k = 0) (by omega)) hp) rfl (by decide) rfl (Nat.le_of_ble_eq_true rfl) ?_
        refine X.if_eq (tgt := 40) dX3_remember_30 (by decide) (by decide) (fun h => absurd h (by decide)) (fun h10 => ?_)
        refine X.aload_n dX3_remember_33 rfl ?_
        refine X.iload_n dX3_remember_34 rfl ?_
        refine X.iload dX3_remember_35 rfl ?_
        refine X.callV0 (As := [.inl 0, .inl c]) (rest := []) dX3_remember_37 mk_X3_99 sh_1 (c_rememberCell_0 M1 v hv1 hS c (by omega)) rfl (by decide) rfl (Nat.le_of_ble_eq_true rfl) ?_
        refine X.iinc (y := c + 1) (lv2 := [some (.inr (some 1)), some (.inr (some 21)), some (.inl 0), some (.inl ((mkN (fun k => v 3 k = 0) (v 0 0).toNat : Nat) : Int)), some (.inl (c + 1))]) dX3_remember_40 rfl rfl rfl ?_
        refine X.goto (tgt := 16) dX3_remember_43 (by decide) ?_
        rw [← Frem_step (b := 12) (s := 0) hc2 hp]
        exact ihc _ ((((hv1.mset (by decide)).mset (by decide)).mset (by decide)).mset (by decide)) ((((hG1.mset (by decide)).mset (by decide)).mset (by decide)).mset (by decide))
      · skip
        refine X.callV1 (As := [.inl c, .inl ((mkN (fun k => v 3 k = 0) (v 0 0).toNat : Nat) : Int)]) (rest := []) dX3_remember_27 mk_X3_93 sh_21 (CX.bf (c_isSeen M1 v hv1 hS hG1 c (fun k => v 3 k = 0) (by omega)) hp) rfl (by decide) rfl (Nat.le_of_ble_eq_true rfl) ?_
        refine X.if_eq (tgt := 40) dX3_remember_30 (by decide) (by decide) (fun h11 => ?_) (fun h => absurd h (by decide))
        refine X.iinc (y := c + 1) (lv2 := [some (.inr (some 1)), some (.inr (some 21)), some (.inl 0), some (.inl ((mkN (fun k => v 3 k = 0) (v 0 0).toNat : Nat) : Int)), some (.inl (c + 1))]) dX3_remember_40 rfl rfl rfl ?_
        refine X.goto (tgt := 16) dX3_remember_43 (by decide) ?_
        rw [← Frem_skip (b := 12) (s := 0) hc2 hp]
        exact ihc M1 hv1 hG1
  exact L16 0 (by omega) (by omega) M hv hG
theorem Fref_lo {v : Vw} {a : Nat} (h : a ≠ 22 ∧ a ≠ 23) (j : Int) : Fref v a j = none := by unfold Fref; rw [if_neg h.1, if_neg h.2]
theorem SG.ref {M : Mem} {v : Vw} : SG (mgen M (Fref v) 0 120) v := ⟨fun c hc => mgen_in hc (by simp [Fref]), fun c hc => mgen_in hc (by simp [Fref])⟩
theorem VAx.ref {M : Mem} {v w : Vw} (h : VA M v) : VA (mgen M (Fref w) 0 120) v := h.mgn fun a h1 h2 => Fref_lo (by omega)
theorem VA.rem {M : Mem} {v w : Vw} (h : VA M v) : VA (remM M w) v := (h.mgn fun a h1 h2 => Frem_no (by omega)).mgn fun a h1 h2 => Frem_no (by omega)
theorem SG.rem {M : Mem} {v w : Vw} (h : SG M v) : SG (remM M w) v := h.frame ((mgen_row (Frem_no (by omega))).trans (mgen_row (Frem_no (by omega)))) ((mgen_row (Frem_no (by omega))).trans (mgen_row (Frem_no (by omega))))
noncomputable def lookM (M : Mem) (v : Vw) : Mem := remM (mgen M (Fref v) 0 120) v
set_option maxHeartbeats 4000000 in
set_option maxRecDepth 100000 in
theorem c_look (M : Mem) (v : Vw) (hv : VA M v) (hS : SI v) : CX mX6_look 6 [.inr (some 0)] M none (lookM M v) := by
  refine CX.of (by decide +kernel) (Nat.le_of_ble_eq_true rfl) [some (.inr (some 0))] rfl ?_
  refine X.aload_n dX6_look_0 rfl ?_
  refine X.getR dX6_look_1 fi_X6_19 sh_0 rfl ?_
  refine X.aload_n dX6_look_4 rfl ?_
  refine X.getR dX6_look_5 fi_X6_12 sh_0 rfl ?_
  refine X.callV0 (As := [.inr (some 1)]) (rest := []) dX6_look_8 mk_X6_115 sh_21 (c_refresh M v hv hS ) rfl (by decide) rfl (Nat.le_of_ble_eq_true rfl) ?_
  refine X.aload_n dX6_look_11 rfl ?_
  refine X.getR dX6_look_12 fi_X6_12 sh_0 rfl ?_
  refine X.aload_n dX6_look_15 rfl ?_
  refine X.getR dX6_look_16 fi_X6_19 sh_0 rfl ?_
  refine X.callV0 (As := [.inr (some 21)]) (rest := []) dX6_look_19 mk_X6_124 sh_1 (c_remember (mgen M (Fref v) 0 120) v (VAx.ref hv) hS SG.ref) rfl (by decide) rfl (Nat.le_of_ble_eq_true rfl) ?_
  exact X.vret dX6_look_22 rfl rfl rfl
set_option maxHeartbeats 4000000 in
set_option maxRecDepth 100000 in
theorem c_fadeM_0 (M : Mem) (v : Vw) (hS : SI v) (hm : ∀ i, 0 ≤ i ∧ i < 120 → M 12 i = v 9 i) : CX mX1_fade 1 [.inr (some 11)] M none (mgen M (Frow 12 (fun j => imax 0 (v 9 j - 1))) 0 120) := by
  refine CX.of (by decide +kernel) (Nat.le_of_ble_eq_true rfl) [some (.inr (some 11)), none] rfl ?_
  refine X.iconst dX1_fade_0 ?_
  refine X.istore_n (lv2 := [some (.inr (some 11)), some (.inl 0)]) dX1_fade_1 (Nat.le_of_ble_eq_true rfl) rfl ?_
  have L2 : ∀ k, 0 ≤ k → k ≤ 120 → ∀ M1 : Mem, (∀ j, k ≤ j → M1 12 j = M 12 j) → VX mX1_fade 1 2 [some (.inr (some 11)), some (.inl k)] [] M1 none (mgen M1 (Frow 12 (fun j => imax 0 (v 9 j - 1))) k 120) := by
    refine down_ind 0 120 ?_ ?_
    · skip
      intro M1 hM1
      rw [mgen_end (Int.le_refl _)]
      refine X.iload_n dX1_fade_2 rfl ?_
      refine X.bipush dX1_fade_3 (by decide) ?_
      refine X.icmp_ge (tgt := 32) dX1_fade_5 (by decide) ⟨by omega, by omega⟩ (by decide) (fun h1 => ?_) (fun h => by exfalso; omega)
      exact X.vret dX1_fade_32 rfl rfl rfl
    · intro k hk1 hk2 ihk
      intro M1 hM1
      have q := hS.r9 k
      refine X.iload_n dX1_fade_2 rfl ?_
      refine X.bipush dX1_fade_3 (by decide) ?_
      refine X.icmp_ge (tgt := 32) dX1_fade_5 (by decide) ⟨by omega, by omega⟩ (by decide) (fun h => by exfalso; omega) (fun h2 => ?_)
      refine X.aload_n dX1_fade_8 rfl ?_
      refine X.getR dX1_fade_9 fi_X1_9 sh_11 rfl ?_
      refine X.iload_n dX1_fade_12 rfl ?_
      refine X.iconst dX1_fade_13 ?_
      refine X.aload_n dX1_fade_14 rfl ?_
      refine X.getR dX1_fade_15 fi_X1_9 sh_11 rfl ?_
      refine X.iload_n dX1_fade_18 rfl ?_
      refine X.iald (v := v 9 k) dX1_fade_19 sh_12 (by decide) (by omega) ((hM1 k (Int.le_refl _)).trans (hm k (by omega))) ?_
      refine X.iconst dX1_fade_20 ?_
      refine X.isub (c := (v 9 k) - 1) dX1_fade_21 rfl ?_
      refine X.mmax (c := imax 0 ((v 9 k) - 1)) dX1_fade_22 kl_X1_28 (by decide) ⟨by omega, by omega⟩ (by decide) (Nat.le_of_ble_eq_true rfl) rfl ?_
      refine X.iast dX1_fade_25 sh_12 (by decide) (by omega) ?_
      refine X.iinc (y := k + 1) (lv2 := [some (.inr (some 11)), some (.inl (k + 1))]) dX1_fade_26 rfl rfl rfl ?_
      refine X.goto (tgt := 2) dX1_fade_29 (by decide) ?_
      rw [← Frow_step (x := imax 0 (v 9 k - 1)) hk2 rfl]
      exact ihk _ (fun j hj => (mset_ne (by omega)).trans (hM1 j (by omega)))
  exact L2 0 (by omega) (by omega) M (fun _ _ => rfl)
set_option maxHeartbeats 4000000 in
set_option maxRecDepth 100000 in
theorem c_limitM_0 (M : Mem) (v : Vw) (hS : SI v) (hm : ∀ i, 0 ≤ i ∧ i < 120 → M 12 i = v 9 i) (x : Int) (hx : inR x) : CX mX1_limit 1 [.inr (some 11), .inl x] M none (mgen M (Frow 12 (fun j => imin (v 9 j) x)) 0 120) := by
  refine CX.of (by decide +kernel) (Nat.le_of_ble_eq_true rfl) [some (.inr (some 11)), some (.inl x), none] rfl ?_
  refine X.iconst dX1_limit_0 ?_
  refine X.istore_n (lv2 := [some (.inr (some 11)), some (.inl x), some (.inl 0)]) dX1_limit_1 (Nat.le_of_ble_eq_true rfl) rfl ?_
  have L2 : ∀ k, 0 ≤ k → k ≤ 120 → ∀ M1 : Mem, (∀ j, k ≤ j → M1 12 j = M 12 j) → VX mX1_limit 1 2 [some (.inr (some 11)), some (.inl x), some (.inl k)] [] M1 none (mgen M1 (Frow 12 (fun j => imin (v 9 j) x)) k 120) := by
    refine down_ind 0 120 ?_ ?_
    · skip
      intro M1 hM1
      rw [mgen_end (Int.le_refl _)]
      refine X.iload_n dX1_limit_2 rfl ?_
      refine X.bipush dX1_limit_3 (by decide) ?_
      refine X.icmp_ge (tgt := 30) dX1_limit_5 (by decide) ⟨by omega, by omega⟩ (by decide) (fun h1 => ?_) (fun h => by exfalso; omega)
      exact X.vret dX1_limit_30 rfl rfl rfl
    · intro k hk1 hk2 ihk
      intro M1 hM1
      have q := hS.r9 k
      refine X.iload_n dX1_limit_2 rfl ?_
      refine X.bipush dX1_limit_3 (by decide) ?_
      refine X.icmp_ge (tgt := 30) dX1_limit_5 (by decide) ⟨by omega, by omega⟩ (by decide) (fun h => by exfalso; omega) (fun h2 => ?_)
      refine X.aload_n dX1_limit_8 rfl ?_
      refine X.getR dX1_limit_9 fi_X1_9 sh_11 rfl ?_
      refine X.iload_n dX1_limit_12 rfl ?_
      refine X.aload_n dX1_limit_13 rfl ?_
      refine X.getR dX1_limit_14 fi_X1_9 sh_11 rfl ?_
      refine X.iload_n dX1_limit_17 rfl ?_
      refine X.iald (v := v 9 k) dX1_limit_18 sh_12 (by decide) (by omega) ((hM1 k (Int.le_refl _)).trans (hm k (by omega))) ?_
      refine X.iload_n dX1_limit_19 rfl ?_
      refine X.mmin (c := imin (v 9 k) x) dX1_limit_20 kl_X1_34 ⟨by omega, by omega⟩ hx (by decide) (Nat.le_of_ble_eq_true rfl) rfl ?_
      refine X.iast dX1_limit_23 sh_12 (by decide) (by omega) ?_
      refine X.iinc (y := k + 1) (lv2 := [some (.inr (some 11)), some (.inl x), some (.inl (k + 1))]) dX1_limit_24 rfl rfl rfl ?_
      refine X.goto (tgt := 2) dX1_limit_27 (by decide) ?_
      rw [← Frow_step (x := imin (v 9 k) x) hk2 rfl]
      exact ihk _ (fun j hj => (mset_ne (by omega)).trans (hM1 j (by omega)))
  exact L2 0 (by omega) (by omega) M (fun _ _ => rfl)
set_option maxHeartbeats 4000000 in
set_option maxRecDepth 100000 in
theorem c_fadeM_1 (M : Mem) (v : Vw) (hS : SI v) (hm : ∀ i, 0 ≤ i ∧ i < 120 → M 17 i = v 13 i) : CX mX1_fade 1 [.inr (some 16)] M none (mgen M (Frow 17 (fun j => imax 0 (v 13 j - 1))) 0 120) := by
  refine CX.of (by decide +kernel) (Nat.le_of_ble_eq_true rfl) [some (.inr (some 16)), none] rfl ?_
  refine X.iconst dX1_fade_0 ?_
  refine X.istore_n (lv2 := [some (.inr (some 16)), some (.inl 0)]) dX1_fade_1 (Nat.le_of_ble_eq_true rfl) rfl ?_
  have L2 : ∀ k, 0 ≤ k → k ≤ 120 → ∀ M1 : Mem, (∀ j, k ≤ j → M1 17 j = M 17 j) → VX mX1_fade 1 2 [some (.inr (some 16)), some (.inl k)] [] M1 none (mgen M1 (Frow 17 (fun j => imax 0 (v 13 j - 1))) k 120) := by
    refine down_ind 0 120 ?_ ?_
    · skip
      intro M1 hM1
      rw [mgen_end (Int.le_refl _)]
      refine X.iload_n dX1_fade_2 rfl ?_
      refine X.bipush dX1_fade_3 (by decide) ?_
      refine X.icmp_ge (tgt := 32) dX1_fade_5 (by decide) ⟨by omega, by omega⟩ (by decide) (fun h1 => ?_) (fun h => by exfalso; omega)
      exact X.vret dX1_fade_32 rfl rfl rfl
    · intro k hk1 hk2 ihk
      intro M1 hM1
      have q := hS.r13 k
      refine X.iload_n dX1_fade_2 rfl ?_
      refine X.bipush dX1_fade_3 (by decide) ?_
      refine X.icmp_ge (tgt := 32) dX1_fade_5 (by decide) ⟨by omega, by omega⟩ (by decide) (fun h => by exfalso; omega) (fun h2 => ?_)
      refine X.aload_n dX1_fade_8 rfl ?_
      refine X.getR dX1_fade_9 fi_X1_9 sh_16 rfl ?_
      refine X.iload_n dX1_fade_12 rfl ?_
      refine X.iconst dX1_fade_13 ?_
      refine X.aload_n dX1_fade_14 rfl ?_
      refine X.getR dX1_fade_15 fi_X1_9 sh_16 rfl ?_
      refine X.iload_n dX1_fade_18 rfl ?_
      refine X.iald (v := v 13 k) dX1_fade_19 sh_17 (by decide) (by omega) ((hM1 k (Int.le_refl _)).trans (hm k (by omega))) ?_
      refine X.iconst dX1_fade_20 ?_
      refine X.isub (c := (v 13 k) - 1) dX1_fade_21 rfl ?_
      refine X.mmax (c := imax 0 ((v 13 k) - 1)) dX1_fade_22 kl_X1_28 (by decide) ⟨by omega, by omega⟩ (by decide) (Nat.le_of_ble_eq_true rfl) rfl ?_
      refine X.iast dX1_fade_25 sh_17 (by decide) (by omega) ?_
      refine X.iinc (y := k + 1) (lv2 := [some (.inr (some 16)), some (.inl (k + 1))]) dX1_fade_26 rfl rfl rfl ?_
      refine X.goto (tgt := 2) dX1_fade_29 (by decide) ?_
      rw [← Frow_step (x := imax 0 (v 13 k - 1)) hk2 rfl]
      exact ihk _ (fun j hj => (mset_ne (by omega)).trans (hM1 j (by omega)))
  exact L2 0 (by omega) (by omega) M (fun _ _ => rfl)
set_option maxHeartbeats 4000000 in
set_option maxRecDepth 100000 in
theorem c_limitM_1 (M : Mem) (v : Vw) (hS : SI v) (hm : ∀ i, 0 ≤ i ∧ i < 120 → M 17 i = v 13 i) (x : Int) (hx : inR x) : CX mX1_limit 1 [.inr (some 16), .inl x] M none (mgen M (Frow 17 (fun j => imin (v 13 j) x)) 0 120) := by
  refine CX.of (by decide +kernel) (Nat.le_of_ble_eq_true rfl) [some (.inr (some 16)), some (.inl x), none] rfl ?_
  refine X.iconst dX1_limit_0 ?_
  refine X.istore_n (lv2 := [some (.inr (some 16)), some (.inl x), some (.inl 0)]) dX1_limit_1 (Nat.le_of_ble_eq_true rfl) rfl ?_
  have L2 : ∀ k, 0 ≤ k → k ≤ 120 → ∀ M1 : Mem, (∀ j, k ≤ j → M1 17 j = M 17 j) → VX mX1_limit 1 2 [some (.inr (some 16)), some (.inl x), some (.inl k)] [] M1 none (mgen M1 (Frow 17 (fun j => imin (v 13 j) x)) k 120) := by
    refine down_ind 0 120 ?_ ?_
    · skip
      intro M1 hM1
      rw [mgen_end (Int.le_refl _)]
      refine X.iload_n dX1_limit_2 rfl ?_
      refine X.bipush dX1_limit_3 (by decide) ?_
      refine X.icmp_ge (tgt := 30) dX1_limit_5 (by decide) ⟨by omega, by omega⟩ (by decide) (fun h1 => ?_) (fun h => by exfalso; omega)
      exact X.vret dX1_limit_30 rfl rfl rfl
    · intro k hk1 hk2 ihk
      intro M1 hM1
      have q := hS.r13 k
      refine X.iload_n dX1_limit_2 rfl ?_
      refine X.bipush dX1_limit_3 (by decide) ?_
      refine X.icmp_ge (tgt := 30) dX1_limit_5 (by decide) ⟨by omega, by omega⟩ (by decide) (fun h => by exfalso; omega) (fun h2 => ?_)
      refine X.aload_n dX1_limit_8 rfl ?_
      refine X.getR dX1_limit_9 fi_X1_9 sh_16 rfl ?_
      refine X.iload_n dX1_limit_12 rfl ?_
      refine X.aload_n dX1_limit_13 rfl ?_
      refine X.getR dX1_limit_14 fi_X1_9 sh_16 rfl ?_
      refine X.iload_n dX1_limit_17 rfl ?_
      refine X.iald (v := v 13 k) dX1_limit_18 sh_17 (by decide) (by omega) ((hM1 k (Int.le_refl _)).trans (hm k (by omega))) ?_
      refine X.iload_n dX1_limit_19 rfl ?_
      refine X.mmin (c := imin (v 13 k) x) dX1_limit_20 kl_X1_34 ⟨by omega, by omega⟩ hx (by decide) (Nat.le_of_ble_eq_true rfl) rfl ?_
      refine X.iast dX1_limit_23 sh_17 (by decide) (by omega) ?_
      refine X.iinc (y := k + 1) (lv2 := [some (.inr (some 16)), some (.inl x), some (.inl (k + 1))]) dX1_limit_24 rfl rfl rfl ?_
      refine X.goto (tgt := 2) dX1_limit_27 (by decide) ?_
      rw [← Frow_step (x := imin (v 13 k) x) hk2 rfl]
      exact ihk _ (fun j hj => (mset_ne (by omega)).trans (hM1 j (by omega)))
  exact L2 0 (by omega) (by omega) M (fun _ _ => rfl)
def fadeM (M : Mem) (v : Vw) : Mem := mgen (mgen M (Frow 12 (fun j => imax 0 (v 9 j - 1))) 0 120) (Frow 17 (fun j => imax 0 (v 13 j - 1))) 0 120
def limM (M : Mem) (v : Vw) (x : Int) : Mem := mgen (mgen M (Frow 12 (fun j => imin (v 9 j) x)) 0 120) (Frow 17 (fun j => imin (v 13 j) x)) 0 120
theorem Frow_no {a b : Nat} {f : Int → Int} (h : b ≠ a) (j : Int) : Frow a f b j = none := if_neg h
set_option maxHeartbeats 4000000 in
set_option maxRecDepth 100000 in
theorem c_fadeS (M : Mem) (v : Vw) (hS : SI v) (hm0 : ∀ i, 0 ≤ i ∧ i < 120 → M 12 i = v 9 i) (hm1 : ∀ i, 0 ≤ i ∧ i < 120 → M 17 i = v 13 i) : CX mX3_fade 2 [.inr (some 1)] M none (fadeM M v) := by
  refine CX.of (by decide +kernel) (Nat.le_of_ble_eq_true rfl) [some (.inr (some 1)), none] rfl ?_
  refine X.iconst dX3_fade_0 ?_
  refine X.istore_n (lv2 := [some (.inr (some 1)), some (.inl 0)]) dX3_fade_1 (Nat.le_of_ble_eq_true rfl) rfl ?_
  refine X.iload_n dX3_fade_2 rfl ?_
  refine X.iconst dX3_fade_3 ?_
  refine X.icmp_ge (tgt := 22) dX3_fade_4 (by decide) (by decide) (by decide) (fun h => absurd h (by decide)) (fun h1 => ?_)
  refine X.aload_n dX3_fade_7 rfl ?_
  refine X.getR dX3_fade_8 fi_X3_52 sh_1 rfl ?_
  refine X.iload_n dX3_fade_11 rfl ?_
  refine X.aald dX3_fade_12 sh_10 (by decide) (by decide) (by decide) rfl ?_
  refine X.callV0 (As := []) (rest := []) dX3_fade_13 mk_X3_83 sh_11 (c_fadeM_0 M v hS hm0  ) rfl (by decide) rfl (Nat.le_of_ble_eq_true rfl) ?_
  refine X.iinc (y := 1) (lv2 := [some (.inr (some 1)), some (.inl 1)]) dX3_fade_16 rfl rfl rfl ?_
  refine X.goto (tgt := 2) dX3_fade_19 (by decide) ?_
  refine X.iload_n dX3_fade_2 rfl ?_
  refine X.iconst dX3_fade_3 ?_
  refine X.icmp_ge (tgt := 22) dX3_fade_4 (by decide) (by decide) (by decide) (fun h => absurd h (by decide)) (fun h2 => ?_)
  refine X.aload_n dX3_fade_7 rfl ?_
  refine X.getR dX3_fade_8 fi_X3_52 sh_1 rfl ?_
  refine X.iload_n dX3_fade_11 rfl ?_
  refine X.aald dX3_fade_12 sh_10 (by decide) (by decide) (by decide) rfl ?_
  refine X.callV0 (As := []) (rest := []) dX3_fade_13 mk_X3_83 sh_16 (c_fadeM_1 (mgen M (Frow 12 (fun j => imax 0 (v 9 j - 1))) 0 120) v hS (fun i hi => (congrFun (mgen_row (Frow_no (by decide))) i).trans (hm1 i hi))  ) rfl (by decide) rfl (Nat.le_of_ble_eq_true rfl) ?_
  refine X.iinc (y := 2) (lv2 := [some (.inr (some 1)), some (.inl 2)]) dX3_fade_16 rfl rfl rfl ?_
  refine X.goto (tgt := 2) dX3_fade_19 (by decide) ?_
  refine X.iload_n dX3_fade_2 rfl ?_
  refine X.iconst dX3_fade_3 ?_
  refine X.icmp_ge (tgt := 22) dX3_fade_4 (by decide) (by decide) (by decide) (fun h3 => ?_) (fun h => absurd h (by decide))
  exact X.vret dX3_fade_22 rfl rfl rfl
set_option maxHeartbeats 4000000 in
set_option maxRecDepth 100000 in
theorem c_changeFogTime (M : Mem) (v : Vw) (hS : SI v) (hm0 : ∀ i, 0 ≤ i ∧ i < 120 → M 12 i = v 9 i) (hm1 : ∀ i, 0 ≤ i ∧ i < 120 → M 17 i = v 13 i) (x : Int) (hx : inR x) : CX mX3_changeFogTime 2 [.inr (some 1), .inl x] M none (limM (mset M 1 10 x) v x) := by
  refine CX.of (by decide +kernel) (Nat.le_of_ble_eq_true rfl) [some (.inr (some 1)), some (.inl x), none] rfl ?_
  refine X.aload_n dX3_changeFogTime_0 rfl ?_
  refine X.iload_n dX3_changeFogTime_1 rfl ?_
  refine X.putI 10 10 rfl dX3_changeFogTime_2 fi_X3_43 sh_1 rfl rfl ?_
  refine X.iconst dX3_changeFogTime_5 ?_
  refine X.istore_n (lv2 := [some (.inr (some 1)), some (.inl x), some (.inl 0)]) dX3_changeFogTime_6 (Nat.le_of_ble_eq_true rfl) rfl ?_
  refine X.iload_n dX3_changeFogTime_7 rfl ?_
  refine X.iconst dX3_changeFogTime_8 ?_
  refine X.icmp_ge (tgt := 28) dX3_changeFogTime_9 (by decide) (by decide) (by decide) (fun h => absurd h (by decide)) (fun h1 => ?_)
  refine X.aload_n dX3_changeFogTime_12 rfl ?_
  refine X.getR dX3_changeFogTime_13 fi_X3_52 sh_1 rfl ?_
  refine X.iload_n dX3_changeFogTime_16 rfl ?_
  refine X.aald dX3_changeFogTime_17 sh_10 (by decide) (by decide) (by decide) rfl ?_
  refine X.iload_n dX3_changeFogTime_18 rfl ?_
  refine X.callV0 (As := [.inl x]) (rest := []) dX3_changeFogTime_19 mk_X3_86 sh_11 (c_limitM_0 (mset M 1 10 x) v hS (fun i hi => (congrFun (mset_row (by decide)) i).trans (hm0 i hi)) x hx) rfl (by decide) rfl (Nat.le_of_ble_eq_true rfl) ?_
  refine X.iinc (y := 1) (lv2 := [some (.inr (some 1)), some (.inl x), some (.inl 1)]) dX3_changeFogTime_22 rfl rfl rfl ?_
  refine X.goto (tgt := 7) dX3_changeFogTime_25 (by decide) ?_
  refine X.iload_n dX3_changeFogTime_7 rfl ?_
  refine X.iconst dX3_changeFogTime_8 ?_
  refine X.icmp_ge (tgt := 28) dX3_changeFogTime_9 (by decide) (by decide) (by decide) (fun h => absurd h (by decide)) (fun h2 => ?_)
  refine X.aload_n dX3_changeFogTime_12 rfl ?_
  refine X.getR dX3_changeFogTime_13 fi_X3_52 sh_1 rfl ?_
  refine X.iload_n dX3_changeFogTime_16 rfl ?_
  refine X.aald dX3_changeFogTime_17 sh_10 (by decide) (by decide) (by decide) rfl ?_
  refine X.iload_n dX3_changeFogTime_18 rfl ?_
  refine X.callV0 (As := [.inl x]) (rest := []) dX3_changeFogTime_19 mk_X3_86 sh_16 (c_limitM_1 (mgen (mset M 1 10 x) (Frow 12 (fun j => imin (v 9 j) x)) 0 120) v hS (fun i hi => ((congrFun (mgen_row (Frow_no (by decide))) i).trans (congrFun (mset_row (by decide)) i)).trans (hm1 i hi)) x hx) rfl (by decide) rfl (Nat.le_of_ble_eq_true rfl) ?_
  refine X.iinc (y := 2) (lv2 := [some (.inr (some 1)), some (.inl x), some (.inl 2)]) dX3_changeFogTime_22 rfl rfl rfl ?_
  refine X.goto (tgt := 7) dX3_changeFogTime_25 (by decide) ?_
  refine X.iload_n dX3_changeFogTime_7 rfl ?_
  refine X.iconst dX3_changeFogTime_8 ?_
  refine X.icmp_ge (tgt := 28) dX3_changeFogTime_9 (by decide) (by decide) (by decide) (fun h3 => ?_) (fun h => absurd h (by decide))
  exact X.vret dX3_changeFogTime_28 rfl rfl rfl
def dim1 (x : Int) : Int := if 0 < x then x - 1 else x
theorem dim_t {x : Int} (h : 0 < x) : x - 1 = dim1 x := (if_pos h).symm
theorem dim_f {x : Int} (h : ¬ 0 < x) : x = dim1 x := (if_neg h).symm
theorem Frow_skip {M : Mem} {a : Nat} {f : Int → Int} {k hi : Int} (h : k < hi) (hx : M a k = f k) : mgen M (Frow a f) (k + 1) hi = mgen M (Frow a f) k hi := by
  refine mgen_step h fun b j => ?_
  unfold Frow
  by_cases hj : j = k
  · subst hj
    by_cases hb : b = a
    · subst hb; simp [hx]
    · simp [hb]
  · simp [hj]
def burnM (M : Mem) (v : Vw) : Mem := mgen M (Frow 9 (fun j => dim1 (v 8 j))) 0 (v 0 1)
def burnV (v : Vw) : Vw := vrow v 8 (fun j => dim1 (v 8 j))
theorem vF0 {M : Mem} {b : Nat} {v : Vw} (h : vF M b = v) : M b 6 = v 0 1 := by subst h; rfl
theorem dim1_le {x : Int} (h : 0 ≤ x) : 0 ≤ dim1 x ∧ dim1 x ≤ x := by unfold dim1; split <;> omega
theorem gd_of {n : Int} {f g : Int → Int} (h1 : ∀ i, 0 ≤ i → i < n → f i = g i) (h2 : ∀ i, ¬ (0 ≤ i ∧ i < n) → g i = 0) : gd n f = g := by
  funext i
  by_cases hi : 0 ≤ i ∧ i < n
  · rw [gd_in hi, h1 i hi.1 hi.2]
  · rw [gd_out hi, h2 i hi]
/-- a view is 0 out of range -/
def V0 (v : Vw) : Prop := (∀ t, 1 ≤ t → t ≤ 2 → ∀ i, ¬ (0 ≤ i ∧ i < 120) → v t i = 0) ∧ (∀ t, 3 ≤ t → t ≤ 5 → ∀ i, ¬ (0 ≤ i ∧ i < v 0 0) → v t i = 0) ∧ (∀ t, 6 ≤ t → t ≤ 8 → ∀ i, ¬ (0 ≤ i ∧ i < v 0 1) → v t i = 0)
theorem VA.V0 {M : Mem} {v : Vw} (hv : VA M v) : V0 v := by
  refine ⟨fun t h1 h2 i hi => ?_, fun t h1 h2 i hi => ?_, fun t h1 h2 i hi => ?_⟩
  · rw [← hv t (by omega)]
    have : t = 1 ∨ t = 2 := by omega
    rcases this with rfl | rfl <;> exact gd_out hi
  · rw [← hv t (by omega)]
    rw [← rd_0_0 hv] at hi
    have : t = 3 ∨ t = 4 ∨ t = 5 := by omega
    rcases this with rfl | rfl | rfl <;> exact gd_out hi
  · rw [← hv t (by omega)]
    rw [← rd_0_1 hv] at hi
    have : t = 6 ∨ t = 7 ∨ t = 8 := by omega
    rcases this with rfl | rfl | rfl <;> exact gd_out hi
theorem VA.burn {M : Mem} {v : Vw} (hv : VA M v) : VA (burnM M v) (burnV v) := by
  intro t ht
  have e1 : ∀ a, a ≠ 9 → burnM M v a = M a := fun a ha => mgen_row (Frow_no ha)
  by_cases h8 : t = 8
  · subst h8
    show gd (burnM M v 1 6) (burnM M v 9) = fun j => dim1 (v 8 j)
    rw [e1 1 (by decide), rd_0_1 hv]
    refine gd_of (fun i h1 h2 => ?_) (fun i hi => ?_)
    · exact mgen_in ⟨h1, h2⟩ rfl
    · show dim1 (v 8 i) = 0
      rw [hv.V0.2.2 8 (by decide) (by decide) i hi]; rfl
  · have : burnV v t = v t := if_neg h8
    rw [this, ← hv t ht]
    have : t = 0 ∨ t = 1 ∨ t = 2 ∨ t = 3 ∨ t = 4 ∨ t = 5 ∨ t = 6 ∨ t = 7 := by omega
    rcases this with rfl | rfl | rfl | rfl | rfl | rfl | rfl | rfl <;> simp only [vF, e1 1 (by decide), e1 (1 + 1) (by decide), e1 (1 + 2) (by decide), e1 (1 + 3) (by decide), e1 (1 + 4) (by decide), e1 (1 + 5) (by decide), e1 (1 + 6) (by decide), e1 (1 + 7) (by decide)]
theorem SI.burn {v : Vw} (h : SI v) : SI (burnV v) := by
  obtain ⟨a1, a2, a3, a4, a5, a6, a7, a8, a9, a10, a11, a12⟩ := h
  refine ⟨a1, a2, a3, a4, a5, a6, a7, a8, a9, a10, fun k => ?_, a12⟩
  show 0 ≤ dim1 (v 8 k) ∧ dim1 (v 8 k) ≤ 50
  have := dim1_le (a11 k).1
  have := a11 k
  omega
set_option maxHeartbeats 4000000 in
set_option maxRecDepth 100000 in
theorem c_burn (M : Mem) (v : Vw) (hv : VA M v) (hS : SI v) : CX mX3_burn 1 [.inr (some 1)] M (some (.inl (cnt (fun k => 0 < v 8 k) (v 0 1).toNat 0 - cnt (fun k => 0 < burnV v 8 k) (v 0 1).toNat 0))) (burnM M v) := by
  have n0 := hS.n0
  have n1 := hS.n1
  have n2 := hS.n2
  refine CX.of (by decide +kernel) (Nat.le_of_ble_eq_true rfl) [some (.inr (some 1)), none, none] rfl ?_
  refine X.aload_n dX3_burn_0 rfl ?_
  refine X.callV1 (As := []) (rest := []) dX3_burn_1 mk_X3_75 sh_1 (c_countBurning M v hv hS ) rfl (by decide) rfl (Nat.le_of_ble_eq_true rfl) ?_
  refine X.istore_n (lv2 := [some (.inr (some 1)), some (.inl (cnt (fun k => 0 < v 8 k) (v 0 1).toNat 0)), none]) dX3_burn_4 (Nat.le_of_ble_eq_true rfl) rfl ?_
  refine X.iconst dX3_burn_5 ?_
  refine X.istore_n (lv2 := [some (.inr (some 1)), some (.inl (cnt (fun k => 0 < v 8 k) (v 0 1).toNat 0)), some (.inl 0)]) dX3_burn_6 (Nat.le_of_ble_eq_true rfl) rfl ?_
  have L7 : ∀ k, 0 ≤ k → k ≤ (v 0 1) → ∀ M1 : Mem, M1 1 = M 1 → (∀ j, k ≤ j → M1 9 j = M 9 j) → M = M → mgen M1 (Frow 9 (fun j => dim1 (v 8 j))) k (v 0 1) = burnM M v → VX mX3_burn 1 7 [some (.inr (some 1)), some (.inl (cnt (fun k => 0 < v 8 k) (v 0 1).toNat 0)), some (.inl k)] [] M1 (some (.inl (cnt (fun k => 0 < v 8 k) (v 0 1).toNat 0 - cnt (fun k => 0 < burnV v 8 k) (v 0 1).toNat 0))) (burnM M v) := by
    refine down_ind 0 (v 0 1) ?_ ?_
    · skip
      intro M1 hM0 hM1 _ hM2
      rw [mgen_end (Int.le_refl _)] at hM2
      subst hM2
      refine X.iload_n dX3_burn_7 rfl ?_
      refine X.aload_n dX3_burn_8 rfl ?_
      refine X.getI (v := v 0 1) 6 dX3_burn_9 fi_X3_31 sh_1 rfl ((congrFun hM0 6).trans (rd_0_1 hv)) ?_
      refine X.icmp_ge (tgt := 40) dX3_burn_12 (by decide) ⟨by omega, by omega⟩ ⟨by omega, by omega⟩ (fun h1 => ?_) (fun h => by exfalso; omega)
      refine X.iload_n dX3_burn_40 rfl ?_
      refine X.aload_n dX3_burn_41 rfl ?_
      refine X.callV1 (As := []) (rest := [.inl (cnt (fun k => 0 < v 8 k) (v 0 1).toNat 0)]) dX3_burn_42 mk_X3_75 sh_1 (c_countBurning (burnM M v) (burnV v) hv.burn hS.burn) rfl (by decide) rfl (Nat.le_of_ble_eq_true rfl) ?_
      refine X.isub (c := (cnt (fun k => 0 < v 8 k) (v 0 1).toNat 0) - (cnt (fun k => 0 < burnV v 8 k) (v 0 1).toNat 0)) dX3_burn_45 rfl ?_
      exact X.iret dX3_burn_46 rfl rfl rfl
    · intro k hk1 hk2 ihk
      intro M1 hM0 hM1 _ hM2
      have q := hS.r8 k
      refine X.iload_n dX3_burn_7 rfl ?_
      refine X.aload_n dX3_burn_8 rfl ?_
      refine X.getI (v := v 0 1) 6 dX3_burn_9 fi_X3_31 sh_1 rfl ((congrFun hM0 6).trans (rd_0_1 hv)) ?_
      refine X.icmp_ge (tgt := 40) dX3_burn_12 (by decide) ⟨by omega, by omega⟩ ⟨by omega, by omega⟩ (fun h => by exfalso; omega) (fun h2 => ?_)
      refine X.aload_n dX3_burn_15 rfl ?_
      refine X.getR dX3_burn_16 fi_X3_40 sh_1 rfl ?_
      refine X.iload_n dX3_burn_19 rfl ?_
      refine X.iald (v := v 8 k) dX3_burn_20 sh_9 (by decide) (by omega) ((hM1 k (Int.le_refl _)).trans (rd_8 hv (by omega))) ?_
      refine X.if_le (tgt := 34) dX3_burn_21 (by decide) ⟨by omega, by omega⟩ (fun h21 => ?_) (fun h21 => ?_)
      · skip
        refine X.iinc (y := k + 1) (lv2 := [some (.inr (some 1)), some (.inl (cnt (fun k => 0 < v 8 k) (v 0 1).toNat 0)), some (.inl (k + 1))]) dX3_burn_34 rfl rfl rfl ?_
        refine X.goto (tgt := 7) dX3_burn_37 (by decide) ?_
        exact ihk _ hM0 (fun j hj => hM1 j (by omega)) rfl ((Frow_skip (f := fun j => dim1 (v 8 j)) hk2 (((hM1 k (Int.le_refl _)).trans (rd_8 hv (by omega))).trans (dim_f (by omega)))).trans hM2)
      · skip
        refine X.aload_n dX3_burn_24 rfl ?_
        refine X.getR dX3_burn_25 fi_X3_40 sh_1 rfl ?_
        refine X.iload_n dX3_burn_28 rfl ?_
        refine X.dup2 dX3_burn_29 ?_
        refine X.iald (v := v 8 k) dX3_burn_30 sh_9 (by decide) (by omega) ((hM1 k (Int.le_refl _)).trans (rd_8 hv (by omega))) ?_
        refine X.iconst dX3_burn_31 ?_
        refine X.isub (c := (v 8 k) - 1) dX3_burn_32 rfl ?_
        refine X.iast dX3_burn_33 sh_9 (by decide) (by omega) ?_
        refine X.iinc (y := k + 1) (lv2 := [some (.inr (some 1)), some (.inl (cnt (fun k => 0 < v 8 k) (v 0 1).toNat 0)), some (.inl (k + 1))]) dX3_burn_34 rfl rfl rfl ?_
        refine X.goto (tgt := 7) dX3_burn_37 (by decide) ?_
        exact ihk _ (by rw [mset_row (by decide)]; exact hM0) (fun j hj => (mset_ne (by omega)).trans (hM1 j (by omega))) rfl ((Frow_step (f := fun j => dim1 (v 8 j)) hk2 (dim_t h21)).trans hM2)
  exact L7 0 (by omega) (by omega) M rfl (fun _ _ => rfl) rfl rfl
