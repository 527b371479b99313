set_option maxHeartbeats 4000000 in
set_option maxRecDepth 100000 in
theorem c_reach_f (M : Mem) (c n : Int) (hc : 0 ≤ c ∧ c < 120) (h : M 130 c ≠ -1) (hr : inR (M 130 c)) : CX mX5_reach 0 [.inr (some 129), .inl c, .inl n] M none M := by
  refine CX.of (by decide +kernel) (Nat.le_of_ble_eq_true rfl) [some (.inr (some 129)), some (.inl c), some (.inl n)] rfl ?_
  refine X.aload_n dX5_reach_0 rfl ?_
  refine X.getR dX5_reach_1 fi_X5_9 sh_129 rfl ?_
  refine X.iload_n dX5_reach_4 rfl ?_
  refine X.iald (v := M 130 c) dX5_reach_5 sh_130 (by decide) (by omega) rfl ?_
  refine X.iconst dX5_reach_6 ?_
  refine X.icmp_ne (tgt := 46) dX5_reach_7 (by decide) hr (by decide) (fun h1 => ?_) (fun q => absurd q h)
  exact X.vret dX5_reach_46 rfl rfl rfl
set_option maxHeartbeats 4000000 in
set_option maxRecDepth 100000 in
theorem c_reach_t (M : Mem) (c n q : Int) (hc : 0 ≤ c ∧ c < 120) (h : M 130 c = -1) (hq : M 129 2 = q) (hqr : 0 ≤ q ∧ q < 120) : CX mX5_reach 0 [.inr (some 129), .inl c, .inl n] M none (mset (mset (mset M 130 c n) 131 q c) 129 2 (q + 1)) := by
  refine CX.of (by decide +kernel) (Nat.le_of_ble_eq_true rfl) [some (.inr (some 129)), some (.inl c), some (.inl n)] rfl ?_
  refine X.aload_n dX5_reach_0 rfl ?_
  refine X.getR dX5_reach_1 fi_X5_9 sh_129 rfl ?_
  refine X.iload_n dX5_reach_4 rfl ?_
  refine X.iald (v := (-1)) dX5_reach_5 sh_130 (by decide) (by omega) h ?_
  refine X.iconst dX5_reach_6 ?_
  refine X.icmp_ne (tgt := 46) dX5_reach_7 (by decide) (by decide) (by decide) (fun h => absurd h (by decide)) (fun h1 => ?_)
  refine X.aload_n dX5_reach_10 rfl ?_
  refine X.getI (v := q) 2 dX5_reach_11 fi_X5_18 sh_129 rfl hq ?_
  refine X.bipush dX5_reach_14 (by decide) ?_
  refine X.icmp_ge (tgt := 46) dX5_reach_16 (by decide) ⟨by omega, by omega⟩ (by decide) (fun h => by exfalso; omega) (fun h2 => ?_)
  refine X.aload_n dX5_reach_19 rfl ?_
  refine X.getR dX5_reach_20 fi_X5_9 sh_129 rfl ?_
  refine X.iload_n dX5_reach_23 rfl ?_
  refine X.iload_n dX5_reach_24 rfl ?_
  refine X.iast dX5_reach_25 sh_130 (by decide) (by omega) ?_
  refine X.aload_n dX5_reach_26 rfl ?_
  refine X.getR dX5_reach_27 fi_X5_15 sh_129 rfl ?_
  refine X.aload_n dX5_reach_30 rfl ?_
  refine X.getI (v := q) 2 dX5_reach_31 fi_X5_18 sh_129 rfl (by rw [mset_row (by decide)]; exact hq) ?_
  refine X.iload_n dX5_reach_34 rfl ?_
  refine X.iast dX5_reach_35 sh_131 (by decide) (by omega) ?_
  refine X.aload_n dX5_reach_36 rfl ?_
  refine X.dup dX5_reach_37 ?_
  refine X.getI (v := q) 2 dX5_reach_38 fi_X5_18 sh_129 rfl (by rw [mset_row (by decide), mset_row (by decide)]; exact hq) ?_
  refine X.iconst dX5_reach_41 ?_
  refine X.iadd (c := q + 1) dX5_reach_42 rfl ?_
  refine X.putI 2 2 rfl dX5_reach_43 fi_X5_18 sh_129 rfl rfl ?_
  exact X.vret dX5_reach_46 rfl rfl rfl
/-- a cell's neighbors are gone through, as far as (dn, ac) -/
def NB (M M1 : Mem) (v : Vw) (t : Nat) (s i x dn ac : Int) : Prop := (∀ a, a ≠ 129 → a ≠ 130 → a ≠ 131 → M1 a = M a) ∧ BI v t s (M1 130) (M1 131) (M1 129 2) i ∧ i < M1 129 2 ∧ M1 131 i = x ∧ ∀ c, 0 ≤ c → c < 120 → kst v t x c → (c / 12 - x / 12 < dn ∨ (c / 12 - x / 12 = dn ∧ c % 12 - x % 12 < ac)) → M1 130 c ≠ -1 ∧ M1 130 c ≤ M1 130 x + 1
theorem kst_near {v : Vw} {t : Nat} {a b : Int} (h : kst v t a b) : -1 ≤ b / 12 - a / 12 ∧ b / 12 - a / 12 ≤ 1 ∧ -1 ≤ b % 12 - a % 12 ∧ b % 12 - a % 12 ≤ 1 := by
  have := h.1
  unfold dist imax iabs at this
  split at this <;> split at this <;> split at this <;> omega
theorem NB.skip {M M1 : Mem} {v : Vw} {t : Nat} {s i x dn ac : Int} (h : NB M M1 v t s i x dn ac) (hs : ∀ c, 0 ≤ c → c < 120 → kst v t x c → c / 12 - x / 12 = dn → c % 12 - x % 12 = ac → M1 130 c ≠ -1 ∧ M1 130 c ≤ M1 130 x + 1) : NB M M1 v t s i x dn (ac + 1) := by
  refine ⟨h.1, h.2.1, h.2.2.1, h.2.2.2.1, fun c a b k o => ?_⟩
  by_cases e : c / 12 - x / 12 = dn ∧ c % 12 - x % 12 = ac
  · exact hs c a b k e.1 e.2
  · exact h.2.2.2.2 c a b k (by omega)
theorem NB.down {M M1 : Mem} {v : Vw} {t : Nat} {s i x dn : Int} (h : NB M M1 v t s i x dn 2) : NB M M1 v t s i x (dn + 1) (-1) := by
  refine ⟨h.1, h.2.1, h.2.2.1, h.2.2.2.1, fun c a b k o => ?_⟩
  have := kst_near k
  exact h.2.2.2.2 c a b k (by omega)
theorem NB.xcell {M M1 : Mem} {v : Vw} {t : Nat} {s i x dn ac : Int} (h : NB M M1 v t s i x dn ac) : (0 ≤ x ∧ x < 120) ∧ 0 ≤ M1 130 x ∧ M1 130 x ≤ 120 := by
  have a := h.2.1.2.1 i h.2.1.1.1 h.2.2.1
  rw [h.2.2.2.1] at a
  have b := h.2.1.2.2.1 x a.1.1 a.1.2
  exact ⟨a.1, a.2, b.2.1⟩
theorem NB.has {M M1 : Mem} {v : Vw} {t : Nat} {s i x dn ac : Int} (h : NB M M1 v t s i x dn ac) {c : Int} (hc : 0 ≤ c ∧ c < 120) (hd : M1 130 c ≠ -1) : M1 130 c ≤ M1 130 x + 1 := by
  obtain ⟨j, j1, j2, j3⟩ := (h.2.1.2.2.1 c hc.1 hc.2).2.2 hd
  have := h.2.1.2.2.2.2.1 h.2.2.1 j j1 j2
  rw [j3, h.2.2.2.1] at this
  exact this
theorem cell_at {x c dn ac : Int} (hx : 0 ≤ x ∧ x < 120) (hc : 0 ≤ c ∧ c < 120) (h1 : c / 12 - x / 12 = dn) (h2 : c % 12 - x % 12 = ac) : c = (x / 12 + dn) * 12 + (x % 12 + ac) := by omega
theorem NB.done {M M1 : Mem} {v : Vw} {t : Nat} {s i x : Int} (h : NB M M1 v t s i x 2 (-1)) : BI v t s (M1 130) (M1 131) (M1 129 2) (i + 1) := by
  refine h.2.1.next h.2.2.1 fun c a b k => ?_
  rw [h.2.2.2.1] at k ⊢
  have := kst_near k
  exact h.2.2.2.2 c a b k (Or.inl (by omega))
theorem NB.add {M M1 : Mem} {v : Vw} {t : Nat} {s i x dn ac c : Int} (h : NB M M1 v t s i x dn ac) (hs : 0 ≤ s ∧ s < 120) (hc : 0 ≤ c ∧ c < 120) (he : c = (x / 12 + dn) * 12 + (x % 12 + ac)) (hcr : 0 ≤ x % 12 + ac ∧ x % 12 + ac ≤ 11) (hdn : -1 ≤ dn ∧ dn ≤ 1) (hac : -1 ≤ ac ∧ ac ≤ 1) (hn : M1 130 c = -1) (hk : 0 < v t c ∧ v (t + 2) c = 0 ∧ v (t + 3) c = 0 ∧ iabs (v (t + 1) x - v (t + 1) c) ≤ 2) :
    M1 129 2 < 120 ∧ NB M (mset (mset (mset M1 130 c (M1 130 x + 1)) 131 (M1 129 2) c) 129 2 (M1 129 2 + 1)) v t s i x dn (ac + 1) := by
  have hx := h.xcell
  have hne : c ≠ x := fun e => by rw [e] at hn; omega
  have hq1 : c / 12 = x / 12 + dn := by omega
  have hq2 : c % 12 = x % 12 + ac := by omega
  have hkst : kst v t x c := by
    refine ⟨?_, hk⟩
    unfold dist imax iabs
    rw [hq1, hq2]
    split <;> split <;> split <;> omega
  have hkst2 : kst v t (M1 131 i) c := by rw [h.2.2.2.1]; exact hkst
  obtain ⟨hq, hB⟩ := h.2.1.reach hs h.2.2.1 hc hkst2 hn
  have e130 : (mset (mset (mset M1 130 c (M1 130 x + 1)) 131 (M1 129 2) c) 129 2 (M1 129 2 + 1)) 130 = fset (M1 130) c (M1 130 x + 1) := by
    rw [mset_row (by decide), mset_row (by decide), mset_fun]; rfl
  have e131 : (mset (mset (mset M1 130 c (M1 130 x + 1)) 131 (M1 129 2) c) 129 2 (M1 129 2 + 1)) 131 = fset (M1 131) (M1 129 2) c := by
    rw [mset_row (by decide), mset_fun, mset_row (by decide)]; rfl
  have e129 : (mset (mset (mset M1 130 c (M1 130 x + 1)) 131 (M1 129 2) c) 129 2 (M1 129 2 + 1)) 129 2 = M1 129 2 + 1 := mset_at
  rw [h.2.2.2.1] at hB
  refine ⟨hq, fun a a1 a2 a3 => ?_, ?_, ?_, ?_, fun z z1 z2 z3 z4 => ?_⟩
  · rw [mset_row a1, mset_row a3, mset_row a2]; exact h.1 a a1 a2 a3
  · rw [e130, e131, e129]; exact hB
  · rw [e129]; have := h.2.2.1; omega
  · rw [e131, fset_ne (by have := h.2.2.1; omega)]; exact h.2.2.2.1
  · rw [e130, fset_ne (Ne.symm hne)]
    by_cases e : z = c
    · subst e; rw [fset_at]; omega
    · rw [fset_ne e]
      refine h.2.2.2.2 z z1 z2 z3 ?_
      by_cases e2 : z / 12 - x / 12 = dn ∧ z % 12 - x % 12 = ac
      · exact absurd (cell_at hx.1 ⟨z1, z2⟩ e2.1 e2.2) (by rw [← he]; exact e)
      · omega
set_option maxHeartbeats 4000000 in
set_option maxRecDepth 100000 in
theorem c_reachNeighbors_0 (M : Mem) (v : Vw) (hm : VM M v) (hS : SI v) (s i x : Int) (hs : 0 ≤ s ∧ s < 120) (hB : BI v 9 s (M 130) (M 131) (M 129 2) i) (hi : i < M 129 2) (hx : M 131 i = x) : CQ mX5_reachNeighbors 2 [.inr (some 129), .inr (some 11), .inl x] M (fun r M' => r = none ∧ (∀ a, a ≠ 129 → a ≠ 130 → a ≠ 131 → M' a = M a) ∧ BI v 9 s (M' 130) (M' 131) (M' 129 2) (i + 1)) := by
  have hN0 : NB M M v 9 s i x (-1) (-1) := ⟨fun _ _ _ _ => rfl, hB, hi, hx, fun c a b k o => by have := kst_near k; omega⟩
  have hxc := hN0.xcell
  refine CX.of (by decide +kernel) (Nat.le_of_ble_eq_true rfl) [some (.inr (some 129)), some (.inr (some 11)), some (.inl x), none, none, none, none] rfl ?_
  refine X.iconst dX5_reachNeighbors_0 ?_
  refine X.istore_n (lv2 := [some (.inr (some 129)), some (.inr (some 11)), some (.inl x), some (.inl (-1)), none, none, none]) dX5_reachNeighbors_1 (Nat.le_of_ble_eq_true rfl) rfl ?_
  have L2 : ∀ dn, (-1) ≤ dn → dn ≤ 2 → ∀ x4 : Option AV, ∀ x5 : Option AV, ∀ x6 : Option AV, ∀ M1 : Mem, NB M M1 v 9 s i x dn (-1) → VQ mX5_reachNeighbors 2 2 [some (.inr (some 129)), some (.inr (some 11)), some (.inl x), some (.inl dn), x4, x5, x6] [] M1 (fun r M' => r = none ∧ (∀ a, a ≠ 129 → a ≠ 130 → a ≠ 131 → M' a = M a) ∧ BI v 9 s (M' 130) (M' 131) (M' 129 2) (i + 1)) := by
    refine down_ind (-1) 2 ?_ ?_
    · skip
      intro x4 x5 x6 M1 hNB
      refine X.iload_n dX5_reachNeighbors_2 rfl ?_
      refine X.iconst dX5_reachNeighbors_3 ?_
      refine X.icmp_gt (tgt := 89) dX5_reachNeighbors_4 (by decide) ⟨by omega, by omega⟩ (by decide) (fun h1 => ?_) (fun h => by exfalso; omega)
      exact Y.vret dX5_reachNeighbors_89 rfl ⟨rfl, hNB.1, hNB.done⟩
    · intro dn hdn1 hdn2 ihdn
      intro x4 x5 x6 M1 hNB
      refine X.iload_n dX5_reachNeighbors_2 rfl ?_
      refine X.iconst dX5_reachNeighbors_3 ?_
      refine X.icmp_gt (tgt := 89) dX5_reachNeighbors_4 (by decide) ⟨by omega, by omega⟩ (by decide) (fun h => by exfalso; omega) (fun h2 => ?_)
      refine X.iconst dX5_reachNeighbors_7 ?_
      refine X.istore (lv2 := [some (.inr (some 129)), some (.inr (some 11)), some (.inl x), some (.inl dn), some (.inl (-1)), x5, x6]) dX5_reachNeighbors_8 (Nat.le_of_ble_eq_true rfl) rfl ?_
      have L10 : ∀ ac, (-1) ≤ ac → ac ≤ 2 → ∀ x5 : Option AV, ∀ x6 : Option AV, ∀ M1 : Mem, NB M M1 v 9 s i x dn ac → VQ mX5_reachNeighbors 2 10 [some (.inr (some 129)), some (.inr (some 11)), some (.inl x), some (.inl dn), some (.inl ac), x5, x6] [] M1 (fun r M' => r = none ∧ (∀ a, a ≠ 129 → a ≠ 130 → a ≠ 131 → M' a = M a) ∧ BI v 9 s (M' 130) (M' 131) (M' 129 2) (i + 1)) := by
        refine down_ind (-1) 2 ?_ ?_
        · skip
          intro x5 x6 M1 hNB
          refine X.iload dX5_reachNeighbors_10 rfl ?_
          refine X.iconst dX5_reachNeighbors_12 ?_
          refine X.icmp_gt (tgt := 83) dX5_reachNeighbors_13 (by decide) ⟨by omega, by omega⟩ (by decide) (fun h3 => ?_) (fun h => by exfalso; omega)
          refine X.iinc (y := dn + 1) (lv2 := [some (.inr (some 129)), some (.inr (some 11)), some (.inl x), some (.inl (dn + 1)), some (.inl 2), x5, x6]) dX5_reachNeighbors_83 rfl rfl rfl ?_
          refine X.goto (tgt := 2) dX5_reachNeighbors_86 (by decide) ?_
          exact ihdn (some (.inl 2)) x5 x6 M1 hNB.down
        · intro ac hac1 hac2 ihac
          intro x5 x6 M1 hNB
          have hxc := hNB.xcell
          have hm1 : VM M1 v := hm.frame (fun a h1 h2 => hNB.1 a (by omega) (by omega) (by omega)) (fun _ _ _ => rfl)
          refine X.iload dX5_reachNeighbors_10 rfl ?_
          refine X.iconst dX5_reachNeighbors_12 ?_
          refine X.icmp_gt (tgt := 83) dX5_reachNeighbors_13 (by decide) ⟨by omega, by omega⟩ (by decide) (fun h => by exfalso; omega) (fun h4 => ?_)
          refine X.iload_n dX5_reachNeighbors_16 rfl ?_
          refine X.callN1 (As := [.inl x]) (rest := []) dX5_reachNeighbors_17 mk_X5_36 (c_columnOf M1 x (by omega)) rfl (by decide) rfl (Nat.le_of_ble_eq_true rfl) ?_
          refine X.iload dX5_reachNeighbors_20 rfl ?_
          refine X.iadd (c := (x % 12) + ac) dX5_reachNeighbors_22 rfl ?_
          refine X.istore (lv2 := [some (.inr (some 129)), some (.inr (some 11)), some (.inl x), some (.inl dn), some (.inl ac), some (.inl ((x % 12) + ac)), x6]) dX5_reachNeighbors_23 (Nat.le_of_ble_eq_true rfl) rfl ?_
          refine X.iload_n dX5_reachNeighbors_25 rfl ?_
          refine X.callN1 (As := [.inl x]) (rest := []) dX5_reachNeighbors_26 mk_X5_40 (c_rowOf M1 x (by omega)) rfl (by decide) rfl (Nat.le_of_ble_eq_true rfl) ?_
          refine X.iload_n dX5_reachNeighbors_29 rfl ?_
          refine X.iadd (c := (x / 12) + dn) dX5_reachNeighbors_30 rfl ?_
          refine X.istore (lv2 := [some (.inr (some 129)), some (.inr (some 11)), some (.inl x), some (.inl dn), some (.inl ac), some (.inl ((x % 12) + ac)), some (.inl ((x / 12) + dn))]) dX5_reachNeighbors_31 (Nat.le_of_ble_eq_true rfl) rfl ?_
          refine X.iload dX5_reachNeighbors_33 rfl ?_
          refine X.iload dX5_reachNeighbors_35 rfl ?_
          by_cases pc1 : 0 ≤ ((x % 12) + ac) ∧ ((x % 12) + ac) ≤ 11 ∧ 0 ≤ ((x / 12) + dn) ∧ ((x / 12) + dn) ≤ 9
          · skip
            refine X.callN1 (As := [.inl ((x % 12) + ac), .inl ((x / 12) + dn)]) (rest := []) dX5_reachNeighbors_37 mk_X5_43 (CX.bt (c_isCell M1 ((x % 12) + ac) ((x / 12) + dn) ⟨by omega, by omega⟩ ⟨by omega, by omega⟩) pc1) rfl (by decide) rfl (Nat.le_of_ble_eq_true rfl) ?_
            refine X.if_eq (tgt := 77) dX5_reachNeighbors_40 (by decide) (by decide) (fun h => absurd h (by decide)) (fun h5 => ?_)
            refine X.aload_n dX5_reachNeighbors_43 rfl ?_
            refine X.iload_n dX5_reachNeighbors_44 rfl ?_
            refine X.iload dX5_reachNeighbors_45 rfl ?_
            refine X.iload dX5_reachNeighbors_47 rfl ?_
            refine X.callN1 (As := [.inl ((x % 12) + ac), .inl ((x / 12) + dn)]) (rest := [.inl x, .inr (some 11)]) dX5_reachNeighbors_49 mk_X5_47 (c_cellAt M1 ((x % 12) + ac) ((x / 12) + dn)) rfl (by decide) rfl (Nat.le_of_ble_eq_true rfl) ?_
            by_cases pc2 : 0 < v 9 ((x / 12 + dn) * 12 + (x % 12 + ac)) ∧ v 11 ((x / 12 + dn) * 12 + (x % 12 + ac)) = 0 ∧ v 12 ((x / 12 + dn) * 12 + (x % 12 + ac)) = 0 ∧ iabs (v 10 x - v 10 ((x / 12 + dn) * 12 + (x % 12 + ac))) ≤ 2
            · skip
              refine X.callV1 (As := [.inl x, .inl (((x / 12) + dn) * 12 + ((x % 12) + ac))]) (rest := []) dX5_reachNeighbors_52 mk_X5_51 sh_11 (CX.bt (c_canStepM_0 M1 v hm1 hS x ((x / 12 + dn) * 12 + (x % 12 + ac)) hxc.1 (by omega)) pc2) rfl (by decide) rfl (Nat.le_of_ble_eq_true rfl) ?_
              refine X.if_eq (tgt := 77) dX5_reachNeighbors_55 (by decide) (by decide) (fun h => absurd h (by decide)) (fun h6 => ?_)
              refine X.aload_n dX5_reachNeighbors_58 rfl ?_
              refine X.iload dX5_reachNeighbors_59 rfl ?_
              refine X.iload dX5_reachNeighbors_61 rfl ?_
              refine X.callN1 (As := [.inl ((x % 12) + ac), .inl ((x / 12) + dn)]) (rest := [.inr (some 129)]) dX5_reachNeighbors_63 mk_X5_47 (c_cellAt M1 ((x % 12) + ac) ((x / 12) + dn)) rfl (by decide) rfl (Nat.le_of_ble_eq_true rfl) ?_
              refine X.aload_n dX5_reachNeighbors_66 rfl ?_
              refine X.getR dX5_reachNeighbors_67 fi_X5_9 sh_129 rfl ?_
              refine X.iload_n dX5_reachNeighbors_70 rfl ?_
              refine X.iald (v := M1 130 x) dX5_reachNeighbors_71 sh_130 (by decide) (by omega) rfl ?_
              refine X.iconst dX5_reachNeighbors_72 ?_
              refine X.iadd (c := (M1 130 x) + 1) dX5_reachNeighbors_73 rfl ?_
              by_cases hst : M1 130 ((x / 12 + dn) * 12 + (x % 12 + ac)) = -1
              · have hadd := hNB.add hs (c := (x / 12 + dn) * 12 + (x % 12 + ac)) (by omega) rfl (by omega) (by omega) (by omega) hst pc2
                refine X.callV0 (As := [.inl (((x / 12) + dn) * 12 + ((x % 12) + ac)), .inl ((M1 130 x) + 1)]) (rest := []) dX5_reachNeighbors_74 mk_X5_28 sh_129 (c_reach_t M1 ((x / 12 + dn) * 12 + (x % 12 + ac)) (M1 130 x + 1) (M1 129 2) (by omega) hst rfl ⟨by have := hNB.2.2.1; have := hNB.2.1.1.1; omega, hadd.1⟩) rfl (by decide) rfl (Nat.le_of_ble_eq_true rfl) ?_
                refine X.iinc (y := ac + 1) (lv2 := [some (.inr (some 129)), some (.inr (some 11)), some (.inl x), some (.inl dn), some (.inl (ac + 1)), some (.inl ((x % 12) + ac)), some (.inl ((x / 12) + dn))]) dX5_reachNeighbors_77 rfl rfl rfl ?_
                refine X.goto (tgt := 10) dX5_reachNeighbors_80 (by decide) ?_
                exact ihac (some (.inl ((x % 12) + ac))) (some (.inl ((x / 12) + dn))) _ hadd.2
              · have hrg := hNB.2.1.2.2.1 ((x / 12 + dn) * 12 + (x % 12 + ac)) (by omega) (by omega)
                refine X.callV0 (As := [.inl (((x / 12) + dn) * 12 + ((x % 12) + ac)), .inl ((M1 130 x) + 1)]) (rest := []) dX5_reachNeighbors_74 mk_X5_28 sh_129 (c_reach_f M1 ((x / 12 + dn) * 12 + (x % 12 + ac)) (M1 130 x + 1) (by omega) hst ⟨by omega, by omega⟩) rfl (by decide) rfl (Nat.le_of_ble_eq_true rfl) ?_
                refine X.iinc (y := ac + 1) (lv2 := [some (.inr (some 129)), some (.inr (some 11)), some (.inl x), some (.inl dn), some (.inl (ac + 1)), some (.inl ((x % 12) + ac)), some (.inl ((x / 12) + dn))]) dX5_reachNeighbors_77 rfl rfl rfl ?_
                refine X.goto (tgt := 10) dX5_reachNeighbors_80 (by decide) ?_
                exact ihac (some (.inl ((x % 12) + ac))) (some (.inl ((x / 12) + dn))) M1 (hNB.skip (fun c a b k e1 e2 => by have e := cell_at hxc.1 ⟨a, b⟩ e1 e2; rw [← e] at hst; exact ⟨hst, hNB.has ⟨a, b⟩ hst⟩))
            · skip
              refine X.callV1 (As := [.inl x, .inl (((x / 12) + dn) * 12 + ((x % 12) + ac))]) (rest := []) dX5_reachNeighbors_52 mk_X5_51 sh_11 (CX.bf (c_canStepM_0 M1 v hm1 hS x ((x / 12 + dn) * 12 + (x % 12 + ac)) hxc.1 (by omega)) pc2) rfl (by decide) rfl (Nat.le_of_ble_eq_true rfl) ?_
              refine X.if_eq (tgt := 77) dX5_reachNeighbors_55 (by decide) (by decide) (fun h7 => ?_) (fun h => absurd h (by decide))
              refine X.iinc (y := ac + 1) (lv2 := [some (.inr (some 129)), some (.inr (some 11)), some (.inl x), some (.inl dn), some (.inl (ac + 1)), some (.inl ((x % 12) + ac)), some (.inl ((x / 12) + dn))]) dX5_reachNeighbors_77 rfl rfl rfl ?_
              refine X.goto (tgt := 10) dX5_reachNeighbors_80 (by decide) ?_
              exact ihac (some (.inl ((x % 12) + ac))) (some (.inl ((x / 12) + dn))) M1 (hNB.skip (fun c a b k e1 e2 => absurd k.2 (by rw [cell_at hxc.1 ⟨a, b⟩ e1 e2]; exact pc2)))
          · skip
            refine X.callN1 (As := [.inl ((x % 12) + ac), .inl ((x / 12) + dn)]) (rest := []) dX5_reachNeighbors_37 mk_X5_43 (CX.bf (c_isCell M1 ((x % 12) + ac) ((x / 12) + dn) ⟨by omega, by omega⟩ ⟨by omega, by omega⟩) pc1) rfl (by decide) rfl (Nat.le_of_ble_eq_true rfl) ?_
            refine X.if_eq (tgt := 77) dX5_reachNeighbors_40 (by decide) (by decide) (fun h8 => ?_) (fun h => absurd h (by decide))
            refine X.iinc (y := ac + 1) (lv2 := [some (.inr (some 129)), some (.inr (some 11)), some (.inl x), some (.inl dn), some (.inl (ac + 1)), some (.inl ((x % 12) + ac)), some (.inl ((x / 12) + dn))]) dX5_reachNeighbors_77 rfl rfl rfl ?_
            refine X.goto (tgt := 10) dX5_reachNeighbors_80 (by decide) ?_
            exact ihac (some (.inl ((x % 12) + ac))) (some (.inl ((x / 12) + dn))) M1 (hNB.skip (fun c a b k e1 e2 => absurd (show 0 ≤ x % 12 + ac ∧ x % 12 + ac ≤ 11 ∧ 0 ≤ x / 12 + dn ∧ x / 12 + dn ≤ 9 from by omega) pc1))
      exact L10 (-1) (by omega) (by omega) x5 x6 M1 hNB
  exact L2 (-1) (by omega) (by omega) none none none M hN0
set_option maxHeartbeats 4000000 in
set_option maxRecDepth 100000 in
theorem c_shortest_0 (M : Mem) (v : Vw) (hm : VM M v) (hS : SI v) (s e : Int) (hs : 0 ≤ s ∧ s < 120) (he : 0 ≤ e ∧ e < 120) : CQ mX5_shortest 3 [.inr (some 129), .inr (some 11), .inl s, .inl e] M (fun r M' => r = some (.inl (wayS v 9 s e)) ∧ (∀ a, a ≠ 129 → a ≠ 130 → a ≠ 131 → M' a = M a)) := by
  refine CX.of (by decide +kernel) (Nat.le_of_ble_eq_true rfl) [some (.inr (some 129)), some (.inr (some 11)), some (.inl s), some (.inl e), none] rfl ?_
  refine X.aload_n dX5_shortest_0 rfl ?_
  refine X.getR dX5_shortest_1 fi_X5_9 sh_129 rfl ?_
  refine X.iconst dX5_shortest_4 ?_
  refine X.callS0 (As := [.inr (some 130), .inl (-1)]) (rest := []) dX5_shortest_5 mk_X5_22 (c_fill_130 M (-1)) rfl (by decide) rfl (Nat.le_of_ble_eq_true rfl) ?_
  refine X.aload_n dX5_shortest_8 rfl ?_
  refine X.iconst dX5_shortest_9 ?_
  refine X.putI 2 2 rfl dX5_shortest_10 fi_X5_18 sh_129 rfl rfl ?_
  refine X.aload_n dX5_shortest_13 rfl ?_
  refine X.iload_n dX5_shortest_14 rfl ?_
  refine X.iconst dX5_shortest_15 ?_
  refine X.callV0 (As := [.inl s, .inl 0]) (rest := []) dX5_shortest_16 mk_X5_28 sh_129 (c_reach_t (mset (mgen M (Frow 130 (fun _ => (-1))) 0 120) 129 2 0) s 0 0 hs (by rw [mset_row (by decide)]; exact mgen_in (by omega) rfl) mset_at (by decide)) rfl (by decide) rfl (Nat.le_of_ble_eq_true rfl) ?_
  refine X.iconst dX5_shortest_19 ?_
  refine X.istore (lv2 := [some (.inr (some 129)), some (.inr (some 11)), some (.inl s), some (.inl e), some (.inl 0)]) dX5_shortest_20 (Nat.le_of_ble_eq_true rfl) rfl ?_
  have L22 : ∀ i, 0 ≤ i → i ≤ 120 → ∀ M1 : Mem, (∀ a, a ≠ 129 → a ≠ 130 → a ≠ 131 → M1 a = M a) → BI v 9 s (M1 130) (M1 131) (M1 129 2) i → VQ mX5_shortest 3 22 [some (.inr (some 129)), some (.inr (some 11)), some (.inl s), some (.inl e), some (.inl i)] [] M1 (fun r M' => r = some (.inl (wayS v 9 s e)) ∧ (∀ a, a ≠ 129 → a ≠ 130 → a ≠ 131 → M' a = M a)) := by
    refine down_ind 0 120 ?_ ?_
    · skip
      intro M1 hM1 hB
      have hst := hB.2.2.1 e he.1 he.2
      have hb1 := hB.1
      refine X.iload dX5_shortest_22 rfl ?_
      refine X.bipush dX5_shortest_24 (by decide) ?_
      refine X.icmp_ge (tgt := 69) dX5_shortest_26 (by decide) ⟨by omega, by omega⟩ (by decide) (fun h1 => ?_) (fun h => by exfalso; omega)
      refine X.aload_n dX5_shortest_69 rfl ?_
      refine X.getR dX5_shortest_70 fi_X5_9 sh_129 rfl ?_
      refine X.iload_n dX5_shortest_73 rfl ?_
      refine X.iald (v := M1 130 e) dX5_shortest_74 sh_130 (by decide) (by omega) rfl ?_
      refine X.iconst dX5_shortest_75 ?_
      refine X.icmp_ne (tgt := 84) dX5_shortest_76 (by decide) ⟨by omega, by omega⟩ ⟨by omega, by omega⟩ (fun h76 => ?_) (fun h76 => ?_)
      · skip
        refine X.aload_n dX5_shortest_84 rfl ?_
        refine X.getR dX5_shortest_85 fi_X5_9 sh_129 rfl ?_
        refine X.iload_n dX5_shortest_88 rfl ?_
        refine X.iald (v := M1 130 e) dX5_shortest_89 sh_130 (by decide) (by omega) rfl ?_
        exact Y.iret dX5_shortest_90 rfl ⟨congrArg (fun z => some (Sum.inl z : AV)) (wayS_eq (hB.least hs he h76)), hM1⟩
      · skip
        refine X.bipush dX5_shortest_79 (by decide) ?_
        refine X.goto (tgt := 90) dX5_shortest_81 (by decide) ?_
        exact Y.iret dX5_shortest_90 rfl ⟨congrArg (fun z => some (Sum.inl z : AV)) (wayS_eq (hB.none hs (by omega) h76)), hM1⟩
    · intro i hi1 hi2 ihi
      intro M1 hM1 hB
      have hst := hB.2.2.1 e he.1 he.2
      have hb1 := hB.1
      have hm1 : VM M1 v := hm.frame (fun a h1 h2 => hM1 a (by omega) (by omega) (by omega)) (fun _ _ _ => rfl)
      refine X.iload dX5_shortest_22 rfl ?_
      refine X.bipush dX5_shortest_24 (by decide) ?_
      refine X.icmp_ge (tgt := 69) dX5_shortest_26 (by decide) ⟨by omega, by omega⟩ (by decide) (fun h => by exfalso; omega) (fun h2 => ?_)
      refine X.aload_n dX5_shortest_29 rfl ?_
      refine X.getR dX5_shortest_30 fi_X5_9 sh_129 rfl ?_
      refine X.iload_n dX5_shortest_33 rfl ?_
      refine X.iald (v := M1 130 e) dX5_shortest_34 sh_130 (by decide) (by omega) rfl ?_
      refine X.iconst dX5_shortest_35 ?_
      refine X.icmp_ne (tgt := 69) dX5_shortest_36 (by decide) ⟨by omega, by omega⟩ ⟨by omega, by omega⟩ (fun h36 => ?_) (fun h36 => ?_)
      · skip
        refine X.aload_n dX5_shortest_69 rfl ?_
        refine X.getR dX5_shortest_70 fi_X5_9 sh_129 rfl ?_
        refine X.iload_n dX5_shortest_73 rfl ?_
        refine X.iald (v := M1 130 e) dX5_shortest_74 sh_130 (by decide) (by omega) rfl ?_
        refine X.iconst dX5_shortest_75 ?_
        refine X.icmp_ne (tgt := 84) dX5_shortest_76 (by decide) ⟨by omega, by omega⟩ ⟨by omega, by omega⟩ (fun h76 => ?_) (fun h76 => ?_)
        · skip
          refine X.aload_n dX5_shortest_84 rfl ?_
          refine X.getR dX5_shortest_85 fi_X5_9 sh_129 rfl ?_
          refine X.iload_n dX5_shortest_88 rfl ?_
          refine X.iald (v := M1 130 e) dX5_shortest_89 sh_130 (by decide) (by omega) rfl ?_
          exact Y.iret dX5_shortest_90 rfl ⟨congrArg (fun z => some (Sum.inl z : AV)) (wayS_eq (hB.least hs he h76)), hM1⟩
        · skip
          refine X.bipush dX5_shortest_79 (by decide) ?_
          refine X.goto (tgt := 90) dX5_shortest_81 (by decide) ?_
          exact Y.iret dX5_shortest_90 rfl ⟨congrArg (fun z => some (Sum.inl z : AV)) (wayS_eq (hB.none hs (by omega) h76)), hM1⟩
      · skip
        refine X.iload dX5_shortest_39 rfl ?_
        refine X.aload_n dX5_shortest_41 rfl ?_
        refine X.getI (v := M1 129 2) 2 dX5_shortest_42 fi_X5_18 sh_129 rfl rfl ?_
        refine X.icmp_lt (tgt := 51) dX5_shortest_45 (by decide) ⟨by omega, by omega⟩ ⟨by omega, by omega⟩ (fun h3 => ?_) (fun h3 => ?_)
        · skip
          refine X.aload_n dX5_shortest_51 rfl ?_
          refine X.aload_n dX5_shortest_52 rfl ?_
          refine X.aload_n dX5_shortest_53 rfl ?_
          refine X.getR dX5_shortest_54 fi_X5_15 sh_129 rfl ?_
          refine X.iload dX5_shortest_57 rfl ?_
          refine X.iald (v := M1 131 i) dX5_shortest_59 sh_131 (by decide) (by omega) rfl ?_
          refine Y.callV (As := [.inr (some 11), .inl (M1 131 i)]) (rest := []) dX5_shortest_60 mk_X5_32 sh_129 (c_reachNeighbors_0 M1 v hm1 hS s i (M1 131 i) hs hB (by omega) rfl) rfl (by decide) rfl (Nat.le_of_ble_eq_true rfl) (fun r9 M9 h9 => ?_)
          obtain ⟨h90, h9a, h9b⟩ := h9
          subst h90
          have h9 := And.intro (trivial) (And.intro h9a h9b)
          refine X.iinc (y := i + 1) (lv2 := [some (.inr (some 129)), some (.inr (some 11)), some (.inl s), some (.inl e), some (.inl (i + 1))]) dX5_shortest_63 rfl rfl rfl ?_
          refine X.goto (tgt := 22) dX5_shortest_66 (by decide) ?_
          exact ihi M9 (fun a a1 a2 a3 => (h9.2.1 a a1 a2 a3).trans (hM1 a a1 a2 a3)) h9.2.2
        · skip
          refine X.bipush dX5_shortest_48 (by decide) ?_
          exact Y.iret dX5_shortest_50 rfl ⟨congrArg (fun z => some (Sum.inl z : AV)) (wayS_eq (hB.none hs (by omega) (by first | exact h36 | exact Classical.not_not.mp h36))), hM1⟩
  exact L22 0 (by omega) (by omega) (mset (mset (mset (mset (mgen M (Frow 130 (fun _ => (-1))) 0 120) 129 2 0) 130 s 0) 131 0 s) 129 2 (0 + 1)) (fun a a1 a2 a3 => by rw [mset_row a1, mset_row a3, mset_row a2, mset_row a1, mgen_row (Frow_no a2)]) (by rw [show (mset (mset (mset (mset (mgen M (Frow 130 (fun _ => (-1))) 0 120) 129 2 0) 130 s 0) 131 0 s) 129 2 (0 + 1)) 129 2 = 1 from mset_at]; exact BI.start hs (fun c a b => by rw [mset_row (by decide), mset_row (by decide)]; by_cases ec : c = s <;> simp [mset, ec, mgen, Frow, a, b]) (by rw [mset_row (by decide)]; exact mset_at))
set_option maxHeartbeats 4000000 in
set_option maxRecDepth 100000 in
theorem c_reachNeighbors_1 (M : Mem) (v : Vw) (hm : VM M v) (hS : SI v) (s i x : Int) (hs : 0 ≤ s ∧ s < 120) (hB : BI v 13 s (M 130) (M 131) (M 129 2) i) (hi : i < M 129 2) (hx : M 131 i = x) : CQ mX5_reachNeighbors 2 [.inr (some 129), .inr (some 16), .inl x] M (fun r M' => r = none ∧ (∀ a, a ≠ 129 → a ≠ 130 → a ≠ 131 → M' a = M a) ∧ BI v 13 s (M' 130) (M' 131) (M' 129 2) (i + 1)) := by
  have hN0 : NB M M v 13 s i x (-1) (-1) := ⟨fun _ _ _ _ => rfl, hB, hi, hx, fun c a b k o => by have := kst_near k; omega⟩
  have hxc := hN0.xcell
  refine CX.of (by decide +kernel) (Nat.le_of_ble_eq_true rfl) [some (.inr (some 129)), some (.inr (some 16)), some (.inl x), none, none, none, none] rfl ?_
  refine X.iconst dX5_reachNeighbors_0 ?_
  refine X.istore_n (lv2 := [some (.inr (some 129)), some (.inr (some 16)), some (.inl x), some (.inl (-1)), none, none, none]) dX5_reachNeighbors_1 (Nat.le_of_ble_eq_true rfl) rfl ?_
  have L2 : ∀ dn, (-1) ≤ dn → dn ≤ 2 → ∀ x4 : Option AV, ∀ x5 : Option AV, ∀ x6 : Option AV, ∀ M1 : Mem, NB M M1 v 13 s i x dn (-1) → VQ mX5_reachNeighbors 2 2 [some (.inr (some 129)), some (.inr (some 16)), some (.inl x), some (.inl dn), x4, x5, x6] [] M1 (fun r M' => r = none ∧ (∀ a, a ≠ 129 → a ≠ 130 → a ≠ 131 → M' a = M a) ∧ BI v 13 s (M' 130) (M' 131) (M' 129 2) (i + 1)) := by
    refine down_ind (-1) 2 ?_ ?_
    · skip
      intro x4 x5 x6 M1 hNB
      refine X.iload_n dX5_reachNeighbors_2 rfl ?_
      refine X.iconst dX5_reachNeighbors_3 ?_
      refine X.icmp_gt (tgt := 89) dX5_reachNeighbors_4 (by decide) ⟨by omega, by omega⟩ (by decide) (fun h1 => ?_) (fun h => by exfalso; omega)
      exact Y.vret dX5_reachNeighbors_89 rfl ⟨rfl, hNB.1, hNB.done⟩
    · intro dn hdn1 hdn2 ihdn
      intro x4 x5 x6 M1 hNB
      refine X.iload_n dX5_reachNeighbors_2 rfl ?_
      refine X.iconst dX5_reachNeighbors_3 ?_
      refine X.icmp_gt (tgt := 89) dX5_reachNeighbors_4 (by decide) ⟨by omega, by omega⟩ (by decide) (fun h => by exfalso; omega) (fun h2 => ?_)
      refine X.iconst dX5_reachNeighbors_7 ?_
      refine X.istore (lv2 := [some (.inr (some 129)), some (.inr (some 16)), some (.inl x), some (.inl dn), some (.inl (-1)), x5, x6]) dX5_reachNeighbors_8 (Nat.le_of_ble_eq_true rfl) rfl ?_
      have L10 : ∀ ac, (-1) ≤ ac → ac ≤ 2 → ∀ x5 : Option AV, ∀ x6 : Option AV, ∀ M1 : Mem, NB M M1 v 13 s i x dn ac → VQ mX5_reachNeighbors 2 10 [some (.inr (some 129)), some (.inr (some 16)), some (.inl x), some (.inl dn), some (.inl ac), x5, x6] [] M1 (fun r M' => r = none ∧ (∀ a, a ≠ 129 → a ≠ 130 → a ≠ 131 → M' a = M a) ∧ BI v 13 s (M' 130) (M' 131) (M' 129 2) (i + 1)) := by
        refine down_ind (-1) 2 ?_ ?_
        · skip
          intro x5 x6 M1 hNB
          refine X.iload dX5_reachNeighbors_10 rfl ?_
          refine X.iconst dX5_reachNeighbors_12 ?_
          refine X.icmp_gt (tgt := 83) dX5_reachNeighbors_13 (by decide) ⟨by omega, by omega⟩ (by decide) (fun h3 => ?_) (fun h => by exfalso; omega)
          refine X.iinc (y := dn + 1) (lv2 := [some (.inr (some 129)), some (.inr (some 16)), some (.inl x), some (.inl (dn + 1)), some (.inl 2), x5, x6]) dX5_reachNeighbors_83 rfl rfl rfl ?_
          refine X.goto (tgt := 2) dX5_reachNeighbors_86 (by decide) ?_
          exact ihdn (some (.inl 2)) x5 x6 M1 hNB.down
        · intro ac hac1 hac2 ihac
          intro x5 x6 M1 hNB
          have hxc := hNB.xcell
          have hm1 : VM M1 v := hm.frame (fun a h1 h2 => hNB.1 a (by omega) (by omega) (by omega)) (fun _ _ _ => rfl)
          refine X.iload dX5_reachNeighbors_10 rfl ?_
          refine X.iconst dX5_reachNeighbors_12 ?_
          refine X.icmp_gt (tgt := 83) dX5_reachNeighbors_13 (by decide) ⟨by omega, by omega⟩ (by decide) (fun h => by exfalso; omega) (fun h4 => ?_)
          refine X.iload_n dX5_reachNeighbors_16 rfl ?_
          refine X.callN1 (As := [.inl x]) (rest := []) dX5_reachNeighbors_17 mk_X5_36 (c_columnOf M1 x (by omega)) rfl (by decide) rfl (Nat.le_of_ble_eq_true rfl) ?_
          refine X.iload dX5_reachNeighbors_20 rfl ?_
          refine X.iadd (c := (x % 12) + ac) dX5_reachNeighbors_22 rfl ?_
          refine X.istore (lv2 := [some (.inr (some 129)), some (.inr (some 16)), some (.inl x), some (.inl dn), some (.inl ac), some (.inl ((x % 12) + ac)), x6]) dX5_reachNeighbors_23 (Nat.le_of_ble_eq_true rfl) rfl ?_
          refine X.iload_n dX5_reachNeighbors_25 rfl ?_
          refine X.callN1 (As := [.inl x]) (rest := []) dX5_reachNeighbors_26 mk_X5_40 (c_rowOf M1 x (by omega)) rfl (by decide) rfl (Nat.le_of_ble_eq_true rfl) ?_
          refine X.iload_n dX5_reachNeighbors_29 rfl ?_
          refine X.iadd (c := (x / 12) + dn) dX5_reachNeighbors_30 rfl ?_
          refine X.istore (lv2 := [some (.inr (some 129)), some (.inr (some 16)), some (.inl x), some (.inl dn), some (.inl ac), some (.inl ((x % 12) + ac)), some (.inl ((x / 12) + dn))]) dX5_reachNeighbors_31 (Nat.le_of_ble_eq_true rfl) rfl ?_
          refine X.iload dX5_reachNeighbors_33 rfl ?_
          refine X.iload dX5_reachNeighbors_35 rfl ?_
          by_cases pc1 : 0 ≤ ((x % 12) + ac) ∧ ((x % 12) + ac) ≤ 11 ∧ 0 ≤ ((x / 12) + dn) ∧ ((x / 12) + dn) ≤ 9
          · skip
            refine X.callN1 (As := [.inl ((x % 12) + ac), .inl ((x / 12) + dn)]) (rest := []) dX5_reachNeighbors_37 mk_X5_43 (CX.bt (c_isCell M1 ((x % 12) + ac) ((x / 12) + dn) ⟨by omega, by omega⟩ ⟨by omega, by omega⟩) pc1) rfl (by decide) rfl (Nat.le_of_ble_eq_true rfl) ?_
            refine X.if_eq (tgt := 77) dX5_reachNeighbors_40 (by decide) (by decide) (fun h => absurd h (by decide)) (fun h5 => ?_)
            refine X.aload_n dX5_reachNeighbors_43 rfl ?_
            refine X.iload_n dX5_reachNeighbors_44 rfl ?_
            refine X.iload dX5_reachNeighbors_45 rfl ?_
            refine X.iload dX5_reachNeighbors_47 rfl ?_
            refine X.callN1 (As := [.inl ((x % 12) + ac), .inl ((x / 12) + dn)]) (rest := [.inl x, .inr (some 16)]) dX5_reachNeighbors_49 mk_X5_47 (c_cellAt M1 ((x % 12) + ac) ((x / 12) + dn)) rfl (by decide) rfl (Nat.le_of_ble_eq_true rfl) ?_
            by_cases pc2 : 0 < v 13 ((x / 12 + dn) * 12 + (x % 12 + ac)) ∧ v 15 ((x / 12 + dn) * 12 + (x % 12 + ac)) = 0 ∧ v 16 ((x / 12 + dn) * 12 + (x % 12 + ac)) = 0 ∧ iabs (v 14 x - v 14 ((x / 12 + dn) * 12 + (x % 12 + ac))) ≤ 2
            · skip
              refine X.callV1 (As := [.inl x, .inl (((x / 12) + dn) * 12 + ((x % 12) + ac))]) (rest := []) dX5_reachNeighbors_52 mk_X5_51 sh_16 (CX.bt (c_canStepM_1 M1 v hm1 hS x ((x / 12 + dn) * 12 + (x % 12 + ac)) hxc.1 (by omega)) pc2) rfl (by decide) rfl (Nat.le_of_ble_eq_true rfl) ?_
              refine X.if_eq (tgt := 77) dX5_reachNeighbors_55 (by decide) (by decide) (fun h => absurd h (by decide)) (fun h6 => ?_)
              refine X.aload_n dX5_reachNeighbors_58 rfl ?_
              refine X.iload dX5_reachNeighbors_59 rfl ?_
              refine X.iload dX5_reachNeighbors_61 rfl ?_
              refine X.callN1 (As := [.inl ((x % 12) + ac), .inl ((x / 12) + dn)]) (rest := [.inr (some 129)]) dX5_reachNeighbors_63 mk_X5_47 (c_cellAt M1 ((x % 12) + ac) ((x / 12) + dn)) rfl (by decide) rfl (Nat.le_of_ble_eq_true rfl) ?_
              refine X.aload_n dX5_reachNeighbors_66 rfl ?_
              refine X.getR dX5_reachNeighbors_67 fi_X5_9 sh_129 rfl ?_
              refine X.iload_n dX5_reachNeighbors_70 rfl ?_
              refine X.iald (v := M1 130 x) dX5_reachNeighbors_71 sh_130 (by decide) (by omega) rfl ?_
              refine X.iconst dX5_reachNeighbors_72 ?_
              refine X.iadd (c := (M1 130 x) + 1) dX5_reachNeighbors_73 rfl ?_
              by_cases hst : M1 130 ((x / 12 + dn) * 12 + (x % 12 + ac)) = -1
              · have hadd := hNB.add hs (c := (x / 12 + dn) * 12 + (x % 12 + ac)) (by omega) rfl (by omega) (by omega) (by omega) hst pc2
                refine X.callV0 (As := [.inl (((x / 12) + dn) * 12 + ((x % 12) + ac)), .inl ((M1 130 x) + 1)]) (rest := []) dX5_reachNeighbors_74 mk_X5_28 sh_129 (c_reach_t M1 ((x / 12 + dn) * 12 + (x % 12 + ac)) (M1 130 x + 1) (M1 129 2) (by omega) hst rfl ⟨by have := hNB.2.2.1; have := hNB.2.1.1.1; omega, hadd.1⟩) rfl (by decide) rfl (Nat.le_of_ble_eq_true rfl) ?_
                refine X.iinc (y := ac + 1) (lv2 := [some (.inr (some 129)), some (.inr (some 16)), some (.inl x), some (.inl dn), some (.inl (ac + 1)), some (.inl ((x % 12) + ac)), some (.inl ((x / 12) + dn))]) dX5_reachNeighbors_77 rfl rfl rfl ?_
                refine X.goto (tgt := 10) dX5_reachNeighbors_80 (by decide) ?_
                exact ihac (some (.inl ((x % 12) + ac))) (some (.inl ((x / 12) + dn))) _ hadd.2
              · have hrg := hNB.2.1.2.2.1 ((x / 12 + dn) * 12 + (x % 12 + ac)) (by omega) (by omega)
                refine X.callV0 (As := [.inl (((x / 12) + dn) * 12 + ((x % 12) + ac)), .inl ((M1 130 x) + 1)]) (rest := []) dX5_reachNeighbors_74 mk_X5_28 sh_129 (c_reach_f M1 ((x / 12 + dn) * 12 + (x % 12 + ac)) (M1 130 x + 1) (by omega) hst ⟨by omega, by omega⟩) rfl (by decide) rfl (Nat.le_of_ble_eq_true rfl) ?_
                refine X.iinc (y := ac + 1) (lv2 := [some (.inr (some 129)), some (.inr (some 16)), some (.inl x), some (.inl dn), some (.inl (ac + 1)), some (.inl ((x % 12) + ac)), some (.inl ((x / 12) + dn))]) dX5_reachNeighbors_77 rfl rfl rfl ?_
                refine X.goto (tgt := 10) dX5_reachNeighbors_80 (by decide) ?_
                exact ihac (some (.inl ((x % 12) + ac))) (some (.inl ((x / 12) + dn))) M1 (hNB.skip (fun c a b k e1 e2 => by have e := cell_at hxc.1 ⟨a, b⟩ e1 e2; rw [← e] at hst; exact ⟨hst, hNB.has ⟨a, b⟩ hst⟩))
            · skip
              refine X.callV1 (As := [.inl x, .inl (((x / 12) + dn) * 12 + ((x % 12) + ac))]) (rest := []) dX5_reachNeighbors_52 mk_X5_51 sh_16 (CX.bf (c_canStepM_1 M1 v hm1 hS x ((x / 12 + dn) * 12 + (x % 12 + ac)) hxc.1 (by omega)) pc2) rfl (by decide) rfl (Nat.le_of_ble_eq_true rfl) ?_
              refine X.if_eq (tgt := 77) dX5_reachNeighbors_55 (by decide) (by decide) (fun h7 => ?_) (fun h => absurd h (by decide))
              refine X.iinc (y := ac + 1) (lv2 := [some (.inr (some 129)), some (.inr (some 16)), some (.inl x), some (.inl dn), some (.inl (ac + 1)), some (.inl ((x % 12) + ac)), some (.inl ((x / 12) + dn))]) dX5_reachNeighbors_77 rfl rfl rfl ?_
              refine X.goto (tgt := 10) dX5_reachNeighbors_80 (by decide) ?_
              exact ihac (some (.inl ((x % 12) + ac))) (some (.inl ((x / 12) + dn))) M1 (hNB.skip (fun c a b k e1 e2 => absurd k.2 (by rw [cell_at hxc.1 ⟨a, b⟩ e1 e2]; exact pc2)))
          · skip
            refine X.callN1 (As := [.inl ((x % 12) + ac), .inl ((x / 12) + dn)]) (rest := []) dX5_reachNeighbors_37 mk_X5_43 (CX.bf (c_isCell M1 ((x % 12) + ac) ((x / 12) + dn) ⟨by omega, by omega⟩ ⟨by omega, by omega⟩) pc1) rfl (by decide) rfl (Nat.le_of_ble_eq_true rfl) ?_
            refine X.if_eq (tgt := 77) dX5_reachNeighbors_40 (by decide) (by decide) (fun h8 => ?_) (fun h => absurd h (by decide))
            refine X.iinc (y := ac + 1) (lv2 := [some (.inr (some 129)), some (.inr (some 16)), some (.inl x), some (.inl dn), some (.inl (ac + 1)), some (.inl ((x % 12) + ac)), some (.inl ((x / 12) + dn))]) dX5_reachNeighbors_77 rfl rfl rfl ?_
            refine X.goto (tgt := 10) dX5_reachNeighbors_80 (by decide) ?_
            exact ihac (some (.inl ((x % 12) + ac))) (some (.inl ((x / 12) + dn))) M1 (hNB.skip (fun c a b k e1 e2 => absurd (show 0 ≤ x % 12 + ac ∧ x % 12 + ac ≤ 11 ∧ 0 ≤ x / 12 + dn ∧ x / 12 + dn ≤ 9 from by omega) pc1))
      exact L10 (-1) (by omega) (by omega) x5 x6 M1 hNB
  exact L2 (-1) (by omega) (by omega) none none none M hN0
set_option maxHeartbeats 4000000 in
set_option maxRecDepth 100000 in
theorem c_shortest_1 (M : Mem) (v : Vw) (hm : VM M v) (hS : SI v) (s e : Int) (hs : 0 ≤ s ∧ s < 120) (he : 0 ≤ e ∧ e < 120) : CQ mX5_shortest 3 [.inr (some 129), .inr (some 16), .inl s, .inl e] M (fun r M' => r = some (.inl (wayS v 13 s e)) ∧ (∀ a, a ≠ 129 → a ≠ 130 → a ≠ 131 → M' a = M a)) := by
  refine CX.of (by decide +kernel) (Nat.le_of_ble_eq_true rfl) [some (.inr (some 129)), some (.inr (some 16)), some (.inl s), some (.inl e), none] rfl ?_
  refine X.aload_n dX5_shortest_0 rfl ?_
  refine X.getR dX5_shortest_1 fi_X5_9 sh_129 rfl ?_
  refine X.iconst dX5_shortest_4 ?_
  refine X.callS0 (As := [.inr (some 130), .inl (-1)]) (rest := []) dX5_shortest_5 mk_X5_22 (c_fill_130 M (-1)) rfl (by decide) rfl (Nat.le_of_ble_eq_true rfl) ?_
  refine X.aload_n dX5_shortest_8 rfl ?_
  refine X.iconst dX5_shortest_9 ?_
  refine X.putI 2 2 rfl dX5_shortest_10 fi_X5_18 sh_129 rfl rfl ?_
  refine X.aload_n dX5_shortest_13 rfl ?_
  refine X.iload_n dX5_shortest_14 rfl ?_
  refine X.iconst dX5_shortest_15 ?_
  refine X.callV0 (As := [.inl s, .inl 0]) (rest := []) dX5_shortest_16 mk_X5_28 sh_129 (c_reach_t (mset (mgen M (Frow 130 (fun _ => (-1))) 0 120) 129 2 0) s 0 0 hs (by rw [mset_row (by decide)]; exact mgen_in (by omega) rfl) mset_at (by decide)) rfl (by decide) rfl (Nat.le_of_ble_eq_true rfl) ?_
  refine X.iconst dX5_shortest_19 ?_
  refine X.istore (lv2 := [some (.inr (some 129)), some (.inr (some 16)), some (.inl s), some (.inl e), some (.inl 0)]) dX5_shortest_20 (Nat.le_of_ble_eq_true rfl) rfl ?_
  have L22 : ∀ i, 0 ≤ i → i ≤ 120 → ∀ M1 : Mem, (∀ a, a ≠ 129 → a ≠ 130 → a ≠ 131 → M1 a = M a) → BI v 13 s (M1 130) (M1 131) (M1 129 2) i → VQ mX5_shortest 3 22 [some (.inr (some 129)), some (.inr (some 16)), some (.inl s), some (.inl e), some (.inl i)] [] M1 (fun r M' => r = some (.inl (wayS v 13 s e)) ∧ (∀ a, a ≠ 129 → a ≠ 130 → a ≠ 131 → M' a = M a)) := by
    refine down_ind 0 120 ?_ ?_
    · skip
      intro M1 hM1 hB
      have hst := hB.2.2.1 e he.1 he.2
      have hb1 := hB.1
      refine X.iload dX5_shortest_22 rfl ?_
      refine X.bipush dX5_shortest_24 (by decide) ?_
      refine X.icmp_ge (tgt := 69) dX5_shortest_26 (by decide) ⟨by omega, by omega⟩ (by decide) (fun h1 => ?_) (fun h => by exfalso; omega)
      refine X.aload_n dX5_shortest_69 rfl ?_
      refine X.getR dX5_shortest_70 fi_X5_9 sh_129 rfl ?_
      refine X.iload_n dX5_shortest_73 rfl ?_
      refine X.iald (v := M1 130 e) dX5_shortest_74 sh_130 (by decide) (by omega) rfl ?_
      refine X.iconst dX5_shortest_75 ?_
      refine X.icmp_ne (tgt := 84) dX5_shortest_76 (by decide) ⟨by omega, by omega⟩ ⟨by omega, by omega⟩ (fun h76 => ?_) (fun h76 => ?_)
      · skip
        refine X.aload_n dX5_shortest_84 rfl ?_
        refine X.getR dX5_shortest_85 fi_X5_9 sh_129 rfl ?_
        refine X.iload_n dX5_shortest_88 rfl ?_
        refine X.iald (v := M1 130 e) dX5_shortest_89 sh_130 (by decide) (by omega) rfl ?_
        exact Y.iret dX5_shortest_90 rfl ⟨congrArg (fun z => some (Sum.inl z : AV)) (wayS_eq (hB.least hs he h76)), hM1⟩
      · skip
        refine X.bipush dX5_shortest_79 (by decide) ?_
        refine X.goto (tgt := 90) dX5_shortest_81 (by decide) ?_
        exact Y.iret dX5_shortest_90 rfl ⟨congrArg (fun z => some (Sum.inl z : AV)) (wayS_eq (hB.none hs (by omega) h76)), hM1⟩
    · intro i hi1 hi2 ihi
      intro M1 hM1 hB
      have hst := hB.2.2.1 e he.1 he.2
      have hb1 := hB.1
      have hm1 : VM M1 v := hm.frame (fun a h1 h2 => hM1 a (by omega) (by omega) (by omega)) (fun _ _ _ => rfl)
      refine X.iload dX5_shortest_22 rfl ?_
      refine X.bipush dX5_shortest_24 (by decide) ?_
      refine X.icmp_ge (tgt := 69) dX5_shortest_26 (by decide) ⟨by omega, by omega⟩ (by decide) (fun h => by exfalso; omega) (fun h2 => ?_)
      refine X.aload_n dX5_shortest_29 rfl ?_
      refine X.getR dX5_shortest_30 fi_X5_9 sh_129 rfl ?_
      refine X.iload_n dX5_shortest_33 rfl ?_
      refine X.iald (v := M1 130 e) dX5_shortest_34 sh_130 (by decide) (by omega) rfl ?_
      refine X.iconst dX5_shortest_35 ?_
      refine X.icmp_ne (tgt := 69) dX5_shortest_36 (by decide) ⟨by omega, by omega⟩ ⟨by omega, by omega⟩ (fun h36 => ?_) (fun h36 => ?_)
      · skip
        refine X.aload_n dX5_shortest_69 rfl ?_
        refine X.getR dX5_shortest_70 fi_X5_9 sh_129 rfl ?_
        refine X.iload_n dX5_shortest_73 rfl ?_
        refine X.iald (v := M1 130 e) dX5_shortest_74 sh_130 (by decide) (by omega) rfl ?_
        refine X.iconst dX5_shortest_75 ?_
        refine X.icmp_ne (tgt := 84) dX5_shortest_76 (by decide) ⟨by omega, by omega⟩ ⟨by omega, by omega⟩ (fun h76 => ?_) (fun h76 => ?_)
        · skip
          refine X.aload_n dX5_shortest_84 rfl ?_
          refine X.getR dX5_shortest_85 fi_X5_9 sh_129 rfl ?_
          refine X.iload_n dX5_shortest_88 rfl ?_
          refine X.iald (v := M1 130 e) dX5_shortest_89 sh_130 (by decide) (by omega) rfl ?_
          exact Y.iret dX5_shortest_90 rfl ⟨congrArg (fun z => some (Sum.inl z : AV)) (wayS_eq (hB.least hs he h76)), hM1⟩
        · skip
          refine X.bipush dX5_shortest_79 (by decide) ?_
          refine X.goto (tgt := 90) dX5_shortest_81 (by decide) ?_
          exact Y.iret dX5_shortest_90 rfl ⟨congrArg (fun z => some (Sum.inl z : AV)) (wayS_eq (hB.none hs (by omega) h76)), hM1⟩
      · skip
        refine X.iload dX5_shortest_39 rfl ?_
        refine X.aload_n dX5_shortest_41 rfl ?_
        refine X.getI (v := M1 129 2) 2 dX5_shortest_42 fi_X5_18 sh_129 rfl rfl ?_
        refine X.icmp_lt (tgt := 51) dX5_shortest_45 (by decide) ⟨by omega, by omega⟩ ⟨by omega, by omega⟩ (fun h3 => ?_) (fun h3 => ?_)
        · skip
          refine X.aload_n dX5_shortest_51 rfl ?_
          refine X.aload_n dX5_shortest_52 rfl ?_
          refine X.aload_n dX5_shortest_53 rfl ?_
          refine X.getR dX5_shortest_54 fi_X5_15 sh_129 rfl ?_
          refine X.iload dX5_shortest_57 rfl ?_
          refine X.iald (v := M1 131 i) dX5_shortest_59 sh_131 (by decide) (by omega) rfl ?_
          refine Y.callV (As := [.inr (some 16), .inl (M1 131 i)]) (rest := []) dX5_shortest_60 mk_X5_32 sh_129 (c_reachNeighbors_1 M1 v hm1 hS s i (M1 131 i) hs hB (by omega) rfl) rfl (by decide) rfl (Nat.le_of_ble_eq_true rfl) (fun r9 M9 h9 => ?_)
          obtain ⟨h90, h9a, h9b⟩ := h9
          subst h90
          have h9 := And.intro (trivial) (And.intro h9a h9b)
          refine X.iinc (y := i + 1) (lv2 := [some (.inr (some 129)), some (.inr (some 16)), some (.inl s), some (.inl e), some (.inl (i + 1))]) dX5_shortest_63 rfl rfl rfl ?_
          refine X.goto (tgt := 22) dX5_shortest_66 (by decide) ?_
          exact ihi M9 (fun a a1 a2 a3 => (h9.2.1 a a1 a2 a3).trans (hM1 a a1 a2 a3)) h9.2.2
        · skip
          refine X.bipush dX5_shortest_48 (by decide) ?_
          exact Y.iret dX5_shortest_50 rfl ⟨congrArg (fun z => some (Sum.inl z : AV)) (wayS_eq (hB.none hs (by omega) (by first | exact h36 | exact Classical.not_not.mp h36))), hM1⟩
  exact L22 0 (by omega) (by omega) (mset (mset (mset (mset (mgen M (Frow 130 (fun _ => (-1))) 0 120) 129 2 0) 130 s 0) 131 0 s) 129 2 (0 + 1)) (fun a a1 a2 a3 => by rw [mset_row a1, mset_row a3, mset_row a2, mset_row a1, mgen_row (Frow_no a2)]) (by rw [show (mset (mset (mset (mset (mgen M (Frow 130 (fun _ => (-1))) 0 120) 129 2 0) 130 s 0) 131 0 s) 129 2 (0 + 1)) 129 2 = 1 from mset_at]; exact BI.start hs (fun c a b => by rw [mset_row (by decide), mset_row (by decide)]; by_cases ec : c = s <;> simp [mset, ec, mgen, Frow, a, b]) (by rw [mset_row (by decide)]; exact mset_at))
