section RMT
variable {M M' M1 : Mem} {v v' w : Vw} {z tl : Int} {H : Int → Vw} {T : Int → Int} {s : AbS}
theorem RM.done (h : RM M1 (v, z, H, tl, T)) (hc : ∀ a, a ≠ 133 → M' a = M1 a) (hw : WF (M' 133) w) (hf : ∀ a, a < 132 → M1 a = M a) : RM M' (w, z, H, tl, T) ∧ ∀ a, a < 132 → M' a = M a :=
  ⟨h.upd (fun a a1 _ _ => hc a a1) hw, fun a ha => (hc a (by omega)).trans (hf a ha)⟩
theorem RM.put {x : Int} (h : RM M1 (v, z, H, tl, T)) (ht : tl < 120) (hx : 0 ≤ x ∧ x ≤ 255) (hf : ∀ a, a < 132 → M1 a = M a) : RM (mset (mset M1 136 tl x) 132 6 (tl + 1)) (v, z, H, tl + 1, fun j => if j = tl then x else T j) ∧ ∀ a, a < 132 → mset (mset M1 136 tl x) 132 6 (tl + 1) a = M a := by
  obtain ⟨h1, h2, h3, h4, h5, h6, h7, h8⟩ := h
  replace h6 : 0 ≤ tl ∧ tl ≤ 120 := h6
  refine ⟨⟨by rw [mset_row (by decide), mset_row (by decide)]; exact h1, by rw [mset_ne (by omega), mset_row (by decide)]; exact h2, h3, ?_, mset_at, ⟨by show 0 ≤ tl + 1; omega, by show tl + 1 ≤ 120; omega⟩, fun i hi => ?_, fun i => ?_⟩, fun a ha => by rw [mset_row (by omega), mset_row (by omega)]; exact hf a ha⟩
  · rw [mset_row (b := 135) (by decide), mset_row (b := 135) (by decide)]; exact h4
  · replace hi : 0 ≤ i ∧ i < tl + 1 := hi
    rw [mset_row (by decide), mset_self]
    show (if i = tl then x else M1 136 i) = if i = tl then x else T i
    by_cases e : i = tl
    · rw [if_pos e, if_pos e]
    · rw [if_neg e, if_neg e]; exact h7 i ⟨hi.1, by show i < tl; omega⟩
  · show 0 ≤ (if i = tl then x else T i) ∧ (if i = tl then x else T i) ≤ 255
    split
    · exact hx
    · exact h8 i
theorem RM.clear (h : RM M1 (v, z, H, tl, T)) (hf : ∀ a, a < 132 → M1 a = M a) : RM (mset M1 132 6 0) (v, z, H, 0, T) ∧ ∀ a, a < 132 → mset M1 132 6 0 a = M a := by
  obtain ⟨h1, h2, h3, h4, h5, h6, h7, h8⟩ := h
  refine ⟨⟨by rw [mset_row (by decide)]; exact h1, by rw [mset_ne (by omega)]; exact h2, h3, ?_, mset_at, ⟨Int.le_refl _, by show (0 : Int) ≤ 120; decide⟩, fun i hi => by replace hi : 0 ≤ i ∧ i < 0 := hi; omega, h8⟩, fun a ha => by rw [mset_row (by omega)]; exact hf a ha⟩
  rw [mset_row (b := 135) (by decide)]; exact h4
theorem RM.undo (h : RM M1 (v, z, H, tl, T)) (hz : 1 ≤ z) (hf : ∀ a, a < 132 → M1 a = M a) : RM (mw (mset M1 132 4 (z - 1)) 133 0 1268 (fun i => M1 135 (1268 * (z - 1) + i))) (H (z - 1), z - 1, H, tl, T) ∧ ∀ a, a < 132 → mw (mset M1 132 4 (z - 1)) 133 0 1268 (fun i => M1 135 (1268 * (z - 1) + i)) a = M a := by
  obtain ⟨h1, h2, h3, h4, h5, h6, h7, h8⟩ := h
  replace h3 : 0 ≤ z ∧ z ≤ 5 := h3
  replace h4 : ∀ j, 0 ≤ j → j < z → WF (fun i => M1 135 (1268 * j + i)) (H j) := h4
  refine ⟨⟨(h4 (z - 1) (by omega) (by omega)).congr fun i a b => by rw [mw_at, if_pos ⟨a, b⟩], by rw [mw_no (by decide)]; exact mset_at, ⟨by show 0 ≤ z - 1; omega, by show z - 1 ≤ 5; omega⟩, fun j a b => ?_, by rw [mw_no (by decide), mset_ne (by omega)]; exact h5, h6, by rw [mw_no (b := 136) (by decide), mset_row (by decide)]; exact h7, h8⟩, fun a ha => by rw [mw_no (by omega), mset_row (by omega)]; exact hf a ha⟩
  replace b : j < z - 1 := b
  rw [mw_no (b := 135) (by decide), mset_row (b := 135) (by decide)]
  exact h4 j a (by omega)
end RMT
/-- what is remembered more behind a look -/
theorem unc_cnt {w : Vw} (hS : SI w) {s : Int} (hs : 0 ≤ s ∧ s ≤ 1) : ∀ (n : Nat) (k : Int), 0 ≤ k → k + n ≤ 120 → cnt (fun k => 0 < lookV w (mr s 0) k) n k - cnt (fun k => 0 < w (mr s 0) k) n k = cnt (fun k => sSees w s k ∧ w (mr s 0) k = 0) n k
  | 0, _, _, _ => rfl
  | n + 1, k, h0, h1 => by
    have ih := unc_cnt hS hs n (k + 1) (by omega) (by omega)
    have hb := mr_bd hS (s := s) (i := k)
    have n2 := hS.n2
    have e : bi (0 < lookV w (mr s 0) k) - bi (0 < w (mr s 0) k) = bi (sSees w s k ∧ w (mr s 0) k = 0) := by
      rw [lookV_at (by decide) hs]
      unfold lk1
      by_cases p : sSees w s k
      · rw [if_pos ⟨h0, by omega, p⟩, bi_t (show 0 < nv w s 0 k from by show 0 < w 0 2; omega)]
        by_cases q : 0 < w (mr s 0) k
        · rw [bi_t q, bi_f (fun z => by omega)]; rfl
        · rw [bi_f q, bi_t ⟨p, by omega⟩]; rfl
      · rw [if_neg (fun z => p z.2.2), Int.sub_self, bi_f (fun z => p z.1)]
    simp only [cnt]
    omega
set_option maxHeartbeats 4000000 in
set_option maxRecDepth 100000 in
theorem c_replace (M : Mem) (v : Vw) (z : Int) (H : Int → Vw) (tl : Int) (T : Int → Int) (hR : RM M (v, z, H, tl, T)) (p x had : Int) (w : Vw) (hp : 0 ≤ p ∧ p < 1268) (hh : M 133 p = had) (hW : WF (mset M 133 p x 133) w) : CQ mX7_replace 7 [.inr (some 132), .inl p, .inl x] M (OUTM M (had, actS (v, z, H, tl, T) w)) := by
  have hz : M 132 4 = z := hR.2.1
  have hz1 : 0 ≤ z ∧ z ≤ 5 := hR.2.2.1
  refine CX.of (by decide +kernel) (Nat.le_of_ble_eq_true rfl) [some (.inr (some 132)), some (.inl p), some (.inl x), none] rfl ?_
  refine X.aload_n dX7_replace_0 rfl ?_
  refine X.callV0 (As := []) (rest := []) dX7_replace_1 mk_X7_89 sh_132 (c_act M z hz hz1) rfl (by decide) rfl (Nat.le_of_ble_eq_true rfl) ?_
  have hR1 : RM (actM M z) (v, imin (z + 1) 5, pushH H z v, tl, T) := hR.keep
  have hf1 : ∀ a, a < 132 → actM M z a = M a := fun a ha => actM_no (by omega)
  have h13 : actM M z 133 = M 133 := actM_no (by decide)
  generalize actM M z = M1 at hR1 hf1 h13 ⊢
  have hW1 : WF (M1 133) v := hR1.1
  have hv1 : WA (M1 133) v := hR1.1.wa
  have hw1 : WM (M1 133) v := hR1.1.ww
  refine X.aload_n dX7_replace_4 rfl ?_
  refine X.getR dX7_replace_5 fi_X7_7 sh_132 rfl ?_
  refine X.iload_n dX7_replace_8 rfl ?_
  refine X.iald (v := had) dX7_replace_9 sh_133 (by decide) (by omega) ((congrFun h13 p).trans hh) ?_
  refine X.istore_n (lv2 := [some (.inr (some 132)), some (.inl p), some (.inl x), some (.inl had)]) dX7_replace_10 (Nat.le_of_ble_eq_true rfl) rfl ?_
  refine X.aload_n dX7_replace_11 rfl ?_
  refine X.getR dX7_replace_12 fi_X7_7 sh_132 rfl ?_
  refine X.iload_n dX7_replace_15 rfl ?_
  refine X.iload_n dX7_replace_16 rfl ?_
  refine X.iast dX7_replace_17 sh_133 (by decide) (by omega) ?_
  refine X.aload_n dX7_replace_18 rfl ?_
  refine Y.callV (As := []) (rest := []) dX7_replace_19 mk_X7_92 sh_132 (c_mlook (mset M1 133 p x) (w) ((show mset M1 133 p x 133 = mset M 133 p x 133 from by rw [mset_fun, mset_fun, h13]) ▸ hW)) rfl (by decide) rfl (Nat.le_of_ble_eq_true rfl) (fun r9 M9 h9 => ?_)
  obtain ⟨h90, h9f, h9w⟩ := h9
  subst h90
  refine X.iload_n dX7_replace_22 rfl ?_
  exact Y.iret dX7_replace_23 rfl ⟨rfl, hR1.done (fun a ha => (h9f a ha).trans (mset_row ha)) h9w hf1⟩
set_option maxHeartbeats 4000000 in
set_option maxRecDepth 100000 in
theorem c_msetHeight (M : Mem) (v : Vw) (z : Int) (H : Int → Vw) (tl : Int) (T : Int → Int) (hR : RM M (v, z, H, tl, T)) (c r x : Int) (hc : inR c) (hr : inR r) (hx : inR x) : CQ mX7_setHeight 8 [.inr (some 132), .inl c, .inl r, .inl x] M (OUTM M (oHeight (v, z, H, tl, T) c r x)) := by
  refine CX.of (by decide +kernel) (Nat.le_of_ble_eq_true rfl) [some (.inr (some 132)), some (.inl c), some (.inl r), some (.inl x)] rfl ?_
  refine X.aload_n dX7_setHeight_0 rfl ?_
  refine X.iconst dX7_setHeight_1 ?_
  refine X.putI 0 0 rfl dX7_setHeight_2 fi_X7_25 sh_132 rfl rfl ?_
  have hR0 : RM (mset M 132 0 0) (v, z, H, tl, T) := hR.thrown
  have hf0 : ∀ a, a < 132 → mset M 132 0 0 a = M a := fun a ha => mset_row (by omega)
  generalize mset M 132 0 0 = M0 at hR0 hf0 ⊢
  have hW0 : WF (M0 133) v := hR0.1
  have hv : WA (M0 133) v := hR0.1.wa
  have hw : WM (M0 133) v := hR0.1.ww
  have hS : SI v := hR0.1.2.2
  have hz : M0 132 4 = z := hR0.2.1
  have hz1 : 0 ≤ z ∧ z ≤ 5 := hR0.2.2.1
  have htl : M0 132 6 = tl := hR0.2.2.2.2.1
  have htb : 0 ≤ tl ∧ tl ≤ 120 := hR0.2.2.2.2.2.1
  have n0 := hS.n0
  have n1 := hS.n1
  have n2 := hS.n2
  refine X.iload_n dX7_setHeight_5 rfl ?_
  refine X.iload_n dX7_setHeight_6 rfl ?_
  by_cases p1 : 0 ≤ c ∧ c ≤ 11 ∧ 0 ≤ r ∧ r ≤ 9
  · skip
    refine X.callS1 (As := [.inl c, .inl r]) (rest := []) dX7_setHeight_7 mk_X7_95 (CX.bt (c_misCell M0 c r ⟨by omega, by omega⟩ ⟨by omega, by omega⟩) p1) rfl (by decide) rfl (Nat.le_of_ble_eq_true rfl) ?_
    refine X.if_eq (tgt := 39) dX7_setHeight_10 (by decide) (by decide) (fun h => absurd h (by decide)) (fun h1 => ?_)
    refine X.iload_n dX7_setHeight_13 rfl ?_
    refine X.iconst dX7_setHeight_14 ?_
    refine X.bipush dX7_setHeight_15 (by decide) ?_
    by_cases p2 : 0 ≤ x ∧ x ≤ 9
    · skip
      refine X.callS1 (As := [.inl x, .inl 0, .inl 9]) (rest := []) dX7_setHeight_17 mk_X7_32 (CX.bt (c_in M0 x 0 9 ⟨by omega, by omega⟩ (by decide) (by decide)) p2) rfl (by decide) rfl (Nat.le_of_ble_eq_true rfl) ?_
      refine X.if_eq (tgt := 39) dX7_setHeight_20 (by decide) (by decide) (fun h => absurd h (by decide)) (fun h2 => ?_)
      refine X.aload_n dX7_setHeight_23 rfl ?_
      refine X.bipush dX7_setHeight_24 (by decide) ?_
      refine X.iload_n dX7_setHeight_26 rfl ?_
      refine X.iload_n dX7_setHeight_27 rfl ?_
      refine X.callS1 (As := [.inl c, .inl r]) (rest := [.inl 68, .inr (some 132)]) dX7_setHeight_28 mk_X7_46 (c_at M0 c r) rfl (by decide) rfl (Nat.le_of_ble_eq_true rfl) ?_
      refine X.iadd (c := 68 + (r * 12 + c)) dX7_setHeight_31 rfl ?_
      refine X.iload_n dX7_setHeight_32 rfl ?_
      refine Y.callV (As := [.inl (68 + (r * 12 + c)), .inl x]) (rest := []) dX7_setHeight_33 mk_X7_98 sh_132 (c_replace M0 v z H tl T hR0 (68 + (r * 12 + c)) x (v 1 (r * 12 + c)) (vset v 1 (r * 12 + c) x) ⟨by omega, by omega⟩ (ws_1 hv (by omega)) (hW0.height (by omega) p2 (fun i => mset_self))) rfl (by decide) rfl (Nat.le_of_ble_eq_true rfl) (fun r9 M9 h9 => ?_)
      obtain ⟨h90, h9R, h9f⟩ := h9
      subst h90
      refine X.goto (tgt := 41) dX7_setHeight_36 (by decide) ?_
      exact Y.iret dX7_setHeight_41 rfl (by unfold OUTM oHeight; rw [if_pos p1, if_pos p2]; exact ⟨rfl, h9R, fun a ha => (h9f a ha).trans (hf0 a ha)⟩)
    · skip
      refine X.callS1 (As := [.inl x, .inl 0, .inl 9]) (rest := []) dX7_setHeight_17 mk_X7_32 (CX.bf (c_in M0 x 0 9 ⟨by omega, by omega⟩ (by decide) (by decide)) p2) rfl (by decide) rfl (Nat.le_of_ble_eq_true rfl) ?_
      refine X.if_eq (tgt := 39) dX7_setHeight_20 (by decide) (by decide) (fun h3 => ?_) (fun h => absurd h (by decide))
      refine X.bipush dX7_setHeight_39 (by decide) ?_
      exact Y.iret dX7_setHeight_41 rfl (by unfold OUTM oHeight; rw [if_pos p1, if_neg p2]; exact ⟨rfl, hR0, hf0⟩)
  · skip
    refine X.callS1 (As := [.inl c, .inl r]) (rest := []) dX7_setHeight_7 mk_X7_95 (CX.bf (c_misCell M0 c r ⟨by omega, by omega⟩ ⟨by omega, by omega⟩) p1) rfl (by decide) rfl (Nat.le_of_ble_eq_true rfl) ?_
    refine X.if_eq (tgt := 39) dX7_setHeight_10 (by decide) (by decide) (fun h4 => ?_) (fun h => absurd h (by decide))
    refine X.bipush dX7_setHeight_39 (by decide) ?_
    exact Y.iret dX7_setHeight_41 rfl (by unfold OUTM oHeight; rw [if_neg p1]; exact ⟨rfl, hR0, hf0⟩)
set_option maxHeartbeats 4000000 in
set_option maxRecDepth 100000 in
theorem c_msetWall (M : Mem) (v : Vw) (z : Int) (H : Int → Vw) (tl : Int) (T : Int → Int) (hR : RM M (v, z, H, tl, T)) (c r x : Int) (hc : inR c) (hr : inR r) (hx : inR x) : CQ mX7_setWall 8 [.inr (some 132), .inl c, .inl r, .inl x] M (OUTM M (oWall (v, z, H, tl, T) c r x)) := by
  refine CX.of (by decide +kernel) (Nat.le_of_ble_eq_true rfl) [some (.inr (some 132)), some (.inl c), some (.inl r), some (.inl x)] rfl ?_
  refine X.aload_n dX7_setWall_0 rfl ?_
  refine X.iconst dX7_setWall_1 ?_
  refine X.putI 0 0 rfl dX7_setWall_2 fi_X7_25 sh_132 rfl rfl ?_
  have hR0 : RM (mset M 132 0 0) (v, z, H, tl, T) := hR.thrown
  have hf0 : ∀ a, a < 132 → mset M 132 0 0 a = M a := fun a ha => mset_row (by omega)
  generalize mset M 132 0 0 = M0 at hR0 hf0 ⊢
  have hW0 : WF (M0 133) v := hR0.1
  have hv : WA (M0 133) v := hR0.1.wa
  have hw : WM (M0 133) v := hR0.1.ww
  have hS : SI v := hR0.1.2.2
  have hz : M0 132 4 = z := hR0.2.1
  have hz1 : 0 ≤ z ∧ z ≤ 5 := hR0.2.2.1
  have htl : M0 132 6 = tl := hR0.2.2.2.2.1
  have htb : 0 ≤ tl ∧ tl ≤ 120 := hR0.2.2.2.2.2.1
  have n0 := hS.n0
  have n1 := hS.n1
  have n2 := hS.n2
  refine X.iload_n dX7_setWall_5 rfl ?_
  refine X.iload_n dX7_setWall_6 rfl ?_
  by_cases p1 : 0 ≤ c ∧ c ≤ 11 ∧ 0 ≤ r ∧ r ≤ 9
  · skip
    refine X.callS1 (As := [.inl c, .inl r]) (rest := []) dX7_setWall_7 mk_X7_95 (CX.bt (c_misCell M0 c r ⟨by omega, by omega⟩ ⟨by omega, by omega⟩) p1) rfl (by decide) rfl (Nat.le_of_ble_eq_true rfl) ?_
    refine X.if_eq (tgt := 22) dX7_setWall_10 (by decide) (by decide) (fun h => absurd h (by decide)) (fun h1 => ?_)
    refine X.iload_n dX7_setWall_13 rfl ?_
    refine X.iconst dX7_setWall_14 ?_
    refine X.iconst dX7_setWall_15 ?_
    by_cases p2 : 0 ≤ x ∧ x ≤ 1
    · skip
      refine X.callS1 (As := [.inl x, .inl 0, .inl 1]) (rest := []) dX7_setWall_16 mk_X7_32 (CX.bt (c_in M0 x 0 1 ⟨by omega, by omega⟩ (by decide) (by decide)) p2) rfl (by decide) rfl (Nat.le_of_ble_eq_true rfl) ?_
      refine X.if_ne (tgt := 25) dX7_setWall_19 (by decide) (by decide) (fun h2 => ?_) (fun h => absurd h (by decide))
      refine X.iload_n dX7_setWall_25 rfl ?_
      refine X.iconst dX7_setWall_26 ?_
      refine X.icmp_ne (tgt := 47) dX7_setWall_27 (by decide) ⟨by omega, by omega⟩ (by decide) (fun p3 => ?_) (fun p3 => ?_)
      · skip
        have p4 : ¬ (x = 1 ∧ ¬ sIn v (r * 12 + c) = -19) := fun q => p3 q.1
        refine X.aload_n dX7_setWall_47 rfl ?_
        refine X.sipush dX7_setWall_48 (by decide) ?_
        refine X.iload_n dX7_setWall_51 rfl ?_
        refine X.iload_n dX7_setWall_52 rfl ?_
        refine X.callS1 (As := [.inl c, .inl r]) (rest := [.inl 188, .inr (some 132)]) dX7_setWall_53 mk_X7_46 (c_at M0 c r) rfl (by decide) rfl (Nat.le_of_ble_eq_true rfl) ?_
        refine X.iadd (c := 188 + (r * 12 + c)) dX7_setWall_56 rfl ?_
        refine X.iload_n dX7_setWall_57 rfl ?_
        refine Y.callV (As := [.inl (188 + (r * 12 + c)), .inl x]) (rest := []) dX7_setWall_58 mk_X7_98 sh_132 (c_replace M0 v z H tl T hR0 (188 + (r * 12 + c)) x (v 2 (r * 12 + c)) (vset v 2 (r * 12 + c) x) ⟨by omega, by omega⟩ (ws_2 hv (by omega)) (hW0.wall (by omega) p2 p4 (fun i => mset_self))) rfl (by decide) rfl (Nat.le_of_ble_eq_true rfl) (fun r9 M9 h9 => ?_)
        obtain ⟨h90, h9R, h9f⟩ := h9
        subst h90
        exact Y.iret dX7_setWall_61 rfl (by unfold OUTM oWall; rw [if_pos p1, if_pos p2, if_neg p4]; exact ⟨rfl, h9R, fun a ha => (h9f a ha).trans (hf0 a ha)⟩)
      · skip
        refine X.aload_n dX7_setWall_30 rfl ?_
        refine X.iload_n dX7_setWall_31 rfl ?_
        refine X.iload_n dX7_setWall_32 rfl ?_
        refine X.callS1 (As := [.inl c, .inl r]) (rest := [.inr (some 132)]) dX7_setWall_33 mk_X7_46 (c_at M0 c r) rfl (by decide) rfl (Nat.le_of_ble_eq_true rfl) ?_
        refine X.callV1 (As := [.inl (r * 12 + c)]) (rest := []) dX7_setWall_36 mk_X7_83 sh_132 (c_mscoutIn M0 v hv hS (r * 12 + c) ⟨by omega, by omega⟩) rfl (by decide) rfl (Nat.le_of_ble_eq_true rfl) ?_
        refine X.bipush dX7_setWall_39 (by decide) ?_
        have hi := sIn_range hS (r * 12 + c)
        refine X.icmp_eq (tgt := 47) dX7_setWall_41 (by decide) ⟨by omega, by omega⟩ (by decide) (fun p5 => ?_) (fun p5 => ?_)
        · skip
          have p4 : ¬ (x = 1 ∧ ¬ sIn v (r * 12 + c) = -19) := fun q => q.2 p5
          refine X.aload_n dX7_setWall_47 rfl ?_
          refine X.sipush dX7_setWall_48 (by decide) ?_
          refine X.iload_n dX7_setWall_51 rfl ?_
          refine X.iload_n dX7_setWall_52 rfl ?_
          refine X.callS1 (As := [.inl c, .inl r]) (rest := [.inl 188, .inr (some 132)]) dX7_setWall_53 mk_X7_46 (c_at M0 c r) rfl (by decide) rfl (Nat.le_of_ble_eq_true rfl) ?_
          refine X.iadd (c := 188 + (r * 12 + c)) dX7_setWall_56 rfl ?_
          refine X.iload_n dX7_setWall_57 rfl ?_
          refine Y.callV (As := [.inl (188 + (r * 12 + c)), .inl x]) (rest := []) dX7_setWall_58 mk_X7_98 sh_132 (c_replace M0 v z H tl T hR0 (188 + (r * 12 + c)) x (v 2 (r * 12 + c)) (vset v 2 (r * 12 + c) x) ⟨by omega, by omega⟩ (ws_2 hv (by omega)) (hW0.wall (by omega) p2 p4 (fun i => mset_self))) rfl (by decide) rfl (Nat.le_of_ble_eq_true rfl) (fun r9 M9 h9 => ?_)
          obtain ⟨h90, h9R, h9f⟩ := h9
          subst h90
          exact Y.iret dX7_setWall_61 rfl (by unfold OUTM oWall; rw [if_pos p1, if_pos p2, if_neg p4]; exact ⟨rfl, h9R, fun a ha => (h9f a ha).trans (hf0 a ha)⟩)
        · skip
          have p4 : x = 1 ∧ ¬ sIn v (r * 12 + c) = -19 := ⟨by omega, p5⟩
          refine X.bipush dX7_setWall_44 (by decide) ?_
          exact Y.iret dX7_setWall_46 rfl (by unfold OUTM oWall; rw [if_pos p1, if_pos p2, if_pos p4]; exact ⟨rfl, hR0, hf0⟩)
    · skip
      refine X.callS1 (As := [.inl x, .inl 0, .inl 1]) (rest := []) dX7_setWall_16 mk_X7_32 (CX.bf (c_in M0 x 0 1 ⟨by omega, by omega⟩ (by decide) (by decide)) p2) rfl (by decide) rfl (Nat.le_of_ble_eq_true rfl) ?_
      refine X.if_ne (tgt := 25) dX7_setWall_19 (by decide) (by decide) (fun h => absurd h (by decide)) (fun h3 => ?_)
      refine X.bipush dX7_setWall_22 (by decide) ?_
      exact Y.iret dX7_setWall_24 rfl (by unfold OUTM oWall; rw [if_pos p1, if_neg p2]; exact ⟨rfl, hR0, hf0⟩)
  · skip
    refine X.callS1 (As := [.inl c, .inl r]) (rest := []) dX7_setWall_7 mk_X7_95 (CX.bf (c_misCell M0 c r ⟨by omega, by omega⟩ ⟨by omega, by omega⟩) p1) rfl (by decide) rfl (Nat.le_of_ble_eq_true rfl) ?_
    refine X.if_eq (tgt := 22) dX7_setWall_10 (by decide) (by decide) (fun h4 => ?_) (fun h => absurd h (by decide))
    refine X.bipush dX7_setWall_22 (by decide) ?_
    exact Y.iret dX7_setWall_24 rfl (by unfold OUTM oWall; rw [if_neg p1]; exact ⟨rfl, hR0, hf0⟩)
set_option maxHeartbeats 4000000 in
set_option maxRecDepth 100000 in
theorem c_msetOil (M : Mem) (v : Vw) (z : Int) (H : Int → Vw) (tl : Int) (T : Int → Int) (hR : RM M (v, z, H, tl, T)) (k o : Int) (hk : inR k) (ho : inR o) : CQ mX7_setOil 8 [.inr (some 132), .inl k, .inl o] M (OUTM M (oOil (v, z, H, tl, T) k o)) := by
  refine CX.of (by decide +kernel) (Nat.le_of_ble_eq_true rfl) [some (.inr (some 132)), some (.inl k), some (.inl o)] rfl ?_
  refine X.aload_n dX7_setOil_0 rfl ?_
  refine X.iconst dX7_setOil_1 ?_
  refine X.putI 0 0 rfl dX7_setOil_2 fi_X7_25 sh_132 rfl rfl ?_
  have hR0 : RM (mset M 132 0 0) (v, z, H, tl, T) := hR.thrown
  have hf0 : ∀ a, a < 132 → mset M 132 0 0 a = M a := fun a ha => mset_row (by omega)
  generalize mset M 132 0 0 = M0 at hR0 hf0 ⊢
  have hW0 : WF (M0 133) v := hR0.1
  have hv : WA (M0 133) v := hR0.1.wa
  have hw : WM (M0 133) v := hR0.1.ww
  have hS : SI v := hR0.1.2.2
  have hz : M0 132 4 = z := hR0.2.1
  have hz1 : 0 ≤ z ∧ z ≤ 5 := hR0.2.2.1
  have htl : M0 132 6 = tl := hR0.2.2.2.2.1
  have htb : 0 ≤ tl ∧ tl ≤ 120 := hR0.2.2.2.2.2.1
  have n0 := hS.n0
  have n1 := hS.n1
  have n2 := hS.n2
  refine X.aload_n dX7_setOil_5 rfl ?_
  refine X.iload_n dX7_setOil_6 rfl ?_
  by_cases p1 : 0 ≤ k ∧ k ≤ v 0 1 - 1
  · skip
    refine X.callV1 (As := [.inl k]) (rest := []) dX7_setOil_7 mk_X7_130 sh_132 (CX.bt (c_misLight M0 v hv hS k ⟨by omega, by omega⟩) p1) rfl (by decide) rfl (Nat.le_of_ble_eq_true rfl) ?_
    refine X.if_eq (tgt := 39) dX7_setOil_10 (by decide) (by decide) (fun h => absurd h (by decide)) (fun h1 => ?_)
    refine X.iload_n dX7_setOil_13 rfl ?_
    refine X.iconst dX7_setOil_14 ?_
    refine X.bipush dX7_setOil_15 (by decide) ?_
    by_cases p2 : 0 ≤ o ∧ o ≤ 50
    · skip
      refine X.callS1 (As := [.inl o, .inl 0, .inl 50]) (rest := []) dX7_setOil_17 mk_X7_32 (CX.bt (c_in M0 o 0 50 ⟨by omega, by omega⟩ (by decide) (by decide)) p2) rfl (by decide) rfl (Nat.le_of_ble_eq_true rfl) ?_
      refine X.if_eq (tgt := 39) dX7_setOil_20 (by decide) (by decide) (fun h => absurd h (by decide)) (fun h2 => ?_)
      refine X.aload_n dX7_setOil_23 rfl ?_
      refine X.bipush dX7_setOil_24 (by decide) ?_
      refine X.iconst dX7_setOil_26 ?_
      refine X.iload_n dX7_setOil_27 rfl ?_
      refine X.imul (c := 4 * k) dX7_setOil_28 rfl ?_
      refine X.iadd (c := 44 + (4 * k)) dX7_setOil_29 rfl ?_
      refine X.iconst dX7_setOil_30 ?_
      refine X.iadd (c := (44 + (4 * k)) + 3) dX7_setOil_31 rfl ?_
      refine X.iload_n dX7_setOil_32 rfl ?_
      refine Y.callV (As := [.inl ((44 + (4 * k)) + 3), .inl o]) (rest := []) dX7_setOil_33 mk_X7_98 sh_132 (c_replace M0 v z H tl T hR0 ((44 + (4 * k)) + 3) o (v 8 k) (vset v 8 k o) ⟨by omega, by omega⟩ (ws_8 hv (by omega)) (hW0.oil (by omega) p2 (fun i => mset_self))) rfl (by decide) rfl (Nat.le_of_ble_eq_true rfl) (fun r9 M9 h9 => ?_)
      obtain ⟨h90, h9R, h9f⟩ := h9
      subst h90
      refine X.goto (tgt := 41) dX7_setOil_36 (by decide) ?_
      exact Y.iret dX7_setOil_41 rfl (by unfold OUTM oOil; rw [if_pos p1, if_pos p2]; exact ⟨rfl, h9R, fun a ha => (h9f a ha).trans (hf0 a ha)⟩)
    · skip
      refine X.callS1 (As := [.inl o, .inl 0, .inl 50]) (rest := []) dX7_setOil_17 mk_X7_32 (CX.bf (c_in M0 o 0 50 ⟨by omega, by omega⟩ (by decide) (by decide)) p2) rfl (by decide) rfl (Nat.le_of_ble_eq_true rfl) ?_
      refine X.if_eq (tgt := 39) dX7_setOil_20 (by decide) (by decide) (fun h3 => ?_) (fun h => absurd h (by decide))
      refine X.bipush dX7_setOil_39 (by decide) ?_
      exact Y.iret dX7_setOil_41 rfl (by unfold OUTM oOil; rw [if_pos p1, if_neg p2]; exact ⟨rfl, hR0, hf0⟩)
  · skip
    refine X.callV1 (As := [.inl k]) (rest := []) dX7_setOil_7 mk_X7_130 sh_132 (CX.bf (c_misLight M0 v hv hS k ⟨by omega, by omega⟩) p1) rfl (by decide) rfl (Nat.le_of_ble_eq_true rfl) ?_
    refine X.if_eq (tgt := 39) dX7_setOil_10 (by decide) (by decide) (fun h4 => ?_) (fun h => absurd h (by decide))
    refine X.bipush dX7_setOil_39 (by decide) ?_
    exact Y.iret dX7_setOil_41 rfl (by unfold OUTM oOil; rw [if_neg p1]; exact ⟨rfl, hR0, hf0⟩)
set_option maxHeartbeats 4000000 in
set_option maxRecDepth 100000 in
theorem c_mappend (M : Mem) (v : Vw) (z : Int) (H : Int → Vw) (tl : Int) (T : Int → Int) (hR : RM M (v, z, H, tl, T)) (x : Int) (hx : inR x) : CQ mX7_append 8 [.inr (some 132), .inl x] M (OUTM M (oAppend (v, z, H, tl, T) x)) := by
  refine CX.of (by decide +kernel) (Nat.le_of_ble_eq_true rfl) [some (.inr (some 132)), some (.inl x)] rfl ?_
  refine X.aload_n dX7_append_0 rfl ?_
  refine X.iconst dX7_append_1 ?_
  refine X.putI 0 0 rfl dX7_append_2 fi_X7_25 sh_132 rfl rfl ?_
  have hR0 : RM (mset M 132 0 0) (v, z, H, tl, T) := hR.thrown
  have hf0 : ∀ a, a < 132 → mset M 132 0 0 a = M a := fun a ha => mset_row (by omega)
  generalize mset M 132 0 0 = M0 at hR0 hf0 ⊢
  have hW0 : WF (M0 133) v := hR0.1
  have hv : WA (M0 133) v := hR0.1.wa
  have hw : WM (M0 133) v := hR0.1.ww
  have hS : SI v := hR0.1.2.2
  have hz : M0 132 4 = z := hR0.2.1
  have hz1 : 0 ≤ z ∧ z ≤ 5 := hR0.2.2.1
  have htl : M0 132 6 = tl := hR0.2.2.2.2.1
  have htb : 0 ≤ tl ∧ tl ≤ 120 := hR0.2.2.2.2.2.1
  have n0 := hS.n0
  have n1 := hS.n1
  have n2 := hS.n2
  refine X.iload_n dX7_append_5 rfl ?_
  refine X.iconst dX7_append_6 ?_
  refine X.sipush dX7_append_7 (by decide) ?_
  by_cases p1 : 1 ≤ x ∧ x ≤ 255
  · skip
    refine X.callS1 (As := [.inl x, .inl 1, .inl 255]) (rest := []) dX7_append_10 mk_X7_32 (CX.bt (c_in M0 x 1 255 ⟨by omega, by omega⟩ (by decide) (by decide)) p1) rfl (by decide) rfl (Nat.le_of_ble_eq_true rfl) ?_
    refine X.if_ne (tgt := 19) dX7_append_13 (by decide) (by decide) (fun h1 => ?_) (fun h => absurd h (by decide))
    refine X.aload_n dX7_append_19 rfl ?_
    refine X.getI (v := tl) 6 dX7_append_20 fi_X7_101 sh_132 rfl htl ?_
    refine X.bipush dX7_append_23 (by decide) ?_
    refine X.icmp_ne (tgt := 31) dX7_append_25 (by decide) ⟨by omega, by omega⟩ (by decide) (fun h2 => ?_) (fun h2 => ?_)
    · skip
      refine X.aload_n dX7_append_31 rfl ?_
      refine X.getR dX7_append_32 fi_X7_19 sh_132 rfl ?_
      refine X.aload_n dX7_append_35 rfl ?_
      refine X.getI (v := tl) 6 dX7_append_36 fi_X7_101 sh_132 rfl htl ?_
      refine X.iload_n dX7_append_39 rfl ?_
      refine X.iast dX7_append_40 sh_136 (by decide) (by omega) ?_
      refine X.aload_n dX7_append_41 rfl ?_
      refine X.dup dX7_append_42 ?_
      refine X.getI (v := tl) 6 dX7_append_43 fi_X7_101 sh_132 rfl ((congrFun (mset_row (by decide)) 6).trans htl) ?_
      refine X.iconst dX7_append_46 ?_
      refine X.iadd (c := tl + 1) dX7_append_47 rfl ?_
      refine X.putI 6 6 rfl dX7_append_48 fi_X7_101 sh_132 rfl rfl ?_
      refine X.aload_n dX7_append_51 rfl ?_
      refine X.getI (v := tl + 1) 6 dX7_append_52 fi_X7_101 sh_132 rfl (by simp [mset]) ?_
      exact Y.iret dX7_append_55 rfl (by unfold OUTM oAppend; rw [if_pos p1, if_neg (show ¬ 120 ≤ tl by omega)]; exact ⟨rfl, hR0.put (by omega) (by omega) hf0⟩)
    · skip
      refine X.bipush dX7_append_28 (by decide) ?_
      exact Y.iret dX7_append_30 rfl (by unfold OUTM oAppend; rw [if_pos p1, if_pos (show 120 ≤ tl by omega)]; exact ⟨rfl, hR0, hf0⟩)
  · skip
    refine X.callS1 (As := [.inl x, .inl 1, .inl 255]) (rest := []) dX7_append_10 mk_X7_32 (CX.bf (c_in M0 x 1 255 ⟨by omega, by omega⟩ (by decide) (by decide)) p1) rfl (by decide) rfl (Nat.le_of_ble_eq_true rfl) ?_
    refine X.if_ne (tgt := 19) dX7_append_13 (by decide) (by decide) (fun h => absurd h (by decide)) (fun h3 => ?_)
    refine X.bipush dX7_append_16 (by decide) ?_
    exact Y.iret dX7_append_18 rfl (by unfold OUTM oAppend; rw [if_neg p1]; exact ⟨rfl, hR0, hf0⟩)
set_option maxHeartbeats 4000000 in
set_option maxRecDepth 100000 in
theorem c_mclearText (M : Mem) (v : Vw) (z : Int) (H : Int → Vw) (tl : Int) (T : Int → Int) (hR : RM M (v, z, H, tl, T)) : CQ mX7_clearText 8 [.inr (some 132)] M (OUTM M (oClear (v, z, H, tl, T) )) := by
  refine CX.of (by decide +kernel) (Nat.le_of_ble_eq_true rfl) [some (.inr (some 132)), none] rfl ?_
  refine X.aload_n dX7_clearText_0 rfl ?_
  refine X.iconst dX7_clearText_1 ?_
  refine X.putI 0 0 rfl dX7_clearText_2 fi_X7_25 sh_132 rfl rfl ?_
  have hR0 : RM (mset M 132 0 0) (v, z, H, tl, T) := hR.thrown
  have hf0 : ∀ a, a < 132 → mset M 132 0 0 a = M a := fun a ha => mset_row (by omega)
  generalize mset M 132 0 0 = M0 at hR0 hf0 ⊢
  have hW0 : WF (M0 133) v := hR0.1
  have hv : WA (M0 133) v := hR0.1.wa
  have hw : WM (M0 133) v := hR0.1.ww
  have hS : SI v := hR0.1.2.2
  have hz : M0 132 4 = z := hR0.2.1
  have hz1 : 0 ≤ z ∧ z ≤ 5 := hR0.2.2.1
  have htl : M0 132 6 = tl := hR0.2.2.2.2.1
  have htb : 0 ≤ tl ∧ tl ≤ 120 := hR0.2.2.2.2.2.1
  have n0 := hS.n0
  have n1 := hS.n1
  have n2 := hS.n2
  refine X.aload_n dX7_clearText_5 rfl ?_
  refine X.getI (v := tl) 6 dX7_clearText_6 fi_X7_101 sh_132 rfl htl ?_
  refine X.istore_n (lv2 := [some (.inr (some 132)), some (.inl tl)]) dX7_clearText_9 (Nat.le_of_ble_eq_true rfl) rfl ?_
  refine X.aload_n dX7_clearText_10 rfl ?_
  refine X.iconst dX7_clearText_11 ?_
  refine X.putI 6 6 rfl dX7_clearText_12 fi_X7_101 sh_132 rfl rfl ?_
  refine X.iload_n dX7_clearText_15 rfl ?_
  exact Y.iret dX7_clearText_16 rfl (by unfold OUTM oClear; exact ⟨rfl, hR0.clear hf0⟩)
set_option maxHeartbeats 4000000 in
set_option maxRecDepth 100000 in
theorem c_maddScout (M : Mem) (v : Vw) (z : Int) (H : Int → Vw) (tl : Int) (T : Int → Int) (hR : RM M (v, z, H, tl, T)) (sd c r g : Int) (hsd : inR sd) (hc : inR c) (hr : inR r) (hg : inR g) : CQ mX7_addScout 8 [.inr (some 132), .inl sd, .inl c, .inl r, .inl g] M (OUTM M (oAddS (v, z, H, tl, T) sd c r g)) := by
  refine CX.of (by decide +kernel) (Nat.le_of_ble_eq_true rfl) [some (.inr (some 132)), some (.inl sd), some (.inl c), some (.inl r), some (.inl g), none, none] rfl ?_
  refine X.aload_n dX7_addScout_0 rfl ?_
  refine X.iconst dX7_addScout_1 ?_
  refine X.putI 0 0 rfl dX7_addScout_2 fi_X7_25 sh_132 rfl rfl ?_
  have hR0 : RM (mset M 132 0 0) (v, z, H, tl, T) := hR.thrown
  have hf0 : ∀ a, a < 132 → mset M 132 0 0 a = M a := fun a ha => mset_row (by omega)
  generalize mset M 132 0 0 = M0 at hR0 hf0 ⊢
  have hW0 : WF (M0 133) v := hR0.1
  have hv : WA (M0 133) v := hR0.1.wa
  have hw : WM (M0 133) v := hR0.1.ww
  have hS : SI v := hR0.1.2.2
  have hz : M0 132 4 = z := hR0.2.1
  have hz1 : 0 ≤ z ∧ z ≤ 5 := hR0.2.2.1
  have htl : M0 132 6 = tl := hR0.2.2.2.2.1
  have htb : 0 ≤ tl ∧ tl ≤ 120 := hR0.2.2.2.2.2.1
  have n0 := hS.n0
  have n1 := hS.n1
  have n2 := hS.n2
  refine X.iload_n dX7_addScout_5 rfl ?_
  refine X.iconst dX7_addScout_6 ?_
  refine X.iconst dX7_addScout_7 ?_
  by_cases p1 : 0 ≤ sd ∧ sd ≤ 1
  · skip
    refine X.callS1 (As := [.inl sd, .inl 0, .inl 1]) (rest := []) dX7_addScout_8 mk_X7_32 (CX.bt (c_in M0 sd 0 1 ⟨by omega, by omega⟩ (by decide) (by decide)) p1) rfl (by decide) rfl (Nat.le_of_ble_eq_true rfl) ?_
    refine X.if_eq (tgt := 33) dX7_addScout_11 (by decide) (by decide) (fun h => absurd h (by decide)) (fun h1 => ?_)
    refine X.iload_n dX7_addScout_14 rfl ?_
    refine X.iload_n dX7_addScout_15 rfl ?_
    by_cases p2 : 0 ≤ c ∧ c ≤ 11 ∧ 0 ≤ r ∧ r ≤ 9
    · skip
      refine X.callS1 (As := [.inl c, .inl r]) (rest := []) dX7_addScout_16 mk_X7_95 (CX.bt (c_misCell M0 c r ⟨by omega, by omega⟩ ⟨by omega, by omega⟩) p2) rfl (by decide) rfl (Nat.le_of_ble_eq_true rfl) ?_
      refine X.if_eq (tgt := 33) dX7_addScout_19 (by decide) (by decide) (fun h => absurd h (by decide)) (fun h2 => ?_)
      refine X.iload dX7_addScout_22 rfl ?_
      refine X.iconst dX7_addScout_24 ?_
      refine X.bipush dX7_addScout_25 (by decide) ?_
      by_cases p3 : 1 ≤ g ∧ g ≤ 8
      · skip
        refine X.callS1 (As := [.inl g, .inl 1, .inl 8]) (rest := []) dX7_addScout_27 mk_X7_32 (CX.bt (c_in M0 g 1 8 ⟨by omega, by omega⟩ (by decide) (by decide)) p3) rfl (by decide) rfl (Nat.le_of_ble_eq_true rfl) ?_
        refine X.if_ne (tgt := 36) dX7_addScout_30 (by decide) (by decide) (fun h3 => ?_) (fun h => absurd h (by decide))
        refine X.iload_n dX7_addScout_36 rfl ?_
        refine X.iload_n dX7_addScout_37 rfl ?_
        refine X.callS1 (As := [.inl c, .inl r]) (rest := []) dX7_addScout_38 mk_X7_46 (c_at M0 c r) rfl (by decide) rfl (Nat.le_of_ble_eq_true rfl) ?_
        refine X.istore (lv2 := [some (.inr (some 132)), some (.inl sd), some (.inl c), some (.inl r), some (.inl g), some (.inl (r * 12 + c)), none]) dX7_addScout_41 (Nat.le_of_ble_eq_true rfl) rfl ?_
        refine X.aload_n dX7_addScout_43 rfl ?_
        refine X.getR dX7_addScout_44 fi_X7_7 sh_132 rfl ?_
        refine X.sipush dX7_addScout_47 (by decide) ?_
        refine X.iload dX7_addScout_50 rfl ?_
        refine X.iadd (c := 188 + (r * 12 + c)) dX7_addScout_52 rfl ?_
        have q4 := SI.r2 hS (r * 12 + c)
        refine X.iald (v := v 2 (r * 12 + c)) dX7_addScout_53 sh_133 (by decide) (by omega) (ws_2 hv (by omega)) ?_
        refine X.iconst dX7_addScout_54 ?_
        refine X.icmp_eq (tgt := 69) dX7_addScout_55 (by decide) ⟨by omega, by omega⟩ (by decide) (fun p4 => ?_) (fun p4 => ?_)
        · skip
          have p6 : ¬ (v 2 (r * 12 + c) = 0 ∧ sIn v (r * 12 + c) = -19) := fun q => by omega
          refine X.bipush dX7_addScout_69 (by decide) ?_
          exact Y.iret dX7_addScout_71 rfl (by unfold OUTM oAddS; rw [if_pos p1, if_pos p2, if_pos p3, if_neg p6]; exact ⟨rfl, hR0, hf0⟩)
        · skip
          refine X.aload_n dX7_addScout_58 rfl ?_
          refine X.iload dX7_addScout_59 rfl ?_
          refine X.callV1 (As := [.inl (r * 12 + c)]) (rest := []) dX7_addScout_61 mk_X7_83 sh_132 (c_mscoutIn M0 v hv hS (r * 12 + c) ⟨by omega, by omega⟩) rfl (by decide) rfl (Nat.le_of_ble_eq_true rfl) ?_
          refine X.bipush dX7_addScout_64 (by decide) ?_
          have hi := sIn_range hS (r * 12 + c)
          refine X.icmp_eq (tgt := 72) dX7_addScout_66 (by decide) ⟨by omega, by omega⟩ (by decide) (fun p5 => ?_) (fun p5 => ?_)
          · skip
            have p6 : v 2 (r * 12 + c) = 0 ∧ sIn v (r * 12 + c) = -19 := ⟨by omega, p5⟩
            refine X.aload_n dX7_addScout_72 rfl ?_
            refine X.getR dX7_addScout_73 fi_X7_7 sh_132 rfl ?_
            refine X.iconst dX7_addScout_76 ?_
            refine X.iald (v := v 0 0) dX7_addScout_77 sh_133 (by decide) (by decide) (ws_0_0 hv) ?_
            refine X.bipush dX7_addScout_78 (by decide) ?_
            refine X.icmp_ne (tgt := 86) dX7_addScout_80 (by decide) ⟨by omega, by omega⟩ (by decide) (fun h5 => ?_) (fun h5 => ?_)
            · skip
              refine X.aload_n dX7_addScout_86 rfl ?_
              refine X.callV0 (As := []) (rest := []) dX7_addScout_87 mk_X7_89 sh_132 (c_act M0 z hz hz1) rfl (by decide) rfl (Nat.le_of_ble_eq_true rfl) ?_
              have hR1 : RM (actM M0 z) (v, imin (z + 1) 5, pushH H z v, tl, T) := hR0.keep
              have hf1 : ∀ a, a < 132 → actM M0 z a = M a := fun a ha => (actM_no (by omega)).trans (hf0 a ha)
              have h13 : actM M0 z 133 = M0 133 := actM_no (by decide)
              generalize actM M0 z = M1 at hR1 hf1 h13 ⊢
              have hW1 : WF (M1 133) v := hR1.1
              have hv1 : WA (M1 133) v := hR1.1.wa
              have hw1 : WM (M1 133) v := hR1.1.ww
              refine X.iconst dX7_addScout_90 ?_
              refine X.iconst dX7_addScout_91 ?_
              refine X.aload_n dX7_addScout_92 rfl ?_
              refine X.getR dX7_addScout_93 fi_X7_7 sh_132 rfl ?_
              refine X.iconst dX7_addScout_96 ?_
              refine X.iald (v := v 0 0) dX7_addScout_97 sh_133 (by decide) (by decide) (ws_0_0 hv1) ?_
              refine X.imul (c := 4 * (v 0 0)) dX7_addScout_98 rfl ?_
              refine X.iadd (c := 4 + (4 * (v 0 0))) dX7_addScout_99 rfl ?_
              refine X.istore (lv2 := [some (.inr (some 132)), some (.inl sd), some (.inl c), some (.inl r), some (.inl g), some (.inl (r * 12 + c)), some (.inl (4 + (4 * (v 0 0))))]) dX7_addScout_100 (Nat.le_of_ble_eq_true rfl) rfl ?_
              refine X.aload_n dX7_addScout_102 rfl ?_
              refine X.getR dX7_addScout_103 fi_X7_7 sh_132 rfl ?_
              refine X.iload dX7_addScout_106 rfl ?_
              refine X.iconst dX7_addScout_108 ?_
              refine X.iadd (c := (4 + (4 * (v 0 0))) + 0) dX7_addScout_109 rfl ?_
              refine X.iload_n dX7_addScout_110 rfl ?_
              refine X.iast dX7_addScout_111 sh_133 (by decide) (by omega) ?_
              refine X.aload_n dX7_addScout_112 rfl ?_
              refine X.getR dX7_addScout_113 fi_X7_7 sh_132 rfl ?_
              refine X.iload dX7_addScout_116 rfl ?_
              refine X.iconst dX7_addScout_118 ?_
              refine X.iadd (c := (4 + (4 * (v 0 0))) + 1) dX7_addScout_119 rfl ?_
              refine X.iload_n dX7_addScout_120 rfl ?_
              refine X.iast dX7_addScout_121 sh_133 (by decide) (by omega) ?_
              refine X.aload_n dX7_addScout_122 rfl ?_
              refine X.getR dX7_addScout_123 fi_X7_7 sh_132 rfl ?_
              refine X.iload dX7_addScout_126 rfl ?_
              refine X.iconst dX7_addScout_128 ?_
              refine X.iadd (c := (4 + (4 * (v 0 0))) + 2) dX7_addScout_129 rfl ?_
              refine X.iload_n dX7_addScout_130 rfl ?_
              refine X.iast dX7_addScout_131 sh_133 (by decide) (by omega) ?_
              refine X.aload_n dX7_addScout_132 rfl ?_
              refine X.getR dX7_addScout_133 fi_X7_7 sh_132 rfl ?_
              refine X.iload dX7_addScout_136 rfl ?_
              refine X.iconst dX7_addScout_138 ?_
              refine X.iadd (c := (4 + (4 * (v 0 0))) + 3) dX7_addScout_139 rfl ?_
              refine X.iload dX7_addScout_140 rfl ?_
              refine X.iast dX7_addScout_142 sh_133 (by decide) (by omega) ?_
              refine X.aload_n dX7_addScout_143 rfl ?_
              refine X.getR dX7_addScout_144 fi_X7_7 sh_132 rfl ?_
              refine X.iconst dX7_addScout_147 ?_
              refine X.dup2 dX7_addScout_148 ?_
              refine X.iald (v := v 0 0) dX7_addScout_149 sh_133 (by decide) (by decide) (by rw [mset_self, if_neg (by omega), mset_self, if_neg (by omega), mset_self, if_neg (by omega), mset_self, if_neg (by omega)]; exact ws_0_0 hv1) ?_
              refine X.iconst dX7_addScout_150 ?_
              refine X.iadd (c := (v 0 0) + 1) dX7_addScout_151 rfl ?_
              refine X.iast dX7_addScout_152 sh_133 (by decide) (by decide) ?_
              refine X.aload_n dX7_addScout_153 rfl ?_
              refine Y.callV (As := []) (rest := []) dX7_addScout_154 mk_X7_92 sh_132 (c_mlook (mset (mset (mset (mset (mset M1 133 ((4 + (4 * (v 0 0))) + 0) sd) 133 ((4 + (4 * (v 0 0))) + 1) c) 133 ((4 + (4 * (v 0 0))) + 2) r) 133 ((4 + (4 * (v 0 0))) + 3) g) 133 0 ((v 0 0) + 1)) (putSV v sd (r * 12 + c) g) (hW1.putS rfl (by omega) p1 (by omega) (by omega) p3 p6.1 p6.2 (fun i => by rw [mset_self, mset_self, mset_self, mset_self, mset_self]))) rfl (by decide) rfl (Nat.le_of_ble_eq_true rfl) (fun r9 M9 h9 => ?_)
              obtain ⟨h90, h9f, h9w⟩ := h9
              subst h90
              refine X.aload_n dX7_addScout_157 rfl ?_
              refine X.getR dX7_addScout_158 fi_X7_7 sh_132 rfl ?_
              refine X.iconst dX7_addScout_161 ?_
              refine X.iald (v := v 0 0 + 1) dX7_addScout_162 sh_133 (by decide) (by decide) ((ws_0_0 h9w.wa).trans ((congrFun (lookV_lo (by decide)) 0).trans vset_at)) ?_
              refine X.iconst dX7_addScout_163 ?_
              refine X.isub (c := v 0 0) dX7_addScout_164 (by omega) ?_
              exact Y.iret dX7_addScout_165 rfl (by unfold OUTM oAddS; rw [if_pos p1, if_pos p2, if_pos p3, if_pos p6, if_neg (show ¬ 10 ≤ v 0 0 by omega)]; exact ⟨rfl, hR1.done (fun a ha => (h9f a ha).trans (by first | rfl | rw [mset_row ha, mset_row ha, mset_row ha, mset_row ha, mset_row ha] | rw [mset_row ha, mset_row ha] | rw [mset_row ha, mw_no ha] | rw [mw_no ha, mset_row ha])) h9w hf1⟩)
            · skip
              refine X.bipush dX7_addScout_83 (by decide) ?_
              exact Y.iret dX7_addScout_85 rfl (by unfold OUTM oAddS; rw [if_pos p1, if_pos p2, if_pos p3, if_pos p6, if_pos (show 10 ≤ v 0 0 by omega)]; exact ⟨rfl, hR0, hf0⟩)
          · skip
            have p6 : ¬ (v 2 (r * 12 + c) = 0 ∧ sIn v (r * 12 + c) = -19) := fun q => p5 q.2
            refine X.bipush dX7_addScout_69 (by decide) ?_
            exact Y.iret dX7_addScout_71 rfl (by unfold OUTM oAddS; rw [if_pos p1, if_pos p2, if_pos p3, if_neg p6]; exact ⟨rfl, hR0, hf0⟩)
      · skip
        refine X.callS1 (As := [.inl g, .inl 1, .inl 8]) (rest := []) dX7_addScout_27 mk_X7_32 (CX.bf (c_in M0 g 1 8 ⟨by omega, by omega⟩ (by decide) (by decide)) p3) rfl (by decide) rfl (Nat.le_of_ble_eq_true rfl) ?_
        refine X.if_ne (tgt := 36) dX7_addScout_30 (by decide) (by decide) (fun h => absurd h (by decide)) (fun h6 => ?_)
        refine X.bipush dX7_addScout_33 (by decide) ?_
        exact Y.iret dX7_addScout_35 rfl (by unfold OUTM oAddS; rw [if_pos p1, if_pos p2, if_neg p3]; exact ⟨rfl, hR0, hf0⟩)
    · skip
      refine X.callS1 (As := [.inl c, .inl r]) (rest := []) dX7_addScout_16 mk_X7_95 (CX.bf (c_misCell M0 c r ⟨by omega, by omega⟩ ⟨by omega, by omega⟩) p2) rfl (by decide) rfl (Nat.le_of_ble_eq_true rfl) ?_
      refine X.if_eq (tgt := 33) dX7_addScout_19 (by decide) (by decide) (fun h7 => ?_) (fun h => absurd h (by decide))
      refine X.bipush dX7_addScout_33 (by decide) ?_
      exact Y.iret dX7_addScout_35 rfl (by unfold OUTM oAddS; rw [if_pos p1, if_neg p2]; exact ⟨rfl, hR0, hf0⟩)
  · skip
    refine X.callS1 (As := [.inl sd, .inl 0, .inl 1]) (rest := []) dX7_addScout_8 mk_X7_32 (CX.bf (c_in M0 sd 0 1 ⟨by omega, by omega⟩ (by decide) (by decide)) p1) rfl (by decide) rfl (Nat.le_of_ble_eq_true rfl) ?_
    refine X.if_eq (tgt := 33) dX7_addScout_11 (by decide) (by decide) (fun h8 => ?_) (fun h => absurd h (by decide))
    refine X.bipush dX7_addScout_33 (by decide) ?_
    exact Y.iret dX7_addScout_35 rfl (by unfold OUTM oAddS; rw [if_neg p1]; exact ⟨rfl, hR0, hf0⟩)
set_option maxHeartbeats 4000000 in
set_option maxRecDepth 100000 in
theorem c_maddLight (M : Mem) (v : Vw) (z : Int) (H : Int → Vw) (tl : Int) (T : Int → Int) (hR : RM M (v, z, H, tl, T)) (c r g o : Int) (hc : inR c) (hr : inR r) (hg : inR g) (ho : inR o) : CQ mX7_addLight 8 [.inr (some 132), .inl c, .inl r, .inl g, .inl o] M (OUTM M (oAddL (v, z, H, tl, T) c r g o)) := by
  refine CX.of (by decide +kernel) (Nat.le_of_ble_eq_true rfl) [some (.inr (some 132)), some (.inl c), some (.inl r), some (.inl g), some (.inl o), none] rfl ?_
  refine X.aload_n dX7_addLight_0 rfl ?_
  refine X.iconst dX7_addLight_1 ?_
  refine X.putI 0 0 rfl dX7_addLight_2 fi_X7_25 sh_132 rfl rfl ?_
  have hR0 : RM (mset M 132 0 0) (v, z, H, tl, T) := hR.thrown
  have hf0 : ∀ a, a < 132 → mset M 132 0 0 a = M a := fun a ha => mset_row (by omega)
  generalize mset M 132 0 0 = M0 at hR0 hf0 ⊢
  have hW0 : WF (M0 133) v := hR0.1
  have hv : WA (M0 133) v := hR0.1.wa
  have hw : WM (M0 133) v := hR0.1.ww
  have hS : SI v := hR0.1.2.2
  have hz : M0 132 4 = z := hR0.2.1
  have hz1 : 0 ≤ z ∧ z ≤ 5 := hR0.2.2.1
  have htl : M0 132 6 = tl := hR0.2.2.2.2.1
  have htb : 0 ≤ tl ∧ tl ≤ 120 := hR0.2.2.2.2.2.1
  have n0 := hS.n0
  have n1 := hS.n1
  have n2 := hS.n2
  refine X.iload_n dX7_addLight_5 rfl ?_
  refine X.iload_n dX7_addLight_6 rfl ?_
  by_cases p1 : 0 ≤ c ∧ c ≤ 11 ∧ 0 ≤ r ∧ r ≤ 9
  · skip
    refine X.callS1 (As := [.inl c, .inl r]) (rest := []) dX7_addLight_7 mk_X7_95 (CX.bt (c_misCell M0 c r ⟨by omega, by omega⟩ ⟨by omega, by omega⟩) p1) rfl (by decide) rfl (Nat.le_of_ble_eq_true rfl) ?_
    refine X.if_eq (tgt := 33) dX7_addLight_10 (by decide) (by decide) (fun h => absurd h (by decide)) (fun h1 => ?_)
    refine X.iload_n dX7_addLight_13 rfl ?_
    refine X.iconst dX7_addLight_14 ?_
    refine X.iconst dX7_addLight_15 ?_
    by_cases p2 : 0 ≤ g ∧ g ≤ 4
    · skip
      refine X.callS1 (As := [.inl g, .inl 0, .inl 4]) (rest := []) dX7_addLight_16 mk_X7_32 (CX.bt (c_in M0 g 0 4 ⟨by omega, by omega⟩ (by decide) (by decide)) p2) rfl (by decide) rfl (Nat.le_of_ble_eq_true rfl) ?_
      refine X.if_eq (tgt := 33) dX7_addLight_19 (by decide) (by decide) (fun h => absurd h (by decide)) (fun h2 => ?_)
      refine X.iload dX7_addLight_22 rfl ?_
      refine X.iconst dX7_addLight_24 ?_
      refine X.bipush dX7_addLight_25 (by decide) ?_
      by_cases p3 : 0 ≤ o ∧ o ≤ 50
      · skip
        refine X.callS1 (As := [.inl o, .inl 0, .inl 50]) (rest := []) dX7_addLight_27 mk_X7_32 (CX.bt (c_in M0 o 0 50 ⟨by omega, by omega⟩ (by decide) (by decide)) p3) rfl (by decide) rfl (Nat.le_of_ble_eq_true rfl) ?_
        refine X.if_ne (tgt := 36) dX7_addLight_30 (by decide) (by decide) (fun h3 => ?_) (fun h => absurd h (by decide))
        refine X.aload_n dX7_addLight_36 rfl ?_
        refine X.getR dX7_addLight_37 fi_X7_7 sh_132 rfl ?_
        refine X.iconst dX7_addLight_40 ?_
        refine X.iald (v := v 0 1) dX7_addLight_41 sh_133 (by decide) (by decide) (ws_0_1 hv) ?_
        refine X.bipush dX7_addLight_42 (by decide) ?_
        refine X.icmp_ne (tgt := 50) dX7_addLight_44 (by decide) ⟨by omega, by omega⟩ (by decide) (fun h4 => ?_) (fun h4 => ?_)
        · skip
          refine X.aload_n dX7_addLight_50 rfl ?_
          refine X.callV0 (As := []) (rest := []) dX7_addLight_51 mk_X7_89 sh_132 (c_act M0 z hz hz1) rfl (by decide) rfl (Nat.le_of_ble_eq_true rfl) ?_
          have hR1 : RM (actM M0 z) (v, imin (z + 1) 5, pushH H z v, tl, T) := hR0.keep
          have hf1 : ∀ a, a < 132 → actM M0 z a = M a := fun a ha => (actM_no (by omega)).trans (hf0 a ha)
          have h13 : actM M0 z 133 = M0 133 := actM_no (by decide)
          generalize actM M0 z = M1 at hR1 hf1 h13 ⊢
          have hW1 : WF (M1 133) v := hR1.1
          have hv1 : WA (M1 133) v := hR1.1.wa
          have hw1 : WM (M1 133) v := hR1.1.ww
          refine X.bipush dX7_addLight_54 (by decide) ?_
          refine X.iconst dX7_addLight_56 ?_
          refine X.aload_n dX7_addLight_57 rfl ?_
          refine X.getR dX7_addLight_58 fi_X7_7 sh_132 rfl ?_
          refine X.iconst dX7_addLight_61 ?_
          refine X.iald (v := v 0 1) dX7_addLight_62 sh_133 (by decide) (by decide) (ws_0_1 hv1) ?_
          refine X.imul (c := 4 * (v 0 1)) dX7_addLight_63 rfl ?_
          refine X.iadd (c := 44 + (4 * (v 0 1))) dX7_addLight_64 rfl ?_
          refine X.istore (lv2 := [some (.inr (some 132)), some (.inl c), some (.inl r), some (.inl g), some (.inl o), some (.inl (44 + (4 * (v 0 1))))]) dX7_addLight_65 (Nat.le_of_ble_eq_true rfl) rfl ?_
          refine X.aload_n dX7_addLight_67 rfl ?_
          refine X.getR dX7_addLight_68 fi_X7_7 sh_132 rfl ?_
          refine X.iload dX7_addLight_71 rfl ?_
          refine X.iload_n dX7_addLight_73 rfl ?_
          refine X.iast dX7_addLight_74 sh_133 (by decide) (by omega) ?_
          refine X.aload_n dX7_addLight_75 rfl ?_
          refine X.getR dX7_addLight_76 fi_X7_7 sh_132 rfl ?_
          refine X.iload dX7_addLight_79 rfl ?_
          refine X.iconst dX7_addLight_81 ?_
          refine X.iadd (c := (44 + (4 * (v 0 1))) + 1) dX7_addLight_82 rfl ?_
          refine X.iload_n dX7_addLight_83 rfl ?_
          refine X.iast dX7_addLight_84 sh_133 (by decide) (by omega) ?_
          refine X.aload_n dX7_addLight_85 rfl ?_
          refine X.getR dX7_addLight_86 fi_X7_7 sh_132 rfl ?_
          refine X.iload dX7_addLight_89 rfl ?_
          refine X.iconst dX7_addLight_91 ?_
          refine X.iadd (c := (44 + (4 * (v 0 1))) + 2) dX7_addLight_92 rfl ?_
          refine X.iload_n dX7_addLight_93 rfl ?_
          refine X.iast dX7_addLight_94 sh_133 (by decide) (by omega) ?_
          refine X.aload_n dX7_addLight_95 rfl ?_
          refine X.getR dX7_addLight_96 fi_X7_7 sh_132 rfl ?_
          refine X.iload dX7_addLight_99 rfl ?_
          refine X.iconst dX7_addLight_101 ?_
          refine X.iadd (c := (44 + (4 * (v 0 1))) + 3) dX7_addLight_102 rfl ?_
          refine X.iload dX7_addLight_103 rfl ?_
          refine X.iast dX7_addLight_105 sh_133 (by decide) (by omega) ?_
          refine X.aload_n dX7_addLight_106 rfl ?_
          refine X.getR dX7_addLight_107 fi_X7_7 sh_132 rfl ?_
          refine X.iconst dX7_addLight_110 ?_
          refine X.dup2 dX7_addLight_111 ?_
          refine X.iald (v := v 0 1) dX7_addLight_112 sh_133 (by decide) (by decide) (by rw [mset_self, if_neg (by omega), mset_self, if_neg (by omega), mset_self, if_neg (by omega), mset_self, if_neg (by omega)]; exact ws_0_1 hv1) ?_
          refine X.iconst dX7_addLight_113 ?_
          refine X.iadd (c := (v 0 1) + 1) dX7_addLight_114 rfl ?_
          refine X.iast dX7_addLight_115 sh_133 (by decide) (by decide) ?_
          refine X.aload_n dX7_addLight_116 rfl ?_
          refine Y.callV (As := []) (rest := []) dX7_addLight_117 mk_X7_92 sh_132 (c_mlook (mset (mset (mset (mset (mset M1 133 (44 + (4 * (v 0 1))) c) 133 ((44 + (4 * (v 0 1))) + 1) r) 133 ((44 + (4 * (v 0 1))) + 2) g) 133 ((44 + (4 * (v 0 1))) + 3) o) 133 1 ((v 0 1) + 1)) (putLV v (r * 12 + c) g o) (hW1.putL rfl (by omega) (by omega) (by omega) p2 p3 (fun i => by rw [mset_self, mset_self, mset_self, mset_self, mset_self, Int.add_zero]))) rfl (by decide) rfl (Nat.le_of_ble_eq_true rfl) (fun r9 M9 h9 => ?_)
          obtain ⟨h90, h9f, h9w⟩ := h9
          subst h90
          refine X.aload_n dX7_addLight_120 rfl ?_
          refine X.getR dX7_addLight_121 fi_X7_7 sh_132 rfl ?_
          refine X.iconst dX7_addLight_124 ?_
          refine X.iald (v := v 0 1 + 1) dX7_addLight_125 sh_133 (by decide) (by decide) ((ws_0_1 h9w.wa).trans ((congrFun (lookV_lo (by decide)) 1).trans vset_at)) ?_
          refine X.iconst dX7_addLight_126 ?_
          refine X.isub (c := v 0 1) dX7_addLight_127 (by omega) ?_
          exact Y.iret dX7_addLight_128 rfl (by unfold OUTM oAddL; rw [if_pos p1, if_pos p2, if_pos p3, if_neg (show ¬ 6 ≤ v 0 1 by omega)]; exact ⟨rfl, hR1.done (fun a ha => (h9f a ha).trans (by first | rfl | rw [mset_row ha, mset_row ha, mset_row ha, mset_row ha, mset_row ha] | rw [mset_row ha, mset_row ha] | rw [mset_row ha, mw_no ha] | rw [mw_no ha, mset_row ha])) h9w hf1⟩)
        · skip
          refine X.bipush dX7_addLight_47 (by decide) ?_
          exact Y.iret dX7_addLight_49 rfl (by unfold OUTM oAddL; rw [if_pos p1, if_pos p2, if_pos p3, if_pos (show 6 ≤ v 0 1 by omega)]; exact ⟨rfl, hR0, hf0⟩)
      · skip
        refine X.callS1 (As := [.inl o, .inl 0, .inl 50]) (rest := []) dX7_addLight_27 mk_X7_32 (CX.bf (c_in M0 o 0 50 ⟨by omega, by omega⟩ (by decide) (by decide)) p3) rfl (by decide) rfl (Nat.le_of_ble_eq_true rfl) ?_
        refine X.if_ne (tgt := 36) dX7_addLight_30 (by decide) (by decide) (fun h => absurd h (by decide)) (fun h5 => ?_)
        refine X.bipush dX7_addLight_33 (by decide) ?_
        exact Y.iret dX7_addLight_35 rfl (by unfold OUTM oAddL; rw [if_pos p1, if_pos p2, if_neg p3]; exact ⟨rfl, hR0, hf0⟩)
    · skip
      refine X.callS1 (As := [.inl g, .inl 0, .inl 4]) (rest := []) dX7_addLight_16 mk_X7_32 (CX.bf (c_in M0 g 0 4 ⟨by omega, by omega⟩ (by decide) (by decide)) p2) rfl (by decide) rfl (Nat.le_of_ble_eq_true rfl) ?_
      refine X.if_eq (tgt := 33) dX7_addLight_19 (by decide) (by decide) (fun h6 => ?_) (fun h => absurd h (by decide))
      refine X.bipush dX7_addLight_33 (by decide) ?_
      exact Y.iret dX7_addLight_35 rfl (by unfold OUTM oAddL; rw [if_pos p1, if_neg p2]; exact ⟨rfl, hR0, hf0⟩)
  · skip
    refine X.callS1 (As := [.inl c, .inl r]) (rest := []) dX7_addLight_7 mk_X7_95 (CX.bf (c_misCell M0 c r ⟨by omega, by omega⟩ ⟨by omega, by omega⟩) p1) rfl (by decide) rfl (Nat.le_of_ble_eq_true rfl) ?_
    refine X.if_eq (tgt := 33) dX7_addLight_10 (by decide) (by decide) (fun h7 => ?_) (fun h => absurd h (by decide))
    refine X.bipush dX7_addLight_33 (by decide) ?_
    exact Y.iret dX7_addLight_35 rfl (by unfold OUTM oAddL; rw [if_neg p1]; exact ⟨rfl, hR0, hf0⟩)
set_option maxHeartbeats 4000000 in
set_option maxRecDepth 100000 in
theorem c_mremoveScout (M : Mem) (v : Vw) (z : Int) (H : Int → Vw) (tl : Int) (T : Int → Int) (hR : RM M (v, z, H, tl, T)) (k : Int) (hk : inR k) : CQ mX7_removeScout 8 [.inr (some 132), .inl k] M (OUTM M (oRemS (v, z, H, tl, T) k)) := by
  refine CX.of (by decide +kernel) (Nat.le_of_ble_eq_true rfl) [some (.inr (some 132)), some (.inl k)] rfl ?_
  refine X.aload_n dX7_removeScout_0 rfl ?_
  refine X.iconst dX7_removeScout_1 ?_
  refine X.putI 0 0 rfl dX7_removeScout_2 fi_X7_25 sh_132 rfl rfl ?_
  have hR0 : RM (mset M 132 0 0) (v, z, H, tl, T) := hR.thrown
  have hf0 : ∀ a, a < 132 → mset M 132 0 0 a = M a := fun a ha => mset_row (by omega)
  generalize mset M 132 0 0 = M0 at hR0 hf0 ⊢
  have hW0 : WF (M0 133) v := hR0.1
  have hv : WA (M0 133) v := hR0.1.wa
  have hw : WM (M0 133) v := hR0.1.ww
  have hS : SI v := hR0.1.2.2
  have hz : M0 132 4 = z := hR0.2.1
  have hz1 : 0 ≤ z ∧ z ≤ 5 := hR0.2.2.1
  have htl : M0 132 6 = tl := hR0.2.2.2.2.1
  have htb : 0 ≤ tl ∧ tl ≤ 120 := hR0.2.2.2.2.2.1
  have n0 := hS.n0
  have n1 := hS.n1
  have n2 := hS.n2
  refine X.aload_n dX7_removeScout_5 rfl ?_
  refine X.iload_n dX7_removeScout_6 rfl ?_
  by_cases p1 : 0 ≤ k ∧ k ≤ v 0 0 - 1
  · skip
    refine X.callV1 (As := [.inl k]) (rest := []) dX7_removeScout_7 mk_X7_120 sh_132 (CX.bt (c_misScout M0 v hv hS k ⟨by omega, by omega⟩) p1) rfl (by decide) rfl (Nat.le_of_ble_eq_true rfl) ?_
    refine X.if_ne (tgt := 16) dX7_removeScout_10 (by decide) (by decide) (fun h1 => ?_) (fun h => absurd h (by decide))
    refine X.aload_n dX7_removeScout_16 rfl ?_
    refine X.callV0 (As := []) (rest := []) dX7_removeScout_17 mk_X7_89 sh_132 (c_act M0 z hz hz1) rfl (by decide) rfl (Nat.le_of_ble_eq_true rfl) ?_
    have hR1 : RM (actM M0 z) (v, imin (z + 1) 5, pushH H z v, tl, T) := hR0.keep
    have hf1 : ∀ a, a < 132 → actM M0 z a = M a := fun a ha => (actM_no (by omega)).trans (hf0 a ha)
    have h13 : actM M0 z 133 = M0 133 := actM_no (by decide)
    generalize actM M0 z = M1 at hR1 hf1 h13 ⊢
    have hW1 : WF (M1 133) v := hR1.1
    have hv1 : WA (M1 133) v := hR1.1.wa
    have hw1 : WM (M1 133) v := hR1.1.ww
    refine X.aload_n dX7_removeScout_20 rfl ?_
    refine X.iconst dX7_removeScout_21 ?_
    refine X.aload_n dX7_removeScout_22 rfl ?_
    refine X.getR dX7_removeScout_23 fi_X7_7 sh_132 rfl ?_
    refine X.iconst dX7_removeScout_26 ?_
    refine X.iald (v := v 0 0) dX7_removeScout_27 sh_133 (by decide) (by decide) (ws_0_0 hv1) ?_
    refine X.iload_n dX7_removeScout_28 rfl ?_
    refine X.callV0 (As := [.inl 4, .inl (v 0 0), .inl k]) (rest := []) dX7_removeScout_29 mk_X7_126 sh_132 (c_remove M1 4 (v 0 0) k (by decide) (by omega) (by omega)) rfl (by decide) rfl (Nat.le_of_ble_eq_true rfl) ?_
    refine X.aload_n dX7_removeScout_32 rfl ?_
    refine X.getR dX7_removeScout_33 fi_X7_7 sh_132 rfl ?_
    refine X.iconst dX7_removeScout_36 ?_
    refine X.dup2 dX7_removeScout_37 ?_
    refine X.iald (v := v 0 0) dX7_removeScout_38 sh_133 (by decide) (by decide) (by rw [mw_at, if_neg (by omega)]; exact ws_0_0 hv1) ?_
    refine X.iconst dX7_removeScout_39 ?_
    refine X.isub (c := (v 0 0) - 1) dX7_removeScout_40 rfl ?_
    refine X.iast dX7_removeScout_41 sh_133 (by decide) (by decide) ?_
    refine X.aload_n dX7_removeScout_42 rfl ?_
    refine Y.callV (As := []) (rest := []) dX7_removeScout_43 mk_X7_92 sh_132 (c_mlook (mset (mw M1 133 (4 + 4 * k) (4 + 4 * v 0 0 - 4) (fun i => M1 133 (i + 4))) 133 0 ((v 0 0) - 1)) (dropSV v k) (hW1.dropS (by omega) (fun i => by rw [mset_self, mw_at]))) rfl (by decide) rfl (Nat.le_of_ble_eq_true rfl) (fun r9 M9 h9 => ?_)
    obtain ⟨h90, h9f, h9w⟩ := h9
    subst h90
    refine X.aload_n dX7_removeScout_46 rfl ?_
    refine X.getR dX7_removeScout_47 fi_X7_7 sh_132 rfl ?_
    refine X.iconst dX7_removeScout_50 ?_
    refine X.iald (v := v 0 0 - 1) dX7_removeScout_51 sh_133 (by decide) (by decide) ((ws_0_0 h9w.wa).trans ((congrFun (lookV_lo (by decide)) 0).trans vset_at)) ?_
    exact Y.iret dX7_removeScout_52 rfl (by unfold OUTM oRemS; rw [if_pos p1]; exact ⟨rfl, hR1.done (fun a ha => (h9f a ha).trans (by first | rfl | rw [mset_row ha, mset_row ha, mset_row ha, mset_row ha, mset_row ha] | rw [mset_row ha, mset_row ha] | rw [mset_row ha, mw_no ha] | rw [mw_no ha, mset_row ha])) h9w hf1⟩)
  · skip
    refine X.callV1 (As := [.inl k]) (rest := []) dX7_removeScout_7 mk_X7_120 sh_132 (CX.bf (c_misScout M0 v hv hS k ⟨by omega, by omega⟩) p1) rfl (by decide) rfl (Nat.le_of_ble_eq_true rfl) ?_
    refine X.if_ne (tgt := 16) dX7_removeScout_10 (by decide) (by decide) (fun h => absurd h (by decide)) (fun h2 => ?_)
    refine X.bipush dX7_removeScout_13 (by decide) ?_
    exact Y.iret dX7_removeScout_15 rfl (by unfold OUTM oRemS; rw [if_neg p1]; exact ⟨rfl, hR0, hf0⟩)
set_option maxHeartbeats 4000000 in
set_option maxRecDepth 100000 in
theorem c_mremoveLight (M : Mem) (v : Vw) (z : Int) (H : Int → Vw) (tl : Int) (T : Int → Int) (hR : RM M (v, z, H, tl, T)) (k : Int) (hk : inR k) : CQ mX7_removeLight 8 [.inr (some 132), .inl k] M (OUTM M (oRemL (v, z, H, tl, T) k)) := by
  refine CX.of (by decide +kernel) (Nat.le_of_ble_eq_true rfl) [some (.inr (some 132)), some (.inl k)] rfl ?_
  refine X.aload_n dX7_removeLight_0 rfl ?_
  refine X.iconst dX7_removeLight_1 ?_
  refine X.putI 0 0 rfl dX7_removeLight_2 fi_X7_25 sh_132 rfl rfl ?_
  have hR0 : RM (mset M 132 0 0) (v, z, H, tl, T) := hR.thrown
  have hf0 : ∀ a, a < 132 → mset M 132 0 0 a = M a := fun a ha => mset_row (by omega)
  generalize mset M 132 0 0 = M0 at hR0 hf0 ⊢
  have hW0 : WF (M0 133) v := hR0.1
  have hv : WA (M0 133) v := hR0.1.wa
  have hw : WM (M0 133) v := hR0.1.ww
  have hS : SI v := hR0.1.2.2
  have hz : M0 132 4 = z := hR0.2.1
  have hz1 : 0 ≤ z ∧ z ≤ 5 := hR0.2.2.1
  have htl : M0 132 6 = tl := hR0.2.2.2.2.1
  have htb : 0 ≤ tl ∧ tl ≤ 120 := hR0.2.2.2.2.2.1
  have n0 := hS.n0
  have n1 := hS.n1
  have n2 := hS.n2
  refine X.aload_n dX7_removeLight_5 rfl ?_
  refine X.iload_n dX7_removeLight_6 rfl ?_
  by_cases p1 : 0 ≤ k ∧ k ≤ v 0 1 - 1
  · skip
    refine X.callV1 (As := [.inl k]) (rest := []) dX7_removeLight_7 mk_X7_130 sh_132 (CX.bt (c_misLight M0 v hv hS k ⟨by omega, by omega⟩) p1) rfl (by decide) rfl (Nat.le_of_ble_eq_true rfl) ?_
    refine X.if_ne (tgt := 16) dX7_removeLight_10 (by decide) (by decide) (fun h1 => ?_) (fun h => absurd h (by decide))
    refine X.aload_n dX7_removeLight_16 rfl ?_
    refine X.callV0 (As := []) (rest := []) dX7_removeLight_17 mk_X7_89 sh_132 (c_act M0 z hz hz1) rfl (by decide) rfl (Nat.le_of_ble_eq_true rfl) ?_
    have hR1 : RM (actM M0 z) (v, imin (z + 1) 5, pushH H z v, tl, T) := hR0.keep
    have hf1 : ∀ a, a < 132 → actM M0 z a = M a := fun a ha => (actM_no (by omega)).trans (hf0 a ha)
    have h13 : actM M0 z 133 = M0 133 := actM_no (by decide)
    generalize actM M0 z = M1 at hR1 hf1 h13 ⊢
    have hW1 : WF (M1 133) v := hR1.1
    have hv1 : WA (M1 133) v := hR1.1.wa
    have hw1 : WM (M1 133) v := hR1.1.ww
    refine X.aload_n dX7_removeLight_20 rfl ?_
    refine X.bipush dX7_removeLight_21 (by decide) ?_
    refine X.aload_n dX7_removeLight_23 rfl ?_
    refine X.getR dX7_removeLight_24 fi_X7_7 sh_132 rfl ?_
    refine X.iconst dX7_removeLight_27 ?_
    refine X.iald (v := v 0 1) dX7_removeLight_28 sh_133 (by decide) (by decide) (ws_0_1 hv1) ?_
    refine X.iload_n dX7_removeLight_29 rfl ?_
    refine X.callV0 (As := [.inl 44, .inl (v 0 1), .inl k]) (rest := []) dX7_removeLight_30 mk_X7_126 sh_132 (c_remove M1 44 (v 0 1) k (by decide) (by omega) (by omega)) rfl (by decide) rfl (Nat.le_of_ble_eq_true rfl) ?_
    refine X.aload_n dX7_removeLight_33 rfl ?_
    refine X.getR dX7_removeLight_34 fi_X7_7 sh_132 rfl ?_
    refine X.iconst dX7_removeLight_37 ?_
    refine X.dup2 dX7_removeLight_38 ?_
    refine X.iald (v := v 0 1) dX7_removeLight_39 sh_133 (by decide) (by decide) (by rw [mw_at, if_neg (by omega)]; exact ws_0_1 hv1) ?_
    refine X.iconst dX7_removeLight_40 ?_
    refine X.isub (c := (v 0 1) - 1) dX7_removeLight_41 rfl ?_
    refine X.iast dX7_removeLight_42 sh_133 (by decide) (by decide) ?_
    refine X.aload_n dX7_removeLight_43 rfl ?_
    refine Y.callV (As := []) (rest := []) dX7_removeLight_44 mk_X7_92 sh_132 (c_mlook (mset (mw M1 133 (44 + 4 * k) (44 + 4 * v 0 1 - 4) (fun i => M1 133 (i + 4))) 133 1 ((v 0 1) - 1)) (dropLV v k) (hW1.dropL (by omega) (fun i => by rw [mset_self, mw_at]))) rfl (by decide) rfl (Nat.le_of_ble_eq_true rfl) (fun r9 M9 h9 => ?_)
    obtain ⟨h90, h9f, h9w⟩ := h9
    subst h90
    refine X.aload_n dX7_removeLight_47 rfl ?_
    refine X.getR dX7_removeLight_48 fi_X7_7 sh_132 rfl ?_
    refine X.iconst dX7_removeLight_51 ?_
    refine X.iald (v := v 0 1 - 1) dX7_removeLight_52 sh_133 (by decide) (by decide) ((ws_0_1 h9w.wa).trans ((congrFun (lookV_lo (by decide)) 1).trans vset_at)) ?_
    exact Y.iret dX7_removeLight_53 rfl (by unfold OUTM oRemL; rw [if_pos p1]; exact ⟨rfl, hR1.done (fun a ha => (h9f a ha).trans (by first | rfl | rw [mset_row ha, mset_row ha, mset_row ha, mset_row ha, mset_row ha] | rw [mset_row ha, mset_row ha] | rw [mset_row ha, mw_no ha] | rw [mw_no ha, mset_row ha])) h9w hf1⟩)
  · skip
    refine X.callV1 (As := [.inl k]) (rest := []) dX7_removeLight_7 mk_X7_130 sh_132 (CX.bf (c_misLight M0 v hv hS k ⟨by omega, by omega⟩) p1) rfl (by decide) rfl (Nat.le_of_ble_eq_true rfl) ?_
    refine X.if_ne (tgt := 16) dX7_removeLight_10 (by decide) (by decide) (fun h => absurd h (by decide)) (fun h2 => ?_)
    refine X.bipush dX7_removeLight_13 (by decide) ?_
    exact Y.iret dX7_removeLight_15 rfl (by unfold OUTM oRemL; rw [if_neg p1]; exact ⟨rfl, hR0, hf0⟩)
set_option maxHeartbeats 4000000 in
set_option maxRecDepth 100000 in
theorem c_msetFogTime (M : Mem) (v : Vw) (z : Int) (H : Int → Vw) (tl : Int) (T : Int → Int) (hR : RM M (v, z, H, tl, T)) (x : Int) (hx : inR x) : CQ mX7_setFogTime 8 [.inr (some 132), .inl x] M (OUTM M (oFog (v, z, H, tl, T) x)) := by
  refine CX.of (by decide +kernel) (Nat.le_of_ble_eq_true rfl) [some (.inr (some 132)), some (.inl x), none, none] rfl ?_
  refine X.aload_n dX7_setFogTime_0 rfl ?_
  refine X.iconst dX7_setFogTime_1 ?_
  refine X.putI 0 0 rfl dX7_setFogTime_2 fi_X7_25 sh_132 rfl rfl ?_
  have hR0 : RM (mset M 132 0 0) (v, z, H, tl, T) := hR.thrown
  have hf0 : ∀ a, a < 132 → mset M 132 0 0 a = M a := fun a ha => mset_row (by omega)
  generalize mset M 132 0 0 = M0 at hR0 hf0 ⊢
  have hW0 : WF (M0 133) v := hR0.1
  have hv : WA (M0 133) v := hR0.1.wa
  have hw : WM (M0 133) v := hR0.1.ww
  have hS : SI v := hR0.1.2.2
  have hz : M0 132 4 = z := hR0.2.1
  have hz1 : 0 ≤ z ∧ z ≤ 5 := hR0.2.2.1
  have htl : M0 132 6 = tl := hR0.2.2.2.2.1
  have htb : 0 ≤ tl ∧ tl ≤ 120 := hR0.2.2.2.2.2.1
  have n0 := hS.n0
  have n1 := hS.n1
  have n2 := hS.n2
  refine X.iload_n dX7_setFogTime_5 rfl ?_
  refine X.iconst dX7_setFogTime_6 ?_
  refine X.bipush dX7_setFogTime_7 (by decide) ?_
  by_cases p1 : 1 ≤ x ∧ x ≤ 99
  · skip
    refine X.callS1 (As := [.inl x, .inl 1, .inl 99]) (rest := []) dX7_setFogTime_9 mk_X7_32 (CX.bt (c_in M0 x 1 99 ⟨by omega, by omega⟩ (by decide) (by decide)) p1) rfl (by decide) rfl (Nat.le_of_ble_eq_true rfl) ?_
    refine X.if_ne (tgt := 18) dX7_setFogTime_12 (by decide) (by decide) (fun h1 => ?_) (fun h => absurd h (by decide))
    refine X.aload_n dX7_setFogTime_18 rfl ?_
    refine X.callV0 (As := []) (rest := []) dX7_setFogTime_19 mk_X7_89 sh_132 (c_act M0 z hz hz1) rfl (by decide) rfl (Nat.le_of_ble_eq_true rfl) ?_
    have hR1 : RM (actM M0 z) (v, imin (z + 1) 5, pushH H z v, tl, T) := hR0.keep
    have hf1 : ∀ a, a < 132 → actM M0 z a = M a := fun a ha => (actM_no (by omega)).trans (hf0 a ha)
    have h13 : actM M0 z 133 = M0 133 := actM_no (by decide)
    generalize actM M0 z = M1 at hR1 hf1 h13 ⊢
    have hW1 : WF (M1 133) v := hR1.1
    have hv1 : WA (M1 133) v := hR1.1.wa
    have hw1 : WM (M1 133) v := hR1.1.ww
    refine X.aload_n dX7_setFogTime_22 rfl ?_
    refine X.getR dX7_setFogTime_23 fi_X7_7 sh_132 rfl ?_
    refine X.iconst dX7_setFogTime_26 ?_
    refine X.iald (v := v 0 2) dX7_setFogTime_27 sh_133 (by decide) (by decide) (ws_0_2 hv1) ?_
    refine X.istore_n (lv2 := [some (.inr (some 132)), some (.inl x), some (.inl (v 0 2)), none]) dX7_setFogTime_28 (Nat.le_of_ble_eq_true rfl) rfl ?_
    refine X.aload_n dX7_setFogTime_29 rfl ?_
    refine X.getR dX7_setFogTime_30 fi_X7_7 sh_132 rfl ?_
    refine X.iconst dX7_setFogTime_33 ?_
    refine X.iload_n dX7_setFogTime_34 rfl ?_
    refine X.iast dX7_setFogTime_35 sh_133 (by decide) (by decide) ?_
    refine X.sipush dX7_setFogTime_36 (by decide) ?_
    refine X.istore_n (lv2 := [some (.inr (some 132)), some (.inl x), some (.inl (v 0 2)), some (.inl 308)]) dX7_setFogTime_39 (Nat.le_of_ble_eq_true rfl) rfl ?_
    have L40 : ∀ k, 308 ≤ k → k ≤ 548 → VQ mX7_setFogTime 8 40 [some (.inr (some 132)), some (.inl x), some (.inl (v 0 2)), some (.inl k)] [] (mw (mset M1 133 2 x) 133 308 k (fun i => imin (M1 133 i) x)) (OUTM M (oFog (v, z, H, tl, T) x)) := by
      refine down_ind 308 548 ?_ ?_
      · skip
        refine X.iload_n dX7_setFogTime_40 rfl ?_
        refine X.sipush dX7_setFogTime_41 (by decide) ?_
        refine X.icmp_ge (tgt := 79) dX7_setFogTime_44 (by decide) ⟨by omega, by omega⟩ (by decide) (fun h2 => ?_) (fun h => by exfalso; omega)
        refine X.aload_n dX7_setFogTime_79 rfl ?_
        refine Y.callV (As := []) (rest := []) dX7_setFogTime_80 mk_X7_92 sh_132 (c_mlook (mw (mset M1 133 2 x) 133 308 548 (fun i => imin (M1 133 i) x)) (limV v x) (hW1.lim p1 (fun i => by rw [mw_at, mset_self]))) rfl (by decide) rfl (Nat.le_of_ble_eq_true rfl) (fun r9 M9 h9 => ?_)
        obtain ⟨h90, h9f, h9w⟩ := h9
        subst h90
        refine X.iload_n dX7_setFogTime_83 rfl ?_
        exact Y.iret dX7_setFogTime_84 rfl (by unfold OUTM oFog; rw [if_pos p1]; exact ⟨rfl, hR1.done (fun a ha => (h9f a ha).trans (by first | rfl | rw [mset_row ha, mset_row ha, mset_row ha, mset_row ha, mset_row ha] | rw [mset_row ha, mset_row ha] | rw [mset_row ha, mw_no ha] | rw [mw_no ha, mset_row ha])) h9w hf1⟩)
      · intro k hk1 hk2 ihk
        have hm0 := memT hR1.1 hk1 hk2
        refine X.iload_n dX7_setFogTime_40 rfl ?_
        refine X.sipush dX7_setFogTime_41 (by decide) ?_
        refine X.icmp_ge (tgt := 79) dX7_setFogTime_44 (by decide) ⟨by omega, by omega⟩ (by decide) (fun h => by exfalso; omega) (fun h3 => ?_)
        refine X.aload_n dX7_setFogTime_47 rfl ?_
        refine X.getR dX7_setFogTime_48 fi_X7_7 sh_132 rfl ?_
        refine X.iload_n dX7_setFogTime_51 rfl ?_
        refine X.aload_n dX7_setFogTime_52 rfl ?_
        refine X.getR dX7_setFogTime_53 fi_X7_7 sh_132 rfl ?_
        refine X.iload_n dX7_setFogTime_56 rfl ?_
        refine X.iald (v := M1 133 k) dX7_setFogTime_57 sh_133 (by decide) (by omega) (by rw [mw_at, if_neg (by omega), mset_ne (by omega)]) ?_
        refine X.iload_n dX7_setFogTime_58 rfl ?_
        refine X.icmp_le (tgt := 66) dX7_setFogTime_59 (by decide) ⟨by omega, by omega⟩ ⟨by omega, by omega⟩ (fun h4 => ?_) (fun h4 => ?_)
        · skip
          refine X.aload_n dX7_setFogTime_66 rfl ?_
          refine X.getR dX7_setFogTime_67 fi_X7_7 sh_132 rfl ?_
          refine X.iload_n dX7_setFogTime_70 rfl ?_
          refine X.iald (v := M1 133 k) dX7_setFogTime_71 sh_133 (by decide) (by omega) (by rw [mw_at, if_neg (by omega), mset_ne (by omega)]) ?_
          refine X.iast dX7_setFogTime_72 sh_133 (by decide) (by omega) ?_
          refine X.iinc (y := k + 1) (lv2 := [some (.inr (some 132)), some (.inl x), some (.inl (v 0 2)), some (.inl (k + 1))]) dX7_setFogTime_73 rfl rfl rfl ?_
          refine X.goto (tgt := 40) dX7_setFogTime_76 (by decide) ?_
          rw [mw_step (f := fun i => imin (M1 133 i) x) (by omega) (by unfold imin; rw [if_neg (by omega)])]
          exact ihk
        · skip
          refine X.iload_n dX7_setFogTime_62 rfl ?_
          refine X.goto (tgt := 72) dX7_setFogTime_63 (by decide) ?_
          refine X.iast dX7_setFogTime_72 sh_133 (by decide) (by omega) ?_
          refine X.iinc (y := k + 1) (lv2 := [some (.inr (some 132)), some (.inl x), some (.inl (v 0 2)), some (.inl (k + 1))]) dX7_setFogTime_73 rfl rfl rfl ?_
          refine X.goto (tgt := 40) dX7_setFogTime_76 (by decide) ?_
          rw [mw_step (f := fun i => imin (M1 133 i) x) (by omega) (by unfold imin; rw [if_pos (by omega)])]
          exact ihk
    have e := L40 308 (by omega) (by omega)
    rw [mw_0 (by omega)] at e
    exact e
  · skip
    refine X.callS1 (As := [.inl x, .inl 1, .inl 99]) (rest := []) dX7_setFogTime_9 mk_X7_32 (CX.bf (c_in M0 x 1 99 ⟨by omega, by omega⟩ (by decide) (by decide)) p1) rfl (by decide) rfl (Nat.le_of_ble_eq_true rfl) ?_
    refine X.if_ne (tgt := 18) dX7_setFogTime_12 (by decide) (by decide) (fun h => absurd h (by decide)) (fun h5 => ?_)
    refine X.bipush dX7_setFogTime_15 (by decide) ?_
    exact Y.iret dX7_setFogTime_17 rfl (by unfold OUTM oFog; rw [if_neg p1]; exact ⟨rfl, hR0, hf0⟩)
set_option maxHeartbeats 4000000 in
set_option maxRecDepth 100000 in
theorem c_mpass (M : Mem) (v : Vw) (z : Int) (H : Int → Vw) (tl : Int) (T : Int → Int) (hR : RM M (v, z, H, tl, T)) (n : Int) (hn : inR n) : CQ mX7_pass 8 [.inr (some 132), .inl n] M (OUTM M (oPass (v, z, H, tl, T) n)) := by
  refine CX.of (by decide +kernel) (Nat.le_of_ble_eq_true rfl) [some (.inr (some 132)), some (.inl n), none, none] rfl ?_
  refine X.aload_n dX7_pass_0 rfl ?_
  refine X.iconst dX7_pass_1 ?_
  refine X.putI 0 0 rfl dX7_pass_2 fi_X7_25 sh_132 rfl rfl ?_
  have hR0 : RM (mset M 132 0 0) (v, z, H, tl, T) := hR.thrown
  have hf0 : ∀ a, a < 132 → mset M 132 0 0 a = M a := fun a ha => mset_row (by omega)
  generalize mset M 132 0 0 = M0 at hR0 hf0 ⊢
  have hW0 : WF (M0 133) v := hR0.1
  have hv : WA (M0 133) v := hR0.1.wa
  have hw : WM (M0 133) v := hR0.1.ww
  have hS : SI v := hR0.1.2.2
  have hz : M0 132 4 = z := hR0.2.1
  have hz1 : 0 ≤ z ∧ z ≤ 5 := hR0.2.2.1
  have htl : M0 132 6 = tl := hR0.2.2.2.2.1
  have htb : 0 ≤ tl ∧ tl ≤ 120 := hR0.2.2.2.2.2.1
  have n0 := hS.n0
  have n1 := hS.n1
  have n2 := hS.n2
  refine X.iload_n dX7_pass_5 rfl ?_
  refine X.iconst dX7_pass_6 ?_
  refine X.bipush dX7_pass_7 (by decide) ?_
  by_cases p1 : 1 ≤ n ∧ n ≤ 99
  · skip
    refine X.callS1 (As := [.inl n, .inl 1, .inl 99]) (rest := []) dX7_pass_9 mk_X7_32 (CX.bt (c_in M0 n 1 99 ⟨by omega, by omega⟩ (by decide) (by decide)) p1) rfl (by decide) rfl (Nat.le_of_ble_eq_true rfl) ?_
    refine X.if_ne (tgt := 18) dX7_pass_12 (by decide) (by decide) (fun h1 => ?_) (fun h => absurd h (by decide))
    refine X.aload_n dX7_pass_18 rfl ?_
    refine X.callV0 (As := []) (rest := []) dX7_pass_19 mk_X7_89 sh_132 (c_act M0 z hz hz1) rfl (by decide) rfl (Nat.le_of_ble_eq_true rfl) ?_
    have hR1 : RM (actM M0 z) (v, imin (z + 1) 5, pushH H z v, tl, T) := hR0.keep
    have hf1 : ∀ a, a < 132 → actM M0 z a = M a := fun a ha => (actM_no (by omega)).trans (hf0 a ha)
    have h13 : actM M0 z 133 = M0 133 := actM_no (by decide)
    generalize actM M0 z = M1 at hR1 hf1 h13 ⊢
    have hW1 : WF (M1 133) v := hR1.1
    have hv1 : WA (M1 133) v := hR1.1.wa
    have hw1 : WM (M1 133) v := hR1.1.ww
    refine X.iconst dX7_pass_22 ?_
    refine X.istore_n (lv2 := [some (.inr (some 132)), some (.inl n), some (.inl 0), none]) dX7_pass_23 (Nat.le_of_ble_eq_true rfl) rfl ?_
    refine X.iconst dX7_pass_24 ?_
    refine X.istore_n (lv2 := [some (.inr (some 132)), some (.inl n), some (.inl 0), some (.inl 0)]) dX7_pass_25 (Nat.le_of_ble_eq_true rfl) rfl ?_
    have L26 : ∀ k, 0 ≤ k → k ≤ n → ∀ acc : Int, ∀ (w : Vw) (M2 : Mem), RM M2 (w, imin (z + 1) 5, pushH H z v, tl, T) → (∀ a, a < 132 → M2 a = M a) → VQ mX7_pass 8 26 [some (.inr (some 132)), some (.inl n), some (.inl acc), some (.inl k)] [] M2 (fun r M' => r = some (.inl (acc + outN (n - k).toNat w)) ∧ RM M' (passN (n - k).toNat w, imin (z + 1) 5, pushH H z v, tl, T) ∧ ∀ a, a < 132 → M' a = M a) := by
      refine down_ind 0 n ?_ ?_
      · skip
        intro acc w M2 hR2 hM2
        refine X.iload_n dX7_pass_26 rfl ?_
        refine X.iload_n dX7_pass_27 rfl ?_
        refine X.icmp_ge (tgt := 44) dX7_pass_28 (by decide) ⟨by omega, by omega⟩ ⟨by omega, by omega⟩ (fun h2 => ?_) (fun h => by exfalso; omega)
        refine X.iload_n dX7_pass_44 rfl ?_
        exact Y.iret dX7_pass_45 rfl (by rw [Int.sub_self]; exact ⟨congrArg (fun q => some (Sum.inl q : AV)) (Int.add_zero _).symm, hR2, hM2⟩)
      · intro k hk1 hk2 ihk
        intro acc w M2 hR2 hM2
        rw [outN_step hk2, passN_step hk2, ← Int.add_assoc]
        refine X.iload_n dX7_pass_26 rfl ?_
        refine X.iload_n dX7_pass_27 rfl ?_
        refine X.icmp_ge (tgt := 44) dX7_pass_28 (by decide) ⟨by omega, by omega⟩ ⟨by omega, by omega⟩ (fun h => by exfalso; omega) (fun h3 => ?_)
        refine X.iload_n dX7_pass_31 rfl ?_
        refine X.aload_n dX7_pass_32 rfl ?_
        refine Y.callV (As := []) (rest := [.inl acc]) dX7_pass_33 mk_X7_133 sh_132 (c_turn M2 w hR2.1) rfl (by decide) rfl (Nat.le_of_ble_eq_true rfl) (fun r9 M9 h9 => ?_)
        obtain ⟨h90, h9f, h9w⟩ := h9
        subst h90
        refine X.iadd (c := acc + (outV w)) dX7_pass_36 rfl ?_
        refine X.istore_n (lv2 := [some (.inr (some 132)), some (.inl n), some (.inl (acc + (outV w))), some (.inl k)]) dX7_pass_37 (Nat.le_of_ble_eq_true rfl) rfl ?_
        refine X.iinc (y := k + 1) (lv2 := [some (.inr (some 132)), some (.inl n), some (.inl (acc + (outV w))), some (.inl (k + 1))]) dX7_pass_38 rfl rfl rfl ?_
        refine X.goto (tgt := 26) dX7_pass_41 (by decide) ?_
        exact ihk (acc + (outV w)) _ _ (hR2.done h9f h9w hM2).1 (hR2.done h9f h9w hM2).2
    have e := L26 0 (by omega) (by omega) 0 v _ hR1 hf1
    rw [Int.sub_zero, Int.zero_add] at e
    unfold OUTM oPass
    rw [if_pos p1]
    exact e
  · skip
    refine X.callS1 (As := [.inl n, .inl 1, .inl 99]) (rest := []) dX7_pass_9 mk_X7_32 (CX.bf (c_in M0 n 1 99 ⟨by omega, by omega⟩ (by decide) (by decide)) p1) rfl (by decide) rfl (Nat.le_of_ble_eq_true rfl) ?_
    refine X.if_ne (tgt := 18) dX7_pass_12 (by decide) (by decide) (fun h => absurd h (by decide)) (fun h4 => ?_)
    refine X.bipush dX7_pass_15 (by decide) ?_
    exact Y.iret dX7_pass_17 rfl (by unfold OUTM oPass; rw [if_neg p1]; exact ⟨rfl, hR0, hf0⟩)
set_option maxHeartbeats 4000000 in
set_option maxRecDepth 100000 in
theorem c_mundo (M : Mem) (v : Vw) (z : Int) (H : Int → Vw) (tl : Int) (T : Int → Int) (hR : RM M (v, z, H, tl, T)) : CQ mX7_undo 8 [.inr (some 132)] M (OUTM M (oUndo (v, z, H, tl, T) )) := by
  refine CX.of (by decide +kernel) (Nat.le_of_ble_eq_true rfl) [some (.inr (some 132)), none] rfl ?_
  refine X.aload_n dX7_undo_0 rfl ?_
  refine X.iconst dX7_undo_1 ?_
  refine X.putI 0 0 rfl dX7_undo_2 fi_X7_25 sh_132 rfl rfl ?_
  have hR0 : RM (mset M 132 0 0) (v, z, H, tl, T) := hR.thrown
  have hf0 : ∀ a, a < 132 → mset M 132 0 0 a = M a := fun a ha => mset_row (by omega)
  generalize mset M 132 0 0 = M0 at hR0 hf0 ⊢
  have hW0 : WF (M0 133) v := hR0.1
  have hv : WA (M0 133) v := hR0.1.wa
  have hw : WM (M0 133) v := hR0.1.ww
  have hS : SI v := hR0.1.2.2
  have hz : M0 132 4 = z := hR0.2.1
  have hz1 : 0 ≤ z ∧ z ≤ 5 := hR0.2.2.1
  have htl : M0 132 6 = tl := hR0.2.2.2.2.1
  have htb : 0 ≤ tl ∧ tl ≤ 120 := hR0.2.2.2.2.2.1
  have n0 := hS.n0
  have n1 := hS.n1
  have n2 := hS.n2
  refine X.aload_n dX7_undo_5 rfl ?_
  refine X.getI (v := z) 4 dX7_undo_6 fi_X7_29 sh_132 rfl hz ?_
  refine X.if_ne (tgt := 15) dX7_undo_9 (by decide) ⟨by omega, by omega⟩ (fun p1 => ?_) (fun p1 => ?_)
  · skip
    refine X.aload_n dX7_undo_15 rfl ?_
    refine X.dup dX7_undo_16 ?_
    refine X.getI (v := z) 4 dX7_undo_17 fi_X7_29 sh_132 rfl hz ?_
    refine X.iconst dX7_undo_20 ?_
    refine X.isub (c := z - 1) dX7_undo_21 rfl ?_
    refine X.putI 4 4 rfl dX7_undo_22 fi_X7_29 sh_132 rfl rfl ?_
    refine X.iconst dX7_undo_25 ?_
    refine X.istore_n (lv2 := [some (.inr (some 132)), some (.inl 0)]) dX7_undo_26 (Nat.le_of_ble_eq_true rfl) rfl ?_
    have L27 : ∀ k, 0 ≤ k → k ≤ 1268 → VQ mX7_undo 8 27 [some (.inr (some 132)), some (.inl k)] [] (mw (mset M0 132 4 (z - 1)) 133 0 k (fun i => M0 135 (1268 * (z - 1) + i))) (OUTM M (oUndo (v, z, H, tl, T) )) := by
      refine down_ind 0 1268 ?_ ?_
      · skip
        refine X.iload_n dX7_undo_27 rfl ?_
        refine X.sipush dX7_undo_28 (by decide) ?_
        refine X.icmp_ge (tgt := 61) dX7_undo_31 (by decide) ⟨by omega, by omega⟩ (by decide) (fun h1 => ?_) (fun h => by exfalso; omega)
        refine X.aload_n dX7_undo_61 rfl ?_
        refine X.getI (v := z - 1) 4 dX7_undo_62 fi_X7_29 sh_132 rfl (by rw [mw_no (by decide)]; exact mset_at) ?_
        exact Y.iret dX7_undo_65 rfl (by unfold OUTM oUndo; rw [if_neg p1]; exact ⟨rfl, hR0.undo (by omega) hf0⟩)
      · intro k hk1 hk2 ihk
        refine X.iload_n dX7_undo_27 rfl ?_
        refine X.sipush dX7_undo_28 (by decide) ?_
        refine X.icmp_ge (tgt := 61) dX7_undo_31 (by decide) ⟨by omega, by omega⟩ (by decide) (fun h => by exfalso; omega) (fun h2 => ?_)
        refine X.aload_n dX7_undo_34 rfl ?_
        refine X.getR dX7_undo_35 fi_X7_7 sh_132 rfl ?_
        refine X.iload_n dX7_undo_38 rfl ?_
        refine X.aload_n dX7_undo_39 rfl ?_
        refine X.getR dX7_undo_40 fi_X7_16 sh_132 rfl ?_
        refine X.sipush dX7_undo_43 (by decide) ?_
        refine X.aload_n dX7_undo_46 rfl ?_
        refine X.getI (v := z - 1) 4 dX7_undo_47 fi_X7_29 sh_132 rfl (by rw [mw_no (by decide)]; exact mset_at) ?_
        refine X.imul (c := 1268 * (z - 1)) dX7_undo_50 rfl ?_
        refine X.iload_n dX7_undo_51 rfl ?_
        refine X.iadd (c := (1268 * (z - 1)) + k) dX7_undo_52 rfl ?_
        refine X.iald (v := M0 135 (1268 * (z - 1) + k)) dX7_undo_53 sh_135 (by decide) (by omega) (by rw [mw_no (by decide), mset_row (by decide)]) ?_
        refine X.iast dX7_undo_54 sh_133 (by decide) (by omega) ?_
        refine X.iinc (y := k + 1) (lv2 := [some (.inr (some 132)), some (.inl (k + 1))]) dX7_undo_55 rfl rfl rfl ?_
        refine X.goto (tgt := 27) dX7_undo_58 (by decide) ?_
        rw [mw_step (f := fun i => M0 135 (1268 * (z - 1) + i)) (by omega) rfl]
        exact ihk
    have e := L27 0 (by omega) (by omega)
    rw [mw_0 (by omega)] at e
    exact e
  · skip
    refine X.bipush dX7_undo_12 (by decide) ?_
    exact Y.iret dX7_undo_14 rfl (by unfold OUTM oUndo; rw [if_pos p1]; exact ⟨rfl, hR0, hf0⟩)
theorem unc_eq {w : Vw} {s : Int} (hs : 0 ≤ s ∧ s ≤ 1) : cnt (fun j => sSees w s j ∧ w (mr s 0) j = 0) 120 0 = uncV w s := by
  have : s = 0 ∨ s = 1 := by omega
  rcases this with rfl | rfl <;> rfl
set_option maxHeartbeats 4000000 in
set_option maxRecDepth 100000 in
theorem c_mstep (M : Mem) (v : Vw) (z : Int) (H : Int → Vw) (tl : Int) (T : Int → Int) (hR : RM M (v, z, H, tl, T)) (k ac dn : Int) (hk : inR k) (hac : inR ac) (hdn : inR dn) : CQ mX7_step 8 [.inr (some 132), .inl k, .inl ac, .inl dn] M (OUTM M (oStep (v, z, H, tl, T) k ac dn)) := by
  refine CX.of (by decide +kernel) (Nat.le_of_ble_eq_true rfl) [some (.inr (some 132)), some (.inl k), some (.inl ac), some (.inl dn), none, none, none, none, none] rfl ?_
  refine X.aload_n dX7_step_0 rfl ?_
  refine X.iconst dX7_step_1 ?_
  refine X.putI 0 0 rfl dX7_step_2 fi_X7_25 sh_132 rfl rfl ?_
  have hR0 : RM (mset M 132 0 0) (v, z, H, tl, T) := hR.thrown
  have hf0 : ∀ a, a < 132 → mset M 132 0 0 a = M a := fun a ha => mset_row (by omega)
  generalize mset M 132 0 0 = M0 at hR0 hf0 ⊢
  have hW0 : WF (M0 133) v := hR0.1
  have hv : WA (M0 133) v := hR0.1.wa
  have hw : WM (M0 133) v := hR0.1.ww
  have hS : SI v := hR0.1.2.2
  have hz : M0 132 4 = z := hR0.2.1
  have hz1 : 0 ≤ z ∧ z ≤ 5 := hR0.2.2.1
  have htl : M0 132 6 = tl := hR0.2.2.2.2.1
  have htb : 0 ≤ tl ∧ tl ≤ 120 := hR0.2.2.2.2.2.1
  have n0 := hS.n0
  have n1 := hS.n1
  have n2 := hS.n2
  refine X.aload_n dX7_step_5 rfl ?_
  refine X.iload_n dX7_step_6 rfl ?_
  by_cases p1 : 0 ≤ k ∧ k ≤ v 0 0 - 1
  · skip
    refine X.callV1 (As := [.inl k]) (rest := []) dX7_step_7 mk_X7_120 sh_132 (CX.bt (c_misScout M0 v hv hS k ⟨by omega, by omega⟩) p1) rfl (by decide) rfl (Nat.le_of_ble_eq_true rfl) ?_
    refine X.if_eq (tgt := 39) dX7_step_10 (by decide) (by decide) (fun h => absurd h (by decide)) (fun h1 => ?_)
    refine X.iload_n dX7_step_13 rfl ?_
    refine X.iconst dX7_step_14 ?_
    refine X.iconst dX7_step_15 ?_
    by_cases p2 : (-1) ≤ ac ∧ ac ≤ 1
    · skip
      refine X.callS1 (As := [.inl ac, .inl (-1), .inl 1]) (rest := []) dX7_step_16 mk_X7_32 (CX.bt (c_in M0 ac (-1) 1 ⟨by omega, by omega⟩ (by decide) (by decide)) p2) rfl (by decide) rfl (Nat.le_of_ble_eq_true rfl) ?_
      refine X.if_eq (tgt := 39) dX7_step_19 (by decide) (by decide) (fun h => absurd h (by decide)) (fun h2 => ?_)
      refine X.iload_n dX7_step_22 rfl ?_
      refine X.iconst dX7_step_23 ?_
      refine X.iconst dX7_step_24 ?_
      by_cases p3 : (-1) ≤ dn ∧ dn ≤ 1
      · skip
        refine X.callS1 (As := [.inl dn, .inl (-1), .inl 1]) (rest := []) dX7_step_25 mk_X7_32 (CX.bt (c_in M0 dn (-1) 1 ⟨by omega, by omega⟩ (by decide) (by decide)) p3) rfl (by decide) rfl (Nat.le_of_ble_eq_true rfl) ?_
        refine X.if_eq (tgt := 39) dX7_step_28 (by decide) (by decide) (fun h => absurd h (by decide)) (fun h3 => ?_)
        refine X.iload_n dX7_step_31 rfl ?_
        refine X.if_ne (tgt := 42) dX7_step_32 (by decide) ⟨by omega, by omega⟩ (fun p4 => ?_) (fun p4 => ?_)
        · skip
          have p6 : ¬ (ac = 0 ∧ dn = 0) := fun q => p4 q.1
          refine X.aload_n dX7_step_42 rfl ?_
          refine X.iload_n dX7_step_43 rfl ?_
          refine X.iconst dX7_step_44 ?_
          have q4 := SI.r4 hS k
          refine X.callV1 (As := [.inl k, .inl 1]) (rest := []) dX7_step_45 mk_X7_43 sh_132 (c_ofScout_1 M0 v hv hS k (by omega)) rfl (by decide) rfl (Nat.le_of_ble_eq_true rfl) ?_
          refine X.iload_n dX7_step_48 rfl ?_
          refine X.iadd (c := (v 4 k % 12) + ac) dX7_step_49 rfl ?_
          refine X.istore (lv2 := [some (.inr (some 132)), some (.inl k), some (.inl ac), some (.inl dn), some (.inl ((v 4 k % 12) + ac)), none, none, none, none]) dX7_step_50 (Nat.le_of_ble_eq_true rfl) rfl ?_
          refine X.aload_n dX7_step_52 rfl ?_
          refine X.iload_n dX7_step_53 rfl ?_
          refine X.iconst dX7_step_54 ?_
          refine X.callV1 (As := [.inl k, .inl 2]) (rest := []) dX7_step_55 mk_X7_43 sh_132 (c_ofScout_2 M0 v hv hS k (by omega)) rfl (by decide) rfl (Nat.le_of_ble_eq_true rfl) ?_
          refine X.iload_n dX7_step_58 rfl ?_
          refine X.iadd (c := (v 4 k / 12) + dn) dX7_step_59 rfl ?_
          refine X.istore (lv2 := [some (.inr (some 132)), some (.inl k), some (.inl ac), some (.inl dn), some (.inl ((v 4 k % 12) + ac)), some (.inl ((v 4 k / 12) + dn)), none, none, none]) dX7_step_60 (Nat.le_of_ble_eq_true rfl) rfl ?_
          refine X.iload dX7_step_62 rfl ?_
          refine X.iload dX7_step_64 rfl ?_
          by_cases p7 : 0 ≤ ((v 4 k % 12) + ac) ∧ ((v 4 k % 12) + ac) ≤ 11 ∧ 0 ≤ ((v 4 k / 12) + dn) ∧ ((v 4 k / 12) + dn) ≤ 9
          · skip
            refine X.callS1 (As := [.inl ((v 4 k % 12) + ac), .inl ((v 4 k / 12) + dn)]) (rest := []) dX7_step_66 mk_X7_95 (CX.bt (c_misCell M0 ((v 4 k % 12) + ac) ((v 4 k / 12) + dn) ⟨by omega, by omega⟩ ⟨by omega, by omega⟩) p7) rfl (by decide) rfl (Nat.le_of_ble_eq_true rfl) ?_
            refine X.if_ne (tgt := 75) dX7_step_69 (by decide) (by decide) (fun h5 => ?_) (fun h => absurd h (by decide))
            refine X.iload dX7_step_75 rfl ?_
            refine X.iload dX7_step_77 rfl ?_
            refine X.callS1 (As := [.inl ((v 4 k % 12) + ac), .inl ((v 4 k / 12) + dn)]) (rest := []) dX7_step_79 mk_X7_46 (c_at M0 ((v 4 k % 12) + ac) ((v 4 k / 12) + dn)) rfl (by decide) rfl (Nat.le_of_ble_eq_true rfl) ?_
            refine X.istore (lv2 := [some (.inr (some 132)), some (.inl k), some (.inl ac), some (.inl dn), some (.inl ((v 4 k % 12) + ac)), some (.inl ((v 4 k / 12) + dn)), some (.inl (((v 4 k / 12) + dn) * 12 + ((v 4 k % 12) + ac))), none, none]) dX7_step_82 (Nat.le_of_ble_eq_true rfl) rfl ?_
            refine X.aload_n dX7_step_84 rfl ?_
            refine X.getR dX7_step_85 fi_X7_7 sh_132 rfl ?_
            refine X.sipush dX7_step_88 (by decide) ?_
            refine X.iload dX7_step_91 rfl ?_
            refine X.iadd (c := 188 + (((v 4 k / 12) + dn) * 12 + ((v 4 k % 12) + ac))) dX7_step_93 rfl ?_
            have q6 := SI.r2 hS (((v 4 k / 12) + dn) * 12 + ((v 4 k % 12) + ac))
            refine X.iald (v := v 2 (((v 4 k / 12) + dn) * 12 + ((v 4 k % 12) + ac))) dX7_step_94 sh_133 (by decide) (by omega) (ws_2 hv (by omega)) ?_
            refine X.iconst dX7_step_95 ?_
            have hi := sIn_range hS (stepC v k ac dn)
            have hi2 : stepC v k ac dn = ((v 4 k / 12) + dn) * 12 + ((v 4 k % 12) + ac) := rfl
            rw [hi2] at hi
            have q1a := iabs_r (a := v 1 (v 4 k) - v 1 (((v 4 k / 12) + dn) * 12 + ((v 4 k % 12) + ac)))
            have q1b := iabs_r (a := v 1 (((v 4 k / 12) + dn) * 12 + ((v 4 k % 12) + ac)) - v 1 (v 4 k))
            refine X.icmp_eq (tgt := 140) dX7_step_96 (by decide) ⟨by omega, by omega⟩ (by decide) (fun q1 => ?_) (fun q1 => ?_)
            · skip
              have p8 : ¬ ((v 2 (stepC v k ac dn) = 0 ∧ sIn v (stepC v k ac dn) = -19) ∧ iabs (v 1 (v 4 k) - v 1 (stepC v k ac dn)) ≤ 2) := by rw [hi2]; omega
              refine X.bipush dX7_step_140 (by decide) ?_
              exact Y.iret dX7_step_142 rfl (by unfold OUTM oStep; rw [if_pos p1, if_pos p2, if_pos p3, if_neg p6, if_pos p7, if_neg p8]; exact ⟨rfl, hR0, hf0⟩)
            · skip
              refine X.aload_n dX7_step_99 rfl ?_
              refine X.iload dX7_step_100 rfl ?_
              refine X.callV1 (As := [.inl (((v 4 k / 12) + dn) * 12 + ((v 4 k % 12) + ac))]) (rest := []) dX7_step_102 mk_X7_83 sh_132 (c_mscoutIn M0 v hv hS (((v 4 k / 12) + dn) * 12 + ((v 4 k % 12) + ac)) ⟨by omega, by omega⟩) rfl (by decide) rfl (Nat.le_of_ble_eq_true rfl) ?_
              refine X.bipush dX7_step_105 (by decide) ?_
              refine X.icmp_ne (tgt := 140) dX7_step_107 (by decide) ⟨by omega, by omega⟩ (by decide) (fun h7 => ?_) (fun h7 => ?_)
              · skip
                have p8 : ¬ ((v 2 (stepC v k ac dn) = 0 ∧ sIn v (stepC v k ac dn) = -19) ∧ iabs (v 1 (v 4 k) - v 1 (stepC v k ac dn)) ≤ 2) := by rw [hi2]; omega
                refine X.bipush dX7_step_140 (by decide) ?_
                exact Y.iret dX7_step_142 rfl (by unfold OUTM oStep; rw [if_pos p1, if_pos p2, if_pos p3, if_neg p6, if_pos p7, if_neg p8]; exact ⟨rfl, hR0, hf0⟩)
              · skip
                refine X.aload_n dX7_step_110 rfl ?_
                refine X.getR dX7_step_111 fi_X7_7 sh_132 rfl ?_
                refine X.bipush dX7_step_114 (by decide) ?_
                refine X.iload dX7_step_116 rfl ?_
                refine X.iadd (c := 68 + (((v 4 k / 12) + dn) * 12 + ((v 4 k % 12) + ac))) dX7_step_118 rfl ?_
                have q8 := SI.r1 hS (((v 4 k / 12) + dn) * 12 + ((v 4 k % 12) + ac))
                refine X.iald (v := v 1 (((v 4 k / 12) + dn) * 12 + ((v 4 k % 12) + ac))) dX7_step_119 sh_133 (by decide) (by omega) (ws_1 hv (by omega)) ?_
                refine X.aload_n dX7_step_120 rfl ?_
                refine X.getR dX7_step_121 fi_X7_7 sh_132 rfl ?_
                refine X.bipush dX7_step_124 (by decide) ?_
                refine X.aload_n dX7_step_126 rfl ?_
                refine X.iload_n dX7_step_127 rfl ?_
                refine X.callV1 (As := [.inl k]) (rest := [.inl 68, .inr (some 133), .inl (v 1 (((v 4 k / 12) + dn) * 12 + ((v 4 k % 12) + ac)))]) dX7_step_128 mk_X7_49 sh_132 (c_cellOf M0 v hv hS k (by omega)) rfl (by decide) rfl (Nat.le_of_ble_eq_true rfl) ?_
                refine X.iadd (c := 68 + (v 4 k)) dX7_step_131 rfl ?_
                have q9 := SI.r1 hS (v 4 k)
                refine X.iald (v := v 1 (v 4 k)) dX7_step_132 sh_133 (by decide) (by omega) (ws_1 hv (by omega)) ?_
                refine X.callS1 (As := [.inl (v 1 (((v 4 k / 12) + dn) * 12 + ((v 4 k % 12) + ac))), .inl (v 1 (v 4 k))]) (rest := []) dX7_step_133 mk_X7_36 (c_apart M0 (v 1 (((v 4 k / 12) + dn) * 12 + ((v 4 k % 12) + ac))) (v 1 (v 4 k)) ⟨by omega, by omega⟩ ⟨by omega, by omega⟩) rfl (by decide) rfl (Nat.le_of_ble_eq_true rfl) ?_
                refine X.iconst dX7_step_136 ?_
                refine X.icmp_le (tgt := 143) dX7_step_137 (by decide) ⟨by omega, by omega⟩ (by decide) (fun h10 => ?_) (fun h10 => ?_)
                · skip
                  have p8 : ((v 2 (stepC v k ac dn) = 0 ∧ sIn v (stepC v k ac dn) = -19) ∧ iabs (v 1 (v 4 k) - v 1 (stepC v k ac dn)) ≤ 2) := by rw [hi2]; omega
                  refine X.aload_n dX7_step_143 rfl ?_
                  refine X.callV0 (As := []) (rest := []) dX7_step_144 mk_X7_89 sh_132 (c_act M0 z hz hz1) rfl (by decide) rfl (Nat.le_of_ble_eq_true rfl) ?_
                  have hR1 : RM (actM M0 z) (v, imin (z + 1) 5, pushH H z v, tl, T) := hR0.keep
                  have hf1 : ∀ a, a < 132 → actM M0 z a = M a := fun a ha => (actM_no (by omega)).trans (hf0 a ha)
                  have h13 : actM M0 z 133 = M0 133 := actM_no (by decide)
                  generalize actM M0 z = M1 at hR1 hf1 h13 ⊢
                  have hW1 : WF (M1 133) v := hR1.1
                  have hv1 : WA (M1 133) v := hR1.1.wa
                  have hw1 : WM (M1 133) v := hR1.1.ww
                  refine X.aload_n dX7_step_147 rfl ?_
                  refine X.getR dX7_step_148 fi_X7_7 sh_132 rfl ?_
                  refine X.iconst dX7_step_151 ?_
                  refine X.iconst dX7_step_152 ?_
                  refine X.iload_n dX7_step_153 rfl ?_
                  refine X.imul (c := 4 * k) dX7_step_154 rfl ?_
                  refine X.iadd (c := 4 + (4 * k)) dX7_step_155 rfl ?_
                  refine X.iconst dX7_step_156 ?_
                  refine X.iadd (c := (4 + (4 * k)) + 1) dX7_step_157 rfl ?_
                  refine X.iload dX7_step_158 rfl ?_
                  refine X.iast dX7_step_160 sh_133 (by decide) (by omega) ?_
                  refine X.aload_n dX7_step_161 rfl ?_
                  refine X.getR dX7_step_162 fi_X7_7 sh_132 rfl ?_
                  refine X.iconst dX7_step_165 ?_
                  refine X.iconst dX7_step_166 ?_
                  refine X.iload_n dX7_step_167 rfl ?_
                  refine X.imul (c := 4 * k) dX7_step_168 rfl ?_
                  refine X.iadd (c := 4 + (4 * k)) dX7_step_169 rfl ?_
                  refine X.iconst dX7_step_170 ?_
                  refine X.iadd (c := (4 + (4 * k)) + 2) dX7_step_171 rfl ?_
                  refine X.iload dX7_step_172 rfl ?_
                  refine X.iast dX7_step_174 sh_133 (by decide) (by omega) ?_
                  have hW : WF (mset (mset M1 133 ((4 + (4 * k)) + 1) ((v 4 k % 12) + ac)) 133 ((4 + (4 * k)) + 2) ((v 4 k / 12) + dn) 133) (vset v 4 k (stepC v k ac dn)) := hW1.move (by omega) (by omega) (by omega) p8.1.1 p8.1.2 (fun i => by rw [mset_self, mset_self])
                  have hs3 := hS.r3 k
                  refine X.aload_n dX7_step_175 rfl ?_
                  refine X.iload_n dX7_step_176 rfl ?_
                  refine X.iconst dX7_step_177 ?_
                  refine X.callV1 (As := [.inl k, .inl 0]) (rest := []) dX7_step_178 mk_X7_43 sh_132 (show CX mX7_ofScout 0 [.inr (some 132), .inl k, .inl 0] (mset (mset M1 133 ((4 + (4 * k)) + 1) ((v 4 k % 12) + ac)) 133 ((4 + (4 * k)) + 2) ((v 4 k / 12) + dn)) (some (.inl (v 3 k))) (mset (mset M1 133 ((4 + (4 * k)) + 1) ((v 4 k % 12) + ac)) 133 ((4 + (4 * k)) + 2) ((v 4 k / 12) + dn)) from c_ofScout_0 (mset (mset M1 133 ((4 + (4 * k)) + 1) ((v 4 k % 12) + ac)) 133 ((4 + (4 * k)) + 2) ((v 4 k / 12) + dn)) (vset v 4 k (stepC v k ac dn)) hW.wa hW.2.2 k (show 0 ≤ k ∧ k < v 0 0 by omega)) rfl (by decide) rfl (Nat.le_of_ble_eq_true rfl) ?_
                  refine X.istore (lv2 := [some (.inr (some 132)), some (.inl k), some (.inl ac), some (.inl dn), some (.inl ((v 4 k % 12) + ac)), some (.inl ((v 4 k / 12) + dn)), some (.inl (((v 4 k / 12) + dn) * 12 + ((v 4 k % 12) + ac))), some (.inl (v 3 k)), none]) dX7_step_181 (Nat.le_of_ble_eq_true rfl) rfl ?_
                  refine X.aload_n dX7_step_183 rfl ?_
                  refine X.iload dX7_step_184 rfl ?_
                  refine X.callV1 (As := [.inl (v 3 k)]) (rest := []) dX7_step_186 mk_X7_123 sh_132 (c_remembered (mset (mset M1 133 ((4 + (4 * k)) + 1) ((v 4 k % 12) + ac)) 133 ((4 + (4 * k)) + 2) ((v 4 k / 12) + dn)) (vset v 4 k (stepC v k ac dn)) hW.ww hW.2.2 (v 3 k) hs3) rfl (by decide) rfl (Nat.le_of_ble_eq_true rfl) ?_
                  refine X.istore (lv2 := [some (.inr (some 132)), some (.inl k), some (.inl ac), some (.inl dn), some (.inl ((v 4 k % 12) + ac)), some (.inl ((v 4 k / 12) + dn)), some (.inl (((v 4 k / 12) + dn) * 12 + ((v 4 k % 12) + ac))), some (.inl (v 3 k)), some (.inl (cnt (fun j => 0 < (vset v 4 k (stepC v k ac dn)) (mr (v 3 k) 0) j) 120 0))]) dX7_step_189 (Nat.le_of_ble_eq_true rfl) rfl ?_
                  refine X.aload_n dX7_step_191 rfl ?_
                  refine Y.callV (As := []) (rest := []) dX7_step_192 mk_X7_92 sh_132 (c_mlook (mset (mset M1 133 ((4 + (4 * k)) + 1) ((v 4 k % 12) + ac)) 133 ((4 + (4 * k)) + 2) ((v 4 k / 12) + dn)) (vset v 4 k (stepC v k ac dn)) (hW)) rfl (by decide) rfl (Nat.le_of_ble_eq_true rfl) (fun r9 M9 h9 => ?_)
                  obtain ⟨h90, h9f, h9w⟩ := h9
                  subst h90
                  refine X.aload_n dX7_step_195 rfl ?_
                  refine X.iload dX7_step_196 rfl ?_
                  refine X.callV1 (As := [.inl (v 3 k)]) (rest := []) dX7_step_198 mk_X7_123 sh_132 (c_remembered M9 (lookV (vset v 4 k (stepC v k ac dn))) h9w.ww h9w.2.2 (v 3 k) hs3) rfl (by decide) rfl (Nat.le_of_ble_eq_true rfl) ?_
                  refine X.iload dX7_step_201 rfl ?_
                  refine X.isub (c := cnt (fun j => sSees (vset v 4 k (stepC v k ac dn)) (v 3 k) j ∧ (vset v 4 k (stepC v k ac dn)) (mr (v 3 k) 0) j = 0) 120 0) dX7_step_203 (unc_cnt hW.2.2 hs3 120 0 (by decide) (by decide)) ?_
                  exact Y.iret dX7_step_204 rfl (by unfold OUTM oStep; rw [if_pos p1, if_pos p2, if_pos p3, if_neg p6, if_pos p7, if_pos p8]; exact ⟨congrArg (fun q => some (Sum.inl q : AV)) (unc_eq hs3), hR1.done (fun a ha => (h9f a ha).trans (by rw [mset_row ha, mset_row ha])) h9w hf1⟩)
                · skip
                  have p8 : ¬ ((v 2 (stepC v k ac dn) = 0 ∧ sIn v (stepC v k ac dn) = -19) ∧ iabs (v 1 (v 4 k) - v 1 (stepC v k ac dn)) ≤ 2) := by rw [hi2]; omega
                  refine X.bipush dX7_step_140 (by decide) ?_
                  exact Y.iret dX7_step_142 rfl (by unfold OUTM oStep; rw [if_pos p1, if_pos p2, if_pos p3, if_neg p6, if_pos p7, if_neg p8]; exact ⟨rfl, hR0, hf0⟩)
          · skip
            refine X.callS1 (As := [.inl ((v 4 k % 12) + ac), .inl ((v 4 k / 12) + dn)]) (rest := []) dX7_step_66 mk_X7_95 (CX.bf (c_misCell M0 ((v 4 k % 12) + ac) ((v 4 k / 12) + dn) ⟨by omega, by omega⟩ ⟨by omega, by omega⟩) p7) rfl (by decide) rfl (Nat.le_of_ble_eq_true rfl) ?_
            refine X.if_ne (tgt := 75) dX7_step_69 (by decide) (by decide) (fun h => absurd h (by decide)) (fun h11 => ?_)
            refine X.bipush dX7_step_72 (by decide) ?_
            exact Y.iret dX7_step_74 rfl (by unfold OUTM oStep; rw [if_pos p1, if_pos p2, if_pos p3, if_neg p6, if_neg p7]; exact ⟨rfl, hR0, hf0⟩)
        · skip
          refine X.iload_n dX7_step_35 rfl ?_
          refine X.if_ne (tgt := 42) dX7_step_36 (by decide) ⟨by omega, by omega⟩ (fun p5 => ?_) (fun p5 => ?_)
          · skip
            have p6 : ¬ (ac = 0 ∧ dn = 0) := fun q => p5 q.2
            refine X.aload_n dX7_step_42 rfl ?_
            refine X.iload_n dX7_step_43 rfl ?_
            refine X.iconst dX7_step_44 ?_
            have q12 := SI.r4 hS k
            refine X.callV1 (As := [.inl k, .inl 1]) (rest := []) dX7_step_45 mk_X7_43 sh_132 (c_ofScout_1 M0 v hv hS k (by omega)) rfl (by decide) rfl (Nat.le_of_ble_eq_true rfl) ?_
            refine X.iload_n dX7_step_48 rfl ?_
            refine X.iadd (c := (v 4 k % 12) + ac) dX7_step_49 rfl ?_
            refine X.istore (lv2 := [some (.inr (some 132)), some (.inl k), some (.inl ac), some (.inl dn), some (.inl ((v 4 k % 12) + ac)), none, none, none, none]) dX7_step_50 (Nat.le_of_ble_eq_true rfl) rfl ?_
            refine X.aload_n dX7_step_52 rfl ?_
            refine X.iload_n dX7_step_53 rfl ?_
            refine X.iconst dX7_step_54 ?_
            refine X.callV1 (As := [.inl k, .inl 2]) (rest := []) dX7_step_55 mk_X7_43 sh_132 (c_ofScout_2 M0 v hv hS k (by omega)) rfl (by decide) rfl (Nat.le_of_ble_eq_true rfl) ?_
            refine X.iload_n dX7_step_58 rfl ?_
            refine X.iadd (c := (v 4 k / 12) + dn) dX7_step_59 rfl ?_
            refine X.istore (lv2 := [some (.inr (some 132)), some (.inl k), some (.inl ac), some (.inl dn), some (.inl ((v 4 k % 12) + ac)), some (.inl ((v 4 k / 12) + dn)), none, none, none]) dX7_step_60 (Nat.le_of_ble_eq_true rfl) rfl ?_
            refine X.iload dX7_step_62 rfl ?_
            refine X.iload dX7_step_64 rfl ?_
            by_cases p7 : 0 ≤ ((v 4 k % 12) + ac) ∧ ((v 4 k % 12) + ac) ≤ 11 ∧ 0 ≤ ((v 4 k / 12) + dn) ∧ ((v 4 k / 12) + dn) ≤ 9
            · skip
              refine X.callS1 (As := [.inl ((v 4 k % 12) + ac), .inl ((v 4 k / 12) + dn)]) (rest := []) dX7_step_66 mk_X7_95 (CX.bt (c_misCell M0 ((v 4 k % 12) + ac) ((v 4 k / 12) + dn) ⟨by omega, by omega⟩ ⟨by omega, by omega⟩) p7) rfl (by decide) rfl (Nat.le_of_ble_eq_true rfl) ?_
              refine X.if_ne (tgt := 75) dX7_step_69 (by decide) (by decide) (fun h13 => ?_) (fun h => absurd h (by decide))
              refine X.iload dX7_step_75 rfl ?_
              refine X.iload dX7_step_77 rfl ?_
              refine X.callS1 (As := [.inl ((v 4 k % 12) + ac), .inl ((v 4 k / 12) + dn)]) (rest := []) dX7_step_79 mk_X7_46 (c_at M0 ((v 4 k % 12) + ac) ((v 4 k / 12) + dn)) rfl (by decide) rfl (Nat.le_of_ble_eq_true rfl) ?_
              refine X.istore (lv2 := [some (.inr (some 132)), some (.inl k), some (.inl ac), some (.inl dn), some (.inl ((v 4 k % 12) + ac)), some (.inl ((v 4 k / 12) + dn)), some (.inl (((v 4 k / 12) + dn) * 12 + ((v 4 k % 12) + ac))), none, none]) dX7_step_82 (Nat.le_of_ble_eq_true rfl) rfl ?_
              refine X.aload_n dX7_step_84 rfl ?_
              refine X.getR dX7_step_85 fi_X7_7 sh_132 rfl ?_
              refine X.sipush dX7_step_88 (by decide) ?_
              refine X.iload dX7_step_91 rfl ?_
              refine X.iadd (c := 188 + (((v 4 k / 12) + dn) * 12 + ((v 4 k % 12) + ac))) dX7_step_93 rfl ?_
              have q14 := SI.r2 hS (((v 4 k / 12) + dn) * 12 + ((v 4 k % 12) + ac))
              refine X.iald (v := v 2 (((v 4 k / 12) + dn) * 12 + ((v 4 k % 12) + ac))) dX7_step_94 sh_133 (by decide) (by omega) (ws_2 hv (by omega)) ?_
              refine X.iconst dX7_step_95 ?_
              have hi := sIn_range hS (stepC v k ac dn)
              have hi2 : stepC v k ac dn = ((v 4 k / 12) + dn) * 12 + ((v 4 k % 12) + ac) := rfl
              rw [hi2] at hi
              have q1a := iabs_r (a := v 1 (v 4 k) - v 1 (((v 4 k / 12) + dn) * 12 + ((v 4 k % 12) + ac)))
              have q1b := iabs_r (a := v 1 (((v 4 k / 12) + dn) * 12 + ((v 4 k % 12) + ac)) - v 1 (v 4 k))
              refine X.icmp_eq (tgt := 140) dX7_step_96 (by decide) ⟨by omega, by omega⟩ (by decide) (fun q1 => ?_) (fun q1 => ?_)
              · skip
                have p8 : ¬ ((v 2 (stepC v k ac dn) = 0 ∧ sIn v (stepC v k ac dn) = -19) ∧ iabs (v 1 (v 4 k) - v 1 (stepC v k ac dn)) ≤ 2) := by rw [hi2]; omega
                refine X.bipush dX7_step_140 (by decide) ?_
                exact Y.iret dX7_step_142 rfl (by unfold OUTM oStep; rw [if_pos p1, if_pos p2, if_pos p3, if_neg p6, if_pos p7, if_neg p8]; exact ⟨rfl, hR0, hf0⟩)
              · skip
                refine X.aload_n dX7_step_99 rfl ?_
                refine X.iload dX7_step_100 rfl ?_
                refine X.callV1 (As := [.inl (((v 4 k / 12) + dn) * 12 + ((v 4 k % 12) + ac))]) (rest := []) dX7_step_102 mk_X7_83 sh_132 (c_mscoutIn M0 v hv hS (((v 4 k / 12) + dn) * 12 + ((v 4 k % 12) + ac)) ⟨by omega, by omega⟩) rfl (by decide) rfl (Nat.le_of_ble_eq_true rfl) ?_
                refine X.bipush dX7_step_105 (by decide) ?_
                refine X.icmp_ne (tgt := 140) dX7_step_107 (by decide) ⟨by omega, by omega⟩ (by decide) (fun h15 => ?_) (fun h15 => ?_)
                · skip
                  have p8 : ¬ ((v 2 (stepC v k ac dn) = 0 ∧ sIn v (stepC v k ac dn) = -19) ∧ iabs (v 1 (v 4 k) - v 1 (stepC v k ac dn)) ≤ 2) := by rw [hi2]; omega
                  refine X.bipush dX7_step_140 (by decide) ?_
                  exact Y.iret dX7_step_142 rfl (by unfold OUTM oStep; rw [if_pos p1, if_pos p2, if_pos p3, if_neg p6, if_pos p7, if_neg p8]; exact ⟨rfl, hR0, hf0⟩)
                · skip
                  refine X.aload_n dX7_step_110 rfl ?_
                  refine X.getR dX7_step_111 fi_X7_7 sh_132 rfl ?_
                  refine X.bipush dX7_step_114 (by decide) ?_
                  refine X.iload dX7_step_116 rfl ?_
                  refine X.iadd (c := 68 + (((v 4 k / 12) + dn) * 12 + ((v 4 k % 12) + ac))) dX7_step_118 rfl ?_
                  have q16 := SI.r1 hS (((v 4 k / 12) + dn) * 12 + ((v 4 k % 12) + ac))
                  refine X.iald (v := v 1 (((v 4 k / 12) + dn) * 12 + ((v 4 k % 12) + ac))) dX7_step_119 sh_133 (by decide) (by omega) (ws_1 hv (by omega)) ?_
                  refine X.aload_n dX7_step_120 rfl ?_
                  refine X.getR dX7_step_121 fi_X7_7 sh_132 rfl ?_
                  refine X.bipush dX7_step_124 (by decide) ?_
                  refine X.aload_n dX7_step_126 rfl ?_
                  refine X.iload_n dX7_step_127 rfl ?_
                  refine X.callV1 (As := [.inl k]) (rest := [.inl 68, .inr (some 133), .inl (v 1 (((v 4 k / 12) + dn) * 12 + ((v 4 k % 12) + ac)))]) dX7_step_128 mk_X7_49 sh_132 (c_cellOf M0 v hv hS k (by omega)) rfl (by decide) rfl (Nat.le_of_ble_eq_true rfl) ?_
                  refine X.iadd (c := 68 + (v 4 k)) dX7_step_131 rfl ?_
                  have q17 := SI.r1 hS (v 4 k)
                  refine X.iald (v := v 1 (v 4 k)) dX7_step_132 sh_133 (by decide) (by omega) (ws_1 hv (by omega)) ?_
                  refine X.callS1 (As := [.inl (v 1 (((v 4 k / 12) + dn) * 12 + ((v 4 k % 12) + ac))), .inl (v 1 (v 4 k))]) (rest := []) dX7_step_133 mk_X7_36 (c_apart M0 (v 1 (((v 4 k / 12) + dn) * 12 + ((v 4 k % 12) + ac))) (v 1 (v 4 k)) ⟨by omega, by omega⟩ ⟨by omega, by omega⟩) rfl (by decide) rfl (Nat.le_of_ble_eq_true rfl) ?_
                  refine X.iconst dX7_step_136 ?_
                  refine X.icmp_le (tgt := 143) dX7_step_137 (by decide) ⟨by omega, by omega⟩ (by decide) (fun h18 => ?_) (fun h18 => ?_)
                  · skip
                    have p8 : ((v 2 (stepC v k ac dn) = 0 ∧ sIn v (stepC v k ac dn) = -19) ∧ iabs (v 1 (v 4 k) - v 1 (stepC v k ac dn)) ≤ 2) := by rw [hi2]; omega
                    refine X.aload_n dX7_step_143 rfl ?_
                    refine X.callV0 (As := []) (rest := []) dX7_step_144 mk_X7_89 sh_132 (c_act M0 z hz hz1) rfl (by decide) rfl (Nat.le_of_ble_eq_true rfl) ?_
                    have hR1 : RM (actM M0 z) (v, imin (z + 1) 5, pushH H z v, tl, T) := hR0.keep
                    have hf1 : ∀ a, a < 132 → actM M0 z a = M a := fun a ha => (actM_no (by omega)).trans (hf0 a ha)
                    have h13 : actM M0 z 133 = M0 133 := actM_no (by decide)
                    generalize actM M0 z = M1 at hR1 hf1 h13 ⊢
                    have hW1 : WF (M1 133) v := hR1.1
                    have hv1 : WA (M1 133) v := hR1.1.wa
                    have hw1 : WM (M1 133) v := hR1.1.ww
                    refine X.aload_n dX7_step_147 rfl ?_
                    refine X.getR dX7_step_148 fi_X7_7 sh_132 rfl ?_
                    refine X.iconst dX7_step_151 ?_
                    refine X.iconst dX7_step_152 ?_
                    refine X.iload_n dX7_step_153 rfl ?_
                    refine X.imul (c := 4 * k) dX7_step_154 rfl ?_
                    refine X.iadd (c := 4 + (4 * k)) dX7_step_155 rfl ?_
                    refine X.iconst dX7_step_156 ?_
                    refine X.iadd (c := (4 + (4 * k)) + 1) dX7_step_157 rfl ?_
                    refine X.iload dX7_step_158 rfl ?_
                    refine X.iast dX7_step_160 sh_133 (by decide) (by omega) ?_
                    refine X.aload_n dX7_step_161 rfl ?_
                    refine X.getR dX7_step_162 fi_X7_7 sh_132 rfl ?_
                    refine X.iconst dX7_step_165 ?_
                    refine X.iconst dX7_step_166 ?_
                    refine X.iload_n dX7_step_167 rfl ?_
                    refine X.imul (c := 4 * k) dX7_step_168 rfl ?_
                    refine X.iadd (c := 4 + (4 * k)) dX7_step_169 rfl ?_
                    refine X.iconst dX7_step_170 ?_
                    refine X.iadd (c := (4 + (4 * k)) + 2) dX7_step_171 rfl ?_
                    refine X.iload dX7_step_172 rfl ?_
                    refine X.iast dX7_step_174 sh_133 (by decide) (by omega) ?_
                    have hW : WF (mset (mset M1 133 ((4 + (4 * k)) + 1) ((v 4 k % 12) + ac)) 133 ((4 + (4 * k)) + 2) ((v 4 k / 12) + dn) 133) (vset v 4 k (stepC v k ac dn)) := hW1.move (by omega) (by omega) (by omega) p8.1.1 p8.1.2 (fun i => by rw [mset_self, mset_self])
                    have hs3 := hS.r3 k
                    refine X.aload_n dX7_step_175 rfl ?_
                    refine X.iload_n dX7_step_176 rfl ?_
                    refine X.iconst dX7_step_177 ?_
                    refine X.callV1 (As := [.inl k, .inl 0]) (rest := []) dX7_step_178 mk_X7_43 sh_132 (show CX mX7_ofScout 0 [.inr (some 132), .inl k, .inl 0] (mset (mset M1 133 ((4 + (4 * k)) + 1) ((v 4 k % 12) + ac)) 133 ((4 + (4 * k)) + 2) ((v 4 k / 12) + dn)) (some (.inl (v 3 k))) (mset (mset M1 133 ((4 + (4 * k)) + 1) ((v 4 k % 12) + ac)) 133 ((4 + (4 * k)) + 2) ((v 4 k / 12) + dn)) from c_ofScout_0 (mset (mset M1 133 ((4 + (4 * k)) + 1) ((v 4 k % 12) + ac)) 133 ((4 + (4 * k)) + 2) ((v 4 k / 12) + dn)) (vset v 4 k (stepC v k ac dn)) hW.wa hW.2.2 k (show 0 ≤ k ∧ k < v 0 0 by omega)) rfl (by decide) rfl (Nat.le_of_ble_eq_true rfl) ?_
                    refine X.istore (lv2 := [some (.inr (some 132)), some (.inl k), some (.inl ac), some (.inl dn), some (.inl ((v 4 k % 12) + ac)), some (.inl ((v 4 k / 12) + dn)), some (.inl (((v 4 k / 12) + dn) * 12 + ((v 4 k % 12) + ac))), some (.inl (v 3 k)), none]) dX7_step_181 (Nat.le_of_ble_eq_true rfl) rfl ?_
                    refine X.aload_n dX7_step_183 rfl ?_
                    refine X.iload dX7_step_184 rfl ?_
                    refine X.callV1 (As := [.inl (v 3 k)]) (rest := []) dX7_step_186 mk_X7_123 sh_132 (c_remembered (mset (mset M1 133 ((4 + (4 * k)) + 1) ((v 4 k % 12) + ac)) 133 ((4 + (4 * k)) + 2) ((v 4 k / 12) + dn)) (vset v 4 k (stepC v k ac dn)) hW.ww hW.2.2 (v 3 k) hs3) rfl (by decide) rfl (Nat.le_of_ble_eq_true rfl) ?_
                    refine X.istore (lv2 := [some (.inr (some 132)), some (.inl k), some (.inl ac), some (.inl dn), some (.inl ((v 4 k % 12) + ac)), some (.inl ((v 4 k / 12) + dn)), some (.inl (((v 4 k / 12) + dn) * 12 + ((v 4 k % 12) + ac))), some (.inl (v 3 k)), some (.inl (cnt (fun j => 0 < (vset v 4 k (stepC v k ac dn)) (mr (v 3 k) 0) j) 120 0))]) dX7_step_189 (Nat.le_of_ble_eq_true rfl) rfl ?_
                    refine X.aload_n dX7_step_191 rfl ?_
                    refine Y.callV (As := []) (rest := []) dX7_step_192 mk_X7_92 sh_132 (c_mlook (mset (mset M1 133 ((4 + (4 * k)) + 1) ((v 4 k % 12) + ac)) 133 ((4 + (4 * k)) + 2) ((v 4 k / 12) + dn)) (vset v 4 k (stepC v k ac dn)) (hW)) rfl (by decide) rfl (Nat.le_of_ble_eq_true rfl) (fun r9 M9 h9 => ?_)
                    obtain ⟨h90, h9f, h9w⟩ := h9
                    subst h90
                    refine X.aload_n dX7_step_195 rfl ?_
                    refine X.iload dX7_step_196 rfl ?_
                    refine X.callV1 (As := [.inl (v 3 k)]) (rest := []) dX7_step_198 mk_X7_123 sh_132 (c_remembered M9 (lookV (vset v 4 k (stepC v k ac dn))) h9w.ww h9w.2.2 (v 3 k) hs3) rfl (by decide) rfl (Nat.le_of_ble_eq_true rfl) ?_
                    refine X.iload dX7_step_201 rfl ?_
                    refine X.isub (c := cnt (fun j => sSees (vset v 4 k (stepC v k ac dn)) (v 3 k) j ∧ (vset v 4 k (stepC v k ac dn)) (mr (v 3 k) 0) j = 0) 120 0) dX7_step_203 (unc_cnt hW.2.2 hs3 120 0 (by decide) (by decide)) ?_
                    exact Y.iret dX7_step_204 rfl (by unfold OUTM oStep; rw [if_pos p1, if_pos p2, if_pos p3, if_neg p6, if_pos p7, if_pos p8]; exact ⟨congrArg (fun q => some (Sum.inl q : AV)) (unc_eq hs3), hR1.done (fun a ha => (h9f a ha).trans (by rw [mset_row ha, mset_row ha])) h9w hf1⟩)
                  · skip
                    have p8 : ¬ ((v 2 (stepC v k ac dn) = 0 ∧ sIn v (stepC v k ac dn) = -19) ∧ iabs (v 1 (v 4 k) - v 1 (stepC v k ac dn)) ≤ 2) := by rw [hi2]; omega
                    refine X.bipush dX7_step_140 (by decide) ?_
                    exact Y.iret dX7_step_142 rfl (by unfold OUTM oStep; rw [if_pos p1, if_pos p2, if_pos p3, if_neg p6, if_pos p7, if_neg p8]; exact ⟨rfl, hR0, hf0⟩)
            · skip
              refine X.callS1 (As := [.inl ((v 4 k % 12) + ac), .inl ((v 4 k / 12) + dn)]) (rest := []) dX7_step_66 mk_X7_95 (CX.bf (c_misCell M0 ((v 4 k % 12) + ac) ((v 4 k / 12) + dn) ⟨by omega, by omega⟩ ⟨by omega, by omega⟩) p7) rfl (by decide) rfl (Nat.le_of_ble_eq_true rfl) ?_
              refine X.if_ne (tgt := 75) dX7_step_69 (by decide) (by decide) (fun h => absurd h (by decide)) (fun h19 => ?_)
              refine X.bipush dX7_step_72 (by decide) ?_
              exact Y.iret dX7_step_74 rfl (by unfold OUTM oStep; rw [if_pos p1, if_pos p2, if_pos p3, if_neg p6, if_neg p7]; exact ⟨rfl, hR0, hf0⟩)
          · skip
            have p6 : ac = 0 ∧ dn = 0 := ⟨by omega, by omega⟩
            refine X.bipush dX7_step_39 (by decide) ?_
            exact Y.iret dX7_step_41 rfl (by unfold OUTM oStep; rw [if_pos p1, if_pos p2, if_pos p3, if_pos p6]; exact ⟨rfl, hR0, hf0⟩)
      · skip
        refine X.callS1 (As := [.inl dn, .inl (-1), .inl 1]) (rest := []) dX7_step_25 mk_X7_32 (CX.bf (c_in M0 dn (-1) 1 ⟨by omega, by omega⟩ (by decide) (by decide)) p3) rfl (by decide) rfl (Nat.le_of_ble_eq_true rfl) ?_
        refine X.if_eq (tgt := 39) dX7_step_28 (by decide) (by decide) (fun h20 => ?_) (fun h => absurd h (by decide))
        refine X.bipush dX7_step_39 (by decide) ?_
        exact Y.iret dX7_step_41 rfl (by unfold OUTM oStep; rw [if_pos p1, if_pos p2, if_neg p3]; exact ⟨rfl, hR0, hf0⟩)
    · skip
      refine X.callS1 (As := [.inl ac, .inl (-1), .inl 1]) (rest := []) dX7_step_16 mk_X7_32 (CX.bf (c_in M0 ac (-1) 1 ⟨by omega, by omega⟩ (by decide) (by decide)) p2) rfl (by decide) rfl (Nat.le_of_ble_eq_true rfl) ?_
      refine X.if_eq (tgt := 39) dX7_step_19 (by decide) (by decide) (fun h21 => ?_) (fun h => absurd h (by decide))
      refine X.bipush dX7_step_39 (by decide) ?_
      exact Y.iret dX7_step_41 rfl (by unfold OUTM oStep; rw [if_pos p1, if_neg p2]; exact ⟨rfl, hR0, hf0⟩)
  · skip
    refine X.callV1 (As := [.inl k]) (rest := []) dX7_step_7 mk_X7_120 sh_132 (CX.bf (c_misScout M0 v hv hS k ⟨by omega, by omega⟩) p1) rfl (by decide) rfl (Nat.le_of_ble_eq_true rfl) ?_
    refine X.if_eq (tgt := 39) dX7_step_10 (by decide) (by decide) (fun h22 => ?_) (fun h => absurd h (by decide))
    refine X.bipush dX7_step_39 (by decide) ?_
    exact Y.iret dX7_step_41 rfl (by unfold OUTM oStep; rw [if_neg p1]; exact ⟨rfl, hR0, hf0⟩)
