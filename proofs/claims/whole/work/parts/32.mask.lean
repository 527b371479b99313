set_option maxHeartbeats 4000000 in
set_option maxRecDepth 100000 in
theorem c_mcell (M : Mem) (v : Vw) (z : Int) (H : Int → Vw) (tl : Int) (T : Int → Int) (hR : RM M (v, z, H, tl, T)) (c r u : Int) (hc : inR c) (hr : inR r) (hu : inR u) : CQ mX7_cell 4 [.inr (some 132), .inl c, .inl r, .inl u] M (OUTM M (qCell v c r u, (v, z, H, tl, T))) := by
  refine CX.of (by decide +kernel) (Nat.le_of_ble_eq_true rfl) [some (.inr (some 132)), some (.inl c), some (.inl r), some (.inl u), none] rfl ?_
  refine X.aload_n dX7_cell_0 rfl ?_
  refine X.iconst dX7_cell_1 ?_
  refine X.putI 0 0 rfl dX7_cell_2 fi_X7_25 sh_132 rfl rfl ?_
  have hR0 : RM (mset M 132 0 0) (v, z, H, tl, T) := hR.thrown
  have hf0 : ∀ a, a < 132 → mset M 132 0 0 a = M a := fun a ha => mset_row (by omega)
  generalize mset M 132 0 0 = M0 at hR0 hf0 ⊢
  have hW0 : WF (M0 133) v := hR0.1
  have hv : WA (M0 133) v := hR0.1.wa
  have hw : WM (M0 133) v := hR0.1.ww
  have hS : SI v := hR0.1.2.2
  have hz : M0 132 4 = z := hR0.2.1
  have hz1 : 0 ≤ z ∧ z ≤ 5 := hR0.2.2.1
  have htl : M0 132 6 = tl := hR0.2.2.2.2.1
  have htb : 0 ≤ tl ∧ tl ≤ 120 := hR0.2.2.2.2.2.1
  have n0 := hS.n0
  have n1 := hS.n1
  have n2 := hS.n2
  refine X.iload_n dX7_cell_5 rfl ?_
  refine X.iload_n dX7_cell_6 rfl ?_
  by_cases p1 : 0 ≤ c ∧ c ≤ 11 ∧ 0 ≤ r ∧ r ≤ 9
  · skip
    refine X.callS1 (As := [.inl c, .inl r]) (rest := []) dX7_cell_7 mk_X7_95 (CX.bt (c_misCell M0 c r ⟨by omega, by omega⟩ ⟨by omega, by omega⟩) p1) rfl (by decide) rfl (Nat.le_of_ble_eq_true rfl) ?_
    refine X.if_eq (tgt := 22) dX7_cell_10 (by decide) (by decide) (fun h => absurd h (by decide)) (fun h1 => ?_)
    refine X.iload_n dX7_cell_13 rfl ?_
    refine X.iconst dX7_cell_14 ?_
    refine X.iconst dX7_cell_15 ?_
    by_cases p2 : 0 ≤ u ∧ u ≤ 3
    · skip
      refine X.callS1 (As := [.inl u, .inl 0, .inl 3]) (rest := []) dX7_cell_16 mk_X7_32 (CX.bt (c_in M0 u 0 3 ⟨by omega, by omega⟩ (by decide) (by decide)) p2) rfl (by decide) rfl (Nat.le_of_ble_eq_true rfl) ?_
      refine X.if_ne (tgt := 25) dX7_cell_19 (by decide) (by decide) (fun h2 => ?_) (fun h => absurd h (by decide))
      refine X.iload_n dX7_cell_25 rfl ?_
      refine X.iload_n dX7_cell_26 rfl ?_
      refine X.callS1 (As := [.inl c, .inl r]) (rest := []) dX7_cell_27 mk_X7_46 (c_at M0 c r) rfl (by decide) rfl (Nat.le_of_ble_eq_true rfl) ?_
      refine X.istore (lv2 := [some (.inr (some 132)), some (.inl c), some (.inl r), some (.inl u), some (.inl (r * 12 + c))]) dX7_cell_30 (Nat.le_of_ble_eq_true rfl) rfl ?_
      refine X.iload_n dX7_cell_32 rfl ?_
      rcases (show u = 0 ∨ u = 1 ∨ u = 2 ∨ u = 3 from by omega) with rfl | rfl | rfl | rfl
      · skip
        refine X.tabIn (tgt := 60) dX7_cell_33 (by decide) (by decide) (by decide) rfl (by decide) ?_
        refine X.aload_n dX7_cell_60 rfl ?_
        refine X.getR dX7_cell_61 fi_X7_7 sh_132 rfl ?_
        refine X.bipush dX7_cell_64 (by decide) ?_
        refine X.iload dX7_cell_66 rfl ?_
        refine X.iadd (c := 68 + (r * 12 + c)) dX7_cell_68 rfl ?_
        have q3 := SI.r1 hS (r * 12 + c)
        refine X.iald (v := v 1 (r * 12 + c)) dX7_cell_69 sh_133 (by decide) (by omega) (ws_1 hv (by omega)) ?_
        exact Y.iret dX7_cell_70 rfl ⟨by show some (Sum.inl _ : AV) = some (Sum.inl _); unfold qCell; rw [if_pos p1, if_pos (by omega)], hR0, hf0⟩
      · skip
        refine X.tabIn (tgt := 71) dX7_cell_33 (by decide) (by decide) (by decide) rfl (by decide) ?_
        refine X.aload_n dX7_cell_71 rfl ?_
        refine X.getR dX7_cell_72 fi_X7_7 sh_132 rfl ?_
        refine X.sipush dX7_cell_75 (by decide) ?_
        refine X.iload dX7_cell_78 rfl ?_
        refine X.iadd (c := 188 + (r * 12 + c)) dX7_cell_80 rfl ?_
        have q4 := SI.r2 hS (r * 12 + c)
        refine X.iald (v := v 2 (r * 12 + c)) dX7_cell_81 sh_133 (by decide) (by omega) (ws_2 hv (by omega)) ?_
        exact Y.iret dX7_cell_82 rfl ⟨by show some (Sum.inl _ : AV) = some (Sum.inl _); unfold qCell; rw [if_pos p1, if_neg (by omega), if_pos (by omega)], hR0, hf0⟩
      · skip
        refine X.tabIn (tgt := 83) dX7_cell_33 (by decide) (by decide) (by decide) rfl (by decide) ?_
        refine X.aload_n dX7_cell_83 rfl ?_
        refine X.iload dX7_cell_84 rfl ?_
        by_cases p3 : lit v (r * 12 + c)
        · skip
          refine X.callV1 (As := [.inl (r * 12 + c)]) (rest := []) dX7_cell_86 mk_X7_66 sh_132 (CX.bt (c_misLit M0 v hv hS (r * 12 + c) (by omega)) p3) rfl (by decide) rfl (Nat.le_of_ble_eq_true rfl) ?_
          refine X.if_eq (tgt := 96) dX7_cell_89 (by decide) (by decide) (fun h => absurd h (by decide)) (fun h5 => ?_)
          refine X.iconst dX7_cell_92 ?_
          refine X.goto (tgt := 97) dX7_cell_93 (by decide) ?_
          exact Y.iret dX7_cell_97 rfl ⟨by show some (Sum.inl _ : AV) = some (Sum.inl _); unfold qCell; rw [if_pos p1, if_neg (by omega), if_neg (by omega), if_pos (by omega)]; rw [bi_t p3], hR0, hf0⟩
        · skip
          refine X.callV1 (As := [.inl (r * 12 + c)]) (rest := []) dX7_cell_86 mk_X7_66 sh_132 (CX.bf (c_misLit M0 v hv hS (r * 12 + c) (by omega)) p3) rfl (by decide) rfl (Nat.le_of_ble_eq_true rfl) ?_
          refine X.if_eq (tgt := 96) dX7_cell_89 (by decide) (by decide) (fun h6 => ?_) (fun h => absurd h (by decide))
          refine X.iconst dX7_cell_96 ?_
          exact Y.iret dX7_cell_97 rfl ⟨by show some (Sum.inl _ : AV) = some (Sum.inl _); unfold qCell; rw [if_pos p1, if_neg (by omega), if_neg (by omega), if_pos (by omega)]; rw [bi_f p3], hR0, hf0⟩
      · skip
        refine X.tabOut (tgt := 98) dX7_cell_33 (by decide) (by decide) (by decide) ?_
        refine X.aload_n dX7_cell_98 rfl ?_
        refine X.iload dX7_cell_99 rfl ?_
        refine X.callV1 (As := [.inl (r * 12 + c)]) (rest := []) dX7_cell_101 mk_X7_83 sh_132 (c_mscoutIn M0 v hv hS (r * 12 + c) ⟨by omega, by omega⟩) rfl (by decide) rfl (Nat.le_of_ble_eq_true rfl) ?_
        exact Y.iret dX7_cell_104 rfl ⟨by show some (Sum.inl _ : AV) = some (Sum.inl _); unfold qCell; rw [if_pos p1, if_neg (by omega), if_neg (by omega), if_neg (by omega), if_pos (by omega)], hR0, hf0⟩
    · skip
      refine X.callS1 (As := [.inl u, .inl 0, .inl 3]) (rest := []) dX7_cell_16 mk_X7_32 (CX.bf (c_in M0 u 0 3 ⟨by omega, by omega⟩ (by decide) (by decide)) p2) rfl (by decide) rfl (Nat.le_of_ble_eq_true rfl) ?_
      refine X.if_ne (tgt := 25) dX7_cell_19 (by decide) (by decide) (fun h => absurd h (by decide)) (fun h7 => ?_)
      refine X.bipush dX7_cell_22 (by decide) ?_
      exact Y.iret dX7_cell_24 rfl ⟨by show some (Sum.inl _ : AV) = some (Sum.inl _); unfold qCell; rw [if_pos p1, if_neg (by omega), if_neg (by omega), if_neg (by omega), if_neg (by omega)], hR0, hf0⟩
  · skip
    refine X.callS1 (As := [.inl c, .inl r]) (rest := []) dX7_cell_7 mk_X7_95 (CX.bf (c_misCell M0 c r ⟨by omega, by omega⟩ ⟨by omega, by omega⟩) p1) rfl (by decide) rfl (Nat.le_of_ble_eq_true rfl) ?_
    refine X.if_eq (tgt := 22) dX7_cell_10 (by decide) (by decide) (fun h8 => ?_) (fun h => absurd h (by decide))
    refine X.bipush dX7_cell_22 (by decide) ?_
    exact Y.iret dX7_cell_24 rfl ⟨by show some (Sum.inl _ : AV) = some (Sum.inl _); unfold qCell; rw [if_neg p1], hR0, hf0⟩
set_option maxHeartbeats 4000000 in
set_option maxRecDepth 100000 in
theorem c_mview (M : Mem) (v : Vw) (z : Int) (H : Int → Vw) (tl : Int) (T : Int → Int) (hR : RM M (v, z, H, tl, T)) (c r c2 r2 : Int) (hc : inR c) (hr : inR r) (hc2 : inR c2) (hr2 : inR r2) : CQ mX7_view 4 [.inr (some 132), .inl c, .inl r, .inl c2, .inl r2] M (OUTM M (qView v c r c2 r2, (v, z, H, tl, T))) := by
  refine CX.of (by decide +kernel) (Nat.le_of_ble_eq_true rfl) [some (.inr (some 132)), some (.inl c), some (.inl r), some (.inl c2), some (.inl r2)] rfl ?_
  refine X.aload_n dX7_view_0 rfl ?_
  refine X.iconst dX7_view_1 ?_
  refine X.putI 0 0 rfl dX7_view_2 fi_X7_25 sh_132 rfl rfl ?_
  have hR0 : RM (mset M 132 0 0) (v, z, H, tl, T) := hR.thrown
  have hf0 : ∀ a, a < 132 → mset M 132 0 0 a = M a := fun a ha => mset_row (by omega)
  generalize mset M 132 0 0 = M0 at hR0 hf0 ⊢
  have hW0 : WF (M0 133) v := hR0.1
  have hv : WA (M0 133) v := hR0.1.wa
  have hw : WM (M0 133) v := hR0.1.ww
  have hS : SI v := hR0.1.2.2
  have hz : M0 132 4 = z := hR0.2.1
  have hz1 : 0 ≤ z ∧ z ≤ 5 := hR0.2.2.1
  have htl : M0 132 6 = tl := hR0.2.2.2.2.1
  have htb : 0 ≤ tl ∧ tl ≤ 120 := hR0.2.2.2.2.2.1
  have n0 := hS.n0
  have n1 := hS.n1
  have n2 := hS.n2
  refine X.iload_n dX7_view_5 rfl ?_
  refine X.iload_n dX7_view_6 rfl ?_
  by_cases p1 : 0 ≤ c ∧ c ≤ 11 ∧ 0 ≤ r ∧ r ≤ 9
  · skip
    refine X.callS1 (As := [.inl c, .inl r]) (rest := []) dX7_view_7 mk_X7_95 (CX.bt (c_misCell M0 c r ⟨by omega, by omega⟩ ⟨by omega, by omega⟩) p1) rfl (by decide) rfl (Nat.le_of_ble_eq_true rfl) ?_
    refine X.if_eq (tgt := 22) dX7_view_10 (by decide) (by decide) (fun h => absurd h (by decide)) (fun h1 => ?_)
    refine X.iload_n dX7_view_13 rfl ?_
    refine X.iload dX7_view_14 rfl ?_
    by_cases p2 : 0 ≤ c2 ∧ c2 ≤ 11 ∧ 0 ≤ r2 ∧ r2 ≤ 9
    · skip
      refine X.callS1 (As := [.inl c2, .inl r2]) (rest := []) dX7_view_16 mk_X7_95 (CX.bt (c_misCell M0 c2 r2 ⟨by omega, by omega⟩ ⟨by omega, by omega⟩) p2) rfl (by decide) rfl (Nat.le_of_ble_eq_true rfl) ?_
      refine X.if_ne (tgt := 25) dX7_view_19 (by decide) (by decide) (fun h2 => ?_) (fun h => absurd h (by decide))
      refine X.aload_n dX7_view_25 rfl ?_
      refine X.iload_n dX7_view_26 rfl ?_
      refine X.iload_n dX7_view_27 rfl ?_
      refine X.callS1 (As := [.inl c, .inl r]) (rest := [.inr (some 132)]) dX7_view_28 mk_X7_46 (c_at M0 c r) rfl (by decide) rfl (Nat.le_of_ble_eq_true rfl) ?_
      refine X.iload_n dX7_view_31 rfl ?_
      refine X.iload dX7_view_32 rfl ?_
      refine X.callS1 (As := [.inl c2, .inl r2]) (rest := [.inl (r * 12 + c), .inr (some 132)]) dX7_view_34 mk_X7_46 (c_at M0 c2 r2) rfl (by decide) rfl (Nat.le_of_ble_eq_true rfl) ?_
      by_cases p3 : free v (r * 12 + c) (r2 * 12 + c2)
      · skip
        refine X.callV1 (As := [.inl (r * 12 + c), .inl (r2 * 12 + c2)]) (rest := []) dX7_view_37 mk_X7_70 sh_132 (CX.bt (c_misFree M0 v hv hS (r * 12 + c) (r2 * 12 + c2) (by omega) (by omega)) p3) rfl (by decide) rfl (Nat.le_of_ble_eq_true rfl) ?_
        refine X.if_eq (tgt := 47) dX7_view_40 (by decide) (by decide) (fun h => absurd h (by decide)) (fun h3 => ?_)
        refine X.iconst dX7_view_43 ?_
        refine X.goto (tgt := 48) dX7_view_44 (by decide) ?_
        exact Y.iret dX7_view_48 rfl ⟨by show some (Sum.inl _ : AV) = some (Sum.inl _); unfold qView; rw [if_pos p1, if_pos p2, bi_t p3], hR0, hf0⟩
      · skip
        refine X.callV1 (As := [.inl (r * 12 + c), .inl (r2 * 12 + c2)]) (rest := []) dX7_view_37 mk_X7_70 sh_132 (CX.bf (c_misFree M0 v hv hS (r * 12 + c) (r2 * 12 + c2) (by omega) (by omega)) p3) rfl (by decide) rfl (Nat.le_of_ble_eq_true rfl) ?_
        refine X.if_eq (tgt := 47) dX7_view_40 (by decide) (by decide) (fun h4 => ?_) (fun h => absurd h (by decide))
        refine X.iconst dX7_view_47 ?_
        exact Y.iret dX7_view_48 rfl ⟨by show some (Sum.inl _ : AV) = some (Sum.inl _); unfold qView; rw [if_pos p1, if_pos p2, bi_f p3], hR0, hf0⟩
    · skip
      refine X.callS1 (As := [.inl c2, .inl r2]) (rest := []) dX7_view_16 mk_X7_95 (CX.bf (c_misCell M0 c2 r2 ⟨by omega, by omega⟩ ⟨by omega, by omega⟩) p2) rfl (by decide) rfl (Nat.le_of_ble_eq_true rfl) ?_
      refine X.if_ne (tgt := 25) dX7_view_19 (by decide) (by decide) (fun h => absurd h (by decide)) (fun h5 => ?_)
      refine X.bipush dX7_view_22 (by decide) ?_
      exact Y.iret dX7_view_24 rfl ⟨by show some (Sum.inl _ : AV) = some (Sum.inl _); unfold qView; rw [if_pos p1, if_neg p2], hR0, hf0⟩
  · skip
    refine X.callS1 (As := [.inl c, .inl r]) (rest := []) dX7_view_7 mk_X7_95 (CX.bf (c_misCell M0 c r ⟨by omega, by omega⟩ ⟨by omega, by omega⟩) p1) rfl (by decide) rfl (Nat.le_of_ble_eq_true rfl) ?_
    refine X.if_eq (tgt := 22) dX7_view_10 (by decide) (by decide) (fun h6 => ?_) (fun h => absurd h (by decide))
    refine X.bipush dX7_view_22 (by decide) ?_
    exact Y.iret dX7_view_24 rfl ⟨by show some (Sum.inl _ : AV) = some (Sum.inl _); unfold qView; rw [if_neg p1], hR0, hf0⟩
set_option maxHeartbeats 4000000 in
set_option maxRecDepth 100000 in
theorem c_mlight (M : Mem) (v : Vw) (z : Int) (H : Int → Vw) (tl : Int) (T : Int → Int) (hR : RM M (v, z, H, tl, T)) (k u : Int) (hk : inR k) (hu : inR u) : CQ mX7_light 4 [.inr (some 132), .inl k, .inl u] M (OUTM M (qLight v k u, (v, z, H, tl, T))) := by
  refine CX.of (by decide +kernel) (Nat.le_of_ble_eq_true rfl) [some (.inr (some 132)), some (.inl k), some (.inl u)] rfl ?_
  refine X.aload_n dX7_light_0 rfl ?_
  refine X.iconst dX7_light_1 ?_
  refine X.putI 0 0 rfl dX7_light_2 fi_X7_25 sh_132 rfl rfl ?_
  have hR0 : RM (mset M 132 0 0) (v, z, H, tl, T) := hR.thrown
  have hf0 : ∀ a, a < 132 → mset M 132 0 0 a = M a := fun a ha => mset_row (by omega)
  generalize mset M 132 0 0 = M0 at hR0 hf0 ⊢
  have hW0 : WF (M0 133) v := hR0.1
  have hv : WA (M0 133) v := hR0.1.wa
  have hw : WM (M0 133) v := hR0.1.ww
  have hS : SI v := hR0.1.2.2
  have hz : M0 132 4 = z := hR0.2.1
  have hz1 : 0 ≤ z ∧ z ≤ 5 := hR0.2.2.1
  have htl : M0 132 6 = tl := hR0.2.2.2.2.1
  have htb : 0 ≤ tl ∧ tl ≤ 120 := hR0.2.2.2.2.2.1
  have n0 := hS.n0
  have n1 := hS.n1
  have n2 := hS.n2
  refine X.aload_n dX7_light_5 rfl ?_
  refine X.iload_n dX7_light_6 rfl ?_
  by_cases p1 : 0 ≤ k ∧ k ≤ v 0 1 - 1
  · skip
    refine X.callV1 (As := [.inl k]) (rest := []) dX7_light_7 mk_X7_130 sh_132 (CX.bt (c_misLight M0 v hv hS k ⟨by omega, by omega⟩) p1) rfl (by decide) rfl (Nat.le_of_ble_eq_true rfl) ?_
    refine X.if_eq (tgt := 31) dX7_light_10 (by decide) (by decide) (fun h => absurd h (by decide)) (fun h1 => ?_)
    refine X.iload_n dX7_light_13 rfl ?_
    refine X.iconst dX7_light_14 ?_
    refine X.iconst dX7_light_15 ?_
    by_cases p2 : 0 ≤ u ∧ u ≤ 3
    · skip
      refine X.callS1 (As := [.inl u, .inl 0, .inl 3]) (rest := []) dX7_light_16 mk_X7_32 (CX.bt (c_in M0 u 0 3 ⟨by omega, by omega⟩ (by decide) (by decide)) p2) rfl (by decide) rfl (Nat.le_of_ble_eq_true rfl) ?_
      refine X.if_eq (tgt := 31) dX7_light_19 (by decide) (by decide) (fun h => absurd h (by decide)) (fun h2 => ?_)
      rcases (show u = 0 ∨ u = 1 ∨ u = 2 ∨ u = 3 from by omega) with rfl | rfl | rfl | rfl
      · skip
        refine X.aload_n dX7_light_22 rfl ?_
        refine X.iload_n dX7_light_23 rfl ?_
        refine X.iload_n dX7_light_24 rfl ?_
        have q3 := SI.r6 hS k
        refine X.callV1 (As := [.inl k, .inl 0]) (rest := []) dX7_light_25 mk_X7_53 sh_132 (c_ofLight_0 M0 v hv hS k (by omega)) rfl (by decide) rfl (Nat.le_of_ble_eq_true rfl) ?_
        refine X.goto (tgt := 33) dX7_light_28 (by decide) ?_
        exact Y.iret dX7_light_33 rfl ⟨by show some (Sum.inl _ : AV) = some (Sum.inl _); unfold qLight; rw [if_pos p1, if_pos (by omega)], hR0, hf0⟩
      · skip
        refine X.aload_n dX7_light_22 rfl ?_
        refine X.iload_n dX7_light_23 rfl ?_
        refine X.iload_n dX7_light_24 rfl ?_
        have q4 := SI.r6 hS k
        refine X.callV1 (As := [.inl k, .inl 1]) (rest := []) dX7_light_25 mk_X7_53 sh_132 (c_ofLight_1 M0 v hv hS k (by omega)) rfl (by decide) rfl (Nat.le_of_ble_eq_true rfl) ?_
        refine X.goto (tgt := 33) dX7_light_28 (by decide) ?_
        exact Y.iret dX7_light_33 rfl ⟨by show some (Sum.inl _ : AV) = some (Sum.inl _); unfold qLight; rw [if_pos p1, if_neg (by omega), if_pos (by omega)], hR0, hf0⟩
      · skip
        refine X.aload_n dX7_light_22 rfl ?_
        refine X.iload_n dX7_light_23 rfl ?_
        refine X.iload_n dX7_light_24 rfl ?_
        have q5 := SI.r7 hS k
        refine X.callV1 (As := [.inl k, .inl 2]) (rest := []) dX7_light_25 mk_X7_53 sh_132 (c_ofLight_2 M0 v hv hS k (by omega)) rfl (by decide) rfl (Nat.le_of_ble_eq_true rfl) ?_
        refine X.goto (tgt := 33) dX7_light_28 (by decide) ?_
        exact Y.iret dX7_light_33 rfl ⟨by show some (Sum.inl _ : AV) = some (Sum.inl _); unfold qLight; rw [if_pos p1, if_neg (by omega), if_neg (by omega), if_pos (by omega)], hR0, hf0⟩
      · skip
        refine X.aload_n dX7_light_22 rfl ?_
        refine X.iload_n dX7_light_23 rfl ?_
        refine X.iload_n dX7_light_24 rfl ?_
        have q6 := SI.r8 hS k
        refine X.callV1 (As := [.inl k, .inl 3]) (rest := []) dX7_light_25 mk_X7_53 sh_132 (c_ofLight_3 M0 v hv hS k (by omega)) rfl (by decide) rfl (Nat.le_of_ble_eq_true rfl) ?_
        refine X.goto (tgt := 33) dX7_light_28 (by decide) ?_
        exact Y.iret dX7_light_33 rfl ⟨by show some (Sum.inl _ : AV) = some (Sum.inl _); unfold qLight; rw [if_pos p1, if_neg (by omega), if_neg (by omega), if_neg (by omega), if_pos (by omega)], hR0, hf0⟩
    · skip
      refine X.callS1 (As := [.inl u, .inl 0, .inl 3]) (rest := []) dX7_light_16 mk_X7_32 (CX.bf (c_in M0 u 0 3 ⟨by omega, by omega⟩ (by decide) (by decide)) p2) rfl (by decide) rfl (Nat.le_of_ble_eq_true rfl) ?_
      refine X.if_eq (tgt := 31) dX7_light_19 (by decide) (by decide) (fun h7 => ?_) (fun h => absurd h (by decide))
      refine X.bipush dX7_light_31 (by decide) ?_
      exact Y.iret dX7_light_33 rfl ⟨by show some (Sum.inl _ : AV) = some (Sum.inl _); unfold qLight; rw [if_pos p1, if_neg (by omega), if_neg (by omega), if_neg (by omega), if_neg (by omega)], hR0, hf0⟩
  · skip
    refine X.callV1 (As := [.inl k]) (rest := []) dX7_light_7 mk_X7_130 sh_132 (CX.bf (c_misLight M0 v hv hS k ⟨by omega, by omega⟩) p1) rfl (by decide) rfl (Nat.le_of_ble_eq_true rfl) ?_
    refine X.if_eq (tgt := 31) dX7_light_10 (by decide) (by decide) (fun h8 => ?_) (fun h => absurd h (by decide))
    refine X.bipush dX7_light_31 (by decide) ?_
    exact Y.iret dX7_light_33 rfl ⟨by show some (Sum.inl _ : AV) = some (Sum.inl _); unfold qLight; rw [if_neg p1], hR0, hf0⟩
set_option maxHeartbeats 4000000 in
set_option maxRecDepth 100000 in
theorem c_mscout (M : Mem) (v : Vw) (z : Int) (H : Int → Vw) (tl : Int) (T : Int → Int) (hR : RM M (v, z, H, tl, T)) (k u : Int) (hk : inR k) (hu : inR u) : CQ mX7_scout 6 [.inr (some 132), .inl k, .inl u] M (OUTM M (qScout v k u, (v, z, H, tl, T))) := by
  refine CX.of (by decide +kernel) (Nat.le_of_ble_eq_true rfl) [some (.inr (some 132)), some (.inl k), some (.inl u)] rfl ?_
  refine X.aload_n dX7_scout_0 rfl ?_
  refine X.iconst dX7_scout_1 ?_
  refine X.putI 0 0 rfl dX7_scout_2 fi_X7_25 sh_132 rfl rfl ?_
  have hR0 : RM (mset M 132 0 0) (v, z, H, tl, T) := hR.thrown
  have hf0 : ∀ a, a < 132 → mset M 132 0 0 a = M a := fun a ha => mset_row (by omega)
  generalize mset M 132 0 0 = M0 at hR0 hf0 ⊢
  have hW0 : WF (M0 133) v := hR0.1
  have hv : WA (M0 133) v := hR0.1.wa
  have hw : WM (M0 133) v := hR0.1.ww
  have hS : SI v := hR0.1.2.2
  have hz : M0 132 4 = z := hR0.2.1
  have hz1 : 0 ≤ z ∧ z ≤ 5 := hR0.2.2.1
  have htl : M0 132 6 = tl := hR0.2.2.2.2.1
  have htb : 0 ≤ tl ∧ tl ≤ 120 := hR0.2.2.2.2.2.1
  have n0 := hS.n0
  have n1 := hS.n1
  have n2 := hS.n2
  refine X.aload_n dX7_scout_5 rfl ?_
  refine X.iload_n dX7_scout_6 rfl ?_
  by_cases p1 : 0 ≤ k ∧ k ≤ v 0 0 - 1
  · skip
    refine X.callV1 (As := [.inl k]) (rest := []) dX7_scout_7 mk_X7_120 sh_132 (CX.bt (c_misScout M0 v hv hS k ⟨by omega, by omega⟩) p1) rfl (by decide) rfl (Nat.le_of_ble_eq_true rfl) ?_
    refine X.if_eq (tgt := 22) dX7_scout_10 (by decide) (by decide) (fun h => absurd h (by decide)) (fun h1 => ?_)
    refine X.iload_n dX7_scout_13 rfl ?_
    refine X.iconst dX7_scout_14 ?_
    refine X.iconst dX7_scout_15 ?_
    by_cases p2 : 0 ≤ u ∧ u ≤ 5
    · skip
      refine X.callS1 (As := [.inl u, .inl 0, .inl 5]) (rest := []) dX7_scout_16 mk_X7_32 (CX.bt (c_in M0 u 0 5 ⟨by omega, by omega⟩ (by decide) (by decide)) p2) rfl (by decide) rfl (Nat.le_of_ble_eq_true rfl) ?_
      refine X.if_ne (tgt := 25) dX7_scout_19 (by decide) (by decide) (fun h2 => ?_) (fun h => absurd h (by decide))
      rcases (show u = 0 ∨ u = 1 ∨ u = 2 ∨ u = 3 ∨ u = 4 ∨ u = 5 from by omega) with rfl | rfl | rfl | rfl | rfl | rfl
      · skip
        refine X.iload_n dX7_scout_25 rfl ?_
        refine X.iconst dX7_scout_26 ?_
        refine X.icmp_ne (tgt := 46) dX7_scout_27 (by decide) (by decide) (by decide) (fun h3 => ?_) (fun h => absurd h (by decide))
        refine X.iload_n dX7_scout_46 rfl ?_
        refine X.iconst dX7_scout_47 ?_
        refine X.icmp_ge (tgt := 60) dX7_scout_48 (by decide) (by decide) (by decide) (fun h => absurd h (by decide)) (fun h4 => ?_)
        refine X.aload_n dX7_scout_51 rfl ?_
        refine X.iload_n dX7_scout_52 rfl ?_
        refine X.iload_n dX7_scout_53 rfl ?_
        have q5 := SI.r3 hS k
        refine X.callV1 (As := [.inl k, .inl 0]) (rest := []) dX7_scout_54 mk_X7_43 sh_132 (c_ofScout_0 M0 v hv hS k (by omega)) rfl (by decide) rfl (Nat.le_of_ble_eq_true rfl) ?_
        refine X.goto (tgt := 85) dX7_scout_57 (by decide) ?_
        exact Y.iret dX7_scout_85 rfl ⟨by show some (Sum.inl _ : AV) = some (Sum.inl _); unfold qScout; rw [if_pos p1, if_pos (by omega)], hR0, hf0⟩
      · skip
        refine X.iload_n dX7_scout_25 rfl ?_
        refine X.iconst dX7_scout_26 ?_
        refine X.icmp_ne (tgt := 46) dX7_scout_27 (by decide) (by decide) (by decide) (fun h6 => ?_) (fun h => absurd h (by decide))
        refine X.iload_n dX7_scout_46 rfl ?_
        refine X.iconst dX7_scout_47 ?_
        refine X.icmp_ge (tgt := 60) dX7_scout_48 (by decide) (by decide) (by decide) (fun h => absurd h (by decide)) (fun h7 => ?_)
        refine X.aload_n dX7_scout_51 rfl ?_
        refine X.iload_n dX7_scout_52 rfl ?_
        refine X.iload_n dX7_scout_53 rfl ?_
        have q8 := SI.r4 hS k
        refine X.callV1 (As := [.inl k, .inl 1]) (rest := []) dX7_scout_54 mk_X7_43 sh_132 (c_ofScout_1 M0 v hv hS k (by omega)) rfl (by decide) rfl (Nat.le_of_ble_eq_true rfl) ?_
        refine X.goto (tgt := 85) dX7_scout_57 (by decide) ?_
        exact Y.iret dX7_scout_85 rfl ⟨by show some (Sum.inl _ : AV) = some (Sum.inl _); unfold qScout; rw [if_pos p1, if_neg (by omega), if_pos (by omega)], hR0, hf0⟩
      · skip
        refine X.iload_n dX7_scout_25 rfl ?_
        refine X.iconst dX7_scout_26 ?_
        refine X.icmp_ne (tgt := 46) dX7_scout_27 (by decide) (by decide) (by decide) (fun h9 => ?_) (fun h => absurd h (by decide))
        refine X.iload_n dX7_scout_46 rfl ?_
        refine X.iconst dX7_scout_47 ?_
        refine X.icmp_ge (tgt := 60) dX7_scout_48 (by decide) (by decide) (by decide) (fun h => absurd h (by decide)) (fun h10 => ?_)
        refine X.aload_n dX7_scout_51 rfl ?_
        refine X.iload_n dX7_scout_52 rfl ?_
        refine X.iload_n dX7_scout_53 rfl ?_
        have q11 := SI.r4 hS k
        refine X.callV1 (As := [.inl k, .inl 2]) (rest := []) dX7_scout_54 mk_X7_43 sh_132 (c_ofScout_2 M0 v hv hS k (by omega)) rfl (by decide) rfl (Nat.le_of_ble_eq_true rfl) ?_
        refine X.goto (tgt := 85) dX7_scout_57 (by decide) ?_
        exact Y.iret dX7_scout_85 rfl ⟨by show some (Sum.inl _ : AV) = some (Sum.inl _); unfold qScout; rw [if_pos p1, if_neg (by omega), if_neg (by omega), if_pos (by omega)], hR0, hf0⟩
      · skip
        refine X.iload_n dX7_scout_25 rfl ?_
        refine X.iconst dX7_scout_26 ?_
        refine X.icmp_ne (tgt := 46) dX7_scout_27 (by decide) (by decide) (by decide) (fun h12 => ?_) (fun h => absurd h (by decide))
        refine X.iload_n dX7_scout_46 rfl ?_
        refine X.iconst dX7_scout_47 ?_
        refine X.icmp_ge (tgt := 60) dX7_scout_48 (by decide) (by decide) (by decide) (fun h => absurd h (by decide)) (fun h13 => ?_)
        refine X.aload_n dX7_scout_51 rfl ?_
        refine X.iload_n dX7_scout_52 rfl ?_
        refine X.iload_n dX7_scout_53 rfl ?_
        have q14 := SI.r5 hS k
        refine X.callV1 (As := [.inl k, .inl 3]) (rest := []) dX7_scout_54 mk_X7_43 sh_132 (c_ofScout_3 M0 v hv hS k (by omega)) rfl (by decide) rfl (Nat.le_of_ble_eq_true rfl) ?_
        refine X.goto (tgt := 85) dX7_scout_57 (by decide) ?_
        exact Y.iret dX7_scout_85 rfl ⟨by show some (Sum.inl _ : AV) = some (Sum.inl _); unfold qScout; rw [if_pos p1, if_neg (by omega), if_neg (by omega), if_neg (by omega), if_pos (by omega)], hR0, hf0⟩
      · skip
        refine X.iload_n dX7_scout_25 rfl ?_
        refine X.iconst dX7_scout_26 ?_
        refine X.icmp_ne (tgt := 46) dX7_scout_27 (by decide) (by decide) (by decide) (fun h => absurd h (by decide)) (fun h15 => ?_)
        refine X.aload_n dX7_scout_30 rfl ?_
        refine X.aload_n dX7_scout_31 rfl ?_
        refine X.iload_n dX7_scout_32 rfl ?_
        have q16 := SI.r4 hS k
        refine X.callV1 (As := [.inl k]) (rest := [.inr (some 132)]) dX7_scout_33 mk_X7_49 sh_132 (c_cellOf M0 v hv hS k (by omega)) rfl (by decide) rfl (Nat.le_of_ble_eq_true rfl) ?_
        refine X.aload_n dX7_scout_36 rfl ?_
        refine X.iload_n dX7_scout_37 rfl ?_
        refine X.iconst dX7_scout_38 ?_
        have q17 := SI.r5 hS k
        refine X.callV1 (As := [.inl k, .inl 3]) (rest := [.inl (v 4 k), .inr (some 132)]) dX7_scout_39 mk_X7_43 sh_132 (c_ofScout_3 M0 v hv hS k (by omega)) rfl (by decide) rfl (Nat.le_of_ble_eq_true rfl) ?_
        refine X.callV1 (As := [.inl (v 4 k), .inl (v 5 k)]) (rest := []) dX7_scout_42 mk_X7_145 sh_132 (c_seenFrom M0 v hv hS (v 4 k) (v 5 k) (by omega) (by omega)) rfl (by decide) rfl (Nat.le_of_ble_eq_true rfl) ?_
        exact Y.iret dX7_scout_45 rfl ⟨by show some (Sum.inl _ : AV) = some (Sum.inl _); unfold qScout; rw [if_pos p1, if_neg (by omega), if_neg (by omega), if_neg (by omega), if_neg (by omega), if_pos (by omega)]; rfl, hR0, hf0⟩
      · skip
        refine X.iload_n dX7_scout_25 rfl ?_
        refine X.iconst dX7_scout_26 ?_
        refine X.icmp_ne (tgt := 46) dX7_scout_27 (by decide) (by decide) (by decide) (fun h18 => ?_) (fun h => absurd h (by decide))
        refine X.iload_n dX7_scout_46 rfl ?_
        refine X.iconst dX7_scout_47 ?_
        refine X.icmp_ge (tgt := 60) dX7_scout_48 (by decide) (by decide) (by decide) (fun h19 => ?_) (fun h => absurd h (by decide))
        refine X.aload_n dX7_scout_60 rfl ?_
        refine X.iconst dX7_scout_61 ?_
        refine X.aload_n dX7_scout_62 rfl ?_
        refine X.iload_n dX7_scout_63 rfl ?_
        refine X.iconst dX7_scout_64 ?_
        have q20 := SI.r3 hS k
        refine X.callV1 (As := [.inl k, .inl 0]) (rest := [.inl 1, .inr (some 132)]) dX7_scout_65 mk_X7_43 sh_132 (c_ofScout_0 M0 v hv hS k (by omega)) rfl (by decide) rfl (Nat.le_of_ble_eq_true rfl) ?_
        refine X.isub (c := 1 - (v 3 k)) dX7_scout_68 rfl ?_
        refine X.aload_n dX7_scout_69 rfl ?_
        refine X.iload_n dX7_scout_70 rfl ?_
        have q21 := SI.r4 hS k
        refine X.callV1 (As := [.inl k]) (rest := [.inl (1 - (v 3 k)), .inr (some 132)]) dX7_scout_71 mk_X7_49 sh_132 (c_cellOf M0 v hv hS k (by omega)) rfl (by decide) rfl (Nat.le_of_ble_eq_true rfl) ?_
        by_cases p3 : sSees v (1 - (v 3 k)) (v 4 k)
        · skip
          refine X.callV1 (As := [.inl (1 - (v 3 k)), .inl (v 4 k)]) (rest := []) dX7_scout_74 mk_X7_80 sh_132 (CX.bt (c_sideSees M0 v hv hS (1 - (v 3 k)) (v 4 k) ⟨by omega, by omega⟩ (by omega)) p3) rfl (by decide) rfl (Nat.le_of_ble_eq_true rfl) ?_
          refine X.if_eq (tgt := 84) dX7_scout_77 (by decide) (by decide) (fun h => absurd h (by decide)) (fun h22 => ?_)
          refine X.iconst dX7_scout_80 ?_
          refine X.goto (tgt := 85) dX7_scout_81 (by decide) ?_
          exact Y.iret dX7_scout_85 rfl ⟨by show some (Sum.inl _ : AV) = some (Sum.inl _); unfold qScout; rw [if_pos p1, if_neg (by omega), if_neg (by omega), if_neg (by omega), if_neg (by omega), if_neg (by omega), if_pos (by omega)]; rw [bi_t p3], hR0, hf0⟩
        · skip
          refine X.callV1 (As := [.inl (1 - (v 3 k)), .inl (v 4 k)]) (rest := []) dX7_scout_74 mk_X7_80 sh_132 (CX.bf (c_sideSees M0 v hv hS (1 - (v 3 k)) (v 4 k) ⟨by omega, by omega⟩ (by omega)) p3) rfl (by decide) rfl (Nat.le_of_ble_eq_true rfl) ?_
          refine X.if_eq (tgt := 84) dX7_scout_77 (by decide) (by decide) (fun h23 => ?_) (fun h => absurd h (by decide))
          refine X.iconst dX7_scout_84 ?_
          exact Y.iret dX7_scout_85 rfl ⟨by show some (Sum.inl _ : AV) = some (Sum.inl _); unfold qScout; rw [if_pos p1, if_neg (by omega), if_neg (by omega), if_neg (by omega), if_neg (by omega), if_neg (by omega), if_pos (by omega)]; rw [bi_f p3], hR0, hf0⟩
    · skip
      refine X.callS1 (As := [.inl u, .inl 0, .inl 5]) (rest := []) dX7_scout_16 mk_X7_32 (CX.bf (c_in M0 u 0 5 ⟨by omega, by omega⟩ (by decide) (by decide)) p2) rfl (by decide) rfl (Nat.le_of_ble_eq_true rfl) ?_
      refine X.if_ne (tgt := 25) dX7_scout_19 (by decide) (by decide) (fun h => absurd h (by decide)) (fun h24 => ?_)
      refine X.bipush dX7_scout_22 (by decide) ?_
      exact Y.iret dX7_scout_24 rfl ⟨by show some (Sum.inl _ : AV) = some (Sum.inl _); unfold qScout; rw [if_pos p1, if_neg (by omega), if_neg (by omega), if_neg (by omega), if_neg (by omega), if_neg (by omega), if_neg (by omega)], hR0, hf0⟩
  · skip
    refine X.callV1 (As := [.inl k]) (rest := []) dX7_scout_7 mk_X7_120 sh_132 (CX.bf (c_misScout M0 v hv hS k ⟨by omega, by omega⟩) p1) rfl (by decide) rfl (Nat.le_of_ble_eq_true rfl) ?_
    refine X.if_eq (tgt := 22) dX7_scout_10 (by decide) (by decide) (fun h25 => ?_) (fun h => absurd h (by decide))
    refine X.bipush dX7_scout_22 (by decide) ?_
    exact Y.iret dX7_scout_24 rfl ⟨by show some (Sum.inl _ : AV) = some (Sum.inl _); unfold qScout; rw [if_neg p1], hR0, hf0⟩
set_option maxHeartbeats 4000000 in
set_option maxRecDepth 100000 in
theorem c_mcount (M : Mem) (v : Vw) (z : Int) (H : Int → Vw) (tl : Int) (T : Int → Int) (hR : RM M (v, z, H, tl, T)) (u : Int) (hu : inR u) : CQ mX7_count 7 [.inr (some 132), .inl u] M (OUTM M (qCount v z tl u, (v, z, H, tl, T))) := by
  refine CX.of (by decide +kernel) (Nat.le_of_ble_eq_true rfl) [some (.inr (some 132)), some (.inl u)] rfl ?_
  refine X.aload_n dX7_count_0 rfl ?_
  refine X.iconst dX7_count_1 ?_
  refine X.putI 0 0 rfl dX7_count_2 fi_X7_25 sh_132 rfl rfl ?_
  have hR0 : RM (mset M 132 0 0) (v, z, H, tl, T) := hR.thrown
  have hf0 : ∀ a, a < 132 → mset M 132 0 0 a = M a := fun a ha => mset_row (by omega)
  generalize mset M 132 0 0 = M0 at hR0 hf0 ⊢
  have hW0 : WF (M0 133) v := hR0.1
  have hv : WA (M0 133) v := hR0.1.wa
  have hw : WM (M0 133) v := hR0.1.ww
  have hS : SI v := hR0.1.2.2
  have hz : M0 132 4 = z := hR0.2.1
  have hz1 : 0 ≤ z ∧ z ≤ 5 := hR0.2.2.1
  have htl : M0 132 6 = tl := hR0.2.2.2.2.1
  have htb : 0 ≤ tl ∧ tl ≤ 120 := hR0.2.2.2.2.2.1
  have n0 := hS.n0
  have n1 := hS.n1
  have n2 := hS.n2
  refine X.iload_n dX7_count_5 rfl ?_
  rcases (show u = 0 ∨ u = 1 ∨ u = 2 ∨ u = 3 ∨ u = 4 ∨ u = 5 ∨ u = 6 ∨ u = 7 ∨ u = 8 ∨ u = 9 ∨ u = 10 ∨ u = 11 ∨ (u < 0 ∨ 11 < u) from by omega) with rfl | rfl | rfl | rfl | rfl | rfl | rfl | rfl | rfl | rfl | rfl | rfl | hout
  · skip
    refine X.tabIn (tgt := 68) dX7_count_6 (by decide) (by decide) (by decide) rfl (by decide) ?_
    refine X.aload_n dX7_count_68 rfl ?_
    refine X.getR dX7_count_69 fi_X7_7 sh_132 rfl ?_
    refine X.iconst dX7_count_72 ?_
    refine X.iald (v := v 0 0) dX7_count_73 sh_133 (by decide) (by decide) (ws_0_0 hv) ?_
    exact Y.iret dX7_count_74 rfl ⟨by show some (Sum.inl _ : AV) = some (Sum.inl _); unfold qCount; rw [if_pos (by omega)], hR0, hf0⟩
  · skip
    refine X.tabIn (tgt := 75) dX7_count_6 (by decide) (by decide) (by decide) rfl (by decide) ?_
    refine X.aload_n dX7_count_75 rfl ?_
    refine X.getR dX7_count_76 fi_X7_7 sh_132 rfl ?_
    refine X.iconst dX7_count_79 ?_
    refine X.iald (v := v 0 1) dX7_count_80 sh_133 (by decide) (by decide) (ws_0_1 hv) ?_
    exact Y.iret dX7_count_81 rfl ⟨by show some (Sum.inl _ : AV) = some (Sum.inl _); unfold qCount; rw [if_neg (by omega), if_pos (by omega)], hR0, hf0⟩
  · skip
    refine X.tabIn (tgt := 82) dX7_count_6 (by decide) (by decide) (by decide) rfl (by decide) ?_
    refine X.aload_n dX7_count_82 rfl ?_
    refine X.callV1 (As := []) (rest := []) dX7_count_83 mk_X7_136 sh_132 (c_burning M0 v hv hS) rfl (by decide) rfl (Nat.le_of_ble_eq_true rfl) ?_
    exact Y.iret dX7_count_86 rfl ⟨by show some (Sum.inl _ : AV) = some (Sum.inl _); unfold qCount; rw [if_neg (by omega), if_neg (by omega), if_pos (by omega)], hR0, hf0⟩
  · skip
    refine X.tabIn (tgt := 87) dX7_count_6 (by decide) (by decide) (by decide) rfl (by decide) ?_
    refine X.aload_n dX7_count_87 rfl ?_
    refine X.callV1 (As := []) (rest := []) dX7_count_88 mk_X7_139 sh_132 (c_mlit M0 v hv hS) rfl (by decide) rfl (Nat.le_of_ble_eq_true rfl) ?_
    exact Y.iret dX7_count_91 rfl ⟨by show some (Sum.inl _ : AV) = some (Sum.inl _); unfold qCount; rw [if_neg (by omega), if_neg (by omega), if_neg (by omega), if_pos (by omega)], hR0, hf0⟩
  · skip
    refine X.tabIn (tgt := 92) dX7_count_6 (by decide) (by decide) (by decide) rfl (by decide) ?_
    refine X.aload_n dX7_count_92 rfl ?_
    refine X.getR dX7_count_93 fi_X7_7 sh_132 rfl ?_
    refine X.iconst dX7_count_96 ?_
    refine X.iald (v := v 0 2) dX7_count_97 sh_133 (by decide) (by decide) (ws_0_2 hv) ?_
    exact Y.iret dX7_count_98 rfl ⟨by show some (Sum.inl _ : AV) = some (Sum.inl _); unfold qCount; rw [if_neg (by omega), if_neg (by omega), if_neg (by omega), if_neg (by omega), if_pos (by omega)], hR0, hf0⟩
  · skip
    refine X.tabIn (tgt := 99) dX7_count_6 (by decide) (by decide) (by decide) rfl (by decide) ?_
    refine X.aload_n dX7_count_99 rfl ?_
    refine X.getR dX7_count_100 fi_X7_7 sh_132 rfl ?_
    refine X.iconst dX7_count_103 ?_
    refine X.iald (v := v 0 3) dX7_count_104 sh_133 (by decide) (by decide) (ws_0_3 hv) ?_
    exact Y.iret dX7_count_105 rfl ⟨by show some (Sum.inl _ : AV) = some (Sum.inl _); unfold qCount; rw [if_neg (by omega), if_neg (by omega), if_neg (by omega), if_neg (by omega), if_neg (by omega), if_pos (by omega)], hR0, hf0⟩
  · skip
    refine X.tabIn (tgt := 106) dX7_count_6 (by decide) (by decide) (by decide) rfl (by decide) ?_
    refine X.aload_n dX7_count_106 rfl ?_
    refine X.iload_n dX7_count_107 rfl ?_
    refine X.bipush dX7_count_108 (by decide) ?_
    refine X.isub (c := 0) dX7_count_110 rfl ?_
    refine X.callV1 (As := [.inl 0]) (rest := []) dX7_count_111 mk_X7_142 sh_132 (c_seenBy M0 v hv hS 0 (by omega)) rfl (by decide) rfl (Nat.le_of_ble_eq_true rfl) ?_
    exact Y.iret dX7_count_114 rfl ⟨by show some (Sum.inl _ : AV) = some (Sum.inl _); unfold qCount; rw [if_neg (by omega), if_neg (by omega), if_neg (by omega), if_neg (by omega), if_neg (by omega), if_neg (by omega), if_pos (by omega)], hR0, hf0⟩
  · skip
    refine X.tabIn (tgt := 106) dX7_count_6 (by decide) (by decide) (by decide) rfl (by decide) ?_
    refine X.aload_n dX7_count_106 rfl ?_
    refine X.iload_n dX7_count_107 rfl ?_
    refine X.bipush dX7_count_108 (by decide) ?_
    refine X.isub (c := 1) dX7_count_110 rfl ?_
    refine X.callV1 (As := [.inl 1]) (rest := []) dX7_count_111 mk_X7_142 sh_132 (c_seenBy M0 v hv hS 1 (by omega)) rfl (by decide) rfl (Nat.le_of_ble_eq_true rfl) ?_
    exact Y.iret dX7_count_114 rfl ⟨by show some (Sum.inl _ : AV) = some (Sum.inl _); unfold qCount; rw [if_neg (by omega), if_neg (by omega), if_neg (by omega), if_neg (by omega), if_neg (by omega), if_neg (by omega), if_neg (by omega), if_pos (by omega)], hR0, hf0⟩
  · skip
    refine X.tabIn (tgt := 115) dX7_count_6 (by decide) (by decide) (by decide) rfl (by decide) ?_
    refine X.aload_n dX7_count_115 rfl ?_
    refine X.iload_n dX7_count_116 rfl ?_
    refine X.bipush dX7_count_117 (by decide) ?_
    refine X.isub (c := 0) dX7_count_119 rfl ?_
    refine X.callV1 (As := [.inl 0]) (rest := []) dX7_count_120 mk_X7_123 sh_132 (c_remembered M0 v hw hS 0 (by omega)) rfl (by decide) rfl (Nat.le_of_ble_eq_true rfl) ?_
    exact Y.iret dX7_count_123 rfl ⟨by show some (Sum.inl _ : AV) = some (Sum.inl _); unfold qCount; rw [if_neg (by omega), if_neg (by omega), if_neg (by omega), if_neg (by omega), if_neg (by omega), if_neg (by omega), if_neg (by omega), if_neg (by omega), if_pos (by omega)]; rfl, hR0, hf0⟩
  · skip
    refine X.tabIn (tgt := 115) dX7_count_6 (by decide) (by decide) (by decide) rfl (by decide) ?_
    refine X.aload_n dX7_count_115 rfl ?_
    refine X.iload_n dX7_count_116 rfl ?_
    refine X.bipush dX7_count_117 (by decide) ?_
    refine X.isub (c := 1) dX7_count_119 rfl ?_
    refine X.callV1 (As := [.inl 1]) (rest := []) dX7_count_120 mk_X7_123 sh_132 (c_remembered M0 v hw hS 1 (by omega)) rfl (by decide) rfl (Nat.le_of_ble_eq_true rfl) ?_
    exact Y.iret dX7_count_123 rfl ⟨by show some (Sum.inl _ : AV) = some (Sum.inl _); unfold qCount; rw [if_neg (by omega), if_neg (by omega), if_neg (by omega), if_neg (by omega), if_neg (by omega), if_neg (by omega), if_neg (by omega), if_neg (by omega), if_neg (by omega), if_pos (by omega)]; rfl, hR0, hf0⟩
  · skip
    refine X.tabIn (tgt := 124) dX7_count_6 (by decide) (by decide) (by decide) rfl (by decide) ?_
    refine X.aload_n dX7_count_124 rfl ?_
    refine X.getI (v := z) 4 dX7_count_125 fi_X7_29 sh_132 rfl hz ?_
    exact Y.iret dX7_count_128 rfl ⟨by show some (Sum.inl _ : AV) = some (Sum.inl _); unfold qCount; rw [if_neg (by omega), if_neg (by omega), if_neg (by omega), if_neg (by omega), if_neg (by omega), if_neg (by omega), if_neg (by omega), if_neg (by omega), if_neg (by omega), if_neg (by omega), if_pos (by omega)], hR0, hf0⟩
  · skip
    refine X.tabIn (tgt := 129) dX7_count_6 (by decide) (by decide) (by decide) rfl (by decide) ?_
    refine X.aload_n dX7_count_129 rfl ?_
    refine X.getI (v := tl) 6 dX7_count_130 fi_X7_101 sh_132 rfl htl ?_
    exact Y.iret dX7_count_133 rfl ⟨by show some (Sum.inl _ : AV) = some (Sum.inl _); unfold qCount; rw [if_neg (by omega), if_neg (by omega), if_neg (by omega), if_neg (by omega), if_neg (by omega), if_neg (by omega), if_neg (by omega), if_neg (by omega), if_neg (by omega), if_neg (by omega), if_neg (by omega), if_pos (by omega)], hR0, hf0⟩
  · skip
    refine X.tabOut (tgt := 134) dX7_count_6 ⟨by omega, by omega⟩ (by omega) (by decide) ?_
    refine X.bipush dX7_count_134 (by decide) ?_
    exact Y.iret dX7_count_136 rfl ⟨by show some (Sum.inl _ : AV) = some (Sum.inl _); unfold qCount; rw [if_neg (by omega), if_neg (by omega), if_neg (by omega), if_neg (by omega), if_neg (by omega), if_neg (by omega), if_neg (by omega), if_neg (by omega), if_neg (by omega), if_neg (by omega), if_neg (by omega), if_neg (by omega)], hR0, hf0⟩
set_option maxHeartbeats 4000000 in
set_option maxRecDepth 100000 in
theorem c_mknown (M : Mem) (v : Vw) (z : Int) (H : Int → Vw) (tl : Int) (T : Int → Int) (hR : RM M (v, z, H, tl, T)) (s c r u : Int) (hs : inR s) (hc : inR c) (hr : inR r) (hu : inR u) : CQ mX7_known 6 [.inr (some 132), .inl s, .inl c, .inl r, .inl u] M (OUTM M (qKnown v s c r u, (v, z, H, tl, T))) := by
  refine CX.of (by decide +kernel) (Nat.le_of_ble_eq_true rfl) [some (.inr (some 132)), some (.inl s), some (.inl c), some (.inl r), some (.inl u), none] rfl ?_
  refine X.aload_n dX7_known_0 rfl ?_
  refine X.iconst dX7_known_1 ?_
  refine X.putI 0 0 rfl dX7_known_2 fi_X7_25 sh_132 rfl rfl ?_
  have hR0 : RM (mset M 132 0 0) (v, z, H, tl, T) := hR.thrown
  have hf0 : ∀ a, a < 132 → mset M 132 0 0 a = M a := fun a ha => mset_row (by omega)
  generalize mset M 132 0 0 = M0 at hR0 hf0 ⊢
  have hW0 : WF (M0 133) v := hR0.1
  have hv : WA (M0 133) v := hR0.1.wa
  have hw : WM (M0 133) v := hR0.1.ww
  have hS : SI v := hR0.1.2.2
  have hz : M0 132 4 = z := hR0.2.1
  have hz1 : 0 ≤ z ∧ z ≤ 5 := hR0.2.2.1
  have htl : M0 132 6 = tl := hR0.2.2.2.2.1
  have htb : 0 ≤ tl ∧ tl ≤ 120 := hR0.2.2.2.2.2.1
  have n0 := hS.n0
  have n1 := hS.n1
  have n2 := hS.n2
  refine X.iload_n dX7_known_5 rfl ?_
  refine X.iconst dX7_known_6 ?_
  refine X.iconst dX7_known_7 ?_
  by_cases p1 : 0 ≤ s ∧ s ≤ 1
  · skip
    refine X.callS1 (As := [.inl s, .inl 0, .inl 1]) (rest := []) dX7_known_8 mk_X7_32 (CX.bt (c_in M0 s 0 1 ⟨by omega, by omega⟩ (by decide) (by decide)) p1) rfl (by decide) rfl (Nat.le_of_ble_eq_true rfl) ?_
    refine X.if_eq (tgt := 32) dX7_known_11 (by decide) (by decide) (fun h => absurd h (by decide)) (fun h1 => ?_)
    refine X.iload_n dX7_known_14 rfl ?_
    refine X.iload_n dX7_known_15 rfl ?_
    by_cases p2 : 0 ≤ c ∧ c ≤ 11 ∧ 0 ≤ r ∧ r ≤ 9
    · skip
      refine X.callS1 (As := [.inl c, .inl r]) (rest := []) dX7_known_16 mk_X7_95 (CX.bt (c_misCell M0 c r ⟨by omega, by omega⟩ ⟨by omega, by omega⟩) p2) rfl (by decide) rfl (Nat.le_of_ble_eq_true rfl) ?_
      refine X.if_eq (tgt := 32) dX7_known_19 (by decide) (by decide) (fun h => absurd h (by decide)) (fun h2 => ?_)
      refine X.iload dX7_known_22 rfl ?_
      refine X.iconst dX7_known_24 ?_
      refine X.iconst dX7_known_25 ?_
      by_cases p3 : 0 ≤ u ∧ u ≤ 4
      · skip
        refine X.callS1 (As := [.inl u, .inl 0, .inl 4]) (rest := []) dX7_known_26 mk_X7_32 (CX.bt (c_in M0 u 0 4 ⟨by omega, by omega⟩ (by decide) (by decide)) p3) rfl (by decide) rfl (Nat.le_of_ble_eq_true rfl) ?_
        refine X.if_ne (tgt := 35) dX7_known_29 (by decide) (by decide) (fun h3 => ?_) (fun h => absurd h (by decide))
        refine X.iload_n dX7_known_35 rfl ?_
        refine X.iload_n dX7_known_36 rfl ?_
        refine X.callS1 (As := [.inl c, .inl r]) (rest := []) dX7_known_37 mk_X7_46 (c_at M0 c r) rfl (by decide) rfl (Nat.le_of_ble_eq_true rfl) ?_
        refine X.istore (lv2 := [some (.inr (some 132)), some (.inl s), some (.inl c), some (.inl r), some (.inl u), some (.inl (r * 12 + c))]) dX7_known_40 (Nat.le_of_ble_eq_true rfl) rfl ?_
        rcases (show u = 0 ∨ u = 1 ∨ u = 2 ∨ u = 3 ∨ u = 4 from by omega) with rfl | rfl | rfl | rfl | rfl
        · skip
          refine X.iload dX7_known_42 rfl ?_
          refine X.iconst dX7_known_44 ?_
          refine X.icmp_ne (tgt := 64) dX7_known_45 (by decide) (by decide) (by decide) (fun h4 => ?_) (fun h => absurd h (by decide))
          refine X.iload dX7_known_64 rfl ?_
          refine X.if_le (tgt := 84) dX7_known_66 (by decide) (by decide) (fun h5 => ?_) (fun h => absurd h (by decide))
          refine X.aload_n dX7_known_84 rfl ?_
          refine X.getR dX7_known_85 fi_X7_7 sh_132 rfl ?_
          refine X.sipush dX7_known_88 (by decide) ?_
          refine X.sipush dX7_known_91 (by decide) ?_
          refine X.iload dX7_known_94 rfl ?_
          refine X.imul (c := 0) dX7_known_96 rfl ?_
          refine X.iadd (c := 308) dX7_known_97 rfl ?_
          refine X.bipush dX7_known_98 (by decide) ?_
          refine X.iload_n dX7_known_100 rfl ?_
          refine X.imul (c := 120 * s) dX7_known_101 rfl ?_
          refine X.iadd (c := 308 + (120 * s)) dX7_known_102 rfl ?_
          refine X.iload dX7_known_103 rfl ?_
          refine X.iadd (c := (308 + (120 * s)) + (r * 12 + c)) dX7_known_105 rfl ?_
          refine X.iald (v := v (mr s 0) (r * 12 + c)) dX7_known_106 sh_133 (by decide) (by omega) (by have e := wm hw (t := 0) (by decide) p1 (show 0 ≤ r * 12 + c ∧ r * 12 + c < 120 by omega); rw [← e]; congr 1) ?_
          exact Y.iret dX7_known_107 rfl ⟨by show some (Sum.inl _ : AV) = some (Sum.inl _); unfold qKnown; rw [if_pos p1, if_pos p2, if_pos (by omega)]; rfl, hR0, hf0⟩
        · skip
          refine X.iload dX7_known_42 rfl ?_
          refine X.iconst dX7_known_44 ?_
          refine X.icmp_ne (tgt := 64) dX7_known_45 (by decide) (by decide) (by decide) (fun h6 => ?_) (fun h => absurd h (by decide))
          refine X.iload dX7_known_64 rfl ?_
          refine X.if_le (tgt := 84) dX7_known_66 (by decide) (by decide) (fun h => absurd h (by decide)) (fun h7 => ?_)
          refine X.aload_n dX7_known_69 rfl ?_
          refine X.iload_n dX7_known_70 rfl ?_
          refine X.iload dX7_known_71 rfl ?_
          refine X.callV1 (As := [.inl s, .inl (r * 12 + c)]) (rest := []) dX7_known_73 mk_X7_86 sh_132 (c_memory M0 v hw s (r * 12 + c) (by omega) (by omega)) rfl (by decide) rfl (Nat.le_of_ble_eq_true rfl) ?_
          refine X.if_ne (tgt := 84) dX7_known_76 (by decide) ⟨by have := mr_bd hS (s := s) (i := r * 12 + c); omega, by have := mr_bd hS (s := s) (i := r * 12 + c); omega⟩ (fun h76 => ?_) (fun h76 => ?_)
          · skip
            refine X.aload_n dX7_known_84 rfl ?_
            refine X.getR dX7_known_85 fi_X7_7 sh_132 rfl ?_
            refine X.sipush dX7_known_88 (by decide) ?_
            refine X.sipush dX7_known_91 (by decide) ?_
            refine X.iload dX7_known_94 rfl ?_
            refine X.imul (c := 240) dX7_known_96 rfl ?_
            refine X.iadd (c := 548) dX7_known_97 rfl ?_
            refine X.bipush dX7_known_98 (by decide) ?_
            refine X.iload_n dX7_known_100 rfl ?_
            refine X.imul (c := 120 * s) dX7_known_101 rfl ?_
            refine X.iadd (c := 548 + (120 * s)) dX7_known_102 rfl ?_
            refine X.iload dX7_known_103 rfl ?_
            refine X.iadd (c := (548 + (120 * s)) + (r * 12 + c)) dX7_known_105 rfl ?_
            refine X.iald (v := v (mr s 1) (r * 12 + c)) dX7_known_106 sh_133 (by decide) (by omega) (by have e := wm hw (t := 1) (by decide) p1 (show 0 ≤ r * 12 + c ∧ r * 12 + c < 120 by omega); rw [← e]; congr 1) ?_
            exact Y.iret dX7_known_107 rfl ⟨by show some (Sum.inl _ : AV) = some (Sum.inl _); unfold qKnown; rw [if_pos p1, if_pos p2, if_neg (by omega), if_pos (by omega)]; exact congrArg (fun q => some (Sum.inl q : AV)) (if_neg h76).symm, hR0, hf0⟩
          · skip
            refine X.bipush dX7_known_79 (by decide) ?_
            refine X.goto (tgt := 107) dX7_known_81 (by decide) ?_
            exact Y.iret dX7_known_107 rfl ⟨by show some (Sum.inl _ : AV) = some (Sum.inl _); unfold qKnown; rw [if_pos p1, if_pos p2, if_neg (by omega), if_pos (by omega)]; exact congrArg (fun q => some (Sum.inl q : AV)) (if_pos h76).symm, hR0, hf0⟩
        · skip
          refine X.iload dX7_known_42 rfl ?_
          refine X.iconst dX7_known_44 ?_
          refine X.icmp_ne (tgt := 64) dX7_known_45 (by decide) (by decide) (by decide) (fun h8 => ?_) (fun h => absurd h (by decide))
          refine X.iload dX7_known_64 rfl ?_
          refine X.if_le (tgt := 84) dX7_known_66 (by decide) (by decide) (fun h => absurd h (by decide)) (fun h9 => ?_)
          refine X.aload_n dX7_known_69 rfl ?_
          refine X.iload_n dX7_known_70 rfl ?_
          refine X.iload dX7_known_71 rfl ?_
          refine X.callV1 (As := [.inl s, .inl (r * 12 + c)]) (rest := []) dX7_known_73 mk_X7_86 sh_132 (c_memory M0 v hw s (r * 12 + c) (by omega) (by omega)) rfl (by decide) rfl (Nat.le_of_ble_eq_true rfl) ?_
          refine X.if_ne (tgt := 84) dX7_known_76 (by decide) ⟨by have := mr_bd hS (s := s) (i := r * 12 + c); omega, by have := mr_bd hS (s := s) (i := r * 12 + c); omega⟩ (fun h76 => ?_) (fun h76 => ?_)
          · skip
            refine X.aload_n dX7_known_84 rfl ?_
            refine X.getR dX7_known_85 fi_X7_7 sh_132 rfl ?_
            refine X.sipush dX7_known_88 (by decide) ?_
            refine X.sipush dX7_known_91 (by decide) ?_
            refine X.iload dX7_known_94 rfl ?_
            refine X.imul (c := 480) dX7_known_96 rfl ?_
            refine X.iadd (c := 788) dX7_known_97 rfl ?_
            refine X.bipush dX7_known_98 (by decide) ?_
            refine X.iload_n dX7_known_100 rfl ?_
            refine X.imul (c := 120 * s) dX7_known_101 rfl ?_
            refine X.iadd (c := 788 + (120 * s)) dX7_known_102 rfl ?_
            refine X.iload dX7_known_103 rfl ?_
            refine X.iadd (c := (788 + (120 * s)) + (r * 12 + c)) dX7_known_105 rfl ?_
            refine X.iald (v := v (mr s 2) (r * 12 + c)) dX7_known_106 sh_133 (by decide) (by omega) (by have e := wm hw (t := 2) (by decide) p1 (show 0 ≤ r * 12 + c ∧ r * 12 + c < 120 by omega); rw [← e]; congr 1) ?_
            exact Y.iret dX7_known_107 rfl ⟨by show some (Sum.inl _ : AV) = some (Sum.inl _); unfold qKnown; rw [if_pos p1, if_pos p2, if_neg (by omega), if_neg (by omega), if_pos (by omega)]; exact congrArg (fun q => some (Sum.inl q : AV)) (if_neg h76).symm, hR0, hf0⟩
          · skip
            refine X.bipush dX7_known_79 (by decide) ?_
            refine X.goto (tgt := 107) dX7_known_81 (by decide) ?_
            exact Y.iret dX7_known_107 rfl ⟨by show some (Sum.inl _ : AV) = some (Sum.inl _); unfold qKnown; rw [if_pos p1, if_pos p2, if_neg (by omega), if_neg (by omega), if_pos (by omega)]; exact congrArg (fun q => some (Sum.inl q : AV)) (if_pos h76).symm, hR0, hf0⟩
        · skip
          refine X.iload dX7_known_42 rfl ?_
          refine X.iconst dX7_known_44 ?_
          refine X.icmp_ne (tgt := 64) dX7_known_45 (by decide) (by decide) (by decide) (fun h10 => ?_) (fun h => absurd h (by decide))
          refine X.iload dX7_known_64 rfl ?_
          refine X.if_le (tgt := 84) dX7_known_66 (by decide) (by decide) (fun h => absurd h (by decide)) (fun h11 => ?_)
          refine X.aload_n dX7_known_69 rfl ?_
          refine X.iload_n dX7_known_70 rfl ?_
          refine X.iload dX7_known_71 rfl ?_
          refine X.callV1 (As := [.inl s, .inl (r * 12 + c)]) (rest := []) dX7_known_73 mk_X7_86 sh_132 (c_memory M0 v hw s (r * 12 + c) (by omega) (by omega)) rfl (by decide) rfl (Nat.le_of_ble_eq_true rfl) ?_
          refine X.if_ne (tgt := 84) dX7_known_76 (by decide) ⟨by have := mr_bd hS (s := s) (i := r * 12 + c); omega, by have := mr_bd hS (s := s) (i := r * 12 + c); omega⟩ (fun h76 => ?_) (fun h76 => ?_)
          · skip
            refine X.aload_n dX7_known_84 rfl ?_
            refine X.getR dX7_known_85 fi_X7_7 sh_132 rfl ?_
            refine X.sipush dX7_known_88 (by decide) ?_
            refine X.sipush dX7_known_91 (by decide) ?_
            refine X.iload dX7_known_94 rfl ?_
            refine X.imul (c := 720) dX7_known_96 rfl ?_
            refine X.iadd (c := 1028) dX7_known_97 rfl ?_
            refine X.bipush dX7_known_98 (by decide) ?_
            refine X.iload_n dX7_known_100 rfl ?_
            refine X.imul (c := 120 * s) dX7_known_101 rfl ?_
            refine X.iadd (c := 1028 + (120 * s)) dX7_known_102 rfl ?_
            refine X.iload dX7_known_103 rfl ?_
            refine X.iadd (c := (1028 + (120 * s)) + (r * 12 + c)) dX7_known_105 rfl ?_
            refine X.iald (v := v (mr s 3) (r * 12 + c)) dX7_known_106 sh_133 (by decide) (by omega) (by have e := wm hw (t := 3) (by decide) p1 (show 0 ≤ r * 12 + c ∧ r * 12 + c < 120 by omega); rw [← e]; congr 1) ?_
            exact Y.iret dX7_known_107 rfl ⟨by show some (Sum.inl _ : AV) = some (Sum.inl _); unfold qKnown; rw [if_pos p1, if_pos p2, if_neg (by omega), if_neg (by omega), if_neg (by omega), if_pos (by omega)]; exact congrArg (fun q => some (Sum.inl q : AV)) (if_neg h76).symm, hR0, hf0⟩
          · skip
            refine X.bipush dX7_known_79 (by decide) ?_
            refine X.goto (tgt := 107) dX7_known_81 (by decide) ?_
            exact Y.iret dX7_known_107 rfl ⟨by show some (Sum.inl _ : AV) = some (Sum.inl _); unfold qKnown; rw [if_pos p1, if_pos p2, if_neg (by omega), if_neg (by omega), if_neg (by omega), if_pos (by omega)]; exact congrArg (fun q => some (Sum.inl q : AV)) (if_pos h76).symm, hR0, hf0⟩
        · skip
          refine X.iload dX7_known_42 rfl ?_
          refine X.iconst dX7_known_44 ?_
          refine X.icmp_ne (tgt := 64) dX7_known_45 (by decide) (by decide) (by decide) (fun h => absurd h (by decide)) (fun h12 => ?_)
          refine X.aload_n dX7_known_48 rfl ?_
          refine X.iload_n dX7_known_49 rfl ?_
          refine X.iload dX7_known_50 rfl ?_
          by_cases p4 : sSees v s (r * 12 + c)
          · skip
            refine X.callV1 (As := [.inl s, .inl (r * 12 + c)]) (rest := []) dX7_known_52 mk_X7_80 sh_132 (CX.bt (c_sideSees M0 v hv hS s (r * 12 + c) ⟨by omega, by omega⟩ (by omega)) p4) rfl (by decide) rfl (Nat.le_of_ble_eq_true rfl) ?_
            refine X.if_eq (tgt := 62) dX7_known_55 (by decide) (by decide) (fun h => absurd h (by decide)) (fun h13 => ?_)
            refine X.iconst dX7_known_58 ?_
            refine X.goto (tgt := 63) dX7_known_59 (by decide) ?_
            exact Y.iret dX7_known_63 rfl ⟨by show some (Sum.inl _ : AV) = some (Sum.inl _); unfold qKnown; rw [if_pos p1, if_pos p2, if_neg (by omega), if_neg (by omega), if_neg (by omega), if_neg (by omega), if_pos (by omega)]; rw [bi_t p4], hR0, hf0⟩
          · skip
            refine X.callV1 (As := [.inl s, .inl (r * 12 + c)]) (rest := []) dX7_known_52 mk_X7_80 sh_132 (CX.bf (c_sideSees M0 v hv hS s (r * 12 + c) ⟨by omega, by omega⟩ (by omega)) p4) rfl (by decide) rfl (Nat.le_of_ble_eq_true rfl) ?_
            refine X.if_eq (tgt := 62) dX7_known_55 (by decide) (by decide) (fun h14 => ?_) (fun h => absurd h (by decide))
            refine X.iconst dX7_known_62 ?_
            exact Y.iret dX7_known_63 rfl ⟨by show some (Sum.inl _ : AV) = some (Sum.inl _); unfold qKnown; rw [if_pos p1, if_pos p2, if_neg (by omega), if_neg (by omega), if_neg (by omega), if_neg (by omega), if_pos (by omega)]; rw [bi_f p4], hR0, hf0⟩
      · skip
        refine X.callS1 (As := [.inl u, .inl 0, .inl 4]) (rest := []) dX7_known_26 mk_X7_32 (CX.bf (c_in M0 u 0 4 ⟨by omega, by omega⟩ (by decide) (by decide)) p3) rfl (by decide) rfl (Nat.le_of_ble_eq_true rfl) ?_
        refine X.if_ne (tgt := 35) dX7_known_29 (by decide) (by decide) (fun h => absurd h (by decide)) (fun h15 => ?_)
        refine X.bipush dX7_known_32 (by decide) ?_
        exact Y.iret dX7_known_34 rfl ⟨by show some (Sum.inl _ : AV) = some (Sum.inl _); unfold qKnown; rw [if_pos p1, if_pos p2, if_neg (by omega), if_neg (by omega), if_neg (by omega), if_neg (by omega), if_neg (by omega)], hR0, hf0⟩
    · skip
      refine X.callS1 (As := [.inl c, .inl r]) (rest := []) dX7_known_16 mk_X7_95 (CX.bf (c_misCell M0 c r ⟨by omega, by omega⟩ ⟨by omega, by omega⟩) p2) rfl (by decide) rfl (Nat.le_of_ble_eq_true rfl) ?_
      refine X.if_eq (tgt := 32) dX7_known_19 (by decide) (by decide) (fun h16 => ?_) (fun h => absurd h (by decide))
      refine X.bipush dX7_known_32 (by decide) ?_
      exact Y.iret dX7_known_34 rfl ⟨by show some (Sum.inl _ : AV) = some (Sum.inl _); unfold qKnown; rw [if_pos p1, if_neg p2], hR0, hf0⟩
  · skip
    refine X.callS1 (As := [.inl s, .inl 0, .inl 1]) (rest := []) dX7_known_8 mk_X7_32 (CX.bf (c_in M0 s 0 1 ⟨by omega, by omega⟩ (by decide) (by decide)) p1) rfl (by decide) rfl (Nat.le_of_ble_eq_true rfl) ?_
    refine X.if_eq (tgt := 32) dX7_known_11 (by decide) (by decide) (fun h17 => ?_) (fun h => absurd h (by decide))
    refine X.bipush dX7_known_32 (by decide) ?_
    exact Y.iret dX7_known_34 rfl ⟨by show some (Sum.inl _ : AV) = some (Sum.inl _); unfold qKnown; rw [if_neg p1], hR0, hf0⟩
theorem al_t {P : Int → Prop} {is j n : Int} (h : is = 1) (hp : P j) : ((1 : Int) = 1 ∧ ∀ i, j + 1 ≤ i → i < n → P i) ↔ (is = 1 ∧ ∀ i, j ≤ i → i < n → P i) := by
  subst h
  refine ⟨fun ⟨_, q⟩ => ⟨rfl, fun i a b => ?_⟩, fun ⟨_, q⟩ => ⟨rfl, fun i a b => q i (by omega) b⟩⟩
  by_cases e : i = j
  · rw [e]; exact hp
  · exact q i (by omega) b
theorem al_f {P : Int → Prop} {is j n : Int} (hj : j < n) (hp : ¬ P j) : ((0 : Int) = 1 ∧ ∀ i, j + 1 ≤ i → i < n → P i) ↔ (is = 1 ∧ ∀ i, j ≤ i → i < n → P i) :=
  ⟨fun ⟨q, _⟩ => absurd q (by decide), fun ⟨_, q⟩ => absurd (q j (Int.le_refl _) hj) hp⟩
set_option maxHeartbeats 4000000 in
set_option maxRecDepth 100000 in
theorem c_malone (M : Mem) (v : Vw) (z : Int) (H : Int → Vw) (tl : Int) (T : Int → Int) (hR : RM M (v, z, H, tl, T)) (k : Int) (hk : inR k) : CQ mX7_alone 6 [.inr (some 132), .inl k] M (OUTM M (qAlone v k, (v, z, H, tl, T))) := by
  refine CX.of (by decide +kernel) (Nat.le_of_ble_eq_true rfl) [some (.inr (some 132)), some (.inl k), none, none, none, none] rfl ?_
  refine X.aload_n dX7_alone_0 rfl ?_
  refine X.iconst dX7_alone_1 ?_
  refine X.putI 0 0 rfl dX7_alone_2 fi_X7_25 sh_132 rfl rfl ?_
  have hR0 : RM (mset M 132 0 0) (v, z, H, tl, T) := hR.thrown
  have hf0 : ∀ a, a < 132 → mset M 132 0 0 a = M a := fun a ha => mset_row (by omega)
  generalize mset M 132 0 0 = M0 at hR0 hf0 ⊢
  have hW0 : WF (M0 133) v := hR0.1
  have hv : WA (M0 133) v := hR0.1.wa
  have hw : WM (M0 133) v := hR0.1.ww
  have hS : SI v := hR0.1.2.2
  have hz : M0 132 4 = z := hR0.2.1
  have hz1 : 0 ≤ z ∧ z ≤ 5 := hR0.2.2.1
  have htl : M0 132 6 = tl := hR0.2.2.2.2.1
  have htb : 0 ≤ tl ∧ tl ≤ 120 := hR0.2.2.2.2.2.1
  have n0 := hS.n0
  have n1 := hS.n1
  have n2 := hS.n2
  refine X.aload_n dX7_alone_5 rfl ?_
  refine X.iload_n dX7_alone_6 rfl ?_
  by_cases p1 : 0 ≤ k ∧ k ≤ v 0 0 - 1
  · skip
    refine X.callV1 (As := [.inl k]) (rest := []) dX7_alone_7 mk_X7_120 sh_132 (CX.bt (c_misScout M0 v hv hS k ⟨by omega, by omega⟩) p1) rfl (by decide) rfl (Nat.le_of_ble_eq_true rfl) ?_
    refine X.if_ne (tgt := 16) dX7_alone_10 (by decide) (by decide) (fun h1 => ?_) (fun h => absurd h (by decide))
    refine X.iconst dX7_alone_16 ?_
    refine X.istore_n (lv2 := [some (.inr (some 132)), some (.inl k), some (.inl 0), none, none, none]) dX7_alone_17 (Nat.le_of_ble_eq_true rfl) rfl ?_
    refine X.iconst dX7_alone_18 ?_
    refine X.istore_n (lv2 := [some (.inr (some 132)), some (.inl k), some (.inl 0), some (.inl 0), none, none]) dX7_alone_19 (Nat.le_of_ble_eq_true rfl) rfl ?_
    have L20 : ∀ c, 0 ≤ c → c ≤ 120 → ∀ acc : Int, ∀ x4 : Option AV, ∀ x5 : Option AV, VQ mX7_alone 6 20 [some (.inr (some 132)), some (.inl k), some (.inl acc), some (.inl c), x4, x5] [] M0 (OUTM M (acc + cnt (fun c => sees v k c ∧ ∀ j, 0 ≤ j → j < v 0 0 → j ≠ k → v 3 j = v 3 k → ¬ sees v j c) (120 - c).toNat c, (v, z, H, tl, T))) := by
      refine down_ind 0 120 ?_ ?_
      · skip
        intro acc x4 x5
        refine X.iload_n dX7_alone_20 rfl ?_
        refine X.bipush dX7_alone_21 (by decide) ?_
        refine X.icmp_ge (tgt := 117) dX7_alone_23 (by decide) ⟨by omega, by omega⟩ (by decide) (fun h2 => ?_) (fun h => by exfalso; omega)
        refine X.iload_n dX7_alone_117 rfl ?_
        exact Y.iret dX7_alone_118 rfl ⟨by show some (Sum.inl _ : AV) = some (Sum.inl _); rw [cnt_end, Int.add_zero], hR0, hf0⟩
      · intro c hc1 hc2 ihc
        intro acc x4 x5
        refine X.iload_n dX7_alone_20 rfl ?_
        refine X.bipush dX7_alone_21 (by decide) ?_
        refine X.icmp_ge (tgt := 117) dX7_alone_23 (by decide) ⟨by omega, by omega⟩ (by decide) (fun h => by exfalso; omega) (fun h3 => ?_)
        refine X.aload_n dX7_alone_26 rfl ?_
        refine X.iload_n dX7_alone_27 rfl ?_
        refine X.iload_n dX7_alone_28 rfl ?_
        by_cases hp : sees v k c
        · skip
          refine X.callV1 (As := [.inl k, .inl c]) (rest := []) dX7_alone_29 mk_X7_77 sh_132 (CX.bt (c_msees M0 v hv hS k c (by omega) (by omega)) hp) rfl (by decide) rfl (Nat.le_of_ble_eq_true rfl) ?_
          refine X.istore (lv2 := [some (.inr (some 132)), some (.inl k), some (.inl acc), some (.inl c), some (.inl 1), x5]) dX7_alone_32 (Nat.le_of_ble_eq_true rfl) rfl ?_
          refine X.iconst dX7_alone_34 ?_
          refine X.istore (lv2 := [some (.inr (some 132)), some (.inl k), some (.inl acc), some (.inl c), some (.inl 1), some (.inl 0)]) dX7_alone_35 (Nat.le_of_ble_eq_true rfl) rfl ?_
          have L37 : ∀ j, 0 ≤ j → j ≤ (v 0 0) → ∀ is : Int, is = 0 ∨ is = 1 → ((is = 1 ∧ ∀ i, j ≤ i → i < v 0 0 → (fun j => j ≠ k → v 3 j = v 3 k → ¬ sees v j c) i) ↔ (sees v k c ∧ ∀ j, 0 ≤ j → j < v 0 0 → j ≠ k → v 3 j = v 3 k → ¬ sees v j c)) → VQ mX7_alone 6 37 [some (.inr (some 132)), some (.inl k), some (.inl acc), some (.inl c), some (.inl is), some (.inl j)] [] M0 (OUTM M (acc + cnt (fun c => sees v k c ∧ ∀ j, 0 ≤ j → j < v 0 0 → j ≠ k → v 3 j = v 3 k → ¬ sees v j c) (120 - c).toNat c, (v, z, H, tl, T))) := by
            refine down_ind 0 (v 0 0) ?_ ?_
            · skip
              intro is hi hiff
              have hfin : is = 1 ↔ (sees v k c ∧ ∀ j, 0 ≤ j → j < v 0 0 → j ≠ k → v 3 j = v 3 k → ¬ sees v j c) := ⟨fun q => hiff.mp ⟨q, fun i a b => by omega⟩, fun q => (hiff.mpr q).1⟩
              refine X.iload dX7_alone_37 rfl ?_
              refine X.aload_n dX7_alone_39 rfl ?_
              refine X.getR dX7_alone_40 fi_X7_7 sh_132 rfl ?_
              refine X.iconst dX7_alone_43 ?_
              refine X.iald (v := v 0 0) dX7_alone_44 sh_133 (by decide) (by decide) (ws_0_0 hv) ?_
              refine X.icmp_ge (tgt := 98) dX7_alone_45 (by decide) ⟨by omega, by omega⟩ ⟨by omega, by omega⟩ (fun h4 => ?_) (fun h => by exfalso; omega)
              refine X.iload_n dX7_alone_98 rfl ?_
              refine X.iload dX7_alone_99 rfl ?_
              refine X.if_eq (tgt := 108) dX7_alone_101 (by decide) ⟨by omega, by omega⟩ (fun h5 => ?_) (fun h5 => ?_)
              · skip
                refine X.iconst dX7_alone_108 ?_
                refine X.iadd (c := acc + 0) dX7_alone_109 rfl ?_
                refine X.istore_n (lv2 := [some (.inr (some 132)), some (.inl k), some (.inl (acc + 0)), some (.inl c), some (.inl is), some (.inl (v 0 0))]) dX7_alone_110 (Nat.le_of_ble_eq_true rfl) rfl ?_
                refine X.iinc (y := c + 1) (lv2 := [some (.inr (some 132)), some (.inl k), some (.inl (acc + 0)), some (.inl (c + 1)), some (.inl is), some (.inl (v 0 0))]) dX7_alone_111 rfl rfl rfl ?_
                refine X.goto (tgt := 20) dX7_alone_114 (by decide) ?_
                rw [cnt_step _ _ _ hc2, bi_f (fun q => absurd (hfin.mpr q) (by omega)), ← Int.add_assoc]
                exact ihc (acc + 0) (some (.inl is)) (some (.inl (v 0 0)))
              · skip
                refine X.iconst dX7_alone_104 ?_
                refine X.goto (tgt := 109) dX7_alone_105 (by decide) ?_
                refine X.iadd (c := acc + 1) dX7_alone_109 rfl ?_
                refine X.istore_n (lv2 := [some (.inr (some 132)), some (.inl k), some (.inl (acc + 1)), some (.inl c), some (.inl is), some (.inl (v 0 0))]) dX7_alone_110 (Nat.le_of_ble_eq_true rfl) rfl ?_
                refine X.iinc (y := c + 1) (lv2 := [some (.inr (some 132)), some (.inl k), some (.inl (acc + 1)), some (.inl (c + 1)), some (.inl is), some (.inl (v 0 0))]) dX7_alone_111 rfl rfl rfl ?_
                refine X.goto (tgt := 20) dX7_alone_114 (by decide) ?_
                rw [cnt_step _ _ _ hc2, bi_t (hfin.mp (by omega)), ← Int.add_assoc]
                exact ihc (acc + 1) (some (.inl is)) (some (.inl (v 0 0)))
            · intro j hj1 hj2 ihj
              intro is hi hiff
              refine X.iload dX7_alone_37 rfl ?_
              refine X.aload_n dX7_alone_39 rfl ?_
              refine X.getR dX7_alone_40 fi_X7_7 sh_132 rfl ?_
              refine X.iconst dX7_alone_43 ?_
              refine X.iald (v := v 0 0) dX7_alone_44 sh_133 (by decide) (by decide) (ws_0_0 hv) ?_
              refine X.icmp_ge (tgt := 98) dX7_alone_45 (by decide) ⟨by omega, by omega⟩ ⟨by omega, by omega⟩ (fun h => by exfalso; omega) (fun h6 => ?_)
              refine X.iload dX7_alone_48 rfl ?_
              refine X.if_eq (tgt := 98) dX7_alone_50 (by decide) ⟨by omega, by omega⟩ (fun h7 => ?_) (fun h7 => ?_)
              · skip
                have hfin : is = 1 ↔ (sees v k c ∧ ∀ j, 0 ≤ j → j < v 0 0 → j ≠ k → v 3 j = v 3 k → ¬ sees v j c) := ⟨fun q => by omega, fun q => (hiff.mpr q).1⟩
                refine X.iload_n dX7_alone_98 rfl ?_
                refine X.iload dX7_alone_99 rfl ?_
                refine X.if_eq (tgt := 108) dX7_alone_101 (by decide) ⟨by omega, by omega⟩ (fun h8 => ?_) (fun h8 => ?_)
                · skip
                  refine X.iconst dX7_alone_108 ?_
                  refine X.iadd (c := acc + 0) dX7_alone_109 rfl ?_
                  refine X.istore_n (lv2 := [some (.inr (some 132)), some (.inl k), some (.inl (acc + 0)), some (.inl c), some (.inl is), some (.inl j)]) dX7_alone_110 (Nat.le_of_ble_eq_true rfl) rfl ?_
                  refine X.iinc (y := c + 1) (lv2 := [some (.inr (some 132)), some (.inl k), some (.inl (acc + 0)), some (.inl (c + 1)), some (.inl is), some (.inl j)]) dX7_alone_111 rfl rfl rfl ?_
                  refine X.goto (tgt := 20) dX7_alone_114 (by decide) ?_
                  rw [cnt_step _ _ _ hc2, bi_f (fun q => absurd (hfin.mpr q) (by omega)), ← Int.add_assoc]
                  exact ihc (acc + 0) (some (.inl is)) (some (.inl j))
                · skip
                  refine X.iconst dX7_alone_104 ?_
                  refine X.goto (tgt := 109) dX7_alone_105 (by decide) ?_
                  refine X.iadd (c := acc + 1) dX7_alone_109 rfl ?_
                  refine X.istore_n (lv2 := [some (.inr (some 132)), some (.inl k), some (.inl (acc + 1)), some (.inl c), some (.inl is), some (.inl j)]) dX7_alone_110 (Nat.le_of_ble_eq_true rfl) rfl ?_
                  refine X.iinc (y := c + 1) (lv2 := [some (.inr (some 132)), some (.inl k), some (.inl (acc + 1)), some (.inl (c + 1)), some (.inl is), some (.inl j)]) dX7_alone_111 rfl rfl rfl ?_
                  refine X.goto (tgt := 20) dX7_alone_114 (by decide) ?_
                  rw [cnt_step _ _ _ hc2, bi_t (hfin.mp (by omega)), ← Int.add_assoc]
                  exact ihc (acc + 1) (some (.inl is)) (some (.inl j))
              · skip
                refine X.iload dX7_alone_53 rfl ?_
                refine X.iload_n dX7_alone_55 rfl ?_
                refine X.icmp_eq (tgt := 85) dX7_alone_56 (by decide) ⟨by omega, by omega⟩ ⟨by omega, by omega⟩ (fun h56 => ?_) (fun h56 => ?_)
                · skip
                  refine X.iconst dX7_alone_85 ?_
                  refine X.goto (tgt := 90) dX7_alone_86 (by decide) ?_
                  refine X.istore (lv2 := [some (.inr (some 132)), some (.inl k), some (.inl acc), some (.inl c), some (.inl 1), some (.inl j)]) dX7_alone_90 (Nat.le_of_ble_eq_true rfl) rfl ?_
                  refine X.iinc (y := j + 1) (lv2 := [some (.inr (some 132)), some (.inl k), some (.inl acc), some (.inl c), some (.inl 1), some (.inl (j + 1))]) dX7_alone_92 rfl rfl rfl ?_
                  refine X.goto (tgt := 37) dX7_alone_95 (by decide) ?_
                  exact ihj 1 (by omega) (Iff.trans (al_t (P := fun j => j ≠ k → v 3 j = v 3 k → ¬ sees v j c) (by omega) (fun q => absurd h56 q)) hiff)
                · skip
                  refine X.aload_n dX7_alone_59 rfl ?_
                  refine X.iload dX7_alone_60 rfl ?_
                  refine X.iconst dX7_alone_62 ?_
                  have q9 := SI.r3 hS j
                  refine X.callV1 (As := [.inl j, .inl 0]) (rest := []) dX7_alone_63 mk_X7_43 sh_132 (c_ofScout_0 M0 v hv hS j (by omega)) rfl (by decide) rfl (Nat.le_of_ble_eq_true rfl) ?_
                  refine X.aload_n dX7_alone_66 rfl ?_
                  refine X.iload_n dX7_alone_67 rfl ?_
                  refine X.iconst dX7_alone_68 ?_
                  have q10 := SI.r3 hS k
                  refine X.callV1 (As := [.inl k, .inl 0]) (rest := [.inl (v 3 j)]) dX7_alone_69 mk_X7_43 sh_132 (c_ofScout_0 M0 v hv hS k (by omega)) rfl (by decide) rfl (Nat.le_of_ble_eq_true rfl) ?_
                  refine X.icmp_ne (tgt := 85) dX7_alone_72 (by decide) ⟨by omega, by omega⟩ ⟨by omega, by omega⟩ (fun h72 => ?_) (fun h72 => ?_)
                  · skip
                    refine X.iconst dX7_alone_85 ?_
                    refine X.goto (tgt := 90) dX7_alone_86 (by decide) ?_
                    refine X.istore (lv2 := [some (.inr (some 132)), some (.inl k), some (.inl acc), some (.inl c), some (.inl 1), some (.inl j)]) dX7_alone_90 (Nat.le_of_ble_eq_true rfl) rfl ?_
                    refine X.iinc (y := j + 1) (lv2 := [some (.inr (some 132)), some (.inl k), some (.inl acc), some (.inl c), some (.inl 1), some (.inl (j + 1))]) dX7_alone_92 rfl rfl rfl ?_
                    refine X.goto (tgt := 37) dX7_alone_95 (by decide) ?_
                    exact ihj 1 (by omega) (Iff.trans (al_t (P := fun j => j ≠ k → v 3 j = v 3 k → ¬ sees v j c) (by omega) (fun _ q => absurd q h72)) hiff)
                  · skip
                    have h72 : v 3 j = v 3 k := by omega
                    refine X.aload_n dX7_alone_75 rfl ?_
                    refine X.iload dX7_alone_76 rfl ?_
                    refine X.iload_n dX7_alone_78 rfl ?_
                    by_cases hp2 : sees v j c
                    · skip
                      refine X.callV1 (As := [.inl j, .inl c]) (rest := []) dX7_alone_79 mk_X7_77 sh_132 (CX.bt (c_msees M0 v hv hS j c (by omega) (by omega)) hp2) rfl (by decide) rfl (Nat.le_of_ble_eq_true rfl) ?_
                      refine X.if_ne (tgt := 89) dX7_alone_82 (by decide) (by decide) (fun h11 => ?_) (fun h => absurd h (by decide))
                      refine X.iconst dX7_alone_89 ?_
                      refine X.istore (lv2 := [some (.inr (some 132)), some (.inl k), some (.inl acc), some (.inl c), some (.inl 0), some (.inl j)]) dX7_alone_90 (Nat.le_of_ble_eq_true rfl) rfl ?_
                      refine X.iinc (y := j + 1) (lv2 := [some (.inr (some 132)), some (.inl k), some (.inl acc), some (.inl c), some (.inl 0), some (.inl (j + 1))]) dX7_alone_92 rfl rfl rfl ?_
                      refine X.goto (tgt := 37) dX7_alone_95 (by decide) ?_
                      exact ihj 0 (by omega) (Iff.trans (al_f (P := fun j => j ≠ k → v 3 j = v 3 k → ¬ sees v j c) hj2 (fun q => q h56 h72 hp2)) hiff)
                    · skip
                      refine X.callV1 (As := [.inl j, .inl c]) (rest := []) dX7_alone_79 mk_X7_77 sh_132 (CX.bf (c_msees M0 v hv hS j c (by omega) (by omega)) hp2) rfl (by decide) rfl (Nat.le_of_ble_eq_true rfl) ?_
                      refine X.if_ne (tgt := 89) dX7_alone_82 (by decide) (by decide) (fun h => absurd h (by decide)) (fun h12 => ?_)
                      refine X.iconst dX7_alone_85 ?_
                      refine X.goto (tgt := 90) dX7_alone_86 (by decide) ?_
                      refine X.istore (lv2 := [some (.inr (some 132)), some (.inl k), some (.inl acc), some (.inl c), some (.inl 1), some (.inl j)]) dX7_alone_90 (Nat.le_of_ble_eq_true rfl) rfl ?_
                      refine X.iinc (y := j + 1) (lv2 := [some (.inr (some 132)), some (.inl k), some (.inl acc), some (.inl c), some (.inl 1), some (.inl (j + 1))]) dX7_alone_92 rfl rfl rfl ?_
                      refine X.goto (tgt := 37) dX7_alone_95 (by decide) ?_
                      exact ihj 1 (by omega) (Iff.trans (al_t (P := fun j => j ≠ k → v 3 j = v 3 k → ¬ sees v j c) (by omega) (fun _ _ => hp2)) hiff)
          exact L37 0 (by omega) (by omega) 1 (by omega) ⟨fun q => ⟨hp, fun i a b => q.2 i a b⟩, fun q => ⟨rfl, fun i a b => q.2 i a b⟩⟩
        · skip
          refine X.callV1 (As := [.inl k, .inl c]) (rest := []) dX7_alone_29 mk_X7_77 sh_132 (CX.bf (c_msees M0 v hv hS k c (by omega) (by omega)) hp) rfl (by decide) rfl (Nat.le_of_ble_eq_true rfl) ?_
          refine X.istore (lv2 := [some (.inr (some 132)), some (.inl k), some (.inl acc), some (.inl c), some (.inl 0), x5]) dX7_alone_32 (Nat.le_of_ble_eq_true rfl) rfl ?_
          refine X.iconst dX7_alone_34 ?_
          refine X.istore (lv2 := [some (.inr (some 132)), some (.inl k), some (.inl acc), some (.inl c), some (.inl 0), some (.inl 0)]) dX7_alone_35 (Nat.le_of_ble_eq_true rfl) rfl ?_
          have L37 : ∀ j, 0 ≤ j → j ≤ (v 0 0) → ∀ is : Int, is = 0 ∨ is = 1 → ((is = 1 ∧ ∀ i, j ≤ i → i < v 0 0 → (fun j => j ≠ k → v 3 j = v 3 k → ¬ sees v j c) i) ↔ (sees v k c ∧ ∀ j, 0 ≤ j → j < v 0 0 → j ≠ k → v 3 j = v 3 k → ¬ sees v j c)) → VQ mX7_alone 6 37 [some (.inr (some 132)), some (.inl k), some (.inl acc), some (.inl c), some (.inl is), some (.inl j)] [] M0 (OUTM M (acc + cnt (fun c => sees v k c ∧ ∀ j, 0 ≤ j → j < v 0 0 → j ≠ k → v 3 j = v 3 k → ¬ sees v j c) (120 - c).toNat c, (v, z, H, tl, T))) := by
            refine down_ind 0 (v 0 0) ?_ ?_
            · skip
              intro is hi hiff
              have hfin : is = 1 ↔ (sees v k c ∧ ∀ j, 0 ≤ j → j < v 0 0 → j ≠ k → v 3 j = v 3 k → ¬ sees v j c) := ⟨fun q => hiff.mp ⟨q, fun i a b => by omega⟩, fun q => (hiff.mpr q).1⟩
              refine X.iload dX7_alone_37 rfl ?_
              refine X.aload_n dX7_alone_39 rfl ?_
              refine X.getR dX7_alone_40 fi_X7_7 sh_132 rfl ?_
              refine X.iconst dX7_alone_43 ?_
              refine X.iald (v := v 0 0) dX7_alone_44 sh_133 (by decide) (by decide) (ws_0_0 hv) ?_
              refine X.icmp_ge (tgt := 98) dX7_alone_45 (by decide) ⟨by omega, by omega⟩ ⟨by omega, by omega⟩ (fun h13 => ?_) (fun h => by exfalso; omega)
              refine X.iload_n dX7_alone_98 rfl ?_
              refine X.iload dX7_alone_99 rfl ?_
              refine X.if_eq (tgt := 108) dX7_alone_101 (by decide) ⟨by omega, by omega⟩ (fun h14 => ?_) (fun h14 => ?_)
              · skip
                refine X.iconst dX7_alone_108 ?_
                refine X.iadd (c := acc + 0) dX7_alone_109 rfl ?_
                refine X.istore_n (lv2 := [some (.inr (some 132)), some (.inl k), some (.inl (acc + 0)), some (.inl c), some (.inl is), some (.inl (v 0 0))]) dX7_alone_110 (Nat.le_of_ble_eq_true rfl) rfl ?_
                refine X.iinc (y := c + 1) (lv2 := [some (.inr (some 132)), some (.inl k), some (.inl (acc + 0)), some (.inl (c + 1)), some (.inl is), some (.inl (v 0 0))]) dX7_alone_111 rfl rfl rfl ?_
                refine X.goto (tgt := 20) dX7_alone_114 (by decide) ?_
                rw [cnt_step _ _ _ hc2, bi_f (fun q => absurd (hfin.mpr q) (by omega)), ← Int.add_assoc]
                exact ihc (acc + 0) (some (.inl is)) (some (.inl (v 0 0)))
              · skip
                refine X.iconst dX7_alone_104 ?_
                refine X.goto (tgt := 109) dX7_alone_105 (by decide) ?_
                refine X.iadd (c := acc + 1) dX7_alone_109 rfl ?_
                refine X.istore_n (lv2 := [some (.inr (some 132)), some (.inl k), some (.inl (acc + 1)), some (.inl c), some (.inl is), some (.inl (v 0 0))]) dX7_alone_110 (Nat.le_of_ble_eq_true rfl) rfl ?_
                refine X.iinc (y := c + 1) (lv2 := [some (.inr (some 132)), some (.inl k), some (.inl (acc + 1)), some (.inl (c + 1)), some (.inl is), some (.inl (v 0 0))]) dX7_alone_111 rfl rfl rfl ?_
                refine X.goto (tgt := 20) dX7_alone_114 (by decide) ?_
                rw [cnt_step _ _ _ hc2, bi_t (hfin.mp (by omega)), ← Int.add_assoc]
                exact ihc (acc + 1) (some (.inl is)) (some (.inl (v 0 0)))
            · intro j hj1 hj2 ihj
              intro is hi hiff
              refine X.iload dX7_alone_37 rfl ?_
              refine X.aload_n dX7_alone_39 rfl ?_
              refine X.getR dX7_alone_40 fi_X7_7 sh_132 rfl ?_
              refine X.iconst dX7_alone_43 ?_
              refine X.iald (v := v 0 0) dX7_alone_44 sh_133 (by decide) (by decide) (ws_0_0 hv) ?_
              refine X.icmp_ge (tgt := 98) dX7_alone_45 (by decide) ⟨by omega, by omega⟩ ⟨by omega, by omega⟩ (fun h => by exfalso; omega) (fun h15 => ?_)
              refine X.iload dX7_alone_48 rfl ?_
              refine X.if_eq (tgt := 98) dX7_alone_50 (by decide) ⟨by omega, by omega⟩ (fun h16 => ?_) (fun h16 => ?_)
              · skip
                have hfin : is = 1 ↔ (sees v k c ∧ ∀ j, 0 ≤ j → j < v 0 0 → j ≠ k → v 3 j = v 3 k → ¬ sees v j c) := ⟨fun q => by omega, fun q => (hiff.mpr q).1⟩
                refine X.iload_n dX7_alone_98 rfl ?_
                refine X.iload dX7_alone_99 rfl ?_
                refine X.if_eq (tgt := 108) dX7_alone_101 (by decide) ⟨by omega, by omega⟩ (fun h17 => ?_) (fun h17 => ?_)
                · skip
                  refine X.iconst dX7_alone_108 ?_
                  refine X.iadd (c := acc + 0) dX7_alone_109 rfl ?_
                  refine X.istore_n (lv2 := [some (.inr (some 132)), some (.inl k), some (.inl (acc + 0)), some (.inl c), some (.inl is), some (.inl j)]) dX7_alone_110 (Nat.le_of_ble_eq_true rfl) rfl ?_
                  refine X.iinc (y := c + 1) (lv2 := [some (.inr (some 132)), some (.inl k), some (.inl (acc + 0)), some (.inl (c + 1)), some (.inl is), some (.inl j)]) dX7_alone_111 rfl rfl rfl ?_
                  refine X.goto (tgt := 20) dX7_alone_114 (by decide) ?_
                  rw [cnt_step _ _ _ hc2, bi_f (fun q => absurd (hfin.mpr q) (by omega)), ← Int.add_assoc]
                  exact ihc (acc + 0) (some (.inl is)) (some (.inl j))
                · skip
                  refine X.iconst dX7_alone_104 ?_
                  refine X.goto (tgt := 109) dX7_alone_105 (by decide) ?_
                  refine X.iadd (c := acc + 1) dX7_alone_109 rfl ?_
                  refine X.istore_n (lv2 := [some (.inr (some 132)), some (.inl k), some (.inl (acc + 1)), some (.inl c), some (.inl is), some (.inl j)]) dX7_alone_110 (Nat.le_of_ble_eq_true rfl) rfl ?_
                  refine X.iinc (y := c + 1) (lv2 := [some (.inr (some 132)), some (.inl k), some (.inl (acc + 1)), some (.inl (c + 1)), some (.inl is), some (.inl j)]) dX7_alone_111 rfl rfl rfl ?_
                  refine X.goto (tgt := 20) dX7_alone_114 (by decide) ?_
                  rw [cnt_step _ _ _ hc2, bi_t (hfin.mp (by omega)), ← Int.add_assoc]
                  exact ihc (acc + 1) (some (.inl is)) (some (.inl j))
              · skip
                refine X.iload dX7_alone_53 rfl ?_
                refine X.iload_n dX7_alone_55 rfl ?_
                refine X.icmp_eq (tgt := 85) dX7_alone_56 (by decide) ⟨by omega, by omega⟩ ⟨by omega, by omega⟩ (fun h56 => ?_) (fun h56 => ?_)
                · skip
                  refine X.iconst dX7_alone_85 ?_
                  refine X.goto (tgt := 90) dX7_alone_86 (by decide) ?_
                  refine X.istore (lv2 := [some (.inr (some 132)), some (.inl k), some (.inl acc), some (.inl c), some (.inl 1), some (.inl j)]) dX7_alone_90 (Nat.le_of_ble_eq_true rfl) rfl ?_
                  refine X.iinc (y := j + 1) (lv2 := [some (.inr (some 132)), some (.inl k), some (.inl acc), some (.inl c), some (.inl 1), some (.inl (j + 1))]) dX7_alone_92 rfl rfl rfl ?_
                  refine X.goto (tgt := 37) dX7_alone_95 (by decide) ?_
                  exact ihj 1 (by omega) (Iff.trans (al_t (P := fun j => j ≠ k → v 3 j = v 3 k → ¬ sees v j c) (by omega) (fun q => absurd h56 q)) hiff)
                · skip
                  refine X.aload_n dX7_alone_59 rfl ?_
                  refine X.iload dX7_alone_60 rfl ?_
                  refine X.iconst dX7_alone_62 ?_
                  have q18 := SI.r3 hS j
                  refine X.callV1 (As := [.inl j, .inl 0]) (rest := []) dX7_alone_63 mk_X7_43 sh_132 (c_ofScout_0 M0 v hv hS j (by omega)) rfl (by decide) rfl (Nat.le_of_ble_eq_true rfl) ?_
                  refine X.aload_n dX7_alone_66 rfl ?_
                  refine X.iload_n dX7_alone_67 rfl ?_
                  refine X.iconst dX7_alone_68 ?_
                  have q19 := SI.r3 hS k
                  refine X.callV1 (As := [.inl k, .inl 0]) (rest := [.inl (v 3 j)]) dX7_alone_69 mk_X7_43 sh_132 (c_ofScout_0 M0 v hv hS k (by omega)) rfl (by decide) rfl (Nat.le_of_ble_eq_true rfl) ?_
                  refine X.icmp_ne (tgt := 85) dX7_alone_72 (by decide) ⟨by omega, by omega⟩ ⟨by omega, by omega⟩ (fun h72 => ?_) (fun h72 => ?_)
                  · skip
                    refine X.iconst dX7_alone_85 ?_
                    refine X.goto (tgt := 90) dX7_alone_86 (by decide) ?_
                    refine X.istore (lv2 := [some (.inr (some 132)), some (.inl k), some (.inl acc), some (.inl c), some (.inl 1), some (.inl j)]) dX7_alone_90 (Nat.le_of_ble_eq_true rfl) rfl ?_
                    refine X.iinc (y := j + 1) (lv2 := [some (.inr (some 132)), some (.inl k), some (.inl acc), some (.inl c), some (.inl 1), some (.inl (j + 1))]) dX7_alone_92 rfl rfl rfl ?_
                    refine X.goto (tgt := 37) dX7_alone_95 (by decide) ?_
                    exact ihj 1 (by omega) (Iff.trans (al_t (P := fun j => j ≠ k → v 3 j = v 3 k → ¬ sees v j c) (by omega) (fun _ q => absurd q h72)) hiff)
                  · skip
                    have h72 : v 3 j = v 3 k := by omega
                    refine X.aload_n dX7_alone_75 rfl ?_
                    refine X.iload dX7_alone_76 rfl ?_
                    refine X.iload_n dX7_alone_78 rfl ?_
                    by_cases hp2 : sees v j c
                    · skip
                      refine X.callV1 (As := [.inl j, .inl c]) (rest := []) dX7_alone_79 mk_X7_77 sh_132 (CX.bt (c_msees M0 v hv hS j c (by omega) (by omega)) hp2) rfl (by decide) rfl (Nat.le_of_ble_eq_true rfl) ?_
                      refine X.if_ne (tgt := 89) dX7_alone_82 (by decide) (by decide) (fun h20 => ?_) (fun h => absurd h (by decide))
                      refine X.iconst dX7_alone_89 ?_
                      refine X.istore (lv2 := [some (.inr (some 132)), some (.inl k), some (.inl acc), some (.inl c), some (.inl 0), some (.inl j)]) dX7_alone_90 (Nat.le_of_ble_eq_true rfl) rfl ?_
                      refine X.iinc (y := j + 1) (lv2 := [some (.inr (some 132)), some (.inl k), some (.inl acc), some (.inl c), some (.inl 0), some (.inl (j + 1))]) dX7_alone_92 rfl rfl rfl ?_
                      refine X.goto (tgt := 37) dX7_alone_95 (by decide) ?_
                      exact ihj 0 (by omega) (Iff.trans (al_f (P := fun j => j ≠ k → v 3 j = v 3 k → ¬ sees v j c) hj2 (fun q => q h56 h72 hp2)) hiff)
                    · skip
                      refine X.callV1 (As := [.inl j, .inl c]) (rest := []) dX7_alone_79 mk_X7_77 sh_132 (CX.bf (c_msees M0 v hv hS j c (by omega) (by omega)) hp2) rfl (by decide) rfl (Nat.le_of_ble_eq_true rfl) ?_
                      refine X.if_ne (tgt := 89) dX7_alone_82 (by decide) (by decide) (fun h => absurd h (by decide)) (fun h21 => ?_)
                      refine X.iconst dX7_alone_85 ?_
                      refine X.goto (tgt := 90) dX7_alone_86 (by decide) ?_
                      refine X.istore (lv2 := [some (.inr (some 132)), some (.inl k), some (.inl acc), some (.inl c), some (.inl 1), some (.inl j)]) dX7_alone_90 (Nat.le_of_ble_eq_true rfl) rfl ?_
                      refine X.iinc (y := j + 1) (lv2 := [some (.inr (some 132)), some (.inl k), some (.inl acc), some (.inl c), some (.inl 1), some (.inl (j + 1))]) dX7_alone_92 rfl rfl rfl ?_
                      refine X.goto (tgt := 37) dX7_alone_95 (by decide) ?_
                      exact ihj 1 (by omega) (Iff.trans (al_t (P := fun j => j ≠ k → v 3 j = v 3 k → ¬ sees v j c) (by omega) (fun _ _ => hp2)) hiff)
          exact L37 0 (by omega) (by omega) 0 (by omega) ⟨fun q => absurd q.1 (by decide), fun q => absurd q.1 hp⟩
    have e := L20 0 (by omega) (by omega) 0 none none
    rw [Int.zero_add, Int.sub_zero] at e
    unfold qAlone
    rw [if_pos p1]
    exact e
  · skip
    refine X.callV1 (As := [.inl k]) (rest := []) dX7_alone_7 mk_X7_120 sh_132 (CX.bf (c_misScout M0 v hv hS k ⟨by omega, by omega⟩) p1) rfl (by decide) rfl (Nat.le_of_ble_eq_true rfl) ?_
    refine X.if_ne (tgt := 16) dX7_alone_10 (by decide) (by decide) (fun h => absurd h (by decide)) (fun h22 => ?_)
    refine X.bipush dX7_alone_13 (by decide) ?_
    exact Y.iret dX7_alone_15 rfl ⟨by show some (Sum.inl _ : AV) = some (Sum.inl _); unfold qAlone; rw [if_neg p1], hR0, hf0⟩
