/-- the cells behind load's first loop -/
def ldM (M : Mem) : Mem := mset (mw M 134 0 1268 (fun i => M 133 i)) 132 7 0
section LDM
variable {M M0 M1 M2 : Mem} {v : Vw} {z tl : Int} {H : Int → Vw} {T g : Int → Int} {s : AbS}
theorem ldM_no {a : Nat} (h : a ≠ 132 ∧ a ≠ 134) : ldM M a = M a := by unfold ldM; rw [mset_row h.1, mw_no h.2]
theorem ldM_132 {j : Int} (h : j ≠ 7) : ldM M 132 j = M 132 j := by unfold ldM; rw [mset_ne (by omega), mw_no (by decide)]
theorem ldM_134 {i : Int} (h : 0 ≤ i ∧ i < 1268) : ldM M 134 i = M 133 i := by unfold ldM; rw [mset_row (by decide), mw_at, if_pos h]
theorem RM.ldx (h : RM M0 (v, z, H, tl, T)) (hf : FRM (ldM M0) M2) : RM (exM M2 1268) (v, z, H, tl, T) := by
  obtain ⟨h1, h2, h3, h4, h5, h6, h7, h8⟩ := h
  have e132 : ∀ j, j ≠ 7 → exM M2 1268 132 j = M0 132 j := fun j hj => by rw [exM_no (by decide), hf.2 j hj, ldM_132 hj]
  have er : ∀ a, a ≠ 132 → a ≠ 133 → a ≠ 134 → exM M2 1268 a = M0 a := fun a a1 a2 a3 => by rw [exM_no ⟨a2, a3⟩, hf.1 a a1 a2, ldM_no ⟨a1, a3⟩]
  refine ⟨WF.congr h1 fun i a b => ?_, by rw [e132 4 (by decide)]; exact h2, h3, ?_, by rw [e132 6 (by decide)]; exact h5, h6, by rw [er 136 (by decide) (by decide) (by decide)]; exact h7, h8⟩
  · rw [exM_a, if_pos ⟨a, b⟩, hf.1 134 (by decide) (by decide), ldM_134 ⟨a, b⟩]
  · rw [er 135 (by decide) (by decide) (by decide)]; exact h4
theorem ldx_lo (hf : FRM (ldM M0) M2) {a : Nat} (ha : a < 132) : exM M2 1268 a = M0 a := by rw [exM_no (by omega), hf.1 a (by omega) (by omega), ldM_no (by omega)]
theorem RM.ldy (h : RM (exM M2 1268) (v, z, H, tl, T)) (hw : WF (M2 133) (tellV g v)) : RM (exM (actM (exM M2 1268) z) 1268) (tellV g v, imin (z + 1) 5, pushH H z v, tl, T) := by
  refine h.keep.upd (fun a a1 a2 a3 => exM_no ⟨a1, a3⟩) (hw.congr fun i a b => ?_)
  rw [exM_a, if_pos ⟨a, b⟩, actM_no (by decide), exM_b, if_pos ⟨a, b⟩]
theorem ldy_lo {a : Nat} (ha : a < 132) : exM (actM M1 z) 1268 a = M1 a := by rw [exM_no (by omega), actM_no (by omega)]
end LDM
/-- where load's reading stands -/
def LI (s : AbS) (M : Mem) (M2 : Mem) (y o : Int) : Prop := FRM M M2 ∧ ((o = 1 ∧ ∃ i g, PA M2 s.1 g i 0 y ∧ (0 ≤ i ∧ i ≤ s.2.2.2.1) ∧ y ≤ 10 ∧ rdS s = rdT s.2.2.2.2 s.1 s.2.2.2.1 (s.2.2.2.1 - i).toNat i 0 y g) ∨ (o = 0 ∧ (0 ≤ M2 132 7 ∧ M2 132 7 ≤ s.2.2.2.1) ∧ (rdS s).1 = -1000 - M2 132 7))
set_option maxHeartbeats 4000000 in
set_option maxRecDepth 100000 in
theorem c_mload (M : Mem) (v : Vw) (z : Int) (H : Int → Vw) (tl : Int) (T : Int → Int) (hR : RM M (v, z, H, tl, T)) : CQ mX7_load 8 [.inr (some 132)] M (OUTM M (oLoad (v, z, H, tl, T) )) := by
  refine CX.of (by decide +kernel) (Nat.le_of_ble_eq_true rfl) [some (.inr (some 132)), none, none] rfl ?_
  refine X.aload_n dX7_load_0 rfl ?_
  refine X.iconst dX7_load_1 ?_
  refine X.putI 0 0 rfl dX7_load_2 fi_X7_25 sh_132 rfl rfl ?_
  have hR0 : RM (mset M 132 0 0) (v, z, H, tl, T) := hR.thrown
  have hf0 : ∀ a, a < 132 → mset M 132 0 0 a = M a := fun a ha => mset_row (by omega)
  generalize mset M 132 0 0 = M0 at hR0 hf0 ⊢
  have hW0 : WF (M0 133) v := hR0.1
  have hv : WA (M0 133) v := hR0.1.wa
  have hw : WM (M0 133) v := hR0.1.ww
  have hS : SI v := hR0.1.2.2
  have hz : M0 132 4 = z := hR0.2.1
  have hz1 : 0 ≤ z ∧ z ≤ 5 := hR0.2.2.1
  have htl : M0 132 6 = tl := hR0.2.2.2.2.1
  have htb : 0 ≤ tl ∧ tl ≤ 120 := hR0.2.2.2.2.2.1
  have n0 := hS.n0
  have n1 := hS.n1
  have n2 := hS.n2
  refine X.iconst dX7_load_5 ?_
  refine X.istore_n (lv2 := [some (.inr (some 132)), some (.inl 0), none]) dX7_load_6 (Nat.le_of_ble_eq_true rfl) rfl ?_
  have L7 : ∀ k, 0 ≤ k → k ≤ 1268 → VQ mX7_load 8 7 [some (.inr (some 132)), some (.inl k), none] [] (mw M0 134 0 k (fun i => M0 133 i)) (OUTM M (oLoad (v, z, H, tl, T) )) := by
    refine down_ind 0 1268 ?_ ?_
    · skip
      refine X.iload_n dX7_load_7 rfl ?_
      refine X.sipush dX7_load_8 (by decide) ?_
      refine X.icmp_ge (tgt := 32) dX7_load_11 (by decide) ⟨by omega, by omega⟩ (by decide) (fun h1 => ?_) (fun h => by exfalso; omega)
      refine X.aload_n dX7_load_32 rfl ?_
      refine X.iconst dX7_load_33 ?_
      refine X.putI 7 7 rfl dX7_load_34 fi_X7_104 sh_132 rfl rfl ?_
      rw [show mset (mw M0 134 0 1268 (fun i => M0 133 i)) 132 7 0 = ldM M0 from rfl]
      have hTX : TX (ldM M0) tl T := ⟨(ldM_132 (by decide)).trans htl, htb, by rw [ldM_no (by decide)]; exact hR0.2.2.2.2.2.2.1, hR0.2.2.2.2.2.2.2⟩
      have hLI0 : LI (v, z, H, tl, T) (ldM M0) (ldM M0) 0 1 := ⟨FRM.refl, Or.inl ⟨rfl, 0, fun _ => -1, ⟨mset_at, by rw [tellV_0, ldM_no (by decide)]; exact hW0, told.start, fun _ _ => rfl⟩, ⟨Int.le_refl _, htb.1⟩, by decide, by unfold rdS; rw [Int.sub_zero]⟩⟩
      refine X.iconst dX7_load_37 ?_
      refine X.istore_n (lv2 := [some (.inr (some 132)), some (.inl 0), none]) dX7_load_38 (Nat.le_of_ble_eq_true rfl) rfl ?_
      refine X.iconst dX7_load_39 ?_
      refine X.istore_n (lv2 := [some (.inr (some 132)), some (.inl 0), some (.inl 1)]) dX7_load_40 (Nat.le_of_ble_eq_true rfl) rfl ?_
      have L41 : ∀ y, 0 ≤ y → y ≤ 11 → ∀ is : Int, ∀ M2 : Mem, LI (v, z, H, tl, T) (ldM M0) M2 y is → VQ mX7_load 8 41 [some (.inr (some 132)), some (.inl y), some (.inl is)] [] M2 (OUTM M (oLoad (v, z, H, tl, T) )) := by
        refine down_ind 0 11 ?_ ?_
        · skip
          intro is M2 hLI
          have hb : is = 0 := hLI.2.elim (fun ⟨_, _, _, _, _, q, _⟩ => absurd q (by decide)) (fun q => q.1)
          refine X.iload_n dX7_load_41 rfl ?_
          refine X.if_eq (tgt := 64) dX7_load_42 (by decide) (by rcases hLI.2 with q | q <;> rw [q.1] <;> decide) (fun h42 => ?_) (fun h => by exfalso; omega)
          have hb2 := (hLI.2.resolve_left (fun q => by omega)).2
          refine X.aload_n dX7_load_64 rfl ?_
          refine X.callV0 (As := []) (rest := []) dX7_load_65 mk_X7_117 sh_132 (c_exchange M2) rfl (by decide) rfl (Nat.le_of_ble_eq_true rfl) ?_
          refine X.iload_n dX7_load_68 rfl ?_
          refine X.if_ne (tgt := 81) dX7_load_69 (by decide) (by rcases hLI.2 with q | q <;> rw [q.1] <;> decide) (fun h => by exfalso; omega) (fun h2 => ?_)
          refine X.sipush dX7_load_72 (by decide) ?_
          refine X.aload_n dX7_load_75 rfl ?_
          refine X.getI (v := M2 132 7) 7 dX7_load_76 fi_X7_104 sh_132 rfl (congrFun (exM_no (by decide)) 7) ?_
          refine X.isub (c := (-1000) - (M2 132 7)) dX7_load_79 rfl ?_
          exact Y.iret dX7_load_80 rfl (by unfold OUTM oLoad; rw [if_pos (show (rdS (v, z, H, tl, T)).1 < 0 from by rw [hb2.2]; omega)]; exact ⟨congrArg (fun q => some (Sum.inl q : AV)) hb2.2.symm, hR0.ldx hLI.1, fun a ha => (ldx_lo hLI.1 ha).trans (hf0 a ha)⟩)
        · intro y hy1 hy2 ihy
          intro is M2 hLI
          refine X.iload_n dX7_load_41 rfl ?_
          refine X.if_eq (tgt := 64) dX7_load_42 (by decide) (by rcases hLI.2 with q | q <;> rw [q.1] <;> decide) (fun h42 => ?_) (fun h42 => ?_)
          · skip
            have hb2 := (hLI.2.resolve_left (fun q => by omega)).2
            refine X.aload_n dX7_load_64 rfl ?_
            refine X.callV0 (As := []) (rest := []) dX7_load_65 mk_X7_117 sh_132 (c_exchange M2) rfl (by decide) rfl (Nat.le_of_ble_eq_true rfl) ?_
            refine X.iload_n dX7_load_68 rfl ?_
            refine X.if_ne (tgt := 81) dX7_load_69 (by decide) (by rcases hLI.2 with q | q <;> rw [q.1] <;> decide) (fun h => by exfalso; omega) (fun h3 => ?_)
            refine X.sipush dX7_load_72 (by decide) ?_
            refine X.aload_n dX7_load_75 rfl ?_
            refine X.getI (v := M2 132 7) 7 dX7_load_76 fi_X7_104 sh_132 rfl (congrFun (exM_no (by decide)) 7) ?_
            refine X.isub (c := (-1000) - (M2 132 7)) dX7_load_79 rfl ?_
            exact Y.iret dX7_load_80 rfl (by unfold OUTM oLoad; rw [if_pos (show (rdS (v, z, H, tl, T)).1 < 0 from by rw [hb2.2]; omega)]; exact ⟨congrArg (fun q => some (Sum.inl q : AV)) hb2.2.symm, hR0.ldx hLI.1, fun a ha => (ldx_lo hLI.1 ha).trans (hf0 a ha)⟩)
          · skip
            have hF2 := hLI.1
            obtain ⟨i, g, hP, hi, hy, hRR⟩ := (hLI.2.resolve_right (fun q => h42 q.1)).2
            replace hRR : rdS (v, z, H, tl, T) = rdT T v tl (tl - i).toNat i 0 y g := hRR
            replace hi : 0 ≤ i ∧ i ≤ tl := hi
            replace hP : PA M2 v g i 0 y := hP
            refine X.aload_n dX7_load_45 rfl ?_
            refine Y.callV (As := []) (rest := []) dX7_load_46 mk_X7_107 sh_132 (c_here M2 tl T i (hTX.frame hF2) hP.1 hi) rfl (by decide) rfl (Nat.le_of_ble_eq_true rfl) (fun r9 M9 h9 => ?_)
            obtain ⟨j, hj, hM9, ho, hj32, hsp⟩ := h9
            have hx1 : j < tl → (if j < tl then T j else -1) = T j := fun q => if_pos q
            have hx2 : ¬ j < tl → (if j < tl then T j else -1) = -1 := fun q => if_neg q
            generalize (if j < tl then T j else -1) = x at ho hx1 hx2
            subst ho hM9
            have htj := hTX.2.2.2 j
            refine X.if_lt (tgt := 64) dX7_load_49 (by decide) ⟨by omega, by omega⟩ (fun h49 => ?_) (fun h49 => ?_)
            · skip
              have hjn : j = tl := by omega
              have hRR3 : rdS (v, z, H, tl, T) = (y, g) := by rw [hRR, rdT_sp hsp hj.1 hj.2, hjn, rdT_end]; rfl
              have hi1 : is = 1 := (hLI.2.resolve_right (fun q => h42 q.1)).1
              have hRx : RM (exM (mset M2 132 7 j) 1268) (v, z, H, tl, T) := hR0.ldx (hF2.trans FRM.next)
              refine X.aload_n dX7_load_64 rfl ?_
              refine X.callV0 (As := []) (rest := []) dX7_load_65 mk_X7_117 sh_132 (c_exchange (mset M2 132 7 j)) rfl (by decide) rfl (Nat.le_of_ble_eq_true rfl) ?_
              refine X.iload_n dX7_load_68 rfl ?_
              refine X.if_ne (tgt := 81) dX7_load_69 (by decide) (by rcases hLI.2 with q | q <;> rw [q.1] <;> decide) (fun h4 => ?_) (fun h => by exfalso; omega)
              refine X.aload_n dX7_load_81 rfl ?_
              refine X.callV0 (As := []) (rest := []) dX7_load_82 mk_X7_89 sh_132 (c_act (exM (mset M2 132 7 j) 1268) z hRx.2.1 hz1) rfl (by decide) rfl (Nat.le_of_ble_eq_true rfl) ?_
              refine X.aload_n dX7_load_85 rfl ?_
              refine X.callV0 (As := []) (rest := []) dX7_load_86 mk_X7_117 sh_132 (c_exchange (actM (exM (mset M2 132 7 j) 1268) z)) rfl (by decide) rfl (Nat.le_of_ble_eq_true rfl) ?_
              refine X.aload_n dX7_load_89 rfl ?_
              refine Y.callV (As := []) (rest := []) dX7_load_90 mk_X7_92 sh_132 (c_mlook (exM (actM (exM (mset M2 132 7 j) 1268) z) 1268) (tellV g v) (hRx.ldy hP.goto.2.1).1) rfl (by decide) rfl (Nat.le_of_ble_eq_true rfl) (fun r9 M9 h9 => ?_)
              obtain ⟨h90, h9f, h9w⟩ := h9
              subst h90
              refine X.aload_n dX7_load_93 rfl ?_
              refine X.iconst dX7_load_94 ?_
              refine X.putI 6 6 rfl dX7_load_95 fi_X7_101 sh_132 rfl rfl ?_
              refine X.iload_n dX7_load_98 rfl ?_
              exact Y.iret dX7_load_99 rfl (by unfold OUTM oLoad; rw [hRR3, if_neg (show ¬ (y, g).1 < 0 from by show ¬ y < 0; omega)]; exact ⟨rfl, (hRx.ldy hP.goto.2.1).done h9f h9w (M := M) (fun a ha => (ldy_lo ha).trans ((ldx_lo (hF2.trans FRM.next) ha).trans (hf0 a ha))) |> fun q => q.1.clear q.2⟩)
            · skip
              have hRR2 := hRR.trans (rdT_sp hsp hj.1 hj.2)
              refine X.aload_n dX7_load_52 rfl ?_
              refine X.iload_n dX7_load_53 rfl ?_
              refine Y.callV (As := [.inl y]) (rest := []) dX7_load_54 mk_X7_114 sh_132 (c_readsRow (mset M2 132 7 j) v g tl T j y (hTX.frame (hF2.trans FRM.next)) hP.goto (by omega) (hj32 (by omega)) (by omega) hS) rfl (by decide) rfl (Nat.le_of_ble_eq_true rfl) (fun r9 M9 h9 => ?_)
              obtain ⟨h9f, h9c⟩ := h9
              obtain ⟨is2, ho2, hL⟩ : ∃ is2, r9 = some (.inl is2) ∧ LI (v, z, H, tl, T) (ldM M0) M9 (y + 1) is2 := by
                rcases h9c with ⟨ho, i3, g3, q1, q2, q3, q4⟩ | ⟨ho, q2, q3⟩
                · exact ⟨1, ho, (hF2.trans FRM.next).trans h9f, Or.inl ⟨rfl, i3, g3, q1, q2, by omega, hRR2.trans q4⟩⟩
                · exact ⟨0, ho, (hF2.trans FRM.next).trans h9f, Or.inr ⟨rfl, q2, by rw [hRR2]; exact q3⟩⟩
              subst ho2
              refine X.istore_n (lv2 := [some (.inr (some 132)), some (.inl y), some (.inl is2)]) dX7_load_57 (Nat.le_of_ble_eq_true rfl) rfl ?_
              refine X.iinc (y := y + 1) (lv2 := [some (.inr (some 132)), some (.inl (y + 1)), some (.inl is2)]) dX7_load_58 rfl rfl rfl ?_
              refine X.goto (tgt := 41) dX7_load_61 (by decide) ?_
              exact ihy is2 _ hL
      exact L41 0 (by omega) (by omega) 1 _ hLI0
    · intro k hk1 hk2 ihk
      refine X.iload_n dX7_load_7 rfl ?_
      refine X.sipush dX7_load_8 (by decide) ?_
      refine X.icmp_ge (tgt := 32) dX7_load_11 (by decide) ⟨by omega, by omega⟩ (by decide) (fun h => by exfalso; omega) (fun h5 => ?_)
      refine X.aload_n dX7_load_14 rfl ?_
      refine X.getR dX7_load_15 fi_X7_13 sh_132 rfl ?_
      refine X.iload_n dX7_load_18 rfl ?_
      refine X.aload_n dX7_load_19 rfl ?_
      refine X.getR dX7_load_20 fi_X7_7 sh_132 rfl ?_
      refine X.iload_n dX7_load_23 rfl ?_
      refine X.iald (v := M0 133 k) dX7_load_24 sh_133 (by decide) (by omega) (congrFun (mw_no (by decide)) k) ?_
      refine X.iast dX7_load_25 sh_134 (by decide) (by omega) ?_
      refine X.iinc (y := k + 1) (lv2 := [some (.inr (some 132)), some (.inl (k + 1)), none]) dX7_load_26 rfl rfl rfl ?_
      refine X.goto (tgt := 7) dX7_load_29 (by decide) ?_
      rw [mw_step (f := fun i => M0 133 i) (by omega) rfl]
      exact ihk
  have e := L7 0 (by omega) (by omega)
  rw [mw_0 (by omega)] at e
  exact e
