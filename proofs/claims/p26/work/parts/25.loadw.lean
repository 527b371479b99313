theorem mrow_at2 {M : Mem} {a : Nat} {f : Int → Int} : mrow M a f a = f := by funext j; unfold mrow; rw [if_pos rfl]
set_option maxHeartbeats 4000000 in
set_option maxRecDepth 100000 in
theorem c_load (M : Mem) (v : Vw) (z : Int) (H : Int → Vw) (tl : Int) (T : Int → Int) (hR : RF M (v, z, H, tl, T)) : CQ mX6_load 7 [.inr (some 0)] M (OUT M (oLoad (v, z, H, tl, T) )) := by
  have hv : VA M v := VA.of hR.1.1
  have hS : SI v := hR.1.2.1
  have hG : SG M v := hR.1.2.2.1
  have hm : VM M v := VM.of hR.1.1
  have hn1 : 0 ≤ M 24 2 ∧ M 24 2 ≤ 4 := hR.1.2.2.2.1
  have hz : M 24 1 = z := hR.1.2.2.2.2.1
  have hz1 : 0 ≤ z ∧ z ≤ 5 := hR.1.2.2.2.2.2.1
  have htl : M 126 1 = tl := hR.2.1
  have htb : 0 ≤ tl ∧ tl ≤ 120 := hR.2.2.1
  have n0 := hS.n0
  have n1 := hS.n1
  have n2 := hS.n2
  refine CX.of (by decide +kernel) (Nat.le_of_ble_eq_true rfl) [some (.inr (some 0)), none] rfl ?_
  refine X.aload_n dX6_load_0 rfl ?_
  refine X.getR dX6_load_1 fi_X6_33 sh_0 rfl ?_
  refine X.aload_n dX6_load_4 rfl ?_
  refine X.getR dX6_load_5 fi_X6_12 sh_0 rfl ?_
  refine X.callV1 (As := [.inr (some 1)]) (rest := []) dX6_load_8 mk_X6_82 sh_126 (c_read2 M v z H tl T hR) rfl (by decide) rfl (Nat.le_of_ble_eq_true rfl) ?_
  refine X.istore_n (lv2 := [some (.inr (some 0)), some (.inl ((rdS (v, z, H, tl, T)).1))]) dX6_load_11 (Nat.le_of_ble_eq_true rfl) rfl ?_
  refine X.iload_n dX6_load_12 rfl ?_
  have hq := rdS_res (s := (v, z, H, tl, T)) htb.1
  replace hq : (0 ≤ (rdS (v, z, H, tl, T)).1 ∧ (rdS (v, z, H, tl, T)).1 ≤ 10) ∨ (-1000 - tl ≤ (rdS (v, z, H, tl, T)).1 ∧ (rdS (v, z, H, tl, T)).1 ≤ -1000) := hq
  refine X.if_ge (tgt := 18) dX6_load_13 (by decide) ⟨by omega, by omega⟩ (fun p1 => ?_) (fun p1 => ?_)
  · skip
    refine X.aload_n dX6_load_18 rfl ?_
    refine X.getR dX6_load_19 fi_X6_26 sh_0 rfl ?_
    refine X.aload_n dX6_load_22 rfl ?_
    refine X.getR dX6_load_23 fi_X6_12 sh_0 rfl ?_
    refine X.callV0 (As := [.inr (some 1)]) (rest := []) dX6_load_26 mk_X6_60 sh_24 (c_keep (mrow M 128 (rdG M (v, z, H, tl, T))) ((mrow M 128 (rdG M (v, z, H, tl, T))) 24 2) z rfl hR.told.1.2.2.2.2.1 hR.told.1.2.2.2.1 hz1) rfl (by decide) rfl (Nat.le_of_ble_eq_true rfl) ?_
    refine X.aload_n dX6_load_29 rfl ?_
    refine X.getR dX6_load_30 fi_X6_33 sh_0 rfl ?_
    refine X.aload_n dX6_load_33 rfl ?_
    refine X.getR dX6_load_34 fi_X6_12 sh_0 rfl ?_
    refine X.callV0 (As := [.inr (some 1)]) (rest := []) dX6_load_37 mk_X6_86 sh_126 (c_tellTo (keepM (mrow M 128 (rdG M (v, z, H, tl, T))) ((mrow M 128 (rdG M (v, z, H, tl, T))) 24 2) z) (rdG M (v, z, H, tl, T)) (fun j => congrFun ((keepM_hi hR.told.1.2.2.2.1 (by decide)).trans (mrow_at2)) j) (fun j hj => by have q := rdG_eq (M := M) (s := (v, z, H, tl, T)) j hj.1 hj.2; have q2 := (rdS_told (s := (v, z, H, tl, T)) hS).1 j; omega)) rfl (by decide) rfl (Nat.le_of_ble_eq_true rfl) ?_
    refine X.aload_n dX6_load_40 rfl ?_
    refine X.getR dX6_load_41 fi_X6_33 sh_0 rfl ?_
    refine X.iconst dX6_load_44 ?_
    refine X.putI 1 1 rfl dX6_load_45 fi_X6_74 sh_126 rfl rfl ?_
    refine X.aload_n dX6_load_48 rfl ?_
    refine X.callV0 (As := []) (rest := []) dX6_load_49 mk_X6_64 sh_0 (c_look (ldK M z (rdG M (v, z, H, tl, T))) (tellV (rdS (v, z, H, tl, T)).2 v) (VA.of (ldK_view hR).1) (ldK_view hR).2) rfl (by decide) rfl (Nat.le_of_ble_eq_true rfl) ?_
    refine X.iload_n dX6_load_52 rfl ?_
    exact Y.iret dX6_load_53 rfl (by unfold OUT oLoad; rw [if_neg (show ¬ (rdS (v, z, H, tl, T)).1 < 0 by omega)]; exact ⟨rfl, hR.load (ldK_view hR).1 (ldK_view hR).2⟩)
  · skip
    refine X.iload_n dX6_load_16 rfl ?_
    exact Y.iret dX6_load_17 rfl (by unfold OUT oLoad; rw [if_pos p1]; exact ⟨rfl, hR.told, fun a ha => mrow_row (by omega)⟩)
