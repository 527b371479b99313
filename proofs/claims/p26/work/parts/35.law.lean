/-! ===== THE LAW'S WALK ===== -/
set_option maxHeartbeats 4000000 in
set_option maxRecDepth 100000 in
theorem law_walk {p : Program} {l : Launch} {e : Env} {R : Room} {s : State} {m : MethodId} {args : Array Value} {below : List Frame} {meth : Method} {c : Code} {base : Nat} {D : va_G} {cI cM cS : ClassId} {ck sk : Nat} {Z : State → Prop} {b L : Nat} {xs : Nat → Int32} (C : JX p s m args meth c base D cI cM cS R RL cL_law 10 11 ck sk) (hX : va_X b L xs s s.heap) (hb : b < base) (hL : L ≤ 260) (E : ∀ (lv : List (Nat × Value)) (M : Mem), J p l e R s m args below meth c base D cI cM cS ck sk Z 10 396 lv [.int (Int32.ofInt 1)] M) (M0 : Mem) (v0 : Vw) (z0 : Int) (H0 : Int → Vw) (T0 : Int → Int) (hR0 : RF M0 (v0, z0, H0, 0, T0)) (hL0 : LK v0) (h00 : v0 0 0 = 0) (h03 : v0 0 3 = 0) : J p l e R s m args below meth c base D cI cM cS ck sk Z 10 10 [(0, .ref b), (1, .ref (base + 0)), (2, .int (Int32.ofInt 0))] [] M0 := by
  have E250 : ∀ (M : Mem) (v : Vw) (z : Int) (H : Int → Vw) (tl : Int) (T : Int → Int), RF M (v, z, H, tl, T) → LK v → tl = 0 → J p l e R s m args below meth c base D cI cM cS ck sk Z 10 250 [(0, .ref b), (1, .ref (base + 0))] [] M := by
    intro M v z H tl T hR hLK htl
    subst htl
    refine J.aload_n 1 C dL_law_250 rfl rfl ?_
    refine J.callSD (As := [.inr (some 0)]) (rest := []) C dL_law_251 mk_L_84 (c_digest hR) rfl (by decide) rfl (Nat.le_of_ble_eq_true rfl) (fun r9 M9 h9 => ?_)
    obtain ⟨e1, e2⟩ := h9
    rw [e1, e2]
    refine J.lstore_n (lv' := [(2, .long (dig v)), (0, .ref b), (1, .ref (base + 0))]) C dL_law_254 rfl (by decide) rfl ?_
    refine J.aload_n 2 C dL_law_255 rfl rfl ?_
    refine J.bipush C dL_law_256 (by decide) ?_
    refine J.iconst C dL_law_258 ?_
    refine J.iconst C dL_law_259 ?_
    refine J.callV (As := [.inl 12, .inl 0, .inl 0]) (rest := []) C dL_law_260 mk_L_38 sh_0 (c_setHeight _ _ _ _ _ _ hR 12 0 0 (by decide) (by decide) (by decide)) rfl (by decide) rfl (Nat.le_of_ble_eq_true rfl) (fun r9 M9 h9 => ?_)
    rw [e_h1] at h9
    have e1 : r9 = some (.inl (-11)) := h9.1
    have hR1 : RF M9 (v, z, H, 0, T) := h9.2.1
    rw [e1]
    refine J.bipush C dL_law_263 (by decide) ?_
    refine J.icmp_ne (tgt := 350) C dL_law_265 (by decide) (by decide) (by decide) (fun h => absurd h (by decide)) (fun h1 => ?_)
    refine J.aload_n 2 C dL_law_268 rfl rfl ?_
    refine J.iconst C dL_law_269 ?_
    refine J.iconst C dL_law_270 ?_
    refine J.bipush C dL_law_271 (by decide) ?_
    refine J.callV (As := [.inl 0, .inl 0, .inl 10]) (rest := []) C dL_law_273 mk_L_38 sh_0 (c_setHeight _ _ _ _ _ _ hR1 0 0 10 (by decide) (by decide) (by decide)) rfl (by decide) rfl (Nat.le_of_ble_eq_true rfl) (fun r9 M9 h9 => ?_)
    rw [e_h2] at h9
    have e1 : r9 = some (.inl (-11)) := h9.1
    have hR2 : RF M9 (v, z, H, 0, T) := h9.2.1
    rw [e1]
    refine J.bipush C dL_law_276 (by decide) ?_
    refine J.icmp_ne (tgt := 350) C dL_law_278 (by decide) (by decide) (by decide) (fun h => absurd h (by decide)) (fun h2 => ?_)
    refine J.aload_n 2 C dL_law_281 rfl rfl ?_
    refine J.iconst C dL_law_282 ?_
    refine J.iconst C dL_law_283 ?_
    refine J.iconst C dL_law_284 ?_
    refine J.iconst C dL_law_285 ?_
    refine J.callV (As := [.inl 2, .inl 0, .inl 0, .inl 1]) (rest := []) C dL_law_286 mk_L_44 sh_0 (c_addScout _ _ _ _ _ _ hR2 2 0 0 1 (by decide) (by decide) (by decide) (by decide)) rfl (by decide) rfl (Nat.le_of_ble_eq_true rfl) (fun r9 M9 h9 => ?_)
    rw [e_as] at h9
    have e1 : r9 = some (.inl (-11)) := h9.1
    have hR3 : RF M9 (v, z, H, 0, T) := h9.2.1
    rw [e1]
    refine J.bipush C dL_law_289 (by decide) ?_
    refine J.icmp_ne (tgt := 350) C dL_law_291 (by decide) (by decide) (by decide) (fun h => absurd h (by decide)) (fun h3 => ?_)
    refine J.aload_n 2 C dL_law_294 rfl rfl ?_
    refine J.iconst C dL_law_295 ?_
    refine J.iconst C dL_law_296 ?_
    refine J.iconst C dL_law_297 ?_
    refine J.iconst C dL_law_298 ?_
    refine J.callV (As := [.inl 0, .inl 0, .inl 5, .inl 1]) (rest := []) C dL_law_299 mk_L_50 sh_0 (c_addLight _ _ _ _ _ _ hR3 0 0 5 1 (by decide) (by decide) (by decide) (by decide)) rfl (by decide) rfl (Nat.le_of_ble_eq_true rfl) (fun r9 M9 h9 => ?_)
    rw [e_al] at h9
    have e1 : r9 = some (.inl (-11)) := h9.1
    have hR4 : RF M9 (v, z, H, 0, T) := h9.2.1
    rw [e1]
    refine J.bipush C dL_law_302 (by decide) ?_
    refine J.icmp_ne (tgt := 350) C dL_law_304 (by decide) (by decide) (by decide) (fun h => absurd h (by decide)) (fun h4 => ?_)
    refine J.aload_n 2 C dL_law_307 rfl rfl ?_
    refine J.bipush C dL_law_308 (by decide) ?_
    refine J.callV (As := [.inl 100]) (rest := []) C dL_law_310 mk_L_59 sh_0 (c_setFogTime _ _ _ _ _ _ hR4 100 (by decide)) rfl (by decide) rfl (Nat.le_of_ble_eq_true rfl) (fun r9 M9 h9 => ?_)
    rw [e_fog] at h9
    have e1 : r9 = some (.inl (-11)) := h9.1
    have hR5 : RF M9 (v, z, H, 0, T) := h9.2.1
    rw [e1]
    refine J.bipush C dL_law_313 (by decide) ?_
    refine J.icmp_ne (tgt := 350) C dL_law_315 (by decide) (by decide) (by decide) (fun h => absurd h (by decide)) (fun h5 => ?_)
    refine J.aload_n 2 C dL_law_318 rfl rfl ?_
    refine J.iconst C dL_law_319 ?_
    refine J.callV (As := [.inl 0]) (rest := []) C dL_law_320 mk_L_62 sh_0 (c_pass _ _ _ _ _ _ hR5 0 (by decide)) rfl (by decide) rfl (Nat.le_of_ble_eq_true rfl) (fun r9 M9 h9 => ?_)
    rw [e_pass] at h9
    have e1 : r9 = some (.inl (-11)) := h9.1
    have hR6 : RF M9 (v, z, H, 0, T) := h9.2.1
    rw [e1]
    refine J.bipush C dL_law_323 (by decide) ?_
    refine J.icmp_ne (tgt := 350) C dL_law_325 (by decide) (by decide) (by decide) (fun h => absurd h (by decide)) (fun h6 => ?_)
    refine J.aload_n 2 C dL_law_328 rfl rfl ?_
    refine J.iconst C dL_law_329 ?_
    refine J.iconst C dL_law_330 ?_
    refine J.iconst C dL_law_331 ?_
    refine J.iconst C dL_law_332 ?_
    refine J.callVI (As := [.inl 0, .inl 0, .inl 0, .inl 5]) (rest := []) C dL_law_333 mk_L_22 sh_0 (lq_known (x := (-11)) hR6 0 0 0 5 (by decide) (by decide) (by decide) (by decide) (e_kn v)) rfl (by decide) rfl (Nat.le_of_ble_eq_true rfl) ?_
    refine J.bipush C dL_law_336 (by decide) ?_
    refine J.icmp_ne (tgt := 350) C dL_law_338 (by decide) (by decide) (by decide) (fun h => absurd h (by decide)) (fun h7 => ?_)
    refine J.aload_n 2 C dL_law_341 rfl rfl ?_
    refine J.callSD (As := [.inr (some 0)]) (rest := []) C dL_law_342 mk_L_84 (c_digest hR6) rfl (by decide) rfl (Nat.le_of_ble_eq_true rfl) (fun r9 M9 h9 => ?_)
    obtain ⟨e1, e2⟩ := h9
    rw [e1, e2]
    refine J.lload_n 0 C dL_law_345 rfl rfl ?_
    refine J.lcmp C dL_law_346 ?_
    refine J.if_eq (tgt := 352) C dL_law_347 (by decide) (by decide) (fun h8 => ?_) (fun h => absurd h (by decide))
    refine J.aload_n 2 C dL_law_352 rfl rfl ?_
    refine J.callV (As := []) (rest := []) C dL_law_353 mk_L_100 sh_0 (c_load _ _ _ _ _ _ hR6) rfl (by decide) rfl (Nat.le_of_ble_eq_true rfl) (fun r9 M9 h9 => ?_)
    rw [load0 hLK] at h9
    have e1 : r9 = some (.inl 0) := h9.1
    have hR7 : RF M9 (v, (imin (z + 1) 5), (pushH H z v), 0, T) := h9.2.1
    rw [e1]
    refine J.if_ne (tgt := 395) C dL_law_356 (by decide) (by decide) (fun h => absurd h (by decide)) (fun h9 => ?_)
    refine J.aload_n 2 C dL_law_359 rfl rfl ?_
    refine J.callSD (As := [.inr (some 0)]) (rest := []) C dL_law_360 mk_L_84 (c_digest hR7) rfl (by decide) rfl (Nat.le_of_ble_eq_true rfl) (fun r9 M9 h9 => ?_)
    obtain ⟨e1, e2⟩ := h9
    rw [e1, e2]
    refine J.lload_n 0 C dL_law_363 rfl rfl ?_
    refine J.lcmp C dL_law_364 ?_
    refine J.if_ne (tgt := 395) C dL_law_365 (by decide) (by decide) (fun h => absurd h (by decide)) (fun h10 => ?_)
    refine J.aload_n 2 C dL_law_368 rfl rfl ?_
    refine J.bipush C dL_law_369 (by decide) ?_
    refine J.callVI (As := [.inl 12]) (rest := []) C dL_law_371 mk_L_12 sh_0 (lq_count (x := (-11)) hR7 12 (by decide) rfl) rfl (by decide) rfl (Nat.le_of_ble_eq_true rfl) ?_
    refine J.bipush C dL_law_374 (by decide) ?_
    refine J.icmp_ne (tgt := 395) C dL_law_376 (by decide) (by decide) (by decide) (fun h => absurd h (by decide)) (fun h11 => ?_)
    refine J.aload_n 2 C dL_law_379 rfl rfl ?_
    refine J.sipush C dL_law_380 (by decide) ?_
    refine J.callV (As := [.inl 256]) (rest := []) C dL_law_383 mk_L_103 sh_0 (c_append _ _ _ _ _ _ hR7 256 (by decide)) rfl (by decide) rfl (Nat.le_of_ble_eq_true rfl) (fun r9 M9 h9 => ?_)
    rw [e_app] at h9
    have e1 : r9 = some (.inl (-11)) := h9.1
    have hR8 : RF M9 (v, (imin (z + 1) 5), (pushH H z v), 0, T) := h9.2.1
    rw [e1]
    refine J.bipush C dL_law_386 (by decide) ?_
    refine J.icmp_ne (tgt := 395) C dL_law_388 (by decide) (by decide) (by decide) (fun h => absurd h (by decide)) (fun h12 => ?_)
    refine J.iconst C dL_law_391 ?_
    refine J.goto (tgt := 396) C dL_law_392 (by decide) ?_
    exact E _ _
  have L83 : ∀ t : Int, 0 ≤ t → t ≤ 12 → ∀ (M : Mem) (v : Vw) (z : Int) (H : Int → Vw) (tl : Int) (T : Int → Int), RF M (v, z, H, tl, T) → LK v → tl = 0 → 0 ≤ v 0 3 ∧ v 0 3 ≤ 10 * t → J p l e R s m args below meth c base D cI cM cS ck sk Z 10 83 [(0, .ref b), (1, .ref (base + 0)), (2, .int (Int32.ofInt t))] [] M := by
    refine down_ind 0 12 ?_ ?_
    · intro M v z H tl T hR hLK htl h3
      refine J.iload_n 2 C dL_law_83 rfl rfl ?_
      refine J.bipush C dL_law_84 (by decide) ?_
      refine J.icmp_ge (tgt := 250) C dL_law_86 (by decide) (by decide) (by decide) (fun h13 => ?_) (fun h => absurd h (by decide))
      refine J.sub (lv' := [(0, .ref b), (1, .ref (base + 0))]) [0, 1] rfl ?_
      exact E250 _ _ _ _ _ _ hR hLK htl
    · intro t ht1 ht2 iht M v z H tl T hR hLK htl h3
      have hS : SI v := hR.1.2.1
      refine J.iload_n 2 C dL_law_83 rfl rfl ?_
      refine J.bipush C dL_law_84 (by decide) ?_
      refine J.icmp_ge (tgt := 250) C dL_law_86 (by decide) ⟨by omega, by omega⟩ (by decide) (fun h => by exfalso; omega) (fun h14 => ?_)
      refine J.aload_n 0 C dL_law_89 rfl rfl ?_
      refine J.iconst C dL_law_90 ?_
      refine J.iload_n 2 C dL_law_91 rfl rfl ?_
      refine J.iadd (x := 3 + t) C dL_law_92 rfl ?_
      refine J.cell C hX hb hL ⟨by omega, by omega⟩ dL_law_93 (by decide) (Nat.le_of_ble_eq_true rfl) (fun y hy => ?_)
      refine J.istore_n (lv' := [(3, .int (Int32.ofInt y)), (0, .ref b), (1, .ref (base + 0)), (2, .int (Int32.ofInt t))]) C dL_law_96 rfl (by decide) rfl ?_
      refine J.aload_n 2 C dL_law_97 rfl rfl ?_
      refine J.callSD (As := [.inr (some 0)]) (rest := []) C dL_law_98 mk_L_84 (c_digest hR) rfl (by decide) rfl (Nat.le_of_ble_eq_true rfl) (fun r9 M9 h9 => ?_)
      obtain ⟨e1, e2⟩ := h9
      rw [e1, e2]
      refine J.lstore (lv' := [(4, .long (dig v)), (3, .int (Int32.ofInt y)), (0, .ref b), (1, .ref (base + 0)), (2, .int (Int32.ofInt t))]) C dL_law_101 (by decide) rfl ?_
      refine J.aload_n 3 C dL_law_103 rfl rfl ?_
      refine J.iconst C dL_law_104 ?_
      refine J.callVI (As := [.inl 5]) (rest := []) C dL_law_105 mk_L_12 sh_0 (lq_count (x := v 0 3) hR 5 (by decide) rfl) rfl (by decide) rfl (Nat.le_of_ble_eq_true rfl) ?_
      refine J.istore (lv' := [(6, .int (Int32.ofInt (v 0 3))), (4, .long (dig v)), (3, .int (Int32.ofInt y)), (0, .ref b), (1, .ref (base + 0)), (2, .int (Int32.ofInt t))]) C dL_law_108 (by decide) rfl ?_
      obtain ⟨r, u, hf, hr, hu⟩ := ac_act (v := v) hS hLK y
      have hz : 0 ≤ z ∧ z ≤ 5 := hR.1.2.2.2.2.2.1
      by_cases hn : r < 0
      · skip
        refine J.aload_n 4 C dL_law_110 rfl rfl ?_
        refine J.iload_n 2 C dL_law_111 rfl rfl ?_
        refine J.callS (As := [.inr (some 0), .inl y]) (rest := []) C dL_law_112 mk_L_88 (c_act _ _ _ _ _ _ hR y) rfl (by decide) rfl (Nat.le_of_ble_eq_true rfl) (fun r9 M9 h9 => ?_)
        rw [hf, if_pos hn] at h9
        have e1 : r9 = some (.inl r) := h9.1
        have hR9 : RF M9 (v, z, H, tl, T) := h9.2.1
        rw [e1]
        refine J.istore (lv' := [(7, .int (Int32.ofInt r)), (6, .int (Int32.ofInt (v 0 3))), (4, .long (dig v)), (3, .int (Int32.ofInt y)), (0, .ref b), (1, .ref (base + 0)), (2, .int (Int32.ofInt t))]) C dL_law_115 (by decide) rfl ?_
        refine J.iload 0 C dL_law_117 rfl ?_
        refine J.if_ge (tgt := 132) C dL_law_119 (by decide) ⟨by omega, by omega⟩ (fun h => by exfalso; omega) (fun h15 => ?_)
        refine J.aload_n 5 C dL_law_122 rfl rfl ?_
        refine J.callSD (As := [.inr (some 0)]) (rest := []) C dL_law_123 mk_L_84 (c_digest hR9) rfl (by decide) rfl (Nat.le_of_ble_eq_true rfl) (fun r9 M9 h9 => ?_)
        obtain ⟨e1, e2⟩ := h9
        rw [e1, e2]
        refine J.lload 2 C dL_law_126 rfl ?_
        refine J.lcmp C dL_law_128 ?_
        refine J.if_ne (tgt := 185) C dL_law_129 (by decide) (by decide) (fun h => absurd h (by decide)) (fun h16 => ?_)
        refine J.aload_n 5 C dL_law_132 rfl rfl ?_
        refine J.callS (As := [.inr (some 0)]) (rest := []) C dL_law_133 mk_L_92 (c_isRight _ _ _ _ _ _ hR9 hLK) rfl (by decide) rfl (Nat.le_of_ble_eq_true rfl) (fun r9 M9 h9 => ?_)
        have e1 : r9 = some (.inl 1) := h9.1
        have hR10 : RF M9 (v, z, H, tl, T) := h9.2
        rw [e1]
        refine J.if_eq (tgt := 185) C dL_law_136 (by decide) (by decide) (fun h => absurd h (by decide)) (fun h17 => ?_)
        refine J.iload 0 C dL_law_139 rfl ?_
        refine J.if_lt (tgt := 187) C dL_law_141 (by decide) ⟨by omega, by omega⟩ (fun h18 => ?_) (fun h => by exfalso; omega)
        refine J.iload 0 C dL_law_187 rfl ?_
        refine J.if_lt (tgt := 244) C dL_law_189 (by decide) ⟨by omega, by omega⟩ (fun h19 => ?_) (fun h => by exfalso; omega)
        refine J.iinc (y := t + 1) (lv' := [(2, .int (Int32.ofInt (t + 1))), (7, .int (Int32.ofInt r)), (6, .int (Int32.ofInt (v 0 3))), (4, .long (dig v)), (3, .int (Int32.ofInt y)), (0, .ref b), (1, .ref (base + 0))]) 6 C dL_law_244 rfl rfl (by decide) rfl ?_
        refine J.goto (tgt := 83) C dL_law_247 (by decide) ?_
        refine J.sub (lv' := [(0, .ref b), (1, .ref (base + 0)), (2, .int (Int32.ofInt (t + 1)))]) [5, 6, 0] rfl ?_
        exact iht _ _ _ _ _ _ hR10 hLK htl ⟨by omega, by omega⟩
      · have hu1 := hu (by omega)
        have hLu := hu1.1
        have hd := hu1.2.2
        refine J.aload_n 4 C dL_law_110 rfl rfl ?_
        refine J.iload_n 2 C dL_law_111 rfl rfl ?_
        refine J.callS (As := [.inr (some 0), .inl y]) (rest := []) C dL_law_112 mk_L_88 (c_act _ _ _ _ _ _ hR y) rfl (by decide) rfl (Nat.le_of_ble_eq_true rfl) (fun r9 M9 h9 => ?_)
        rw [hf, if_neg hn] at h9
        have e1 : r9 = some (.inl r) := h9.1
        have hR11 : RF M9 (u, (imin (z + 1) 5), (pushH H z v), tl, T) := h9.2.1
        rw [e1]
        refine J.istore (lv' := [(7, .int (Int32.ofInt r)), (6, .int (Int32.ofInt (v 0 3))), (4, .long (dig v)), (3, .int (Int32.ofInt y)), (0, .ref b), (1, .ref (base + 0)), (2, .int (Int32.ofInt t))]) C dL_law_115 (by decide) rfl ?_
        refine J.iload 0 C dL_law_117 rfl ?_
        refine J.if_ge (tgt := 132) C dL_law_119 (by decide) ⟨by omega, by omega⟩ (fun h20 => ?_) (fun h => by exfalso; omega)
        refine J.aload_n 5 C dL_law_132 rfl rfl ?_
        refine J.callS (As := [.inr (some 0)]) (rest := []) C dL_law_133 mk_L_92 (c_isRight _ _ _ _ _ _ hR11 hLu) rfl (by decide) rfl (Nat.le_of_ble_eq_true rfl) (fun r9 M9 h9 => ?_)
        have e1 : r9 = some (.inl 1) := h9.1
        have hR12 : RF M9 (u, (imin (z + 1) 5), (pushH H z v), tl, T) := h9.2
        rw [e1]
        refine J.if_eq (tgt := 185) C dL_law_136 (by decide) (by decide) (fun h => absurd h (by decide)) (fun h21 => ?_)
        refine J.iload 0 C dL_law_139 rfl ?_
        refine J.if_lt (tgt := 187) C dL_law_141 (by decide) ⟨by omega, by omega⟩ (fun h => by exfalso; omega) (fun h22 => ?_)
        refine J.iload_n 3 C dL_law_144 rfl rfl ?_
        refine J.bipush C dL_law_145 (by decide) ?_
        refine J.iand (x := iAnd y 15) C dL_law_147 rfl ?_
        refine J.bipush C dL_law_148 (by decide) ?_
        refine J.icmp_eq (tgt := 162) C dL_law_150 (by decide) (iAnd_inR _ _) (by decide) (fun h150 => ?_) (fun h150 => ?_)
        · skip
          have hd2 := hd.1 (Or.inl h150)
          refine J.iconst C dL_law_162 ?_
          refine J.goto (tgt := 167) C dL_law_163 (by decide) ?_
          refine J.aload_n 5 C dL_law_167 rfl rfl ?_
          refine J.iconst C dL_law_168 ?_
          refine J.callVI (As := [.inl 5]) (rest := [.int (Int32.ofInt 1)]) C dL_law_169 mk_L_12 sh_0 (lq_count (x := u 0 3) hR12 5 (by decide) rfl) rfl (by decide) rfl (Nat.le_of_ble_eq_true rfl) ?_
          refine J.iload 1 C dL_law_172 rfl ?_
          refine J.icmp_le (tgt := 181) C dL_law_174 (by decide) ⟨by omega, by omega⟩ ⟨by omega, by omega⟩ (fun h => by exfalso; omega) (fun h24 => ?_)
          refine J.iconst C dL_law_177 ?_
          refine J.goto (tgt := 182) C dL_law_178 (by decide) ?_
          refine J.icmp_eq (tgt := 187) C dL_law_182 (by decide) (by decide) (by decide) (fun h25 => ?_) (fun h => absurd h (by decide))
          refine J.iload 0 C dL_law_187 rfl ?_
          refine J.if_lt (tgt := 244) C dL_law_189 (by decide) ⟨by omega, by omega⟩ (fun h => by exfalso; omega) (fun h26 => ?_)
          refine J.iload_n 6 C dL_law_192 rfl rfl ?_
          refine J.iconst C dL_law_193 ?_
          refine J.iand (x := iAnd t 3) C dL_law_194 rfl ?_
          refine J.iconst C dL_law_195 ?_
          refine J.icmp_ne (tgt := 244) C dL_law_196 (by decide) (iAnd_inR _ _) (by decide) (fun h27 => ?_) (fun h27 => ?_)
          · skip
            refine J.iinc (y := t + 1) (lv' := [(2, .int (Int32.ofInt (t + 1))), (7, .int (Int32.ofInt r)), (6, .int (Int32.ofInt (v 0 3))), (4, .long (dig v)), (3, .int (Int32.ofInt y)), (0, .ref b), (1, .ref (base + 0))]) 6 C dL_law_244 rfl rfl (by decide) rfl ?_
            refine J.goto (tgt := 83) C dL_law_247 (by decide) ?_
            refine J.sub (lv' := [(0, .ref b), (1, .ref (base + 0)), (2, .int (Int32.ofInt (t + 1)))]) [5, 6, 0] rfl ?_
            exact iht _ _ _ _ _ _ hR12 hLu htl ⟨by omega, by omega⟩
          · skip
            refine J.aload_n 5 C dL_law_199 rfl rfl ?_
            refine J.callSD (As := [.inr (some 0)]) (rest := []) C dL_law_200 mk_L_84 (c_digest hR12) rfl (by decide) rfl (Nat.le_of_ble_eq_true rfl) (fun r9 M9 h9 => ?_)
            obtain ⟨e1, e2⟩ := h9
            rw [e1, e2]
            refine J.lstore (lv' := [(8, .long (dig u)), (7, .int (Int32.ofInt r)), (6, .int (Int32.ofInt (v 0 3))), (4, .long (dig v)), (3, .int (Int32.ofInt y)), (0, .ref b), (1, .ref (base + 0)), (2, .int (Int32.ofInt t))]) C dL_law_203 (by decide) rfl ?_
            refine J.aload_n 6 C dL_law_205 rfl rfl ?_
            refine J.callV (As := []) (rest := []) C dL_law_206 mk_L_96 sh_0 (c_undo _ _ _ _ _ _ hR12) rfl (by decide) rfl (Nat.le_of_ble_eq_true rfl) (fun r9 M9 h9 => ?_)
            rw [undo_last hz] at h9
            have e1 : r9 = some (.inl (imin (z + 1) 5 - 1)) := h9.1
            have hR13 : RF M9 (v, (imin (z + 1) 5 - 1), (pushH H z v), tl, T) := h9.2.1
            rw [e1]
            have hip := imin_pos hz
            refine J.if_lt (tgt := 242) C dL_law_209 (by decide) ⟨by omega, by omega⟩ (fun h => by exfalso; omega) (fun h28 => ?_)
            refine J.aload_n 6 C dL_law_212 rfl rfl ?_
            refine J.callSD (As := [.inr (some 0)]) (rest := []) C dL_law_213 mk_L_84 (c_digest hR13) rfl (by decide) rfl (Nat.le_of_ble_eq_true rfl) (fun r9 M9 h9 => ?_)
            obtain ⟨e1, e2⟩ := h9
            rw [e1, e2]
            refine J.lload 3 C dL_law_216 rfl ?_
            refine J.lcmp C dL_law_218 ?_
            refine J.if_ne (tgt := 242) C dL_law_219 (by decide) (by decide) (fun h => absurd h (by decide)) (fun h29 => ?_)
            refine J.aload_n 6 C dL_law_222 rfl rfl ?_
            refine J.iload_n 4 C dL_law_223 rfl rfl ?_
            refine J.callS (As := [.inr (some 0), .inl y]) (rest := []) C dL_law_224 mk_L_88 (c_act _ _ _ _ _ _ hR13 y) rfl (by decide) rfl (Nat.le_of_ble_eq_true rfl) (fun r9 M9 h9 => ?_)
            rw [hf, if_neg hn] at h9
            have e1 : r9 = some (.inl r) := h9.1
            have hR14 : RF M9 (u, (imin ((imin (z + 1) 5 - 1) + 1) 5), (pushH (pushH H z v) (imin (z + 1) 5 - 1) v), tl, T) := h9.2.1
            rw [e1]
            refine J.iload 1 C dL_law_227 rfl ?_
            refine J.icmp_ne (tgt := 242) C dL_law_229 (by decide) ⟨by omega, by omega⟩ ⟨by omega, by omega⟩ (fun h => by exfalso; omega) (fun h30 => ?_)
            refine J.aload_n 6 C dL_law_232 rfl rfl ?_
            refine J.callSD (As := [.inr (some 0)]) (rest := []) C dL_law_233 mk_L_84 (c_digest hR14) rfl (by decide) rfl (Nat.le_of_ble_eq_true rfl) (fun r9 M9 h9 => ?_)
            obtain ⟨e1, e2⟩ := h9
            rw [e1, e2]
            refine J.lload 0 C dL_law_236 rfl ?_
            refine J.lcmp C dL_law_238 ?_
            refine J.if_eq (tgt := 244) C dL_law_239 (by decide) (by decide) (fun h31 => ?_) (fun h => absurd h (by decide))
            refine J.iinc (y := t + 1) (lv' := [(2, .int (Int32.ofInt (t + 1))), (8, .long (dig u)), (7, .int (Int32.ofInt r)), (6, .int (Int32.ofInt (v 0 3))), (4, .long (dig v)), (3, .int (Int32.ofInt y)), (0, .ref b), (1, .ref (base + 0))]) 7 C dL_law_244 rfl rfl (by decide) rfl ?_
            refine J.goto (tgt := 83) C dL_law_247 (by decide) ?_
            refine J.sub (lv' := [(0, .ref b), (1, .ref (base + 0)), (2, .int (Int32.ofInt (t + 1)))]) [6, 7, 0] rfl ?_
            exact iht _ _ _ _ _ _ hR14 hLu htl ⟨by omega, by omega⟩
        · skip
          refine J.iload_n 3 C dL_law_153 rfl rfl ?_
          refine J.bipush C dL_law_154 (by decide) ?_
          refine J.iand (x := iAnd y 15) C dL_law_156 rfl ?_
          refine J.bipush C dL_law_157 (by decide) ?_
          refine J.icmp_ne (tgt := 166) C dL_law_159 (by decide) (iAnd_inR _ _) (by decide) (fun h159 => ?_) (fun h159 => ?_)
          · skip
            have hd2 : u 0 3 - v 0 3 = 0 := hd.2 (fun q => q.elim h150 h159)
            refine J.iconst C dL_law_166 ?_
            refine J.aload_n 5 C dL_law_167 rfl rfl ?_
            refine J.iconst C dL_law_168 ?_
            refine J.callVI (As := [.inl 5]) (rest := [.int (Int32.ofInt 0)]) C dL_law_169 mk_L_12 sh_0 (lq_count (x := u 0 3) hR12 5 (by decide) rfl) rfl (by decide) rfl (Nat.le_of_ble_eq_true rfl) ?_
            refine J.iload 1 C dL_law_172 rfl ?_
            refine J.icmp_le (tgt := 181) C dL_law_174 (by decide) ⟨by omega, by omega⟩ ⟨by omega, by omega⟩ (fun h33 => ?_) (fun h => by exfalso; omega)
            refine J.iconst C dL_law_181 ?_
            refine J.icmp_eq (tgt := 187) C dL_law_182 (by decide) (by decide) (by decide) (fun h34 => ?_) (fun h => absurd h (by decide))
            refine J.iload 0 C dL_law_187 rfl ?_
            refine J.if_lt (tgt := 244) C dL_law_189 (by decide) ⟨by omega, by omega⟩ (fun h => by exfalso; omega) (fun h35 => ?_)
            refine J.iload_n 6 C dL_law_192 rfl rfl ?_
            refine J.iconst C dL_law_193 ?_
            refine J.iand (x := iAnd t 3) C dL_law_194 rfl ?_
            refine J.iconst C dL_law_195 ?_
            refine J.icmp_ne (tgt := 244) C dL_law_196 (by decide) (iAnd_inR _ _) (by decide) (fun h36 => ?_) (fun h36 => ?_)
            · skip
              refine J.iinc (y := t + 1) (lv' := [(2, .int (Int32.ofInt (t + 1))), (7, .int (Int32.ofInt r)), (6, .int (Int32.ofInt (v 0 3))), (4, .long (dig v)), (3, .int (Int32.ofInt y)), (0, .ref b), (1, .ref (base + 0))]) 6 C dL_law_244 rfl rfl (by decide) rfl ?_
              refine J.goto (tgt := 83) C dL_law_247 (by decide) ?_
              refine J.sub (lv' := [(0, .ref b), (1, .ref (base + 0)), (2, .int (Int32.ofInt (t + 1)))]) [5, 6, 0] rfl ?_
              exact iht _ _ _ _ _ _ hR12 hLu htl ⟨by omega, by omega⟩
            · skip
              refine J.aload_n 5 C dL_law_199 rfl rfl ?_
              refine J.callSD (As := [.inr (some 0)]) (rest := []) C dL_law_200 mk_L_84 (c_digest hR12) rfl (by decide) rfl (Nat.le_of_ble_eq_true rfl) (fun r9 M9 h9 => ?_)
              obtain ⟨e1, e2⟩ := h9
              rw [e1, e2]
              refine J.lstore (lv' := [(8, .long (dig u)), (7, .int (Int32.ofInt r)), (6, .int (Int32.ofInt (v 0 3))), (4, .long (dig v)), (3, .int (Int32.ofInt y)), (0, .ref b), (1, .ref (base + 0)), (2, .int (Int32.ofInt t))]) C dL_law_203 (by decide) rfl ?_
              refine J.aload_n 6 C dL_law_205 rfl rfl ?_
              refine J.callV (As := []) (rest := []) C dL_law_206 mk_L_96 sh_0 (c_undo _ _ _ _ _ _ hR12) rfl (by decide) rfl (Nat.le_of_ble_eq_true rfl) (fun r9 M9 h9 => ?_)
              rw [undo_last hz] at h9
              have e1 : r9 = some (.inl (imin (z + 1) 5 - 1)) := h9.1
              have hR15 : RF M9 (v, (imin (z + 1) 5 - 1), (pushH H z v), tl, T) := h9.2.1
              rw [e1]
              have hip := imin_pos hz
              refine J.if_lt (tgt := 242) C dL_law_209 (by decide) ⟨by omega, by omega⟩ (fun h => by exfalso; omega) (fun h37 => ?_)
              refine J.aload_n 6 C dL_law_212 rfl rfl ?_
              refine J.callSD (As := [.inr (some 0)]) (rest := []) C dL_law_213 mk_L_84 (c_digest hR15) rfl (by decide) rfl (Nat.le_of_ble_eq_true rfl) (fun r9 M9 h9 => ?_)
              obtain ⟨e1, e2⟩ := h9
              rw [e1, e2]
              refine J.lload 3 C dL_law_216 rfl ?_
              refine J.lcmp C dL_law_218 ?_
              refine J.if_ne (tgt := 242) C dL_law_219 (by decide) (by decide) (fun h => absurd h (by decide)) (fun h38 => ?_)
              refine J.aload_n 6 C dL_law_222 rfl rfl ?_
              refine J.iload_n 4 C dL_law_223 rfl rfl ?_
              refine J.callS (As := [.inr (some 0), .inl y]) (rest := []) C dL_law_224 mk_L_88 (c_act _ _ _ _ _ _ hR15 y) rfl (by decide) rfl (Nat.le_of_ble_eq_true rfl) (fun r9 M9 h9 => ?_)
              rw [hf, if_neg hn] at h9
              have e1 : r9 = some (.inl r) := h9.1
              have hR16 : RF M9 (u, (imin ((imin (z + 1) 5 - 1) + 1) 5), (pushH (pushH H z v) (imin (z + 1) 5 - 1) v), tl, T) := h9.2.1
              rw [e1]
              refine J.iload 1 C dL_law_227 rfl ?_
              refine J.icmp_ne (tgt := 242) C dL_law_229 (by decide) ⟨by omega, by omega⟩ ⟨by omega, by omega⟩ (fun h => by exfalso; omega) (fun h39 => ?_)
              refine J.aload_n 6 C dL_law_232 rfl rfl ?_
              refine J.callSD (As := [.inr (some 0)]) (rest := []) C dL_law_233 mk_L_84 (c_digest hR16) rfl (by decide) rfl (Nat.le_of_ble_eq_true rfl) (fun r9 M9 h9 => ?_)
              obtain ⟨e1, e2⟩ := h9
              rw [e1, e2]
              refine J.lload 0 C dL_law_236 rfl ?_
              refine J.lcmp C dL_law_238 ?_
              refine J.if_eq (tgt := 244) C dL_law_239 (by decide) (by decide) (fun h40 => ?_) (fun h => absurd h (by decide))
              refine J.iinc (y := t + 1) (lv' := [(2, .int (Int32.ofInt (t + 1))), (8, .long (dig u)), (7, .int (Int32.ofInt r)), (6, .int (Int32.ofInt (v 0 3))), (4, .long (dig v)), (3, .int (Int32.ofInt y)), (0, .ref b), (1, .ref (base + 0))]) 7 C dL_law_244 rfl rfl (by decide) rfl ?_
              refine J.goto (tgt := 83) C dL_law_247 (by decide) ?_
              refine J.sub (lv' := [(0, .ref b), (1, .ref (base + 0)), (2, .int (Int32.ofInt (t + 1)))]) [6, 7, 0] rfl ?_
              exact iht _ _ _ _ _ _ hR16 hLu htl ⟨by omega, by omega⟩
          · skip
            have hd2 := hd.1 (Or.inr h159)
            refine J.iconst C dL_law_162 ?_
            refine J.goto (tgt := 167) C dL_law_163 (by decide) ?_
            refine J.aload_n 5 C dL_law_167 rfl rfl ?_
            refine J.iconst C dL_law_168 ?_
            refine J.callVI (As := [.inl 5]) (rest := [.int (Int32.ofInt 1)]) C dL_law_169 mk_L_12 sh_0 (lq_count (x := u 0 3) hR12 5 (by decide) rfl) rfl (by decide) rfl (Nat.le_of_ble_eq_true rfl) ?_
            refine J.iload 1 C dL_law_172 rfl ?_
            refine J.icmp_le (tgt := 181) C dL_law_174 (by decide) ⟨by omega, by omega⟩ ⟨by omega, by omega⟩ (fun h => by exfalso; omega) (fun h41 => ?_)
            refine J.iconst C dL_law_177 ?_
            refine J.goto (tgt := 182) C dL_law_178 (by decide) ?_
            refine J.icmp_eq (tgt := 187) C dL_law_182 (by decide) (by decide) (by decide) (fun h42 => ?_) (fun h => absurd h (by decide))
            refine J.iload 0 C dL_law_187 rfl ?_
            refine J.if_lt (tgt := 244) C dL_law_189 (by decide) ⟨by omega, by omega⟩ (fun h => by exfalso; omega) (fun h43 => ?_)
            refine J.iload_n 6 C dL_law_192 rfl rfl ?_
            refine J.iconst C dL_law_193 ?_
            refine J.iand (x := iAnd t 3) C dL_law_194 rfl ?_
            refine J.iconst C dL_law_195 ?_
            refine J.icmp_ne (tgt := 244) C dL_law_196 (by decide) (iAnd_inR _ _) (by decide) (fun h44 => ?_) (fun h44 => ?_)
            · skip
              refine J.iinc (y := t + 1) (lv' := [(2, .int (Int32.ofInt (t + 1))), (7, .int (Int32.ofInt r)), (6, .int (Int32.ofInt (v 0 3))), (4, .long (dig v)), (3, .int (Int32.ofInt y)), (0, .ref b), (1, .ref (base + 0))]) 6 C dL_law_244 rfl rfl (by decide) rfl ?_
              refine J.goto (tgt := 83) C dL_law_247 (by decide) ?_
              refine J.sub (lv' := [(0, .ref b), (1, .ref (base + 0)), (2, .int (Int32.ofInt (t + 1)))]) [5, 6, 0] rfl ?_
              exact iht _ _ _ _ _ _ hR12 hLu htl ⟨by omega, by omega⟩
            · skip
              refine J.aload_n 5 C dL_law_199 rfl rfl ?_
              refine J.callSD (As := [.inr (some 0)]) (rest := []) C dL_law_200 mk_L_84 (c_digest hR12) rfl (by decide) rfl (Nat.le_of_ble_eq_true rfl) (fun r9 M9 h9 => ?_)
              obtain ⟨e1, e2⟩ := h9
              rw [e1, e2]
              refine J.lstore (lv' := [(8, .long (dig u)), (7, .int (Int32.ofInt r)), (6, .int (Int32.ofInt (v 0 3))), (4, .long (dig v)), (3, .int (Int32.ofInt y)), (0, .ref b), (1, .ref (base + 0)), (2, .int (Int32.ofInt t))]) C dL_law_203 (by decide) rfl ?_
              refine J.aload_n 6 C dL_law_205 rfl rfl ?_
              refine J.callV (As := []) (rest := []) C dL_law_206 mk_L_96 sh_0 (c_undo _ _ _ _ _ _ hR12) rfl (by decide) rfl (Nat.le_of_ble_eq_true rfl) (fun r9 M9 h9 => ?_)
              rw [undo_last hz] at h9
              have e1 : r9 = some (.inl (imin (z + 1) 5 - 1)) := h9.1
              have hR17 : RF M9 (v, (imin (z + 1) 5 - 1), (pushH H z v), tl, T) := h9.2.1
              rw [e1]
              have hip := imin_pos hz
              refine J.if_lt (tgt := 242) C dL_law_209 (by decide) ⟨by omega, by omega⟩ (fun h => by exfalso; omega) (fun h45 => ?_)
              refine J.aload_n 6 C dL_law_212 rfl rfl ?_
              refine J.callSD (As := [.inr (some 0)]) (rest := []) C dL_law_213 mk_L_84 (c_digest hR17) rfl (by decide) rfl (Nat.le_of_ble_eq_true rfl) (fun r9 M9 h9 => ?_)
              obtain ⟨e1, e2⟩ := h9
              rw [e1, e2]
              refine J.lload 3 C dL_law_216 rfl ?_
              refine J.lcmp C dL_law_218 ?_
              refine J.if_ne (tgt := 242) C dL_law_219 (by decide) (by decide) (fun h => absurd h (by decide)) (fun h46 => ?_)
              refine J.aload_n 6 C dL_law_222 rfl rfl ?_
              refine J.iload_n 4 C dL_law_223 rfl rfl ?_
              refine J.callS (As := [.inr (some 0), .inl y]) (rest := []) C dL_law_224 mk_L_88 (c_act _ _ _ _ _ _ hR17 y) rfl (by decide) rfl (Nat.le_of_ble_eq_true rfl) (fun r9 M9 h9 => ?_)
              rw [hf, if_neg hn] at h9
              have e1 : r9 = some (.inl r) := h9.1
              have hR18 : RF M9 (u, (imin ((imin (z + 1) 5 - 1) + 1) 5), (pushH (pushH H z v) (imin (z + 1) 5 - 1) v), tl, T) := h9.2.1
              rw [e1]
              refine J.iload 1 C dL_law_227 rfl ?_
              refine J.icmp_ne (tgt := 242) C dL_law_229 (by decide) ⟨by omega, by omega⟩ ⟨by omega, by omega⟩ (fun h => by exfalso; omega) (fun h47 => ?_)
              refine J.aload_n 6 C dL_law_232 rfl rfl ?_
              refine J.callSD (As := [.inr (some 0)]) (rest := []) C dL_law_233 mk_L_84 (c_digest hR18) rfl (by decide) rfl (Nat.le_of_ble_eq_true rfl) (fun r9 M9 h9 => ?_)
              obtain ⟨e1, e2⟩ := h9
              rw [e1, e2]
              refine J.lload 0 C dL_law_236 rfl ?_
              refine J.lcmp C dL_law_238 ?_
              refine J.if_eq (tgt := 244) C dL_law_239 (by decide) (by decide) (fun h48 => ?_) (fun h => absurd h (by decide))
              refine J.iinc (y := t + 1) (lv' := [(2, .int (Int32.ofInt (t + 1))), (8, .long (dig u)), (7, .int (Int32.ofInt r)), (6, .int (Int32.ofInt (v 0 3))), (4, .long (dig v)), (3, .int (Int32.ofInt y)), (0, .ref b), (1, .ref (base + 0))]) 7 C dL_law_244 rfl rfl (by decide) rfl ?_
              refine J.goto (tgt := 83) C dL_law_247 (by decide) ?_
              refine J.sub (lv' := [(0, .ref b), (1, .ref (base + 0)), (2, .int (Int32.ofInt (t + 1)))]) [6, 7, 0] rfl ?_
              exact iht _ _ _ _ _ _ hR18 hLu htl ⟨by omega, by omega⟩
  have L10 : ∀ k : Int, 0 ≤ k → k ≤ 3 → ∀ (M : Mem) (v : Vw) (z : Int) (H : Int → Vw) (tl : Int) (T : Int → Int), RF M (v, z, H, tl, T) → LK v → tl = 0 → v 0 0 ≤ k ∧ v 0 3 = 0 → J p l e R s m args below meth c base D cI cM cS ck sk Z 10 10 [(0, .ref b), (1, .ref (base + 0)), (2, .int (Int32.ofInt k))] [] M := by
    refine down_ind 0 3 ?_ ?_
    · intro M v z H tl T hR hLK htl h3
      refine J.iload_n 2 C dL_law_10 rfl rfl ?_
      refine J.iconst C dL_law_11 ?_
      refine J.icmp_ge (tgt := 81) C dL_law_12 (by decide) (by decide) (by decide) (fun h49 => ?_) (fun h => absurd h (by decide))
      refine J.iconst C dL_law_81 ?_
      refine J.istore_n (lv' := [(2, .int (Int32.ofInt 0)), (0, .ref b), (1, .ref (base + 0))]) C dL_law_82 rfl (by decide) rfl ?_
      refine J.sub (lv' := [(0, .ref b), (1, .ref (base + 0)), (2, .int (Int32.ofInt 0))]) [1, 2, 0] rfl ?_
      exact L83 0 (by omega) (by omega) _ _ _ _ _ _ hR hLK htl ⟨by omega, by omega⟩
    · intro k hk1 hk2 ihk M v z H tl T hR hLK htl h3
      have hS : SI v := hR.1.2.1
      have n0 := hS.n0
      refine J.iload_n 2 C dL_law_10 rfl rfl ?_
      refine J.iconst C dL_law_11 ?_
      refine J.icmp_ge (tgt := 81) C dL_law_12 (by decide) ⟨by omega, by omega⟩ (by decide) (fun h => by exfalso; omega) (fun h50 => ?_)
      refine J.aload_n 0 C dL_law_15 rfl rfl ?_
      refine J.iload_n 2 C dL_law_16 rfl rfl ?_
      refine J.cell C hX hb hL ⟨by omega, by omega⟩ dL_law_17 (by decide) (Nat.le_of_ble_eq_true rfl) (fun y hy => ?_)
      refine J.istore_n (lv' := [(3, .int (Int32.ofInt y)), (0, .ref b), (1, .ref (base + 0)), (2, .int (Int32.ofInt k))]) C dL_law_20 rfl (by decide) rfl ?_
      rcases la_addS (sd := iAnd k 1) (c := lo y 12) (r := lo (iShr y 4) 10) (g := 1 + lo (iShr y 6) 4) hS hLK.2 (show 0 ≤ iAnd k 1 ∧ iAnd k 1 ≤ 1 from iAnd_mask k (n := 1) (by decide)) (by have := lo_r y (n := 12) (by decide); have := lo_r (iShr y 4) (n := 10) (by decide); omega) (by have := lo_r (iShr y 6) (n := 4) (by decide); omega) (by omega) z H tl T with hc | ⟨u, hc, hLu, hu0, hu3⟩
      · skip
        refine J.aload_n 2 C dL_law_21 rfl rfl ?_
        refine J.iload_n 3 C dL_law_22 rfl rfl ?_
        refine J.iconst C dL_law_23 ?_
        refine J.iand (x := iAnd k 1) C dL_law_24 rfl ?_
        refine J.iload_n 0 C dL_law_25 rfl rfl ?_
        refine J.bipush C dL_law_26 (by decide) ?_
        refine J.callSI (As := [.inl y, .inl 12]) (rest := [.int (Int32.ofInt (iAnd k 1)), .ref (base + 0)]) C dL_law_28 mk_L_33 (c_low _ y 12 (by decide)) rfl (by decide) rfl (Nat.le_of_ble_eq_true rfl) ?_
        refine J.iload_n 0 C dL_law_31 rfl rfl ?_
        refine J.iconst C dL_law_32 ?_
        refine J.ishr (x := iShr y 4) C dL_law_33 rfl ?_
        refine J.bipush C dL_law_34 (by decide) ?_
        refine J.callSI (As := [.inl (iShr y 4), .inl 10]) (rest := [.int (Int32.ofInt (lo y 12)), .int (Int32.ofInt (iAnd k 1)), .ref (base + 0)]) C dL_law_36 mk_L_33 (c_low _ (iShr y 4) 10 (by decide)) rfl (by decide) rfl (Nat.le_of_ble_eq_true rfl) ?_
        refine J.iconst C dL_law_39 ?_
        refine J.iload_n 0 C dL_law_40 rfl rfl ?_
        refine J.bipush C dL_law_41 (by decide) ?_
        refine J.ishr (x := iShr y 6) C dL_law_43 rfl ?_
        refine J.iconst C dL_law_44 ?_
        refine J.callSI (As := [.inl (iShr y 6), .inl 4]) (rest := [.int (Int32.ofInt 1), .int (Int32.ofInt (lo (iShr y 4) 10)), .int (Int32.ofInt (lo y 12)), .int (Int32.ofInt (iAnd k 1)), .ref (base + 0)]) C dL_law_45 mk_L_33 (c_low _ (iShr y 6) 4 (by decide)) rfl (by decide) rfl (Nat.le_of_ble_eq_true rfl) ?_
        refine J.iadd (x := 1 + (lo (iShr y 6) 4)) C dL_law_48 rfl ?_
        refine J.callV (As := [.inl (iAnd k 1), .inl (lo y 12), .inl (lo (iShr y 4) 10), .inl (1 + (lo (iShr y 6) 4))]) (rest := []) C dL_law_49 mk_L_44 sh_0 (c_addScout _ _ _ _ _ _ hR (iAnd k 1) (lo y 12) (lo (iShr y 4) 10) (1 + (lo (iShr y 6) 4)) (iAnd_inR _ _) (lo_in _ (by decide)) (lo_in _ (by decide)) (lo_in1 _ (by decide))) rfl (by decide) rfl (Nat.le_of_ble_eq_true rfl) (fun r9 M9 h9 => ?_)
        rw [hc] at h9
        have e1 : r9 = some (.inl (-12)) := h9.1
        have hR19 : RF M9 (v, z, H, tl, T) := h9.2.1
        rw [e1]
        refine J.istore (lv' := [(4, .int (Int32.ofInt (-12))), (3, .int (Int32.ofInt y)), (0, .ref b), (1, .ref (base + 0)), (2, .int (Int32.ofInt k))]) C dL_law_52 (by decide) rfl ?_
        refine J.iload 0 C dL_law_54 rfl ?_
        refine J.aload_n 3 C dL_law_56 rfl rfl ?_
        refine J.iconst C dL_law_57 ?_
        refine J.callVI (As := [.inl 0]) (rest := [.int (Int32.ofInt (-12))]) C dL_law_58 mk_L_12 sh_0 (lq_count (x := v 0 0) hR19 0 (by decide) rfl) rfl (by decide) rfl (Nat.le_of_ble_eq_true rfl) ?_
        refine J.iconst C dL_law_61 ?_
        refine J.isub (x := (v 0 0) - 1) C dL_law_62 rfl ?_
        refine J.icmp_eq (tgt := 75) C dL_law_63 (by decide) (by decide) ⟨by omega, by omega⟩ (fun h => by exfalso; omega) (fun h51 => ?_)
        refine J.iload 0 C dL_law_66 rfl ?_
        refine J.bipush C dL_law_68 (by decide) ?_
        refine J.icmp_eq (tgt := 75) C dL_law_70 (by decide) (by decide) (by decide) (fun h52 => ?_) (fun h => absurd h (by decide))
        refine J.iinc (y := k + 1) (lv' := [(2, .int (Int32.ofInt (k + 1))), (4, .int (Int32.ofInt (-12))), (3, .int (Int32.ofInt y)), (0, .ref b), (1, .ref (base + 0))]) 4 C dL_law_75 rfl rfl (by decide) rfl ?_
        refine J.goto (tgt := 10) C dL_law_78 (by decide) ?_
        refine J.sub (lv' := [(0, .ref b), (1, .ref (base + 0)), (2, .int (Int32.ofInt (k + 1)))]) [3, 4, 0] rfl ?_
        exact ihk _ _ _ _ _ _ hR19 hLK htl ⟨by omega, by omega⟩
      · skip
        refine J.aload_n 2 C dL_law_21 rfl rfl ?_
        refine J.iload_n 3 C dL_law_22 rfl rfl ?_
        refine J.iconst C dL_law_23 ?_
        refine J.iand (x := iAnd k 1) C dL_law_24 rfl ?_
        refine J.iload_n 0 C dL_law_25 rfl rfl ?_
        refine J.bipush C dL_law_26 (by decide) ?_
        refine J.callSI (As := [.inl y, .inl 12]) (rest := [.int (Int32.ofInt (iAnd k 1)), .ref (base + 0)]) C dL_law_28 mk_L_33 (c_low _ y 12 (by decide)) rfl (by decide) rfl (Nat.le_of_ble_eq_true rfl) ?_
        refine J.iload_n 0 C dL_law_31 rfl rfl ?_
        refine J.iconst C dL_law_32 ?_
        refine J.ishr (x := iShr y 4) C dL_law_33 rfl ?_
        refine J.bipush C dL_law_34 (by decide) ?_
        refine J.callSI (As := [.inl (iShr y 4), .inl 10]) (rest := [.int (Int32.ofInt (lo y 12)), .int (Int32.ofInt (iAnd k 1)), .ref (base + 0)]) C dL_law_36 mk_L_33 (c_low _ (iShr y 4) 10 (by decide)) rfl (by decide) rfl (Nat.le_of_ble_eq_true rfl) ?_
        refine J.iconst C dL_law_39 ?_
        refine J.iload_n 0 C dL_law_40 rfl rfl ?_
        refine J.bipush C dL_law_41 (by decide) ?_
        refine J.ishr (x := iShr y 6) C dL_law_43 rfl ?_
        refine J.iconst C dL_law_44 ?_
        refine J.callSI (As := [.inl (iShr y 6), .inl 4]) (rest := [.int (Int32.ofInt 1), .int (Int32.ofInt (lo (iShr y 4) 10)), .int (Int32.ofInt (lo y 12)), .int (Int32.ofInt (iAnd k 1)), .ref (base + 0)]) C dL_law_45 mk_L_33 (c_low _ (iShr y 6) 4 (by decide)) rfl (by decide) rfl (Nat.le_of_ble_eq_true rfl) ?_
        refine J.iadd (x := 1 + (lo (iShr y 6) 4)) C dL_law_48 rfl ?_
        refine J.callV (As := [.inl (iAnd k 1), .inl (lo y 12), .inl (lo (iShr y 4) 10), .inl (1 + (lo (iShr y 6) 4))]) (rest := []) C dL_law_49 mk_L_44 sh_0 (c_addScout _ _ _ _ _ _ hR (iAnd k 1) (lo y 12) (lo (iShr y 4) 10) (1 + (lo (iShr y 6) 4)) (iAnd_inR _ _) (lo_in _ (by decide)) (lo_in _ (by decide)) (lo_in1 _ (by decide))) rfl (by decide) rfl (Nat.le_of_ble_eq_true rfl) (fun r9 M9 h9 => ?_)
        rw [hc] at h9
        have e1 : r9 = some (.inl (v 0 0)) := h9.1
        have hR20 : RF M9 (u, (imin (z + 1) 5), (pushH H z v), tl, T) := h9.2.1
        rw [e1]
        refine J.istore (lv' := [(4, .int (Int32.ofInt (v 0 0))), (3, .int (Int32.ofInt y)), (0, .ref b), (1, .ref (base + 0)), (2, .int (Int32.ofInt k))]) C dL_law_52 (by decide) rfl ?_
        refine J.iload 0 C dL_law_54 rfl ?_
        refine J.aload_n 3 C dL_law_56 rfl rfl ?_
        refine J.iconst C dL_law_57 ?_
        refine J.callVI (As := [.inl 0]) (rest := [.int (Int32.ofInt (v 0 0))]) C dL_law_58 mk_L_12 sh_0 (lq_count (x := v 0 0 + 1) hR20 0 (by decide) (show u 0 0 = v 0 0 + 1 from hu0)) rfl (by decide) rfl (Nat.le_of_ble_eq_true rfl) ?_
        refine J.iconst C dL_law_61 ?_
        refine J.isub (x := (v 0 0 + 1) - 1) C dL_law_62 rfl ?_
        refine J.icmp_eq (tgt := 75) C dL_law_63 (by decide) ⟨by omega, by omega⟩ ⟨by omega, by omega⟩ (fun h53 => ?_) (fun h => by exfalso; omega)
        refine J.iinc (y := k + 1) (lv' := [(2, .int (Int32.ofInt (k + 1))), (4, .int (Int32.ofInt (v 0 0))), (3, .int (Int32.ofInt y)), (0, .ref b), (1, .ref (base + 0))]) 4 C dL_law_75 rfl rfl (by decide) rfl ?_
        refine J.goto (tgt := 10) C dL_law_78 (by decide) ?_
        refine J.sub (lv' := [(0, .ref b), (1, .ref (base + 0)), (2, .int (Int32.ofInt (k + 1)))]) [3, 4, 0] rfl ?_
        exact ihk _ _ _ _ _ _ hR20 hLu htl ⟨by omega, by omega⟩
  exact L10 0 (by omega) (by omega) _ _ _ _ _ _ hR0 hL0 rfl ⟨by omega, h03⟩
