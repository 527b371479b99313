def alw (v : Vw) (ch c r : Int) : Prop := c < 12 ∧ ((ch = 35 ∧ sIn v (r * 12 + c) = -19) ∨ (¬ ch = 35 ∧ 48 ≤ ch ∧ ch ≤ 57))
/-- what a character tells of its cell -/
def tval (ch : Int) : Int := if ch = 35 then 10 else ch - 48
noncomputable def rdT (T : Int → Int) (v : Vw) (n : Int) : Nat → Int → Int → Int → (Int → Int) → Int × (Int → Int)
  | 0, _, c, r, g => (if 0 < c then -1000 - n else r, g)
  | f + 1, i, c, r, g => if T i = 32 then rdT T v n f (i + 1) c r g else if 10 ≤ r then (-1000 - i, g) else if T i = 59 then rdT T v n f (i + 1) 0 (r + 1) g else @ite _ (alw v (T i) c r) (Classical.propDecidable _) (rdT T v n f (i + 1) (c + 1) r (fun j => if j = r * 12 + c then tval (T i) else g j)) (-1000 - i, g)
theorem rdT_step {T : Int → Int} {v : Vw} {n i c r : Int} {g : Int → Int} (h : i < n) : rdT T v n (n - i).toNat i c r g = if T i = 32 then rdT T v n (n - (i + 1)).toNat (i + 1) c r g else if 10 ≤ r then (-1000 - i, g) else if T i = 59 then rdT T v n (n - (i + 1)).toNat (i + 1) 0 (r + 1) g else @ite _ (alw v (T i) c r) (Classical.propDecidable _) (rdT T v n (n - (i + 1)).toNat (i + 1) (c + 1) r (fun j => if j = r * 12 + c then tval (T i) else g j)) (-1000 - i, g) := by
  rw [show (n - i).toNat = (n - (i + 1)).toNat + 1 by omega]; rfl
theorem rdT_end {T : Int → Int} {v : Vw} {n c r : Int} {g : Int → Int} : rdT T v n (n - n).toNat n c r g = (if 0 < c then -1000 - n else r, g) := by
  rw [show (n - n).toNat = 0 by omega]; rfl
theorem mset_mrow {M : Mem} {a : Nat} {g : Int → Int} {i x : Int} : mset (mrow M a g) a i x = mrow M a (fun j => if j = i then x else g j) := by
  funext b j
  unfold mset mrow
  by_cases h : b = a
  · subst h
    by_cases e : j = i <;> simp [e]
  · simp [h]
theorem mrow_mrow {M : Mem} {a : Nat} {g f : Int → Int} : mrow (mrow M a g) a f = mrow M a f := by
  funext b j
  unfold mrow
  by_cases h : b = a <;> simp [h]
theorem mgen_mrow {M : Mem} {a : Nat} {f : Int → Int} {k hi : Int} : mgen M (Frow a f) k hi = mrow M a (fun j => if k ≤ j ∧ j < hi then f j else M a j) := by
  funext b j
  unfold mgen mrow Frow
  by_cases h : b = a
  · subst h; by_cases e : k ≤ j ∧ j < hi <;> simp [e]
  · simp [h]
set_option maxHeartbeats 4000000 in
set_option maxRecDepth 100000 in
theorem c_fill_128 (M : Mem) (x : Int) : CX mJ7_fill_53178 0 [.inr (some 128), .inl x] M none (mgen M (Frow 128 (fun _ => x)) 0 120) := by
  refine CX.of (by decide +kernel) (Nat.le_of_ble_eq_true rfl) [some (.inr (some 128)), some (.inl x), none, none] rfl ?_
  refine X.iconst dJ7_fill_53178_0 ?_
  refine X.istore_n (lv2 := [some (.inr (some 128)), some (.inl x), some (.inl 0), none]) dJ7_fill_53178_1 (Nat.le_of_ble_eq_true rfl) rfl ?_
  refine X.aload_n dJ7_fill_53178_2 rfl ?_
  refine X.alen dJ7_fill_53178_3 sh_128 ?_
  refine X.istore_n (lv2 := [some (.inr (some 128)), some (.inl x), some (.inl 0), some (.inl 120)]) dJ7_fill_53178_4 (Nat.le_of_ble_eq_true rfl) rfl ?_
  have L5 : ∀ k, 0 ≤ k → k ≤ 120 → ∀ M1 : Mem, VX mJ7_fill_53178 0 5 [some (.inr (some 128)), some (.inl x), some (.inl k), some (.inl 120)] [] M1 none (mgen M1 (Frow 128 (fun _ => x)) k 120) := by
    refine down_ind 0 120 ?_ ?_
    · skip
      intro M1
      rw [mgen_end (Int.le_refl _)]
      refine X.iload_n dJ7_fill_53178_5 rfl ?_
      refine X.iload_n dJ7_fill_53178_6 rfl ?_
      refine X.icmp_ge (tgt := 20) dJ7_fill_53178_7 (by decide) ⟨by omega, by omega⟩ (by decide) (fun h1 => ?_) (fun h => by exfalso; omega)
      exact X.vret dJ7_fill_53178_20 rfl rfl rfl
    · intro k hk1 hk2 ihk
      intro M1
      refine X.iload_n dJ7_fill_53178_5 rfl ?_
      refine X.iload_n dJ7_fill_53178_6 rfl ?_
      refine X.icmp_ge (tgt := 20) dJ7_fill_53178_7 (by decide) ⟨by omega, by omega⟩ (by decide) (fun h => by exfalso; omega) (fun h2 => ?_)
      refine X.aload_n dJ7_fill_53178_10 rfl ?_
      refine X.iload_n dJ7_fill_53178_11 rfl ?_
      refine X.iload_n dJ7_fill_53178_12 rfl ?_
      refine X.iast dJ7_fill_53178_13 sh_128 (by decide) (by omega) ?_
      refine X.iinc (y := k + 1) (lv2 := [some (.inr (some 128)), some (.inl x), some (.inl (k + 1)), some (.inl 120)]) dJ7_fill_53178_14 rfl rfl rfl ?_
      refine X.goto (tgt := 5) dJ7_fill_53178_17 (by decide) ?_
      rw [← show _ = mgen M1 (Frow 128 (fun _ => x)) k 120 from Frow_step (f := fun _ => x) hk2 rfl]
      exact ihk _
  exact L5 0 (by omega) (by omega) M
set_option maxHeartbeats 4000000 in
set_option maxRecDepth 100000 in
theorem c_fill_130 (M : Mem) (x : Int) : CX mJ7_fill_53178 0 [.inr (some 130), .inl x] M none (mgen M (Frow 130 (fun _ => x)) 0 120) := by
  refine CX.of (by decide +kernel) (Nat.le_of_ble_eq_true rfl) [some (.inr (some 130)), some (.inl x), none, none] rfl ?_
  refine X.iconst dJ7_fill_53178_0 ?_
  refine X.istore_n (lv2 := [some (.inr (some 130)), some (.inl x), some (.inl 0), none]) dJ7_fill_53178_1 (Nat.le_of_ble_eq_true rfl) rfl ?_
  refine X.aload_n dJ7_fill_53178_2 rfl ?_
  refine X.alen dJ7_fill_53178_3 sh_130 ?_
  refine X.istore_n (lv2 := [some (.inr (some 130)), some (.inl x), some (.inl 0), some (.inl 120)]) dJ7_fill_53178_4 (Nat.le_of_ble_eq_true rfl) rfl ?_
  have L5 : ∀ k, 0 ≤ k → k ≤ 120 → ∀ M1 : Mem, VX mJ7_fill_53178 0 5 [some (.inr (some 130)), some (.inl x), some (.inl k), some (.inl 120)] [] M1 none (mgen M1 (Frow 130 (fun _ => x)) k 120) := by
    refine down_ind 0 120 ?_ ?_
    · skip
      intro M1
      rw [mgen_end (Int.le_refl _)]
      refine X.iload_n dJ7_fill_53178_5 rfl ?_
      refine X.iload_n dJ7_fill_53178_6 rfl ?_
      refine X.icmp_ge (tgt := 20) dJ7_fill_53178_7 (by decide) ⟨by omega, by omega⟩ (by decide) (fun h1 => ?_) (fun h => by exfalso; omega)
      exact X.vret dJ7_fill_53178_20 rfl rfl rfl
    · intro k hk1 hk2 ihk
      intro M1
      refine X.iload_n dJ7_fill_53178_5 rfl ?_
      refine X.iload_n dJ7_fill_53178_6 rfl ?_
      refine X.icmp_ge (tgt := 20) dJ7_fill_53178_7 (by decide) ⟨by omega, by omega⟩ (by decide) (fun h => by exfalso; omega) (fun h2 => ?_)
      refine X.aload_n dJ7_fill_53178_10 rfl ?_
      refine X.iload_n dJ7_fill_53178_11 rfl ?_
      refine X.iload_n dJ7_fill_53178_12 rfl ?_
      refine X.iast dJ7_fill_53178_13 sh_130 (by decide) (by omega) ?_
      refine X.iinc (y := k + 1) (lv2 := [some (.inr (some 130)), some (.inl x), some (.inl (k + 1)), some (.inl 120)]) dJ7_fill_53178_14 rfl rfl rfl ?_
      refine X.goto (tgt := 5) dJ7_fill_53178_17 (by decide) ?_
      rw [← show _ = mgen M1 (Frow 130 (fun _ => x)) k 120 from Frow_step (f := fun _ => x) hk2 rfl]
      exact ihk _
  exact L5 0 (by omega) (by omega) M
set_option maxHeartbeats 4000000 in
set_option maxRecDepth 100000 in
theorem c_put (M : Mem) (n x : Int) (hn : M 126 1 = n) (h0 : 0 ≤ n ∧ n < 120) : CX mX4_put 0 [.inr (some 126), .inl x] M none (mset (mset M 127 n x) 126 1 (n + 1)) := by
  refine CX.of (by decide +kernel) (Nat.le_of_ble_eq_true rfl) [some (.inr (some 126)), some (.inl x)] rfl ?_
  refine X.aload_n dX4_put_0 rfl ?_
  refine X.getR dX4_put_1 fi_X4_9 sh_126 rfl ?_
  refine X.aload_n dX4_put_4 rfl ?_
  refine X.getI (v := n) 1 dX4_put_5 fi_X4_15 sh_126 rfl hn ?_
  refine X.iload_n dX4_put_8 rfl ?_
  refine X.iast dX4_put_9 sh_127 (by decide) (by omega) ?_
  refine X.aload_n dX4_put_10 rfl ?_
  refine X.dup dX4_put_11 ?_
  refine X.getI (v := n) 1 dX4_put_12 fi_X4_15 sh_126 rfl (by rw [mset_ne (by omega)]; exact hn) ?_
  refine X.iconst dX4_put_15 ?_
  refine X.iadd (c := n + 1) dX4_put_16 rfl ?_
  refine X.putI 1 1 rfl dX4_put_17 fi_X4_15 sh_126 rfl rfl ?_
  exact X.vret dX4_put_20 rfl rfl rfl
set_option maxHeartbeats 4000000 in
set_option maxRecDepth 100000 in
theorem c_isAllowed (M : Mem) (v : Vw) (hv : VA M v) (hS : SI v) (ch c r : Int) (hch : inR ch) (hc : 0 ≤ c ∧ c ≤ 12) (hr : 0 ≤ r ∧ r ≤ 9) : CX mX4_isAllowed 1 [.inr (some 1), .inl ch, .inl c, .inl r] M (some (.inl (bi (alw v ch c r)))) M := by
  have n0 := hS.n0
  have n1 := hS.n1
  have n2 := hS.n2
  refine CX.of (by decide +kernel) (Nat.le_of_ble_eq_true rfl) [some (.inr (some 1)), some (.inl ch), some (.inl c), some (.inl r)] rfl ?_
  refine X.iload_n dX4_isAllowed_0 rfl ?_
  refine X.bipush dX4_isAllowed_1 (by decide) ?_
  refine X.icmp_lt (tgt := 8) dX4_isAllowed_3 (by decide) ⟨by omega, by omega⟩ (by decide) (fun h1 => ?_) (fun h1 => ?_)
  · skip
    refine X.iload_n dX4_isAllowed_8 rfl ?_
    refine X.bipush dX4_isAllowed_9 (by decide) ?_
    refine X.icmp_ne (tgt := 34) dX4_isAllowed_11 (by decide) ⟨by omega, by omega⟩ (by decide) (fun h11 => ?_) (fun h11 => ?_)
    · skip
      refine X.iload_n dX4_isAllowed_34 rfl ?_
      refine X.bipush dX4_isAllowed_35 (by decide) ?_
      refine X.bipush dX4_isAllowed_37 (by decide) ?_
      refine X.callN1 (As := [.inl ch, .inl 48, .inl 57]) (rest := []) dX4_isAllowed_39 mk_X4_42 (c_isWithin M ch 48 57 ⟨by omega, by omega⟩ (by decide) (by decide)) rfl (by decide) rfl (Nat.le_of_ble_eq_true rfl) ?_
      exact X.zret dX4_isAllowed_42 rfl (bi_01 _) (by rw [bi_iff (show (48 ≤ ch ∧ ch ≤ 57) ↔ alw v ch c r from ⟨fun q => ⟨by omega, Or.inr ⟨h11, q⟩⟩, fun q => by rcases q.2 with ⟨q1, -⟩ | ⟨-, q1⟩ <;> first | exact absurd q1 h11 | exact q1⟩)]) rfl
    · skip
      refine X.aload_n dX4_isAllowed_14 rfl ?_
      refine X.iload_n dX4_isAllowed_15 rfl ?_
      refine X.iload_n dX4_isAllowed_16 rfl ?_
      refine X.callN1 (As := [.inl c, .inl r]) (rest := [.inr (some 1)]) dX4_isAllowed_17 mk_X4_32 (c_cellAt M c r) rfl (by decide) rfl (Nat.le_of_ble_eq_true rfl) ?_
      have hi := sIn_range hS (r * 12 + c)
      refine X.callV1 (As := [.inl (r * 12 + c)]) (rest := []) dX4_isAllowed_20 mk_X4_36 sh_1 (c_scoutIn M v hv hS (r * 12 + c) ⟨by omega, by omega⟩) rfl (by decide) rfl (Nat.le_of_ble_eq_true rfl) ?_
      refine X.bipush dX4_isAllowed_23 (by decide) ?_
      refine X.icmp_ne (tgt := 32) dX4_isAllowed_25 (by decide) ⟨by omega, by omega⟩ (by decide) (fun h2 => ?_) (fun h2 => ?_)
      · skip
        refine X.iconst dX4_isAllowed_32 ?_
        exact X.zret dX4_isAllowed_33 rfl (by decide) (by rw [bi_f (fun q : alw v ch c r => by rcases q.2 with ⟨-, q1⟩ | ⟨q1, -⟩ <;> omega)]) rfl
      · skip
        refine X.iconst dX4_isAllowed_28 ?_
        refine X.goto (tgt := 33) dX4_isAllowed_29 (by decide) ?_
        exact X.zret dX4_isAllowed_33 rfl (by decide) (by rw [bi_t (show alw v ch c r from ⟨by omega, Or.inl ⟨h11, by omega⟩⟩)]) rfl
  · skip
    refine X.iconst dX4_isAllowed_6 ?_
    exact X.zret dX4_isAllowed_7 rfl (by decide) (by rw [bi_f (fun q : alw v ch c r => by have := q.1; omega)]) rfl
set_option maxHeartbeats 4000000 in
set_option maxRecDepth 100000 in
theorem c_read (M : Mem) (v : Vw) (hv : VA M v) (hS : SI v) (T : Int → Int) (n : Int) (hn : M 126 1 = n) (h0 : 0 ≤ n ∧ n ≤ 120) (hT : ∀ i, 0 ≤ i ∧ i < n → M 127 i = T i) (hTr : ∀ i, 0 ≤ T i ∧ T i ≤ 255) : CX mX4_read 2 [.inr (some 126), .inr (some 1)] M (some (.inl (rdT T v n n.toNat 0 0 0 (fun j => if 0 ≤ j ∧ j < 120 then -1 else M 128 j)).1)) (mrow M 128 (rdT T v n n.toNat 0 0 0 (fun j => if 0 ≤ j ∧ j < 120 then -1 else M 128 j)).2) := by
  have n0 := hS.n0
  have n1 := hS.n1
  have n2 := hS.n2
  refine CX.of (by decide +kernel) (Nat.le_of_ble_eq_true rfl) [some (.inr (some 126)), some (.inr (some 1)), none, none, none, none] rfl ?_
  refine X.aload_n dX4_read_0 rfl ?_
  refine X.getR dX4_read_1 fi_X4_19 sh_126 rfl ?_
  refine X.iconst dX4_read_4 ?_
  refine X.callS0 (As := [.inr (some 128), .inl (-1)]) (rest := []) dX4_read_5 mk_X4_22 (c_fill_128 M (-1)) rfl (by decide) rfl (Nat.le_of_ble_eq_true rfl) ?_
  refine X.iconst dX4_read_8 ?_
  refine X.istore_n (lv2 := [some (.inr (some 126)), some (.inr (some 1)), some (.inl 0), none, none, none]) dX4_read_9 (Nat.le_of_ble_eq_true rfl) rfl ?_
  refine X.iconst dX4_read_10 ?_
  refine X.istore_n (lv2 := [some (.inr (some 126)), some (.inr (some 1)), some (.inl 0), some (.inl 0), none, none]) dX4_read_11 (Nat.le_of_ble_eq_true rfl) rfl ?_
  refine X.iconst dX4_read_12 ?_
  refine X.istore (lv2 := [some (.inr (some 126)), some (.inr (some 1)), some (.inl 0), some (.inl 0), some (.inl 0), none]) dX4_read_13 (Nat.le_of_ble_eq_true rfl) rfl ?_
  have L15 : ∀ i, 0 ≤ i → i ≤ n → ∀ col : Int, ∀ row : Int, ∀ x5 : Option AV, ∀ g : Int → Int, (0 ≤ col ∧ col ≤ 12) → (0 ≤ row ∧ row ≤ 10) → VX mX4_read 2 15 [some (.inr (some 126)), some (.inr (some 1)), some (.inl col), some (.inl row), some (.inl i), x5] [] (mrow M 128 g) (some (.inl (rdT T v n (n - i).toNat i col row g).1)) (mrow M 128 (rdT T v n (n - i).toNat i col row g).2) := by
    refine down_ind 0 n ?_ ?_
    · skip
      intro col row x5 g hcb hrb
      rw [rdT_end]
      refine X.iload dX4_read_15 rfl ?_
      refine X.aload_n dX4_read_17 rfl ?_
      refine X.getI (v := n) 1 dX4_read_18 fi_X4_15 sh_126 rfl ((congrFun (mrow_row (by decide)) 1).trans hn) ?_
      refine X.icmp_ge (tgt := 125) dX4_read_21 (by decide) ⟨by omega, by omega⟩ ⟨by omega, by omega⟩ (fun h1 => ?_) (fun h => by exfalso; omega)
      refine X.iload_n dX4_read_125 rfl ?_
      refine X.if_le (tgt := 140) dX4_read_126 (by decide) ⟨by omega, by omega⟩ (fun h126 => ?_) (fun h126 => ?_)
      · skip
        refine X.iload_n dX4_read_140 rfl ?_
        exact X.iret dX4_read_141 rfl (by rw [if_neg (by omega)]) rfl
      · skip
        refine X.sipush dX4_read_129 (by decide) ?_
        refine X.aload_n dX4_read_132 rfl ?_
        refine X.getI (v := n) 1 dX4_read_133 fi_X4_15 sh_126 rfl ((congrFun (mrow_row (by decide)) 1).trans hn) ?_
        refine X.isub (c := (-1000) - n) dX4_read_136 rfl ?_
        refine X.goto (tgt := 141) dX4_read_137 (by decide) ?_
        exact X.iret dX4_read_141 rfl (by rw [if_pos (by omega)]) rfl
    · intro i hi1 hi2 ihi
      intro col row x5 g hcb hrb
      refine X.iload dX4_read_15 rfl ?_
      refine X.aload_n dX4_read_17 rfl ?_
      refine X.getI (v := n) 1 dX4_read_18 fi_X4_15 sh_126 rfl ((congrFun (mrow_row (by decide)) 1).trans hn) ?_
      refine X.icmp_ge (tgt := 125) dX4_read_21 (by decide) ⟨by omega, by omega⟩ ⟨by omega, by omega⟩ (fun h => by exfalso; omega) (fun h2 => ?_)
      refine X.aload_n dX4_read_24 rfl ?_
      refine X.getR dX4_read_25 fi_X4_9 sh_126 rfl ?_
      refine X.iload dX4_read_28 rfl ?_
      refine X.iald (v := T i) dX4_read_30 sh_127 (by decide) (by omega) ((congrFun (mrow_row (by decide)) i).trans (hT i (by omega))) ?_
      refine X.istore (lv2 := [some (.inr (some 126)), some (.inr (some 1)), some (.inl col), some (.inl row), some (.inl i), some (.inl (T i))]) dX4_read_31 (Nat.le_of_ble_eq_true rfl) rfl ?_
      refine X.iload dX4_read_33 rfl ?_
      refine X.bipush dX4_read_35 (by decide) ?_
      have htr := hTr i
      refine X.icmp_ne (tgt := 43) dX4_read_37 (by decide) ⟨by omega, by omega⟩ (by decide) (fun h37 => ?_) (fun h37 => ?_)
      · skip
        refine X.iload_n dX4_read_43 rfl ?_
        refine X.bipush dX4_read_44 (by decide) ?_
        refine X.icmp_lt (tgt := 56) dX4_read_46 (by decide) ⟨by omega, by omega⟩ (by decide) (fun h3 => ?_) (fun h3 => ?_)
        · skip
          refine X.iload dX4_read_56 rfl ?_
          refine X.bipush dX4_read_58 (by decide) ?_
          refine X.icmp_ne (tgt := 71) dX4_read_60 (by decide) ⟨by omega, by omega⟩ (by decide) (fun h60 => ?_) (fun h60 => ?_)
          · skip
            refine X.aload_n dX4_read_71 rfl ?_
            refine X.iload dX4_read_72 rfl ?_
            refine X.iload_n dX4_read_74 rfl ?_
            refine X.iload_n dX4_read_75 rfl ?_
            by_cases pa : alw v (T i) col row
            · skip
              refine X.callS1 (As := [.inr (some 1), .inl (T i), .inl col, .inl row]) (rest := []) dX4_read_76 mk_X4_28 (CX.bt (c_isAllowed (mrow M 128 g) v (hv.mrow (by decide)) hS (T i) col row ⟨by omega, by omega⟩ (by omega) (by omega)) pa) rfl (by decide) rfl (Nat.le_of_ble_eq_true rfl) ?_
              refine X.if_ne (tgt := 89) dX4_read_79 (by decide) (by decide) (fun h4 => ?_) (fun h => absurd h (by decide))
              refine X.aload_n dX4_read_89 rfl ?_
              refine X.getR dX4_read_90 fi_X4_19 sh_126 rfl ?_
              refine X.iload_n dX4_read_93 rfl ?_
              refine X.iload_n dX4_read_94 rfl ?_
              refine X.callN1 (As := [.inl col, .inl row]) (rest := [.inr (some 128)]) dX4_read_95 mk_X4_32 (c_cellAt (mrow M 128 g) col row) rfl (by decide) rfl (Nat.le_of_ble_eq_true rfl) ?_
              refine X.iload dX4_read_98 rfl ?_
              refine X.bipush dX4_read_100 (by decide) ?_
              refine X.icmp_ne (tgt := 110) dX4_read_102 (by decide) ⟨by omega, by omega⟩ (by decide) (fun h102 => ?_) (fun h102 => ?_)
              · skip
                refine X.iload dX4_read_110 rfl ?_
                refine X.bipush dX4_read_112 (by decide) ?_
                refine X.isub (c := (T i) - 48) dX4_read_114 rfl ?_
                have hpa := pa.1
                refine X.iast dX4_read_115 sh_128 (by decide) (by omega) ?_
                refine X.iinc (y := col + 1) (lv2 := [some (.inr (some 126)), some (.inr (some 1)), some (.inl (col + 1)), some (.inl row), some (.inl i), some (.inl (T i))]) dX4_read_116 rfl rfl rfl ?_
                refine X.iinc (y := i + 1) (lv2 := [some (.inr (some 126)), some (.inr (some 1)), some (.inl (col + 1)), some (.inl row), some (.inl (i + 1)), some (.inl (T i))]) dX4_read_119 rfl rfl rfl ?_
                refine X.goto (tgt := 15) dX4_read_122 (by decide) ?_
                rw [rdT_step hi2, if_neg h37, if_neg (by omega), if_neg h60, if_pos pa]
                rw [mset_mrow]
                rw [show (fun j => if j = row * 12 + col then (T i) - 48 else g j) = (fun j => if j = row * 12 + col then tval (T i) else g j) from by unfold tval; rw [if_neg h102]]
                exact ihi (col + 1) row (some (.inl (T i))) _ (by have := pa.1; omega) (by omega)
              · skip
                refine X.bipush dX4_read_105 (by decide) ?_
                refine X.goto (tgt := 115) dX4_read_107 (by decide) ?_
                have hpa := pa.1
                refine X.iast dX4_read_115 sh_128 (by decide) (by omega) ?_
                refine X.iinc (y := col + 1) (lv2 := [some (.inr (some 126)), some (.inr (some 1)), some (.inl (col + 1)), some (.inl row), some (.inl i), some (.inl (T i))]) dX4_read_116 rfl rfl rfl ?_
                refine X.iinc (y := i + 1) (lv2 := [some (.inr (some 126)), some (.inr (some 1)), some (.inl (col + 1)), some (.inl row), some (.inl (i + 1)), some (.inl (T i))]) dX4_read_119 rfl rfl rfl ?_
                refine X.goto (tgt := 15) dX4_read_122 (by decide) ?_
                rw [rdT_step hi2, if_neg h37, if_neg (by omega), if_neg h60, if_pos pa]
                rw [mset_mrow]
                rw [show (fun j => if j = row * 12 + col then 10 else g j) = (fun j => if j = row * 12 + col then tval (T i) else g j) from by unfold tval; rw [if_pos h102]]
                exact ihi (col + 1) row (some (.inl (T i))) _ (by have := pa.1; omega) (by omega)
            · skip
              refine X.callS1 (As := [.inr (some 1), .inl (T i), .inl col, .inl row]) (rest := []) dX4_read_76 mk_X4_28 (CX.bf (c_isAllowed (mrow M 128 g) v (hv.mrow (by decide)) hS (T i) col row ⟨by omega, by omega⟩ (by omega) (by omega)) pa) rfl (by decide) rfl (Nat.le_of_ble_eq_true rfl) ?_
              refine X.if_ne (tgt := 89) dX4_read_79 (by decide) (by decide) (fun h => absurd h (by decide)) (fun h5 => ?_)
              refine X.sipush dX4_read_82 (by decide) ?_
              refine X.iload dX4_read_85 rfl ?_
              refine X.isub (c := (-1000) - i) dX4_read_87 rfl ?_
              exact X.iret dX4_read_88 rfl (by rw [rdT_step hi2, if_neg h37, if_neg (by omega), if_neg h60, if_neg pa]) (by rw [rdT_step hi2, if_neg h37, if_neg (by omega), if_neg h60, if_neg pa])
          · skip
            refine X.iinc (y := row + 1) (lv2 := [some (.inr (some 126)), some (.inr (some 1)), some (.inl col), some (.inl (row + 1)), some (.inl i), some (.inl (T i))]) dX4_read_63 rfl rfl rfl ?_
            refine X.iconst dX4_read_66 ?_
            refine X.istore_n (lv2 := [some (.inr (some 126)), some (.inr (some 1)), some (.inl 0), some (.inl (row + 1)), some (.inl i), some (.inl (T i))]) dX4_read_67 (Nat.le_of_ble_eq_true rfl) rfl ?_
            refine X.goto (tgt := 119) dX4_read_68 (by decide) ?_
            refine X.iinc (y := i + 1) (lv2 := [some (.inr (some 126)), some (.inr (some 1)), some (.inl 0), some (.inl (row + 1)), some (.inl (i + 1)), some (.inl (T i))]) dX4_read_119 rfl rfl rfl ?_
            refine X.goto (tgt := 15) dX4_read_122 (by decide) ?_
            rw [rdT_step hi2, if_neg h37, if_neg (by omega), if_pos h60]
            exact ihi 0 (row + 1) (some (.inl (T i))) g (by omega) (by omega)
        · skip
          refine X.sipush dX4_read_49 (by decide) ?_
          refine X.iload dX4_read_52 rfl ?_
          refine X.isub (c := (-1000) - i) dX4_read_54 rfl ?_
          exact X.iret dX4_read_55 rfl (by rw [rdT_step hi2, if_neg h37, if_pos (by omega)]) (by rw [rdT_step hi2, if_neg h37, if_pos (by omega)])
      · skip
        refine X.goto (tgt := 119) dX4_read_40 (by decide) ?_
        refine X.iinc (y := i + 1) (lv2 := [some (.inr (some 126)), some (.inr (some 1)), some (.inl col), some (.inl row), some (.inl (i + 1)), some (.inl (T i))]) dX4_read_119 rfl rfl rfl ?_
        refine X.goto (tgt := 15) dX4_read_122 (by decide) ?_
        rw [rdT_step hi2, if_pos h37]
        exact ihi col row (some (.inl (T i))) g hcb hrb
  have e := L15 0 (by omega) (by omega) 0 0 none (fun j => if 0 ≤ j ∧ j < 120 then -1 else M 128 j) (by omega) (by omega)
  rw [Int.sub_zero] at e
  rw [show mgen M (Frow 128 (fun _ => (-1))) 0 120 = mrow M 128 (fun j => if 0 ≤ j ∧ j < 120 then -1 else M 128 j) from mgen_mrow]
  exact e
def Ftell (g : Int → Int) : Nat → Int → Option Int := fun a j => if g j = 10 then (if a = 3 then some 1 else none) else if g j = -1 then none else if a = 3 then some 0 else if a = 2 then some (g j) else none
theorem Ftell_w {M : Mem} {g : Int → Int} {k hi : Int} (h : k < hi) (e : g k = 10) : mgen (mset M 3 k 1) (Ftell g) (k + 1) hi = mgen M (Ftell g) k hi := by
  refine mgen_step h fun a j => ?_
  unfold mset Ftell
  by_cases hj : j = k
  · subst hj; by_cases h1 : a = 3 <;> simp [h1, e]
  · simp [hj]
theorem Ftell_n {M : Mem} {g : Int → Int} {k hi : Int} (h : k < hi) (e : g k = -1) : mgen M (Ftell g) (k + 1) hi = mgen M (Ftell g) k hi := by
  refine mgen_step h fun a j => ?_
  unfold Ftell
  by_cases hj : j = k
  · subst hj; simp [e]
  · simp [hj]
theorem Ftell_o {M : Mem} {g : Int → Int} {k hi : Int} (h : k < hi) (e : ¬ g k = 10) (e2 : ¬ g k = -1) : mgen (mset (mset M 3 k 0) 2 k (g k)) (Ftell g) (k + 1) hi = mgen M (Ftell g) k hi := by
  refine mgen_step h fun a j => ?_
  unfold mset Ftell
  by_cases hj : j = k
  · subst hj
    by_cases h1 : a = 3
    · subst h1; simp [e, e2]
    · by_cases h2 : a = 2
      · subst h2; simp [e, e2]
      · simp [h1, h2, e, e2]
  · simp [hj]
theorem Ftell_no {g : Int → Int} {a : Nat} (h : a ≠ 2 ∧ a ≠ 3) (j : Int) : Ftell g a j = none := by
  unfold Ftell; rw [if_neg h.2, if_neg h.2, if_neg h.1]; split <;> (first | rfl | (split <;> rfl))
set_option maxHeartbeats 4000000 in
set_option maxRecDepth 100000 in
theorem c_tellTo (M : Mem) (g : Int → Int) (hg : ∀ j, M 128 j = g j) (hgr : ∀ j, 0 ≤ j ∧ j < 120 → -1 ≤ g j ∧ g j ≤ 255) : CX mX4_tellTo 0 [.inr (some 126), .inr (some 1)] M none (mgen M (Ftell g) 0 120) := by
  refine CX.of (by decide +kernel) (Nat.le_of_ble_eq_true rfl) [some (.inr (some 126)), some (.inr (some 1)), none] rfl ?_
  refine X.iconst dX4_tellTo_0 ?_
  refine X.istore_n (lv2 := [some (.inr (some 126)), some (.inr (some 1)), some (.inl 0)]) dX4_tellTo_1 (Nat.le_of_ble_eq_true rfl) rfl ?_
  have L2 : ∀ k, 0 ≤ k → k ≤ 120 → ∀ M1 : Mem, (∀ j, k ≤ j → M1 128 j = M 128 j) → VX mX4_tellTo 0 2 [some (.inr (some 126)), some (.inr (some 1)), some (.inl k)] [] M1 none (mgen M1 (Ftell g) k 120) := by
    refine down_ind 0 120 ?_ ?_
    · skip
      intro M1 hM1
      rw [mgen_end (Int.le_refl _)]
      refine X.iload_n dX4_tellTo_2 rfl ?_
      refine X.bipush dX4_tellTo_3 (by decide) ?_
      refine X.icmp_ge (tgt := 64) dX4_tellTo_5 (by decide) ⟨by omega, by omega⟩ (by decide) (fun h1 => ?_) (fun h => by exfalso; omega)
      exact X.vret dX4_tellTo_64 rfl rfl rfl
    · intro k hk1 hk2 ihk
      intro M1 hM1
      have q := hgr k (by omega)
      refine X.iload_n dX4_tellTo_2 rfl ?_
      refine X.bipush dX4_tellTo_3 (by decide) ?_
      refine X.icmp_ge (tgt := 64) dX4_tellTo_5 (by decide) ⟨by omega, by omega⟩ (by decide) (fun h => by exfalso; omega) (fun h2 => ?_)
      refine X.aload_n dX4_tellTo_8 rfl ?_
      refine X.getR dX4_tellTo_9 fi_X4_19 sh_126 rfl ?_
      refine X.iload_n dX4_tellTo_12 rfl ?_
      refine X.iald (v := g k) dX4_tellTo_13 sh_128 (by decide) (by omega) ((hM1 k (Int.le_refl _)).trans (hg k)) ?_
      refine X.bipush dX4_tellTo_14 (by decide) ?_
      refine X.icmp_ne (tgt := 29) dX4_tellTo_16 (by decide) ⟨by omega, by omega⟩ (by decide) (fun h16 => ?_) (fun h16 => ?_)
      · skip
        refine X.aload_n dX4_tellTo_29 rfl ?_
        refine X.getR dX4_tellTo_30 fi_X4_19 sh_126 rfl ?_
        refine X.iload_n dX4_tellTo_33 rfl ?_
        refine X.iald (v := g k) dX4_tellTo_34 sh_128 (by decide) (by omega) ((hM1 k (Int.le_refl _)).trans (hg k)) ?_
        refine X.iconst dX4_tellTo_35 ?_
        refine X.icmp_eq (tgt := 58) dX4_tellTo_36 (by decide) ⟨by omega, by omega⟩ (by decide) (fun h36 => ?_) (fun h36 => ?_)
        · skip
          refine X.iinc (y := k + 1) (lv2 := [some (.inr (some 126)), some (.inr (some 1)), some (.inl (k + 1))]) dX4_tellTo_58 rfl rfl rfl ?_
          refine X.goto (tgt := 2) dX4_tellTo_61 (by decide) ?_
          rw [← Ftell_n hk2 h36]
          exact ihk _ (fun j hj => hM1 j (by omega))
        · skip
          refine X.aload_n dX4_tellTo_39 rfl ?_
          refine X.getR dX4_tellTo_40 fi_X4_46 sh_1 rfl ?_
          refine X.iload_n dX4_tellTo_43 rfl ?_
          refine X.iconst dX4_tellTo_44 ?_
          refine X.iast dX4_tellTo_45 sh_3 (by decide) (by omega) ?_
          refine X.aload_n dX4_tellTo_46 rfl ?_
          refine X.getR dX4_tellTo_47 fi_X4_49 sh_1 rfl ?_
          refine X.iload_n dX4_tellTo_50 rfl ?_
          refine X.aload_n dX4_tellTo_51 rfl ?_
          refine X.getR dX4_tellTo_52 fi_X4_19 sh_126 rfl ?_
          refine X.iload_n dX4_tellTo_55 rfl ?_
          refine X.iald (v := g k) dX4_tellTo_56 sh_128 (by decide) (by omega) ((congrFun ((mset_row (by decide)) ) k).trans ((hM1 k (Int.le_refl _)).trans (hg k))) ?_
          refine X.iast dX4_tellTo_57 sh_2 (by decide) (by omega) ?_
          refine X.iinc (y := k + 1) (lv2 := [some (.inr (some 126)), some (.inr (some 1)), some (.inl (k + 1))]) dX4_tellTo_58 rfl rfl rfl ?_
          refine X.goto (tgt := 2) dX4_tellTo_61 (by decide) ?_
          rw [← Ftell_o hk2 h16 h36]
          exact ihk _ (fun j hj => ((congrFun (mset_row (by decide)) j).trans (congrFun (mset_row (by decide)) j)).trans (hM1 j (by omega)))
      · skip
        refine X.aload_n dX4_tellTo_19 rfl ?_
        refine X.getR dX4_tellTo_20 fi_X4_46 sh_1 rfl ?_
        refine X.iload_n dX4_tellTo_23 rfl ?_
        refine X.iconst dX4_tellTo_24 ?_
        refine X.iast dX4_tellTo_25 sh_3 (by decide) (by omega) ?_
        refine X.goto (tgt := 58) dX4_tellTo_26 (by decide) ?_
        refine X.iinc (y := k + 1) (lv2 := [some (.inr (some 126)), some (.inr (some 1)), some (.inl (k + 1))]) dX4_tellTo_58 rfl rfl rfl ?_
        refine X.goto (tgt := 2) dX4_tellTo_61 (by decide) ?_
        rw [← Ftell_w hk2 h16]
        exact ihk _ (fun j hj => (congrFun (mset_row (by decide)) j).trans (hM1 j (by omega)))
  exact L2 0 (by omega) (by omega) M (fun _ _ => rfl)
