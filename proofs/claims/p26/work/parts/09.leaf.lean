theorem CX.bt {μ : Mu} {d : Nat} {vs : List AV} {M M2 : Mem} {P : Prop} (h : CX μ d vs M (some (.inl (bi P))) M2) (p : P) : CX μ d vs M (some (.inl 1)) M2 := by rw [bi_t p] at h; exact h
theorem CX.bf {μ : Mu} {d : Nat} {vs : List AV} {M M2 : Mem} {P : Prop} (h : CX μ d vs M (some (.inl (bi P))) M2) (p : ¬ P) : CX μ d vs M (some (.inl 0)) M2 := by rw [bi_f p] at h; exact h
def iabs (z : Int) : Int := if 0 ≤ z then z else -z
def imax (a b : Int) : Int := if a < b then b else a
def imin (a b : Int) : Int := if b < a then b else a
def dist (a b : Int) : Int := imax (iabs (a % 12 - b % 12)) (iabs (a / 12 - b / 12))
theorem iabs_le {z n : Int} (h1 : -n ≤ z) (h2 : z ≤ n) : 0 ≤ iabs z ∧ iabs z ≤ n := by unfold iabs; split <;> omega
theorem imax_le {a b n : Int} (h1 : 0 ≤ a ∧ a ≤ n) (h2 : 0 ≤ b ∧ b ≤ n) : 0 ≤ imax a b ∧ imax a b ≤ n := by unfold imax; split <;> omega
theorem dist_le {a b : Int} (ha : 0 ≤ a ∧ a < 120) (hb : 0 ≤ b ∧ b < 120) : 0 ≤ dist a b ∧ dist a b ≤ 11 := by
  unfold dist
  exact imax_le (iabs_le (by omega) (by omega)) (iabs_le (by omega) (by omega))
theorem mul_bd {i b : Int} (h1 : 0 ≤ i) (h2 : i ≤ 11) (h3 : -11 ≤ b) (h4 : b ≤ 11) : -121 ≤ i * b ∧ i * b ≤ 121 := by
  have : i = 0 ∨ i = 1 ∨ i = 2 ∨ i = 3 ∨ i = 4 ∨ i = 5 ∨ i = 6 ∨ i = 7 ∨ i = 8 ∨ i = 9 ∨ i = 10 ∨ i = 11 := by omega
  rcases this with rfl | rfl | rfl | rfl | rfl | rfl | rfl | rfl | rfl | rfl | rfl | rfl <;> omega
theorem iXor_inR (x y : Int) : inR (iXor x y) := by
  unfold iXor
  have h1 := Int32.le_toInt (Int32.ofInt x ^^^ Int32.ofInt y)
  have h2 := Int32.toInt_lt (Int32.ofInt x ^^^ Int32.ofInt y)
  constructor <;> omega
theorem neg_msb {z : Int} (h : inR z) : z < 0 ↔ (Int32.ofInt z).toBitVec.msb = true := by
  rw [BitVec.msb_eq_toInt, decide_eq_true_iff]
  show _ ↔ (Int32.ofInt z).toInt < 0
  rw [inR_toInt h]
theorem iXor_neg {x y : Int} (hx : inR x) (hy : inR y) (h0 : 0 < y) : iXor x y < 0 ↔ x < 0 := by
  have e : iXor x y < 0 ↔ (Int32.ofInt x ^^^ Int32.ofInt y).toBitVec.msb = true := by
    unfold iXor
    rw [BitVec.msb_eq_toInt, decide_eq_true_iff]
    exact Iff.rfl
  have h1 : (Int32.ofInt y).toBitVec.msb = false := by
    cases hm : (Int32.ofInt y).toBitVec.msb with
    | false => rfl
    | true => exact absurd ((neg_msb hy).mpr hm) (by omega)
  rw [e, Int32.toBitVec_xor, BitVec.msb_xor, h1, neg_msb hx]
  simp
theorem tdiv_fl {x y : Int} (h0 : 0 < y) : (0 ≤ x → x.tdiv y = x / y) ∧ (x < 0 → x.tdiv y * y = x → x.tdiv y = x / y) ∧ (x < 0 → ¬ x.tdiv y * y = x → x.tdiv y - 1 = x / y) := by
  have hs : y.sign = 1 := Int.sign_eq_one_of_pos h0
  have ht := Int.tdiv_eq_ediv (a := x) (b := y)
  have hd : y ∣ x ↔ x.tdiv y * y = x := by
    constructor
    · intro h; exact Int.tdiv_mul_cancel h
    · intro h; exact ⟨x.tdiv y, by rw [Int.mul_comm]; exact h.symm⟩
  refine ⟨fun h => ?_, fun h h2 => ?_, fun h h2 => ?_⟩
  · rw [ht, if_pos (Or.inl h)]; omega
  · rw [ht, if_pos (Or.inr (hd.mpr h2))]; omega
  · have hn : ¬ (0 ≤ x ∨ y ∣ x) := by
      rintro (q | q)
      · omega
      · exact h2 (hd.mp q)
    rw [ht, if_neg hn, hs]; omega
theorem tmod_fl {x y : Int} (h0 : 0 < y) : (x.tmod y < 0 → x.tdiv y - 1 = x / y) ∧ (0 ≤ x.tmod y → x.tdiv y = x / y) := by
  obtain ⟨a, b, c⟩ := tdiv_fl (x := x) h0
  have hm := Int.tmod_def x y
  have hcm : x.tdiv y * y = y * x.tdiv y := Int.mul_comm _ _
  by_cases hx : 0 ≤ x
  · have := Int.tmod_nonneg y hx
    exact ⟨fun h => absurd h (by omega), fun _ => a hx⟩
  · have h1 : x.tmod y ≤ 0 := by
      have := Int.tmod_nonneg y (show 0 ≤ -x by omega)
      rw [Int.neg_tmod] at this
      omega
    refine ⟨fun h => c (by omega) (by omega), fun h => b (by omega) (by omega)⟩
theorem tdiv_inR {x y : Int} (hx : inR x) (h0 : 0 < y) : -2147483649 ≤ x / y ∧ x / y ≤ 2147483647 := by
  have h1 : x / y * y ≤ x := Int.ediv_mul_le x (by omega)
  have h2 : x < (x / y + 1) * y := Int.lt_ediv_add_one_mul_self x h0
  constructor
  · apply Int.not_lt.mp
    intro h
    have : (x / y + 1) * y ≤ (x / y + 1) * 1 := Int.mul_le_mul_of_nonpos_left (by omega) (by omega)
    omega
  · apply Int.not_lt.mp
    intro h
    have : (x / y) * 1 ≤ x / y * y := Int.mul_le_mul_of_nonneg_left (by omega) (by omega)
    omega
theorem tmod_inR {x y : Int} (hy : 0 < y ∧ y ≤ 2147483647) : inR (x.tmod y) := by
  have h1 := Int.tmod_lt_of_pos x hy.1
  have h2 := Int.lt_tmod_of_pos x hy.1
  constructor <;> omega
def inner (a b d i : Int) : Int := (a / 12 + (2 * (i * (b / 12 - a / 12)) + d) / (2 * d)) * 12 + (a % 12 + (2 * (i * (b % 12 - a % 12)) + d) / (2 * d))
set_option maxHeartbeats 4000000 in
set_option maxRecDepth 100000 in
theorem c_isWithin (M : Mem) (v lo hi : Int) (h1 : inR v) (h2 : inR lo) (h3 : inR hi) : CX mX6_isWithin 0 [.inl v, .inl lo, .inl hi] M (some (.inl (bi (lo ≤ v ∧ v ≤ hi)))) M := by
  refine CX.of (by decide +kernel) (Nat.le_of_ble_eq_true rfl) [some (.inl v), some (.inl lo), some (.inl hi)] rfl ?_
  refine X.iload_n dX6_isWithin_0 rfl ?_
  refine X.iload_n dX6_isWithin_1 rfl ?_
  refine X.icmp_lt (tgt := 14) dX6_isWithin_2 (by decide) ⟨by omega, by omega⟩ ⟨by omega, by omega⟩ (fun h1 => ?_) (fun h1 => ?_)
  · skip
    refine X.iconst dX6_isWithin_14 ?_
    exact X.zret dX6_isWithin_15 rfl (by decide) (by rw [bi_f (by omega)]) rfl
  · skip
    refine X.iload_n dX6_isWithin_5 rfl ?_
    refine X.iload_n dX6_isWithin_6 rfl ?_
    refine X.icmp_gt (tgt := 14) dX6_isWithin_7 (by decide) ⟨by omega, by omega⟩ ⟨by omega, by omega⟩ (fun h2 => ?_) (fun h2 => ?_)
    · skip
      refine X.iconst dX6_isWithin_14 ?_
      exact X.zret dX6_isWithin_15 rfl (by decide) (by rw [bi_f (by omega)]) rfl
    · skip
      refine X.iconst dX6_isWithin_10 ?_
      refine X.goto (tgt := 15) dX6_isWithin_11 (by decide) ?_
      exact X.zret dX6_isWithin_15 rfl (by decide) (by rw [bi_t (by omega)]) rfl
set_option maxHeartbeats 4000000 in
set_option maxRecDepth 100000 in
theorem c_isCell (M : Mem) (c r : Int) (h1 : inR c) (h2 : inR r) : CX mX6_isCell 1 [.inl c, .inl r] M (some (.inl (bi (0 ≤ c ∧ c ≤ 11 ∧ 0 ≤ r ∧ r ≤ 9)))) M := by
  refine CX.of (by decide +kernel) (Nat.le_of_ble_eq_true rfl) [some (.inl c), some (.inl r)] rfl ?_
  refine X.iload_n dX6_isCell_0 rfl ?_
  refine X.iconst dX6_isCell_1 ?_
  refine X.bipush dX6_isCell_2 (by decide) ?_
  by_cases p1 : 0 ≤ c ∧ c ≤ 11
  · skip
    refine X.callS1 (As := [.inl c, .inl 0, .inl 11]) (rest := []) dX6_isCell_4 mk_X6_48 (CX.bt (c_isWithin M c 0 11 ⟨by omega, by omega⟩ (by decide) (by decide)) p1) rfl (by decide) rfl (Nat.le_of_ble_eq_true rfl) ?_
    refine X.if_eq (tgt := 24) dX6_isCell_7 (by decide) (by decide) (fun h => absurd h (by decide)) (fun h2 => ?_)
    refine X.iload_n dX6_isCell_10 rfl ?_
    refine X.iconst dX6_isCell_11 ?_
    refine X.bipush dX6_isCell_12 (by decide) ?_
    by_cases p3 : 0 ≤ r ∧ r ≤ 9
    · skip
      refine X.callS1 (As := [.inl r, .inl 0, .inl 9]) (rest := []) dX6_isCell_14 mk_X6_48 (CX.bt (c_isWithin M r 0 9 ⟨by omega, by omega⟩ (by decide) (by decide)) p3) rfl (by decide) rfl (Nat.le_of_ble_eq_true rfl) ?_
      refine X.if_eq (tgt := 24) dX6_isCell_17 (by decide) (by decide) (fun h => absurd h (by decide)) (fun h4 => ?_)
      refine X.iconst dX6_isCell_20 ?_
      refine X.goto (tgt := 25) dX6_isCell_21 (by decide) ?_
      exact X.zret dX6_isCell_25 rfl (by decide) (by rw [bi_t (by omega)]) rfl
    · skip
      refine X.callS1 (As := [.inl r, .inl 0, .inl 9]) (rest := []) dX6_isCell_14 mk_X6_48 (CX.bf (c_isWithin M r 0 9 ⟨by omega, by omega⟩ (by decide) (by decide)) p3) rfl (by decide) rfl (Nat.le_of_ble_eq_true rfl) ?_
      refine X.if_eq (tgt := 24) dX6_isCell_17 (by decide) (by decide) (fun h5 => ?_) (fun h => absurd h (by decide))
      refine X.iconst dX6_isCell_24 ?_
      exact X.zret dX6_isCell_25 rfl (by decide) (by rw [bi_f (by omega)]) rfl
  · skip
    refine X.callS1 (As := [.inl c, .inl 0, .inl 11]) (rest := []) dX6_isCell_4 mk_X6_48 (CX.bf (c_isWithin M c 0 11 ⟨by omega, by omega⟩ (by decide) (by decide)) p1) rfl (by decide) rfl (Nat.le_of_ble_eq_true rfl) ?_
    refine X.if_eq (tgt := 24) dX6_isCell_7 (by decide) (by decide) (fun h6 => ?_) (fun h => absurd h (by decide))
    refine X.iconst dX6_isCell_24 ?_
    exact X.zret dX6_isCell_25 rfl (by decide) (by rw [bi_f (by omega)]) rfl
set_option maxHeartbeats 4000000 in
set_option maxRecDepth 100000 in
theorem c_cellAt (M : Mem) (c r : Int) : CX mX6_cellAt 0 [.inl c, .inl r] M (some (.inl (r * 12 + c))) M := by
  refine CX.of (by decide +kernel) (Nat.le_of_ble_eq_true rfl) [some (.inl c), some (.inl r)] rfl ?_
  refine X.iload_n dX6_cellAt_0 rfl ?_
  refine X.bipush dX6_cellAt_1 (by decide) ?_
  refine X.imul (c := r * 12) dX6_cellAt_3 rfl ?_
  refine X.iload_n dX6_cellAt_4 rfl ?_
  refine X.iadd (c := (r * 12) + c) dX6_cellAt_5 rfl ?_
  exact X.iret dX6_cellAt_6 rfl rfl rfl
set_option maxHeartbeats 4000000 in
set_option maxRecDepth 100000 in
theorem c_columnOf (M : Mem) (c : Int) (h : 0 ≤ c ∧ c ≤ 2147483647) : CX mX6_columnOf 0 [.inl c] M (some (.inl (c % 12))) M := by
  refine CX.of (by decide +kernel) (Nat.le_of_ble_eq_true rfl) [some (.inl c)] rfl ?_
  refine X.iload_n dX6_columnOf_0 rfl ?_
  refine X.bipush dX6_columnOf_1 (by decide) ?_
  refine X.irem (c := c % 12) dX6_columnOf_3 (by omega) (by decide) rfl ?_
  exact X.iret dX6_columnOf_4 rfl rfl rfl
set_option maxHeartbeats 4000000 in
set_option maxRecDepth 100000 in
theorem c_rowOf (M : Mem) (c : Int) (h : 0 ≤ c ∧ c ≤ 2147483647) : CX mX6_rowOf 0 [.inl c] M (some (.inl (c / 12))) M := by
  refine CX.of (by decide +kernel) (Nat.le_of_ble_eq_true rfl) [some (.inl c)] rfl ?_
  refine X.iload_n dX6_rowOf_0 rfl ?_
  refine X.bipush dX6_rowOf_1 (by decide) ?_
  refine X.idiv (c := c / 12) dX6_rowOf_3 (by omega) (by decide) rfl ?_
  exact X.iret dX6_rowOf_4 rfl rfl rfl
set_option maxHeartbeats 4000000 in
set_option maxRecDepth 100000 in
theorem c_distanceOf (M : Mem) (a b : Int) (ha : 0 ≤ a ∧ a < 120) (hb : 0 ≤ b ∧ b < 120) : CX mX6_distanceOf 1 [.inl a, .inl b] M (some (.inl (dist a b))) M := by
  refine CX.of (by decide +kernel) (Nat.le_of_ble_eq_true rfl) [some (.inl a), some (.inl b), none, none] rfl ?_
  refine X.iload_n dX6_distanceOf_0 rfl ?_
  refine X.callS1 (As := [.inl a]) (rest := []) dX6_distanceOf_1 mk_X6_106 (c_columnOf M a (by omega)) rfl (by decide) rfl (Nat.le_of_ble_eq_true rfl) ?_
  refine X.iload_n dX6_distanceOf_4 rfl ?_
  refine X.callS1 (As := [.inl b]) (rest := [.inl (a % 12)]) dX6_distanceOf_5 mk_X6_106 (c_columnOf M b (by omega)) rfl (by decide) rfl (Nat.le_of_ble_eq_true rfl) ?_
  refine X.isub (c := (a % 12) - (b % 12)) dX6_distanceOf_8 rfl ?_
  refine X.mabs (c := iabs ((a % 12) - (b % 12))) dX6_distanceOf_9 kl_X6_239 ⟨by omega, by omega⟩ (by decide) (Nat.le_of_ble_eq_true rfl) rfl ?_
  refine X.istore_n (lv2 := [some (.inl a), some (.inl b), some (.inl (iabs ((a % 12) - (b % 12)))), none]) dX6_distanceOf_12 (Nat.le_of_ble_eq_true rfl) rfl ?_
  refine X.iload_n dX6_distanceOf_13 rfl ?_
  refine X.callS1 (As := [.inl a]) (rest := []) dX6_distanceOf_14 mk_X6_109 (c_rowOf M a (by omega)) rfl (by decide) rfl (Nat.le_of_ble_eq_true rfl) ?_
  refine X.iload_n dX6_distanceOf_17 rfl ?_
  refine X.callS1 (As := [.inl b]) (rest := [.inl (a / 12)]) dX6_distanceOf_18 mk_X6_109 (c_rowOf M b (by omega)) rfl (by decide) rfl (Nat.le_of_ble_eq_true rfl) ?_
  refine X.isub (c := (a / 12) - (b / 12)) dX6_distanceOf_21 rfl ?_
  refine X.mabs (c := iabs ((a / 12) - (b / 12))) dX6_distanceOf_22 kl_X6_239 ⟨by omega, by omega⟩ (by decide) (Nat.le_of_ble_eq_true rfl) rfl ?_
  refine X.istore_n (lv2 := [some (.inl a), some (.inl b), some (.inl (iabs ((a % 12) - (b % 12)))), some (.inl (iabs ((a / 12) - (b / 12))))]) dX6_distanceOf_25 (Nat.le_of_ble_eq_true rfl) rfl ?_
  refine X.iload_n dX6_distanceOf_26 rfl ?_
  refine X.iload_n dX6_distanceOf_27 rfl ?_
  refine X.mmax (c := imax (iabs ((a % 12) - (b % 12))) (iabs ((a / 12) - (b / 12)))) dX6_distanceOf_28 kl_X6_244 (And.intro (Int.le_trans (by decide) (iabs_le (n := 11) (by omega) (by omega)).1) (Int.le_trans (iabs_le (n := 11) (by omega) (by omega)).2 (by decide))) (And.intro (Int.le_trans (by decide) (iabs_le (n := 11) (by omega) (by omega)).1) (Int.le_trans (iabs_le (n := 11) (by omega) (by omega)).2 (by decide))) (by decide) (Nat.le_of_ble_eq_true rfl) rfl ?_
  exact X.iret dX6_distanceOf_31 rfl rfl rfl
set_option maxHeartbeats 4000000 in
set_option maxRecDepth 100000 in
theorem c_otherSide (M : Mem) (s : Int) : CX mX6_otherSide 0 [.inl s] M (some (.inl (1 - s))) M := by
  refine CX.of (by decide +kernel) (Nat.le_of_ble_eq_true rfl) [some (.inl s)] rfl ?_
  refine X.iconst dX6_otherSide_0 ?_
  refine X.iload_n dX6_otherSide_1 rfl ?_
  refine X.isub (c := 1 - s) dX6_otherSide_2 rfl ?_
  exact X.iret dX6_otherSide_3 rfl rfl rfl
set_option maxHeartbeats 4000000 in
set_option maxRecDepth 100000 in
theorem c_bitOf (M : Mem) (k : Int) : CX mX6_bitOf 0 [.inl k] M (some (.inl (iShl 1 k))) M := by
  refine CX.of (by decide +kernel) (Nat.le_of_ble_eq_true rfl) [some (.inl k)] rfl ?_
  refine X.iconst dX6_bitOf_0 ?_
  refine X.iload_n dX6_bitOf_1 rfl ?_
  refine X.ishl (c := iShl 1 k) dX6_bitOf_2 rfl ?_
  exact X.iret dX6_bitOf_3 rfl rfl rfl
theorem mulR {x y : Int} (hx : inR x) (hy : 0 < y ∧ y ≤ 2147483647) : inR (x.tdiv y * y) := by
  have h := Int.tmod_def x y
  have h1 := Int.tmod_lt_of_pos x hy.1
  have h2 := Int.lt_tmod_of_pos x hy.1
  have h3 : x.tdiv y * y = y * x.tdiv y := Int.mul_comm _ _
  by_cases h0 : 0 ≤ x
  · have := Int.tmod_nonneg y h0
    have h5 : 0 ≤ y * x.tdiv y := Int.mul_nonneg (by omega) (Int.tdiv_nonneg h0 (by omega))
    constructor <;> omega
  · have h4 := Int.tmod_nonneg y (show 0 ≤ -x by omega)
    have h5 : 0 ≤ y * (-x).tdiv y := Int.mul_nonneg (by omega) (Int.tdiv_nonneg (by omega) (by omega))
    rw [Int.neg_tmod] at h4
    rw [Int.neg_tdiv, Int.mul_neg] at h5
    constructor <;> omega
set_option maxHeartbeats 4000000 in
set_option maxRecDepth 100000 in
theorem c_floorDiv (M : Mem) (x y : Int) (hx : inR x) (hy : 0 < y ∧ y ≤ 2147483647) : CX mJ9_floorDiv_7cf53 0 [.inl x, .inl y] M (some (.inl (x / y))) M := by
  have hyR : inR y := ⟨by omega, by omega⟩
  obtain ⟨f1, f2, f3⟩ := tdiv_fl (x := x) hy.1
  have hxn := iXor_neg hx hyR hy.1
  refine CX.of (by decide +kernel) (Nat.le_of_ble_eq_true rfl) [some (.inl x), some (.inl y), none] rfl ?_
  refine X.iload_n dJ9_floorDiv_7cf53_0 rfl ?_
  refine X.iload_n dJ9_floorDiv_7cf53_1 rfl ?_
  refine X.idivT dJ9_floorDiv_7cf53_2 (by assumption) (by assumption) (by omega) ?_
  refine X.istore_n (lv2 := [some (.inl x), some (.inl y), some (.inl (x.tdiv y))]) dJ9_floorDiv_7cf53_3 (Nat.le_of_ble_eq_true rfl) rfl ?_
  refine X.iload_n dJ9_floorDiv_7cf53_4 rfl ?_
  refine X.iload_n dJ9_floorDiv_7cf53_5 rfl ?_
  refine X.ixor (c := iXor x y) dJ9_floorDiv_7cf53_6 rfl ?_
  refine X.if_ge (tgt := 21) dJ9_floorDiv_7cf53_7 (by decide) (iXor_inR x y) (fun h7 => ?_) (fun h7 => ?_)
  · skip
    refine X.iload_n dJ9_floorDiv_7cf53_21 rfl ?_
    exact X.iret dJ9_floorDiv_7cf53_22 rfl (by first | rw [f1 (by omega)] | rw [f2 (by omega) h14]) rfl
  · skip
    refine X.iload_n dJ9_floorDiv_7cf53_10 rfl ?_
    refine X.iload_n dJ9_floorDiv_7cf53_11 rfl ?_
    refine X.imul (c := (x.tdiv y) * y) dJ9_floorDiv_7cf53_12 rfl ?_
    refine X.iload_n dJ9_floorDiv_7cf53_13 rfl ?_
    refine X.icmp_eq (tgt := 21) dJ9_floorDiv_7cf53_14 (by decide) (mulR hx hy) hx (fun h14 => ?_) (fun h14 => ?_)
    · skip
      refine X.iload_n dJ9_floorDiv_7cf53_21 rfl ?_
      exact X.iret dJ9_floorDiv_7cf53_22 rfl (by first | rw [f1 (by omega)] | rw [f2 (by omega) h14]) rfl
    · skip
      refine X.iload_n dJ9_floorDiv_7cf53_17 rfl ?_
      refine X.iconst dJ9_floorDiv_7cf53_18 ?_
      refine X.isub (c := (x.tdiv y) - 1) dJ9_floorDiv_7cf53_19 rfl ?_
      exact X.iret dJ9_floorDiv_7cf53_20 rfl (by rw [f3 (by omega) h14]) rfl
set_option maxHeartbeats 4000000 in
set_option maxRecDepth 100000 in
theorem c_part (M : Mem) (x d : Int) (hx : -1000 ≤ x ∧ x ≤ 1000) (hd : 0 < d ∧ d ≤ 1000) : CX mX2_part 1 [.inl x, .inl d] M (some (.inl ((2 * x + d) / (2 * d)))) M := by
  refine CX.of (by decide +kernel) (Nat.le_of_ble_eq_true rfl) [some (.inl x), some (.inl d)] rfl ?_
  refine X.iconst dX2_part_0 ?_
  refine X.iload_n dX2_part_1 rfl ?_
  refine X.imul (c := 2 * x) dX2_part_2 rfl ?_
  refine X.iload_n dX2_part_3 rfl ?_
  refine X.iadd (c := (2 * x) + d) dX2_part_4 rfl ?_
  refine X.iconst dX2_part_5 ?_
  refine X.iload_n dX2_part_6 rfl ?_
  refine X.imul (c := 2 * d) dX2_part_7 rfl ?_
  refine X.callS1 (As := [.inl ((2 * x) + d), .inl (2 * d)]) (rest := []) dX2_part_8 mk_X2_76 (c_floorDiv M ((2 * x) + d) (2 * d) ⟨by omega, by omega⟩ (by omega)) rfl (by decide) rfl (Nat.le_of_ble_eq_true rfl) ?_
  exact X.iret dX2_part_11 rfl rfl rfl
set_option maxHeartbeats 4000000 in
set_option maxRecDepth 100000 in
theorem c_innerCell (M : Mem) (a b d i : Int) (ha : 0 ≤ a ∧ a < 120) (hb : 0 ≤ b ∧ b < 120) (hd : 0 < d ∧ d ≤ 11) (hi : 0 ≤ i ∧ i ≤ 11) : CX mX2_innerCell 2 [.inl a, .inl b, .inl d, .inl i] M (some (.inl (inner a b d i))) M := by
  have m1 := mul_bd hi.1 hi.2 (show -11 ≤ b % 12 - a % 12 by omega) (show b % 12 - a % 12 ≤ 11 by omega)
  have m2 := mul_bd hi.1 hi.2 (show -11 ≤ b / 12 - a / 12 by omega) (show b / 12 - a / 12 ≤ 11 by omega)
  refine CX.of (by decide +kernel) (Nat.le_of_ble_eq_true rfl) [some (.inl a), some (.inl b), some (.inl d), some (.inl i), none, none] rfl ?_
  refine X.iload_n dX2_innerCell_0 rfl ?_
  refine X.iload_n dX2_innerCell_1 rfl ?_
  refine X.callN1 (As := [.inl b]) (rest := [.inl i]) dX2_innerCell_2 mk_X2_64 (c_columnOf M b (by omega)) rfl (by decide) rfl (Nat.le_of_ble_eq_true rfl) ?_
  refine X.iload_n dX2_innerCell_5 rfl ?_
  refine X.callN1 (As := [.inl a]) (rest := [.inl (b % 12), .inl i]) dX2_innerCell_6 mk_X2_64 (c_columnOf M a (by omega)) rfl (by decide) rfl (Nat.le_of_ble_eq_true rfl) ?_
  refine X.isub (c := (b % 12) - (a % 12)) dX2_innerCell_9 rfl ?_
  refine X.imul (c := i * ((b % 12) - (a % 12))) dX2_innerCell_10 rfl ?_
  refine X.iload_n dX2_innerCell_11 rfl ?_
  refine X.callS1 (As := [.inl (i * ((b % 12) - (a % 12))), .inl d]) (rest := []) dX2_innerCell_12 mk_X2_67 (c_part M (i * ((b % 12) - (a % 12))) d (by omega) (by omega)) rfl (by decide) rfl (Nat.le_of_ble_eq_true rfl) ?_
  refine X.istore (lv2 := [some (.inl a), some (.inl b), some (.inl d), some (.inl i), some (.inl ((2 * (i * ((b % 12) - (a % 12))) + d) / (2 * d))), none]) dX2_innerCell_15 (Nat.le_of_ble_eq_true rfl) rfl ?_
  refine X.iload_n dX2_innerCell_17 rfl ?_
  refine X.iload_n dX2_innerCell_18 rfl ?_
  refine X.callN1 (As := [.inl b]) (rest := [.inl i]) dX2_innerCell_19 mk_X2_70 (c_rowOf M b (by omega)) rfl (by decide) rfl (Nat.le_of_ble_eq_true rfl) ?_
  refine X.iload_n dX2_innerCell_22 rfl ?_
  refine X.callN1 (As := [.inl a]) (rest := [.inl (b / 12), .inl i]) dX2_innerCell_23 mk_X2_70 (c_rowOf M a (by omega)) rfl (by decide) rfl (Nat.le_of_ble_eq_true rfl) ?_
  refine X.isub (c := (b / 12) - (a / 12)) dX2_innerCell_26 rfl ?_
  refine X.imul (c := i * ((b / 12) - (a / 12))) dX2_innerCell_27 rfl ?_
  refine X.iload_n dX2_innerCell_28 rfl ?_
  refine X.callS1 (As := [.inl (i * ((b / 12) - (a / 12))), .inl d]) (rest := []) dX2_innerCell_29 mk_X2_67 (c_part M (i * ((b / 12) - (a / 12))) d (by omega) (by omega)) rfl (by decide) rfl (Nat.le_of_ble_eq_true rfl) ?_
  refine X.istore (lv2 := [some (.inl a), some (.inl b), some (.inl d), some (.inl i), some (.inl ((2 * (i * ((b % 12) - (a % 12))) + d) / (2 * d))), some (.inl ((2 * (i * ((b / 12) - (a / 12))) + d) / (2 * d)))]) dX2_innerCell_32 (Nat.le_of_ble_eq_true rfl) rfl ?_
  refine X.iload_n dX2_innerCell_34 rfl ?_
  refine X.callN1 (As := [.inl a]) (rest := []) dX2_innerCell_35 mk_X2_64 (c_columnOf M a (by omega)) rfl (by decide) rfl (Nat.le_of_ble_eq_true rfl) ?_
  refine X.iload dX2_innerCell_38 rfl ?_
  refine X.iadd (c := (a % 12) + ((2 * (i * ((b % 12) - (a % 12))) + d) / (2 * d))) dX2_innerCell_40 rfl ?_
  refine X.iload_n dX2_innerCell_41 rfl ?_
  refine X.callN1 (As := [.inl a]) (rest := [.inl ((a % 12) + ((2 * (i * ((b % 12) - (a % 12))) + d) / (2 * d)))]) dX2_innerCell_42 mk_X2_70 (c_rowOf M a (by omega)) rfl (by decide) rfl (Nat.le_of_ble_eq_true rfl) ?_
  refine X.iload dX2_innerCell_45 rfl ?_
  refine X.iadd (c := (a / 12) + ((2 * (i * ((b / 12) - (a / 12))) + d) / (2 * d))) dX2_innerCell_47 rfl ?_
  refine X.callN1 (As := [.inl ((a % 12) + ((2 * (i * ((b % 12) - (a % 12))) + d) / (2 * d))), .inl ((a / 12) + ((2 * (i * ((b / 12) - (a / 12))) + d) / (2 * d)))]) (rest := []) dX2_innerCell_48 mk_X2_73 (c_cellAt M ((a % 12) + ((2 * (i * ((b % 12) - (a % 12))) + d) / (2 * d))) ((a / 12) + ((2 * (i * ((b / 12) - (a / 12))) + d) / (2 * d)))) rfl (by decide) rfl (Nat.le_of_ble_eq_true rfl) ?_
  exact X.iret dX2_innerCell_51 rfl rfl rfl
