section XC
variable {μ ν : Mu} {d pc d' : Nat} {lv : List (Option AV)} {st rest As : List AV} {M M' : Mem} {Q : Option AV → Mem → Prop} {v : AV}
theorem X.callV1 {idx a t n nf : Nat} {fs : List (Option (Option Nat))} (hd : decode μ.2.1 pc = .ok (.invokevirtual idx, 3)) (hk : KV μ.1.cls idx ν n t) (hs : SH[a]? = some (t + 3, nf, fs)) (hM : CX ν d' (.inr (some a) :: As) M (some v) M') (hn : As.length = n) (hdd : d' + 1 ≤ d) (hst : st = As.reverse ++ .inr (some a) :: rest) (hr : rest.length ≤ 8) (k : VQ μ d (pc + 3) lv (v :: rest) M' Q) : VQ μ d pc lv st M Q := X.callV hd hk hs hM hn hdd hst hr k
theorem X.callV0 {idx a t n nf : Nat} {fs : List (Option (Option Nat))} (hd : decode μ.2.1 pc = .ok (.invokevirtual idx, 3)) (hk : KV μ.1.cls idx ν n t) (hs : SH[a]? = some (t + 3, nf, fs)) (hM : CX ν d' (.inr (some a) :: As) M none M') (hn : As.length = n) (hdd : d' + 1 ≤ d) (hst : st = As.reverse ++ .inr (some a) :: rest) (hr : rest.length ≤ 8) (k : VQ μ d (pc + 3) lv rest M' Q) : VQ μ d pc lv st M Q := X.callV hd hk hs hM hn hdd hst hr k
theorem X.callS1 {idx n : Nat} (hd : decode μ.2.1 pc = .ok (.invokestatic idx, 3)) (hk : KS μ.1.cls idx ν n) (hM : CX ν d' As M (some v) M') (hn : As.length = n) (hdd : d' + 1 ≤ d) (hst : st = As.reverse ++ rest) (hr : rest.length ≤ 8) (k : VQ μ d (pc + 3) lv (v :: rest) M' Q) : VQ μ d pc lv st M Q := X.callS hd hk hM hn hdd hst hr k
theorem X.callS0 {idx n : Nat} (hd : decode μ.2.1 pc = .ok (.invokestatic idx, 3)) (hk : KS μ.1.cls idx ν n) (hM : CX ν d' As M none M') (hn : As.length = n) (hdd : d' + 1 ≤ d) (hst : st = As.reverse ++ rest) (hr : rest.length ≤ 8) (k : VQ μ d (pc + 3) lv rest M' Q) : VQ μ d pc lv st M Q := X.callS hd hk hM hn hdd hst hr k
theorem X.callN1 {idx n : Nat} (hd : decode μ.2.1 pc = .ok (.invokestatic idx, 3)) (hk : KN μ.1.cls idx ν n) (hM : CX ν d' As M (some v) M') (hn : As.length = n) (hdd : d' + 1 ≤ d) (hst : st = As.reverse ++ rest) (hr : rest.length ≤ 8) (k : VQ μ d (pc + 3) lv (v :: rest) M' Q) : VQ μ d pc lv st M Q := X.callN hd hk hM hn hdd hst hr k
theorem X.callN0 {idx n : Nat} (hd : decode μ.2.1 pc = .ok (.invokestatic idx, 3)) (hk : KN μ.1.cls idx ν n) (hM : CX ν d' As M none M') (hn : As.length = n) (hdd : d' + 1 ≤ d) (hst : st = As.reverse ++ rest) (hr : rest.length ≤ 8) (k : VQ μ d (pc + 3) lv rest M' Q) : VQ μ d pc lv st M Q := X.callN hd hk hM hn hdd hst hr k
end XC
/-- a truth as an int -/
noncomputable def bi (P : Prop) : Int := @ite _ P (Classical.propDecidable P) 1 0
theorem bi_t {P : Prop} (h : P) : bi P = 1 := if_pos h
theorem bi_f {P : Prop} (h : ¬ P) : bi P = 0 := if_neg h
theorem bi_01 (P : Prop) : bi P = 0 ∨ bi P = 1 := by
  by_cases h : P
  · exact Or.inr (bi_t h)
  · exact Or.inl (bi_f h)
theorem bi_1 {P : Prop} : bi P = 1 ↔ P := by
  by_cases h : P
  · rw [bi_t h]; simp [h]
  · rw [bi_f h]; simp [h]
theorem bi_0 {P : Prop} : bi P = 0 ↔ ¬ P := by
  by_cases h : P
  · rw [bi_t h]; simp [h]
  · rw [bi_f h]; simp [h]
theorem bi_iff {P Q : Prop} (h : P ↔ Q) : bi P = bi Q := by rw [propext h]
theorem bi_ge (P : Prop) : 0 ≤ bi P ∧ bi P ≤ 1 := by
  rcases bi_01 P with h | h <;> omega
/-- down a range: what holds at its end, and at k if at k + 1, holds all along -/
theorem down_ind {P : Int → Prop} (lo hi : Int) (h0 : P hi) (hs : ∀ k, lo ≤ k → k < hi → P (k + 1) → P k) : ∀ k, lo ≤ k → k ≤ hi → P k := by
  have key : ∀ (n : Nat) (k : Int), (hi - k).toNat = n → lo ≤ k → k ≤ hi → P k := by
    intro n
    induction n with
    | zero =>
      intro k hn h1 h2
      have : k = hi := by omega
      rw [this]; exact h0
    | succ n ih =>
      intro k hn h1 h2
      exact hs k h1 (by omega) (ih (k + 1) (by omega) (by omega) (by omega))
  exact fun k h1 h2 => key _ k rfl h1 h2
/-- how many of the n numbers from k on fulfil P -/
noncomputable def cnt (P : Int → Prop) : Nat → Int → Int
  | 0, _ => 0
  | n + 1, k => bi (P k) + cnt P n (k + 1)
theorem cnt_congr {P Q : Int → Prop} : ∀ (n : Nat) (k : Int), (∀ i, k ≤ i → i < k + n → (P i ↔ Q i)) → cnt P n k = cnt Q n k
  | 0, _, _ => rfl
  | n + 1, k, h => by
    simp only [cnt]
    rw [bi_iff (h k (Int.le_refl _) (by omega)), cnt_congr n (k + 1) (fun i h1 h2 => h i (by omega) (by omega))]
theorem cnt_range (P : Int → Prop) : ∀ (n : Nat) (k : Int), 0 ≤ cnt P n k ∧ cnt P n k ≤ n
  | 0, _ => ⟨by simp [cnt], by simp [cnt]⟩
  | n + 1, k => by
    have := cnt_range P n (k + 1)
    have := bi_ge (P k)
    simp only [cnt]
    omega
theorem cnt_step (P : Int → Prop) (hi k : Int) (h : k < hi) : cnt P (hi - k).toNat k = bi (P k) + cnt P (hi - (k + 1)).toNat (k + 1) := by
  have e : (hi - k).toNat = (hi - (k + 1)).toNat + 1 := by omega
  rw [e]; rfl
theorem cnt_end (P : Int → Prop) (hi : Int) : cnt P (hi - hi).toNat hi = 0 := by simp [cnt]
