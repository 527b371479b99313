/-! ===== VIEWS: what a state says, as rows of numbers; out of range all is 0 ===== -/
abbrev Vw : Type := Nat → Int → Int
def gd (n : Int) (f : Int → Int) : Int → Int := fun i => if 0 ≤ i ∧ i < n then f i else 0
theorem gd_in {n : Int} {f : Int → Int} {i : Int} (h : 0 ≤ i ∧ i < n) : gd n f i = f i := if_pos h
theorem gd_out {n : Int} {f : Int → Int} {i : Int} (h : ¬ (0 ≤ i ∧ i < n)) : gd n f i = 0 := if_neg h
theorem gd_eq {n : Int} {f g : Int → Int} (h : ∀ i, 0 ≤ i → i < n → f i = g i) : gd n f = gd n g := by
  funext i
  by_cases hi : 0 ≤ i ∧ i < n
  · rw [gd_in hi, gd_in hi, h i hi.1 hi.2]
  · rw [gd_out hi, gd_out hi]
def vF (M : Mem) (b : Nat) : Vw := fun t => match t with
  | 0 => fun i => if i = 0 then M b 2 else if i = 1 then M b 6 else if i = 2 then M b 10 else if i = 3 then M b 11 else 0
  | 1 => gd 120 (M (b + 1))
  | 2 => gd 120 (M (b + 2))
  | 3 => gd (M b 2) (M (b + 3))
  | 4 => gd (M b 2) (M (b + 4))
  | 5 => gd (M b 2) (M (b + 5))
  | 6 => gd (M b 6) (M (b + 6))
  | 7 => gd (M b 6) (M (b + 7))
  | 8 => gd (M b 6) (M (b + 8))
  | 9 => gd 120 (M (b + 11))
  | 10 => gd 120 (M (b + 12))
  | 11 => gd 120 (M (b + 13))
  | 12 => gd 120 (M (b + 14))
  | 13 => gd 120 (M (b + 16))
  | 14 => gd 120 (M (b + 17))
  | 15 => gd 120 (M (b + 18))
  | 16 => gd 120 (M (b + 19))
  | _ => fun _ => 0
theorem vF_frame {M M' : Mem} {b : Nat} (h : ∀ a, b ≤ a → a < b + 20 → M' a = M a) : vF M' b = vF M b := by
  funext t
  unfold vF
  simp only [h b (by omega) (by omega), h (b + 1) (by omega) (by omega), h (b + 2) (by omega) (by omega), h (b + 3) (by omega) (by omega), h (b + 4) (by omega) (by omega), h (b + 5) (by omega) (by omega), h (b + 6) (by omega) (by omega), h (b + 7) (by omega) (by omega), h (b + 8) (by omega) (by omega), h (b + 11) (by omega) (by omega), h (b + 12) (by omega) (by omega), h (b + 13) (by omega) (by omega), h (b + 14) (by omega) (by omega), h (b + 16) (by omega) (by omega), h (b + 17) (by omega) (by omega), h (b + 18) (by omega) (by omega), h (b + 19) (by omega) (by omega)]
/-! ===== what is seen ===== -/
def lit (v : Vw) (c : Int) : Prop := ∃ k, 0 ≤ k ∧ k < v 0 1 ∧ 0 < v 8 k ∧ dist (v 6 k) c ≤ v 7 k
def okAt (v : Vw) (a b i : Int) : Prop := 2 * v 1 (inner a b (dist a b) i) + 100 * v 2 (inner a b (dist a b) i) ≤ ((2 * v 1 a + 1) * (dist a b - i) + (2 * v 1 b + 1) * i) / dist a b
def free (v : Vw) (a b : Int) : Prop := ∀ i, 1 ≤ i → i < dist a b → okAt v a b i
def see (v : Vw) (a r c : Int) : Prop := (dist a c ≤ r ∨ (dist a c ≤ 2 * r ∧ lit v c)) ∧ free v a c
def sees (v : Vw) (k c : Int) : Prop := see v (v 4 k) (v 5 k) c
def sSees (v : Vw) (s c : Int) : Prop := ∃ k, 0 ≤ k ∧ k < v 0 0 ∧ sees v k c ∧ v 3 k = s
/-- the first of the n numbers from k on that fulfils P; -19 if none does -/
noncomputable def fst1 (P : Int → Prop) : Nat → Int → Int
  | 0, _ => -19
  | n + 1, k => @ite _ (P k) (Classical.propDecidable _) k (fst1 P n (k + 1))
noncomputable def sIn (v : Vw) (c : Int) : Int := fst1 (fun k => v 4 k = c) (v 0 0).toNat 0
theorem fst1_t {P : Int → Prop} {hi k : Int} (h : k < hi) (p : P k) : fst1 P (hi - k).toNat k = k := by
  have e : (hi - k).toNat = (hi - (k + 1)).toNat + 1 := by omega
  rw [e]; exact if_pos p
theorem fst1_f {P : Int → Prop} {hi k : Int} (h : k < hi) (p : ¬ P k) : fst1 P (hi - k).toNat k = fst1 P (hi - (k + 1)).toNat (k + 1) := by
  have e : (hi - k).toNat = (hi - (k + 1)).toNat + 1 := by omega
  rw [e]; exact if_neg p
theorem fst1_end {P : Int → Prop} {hi : Int} : fst1 P (hi - hi).toNat hi = -19 := by simp [fst1]
theorem fst1_spec (P : Int → Prop) : ∀ (n : Nat) (k : Int), (fst1 P n k = -19 ∧ ∀ i, k ≤ i → i < k + n → ¬ P i) ∨ (k ≤ fst1 P n k ∧ fst1 P n k < k + n ∧ P (fst1 P n k) ∧ ∀ i, k ≤ i → i < fst1 P n k → ¬ P i)
  | 0, k => Or.inl ⟨rfl, fun i h1 h2 => by omega⟩
  | n + 1, k => by
    by_cases p : P k
    · have e : fst1 P (n + 1) k = k := if_pos p
      rw [e]
      exact Or.inr ⟨by omega, by omega, p, fun i h1 h2 => by omega⟩
    · have e : fst1 P (n + 1) k = fst1 P n (k + 1) := if_neg p
      rw [e]
      rcases fst1_spec P n (k + 1) with ⟨h1, h2⟩ | ⟨h1, h2, h3, h4⟩
      · refine Or.inl ⟨h1, fun i a b => ?_⟩
        by_cases hi : i = k
        · rw [hi]; exact p
        · exact h2 i (by omega) (by omega)
      · refine Or.inr ⟨by omega, by omega, h3, fun i a b => ?_⟩
        by_cases hi : i = k
        · rw [hi]; exact p
        · exact h4 i (by omega) b
/-! ===== the bounds of a state ===== -/
def SI (v : Vw) : Prop := (0 ≤ v 0 0 ∧ v 0 0 ≤ 10) ∧ (0 ≤ v 0 1 ∧ v 0 1 ≤ 6) ∧ (1 ≤ v 0 2 ∧ v 0 2 ≤ 99) ∧ (∀ c, 0 ≤ v 1 c ∧ v 1 c ≤ 9) ∧ (∀ c, 0 ≤ v 2 c ∧ v 2 c ≤ 1) ∧ (∀ k, 0 ≤ v 3 k ∧ v 3 k ≤ 1) ∧ (∀ k, 0 ≤ v 4 k ∧ v 4 k < 120) ∧ (∀ k, 0 ≤ v 5 k ∧ v 5 k ≤ 8) ∧ (∀ k, 0 ≤ v 6 k ∧ v 6 k < 120) ∧ (∀ k, 0 ≤ v 7 k ∧ v 7 k ≤ 4) ∧ (∀ k, 0 ≤ v 8 k ∧ v 8 k ≤ 50) ∧
  (∀ c, 0 ≤ v 9 c ∧ v 9 c ≤ 99) ∧ (∀ c, 0 ≤ v 10 c ∧ v 10 c ≤ 9) ∧ (∀ c, 0 ≤ v 11 c ∧ v 11 c ≤ 1) ∧ (∀ c, 0 ≤ v 12 c ∧ v 12 c ≤ 1) ∧ (∀ c, 0 ≤ v 13 c ∧ v 13 c ≤ 99) ∧ (∀ c, 0 ≤ v 14 c ∧ v 14 c ≤ 9) ∧ (∀ c, 0 ≤ v 15 c ∧ v 15 c ≤ 1) ∧ (∀ c, 0 ≤ v 16 c ∧ v 16 c ≤ 1) ∧
  (∀ k, 0 ≤ k → k < v 0 0 → 1 ≤ v 5 k ∧ v 2 (v 4 k) = 0) ∧ (∀ j k, 0 ≤ j → j < k → k < v 0 0 → v 4 j ≠ v 4 k)
section SIB
variable {v : Vw}
theorem SI.n0 (h : SI v) : 0 ≤ v 0 0 ∧ v 0 0 ≤ 10 := h.1
theorem SI.n1 (h : SI v) : 0 ≤ v 0 1 ∧ v 0 1 ≤ 6 := h.2.1
theorem SI.n2 (h : SI v) : 1 ≤ v 0 2 ∧ v 0 2 ≤ 99 := h.2.2.1
theorem SI.r1 (h : SI v) (i : Int) : 0 ≤ v 1 i ∧ v 1 i ≤ 9 := h.2.2.2.1 i
theorem SI.r2 (h : SI v) (i : Int) : 0 ≤ v 2 i ∧ v 2 i ≤ 1 := h.2.2.2.2.1 i
theorem SI.r3 (h : SI v) (i : Int) : 0 ≤ v 3 i ∧ v 3 i ≤ 1 := h.2.2.2.2.2.1 i
theorem SI.r4 (h : SI v) (i : Int) : 0 ≤ v 4 i ∧ v 4 i < 120 := h.2.2.2.2.2.2.1 i
theorem SI.r5 (h : SI v) (i : Int) : 0 ≤ v 5 i ∧ v 5 i ≤ 8 := h.2.2.2.2.2.2.2.1 i
theorem SI.r6 (h : SI v) (i : Int) : 0 ≤ v 6 i ∧ v 6 i < 120 := h.2.2.2.2.2.2.2.2.1 i
theorem SI.r7 (h : SI v) (i : Int) : 0 ≤ v 7 i ∧ v 7 i ≤ 4 := h.2.2.2.2.2.2.2.2.2.1 i
theorem SI.r8 (h : SI v) (i : Int) : 0 ≤ v 8 i ∧ v 8 i ≤ 50 := h.2.2.2.2.2.2.2.2.2.2.1 i
theorem SI.r9 (h : SI v) (i : Int) : 0 ≤ v 9 i ∧ v 9 i ≤ 99 := h.2.2.2.2.2.2.2.2.2.2.2.1 i
theorem SI.r10 (h : SI v) (i : Int) : 0 ≤ v 10 i ∧ v 10 i ≤ 9 := h.2.2.2.2.2.2.2.2.2.2.2.2.1 i
theorem SI.r11 (h : SI v) (i : Int) : 0 ≤ v 11 i ∧ v 11 i ≤ 1 := h.2.2.2.2.2.2.2.2.2.2.2.2.2.1 i
theorem SI.r12 (h : SI v) (i : Int) : 0 ≤ v 12 i ∧ v 12 i ≤ 1 := h.2.2.2.2.2.2.2.2.2.2.2.2.2.2.1 i
theorem SI.r13 (h : SI v) (i : Int) : 0 ≤ v 13 i ∧ v 13 i ≤ 99 := h.2.2.2.2.2.2.2.2.2.2.2.2.2.2.2.1 i
theorem SI.r14 (h : SI v) (i : Int) : 0 ≤ v 14 i ∧ v 14 i ≤ 9 := h.2.2.2.2.2.2.2.2.2.2.2.2.2.2.2.2.1 i
theorem SI.r15 (h : SI v) (i : Int) : 0 ≤ v 15 i ∧ v 15 i ≤ 1 := h.2.2.2.2.2.2.2.2.2.2.2.2.2.2.2.2.2.1 i
theorem SI.r16 (h : SI v) (i : Int) : 0 ≤ v 16 i ∧ v 16 i ≤ 1 := h.2.2.2.2.2.2.2.2.2.2.2.2.2.2.2.2.2.2.1 i
theorem SI.on (h : SI v) {k : Int} (h1 : 0 ≤ k) (h2 : k < v 0 0) : 1 ≤ v 5 k ∧ v 2 (v 4 k) = 0 := h.2.2.2.2.2.2.2.2.2.2.2.2.2.2.2.2.2.2.2.1 k h1 h2
theorem SI.ne (h : SI v) {j k : Int} (h1 : 0 ≤ j) (h2 : j < k) (h3 : k < v 0 0) : v 4 j ≠ v 4 k := h.2.2.2.2.2.2.2.2.2.2.2.2.2.2.2.2.2.2.2.2 j k h1 h2 h3
theorem sIn_range (h : SI v) (c : Int) : sIn v c = -19 ∨ (0 ≤ sIn v c ∧ sIn v c < v 0 0 ∧ v 4 (sIn v c) = c) := by
  have := h.n0
  rcases fst1_spec (fun k => v 4 k = c) (v 0 0).toNat 0 with ⟨h1, -⟩ | ⟨h1, h2, h3, -⟩
  · exact Or.inl h1
  · exact Or.inr ⟨h1, by unfold sIn; omega, h3⟩
theorem sIn_none (h : SI v) {c : Int} : sIn v c = -19 ↔ ∀ k, 0 ≤ k → k < v 0 0 → v 4 k ≠ c := by
  have := h.n0
  constructor
  · intro e k h1 h2
    rcases fst1_spec (fun k => v 4 k = c) (v 0 0).toNat 0 with ⟨-, q⟩ | ⟨q, -⟩
    · exact q k h1 (by omega)
    · unfold sIn at e; omega
  · intro q
    rcases fst1_spec (fun k => v 4 k = c) (v 0 0).toNat 0 with ⟨e, -⟩ | ⟨h1, h2, h3, -⟩
    · exact e
    · exact absurd h3 (q _ h1 (by omega))
end SIB
/-! the reads of the first state's cells, as its view has them -/
/-- the rows of cells, scouts and lights are v's -/
def VA (M : Mem) (v : Vw) : Prop := ∀ t, t ≤ 8 → vF M 1 t = v t
/-- the rows of what the sides remember are v's -/
def VM (M : Mem) (v : Vw) : Prop := ∀ t, 9 ≤ t → t ≤ 16 → vF M 1 t = v t
theorem VA.of {M : Mem} {v : Vw} (h : vF M 1 = v) : VA M v := fun t _ => by rw [h]
theorem VM.of {M : Mem} {v : Vw} (h : vF M 1 = v) : VM M v := fun t _ _ => by rw [h]
theorem VA.frame {M M' : Mem} {v : Vw} (h : VA M v) (hf : ∀ a, 1 ≤ a → a ≤ 9 → M' a = M a) : VA M' v := by
  intro t ht
  rw [← h t ht]
  have : t = 0 ∨ t = 1 ∨ t = 2 ∨ t = 3 ∨ t = 4 ∨ t = 5 ∨ t = 6 ∨ t = 7 ∨ t = 8 := by omega
  rcases this with rfl | rfl | rfl | rfl | rfl | rfl | rfl | rfl | rfl <;> simp only [vF, hf 1 (by omega) (by omega), hf (1 + 1) (by omega) (by omega), hf (1 + 2) (by omega) (by omega), hf (1 + 3) (by omega) (by omega), hf (1 + 4) (by omega) (by omega), hf (1 + 5) (by omega) (by omega), hf (1 + 6) (by omega) (by omega), hf (1 + 7) (by omega) (by omega), hf (1 + 8) (by omega) (by omega)]
theorem VA.mset {M : Mem} {v : Vw} {a : Nat} {i x : Int} (h : VA M v) (ha : 9 < a) : VA (mset M a i x) v := h.frame fun b h1 h2 => mset_row (by omega)
theorem VA.mrow {M : Mem} {v : Vw} {a : Nat} {f : Int → Int} (h : VA M v) (ha : 9 < a) : VA (mrow M a f) v := h.frame fun b h1 h2 => mrow_row (by omega)
section RDS
variable {M : Mem} {v : Vw}
theorem gd_rd {n i : Int} {f g : Int → Int} (h : gd n f = g) (hi : 0 ≤ i ∧ i < n) : f i = g i := by rw [← h, gd_in hi]
theorem rd_0_0 (hv : VA M v) : M 1 2 = v 0 0 := by rw [← hv 0 (by decide)]; rfl
theorem rd_0_1 (hv : VA M v) : M 1 6 = v 0 1 := by rw [← hv 0 (by decide)]; rfl
theorem rd_0_2 (hv : VA M v) : M 1 10 = v 0 2 := by rw [← hv 0 (by decide)]; rfl
theorem rd_0_3 (hv : VA M v) : M 1 11 = v 0 3 := by rw [← hv 0 (by decide)]; rfl
theorem rd_1 (hv : VA M v) {i : Int} (h : 0 ≤ i ∧ i < 120) : M 2 i = v 1 i := gd_rd (hv 1 (by decide)) h
theorem rd_2 (hv : VA M v) {i : Int} (h : 0 ≤ i ∧ i < 120) : M 3 i = v 2 i := gd_rd (hv 2 (by decide)) h
theorem rd_3 (hv : VA M v) {i : Int} (h : 0 ≤ i ∧ i < v 0 0) : M 4 i = v 3 i := gd_rd (hv 3 (by decide)) (by rw [rd_0_0 hv]; exact h)
theorem rd_4 (hv : VA M v) {i : Int} (h : 0 ≤ i ∧ i < v 0 0) : M 5 i = v 4 i := gd_rd (hv 4 (by decide)) (by rw [rd_0_0 hv]; exact h)
theorem rd_5 (hv : VA M v) {i : Int} (h : 0 ≤ i ∧ i < v 0 0) : M 6 i = v 5 i := gd_rd (hv 5 (by decide)) (by rw [rd_0_0 hv]; exact h)
theorem rd_6 (hv : VA M v) {i : Int} (h : 0 ≤ i ∧ i < v 0 1) : M 7 i = v 6 i := gd_rd (hv 6 (by decide)) (by rw [rd_0_1 hv]; exact h)
theorem rd_7 (hv : VA M v) {i : Int} (h : 0 ≤ i ∧ i < v 0 1) : M 8 i = v 7 i := gd_rd (hv 7 (by decide)) (by rw [rd_0_1 hv]; exact h)
theorem rd_8 (hv : VA M v) {i : Int} (h : 0 ≤ i ∧ i < v 0 1) : M 9 i = v 8 i := gd_rd (hv 8 (by decide)) (by rw [rd_0_1 hv]; exact h)
theorem rd_9 (hv : VM M v) {i : Int} (h : 0 ≤ i ∧ i < 120) : M 12 i = v 9 i := gd_rd (hv 9 (by decide) (by decide)) h
theorem rd_10 (hv : VM M v) {i : Int} (h : 0 ≤ i ∧ i < 120) : M 13 i = v 10 i := gd_rd (hv 10 (by decide) (by decide)) h
theorem rd_11 (hv : VM M v) {i : Int} (h : 0 ≤ i ∧ i < 120) : M 14 i = v 11 i := gd_rd (hv 11 (by decide) (by decide)) h
theorem rd_12 (hv : VM M v) {i : Int} (h : 0 ≤ i ∧ i < 120) : M 15 i = v 12 i := gd_rd (hv 12 (by decide) (by decide)) h
theorem rd_13 (hv : VM M v) {i : Int} (h : 0 ≤ i ∧ i < 120) : M 17 i = v 13 i := gd_rd (hv 13 (by decide) (by decide)) h
theorem rd_14 (hv : VM M v) {i : Int} (h : 0 ≤ i ∧ i < 120) : M 18 i = v 14 i := gd_rd (hv 14 (by decide) (by decide)) h
theorem rd_15 (hv : VM M v) {i : Int} (h : 0 ≤ i ∧ i < 120) : M 19 i = v 15 i := gd_rd (hv 15 (by decide) (by decide)) h
theorem rd_16 (hv : VM M v) {i : Int} (h : 0 ≤ i ∧ i < 120) : M 20 i = v 16 i := gd_rd (hv 16 (by decide) (by decide)) h
end RDS
/-! all and some of a range, from its low end -/
def allU (P : Int → Prop) (k hi : Int) : Prop := ∀ i, k ≤ i → i < hi → P i
def exU (P : Int → Prop) (k hi : Int) : Prop := ∃ i, k ≤ i ∧ i < hi ∧ P i
theorem allU_end {P : Int → Prop} {k hi : Int} (h : hi ≤ k) : allU P k hi := fun i h1 h2 => by omega
theorem allU_t {P : Int → Prop} {k hi : Int} (p : P k) : bi (allU P k hi) = bi (allU P (k + 1) hi) := bi_iff ⟨fun h i h1 h2 => h i (by omega) h2, fun h i h1 h2 => by
  by_cases e : i = k
  · rw [e]; exact p
  · exact h i (by omega) h2⟩
theorem allU_f {P : Int → Prop} {k hi : Int} (h : k < hi) (p : ¬ P k) : ¬ allU P k hi := fun q => p (q k (Int.le_refl _) h)
theorem exU_end {P : Int → Prop} {k hi : Int} (h : hi ≤ k) : ¬ exU P k hi := fun ⟨i, h1, h2, _⟩ => by omega
theorem exU_f {P : Int → Prop} {k hi : Int} (p : ¬ P k) : bi (exU P k hi) = bi (exU P (k + 1) hi) := bi_iff ⟨fun ⟨i, h1, h2, h3⟩ => by
  by_cases e : i = k
  · rw [e] at h3; exact absurd h3 p
  · exact ⟨i, by omega, h2, h3⟩, fun ⟨i, h1, h2, h3⟩ => ⟨i, by omega, h2, h3⟩⟩
theorem exU_t {P : Int → Prop} {k hi : Int} (h : k < hi) (p : P k) : exU P k hi := ⟨k, Int.le_refl _, h, p⟩
theorem bi_inR (P : Prop) : inR (bi P) := by
  have := bi_ge P
  constructor <;> omega
theorem imax_r {a b : Int} : a ≤ imax a b ∧ b ≤ imax a b ∧ (imax a b = a ∨ imax a b = b) := by unfold imax; split <;> omega
theorem imin_r {a b : Int} : imin a b ≤ a ∧ imin a b ≤ b ∧ (imin a b = a ∨ imin a b = b) := by unfold imin; split <;> omega
theorem iabs_r {a : Int} : 0 ≤ iabs a ∧ (iabs a = a ∨ iabs a = -a) ∧ a ≤ iabs a ∧ -a ≤ iabs a := by unfold iabs; split <;> omega
/-! masks: the bit k stands where P k -/
noncomputable def mkN (P : Int → Prop) : Nat → Nat
  | 0 => 0
  | n + 1 => mkN P n + (@ite _ (P n) (Classical.propDecidable _) (2 ^ n) 0)
theorem mkN_lt (P : Int → Prop) : ∀ n, mkN P n < 2 ^ n
  | 0 => by simp [mkN]
  | n + 1 => by
    have := mkN_lt P n
    simp only [mkN]
    by_cases p : P n
    · rw [if_pos p, Nat.pow_succ]; omega
    · rw [if_neg p, Nat.pow_succ]; omega
theorem mkN_t {P : Int → Prop} {n : Nat} (p : P n) : mkN P (n + 1) = mkN P n + 2 ^ n := by simp only [mkN]; rw [if_pos p]
theorem mkN_f {P : Int → Prop} {n : Nat} (p : ¬ P n) : mkN P (n + 1) = mkN P n := by simp only [mkN]; rw [if_neg p]; rfl
theorem mkN_bit (P : Int → Prop) : ∀ (n i : Nat), (mkN P n).testBit i = true ↔ i < n ∧ P i
  | 0, i => by simp [mkN]
  | n + 1, i => by
    have ih := mkN_bit P n i
    have hl := mkN_lt P n
    by_cases p : P n
    · rw [mkN_t p, ← Nat.or_two_pow_eq_add_of_lt hl, Nat.testBit_or, Bool.or_eq_true, ih, Nat.testBit_two_pow, decide_eq_true_iff]
      constructor
      · rintro (⟨h1, h2⟩ | rfl)
        · exact ⟨by omega, h2⟩
        · exact ⟨by omega, p⟩
      · rintro ⟨h1, h2⟩
        by_cases e : n = i
        · exact Or.inr e
        · exact Or.inl ⟨by omega, h2⟩
    · rw [mkN_f p, ih]
      constructor
      · rintro ⟨h1, h2⟩; exact ⟨by omega, h2⟩
      · rintro ⟨h1, h2⟩
        refine ⟨?_, h2⟩
        by_cases e : i = n
        · subst e; exact absurd h2 p
        · omega
theorem nat_of {n : Nat} (h : n < 2 ^ 31) : (Int32.ofInt (n : Int)).toBitVec = BitVec.ofNat 32 n := by
  rw [Int32.ofInt_eq_ofNat]; rfl
theorem nat_to {n : Nat} (h : n < 2 ^ 31) (x : Int32) (e : x.toBitVec = BitVec.ofNat 32 n) : x.toInt = (n : Int) := by
  have : x = Int32.ofNat n := Int32.toBitVec_inj.mp e
  rw [this, Int32.toInt_ofNat_of_lt h]
theorem iOr_nat {a b : Nat} (ha : a < 2 ^ 31) (hb : b < 2 ^ 31) : iOr a b = ((a ||| b : Nat) : Int) := by
  refine nat_to (Nat.or_lt_two_pow ha hb) _ ?_
  rw [Int32.toBitVec_or, nat_of ha, nat_of hb, BitVec.ofNat_or]
theorem iAnd_nat {a b : Nat} (ha : a < 2 ^ 31) (hb : b < 2 ^ 31) : iAnd a b = ((a &&& b : Nat) : Int) := by
  refine nat_to (Nat.and_lt_two_pow a hb) _ ?_
  rw [Int32.toBitVec_and, nat_of ha, nat_of hb, BitVec.ofNat_and]
theorem iShl_1 {k : Int} (h : 0 ≤ k ∧ k ≤ 10) : iShl 1 k = ((2 ^ k.toNat : Nat) : Int) := by
  have : k = 0 ∨ k = 1 ∨ k = 2 ∨ k = 3 ∨ k = 4 ∨ k = 5 ∨ k = 6 ∨ k = 7 ∨ k = 8 ∨ k = 9 ∨ k = 10 := by omega
  rcases this with rfl | rfl | rfl | rfl | rfl | rfl | rfl | rfl | rfl | rfl | rfl <;> decide +kernel
theorem pow31 {n : Nat} (h : n ≤ 10) : 2 ^ n < 2 ^ 31 := Nat.pow_lt_pow_of_lt (by omega) (by omega)
theorem mkN_or {P : Int → Prop} {k : Int} (h : 0 ≤ k ∧ k < 10) (p : P k) : iOr (mkN P k.toNat) (iShl 1 k) = (mkN P (k + 1).toNat : Int) := by
  have hl := mkN_lt P k.toNat
  have h2 := pow31 (n := k.toNat) (by omega)
  have hk : ((k.toNat : Nat) : Int) = k := by omega
  rw [iShl_1 (by omega), iOr_nat (by omega) h2, Nat.or_two_pow_eq_add_of_lt hl, show (k + 1).toNat = k.toNat + 1 by omega, mkN_t (by rw [hk]; exact p)]
theorem mkN_no {P : Int → Prop} {k : Int} (h : 0 ≤ k) (p : ¬ P k) : mkN P (k + 1).toNat = mkN P k.toNat := by
  have hk : ((k.toNat : Nat) : Int) = k := by omega
  rw [show (k + 1).toNat = k.toNat + 1 by omega, mkN_f (by rw [hk]; exact p)]
theorem mkN_and {P Q : Int → Prop} (n : Nat) : mkN P n &&& mkN Q n = mkN (fun k => P k ∧ Q k) n := by
  apply Nat.eq_of_testBit_eq
  intro i
  rw [Nat.testBit_and, Bool.eq_iff_iff, Bool.and_eq_true, mkN_bit, mkN_bit, mkN_bit]
  constructor
  · rintro ⟨⟨a, b⟩, -, c⟩; exact ⟨a, b, c⟩
  · rintro ⟨a, b, c⟩; exact ⟨⟨a, b⟩, a, c⟩
theorem mkN_0 {P : Int → Prop} (n : Nat) : mkN P n = 0 ↔ ∀ k : Nat, k < n → ¬ P k := by
  constructor
  · intro e k h p
    have := (mkN_bit P n k).mpr ⟨h, p⟩
    rw [e] at this
    simp at this
  · intro h
    apply Nat.eq_of_testBit_eq
    intro i
    rw [Nat.zero_testBit]
    cases hb : (mkN P n).testBit i with
    | false => rfl
    | true => obtain ⟨a, b⟩ := (mkN_bit P n i).mp hb; exact absurd b (h i a)
theorem mkN_congr {P Q : Int → Prop} (n : Nat) (h : ∀ k : Nat, k < n → (P k ↔ Q k)) : mkN P n = mkN Q n := by
  apply Nat.eq_of_testBit_eq
  intro i
  rw [Bool.eq_iff_iff, mkN_bit, mkN_bit]
  constructor
  · rintro ⟨a, b⟩; exact ⟨a, (h i a).mp b⟩
  · rintro ⟨a, b⟩; exact ⟨a, (h i a).mpr b⟩
/-- a mask and another one have a common bit -/
theorem mask_and {P Q : Int → Prop} {n : Int} (hn : 0 ≤ n ∧ n ≤ 10) : iAnd (mkN P n.toNat) (mkN Q n.toNat) = ((mkN (fun k => P k ∧ Q k) n.toNat : Nat) : Int) := by
  have h1 := mkN_lt P n.toNat
  have h2 := mkN_lt Q n.toNat
  have h3 := pow31 (n := n.toNat) (by omega)
  rw [iAnd_nat (by omega) (by omega), mkN_and]
theorem mask_0 {P : Int → Prop} {n : Int} : ((mkN P n.toNat : Nat) : Int) = 0 ↔ ¬ ∃ k, 0 ≤ k ∧ k < n ∧ P k := by
  constructor
  · rintro e ⟨k, h1, h2, h3⟩
    have hk : ((k.toNat : Nat) : Int) = k := by omega
    exact (mkN_0 (P := P) n.toNat).mp (by omega) k.toNat (by omega) (by rw [hk]; exact h3)
  · intro h
    have : mkN P n.toNat = 0 := (mkN_0 _).mpr fun k hk p => h ⟨k, by omega, by omega, p⟩
    omega
theorem mask_inR {P : Int → Prop} {n : Int} (hn : n ≤ 10) : inR ((mkN P n.toNat : Nat) : Int) := by
  have h1 := mkN_lt P n.toNat
  have h3 := pow31 (n := n.toNat) (by omega)
  constructor <;> omega
theorem mset_mset {M : Mem} {a : Nat} {i x y : Int} : mset (mset M a i x) a i y = mset M a i y := by
  funext b j
  simp only [mset]
  by_cases h : b = a ∧ j = i
  · rw [if_pos h, if_pos h]
  · rw [if_neg h, if_neg h, if_neg h]
theorem mset_at {M : Mem} {a : Nat} {i x : Int} : mset M a i x a i = x := by simp [mset]
theorem mset_ne {M : Mem} {a b : Nat} {i j x : Int} (h : ¬ (b = a ∧ j = i)) : mset M a i x b j = M b j := if_neg h
theorem mulb {a b n : Int} (h1 : 0 ≤ a) (h2 : a ≤ n) (h3 : 0 ≤ b) (h4 : b ≤ 11) : 0 ≤ a * b ∧ a * b ≤ 11 * n := by
  have : b = 0 ∨ b = 1 ∨ b = 2 ∨ b = 3 ∨ b = 4 ∨ b = 5 ∨ b = 6 ∨ b = 7 ∨ b = 8 ∨ b = 9 ∨ b = 10 ∨ b = 11 := by omega
  rcases this with rfl | rfl | rfl | rfl | rfl | rfl | rfl | rfl | rfl | rfl | rfl | rfl <;> omega
/-- an inner cell of a line is a cell -/
theorem line_bd {p q d i : Int} (hd : 0 < d) (hd2 : d ≤ 11) (h1 : 0 ≤ i) (h2 : i ≤ d) (hpq : -d ≤ q - p ∧ q - p ≤ d) : (p ≤ q → p ≤ p + (2 * (i * (q - p)) + d) / (2 * d) ∧ p + (2 * (i * (q - p)) + d) / (2 * d) ≤ q) ∧ (q ≤ p → q ≤ p + (2 * (i * (q - p)) + d) / (2 * d) ∧ p + (2 * (i * (q - p)) + d) / (2 * d) ≤ p) := by
  generalize hw : q - p = w at *
  have key : ∀ x : Int, (0 ≤ w → 0 ≤ x ∧ x ≤ d * w) ∧ (w ≤ 0 → d * w ≤ x ∧ x ≤ 0) → (0 ≤ w → 0 ≤ (2 * x + d) / (2 * d) ∧ (2 * x + d) / (2 * d) ≤ w) ∧ (w ≤ 0 → w ≤ (2 * x + d) / (2 * d) ∧ (2 * x + d) / (2 * d) ≤ 0) := by
    intro x hx
    have : d = 1 ∨ d = 2 ∨ d = 3 ∨ d = 4 ∨ d = 5 ∨ d = 6 ∨ d = 7 ∨ d = 8 ∨ d = 9 ∨ d = 10 ∨ d = 11 := by omega
    rcases this with rfl | rfl | rfl | rfl | rfl | rfl | rfl | rfl | rfl | rfl | rfl <;> omega
  have hx : (0 ≤ w → 0 ≤ i * w ∧ i * w ≤ d * w) ∧ (w ≤ 0 → d * w ≤ i * w ∧ i * w ≤ 0) := by
    refine ⟨fun h => ⟨Int.mul_nonneg h1 h, Int.mul_le_mul_of_nonneg_right h2 h⟩, fun h => ⟨Int.mul_le_mul_of_nonpos_right h2 h, ?_⟩⟩
    have := Int.mul_nonneg h1 (show 0 ≤ -w by omega)
    rw [Int.mul_neg] at this
    omega
  have := key (i * w) hx
  constructor <;> intro h <;> omega
theorem inner_cell {a b i : Int} (ha : 0 ≤ a ∧ a < 120) (hb : 0 ≤ b ∧ b < 120) (h1 : 1 ≤ i) (h2 : i < dist a b) : 0 ≤ inner a b (dist a b) i ∧ inner a b (dist a b) i < 120 := by
  have hd := dist_le ha hb
  have hc : -dist a b ≤ b % 12 - a % 12 ∧ b % 12 - a % 12 ≤ dist a b := by
    unfold dist imax iabs; split <;> split <;> split <;> omega
  have hr : -dist a b ≤ b / 12 - a / 12 ∧ b / 12 - a / 12 ≤ dist a b := by
    unfold dist imax iabs; split <;> split <;> split <;> omega
  generalize dist a b = d at *
  have c1 := line_bd (p := a % 12) (q := b % 12) (d := d) (i := i) (by omega) (by omega) (by omega) (by omega) hc
  have c2 := line_bd (p := a / 12) (q := b / 12) (d := d) (i := i) (by omega) (by omega) (by omega) (by omega) hr
  unfold inner
  generalize (a % 12 + (2 * (i * (b % 12 - a % 12)) + d) / (2 * d)) = x at *
  generalize (a / 12 + (2 * (i * (b / 12 - a / 12)) + d) / (2 * d)) = y at *
  have hx : 0 ≤ x ∧ x ≤ 11 := by
    by_cases q : a % 12 ≤ b % 12
    · have := c1.1 q; omega
    · have := c1.2 (by omega); omega
  have hy : 0 ≤ y ∧ y ≤ 9 := by
    by_cases q : a / 12 ≤ b / 12
    · have := c2.1 q; omega
    · have := c2.2 (by omega); omega
  omega
