/-! ===== the model's view: one row of 1268 numbers ===== -/
def vM (S : Int → Int) : Vw := fun t => match t with
  | 0 => fun i => if i = 0 then S 0 else if i = 1 then S 1 else if i = 2 then S 2 else if i = 3 then S 3 else 0
  | 1 => gd 120 (fun j => S (68 + j))
  | 2 => gd 120 (fun j => S (188 + j))
  | 3 => gd (S 0) (fun k => S (4 + 4 * k + 0))
  | 4 => gd (S 0) (fun k => S (4 + 4 * k + 2) * 12 + S (4 + 4 * k + 1))
  | 5 => gd (S 0) (fun k => S (4 + 4 * k + 3))
  | 6 => gd (S 1) (fun k => S (44 + 4 * k + 1) * 12 + S (44 + 4 * k + 0))
  | 7 => gd (S 1) (fun k => S (44 + 4 * k + 2))
  | 8 => gd (S 1) (fun k => S (44 + 4 * k + 3))
  | 9 => gd 120 (fun j => S (308 + j))
  | 10 => gd 120 (fun j => S (548 + j))
  | 11 => gd 120 (fun j => S (788 + j))
  | 12 => gd 120 (fun j => S (1028 + j))
  | 13 => gd 120 (fun j => S (428 + j))
  | 14 => gd 120 (fun j => S (668 + j))
  | 15 => gd 120 (fun j => S (908 + j))
  | 16 => gd 120 (fun j => S (1148 + j))
  | _ => fun _ => 0
/-- the bounds of columns and rows -/
def MB (S : Int → Int) : Prop := (∀ k, 0 ≤ k → k < S 0 → (0 ≤ S (4 + 4 * k + 1) ∧ S (4 + 4 * k + 1) ≤ 11) ∧ 0 ≤ S (4 + 4 * k + 2) ∧ S (4 + 4 * k + 2) ≤ 9) ∧ ∀ k, 0 ≤ k → k < S 1 → (0 ≤ S (44 + 4 * k + 0) ∧ S (44 + 4 * k + 0) ≤ 11) ∧ 0 ≤ S (44 + 4 * k + 1) ∧ S (44 + 4 * k + 1) ≤ 9
def WA (S : Int → Int) (v : Vw) : Prop := (∀ t, t ≤ 8 → vM S t = v t) ∧ MB S
def WM (S : Int → Int) (v : Vw) : Prop := ∀ t, 9 ≤ t → t ≤ 16 → vM S t = v t
theorem WA.of {S : Int → Int} {v : Vw} (h : vM S = v) (hb : MB S) : WA S v := ⟨fun t _ => by rw [h], hb⟩
theorem WM.of {S : Int → Int} {v : Vw} (h : vM S = v) : WM S v := fun t _ _ => by rw [h]
/-- a row of what a side remembers -/
def mr (s : Int) (t : Nat) : Nat := if s = 0 then 9 + t else 13 + t
section WS
variable {S S' : Int → Int} {v v' : Vw} {M : Mem}
theorem ws_0_0 (h : WA S v) : S 0 = v 0 0 := by rw [← h.1 0 (by decide)]; rfl
theorem ws_0_1 (h : WA S v) : S 1 = v 0 1 := by rw [← h.1 0 (by decide)]; rfl
theorem ws_0_2 (h : WA S v) : S 2 = v 0 2 := by rw [← h.1 0 (by decide)]; rfl
theorem ws_0_3 (h : WA S v) : S 3 = v 0 3 := by rw [← h.1 0 (by decide)]; rfl
theorem ws_1 (h : WA S v) {i : Int} (hi : 0 ≤ i ∧ i < 120) : S (68 + i) = v 1 i := gd_rd (f := fun j => S (68 + j)) (h.1 1 (by decide)) hi
theorem ws_2 (h : WA S v) {i : Int} (hi : 0 ≤ i ∧ i < 120) : S (188 + i) = v 2 i := gd_rd (f := fun j => S (188 + j)) (h.1 2 (by decide)) hi
theorem ws_3 (h : WA S v) {k : Int} (hk : 0 ≤ k ∧ k < v 0 0) : S (4 + 4 * k + 0) = v 3 k := gd_rd (f := fun k => S (4 + 4 * k + 0)) (h.1 3 (by decide)) (by rw [ws_0_0 h]; exact hk)
theorem ws_4 (h : WA S v) {k : Int} (hk : 0 ≤ k ∧ k < v 0 0) : S (4 + 4 * k + 2) * 12 + S (4 + 4 * k + 1) = v 4 k := gd_rd (f := fun k => S (4 + 4 * k + 2) * 12 + S (4 + 4 * k + 1)) (h.1 4 (by decide)) (by rw [ws_0_0 h]; exact hk)
theorem ws_4c (h : WA S v) {k : Int} (hk : 0 ≤ k ∧ k < v 0 0) : S (4 + 4 * k + 1) = v 4 k % 12 := by
  have := ws_4 h hk
  have := h.2.1 k hk.1 (by rw [ws_0_0 h]; exact hk.2)
  omega
theorem ws_4r (h : WA S v) {k : Int} (hk : 0 ≤ k ∧ k < v 0 0) : S (4 + 4 * k + 2) = v 4 k / 12 := by
  have := ws_4 h hk
  have := h.2.1 k hk.1 (by rw [ws_0_0 h]; exact hk.2)
  omega
theorem ws_5 (h : WA S v) {k : Int} (hk : 0 ≤ k ∧ k < v 0 0) : S (4 + 4 * k + 3) = v 5 k := gd_rd (f := fun k => S (4 + 4 * k + 3)) (h.1 5 (by decide)) (by rw [ws_0_0 h]; exact hk)
theorem ws_6 (h : WA S v) {k : Int} (hk : 0 ≤ k ∧ k < v 0 1) : S (44 + 4 * k + 1) * 12 + S (44 + 4 * k + 0) = v 6 k := gd_rd (f := fun k => S (44 + 4 * k + 1) * 12 + S (44 + 4 * k + 0)) (h.1 6 (by decide)) (by rw [ws_0_1 h]; exact hk)
theorem ws_6c (h : WA S v) {k : Int} (hk : 0 ≤ k ∧ k < v 0 1) : S (44 + 4 * k + 0) = v 6 k % 12 := by
  have := ws_6 h hk
  have := h.2.2 k hk.1 (by rw [ws_0_1 h]; exact hk.2)
  omega
theorem ws_6r (h : WA S v) {k : Int} (hk : 0 ≤ k ∧ k < v 0 1) : S (44 + 4 * k + 1) = v 6 k / 12 := by
  have := ws_6 h hk
  have := h.2.2 k hk.1 (by rw [ws_0_1 h]; exact hk.2)
  omega
theorem ws_7 (h : WA S v) {k : Int} (hk : 0 ≤ k ∧ k < v 0 1) : S (44 + 4 * k + 2) = v 7 k := gd_rd (f := fun k => S (44 + 4 * k + 2)) (h.1 7 (by decide)) (by rw [ws_0_1 h]; exact hk)
theorem ws_8 (h : WA S v) {k : Int} (hk : 0 ≤ k ∧ k < v 0 1) : S (44 + 4 * k + 3) = v 8 k := gd_rd (f := fun k => S (44 + 4 * k + 3)) (h.1 8 (by decide)) (by rw [ws_0_1 h]; exact hk)
theorem wm (h : WM S v) {s j : Int} {t : Nat} (ht : t ≤ 3) (hs : 0 ≤ s ∧ s ≤ 1) (hj : 0 ≤ j ∧ j < 120) : S (308 + 240 * t + 120 * s + j) = v (mr s t) j := by
  have c : (s = 0 ∧ t = 0) ∨ (s = 0 ∧ t = 1) ∨ (s = 0 ∧ t = 2) ∨ (s = 0 ∧ t = 3) ∨ (s = 1 ∧ t = 0) ∨ (s = 1 ∧ t = 1) ∨ (s = 1 ∧ t = 2) ∨ (s = 1 ∧ t = 3) := by omega
  rcases c with ⟨h1, h2⟩ | ⟨h1, h2⟩ | ⟨h1, h2⟩ | ⟨h1, h2⟩ | ⟨h1, h2⟩ | ⟨h1, h2⟩ | ⟨h1, h2⟩ | ⟨h1, h2⟩
  · rw [show 308 + 240 * (t : Int) + 120 * s + j = 308 + j by omega]; subst h1 h2
    exact gd_rd (f := fun j => S (308 + j)) (h 9 (by decide) (by decide)) hj
  · rw [show 308 + 240 * (t : Int) + 120 * s + j = 548 + j by omega]; subst h1 h2
    exact gd_rd (f := fun j => S (548 + j)) (h 10 (by decide) (by decide)) hj
  · rw [show 308 + 240 * (t : Int) + 120 * s + j = 788 + j by omega]; subst h1 h2
    exact gd_rd (f := fun j => S (788 + j)) (h 11 (by decide) (by decide)) hj
  · rw [show 308 + 240 * (t : Int) + 120 * s + j = 1028 + j by omega]; subst h1 h2
    exact gd_rd (f := fun j => S (1028 + j)) (h 12 (by decide) (by decide)) hj
  · rw [show 308 + 240 * (t : Int) + 120 * s + j = 428 + j by omega]; subst h1 h2
    exact gd_rd (f := fun j => S (428 + j)) (h 13 (by decide) (by decide)) hj
  · rw [show 308 + 240 * (t : Int) + 120 * s + j = 668 + j by omega]; subst h1 h2
    exact gd_rd (f := fun j => S (668 + j)) (h 14 (by decide) (by decide)) hj
  · rw [show 308 + 240 * (t : Int) + 120 * s + j = 908 + j by omega]; subst h1 h2
    exact gd_rd (f := fun j => S (908 + j)) (h 15 (by decide) (by decide)) hj
  · rw [show 308 + 240 * (t : Int) + 120 * s + j = 1148 + j by omega]; subst h1 h2
    exact gd_rd (f := fun j => S (1148 + j)) (h 16 (by decide) (by decide)) hj
theorem MB.frame (h : MB S) (hf : ∀ i, 0 ≤ i → i < 68 → S' i = S i) (n0 : S 0 ≤ 10) (n1 : S 1 ≤ 6) : MB S' := by
  have e0 := hf 0 (by decide) (by decide)
  have e1 := hf 1 (by decide) (by decide)
  refine ⟨fun k a b => ?_, fun k a b => ?_⟩
  · rw [e0] at b
    rw [hf _ (by omega) (by omega), hf _ (by omega) (by omega)]; exact h.1 k a b
  · rw [e1] at b
    rw [hf _ (by omega) (by omega), hf _ (by omega) (by omega)]; exact h.2 k a b
/-- rows 0 to 8 lie in the first 308 numbers -/
theorem vM_lo (hf : ∀ i, 0 ≤ i → i < 308 → S' i = S i) (n0 : S 0 ≤ 10) (n1 : S 1 ≤ 6) {t : Nat} (ht : t ≤ 8) : vM S' t = vM S t := by
  have e0 := hf 0 (by decide) (by decide)
  have e1 := hf 1 (by decide) (by decide)
  have : t = 0 ∨ t = 1 ∨ t = 2 ∨ t = 3 ∨ t = 4 ∨ t = 5 ∨ t = 6 ∨ t = 7 ∨ t = 8 := by omega
  rcases this with rfl | rfl | rfl | rfl | rfl | rfl | rfl | rfl | rfl
  · show (fun i => if i = 0 then S' 0 else if i = 1 then S' 1 else if i = 2 then S' 2 else if i = 3 then S' 3 else 0) = fun i => if i = 0 then S 0 else if i = 1 then S 1 else if i = 2 then S 2 else if i = 3 then S 3 else 0
    rw [e0, e1, hf 2 (by decide) (by decide), hf 3 (by decide) (by decide)]
  · exact gd_eq fun i a b => hf _ (by omega) (by omega)
  · exact gd_eq fun i a b => hf _ (by omega) (by omega)
  · show gd (S' 0) _ = gd (S 0) _
    rw [e0]; exact gd_eq fun i a b => hf _ (by omega) (by omega)
  · show gd (S' 0) _ = gd (S 0) _
    rw [e0]; exact gd_eq fun i a b => by rw [hf _ (by omega) (by omega), hf _ (by omega) (by omega)]
  · show gd (S' 0) _ = gd (S 0) _
    rw [e0]; exact gd_eq fun i a b => hf _ (by omega) (by omega)
  · show gd (S' 1) _ = gd (S 1) _
    rw [e1]; exact gd_eq fun i a b => by rw [hf _ (by omega) (by omega), hf _ (by omega) (by omega)]
  · show gd (S' 1) _ = gd (S 1) _
    rw [e1]; exact gd_eq fun i a b => hf _ (by omega) (by omega)
  · show gd (S' 1) _ = gd (S 1) _
    rw [e1]; exact gd_eq fun i a b => hf _ (by omega) (by omega)
theorem WA.frame (h : WA S v) (hS : SI v) (hf : ∀ i, 0 ≤ i → i < 308 → S' i = S i) : WA S' v := by
  have n0 : S 0 ≤ 10 := by rw [ws_0_0 h]; exact hS.n0.2
  have n1 : S 1 ≤ 6 := by rw [ws_0_1 h]; exact hS.n1.2
  exact ⟨fun t ht => (vM_lo hf n0 n1 ht).trans (h.1 t ht), h.2.frame (fun i a b => hf i a (by omega)) n0 n1⟩
theorem vM_congr (hf : ∀ i, 0 ≤ i → i < 1268 → S' i = S i) (n0 : S 0 ≤ 10) (n1 : S 1 ≤ 6) : vM S' = vM S := by
  funext t
  by_cases ht : t ≤ 8
  · exact vM_lo (fun i a b => hf i a (by omega)) n0 n1 ht
  · by_cases h16 : t ≤ 16
    · have : t = 9 ∨ t = 10 ∨ t = 11 ∨ t = 12 ∨ t = 13 ∨ t = 14 ∨ t = 15 ∨ t = 16 := by omega
      rcases this with rfl | rfl | rfl | rfl | rfl | rfl | rfl | rfl <;> exact gd_eq fun i a b => hf _ (by omega) (by omega)
    · obtain ⟨k, rfl⟩ : ∃ k, t = k + 17 := ⟨t - 17, by omega⟩
      rfl
theorem mset_self {a : Nat} {i x j : Int} : mset M a i x a j = if j = i then x else M a j := by simp [mset]
theorem WA.st {i x : Int} (h : WA (M 133) v) (hS : SI v) (hi : 308 ≤ i) : WA (mset M 133 i x 133) v := h.frame hS fun j a b => by rw [mset_self, if_neg (by omega)]
theorem WA.no {a : Nat} {i x : Int} (h : WA (M 133) v) (ha : (133 : Nat) ≠ a) : WA (mset M a i x 133) v := by rw [mset_row ha]; exact h
theorem WM.no {a : Nat} {i x : Int} (h : WM (M 133) v) (ha : (133 : Nat) ≠ a) : WM (mset M a i x 133) v := by rw [mset_row ha]; exact h
theorem dist_comm (a b : Int) : dist a b = dist b a := by unfold dist imax iabs; split <;> split <;> split <;> split <;> split <;> split <;> omega
/-! truths gathered along a loop -/
theorem or_t {P : Int → Prop} {x k n : Int} (h : x = 1 ∨ (k < n ∧ P k)) : bi ((1 : Int) = 1 ∨ exU P (k + 1) n) = bi (x = 1 ∨ exU P k n) := by
  rw [bi_t (Or.inl rfl)]
  rcases h with h | ⟨h1, h2⟩
  · rw [bi_t (Or.inl h)]
  · rw [bi_t (Or.inr ⟨k, Int.le_refl _, h1, h2⟩)]
theorem or_f {P : Int → Prop} {x k n : Int} (h : x = 0) (h2 : ¬ P k) : bi ((0 : Int) = 1 ∨ exU P (k + 1) n) = bi (x = 1 ∨ exU P k n) := by
  subst h
  refine bi_iff ⟨?_, ?_⟩
  · rintro (q | ⟨i, a, b, c⟩)
    · omega
    · exact Or.inr ⟨i, by omega, b, c⟩
  · rintro (q | ⟨i, a, b, c⟩)
    · omega
    · by_cases e : i = k
      · rw [e] at c; exact absurd c h2
      · exact Or.inr ⟨i, by omega, b, c⟩
theorem or_end {P : Int → Prop} {x k n : Int} (h : x = 0 ∨ x = 1) (hk : n ≤ k) : x = bi (x = 1 ∨ exU P k n) := by
  rcases h with rfl | rfl
  · rw [bi_f]; rintro (q | q)
    · omega
    · exact exU_end hk q
  · rw [bi_t (Or.inl rfl)]
theorem or_1 {P : Int → Prop} {x k n : Int} (h : x = 1) : x = bi (x = 1 ∨ exU P k n) := by rw [bi_t (Or.inl h)]; exact h
theorem or_0 {P : Int → Prop} {n : Int} : bi ((0 : Int) = 1 ∨ exU P 0 n) = bi (exU P 0 n) := bi_iff ⟨fun q => q.resolve_left (by decide), Or.inr⟩
theorem and_t {P : Int → Prop} {x k n : Int} (h : x = 1) (h2 : P k) : bi ((1 : Int) = 1 ∧ allU P (k + 1) n) = bi (x = 1 ∧ allU P k n) := by
  subst h
  refine bi_iff ⟨fun ⟨_, q⟩ => ⟨rfl, fun i a b => ?_⟩, fun ⟨_, q⟩ => ⟨rfl, fun i a b => q i (by omega) b⟩⟩
  by_cases e : i = k
  · rw [e]; exact h2
  · exact q i (by omega) b
theorem and_f {P : Int → Prop} {x k n : Int} (h : k < n) (h2 : ¬ P k) : bi ((0 : Int) = 1 ∧ allU P (k + 1) n) = bi (x = 1 ∧ allU P k n) := by
  rw [bi_f (fun q => absurd q.1 (by decide)), bi_f (fun q => h2 (q.2 k (Int.le_refl _) h))]
theorem and_end {P : Int → Prop} {x k n : Int} (h : x = 0 ∨ x = 1) (hk : n ≤ k) : x = bi (x = 1 ∧ allU P k n) := by
  rcases h with rfl | rfl
  · rw [bi_f (fun q => absurd q.1 (by decide))]
  · rw [bi_t ⟨rfl, allU_end hk⟩]
theorem and_0 {P : Int → Prop} {x k n : Int} (h : x = 0) : x = bi (x = 1 ∧ allU P k n) := by rw [bi_f (fun q => by omega)]; exact h
theorem and_1 {P : Int → Prop} {k n : Int} : bi ((1 : Int) = 1 ∧ allU P k n) = bi (allU P k n) := bi_iff ⟨fun q => q.2, fun q => ⟨rfl, q⟩⟩
end WS
/-! what look leaves -/
/-- behind the cells below (sd, c), side by side -/
noncomputable def LK (S S' : Int → Int) (v : Vw) (sd c : Int) : Prop := (∀ i, 0 ≤ i → i < 308 → S' i = S i) ∧ ∀ (t : Nat) (s j : Int), t ≤ 3 → (0 ≤ s ∧ s ≤ 1) → (0 ≤ j ∧ j < 120) → S' (308 + 240 * t + 120 * s + j) = @ite _ ((s < sd ∨ (s = sd ∧ j < c)) ∧ sSees v s j) (Classical.propDecidable _) (nv v s t j) (S (308 + 240 * t + 120 * s + j))
theorem LK.start {S : Int → Int} {v : Vw} : LK S S v 0 0 := ⟨fun _ _ _ => rfl, fun t s j ht hs hj => by rw [if_neg (by omega)]⟩
theorem LK.side {S S' : Int → Int} {v : Vw} {sd : Int} (h : LK S S' v sd 120) : LK S S' v (sd + 1) 0 := by
  refine ⟨h.1, fun t s j ht hs hj => ?_⟩
  rw [h.2 t s j ht hs hj]
  by_cases p : sSees v s j
  · by_cases q : s ≤ sd
    · rw [if_pos ⟨by omega, p⟩, if_pos ⟨by omega, p⟩]
    · rw [if_neg (by omega), if_neg (by omega)]
  · rw [if_neg (fun q => p q.2), if_neg (fun q => p q.2)]
theorem LK.skip {S S' : Int → Int} {v : Vw} {sd c : Int} (h : LK S S' v sd c) (p : ¬ sSees v sd c) : LK S S' v sd (c + 1) := by
  refine ⟨h.1, fun t s j ht hs hj => ?_⟩
  rw [h.2 t s j ht hs hj]
  by_cases e : s = sd ∧ j = c
  · obtain ⟨rfl, rfl⟩ := e
    rw [if_neg (fun q => p q.2), if_neg (fun q => p q.2)]
  · by_cases p2 : sSees v s j
    · by_cases q : s < sd ∨ (s = sd ∧ j < c)
      · rw [if_pos ⟨q, p2⟩, if_pos ⟨by omega, p2⟩]
      · rw [if_neg (fun z => q z.1), if_neg (by omega)]
    · rw [if_neg (fun q => p2 q.2), if_neg (fun q => p2 q.2)]
theorem LK.put {M1 : Mem} {S : Int → Int} {v : Vw} {sd c x0 x1 x2 x3 : Int} (h : LK S (M1 133) v sd c) (hsd : 0 ≤ sd ∧ sd ≤ 1) (hc : 0 ≤ c ∧ c < 120) (p : sSees v sd c) (e0 : x0 = nv v sd 0 c) (e1 : x1 = nv v sd 1 c) (e2 : x2 = nv v sd 2 c) (e3 : x3 = nv v sd 3 c) {i0 i1 i2 i3 : Int} (f0 : i0 = 308 + 120 * sd + c) (f1 : i1 = 548 + 120 * sd + c) (f2 : i2 = 788 + 120 * sd + c) (f3 : i3 = 1028 + 120 * sd + c) :
    LK S (mset (mset (mset (mset M1 133 i0 x0) 133 i1 x1) 133 i2 x2) 133 i3 x3 133) v sd (c + 1) := by
  subst e0 e1 e2 e3
  have key : ∀ i, mset (mset (mset (mset M1 133 i0 (nv v sd 0 c)) 133 i1 (nv v sd 1 c)) 133 i2 (nv v sd 2 c)) 133 i3 (nv v sd 3 c) 133 i = if i = i3 then nv v sd 3 c else if i = i2 then nv v sd 2 c else if i = i1 then nv v sd 1 c else if i = i0 then nv v sd 0 c else M1 133 i := fun i => by rw [mset_self, mset_self, mset_self, mset_self]
  refine ⟨fun i a b => ?_, fun t s j ht hs hj => ?_⟩
  · rw [key, if_neg (by omega), if_neg (by omega), if_neg (by omega), if_neg (by omega)]; exact h.1 i a b
  · rw [key]
    by_cases e : s = sd ∧ j = c
    · obtain ⟨rfl, rfl⟩ := e
      refine Eq.trans ?_ (if_pos (show (s < s ∨ (s = s ∧ j < j + 1)) ∧ sSees v s j from ⟨by omega, p⟩)).symm
      have : t = 0 ∨ t = 1 ∨ t = 2 ∨ t = 3 := by omega
      rcases this with rfl | rfl | rfl | rfl
      · rw [if_neg (by omega), if_neg (by omega), if_neg (by omega), if_pos (by omega)]
      · rw [if_neg (by omega), if_neg (by omega), if_pos (by omega)]
      · rw [if_neg (by omega), if_pos (by omega)]
      · rw [if_pos (by omega)]
    · rw [if_neg (by omega), if_neg (by omega), if_neg (by omega), if_neg (by omega), h.2 t s j ht hs hj]
      by_cases p2 : sSees v s j
      · by_cases q : s < sd ∨ (s = sd ∧ j < c)
        · rw [if_pos ⟨q, p2⟩, if_pos ⟨by omega, p2⟩]
        · rw [if_neg (fun z => q z.1), if_neg (by omega)]
      · rw [if_neg (fun q => p2 q.2), if_neg (fun q => p2 q.2)]
theorem WM.mk' {S : Int → Int} {v : Vw} (h : ∀ (t : Nat) (s j : Int), t ≤ 3 → (0 ≤ s ∧ s ≤ 1) → (0 ≤ j ∧ j < 120) → S (308 + 240 * t + 120 * s + j) = v (mr s t) j) (h0 : ∀ (t : Nat) (j : Int), 9 ≤ t → t ≤ 16 → ¬ (0 ≤ j ∧ j < 120) → v t j = 0) : WM S v := by
  intro t h1 h2
  have : t = 9 ∨ t = 10 ∨ t = 11 ∨ t = 12 ∨ t = 13 ∨ t = 14 ∨ t = 15 ∨ t = 16 := by omega
  rcases this with rfl | rfl | rfl | rfl | rfl | rfl | rfl | rfl
  · refine gd_of (fun i a b => ?_) (fun i q => h0 9 i (by decide) (by decide) q)
    have q := h 0 0 i (by decide) (by decide) ⟨a, b⟩
    rw [show 308 + 240 * ((0 : Nat) : Int) + 120 * 0 + i = 308 + i by omega] at q
    exact q
  · refine gd_of (fun i a b => ?_) (fun i q => h0 10 i (by decide) (by decide) q)
    have q := h 1 0 i (by decide) (by decide) ⟨a, b⟩
    rw [show 308 + 240 * ((1 : Nat) : Int) + 120 * 0 + i = 548 + i by omega] at q
    exact q
  · refine gd_of (fun i a b => ?_) (fun i q => h0 11 i (by decide) (by decide) q)
    have q := h 2 0 i (by decide) (by decide) ⟨a, b⟩
    rw [show 308 + 240 * ((2 : Nat) : Int) + 120 * 0 + i = 788 + i by omega] at q
    exact q
  · refine gd_of (fun i a b => ?_) (fun i q => h0 12 i (by decide) (by decide) q)
    have q := h 3 0 i (by decide) (by decide) ⟨a, b⟩
    rw [show 308 + 240 * ((3 : Nat) : Int) + 120 * 0 + i = 1028 + i by omega] at q
    exact q
  · refine gd_of (fun i a b => ?_) (fun i q => h0 13 i (by decide) (by decide) q)
    have q := h 0 1 i (by decide) (by decide) ⟨a, b⟩
    rw [show 308 + 240 * ((0 : Nat) : Int) + 120 * 1 + i = 428 + i by omega] at q
    exact q
  · refine gd_of (fun i a b => ?_) (fun i q => h0 14 i (by decide) (by decide) q)
    have q := h 1 1 i (by decide) (by decide) ⟨a, b⟩
    rw [show 308 + 240 * ((1 : Nat) : Int) + 120 * 1 + i = 668 + i by omega] at q
    exact q
  · refine gd_of (fun i a b => ?_) (fun i q => h0 15 i (by decide) (by decide) q)
    have q := h 2 1 i (by decide) (by decide) ⟨a, b⟩
    rw [show 308 + 240 * ((2 : Nat) : Int) + 120 * 1 + i = 908 + i by omega] at q
    exact q
  · refine gd_of (fun i a b => ?_) (fun i q => h0 16 i (by decide) (by decide) q)
    have q := h 3 1 i (by decide) (by decide) ⟨a, b⟩
    rw [show 308 + 240 * ((3 : Nat) : Int) + 120 * 1 + i = 1148 + i by omega] at q
    exact q
theorem vM_all {S : Int → Int} {v : Vw} (hA : WA S v) (hM : WM S v) (h0 : Z17 v) : vM S = v := by
  funext t
  by_cases h8 : t ≤ 8
  · exact hA.1 t h8
  by_cases h16 : t ≤ 16
  · exact hM t (by omega) h16
  rw [h0 t (by omega)]
  obtain ⟨k, rfl⟩ : ∃ k, t = k + 17 := ⟨t - 17, by omega⟩
  rfl
theorem vM_z17 {S : Int → Int} {v : Vw} (h : vM S = v) : Z17 v := by
  intro t ht
  rw [← h]
  obtain ⟨k, rfl⟩ : ∃ k, t = k + 17 := ⟨t - 17, by omega⟩
  rfl
theorem WM.out {S : Int → Int} {v : Vw} (h : WM S v) {t : Nat} (ht : 9 ≤ t ∧ t ≤ 16) {j : Int} (hj : ¬ (0 ≤ j ∧ j < 120)) : v t j = 0 := by
  rw [← h t ht.1 ht.2]
  have : t = 9 ∨ t = 10 ∨ t = 11 ∨ t = 12 ∨ t = 13 ∨ t = 14 ∨ t = 15 ∨ t = 16 := by omega
  rcases this with rfl | rfl | rfl | rfl | rfl | rfl | rfl | rfl
  · exact gd_out (f := fun j => S (308 + j)) hj
  · exact gd_out (f := fun j => S (548 + j)) hj
  · exact gd_out (f := fun j => S (788 + j)) hj
  · exact gd_out (f := fun j => S (1028 + j)) hj
  · exact gd_out (f := fun j => S (428 + j)) hj
  · exact gd_out (f := fun j => S (668 + j)) hj
  · exact gd_out (f := fun j => S (908 + j)) hj
  · exact gd_out (f := fun j => S (1148 + j)) hj
theorem lookV_at {v : Vw} {s : Int} {t : Nat} {j : Int} (ht : t ≤ 3) (hs : 0 ≤ s ∧ s ≤ 1) : lookV v (mr s t) j = lk1 v s t (v (mr s t)) j := by
  have : s = 0 ∨ s = 1 := by omega
  unfold lookV mr
  rcases this with rfl | rfl
  · rw [if_pos (rfl : (0 : Int) = 0), if_pos (by omega)]
    rw [show 9 + t - 9 = t by omega]
  · rw [if_neg (show ¬ (1 : Int) = 0 by decide), if_neg (by omega), if_pos (by omega)]
    rw [show 13 + t - 13 = t by omega]
theorem LK.view {S S' : Int → Int} {v : Vw} (h : LK S S' v 2 0) (hv : vM S = v) (hb : MB S) (hS : SI v) : vM S' = lookV v ∧ MB S' := by
  have hA : WA S v := WA.of hv hb
  have hA' : WA S' v := hA.frame hS h.1
  have hM : WM S v := WM.of hv
  refine ⟨vM_all ⟨fun t ht => (hA'.1 t ht).trans (lookV_lo ht).symm, hA'.2⟩ (WM.mk' (fun t s j ht hs hj => ?_) (fun t j h1 h2 hj => ?_)) (fun t ht => ?_), hA'.2⟩
  · rw [h.2 t s j ht hs hj, lookV_at ht hs, wm hM ht hs hj]
    unfold lk1
    by_cases p : sSees v s j
    · rw [if_pos ⟨by omega, p⟩, if_pos ⟨hj.1, hj.2, p⟩]
    · rw [if_neg (fun q => p q.2), if_neg (fun q => p q.2.2)]
  · unfold lookV
    split
    · unfold lk1; rw [if_neg (fun q => hj ⟨q.1, q.2.1⟩)]; exact hM.out ⟨h1, h2⟩ hj
    · split
      · unfold lk1; rw [if_neg (fun q => hj ⟨q.1, q.2.1⟩)]; exact hM.out ⟨h1, h2⟩ hj
      · exact hM.out ⟨h1, h2⟩ hj
  · unfold lookV; rw [if_neg (by omega), if_neg (by omega)]; exact vM_z17 hv t ht
