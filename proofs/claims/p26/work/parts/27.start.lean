/-! ===== THE START ===== -/
def MZ : Mem := fun _ _ => 0
def M0 : Mem := m6 MZ
def v0 : Vw := fun t => if t = 0 then (fun i => if i = 2 then 10 else 0) else fun _ => 0
def s0 : AbS := (v0, 0, fun _ => v0, 0, fun _ => 0)
theorem v0_z {t : Nat} (h : t ≠ 0) (i : Int) : v0 t i = 0 := by unfold v0; rw [if_neg h]
theorem M0_no {a : Nat} (h : a ≠ 1 ∧ a ≠ 26 ∧ a ≠ 46 ∧ a ≠ 66 ∧ a ≠ 86 ∧ a ≠ 106) : M0 a = fun _ => 0 := by
  unfold M0 m6
  rw [mset_row (by omega), mset_row (by omega), mset_row (by omega), mset_row (by omega), mset_row (by omega), mset_row (by omega)]
  rfl
theorem M0_1 (j : Int) : M0 1 j = if j = 10 then 10 else 0 := by
  unfold M0 m6
  rw [mset_row (by decide), mset_row (by decide), mset_row (by decide), mset_row (by decide), mset_row (by decide)]
  unfold mset
  by_cases h : j = 10
  · rw [if_pos ⟨rfl, h⟩, if_pos h]
  · rw [if_neg (fun q => h q.2), if_neg h]; rfl
theorem gd_0 (n : Int) : gd n (fun _ => 0) = fun _ => 0 := by
  funext i
  unfold gd
  split <;> rfl
theorem gd_00 {n : Int} {f : Int → Int} (h : n = 0) : gd n f = fun _ => 0 := by
  subst h
  funext i
  exact gd_out (by omega)
theorem v0_n {t : Nat} (h : t ≠ 0) : v0 t = fun _ => 0 := funext (v0_z h)
theorem v0F : vF M0 1 = v0 := by
  funext t
  have e2 : M0 1 2 = 0 := by rw [M0_1]; rfl
  have e6 : M0 1 6 = 0 := by rw [M0_1]; rfl
  have e10 : M0 1 10 = 10 := by rw [M0_1]; rfl
  have e11 : M0 1 11 = 0 := by rw [M0_1]; rfl
  match t with
  | 0 =>
    funext i
    show (if i = 0 then M0 1 2 else if i = 1 then M0 1 6 else if i = 2 then M0 1 10 else if i = 3 then M0 1 11 else 0) = if i = 2 then 10 else 0
    rw [e2, e6, e10, e11]
    by_cases h0 : i = 0
    · subst h0; rfl
    by_cases h1 : i = 1
    · subst h1; rfl
    by_cases h2 : i = 2
    · subst h2; rfl
    by_cases h3 : i = 3
    · subst h3; rfl
    simp [h0, h1, h2, h3]
  | 1 => rw [v0_n (by decide)]; show gd 120 (M0 (1 + 1)) = _; rw [M0_no (by decide)]; exact gd_0 _
  | 2 => rw [v0_n (by decide)]; show gd 120 (M0 (1 + 2)) = _; rw [M0_no (by decide)]; exact gd_0 _
  | 9 => rw [v0_n (by decide)]; show gd 120 (M0 (1 + 11)) = _; rw [M0_no (by decide)]; exact gd_0 _
  | 10 => rw [v0_n (by decide)]; show gd 120 (M0 (1 + 12)) = _; rw [M0_no (by decide)]; exact gd_0 _
  | 11 => rw [v0_n (by decide)]; show gd 120 (M0 (1 + 13)) = _; rw [M0_no (by decide)]; exact gd_0 _
  | 12 => rw [v0_n (by decide)]; show gd 120 (M0 (1 + 14)) = _; rw [M0_no (by decide)]; exact gd_0 _
  | 13 => rw [v0_n (by decide)]; show gd 120 (M0 (1 + 16)) = _; rw [M0_no (by decide)]; exact gd_0 _
  | 14 => rw [v0_n (by decide)]; show gd 120 (M0 (1 + 17)) = _; rw [M0_no (by decide)]; exact gd_0 _
  | 15 => rw [v0_n (by decide)]; show gd 120 (M0 (1 + 18)) = _; rw [M0_no (by decide)]; exact gd_0 _
  | 16 => rw [v0_n (by decide)]; show gd 120 (M0 (1 + 19)) = _; rw [M0_no (by decide)]; exact gd_0 _
  | 3 => rw [v0_n (by decide)]; exact gd_00 e2
  | 4 => rw [v0_n (by decide)]; exact gd_00 e2
  | 5 => rw [v0_n (by decide)]; exact gd_00 e2
  | 6 => rw [v0_n (by decide)]; exact gd_00 e6
  | 7 => rw [v0_n (by decide)]; exact gd_00 e6
  | 8 => rw [v0_n (by decide)]; exact gd_00 e6
  | t + 17 => rw [v0_n (by omega)]; rfl
theorem v0S : SI v0 := by
  refine ⟨by decide, by decide, by decide, fun i => by rw [v0_z (by decide)]; decide, fun i => by rw [v0_z (by decide)]; decide, fun i => by rw [v0_z (by decide)]; decide, fun i => by rw [v0_z (by decide)]; decide, fun i => by rw [v0_z (by decide)]; decide, fun i => by rw [v0_z (by decide)]; decide, fun i => by rw [v0_z (by decide)]; decide, fun i => by rw [v0_z (by decide)]; decide, fun i => by rw [v0_z (by decide)]; decide, fun i => by rw [v0_z (by decide)]; decide, fun i => by rw [v0_z (by decide)]; decide, fun i => by rw [v0_z (by decide)]; decide, fun i => by rw [v0_z (by decide)]; decide, fun i => by rw [v0_z (by decide)]; decide, fun i => by rw [v0_z (by decide)]; decide, fun i => by rw [v0_z (by decide)]; decide, fun k a b => ?_, fun j k a b c => ?_⟩
  · have b : k < 0 := b
    omega
  · have c : k < 0 := c
    omega
theorem v0G : SG M0 v0 := by
  refine ⟨fun c hc => ?_, fun c hc => ?_⟩
  · rw [M0_no (by decide), bi_f]
    rintro ⟨k, h1, h2, -⟩
    have h2 : k < 0 := h2
    omega
  · rw [M0_no (by decide)]
    rfl
theorem M0_r {a : Nat} (h : a ≠ 1 ∧ a ≠ 26 ∧ a ≠ 46 ∧ a ≠ 66 ∧ a ≠ 86 ∧ a ≠ 106) (i : Int) : M0 a i = 0 := congrFun (M0_no h) i
theorem start_RF : RF M0 s0 := by
  refine ⟨⟨v0F, v0S, v0G, by rw [M0_r (by decide)]; decide, M0_r (by decide) _, by decide, fun j a b => ?_⟩, ⟨M0_r (by decide) _, by decide, fun i h => M0_r (by decide) _, fun i => by show (0:Int) ≤ 0 ∧ (0:Int) ≤ 255; decide⟩⟩
  have b : j < 0 := b
  omega
