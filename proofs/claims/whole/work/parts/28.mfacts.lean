/-! ===== the model's row: what its changes say ===== -/
def inRow (t : Nat) (i : Int) : Prop := match t with
  | 0 => 0 ≤ i ∧ i ≤ 3
  | 1 => 68 ≤ i ∧ i < 188
  | 2 => 188 ≤ i ∧ i < 308
  | 3 => 4 ≤ i ∧ i < 44 ∧ i % 4 = 0
  | 4 => 4 ≤ i ∧ i < 44 ∧ (i % 4 = 1 ∨ i % 4 = 2)
  | 5 => 4 ≤ i ∧ i < 44 ∧ i % 4 = 3
  | 6 => 44 ≤ i ∧ i < 68 ∧ (i % 4 = 0 ∨ i % 4 = 1)
  | 7 => 44 ≤ i ∧ i < 68 ∧ i % 4 = 2
  | 8 => 44 ≤ i ∧ i < 68 ∧ i % 4 = 3
  | 9 => 308 ≤ i ∧ i < 428
  | 10 => 548 ≤ i ∧ i < 668
  | 11 => 788 ≤ i ∧ i < 908
  | 12 => 1028 ≤ i ∧ i < 1148
  | 13 => 428 ≤ i ∧ i < 548
  | 14 => 668 ≤ i ∧ i < 788
  | 15 => 908 ≤ i ∧ i < 1028
  | 16 => 1148 ≤ i ∧ i < 1268
  | _ => False
section MW
variable {S S' : Int → Int} {v : Vw}
theorem vM_row {t : Nat} (h0 : S' 0 = S 0) (h1 : S' 1 = S 1) (n0 : S 0 ≤ 10) (n1 : S 1 ≤ 6) (hf : ∀ i, inRow t i → S' i = S i) : vM S' t = vM S t := by
  by_cases h16 : t ≤ 16
  · have : t = 0 ∨ t = 1 ∨ t = 2 ∨ t = 3 ∨ t = 4 ∨ t = 5 ∨ t = 6 ∨ t = 7 ∨ t = 8 ∨ t = 9 ∨ t = 10 ∨ t = 11 ∨ t = 12 ∨ t = 13 ∨ t = 14 ∨ t = 15 ∨ t = 16 := by omega
    rcases this with rfl | rfl | rfl | rfl | rfl | rfl | rfl | rfl | rfl | rfl | rfl | rfl | rfl | rfl | rfl | rfl | rfl
    · show (fun i => if i = 0 then S' 0 else if i = 1 then S' 1 else if i = 2 then S' 2 else if i = 3 then S' 3 else 0) = fun i => if i = 0 then S 0 else if i = 1 then S 1 else if i = 2 then S 2 else if i = 3 then S 3 else 0
      rw [h0, h1, hf 2 (show (0 : Int) ≤ 2 ∧ (2 : Int) ≤ 3 by decide), hf 3 (show (0 : Int) ≤ 3 ∧ (3 : Int) ≤ 3 by decide)]
    · exact gd_eq fun i a b => hf _ (show 68 ≤ 68 + i ∧ 68 + i < 188 by omega)
    · exact gd_eq fun i a b => hf _ (show 188 ≤ 188 + i ∧ 188 + i < 308 by omega)
    · show gd (S' 0) _ = gd (S 0) _
      rw [h0]; exact gd_eq fun i a b => hf _ (show 4 ≤ 4 + 4 * i + 0 ∧ 4 + 4 * i + 0 < 44 ∧ (4 + 4 * i + 0) % 4 = 0 by omega)
    · show gd (S' 0) _ = gd (S 0) _
      rw [h0]; exact gd_eq fun i a b => by rw [hf (4 + 4 * i + 2) (show 4 ≤ 4 + 4 * i + 2 ∧ 4 + 4 * i + 2 < 44 ∧ ((4 + 4 * i + 2) % 4 = 1 ∨ (4 + 4 * i + 2) % 4 = 2) by omega), hf (4 + 4 * i + 1) (show 4 ≤ 4 + 4 * i + 1 ∧ 4 + 4 * i + 1 < 44 ∧ ((4 + 4 * i + 1) % 4 = 1 ∨ (4 + 4 * i + 1) % 4 = 2) by omega)]
    · show gd (S' 0) _ = gd (S 0) _
      rw [h0]; exact gd_eq fun i a b => hf _ (show 4 ≤ 4 + 4 * i + 3 ∧ 4 + 4 * i + 3 < 44 ∧ (4 + 4 * i + 3) % 4 = 3 by omega)
    · show gd (S' 1) _ = gd (S 1) _
      rw [h1]; exact gd_eq fun i a b => by rw [hf (44 + 4 * i + 1) (show 44 ≤ 44 + 4 * i + 1 ∧ 44 + 4 * i + 1 < 68 ∧ ((44 + 4 * i + 1) % 4 = 0 ∨ (44 + 4 * i + 1) % 4 = 1) by omega), hf (44 + 4 * i + 0) (show 44 ≤ 44 + 4 * i + 0 ∧ 44 + 4 * i + 0 < 68 ∧ ((44 + 4 * i + 0) % 4 = 0 ∨ (44 + 4 * i + 0) % 4 = 1) by omega)]
    · show gd (S' 1) _ = gd (S 1) _
      rw [h1]; exact gd_eq fun i a b => hf _ (show 44 ≤ 44 + 4 * i + 2 ∧ 44 + 4 * i + 2 < 68 ∧ (44 + 4 * i + 2) % 4 = 2 by omega)
    · show gd (S' 1) _ = gd (S 1) _
      rw [h1]; exact gd_eq fun i a b => hf _ (show 44 ≤ 44 + 4 * i + 3 ∧ 44 + 4 * i + 3 < 68 ∧ (44 + 4 * i + 3) % 4 = 3 by omega)
    · exact gd_eq fun i a b => hf _ (show 308 ≤ 308 + i ∧ 308 + i < 428 by omega)
    · exact gd_eq fun i a b => hf _ (show 548 ≤ 548 + i ∧ 548 + i < 668 by omega)
    · exact gd_eq fun i a b => hf _ (show 788 ≤ 788 + i ∧ 788 + i < 908 by omega)
    · exact gd_eq fun i a b => hf _ (show 1028 ≤ 1028 + i ∧ 1028 + i < 1148 by omega)
    · exact gd_eq fun i a b => hf _ (show 428 ≤ 428 + i ∧ 428 + i < 548 by omega)
    · exact gd_eq fun i a b => hf _ (show 668 ≤ 668 + i ∧ 668 + i < 788 by omega)
    · exact gd_eq fun i a b => hf _ (show 908 ≤ 908 + i ∧ 908 + i < 1028 by omega)
    · exact gd_eq fun i a b => hf _ (show 1148 ≤ 1148 + i ∧ 1148 + i < 1268 by omega)
  · obtain ⟨k, rfl⟩ : ∃ k, t = k + 17 := ⟨t - 17, by omega⟩
    rfl
theorem inRow_le {t : Nat} {i : Int} (h : inRow t i) : t ≤ 16 := by
  by_cases e : t ≤ 16
  · exact e
  · obtain ⟨k, rfl⟩ : ∃ k, t = k + 17 := ⟨t - 17, by omega⟩
    exact absurd h id
def rowN (t : Nat) : Nat := match t with
  | 0 => 0 | 1 => 3 | 2 => 4 | 3 => 1 | 4 => 1 | 5 => 1 | 6 => 2 | 7 => 2 | 8 => 2 | 9 => 5 | 10 => 7 | 11 => 9 | 12 => 11 | 13 => 6 | 14 => 8 | 15 => 10 | _ => 12
/-- where the rows lie -/
theorem inRow_at {t : Nat} {i : Int} (h : inRow t i) : (t = 0 → 0 ≤ i ∧ i ≤ 3) ∧ (t = 1 → 68 ≤ i ∧ i < 188) ∧ (t = 2 → 188 ≤ i ∧ i < 308) ∧ (t = 3 → 4 ≤ i ∧ i < 44 ∧ i % 4 = 0) ∧ (t = 4 → 4 ≤ i ∧ i < 44 ∧ (i % 4 = 1 ∨ i % 4 = 2)) ∧ (t = 5 → 4 ≤ i ∧ i < 44 ∧ i % 4 = 3) ∧ (t = 6 → 44 ≤ i ∧ i < 68 ∧ (i % 4 = 0 ∨ i % 4 = 1)) ∧ (t = 7 → 44 ≤ i ∧ i < 68 ∧ i % 4 = 2) ∧ (t = 8 → 44 ≤ i ∧ i < 68 ∧ i % 4 = 3) ∧ (9 ≤ t → 308 ≤ i ∧ i < 1268) ∧ (9 ≤ t → t ≠ 9 → t ≠ 13 → 548 ≤ i) := by
  have := inRow_le h
  have : t = 0 ∨ t = 1 ∨ t = 2 ∨ t = 3 ∨ t = 4 ∨ t = 5 ∨ t = 6 ∨ t = 7 ∨ t = 8 ∨ t = 9 ∨ t = 10 ∨ t = 11 ∨ t = 12 ∨ t = 13 ∨ t = 14 ∨ t = 15 ∨ t = 16 := by omega
  rcases this with rfl | rfl | rfl | rfl | rfl | rfl | rfl | rfl | rfl | rfl | rfl | rfl | rfl | rfl | rfl | rfl | rfl <;> (simp only [inRow] at h; omega)
def WF (S : Int → Int) (v : Vw) : Prop := vM S = v ∧ MB S ∧ SI v
theorem WF.wa (h : WF S v) : WA S v := WA.of h.1 h.2.1
theorem WF.ww (h : WF S v) : WM S v := WM.of h.1
theorem WF.n0 (h : WF S v) : 0 ≤ S 0 ∧ S 0 ≤ 10 := by rw [ws_0_0 h.wa]; exact h.2.2.n0
theorem WF.n1 (h : WF S v) : 0 ≤ S 1 ∧ S 1 ≤ 6 := by rw [ws_0_1 h.wa]; exact h.2.2.n1
theorem WF.congr (h : WF S v) (hf : ∀ i, 0 ≤ i → i < 1268 → S' i = S i) : WF S' v := ⟨(vM_congr hf h.n0.2 h.n1.2).trans h.1, h.2.1.frame (fun i a b => hf i a (by omega)) h.n0.2 h.n1.2, h.2.2⟩
/-- a row changed in the numbers of one of its rows alone -/
theorem vM_one {s : Nat} {w : Vw} (h : WF S v) (hs : 1 ≤ s) (h01 : S' 0 = S 0 ∧ S' 1 = S 1) (hf : ∀ t i, t ≠ s → inRow t i → S' i = S i) (hw : ∀ t, t ≠ s → w t = v t) (hr : vM S' s = w s) : vM S' = w := by
  funext t
  by_cases e : t = s
  · subst e; exact hr
  · rw [hw t e, ← h.1]; exact vM_row h01.1 h01.2 h.n0.2 h.n1.2 (fun i hi => hf t i e hi)
theorem gd_setc {n i x : Int} {f f' g : Int → Int} (h : gd n f = g) (hi : 0 ≤ i ∧ i < n) (hf : ∀ j, 0 ≤ j → j < n → f' j = if j = i then x else f j) : gd n f' = fun j => if j = i then x else g j := (gd_eq hf).trans (gd_set h hi)
theorem WF.height {c x : Int} (h : WF S v) (hc : 0 ≤ c ∧ c < 120) (hx : 0 ≤ x ∧ x ≤ 9) (hf : ∀ i, S' i = if i = 68 + c then x else S i) : WF S' (vset v 1 c x) := by
  have ne : ∀ i, i ≠ 68 + c → S' i = S i := fun i e => by rw [hf, if_neg e]
  refine ⟨vM_one h (s := 1) (by decide) ⟨ne 0 (by omega), ne 1 (by omega)⟩ (fun t i e hi => ne i (by have := inRow_at hi; have := inRow_le hi; omega)) (fun t e => vset_ne e) ?_, h.2.1.frame (fun i a b => ne i (by omega)) h.n0.2 h.n1.2, h.2.2.height hx⟩
  have e1 : gd 120 (fun j => S (68 + j)) = v 1 := by rw [← h.1]; rfl
  exact gd_setc e1 hc fun j a b => by
    rw [hf]
    by_cases e : j = c
    · rw [if_pos e, if_pos (by omega)]
    · rw [if_neg e, if_neg (by omega)]
theorem WF.wall {c x : Int} (h : WF S v) (hc : 0 ≤ c ∧ c < 120) (hx : 0 ≤ x ∧ x ≤ 1) (hs : ¬ (x = 1 ∧ ¬ sIn v c = -19)) (hf : ∀ i, S' i = if i = 188 + c then x else S i) : WF S' (vset v 2 c x) := by
  have ne : ∀ i, i ≠ 188 + c → S' i = S i := fun i e => by rw [hf, if_neg e]
  refine ⟨vM_one h (s := 2) (by decide) ⟨ne 0 (by omega), ne 1 (by omega)⟩ (fun t i e hi => ne i (by have := inRow_at hi; have := inRow_le hi; omega)) (fun t e => vset_ne e) ?_, h.2.1.frame (fun i a b => ne i (by omega)) h.n0.2 h.n1.2, h.2.2.wall hx hs⟩
  have e1 : gd 120 (fun j => S (188 + j)) = v 2 := by rw [← h.1]; rfl
  exact gd_setc e1 hc fun j a b => by
    rw [hf]
    by_cases e : j = c
    · rw [if_pos e, if_pos (by omega)]
    · rw [if_neg e, if_neg (by omega)]
theorem WF.oil {k x : Int} (h : WF S v) (hk : 0 ≤ k ∧ k < v 0 1) (hx : 0 ≤ x ∧ x ≤ 50) (hf : ∀ i, S' i = if i = 44 + 4 * k + 3 then x else S i) : WF S' (vset v 8 k x) := by
  have ne : ∀ i, i ≠ 44 + 4 * k + 3 → S' i = S i := fun i e => by rw [hf, if_neg e]
  have n1 := h.2.2.n1
  have hb := h.2.1
  refine ⟨vM_one h (s := 8) (by decide) ⟨ne 0 (by omega), ne 1 (by omega)⟩ (fun t i e hi => ne i (by have := inRow_at hi; have := inRow_le hi; omega)) (fun t e => vset_ne e) ?_, ⟨fun j a b => ?_, fun j a b => ?_⟩, h.2.2.oil hx⟩
  · have e1 : gd (S 1) (fun j => S (44 + 4 * j + 3)) = v 8 := by rw [← h.1]; rfl
    show gd (S' 1) (fun j => S' (44 + 4 * j + 3)) = _
    rw [ne 1 (by omega)]
    exact gd_setc e1 (by rw [ws_0_1 h.wa]; exact hk) fun j a b => by
      rw [hf]
      by_cases e : j = k
      · rw [if_pos e, if_pos (by omega)]
      · rw [if_neg e, if_neg (by omega)]
  · rw [ne 0 (by omega)] at b
    rw [ne _ (by omega), ne _ (by omega)]; exact hb.1 j a b
  · rw [ne 1 (by omega)] at b
    rw [ne _ (by omega), ne _ (by omega)]; exact hb.2 j a b
theorem WF.move {k c r : Int} (h : WF S v) (hk : 0 ≤ k ∧ k < v 0 0) (hc : 0 ≤ c ∧ c ≤ 11) (hr : 0 ≤ r ∧ r ≤ 9) (hw : v 2 (r * 12 + c) = 0) (hs : sIn v (r * 12 + c) = -19) (hf : ∀ i, S' i = if i = 4 + 4 * k + 2 then r else if i = 4 + 4 * k + 1 then c else S i) : WF S' (vset v 4 k (r * 12 + c)) := by
  have ne : ∀ i, i ≠ 4 + 4 * k + 1 → i ≠ 4 + 4 * k + 2 → S' i = S i := fun i e1 e2 => by rw [hf, if_neg e2, if_neg e1]
  have n0 := h.2.2.n0
  have hb := h.2.1
  refine ⟨vM_one h (s := 4) (by decide) ⟨ne 0 (by omega) (by omega), ne 1 (by omega) (by omega)⟩ (fun t i e hi => ne i (by have := inRow_at hi; have := inRow_le hi; omega) (by have := inRow_at hi; have := inRow_le hi; omega)) (fun t e => vset_ne e) ?_, ⟨fun j a b => ?_, fun j a b => ?_⟩, h.2.2.move (by omega) hw hs⟩
  · have e1 : gd (S 0) (fun k => S (4 + 4 * k + 2) * 12 + S (4 + 4 * k + 1)) = v 4 := by rw [← h.1]; rfl
    show gd (S' 0) (fun k => S' (4 + 4 * k + 2) * 12 + S' (4 + 4 * k + 1)) = _
    rw [ne 0 (by omega) (by omega)]
    exact gd_setc e1 (by rw [ws_0_0 h.wa]; exact hk) fun j a b => by
      rw [hf, hf]
      by_cases e : j = k
      · subst e; rw [if_pos rfl, if_pos rfl, if_neg (by omega), if_pos rfl]
      · rw [if_neg e, if_neg (by omega), if_neg (by omega), if_neg (by omega), if_neg (by omega)]
  · rw [ne 0 (by omega) (by omega)] at b
    rw [hf, hf]
    by_cases e : j = k
    · subst e; rw [if_pos rfl, if_neg (by omega), if_pos rfl]; exact ⟨hc, hr⟩
    · rw [if_neg (by omega), if_neg (by omega), if_neg (by omega), if_neg (by omega)]; exact hb.1 j a b
  · rw [ne 1 (by omega) (by omega)] at b
    rw [ne _ (by omega) (by omega), ne _ (by omega) (by omega)]; exact hb.2 j a b
theorem vM_mk {w : Vw} (h : WF S v) (h00 : S' 0 = w 0 0) (h01 : S' 1 = w 0 1) (h02 : S' 2 = w 0 2) (h03 : S' 3 = w 0 3) (hz : ∀ j, j ≠ 0 → j ≠ 1 → j ≠ 2 → j ≠ 3 → w 0 j = 0) (lo : ∀ t, 1 ≤ t → t ≤ 8 → vM S' t = w t) (hi : ∀ t, 9 ≤ t → t ≤ 16 → vM S' t = w t) (hw : ∀ t, 17 ≤ t → w t = v t) : vM S' = w := by
  funext t
  by_cases h0 : t = 0
  · subst h0
    funext j
    show (if j = 0 then S' 0 else if j = 1 then S' 1 else if j = 2 then S' 2 else if j = 3 then S' 3 else 0) = w 0 j
    by_cases a : j = 0
    · rw [if_pos a, a]; exact h00
    by_cases b : j = 1
    · rw [if_neg a, if_pos b, b]; exact h01
    by_cases c : j = 2
    · rw [if_neg a, if_neg b, if_pos c, c]; exact h02
    by_cases d : j = 3
    · rw [if_neg a, if_neg b, if_neg c, if_pos d, d]; exact h03
    rw [if_neg a, if_neg b, if_neg c, if_neg d]; exact (hz j a b c d).symm
  by_cases h8 : t ≤ 8
  · exact lo t (by omega) h8
  by_cases h16 : t ≤ 16
  · exact hi t (by omega) h16
  rw [hw t (by omega), vM_z17 h.1 t (by omega)]
  obtain ⟨k, rfl⟩ : ∃ k, t = k + 17 := ⟨t - 17, by omega⟩
  rfl
theorem WF.z0 (h : WF S v) : ∀ j, j ≠ 0 → j ≠ 1 → j ≠ 2 → j ≠ 3 → v 0 j = 0 := fun j a b c d => by
  rw [← h.1]
  show (if j = 0 then S 0 else if j = 1 then S 1 else if j = 2 then S 2 else if j = 3 then S 3 else 0) = 0
  rw [if_neg a, if_neg b, if_neg c, if_neg d]
/-- row t of the view, where the numbers of row t and both counts are as before -/
theorem WF.row (h : WF S v) {t : Nat} (h0 : S' 0 = S 0) (h1 : S' 1 = S 1) (hf : ∀ i, inRow t i → S' i = S i) : vM S' t = v t := by rw [← h.1]; exact vM_row h0 h1 h.n0.2 h.n1.2 hf
def sw01 (S S' : Int → Int) : Int → Int := fun i => if i = 0 then S 0 else if i = 1 then S 1 else S' i
theorem sw01_ne {i : Int} (h0 : i ≠ 0) (h1 : i ≠ 1) : S' i = sw01 S S' i := by unfold sw01; rw [if_neg h0, if_neg h1]
/-- as above, where the count of scouts may have changed, for the rows that it does not bound -/
theorem WF.rowc (h : WF S v) {t : Nat} (h1 : t = 3 ∨ t = 4 ∨ t = 5 → S' 0 = S 0) (h2 : t = 6 ∨ t = 7 ∨ t = 8 → S' 1 = S 1) (ht : 1 ≤ t) (hf : ∀ i, inRow t i → S' i = S i) : vM S' t = v t := by
  have e : vM S' t = vM (sw01 S S') t := by
    by_cases h16 : t ≤ 16
    · have : t = 1 ∨ t = 2 ∨ t = 3 ∨ t = 4 ∨ t = 5 ∨ t = 6 ∨ t = 7 ∨ t = 8 ∨ t = 9 ∨ t = 10 ∨ t = 11 ∨ t = 12 ∨ t = 13 ∨ t = 14 ∨ t = 15 ∨ t = 16 := by omega
      rcases this with rfl | rfl | rfl | rfl | rfl | rfl | rfl | rfl | rfl | rfl | rfl | rfl | rfl | rfl | rfl | rfl
      · exact gd_eq fun i a b => sw01_ne (by omega) (by omega)
      · exact gd_eq fun i a b => sw01_ne (by omega) (by omega)
      · show gd (S' 0) _ = gd (S 0) _
        rw [h1 (by decide)]; exact gd_eq fun i a b => sw01_ne (by omega) (by omega)
      · show gd (S' 0) _ = gd (S 0) _
        rw [h1 (by decide)]; exact gd_eq fun i a b => by rw [sw01_ne (S := S) (S' := S') (i := 4 + 4 * i + 2) (by omega) (by omega), sw01_ne (S := S) (S' := S') (i := 4 + 4 * i + 1) (by omega) (by omega)]
      · show gd (S' 0) _ = gd (S 0) _
        rw [h1 (by decide)]; exact gd_eq fun i a b => sw01_ne (by omega) (by omega)
      · show gd (S' 1) _ = gd (S 1) _
        rw [h2 (by decide)]; exact gd_eq fun i a b => by rw [sw01_ne (S := S) (S' := S') (i := 44 + 4 * i + 1) (by omega) (by omega), sw01_ne (S := S) (S' := S') (i := 44 + 4 * i + 0) (by omega) (by omega)]
      · show gd (S' 1) _ = gd (S 1) _
        rw [h2 (by decide)]; exact gd_eq fun i a b => sw01_ne (by omega) (by omega)
      · show gd (S' 1) _ = gd (S 1) _
        rw [h2 (by decide)]; exact gd_eq fun i a b => sw01_ne (by omega) (by omega)
      all_goals exact gd_eq fun i a b => sw01_ne (by omega) (by omega)
    · obtain ⟨k, rfl⟩ : ∃ k, t = k + 17 := ⟨t - 17, by omega⟩
      rfl
  rw [e]
  refine h.row (if_pos rfl) ?_ fun i hi => ?_
  · unfold sw01; rw [if_neg (by decide), if_pos rfl]
  · have := inRow_at hi
    have := inRow_le hi
    rw [← sw01_ne (by omega) (by omega)]; exact hf i hi
theorem gd_pushc {n x : Int} {f f' g : Int → Int} (h : gd n f = g) (h0 : 0 ≤ n) (hf : ∀ j, 0 ≤ j → j < n + 1 → f' j = if j = n then x else f j) : gd (n + 1) f' = fun j => if j = n then x else g j := (gd_eq hf).trans (gd_push h h0)
theorem gd_dropc {n p : Int} {f f' g : Int → Int} (h : gd n f = g) (hp : 0 ≤ p ∧ p < n) (hf : ∀ j, 0 ≤ j → j < n - 1 → f' j = if p ≤ j ∧ j < n - 1 then f (j + 1) else f j) : gd (n - 1) f' = fun j => if p ≤ j then g (j + 1) else g j := (gd_eq hf).trans (gd_drop h hp)
theorem WF.r3 (h : WF S v) : gd (v 0 0) (fun k => S (4 + 4 * k + 0)) = v 3 := by rw [← ws_0_0 h.wa, ← h.1]; rfl
theorem WF.r4 (h : WF S v) : gd (v 0 0) (fun k => S (4 + 4 * k + 2) * 12 + S (4 + 4 * k + 1)) = v 4 := by rw [← ws_0_0 h.wa, ← h.1]; rfl
theorem WF.r5 (h : WF S v) : gd (v 0 0) (fun k => S (4 + 4 * k + 3)) = v 5 := by rw [← ws_0_0 h.wa, ← h.1]; rfl
theorem WF.r6 (h : WF S v) : gd (v 0 1) (fun k => S (44 + 4 * k + 1) * 12 + S (44 + 4 * k + 0)) = v 6 := by rw [← ws_0_1 h.wa, ← h.1]; rfl
theorem WF.r7 (h : WF S v) : gd (v 0 1) (fun k => S (44 + 4 * k + 2)) = v 7 := by rw [← ws_0_1 h.wa, ← h.1]; rfl
theorem WF.r8 (h : WF S v) : gd (v 0 1) (fun k => S (44 + 4 * k + 3)) = v 8 := by rw [← ws_0_1 h.wa, ← h.1]; rfl
theorem WF.putS {n sd c r g : Int} (h : WF S v) (hn : n = v 0 0) (h10 : n < 10) (hsd : 0 ≤ sd ∧ sd ≤ 1) (hc : 0 ≤ c ∧ c ≤ 11) (hr : 0 ≤ r ∧ r ≤ 9) (hg : 1 ≤ g ∧ g ≤ 8) (hw : v 2 (r * 12 + c) = 0) (hs : sIn v (r * 12 + c) = -19)
    (hf : ∀ i, S' i = if i = 0 then n + 1 else if i = 4 + 4 * n + 3 then g else if i = 4 + 4 * n + 2 then r else if i = 4 + 4 * n + 1 then c else if i = 4 + 4 * n + 0 then sd else S i) : WF S' (putSV v sd (r * 12 + c) g) := by
  subst hn
  have n0 := h.2.2.n0
  have n1 := h.2.2.n1
  have hb := h.2.1
  have e0 : S' 0 = v 0 0 + 1 := by rw [hf]; exact if_pos rfl
  have s0 := ws_0_0 h.wa
  have s1 := ws_0_1 h.wa
  have ne : ∀ i, i ≠ 0 → ¬ (4 + 4 * v 0 0 ≤ i ∧ i ≤ 4 + 4 * v 0 0 + 3) → S' i = S i := fun i a b => by rw [hf, if_neg a, if_neg (by omega), if_neg (by omega), if_neg (by omega), if_neg (by omega)]
  have e1 : S' 1 = S 1 := ne 1 (by decide) (by omega)
  refine ⟨vM_mk h (e0.trans vset_at.symm) (e1.trans s1) ((ne 2 (by decide) (by omega)).trans ((ws_0_2 h.wa).trans rfl)) ((ne 3 (by decide) (by omega)).trans ((ws_0_3 h.wa).trans rfl)) (fun j a b c d => (vset_no (v := vset (vset (vset v 3 (v 0 0) _) 4 (v 0 0) _) 5 (v 0 0) _) (t := 0) a).trans (h.z0 j a b c d)) (fun t a b => ?_) (fun t a b => ?_) (fun t a => ?_), ⟨fun j a b => ?_, fun j a b => ?_⟩, h.2.2.putS h10 hsd (by omega) hg hw hs⟩
  · by_cases e3 : t = 3
    · subst e3
      show gd (S' 0) (fun k => S' (4 + 4 * k + 0)) = _
      rw [e0]
      exact gd_pushc h.r3 n0.1 fun j a b => by
        rw [hf]
        by_cases e : j = v 0 0
        · rw [if_pos e, if_neg (by omega), if_neg (by omega), if_neg (by omega), if_neg (by omega), if_pos (by omega)]
        · rw [if_neg e, if_neg (by omega), if_neg (by omega), if_neg (by omega), if_neg (by omega), if_neg (by omega)]
    by_cases e4 : t = 4
    · subst e4
      show gd (S' 0) (fun k => S' (4 + 4 * k + 2) * 12 + S' (4 + 4 * k + 1)) = _
      rw [e0]
      exact gd_pushc h.r4 n0.1 fun j a b => by
        rw [hf, hf]
        by_cases e : j = v 0 0
        · subst e; rw [if_pos rfl, if_neg (by omega), if_neg (by omega), if_pos rfl, if_neg (by omega), if_neg (by omega), if_neg (by omega), if_pos rfl]
        · rw [if_neg e, if_neg (by omega), if_neg (by omega), if_neg (by omega), if_neg (by omega), if_neg (by omega), if_neg (by omega), if_neg (by omega), if_neg (by omega), if_neg (by omega), if_neg (by omega)]
    by_cases e5 : t = 5
    · subst e5
      show gd (S' 0) (fun k => S' (4 + 4 * k + 3)) = _
      rw [e0]
      exact gd_pushc h.r5 n0.1 fun j a b => by
        rw [hf]
        by_cases e : j = v 0 0
        · rw [if_pos e, if_neg (by omega), if_pos (by omega)]
        · rw [if_neg e, if_neg (by omega), if_neg (by omega), if_neg (by omega), if_neg (by omega), if_neg (by omega)]
    rw [show putSV v sd (r * 12 + c) g t = v t from by unfold putSV; rw [vset_ne (by omega), vset_ne e5, vset_ne e4, vset_ne e3]]
    exact h.rowc (by omega) (fun _ => e1) a fun i hi => ne i (by have := inRow_at hi; omega) (by have := inRow_at hi; omega)
  · rw [show putSV v sd (r * 12 + c) g t = v t from by unfold putSV; rw [vset_ne (by omega), vset_ne (by omega), vset_ne (by omega), vset_ne (by omega)]]
    exact h.rowc (by omega) (fun _ => e1) (by omega) fun i hi => ne i (by have := inRow_at hi; omega) (by have := inRow_at hi; omega)
  · unfold putSV; rw [vset_ne (by omega), vset_ne (by omega), vset_ne (by omega), vset_ne (by omega)]
  · rw [e0] at b
    rw [hf, hf]
    by_cases e : j = v 0 0
    · subst e; rw [if_neg (by omega), if_neg (by omega), if_neg (by omega), if_pos rfl, if_neg (by omega), if_neg (by omega), if_pos rfl]; exact ⟨hc, hr⟩
    · rw [if_neg (by omega), if_neg (by omega), if_neg (by omega), if_neg (by omega), if_neg (by omega), if_neg (by omega), if_neg (by omega), if_neg (by omega), if_neg (by omega), if_neg (by omega)]; exact hb.1 j a (by omega)
  · rw [e1] at b
    rw [ne _ (by omega) (by omega), ne _ (by omega) (by omega)]; exact hb.2 j a b
theorem WF.putL {n c r g o : Int} (h : WF S v) (hn : n = v 0 1) (h6 : n < 6) (hc : 0 ≤ c ∧ c ≤ 11) (hr : 0 ≤ r ∧ r ≤ 9) (hg : 0 ≤ g ∧ g ≤ 4) (ho : 0 ≤ o ∧ o ≤ 50)
    (hf : ∀ i, S' i = if i = 1 then n + 1 else if i = 44 + 4 * n + 3 then o else if i = 44 + 4 * n + 2 then g else if i = 44 + 4 * n + 1 then r else if i = 44 + 4 * n + 0 then c else S i) : WF S' (putLV v (r * 12 + c) g o) := by
  subst hn
  have n0 := h.2.2.n0
  have n1 := h.2.2.n1
  have hb := h.2.1
  have e1 : S' 1 = v 0 1 + 1 := by rw [hf]; exact if_pos rfl
  have s0 := ws_0_0 h.wa
  have s1 := ws_0_1 h.wa
  have ne : ∀ i, i ≠ 1 → ¬ (44 + 4 * v 0 1 ≤ i ∧ i ≤ 44 + 4 * v 0 1 + 3) → S' i = S i := fun i a b => by rw [hf, if_neg a, if_neg (by omega), if_neg (by omega), if_neg (by omega), if_neg (by omega)]
  have e0 : S' 0 = S 0 := ne 0 (by decide) (by omega)
  refine ⟨vM_mk h (e0.trans s0) (e1.trans vset_at.symm) ((ne 2 (by decide) (by omega)).trans ((ws_0_2 h.wa).trans rfl)) ((ne 3 (by decide) (by omega)).trans ((ws_0_3 h.wa).trans rfl)) (fun j a b c d => (vset_no (v := vset (vset (vset v 6 (v 0 1) _) 7 (v 0 1) _) 8 (v 0 1) _) (t := 0) b).trans (h.z0 j a b c d)) (fun t a b => ?_) (fun t a b => ?_) (fun t a => ?_), ⟨fun j a b => ?_, fun j a b => ?_⟩, h.2.2.putL h6 (by omega) hg ho⟩
  · by_cases e3 : t = 6
    · subst e3
      show gd (S' 1) (fun k => S' (44 + 4 * k + 1) * 12 + S' (44 + 4 * k + 0)) = _
      rw [e1]
      exact gd_pushc h.r6 n1.1 fun j a b => by
        rw [hf, hf]
        by_cases e : j = v 0 1
        · subst e; rw [if_pos rfl, if_neg (by omega), if_neg (by omega), if_neg (by omega), if_pos rfl, if_neg (by omega), if_neg (by omega), if_neg (by omega), if_neg (by omega), if_pos rfl]
        · rw [if_neg e, if_neg (by omega), if_neg (by omega), if_neg (by omega), if_neg (by omega), if_neg (by omega), if_neg (by omega), if_neg (by omega), if_neg (by omega), if_neg (by omega), if_neg (by omega)]
    by_cases e4 : t = 7
    · subst e4
      show gd (S' 1) (fun k => S' (44 + 4 * k + 2)) = _
      rw [e1]
      exact gd_pushc h.r7 n1.1 fun j a b => by
        rw [hf]
        by_cases e : j = v 0 1
        · rw [if_pos e, if_neg (by omega), if_neg (by omega), if_pos (by omega)]
        · rw [if_neg e, if_neg (by omega), if_neg (by omega), if_neg (by omega), if_neg (by omega), if_neg (by omega)]
    by_cases e5 : t = 8
    · subst e5
      show gd (S' 1) (fun k => S' (44 + 4 * k + 3)) = _
      rw [e1]
      exact gd_pushc h.r8 n1.1 fun j a b => by
        rw [hf]
        by_cases e : j = v 0 1
        · rw [if_pos e, if_neg (by omega), if_pos (by omega)]
        · rw [if_neg e, if_neg (by omega), if_neg (by omega), if_neg (by omega), if_neg (by omega), if_neg (by omega)]
    rw [show putLV v (r * 12 + c) g o t = v t from by unfold putLV; rw [vset_ne (by omega), vset_ne e5, vset_ne e4, vset_ne e3]]
    exact h.rowc (fun _ => e0) (by omega) a fun i hi => ne i (by have := inRow_at hi; omega) (by have := inRow_at hi; omega)
  · rw [show putLV v (r * 12 + c) g o t = v t from by unfold putLV; rw [vset_ne (by omega), vset_ne (by omega), vset_ne (by omega), vset_ne (by omega)]]
    exact h.rowc (fun _ => e0) (by omega) (by omega) fun i hi => ne i (by have := inRow_at hi; omega) (by have := inRow_at hi; omega)
  · unfold putLV; rw [vset_ne (by omega), vset_ne (by omega), vset_ne (by omega), vset_ne (by omega)]
  · rw [e0] at b
    rw [ne _ (by omega) (by omega), ne _ (by omega) (by omega)]; exact hb.1 j a b
  · rw [e1] at b
    rw [hf, hf]
    by_cases e : j = v 0 1
    · subst e; rw [if_neg (by omega), if_neg (by omega), if_neg (by omega), if_neg (by omega), if_pos rfl, if_neg (by omega), if_neg (by omega), if_neg (by omega), if_pos rfl]; exact ⟨hc, hr⟩
    · rw [if_neg (by omega), if_neg (by omega), if_neg (by omega), if_neg (by omega), if_neg (by omega), if_neg (by omega), if_neg (by omega), if_neg (by omega), if_neg (by omega), if_neg (by omega)]; exact hb.2 j a (by omega)
end MW
