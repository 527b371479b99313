section MW2
variable {S S' : Int → Int} {v : Vw}
theorem WF.dropS {p : Int} (h : WF S v) (hp : 0 ≤ p ∧ p < v 0 0) (hf : ∀ i, S' i = if i = 0 then v 0 0 - 1 else if 4 + 4 * p ≤ i ∧ i < 4 + 4 * v 0 0 - 4 then S (i + 4) else S i) : WF S' (dropSV v p) := by
  have n0 := h.2.2.n0
  have n1 := h.2.2.n1
  have hb := h.2.1
  have s0 := ws_0_0 h.wa
  have e0 : S' 0 = v 0 0 - 1 := by rw [hf]; exact if_pos rfl
  have ne : ∀ i, i ≠ 0 → ¬ (4 + 4 * p ≤ i ∧ i < 4 + 4 * v 0 0 - 4) → S' i = S i := fun i a b => by rw [hf, if_neg a, if_neg b]
  have ye : ∀ i, (4 + 4 * p ≤ i ∧ i < 4 + 4 * v 0 0 - 4) → S' i = S (i + 4) := fun i b => by rw [hf, if_neg (by omega), if_pos b]
  have e1 : S' 1 = S 1 := ne 1 (by decide) (by omega)
  have sh : ∀ q : Int, 0 ≤ q → q ≤ 3 → ∀ j, 0 ≤ j → j < v 0 0 - 1 → S' (4 + 4 * j + q) = if p ≤ j ∧ j < v 0 0 - 1 then S (4 + 4 * (j + 1) + q) else S (4 + 4 * j + q) := fun q q0 q3 j a b => by
    by_cases e : p ≤ j
    · rw [if_pos ⟨e, b⟩, ye _ (by omega)]; congr 1; omega
    · rw [if_neg (fun z => e z.1), ne _ (by omega) (by omega)]
  refine ⟨vM_mk h (e0.trans vset_at.symm) (e1.trans ((ws_0_1 h.wa).trans rfl)) ((ne 2 (by decide) (by omega)).trans ((ws_0_2 h.wa).trans rfl)) ((ne 3 (by decide) (by omega)).trans ((ws_0_3 h.wa).trans rfl)) (fun j a b c d => (vset_no (v := dropV (dropV (dropV v 3 p) 4 p) 5 p) (t := 0) a).trans (h.z0 j a b c d)) (fun t a b => ?_) (fun t a b => ?_) (fun t a => ?_), ⟨fun j a b => ?_, fun j a b => ?_⟩, h.2.2.dropS hp⟩
  · by_cases e3 : t = 3
    · subst e3
      show gd (S' 0) (fun k => S' (4 + 4 * k + 0)) = _
      rw [e0]; exact gd_dropc h.r3 hp (sh 0 (by decide) (by decide))
    by_cases e4 : t = 4
    · subst e4
      show gd (S' 0) (fun k => S' (4 + 4 * k + 2) * 12 + S' (4 + 4 * k + 1)) = _
      rw [e0]
      exact gd_dropc h.r4 hp fun j a b => by
        rw [sh 2 (by decide) (by decide) j a b, sh 1 (by decide) (by decide) j a b]
        by_cases e : p ≤ j ∧ j < v 0 0 - 1
        · rw [if_pos e, if_pos e, if_pos e]
        · rw [if_neg e, if_neg e, if_neg e]
    by_cases e5 : t = 5
    · subst e5
      show gd (S' 0) (fun k => S' (4 + 4 * k + 3)) = _
      rw [e0]; exact gd_dropc h.r5 hp (sh 3 (by decide) (by decide))
    rw [show dropSV v p t = v t from by unfold dropSV dropV; rw [vset_ne (by omega), vrow_ne e5, vrow_ne e4, vrow_ne e3]]
    exact h.rowc (by omega) (fun _ => e1) a fun i hi => ne i (by have := inRow_at hi; omega) (by have := inRow_at hi; omega)
  · rw [show dropSV v p t = v t from by unfold dropSV dropV; rw [vset_ne (by omega), vrow_ne (by omega), vrow_ne (by omega), vrow_ne (by omega)]]
    exact h.rowc (by omega) (fun _ => e1) (by omega) fun i hi => ne i (by have := inRow_at hi; omega) (by have := inRow_at hi; omega)
  · unfold dropSV dropV; rw [vset_ne (by omega), vrow_ne (by omega), vrow_ne (by omega), vrow_ne (by omega)]
  · rw [e0] at b
    rw [sh 1 (by decide) (by decide) j a b, sh 2 (by decide) (by decide) j a b]
    by_cases e : p ≤ j ∧ j < v 0 0 - 1
    · rw [if_pos e, if_pos e]; exact hb.1 (j + 1) (by omega) (by omega)
    · rw [if_neg e, if_neg e]; exact hb.1 j a (by omega)
  · rw [e1] at b
    have := h.n1
    rw [ne _ (by omega) (by omega), ne _ (by omega) (by omega)]; exact hb.2 j a b
theorem WF.dropL {p : Int} (h : WF S v) (hp : 0 ≤ p ∧ p < v 0 1) (hf : ∀ i, S' i = if i = 1 then v 0 1 - 1 else if 44 + 4 * p ≤ i ∧ i < 44 + 4 * v 0 1 - 4 then S (i + 4) else S i) : WF S' (dropLV v p) := by
  have n0 := h.2.2.n0
  have n1 := h.2.2.n1
  have hb := h.2.1
  have s1 := ws_0_1 h.wa
  have e1 : S' 1 = v 0 1 - 1 := by rw [hf]; exact if_pos rfl
  have ne : ∀ i, i ≠ 1 → ¬ (44 + 4 * p ≤ i ∧ i < 44 + 4 * v 0 1 - 4) → S' i = S i := fun i a b => by rw [hf, if_neg a, if_neg b]
  have ye : ∀ i, (44 + 4 * p ≤ i ∧ i < 44 + 4 * v 0 1 - 4) → S' i = S (i + 4) := fun i b => by rw [hf, if_neg (by omega), if_pos b]
  have e0 : S' 0 = S 0 := ne 0 (by decide) (by omega)
  have sh : ∀ q : Int, 0 ≤ q → q ≤ 3 → ∀ j, 0 ≤ j → j < v 0 1 - 1 → S' (44 + 4 * j + q) = if p ≤ j ∧ j < v 0 1 - 1 then S (44 + 4 * (j + 1) + q) else S (44 + 4 * j + q) := fun q q0 q3 j a b => by
    by_cases e : p ≤ j
    · rw [if_pos ⟨e, b⟩, ye _ (by omega)]; congr 1; omega
    · rw [if_neg (fun z => e z.1), ne _ (by omega) (by omega)]
  refine ⟨vM_mk h (e0.trans ((ws_0_0 h.wa).trans rfl)) (e1.trans vset_at.symm) ((ne 2 (by decide) (by omega)).trans ((ws_0_2 h.wa).trans rfl)) ((ne 3 (by decide) (by omega)).trans ((ws_0_3 h.wa).trans rfl)) (fun j a b c d => (vset_no (v := dropV (dropV (dropV v 6 p) 7 p) 8 p) (t := 0) b).trans (h.z0 j a b c d)) (fun t a b => ?_) (fun t a b => ?_) (fun t a => ?_), ⟨fun j a b => ?_, fun j a b => ?_⟩, h.2.2.dropL hp⟩
  · by_cases e3 : t = 6
    · subst e3
      show gd (S' 1) (fun k => S' (44 + 4 * k + 1) * 12 + S' (44 + 4 * k + 0)) = _
      rw [e1]
      exact gd_dropc h.r6 hp fun j a b => by
        rw [sh 1 (by decide) (by decide) j a b, sh 0 (by decide) (by decide) j a b]
        by_cases e : p ≤ j ∧ j < v 0 1 - 1
        · rw [if_pos e, if_pos e, if_pos e]
        · rw [if_neg e, if_neg e, if_neg e]
    by_cases e4 : t = 7
    · subst e4
      show gd (S' 1) (fun k => S' (44 + 4 * k + 2)) = _
      rw [e1]; exact gd_dropc h.r7 hp (sh 2 (by decide) (by decide))
    by_cases e5 : t = 8
    · subst e5
      show gd (S' 1) (fun k => S' (44 + 4 * k + 3)) = _
      rw [e1]; exact gd_dropc h.r8 hp (sh 3 (by decide) (by decide))
    rw [show dropLV v p t = v t from by unfold dropLV dropV; rw [vset_ne (by omega), vrow_ne e5, vrow_ne e4, vrow_ne e3]]
    exact h.rowc (fun _ => e0) (by omega) a fun i hi => ne i (by have := inRow_at hi; omega) (by have := inRow_at hi; omega)
  · rw [show dropLV v p t = v t from by unfold dropLV dropV; rw [vset_ne (by omega), vrow_ne (by omega), vrow_ne (by omega), vrow_ne (by omega)]]
    exact h.rowc (fun _ => e0) (by omega) (by omega) fun i hi => ne i (by have := inRow_at hi; omega) (by have := inRow_at hi; omega)
  · unfold dropLV dropV; rw [vset_ne (by omega), vrow_ne (by omega), vrow_ne (by omega), vrow_ne (by omega)]
  · rw [e0] at b
    have := h.n0
    rw [ne _ (by omega) (by omega), ne _ (by omega) (by omega)]; exact hb.1 j a b
  · rw [e1] at b
    rw [sh 0 (by decide) (by decide) j a b, sh 1 (by decide) (by decide) j a b]
    by_cases e : p ≤ j ∧ j < v 0 1 - 1
    · rw [if_pos e, if_pos e]; exact hb.2 (j + 1) (by omega) (by omega)
    · rw [if_neg e, if_neg e]; exact hb.2 j a (by omega)
theorem MB.fr (h : MB S) (e0 : S' 0 = S 0) (e1 : S' 1 = S 1) (hf : ∀ i, 4 ≤ i → i < 68 → S' i = S i) (n0 : S 0 ≤ 10) (n1 : S 1 ≤ 6) : MB S' := by
  refine ⟨fun k a b => ?_, fun k a b => ?_⟩
  · rw [e0] at b
    rw [hf _ (by omega) (by omega), hf _ (by omega) (by omega)]; exact h.1 k a b
  · rw [e1] at b
    rw [hf _ (by omega) (by omega), hf _ (by omega) (by omega)]; exact h.2 k a b
theorem WM.out2 (h : WF S v) {t : Nat} (ht : t = 9 ∨ t = 13) {j : Int} (hj : ¬ (0 ≤ j ∧ j < 120)) : v t j = 0 := h.ww.out (by omega) hj
theorem WF.lim {x : Int} (h : WF S v) (hx : 1 ≤ x ∧ x ≤ 99) (hf : ∀ i, S' i = if 308 ≤ i ∧ i < 548 then imin (S i) x else if i = 2 then x else S i) : WF S' (limV v x) := by
  have n0 := h.2.2.n0
  have n1 := h.2.2.n1
  have ne : ∀ i, i ≠ 2 → ¬ (308 ≤ i ∧ i < 548) → S' i = S i := fun i a b => by rw [hf, if_neg b, if_neg a]
  have e0 : S' 0 = S 0 := ne 0 (by decide) (by omega)
  have e1 : S' 1 = S 1 := ne 1 (by decide) (by omega)
  have i0 : imin 0 x = 0 := by unfold imin; split <;> omega
  refine ⟨vM_mk h (e0.trans ((ws_0_0 h.wa).trans rfl)) (e1.trans ((ws_0_1 h.wa).trans rfl)) ?_ ((ne 3 (by decide) (by omega)).trans ((ws_0_3 h.wa).trans rfl)) (fun j a b c d => ?_) (fun t a b => ?_) (fun t a b => ?_) (fun t a => ?_), h.2.1.fr e0 e1 (fun i a b => ne i (by omega) (by omega)) h.n0.2 h.n1.2, h.2.2.lim hx⟩
  · rw [hf, if_neg (by decide), if_pos rfl]; rfl
  · show (if j = 2 then x else v 0 j) = 0
    rw [if_neg c]; exact h.z0 j a b c d
  · rw [show limV v x t = v t from by unfold limV; rw [if_neg (by omega), if_neg (by omega)]]
    exact h.row e0 e1 fun i hi => ne i (by have := inRow_at hi; omega) (by have := inRow_at hi; omega)
  · by_cases e9 : t = 9
    · subst e9
      show gd 120 (fun j => S' (308 + j)) = fun j => imin (v 9 j) x
      refine gd_of (fun j a b => ?_) (fun j hj => by rw [WM.out2 h (by decide) hj]; exact i0)
      have q := wm h.ww (t := 0) (s := 0) (by decide) (by decide) ⟨a, b⟩
      rw [hf, if_pos (by omega), show v 9 j = v (mr 0 0) j from rfl, ← q]; congr 2
    by_cases e13 : t = 13
    · subst e13
      show gd 120 (fun j => S' (428 + j)) = fun j => imin (v 13 j) x
      refine gd_of (fun j a b => ?_) (fun j hj => by rw [WM.out2 h (by decide) hj]; exact i0)
      have q := wm h.ww (t := 0) (s := 1) (by decide) (by decide) ⟨a, b⟩
      rw [hf, if_pos (by omega), show v 13 j = v (mr 1 0) j from rfl, ← q]; congr 2
    rw [show limV v x t = v t from by unfold limV; rw [if_neg (by omega), if_neg (by omega)]]
    exact h.row e0 e1 fun i hi => ne i (by have := inRow_at hi; omega) (by have := inRow_at hi; have := inRow_le hi; omega)
  · unfold limV; rw [if_neg (by omega), if_neg (by omega)]
theorem dim_sub {x : Int} (h : 0 ≤ x) : x - (if 0 < x then 1 else 0) = dim1 x ∧ x - (if 0 < x then 1 else 0) = imax 0 (x - 1) := by
  unfold dim1 imax
  constructor
  · split <;> omega
  · split <;> split <;> omega
theorem WF.turn (h : WF S v) (hf : ∀ i, S' i = if i = 3 then S 3 + 1 else if 308 ≤ i ∧ i < 548 then imax 0 (S i - 1) else if 44 ≤ i ∧ i < 44 + 4 * v 0 1 ∧ i % 4 = 3 then dim1 (S i) else S i) : WF S' (fadeV (turnV v)) := by
  have n0 := h.2.2.n0
  have n1 := h.2.2.n1
  have hb := h.2.1
  have ne : ∀ i, i ≠ 3 → ¬ (308 ≤ i ∧ i < 548) → ¬ (44 ≤ i ∧ i < 44 + 4 * v 0 1 ∧ i % 4 = 3) → S' i = S i := fun i a b c => by rw [hf, if_neg a, if_neg b, if_neg c]
  have e0 : S' 0 = S 0 := ne 0 (by decide) (by omega) (by omega)
  have e1 : S' 1 = S 1 := ne 1 (by decide) (by omega) (by omega)
  have ew : ∀ t, t ≠ 0 → t ≠ 8 → t ≠ 9 → t ≠ 13 → fadeV (turnV v) t = v t := fun t a b c d => by unfold fadeV turnV burnV; rw [if_neg (by omega), vset_ne a, vrow_ne b]
  refine ⟨vM_mk h (e0.trans ((ws_0_0 h.wa).trans rfl)) (e1.trans ((ws_0_1 h.wa).trans rfl)) ((ne 2 (by decide) (by omega) (by omega)).trans ((ws_0_2 h.wa).trans rfl)) ?_ (fun j a b c d => ?_) (fun t a b => ?_) (fun t a b => ?_) (fun t a => ew t (by omega) (by omega) (by omega) (by omega)), ⟨fun j a b => ?_, fun j a b => ?_⟩, h.2.2.turn.fade⟩
  · rw [hf, if_pos rfl, ws_0_3 h.wa]; exact (vset_at (v := burnV v) (t := 0) (i := 3)).symm
  · show vset (burnV v) 0 3 (v 0 3 + 1) 0 j = 0
    rw [vset_no d]; exact h.z0 j a b c d
  · by_cases e8 : t = 8
    · subst e8
      show gd (S' 1) (fun k => S' (44 + 4 * k + 3)) = fun j => dim1 (v 8 j)
      rw [e1, ws_0_1 h.wa]
      refine gd_of (fun j a b => ?_) (fun j hj => ?_)
      · rw [hf, if_neg (by omega), if_neg (by omega), if_pos (by omega), ws_8 h.wa ⟨a, b⟩]
      · rw [← h.r8, gd_out hj]; rfl
    · rw [ew t (by omega) e8 (by omega) (by omega)]
      exact h.row e0 e1 fun i hi => ne i (by have := inRow_at hi; omega) (by have := inRow_at hi; omega) (by have := inRow_at hi; omega)
  · by_cases e9 : t = 9
    · subst e9
      show gd 120 (fun j => S' (308 + j)) = fun j => imax 0 (v 9 j - 1)
      refine gd_of (fun j a b => ?_) (fun j hj => by rw [WM.out2 h (by decide) hj]; rfl)
      have q := wm h.ww (t := 0) (s := 0) (by decide) (by decide) ⟨a, b⟩
      rw [hf, if_neg (by omega), if_pos (by omega), show v 9 j = v (mr 0 0) j from rfl, ← q]; congr 3
    by_cases e13 : t = 13
    · subst e13
      show gd 120 (fun j => S' (428 + j)) = fun j => imax 0 (v 13 j - 1)
      refine gd_of (fun j a b => ?_) (fun j hj => by rw [WM.out2 h (by decide) hj]; rfl)
      have q := wm h.ww (t := 0) (s := 1) (by decide) (by decide) ⟨a, b⟩
      rw [hf, if_neg (by omega), if_pos (by omega), show v 13 j = v (mr 1 0) j from rfl, ← q]; congr 3
    rw [ew t (by omega) (by omega) e9 e13]
    exact h.row e0 e1 fun i hi => ne i (by have := inRow_at hi; omega) (by have := inRow_at hi; have := inRow_le hi; omega) (by have := inRow_at hi; omega)
  · rw [e0] at b
    have := h.n0
    rw [ne _ (by omega) (by omega) (by omega), ne _ (by omega) (by omega) (by omega)]; exact hb.1 j a b
  · rw [e1] at b
    have := h.n1
    rw [ne _ (by omega) (by omega) (by omega), ne _ (by omega) (by omega) (by omega)]; exact hb.2 j a b
/-- lights that go out: those with oil 1 -/
theorem out_cnt (hS : ∀ k, 0 ≤ v 8 k) : ∀ (n : Nat) (k : Int), cnt (fun k => v 8 k = 1) n k = cnt (fun k => 0 < v 8 k) n k - cnt (fun k => 0 < burnV v 8 k) n k
  | 0, _ => rfl
  | n + 1, k => by
    have ih := out_cnt hS n (k + 1)
    have h0 := hS k
    have e : bi (v 8 k = 1) = bi (0 < v 8 k) - bi (0 < burnV v 8 k) := by
      show bi (v 8 k = 1) = bi (0 < v 8 k) - bi (0 < dim1 (v 8 k))
      unfold dim1
      by_cases a : 0 < v 8 k
      · rw [if_pos a, bi_t a]
        by_cases b : v 8 k = 1
        · rw [bi_t b, bi_f (by omega)]; rfl
        · rw [bi_f b, bi_t (by omega)]; rfl
      · rw [if_neg a, bi_f a, bi_f (by omega)]; rfl
    simp only [cnt]
    omega
end MW2
/-! ===== the model's cells ===== -/
def RM (M : Mem) (s : AbS) : Prop := WF (M 133) s.1 ∧ M 132 4 = s.2.1 ∧ (0 ≤ s.2.1 ∧ s.2.1 ≤ 5) ∧ (∀ j, 0 ≤ j → j < s.2.1 → WF (fun i => M 135 (1268 * j + i)) (s.2.2.1 j)) ∧ M 132 6 = s.2.2.2.1 ∧ (0 ≤ s.2.2.2.1 ∧ s.2.2.2.1 ≤ 120) ∧ (∀ i, 0 ≤ i ∧ i < s.2.2.2.1 → M 136 i = s.2.2.2.2 i) ∧ ∀ i, 0 ≤ s.2.2.2.2 i ∧ s.2.2.2.2 i ≤ 255
def OUTM (M : Mem) (o : Int × AbS) : Option AV → Mem → Prop := fun r M' => r = some (.inl o.1) ∧ RM M' o.2 ∧ ∀ a, a < 132 → M' a = M a
/-- row a, from lo to k as f has it -/
def mw (M : Mem) (a : Nat) (lo k : Int) (f : Int → Int) : Mem := mrow M a (fun i => if lo ≤ i ∧ i < k then f i else M a i)
section MWS
variable {M M' : Mem} {a b : Nat} {lo k x : Int} {f : Int → Int}
theorem mw_at {i : Int} : mw M a lo k f a i = if lo ≤ i ∧ i < k then f i else M a i := by unfold mw; rw [mrow_at2]
theorem mw_no (h : b ≠ a) : mw M a lo k f b = M b := mrow_row h
theorem mw_0 (h : k ≤ lo) : mw M a lo k f = M := by
  funext b i
  by_cases e : b = a
  · subst e; rw [mw_at, if_neg (by omega)]
  · rw [mw_no e]
theorem mw_step (h : lo ≤ k) (hx : x = f k) : mset (mw M a lo k f) a k x = mw M a lo (k + 1) f := by
  funext b i
  by_cases e : b = a
  · subst e
    rw [mset_self, mw_at, mw_at]
    by_cases e2 : i = k
    · subst e2; rw [if_pos rfl, if_pos (by omega), hx]
    · rw [if_neg e2]
      by_cases q : lo ≤ i ∧ i < k
      · rw [if_pos q, if_pos (by omega)]
      · rw [if_neg q, if_neg (by omega)]
  · rw [mset_row e, mw_no e, mw_no e]
end MWS
/-- behind act -/
def actM (M : Mem) (z : Int) : Mem := if z = 5 then mset (mw (mset (mw M 135 0 5072 (fun i => M 135 (i + 1268))) 132 4 4) 135 5072 6340 (fun i => M 133 (i - 5072))) 132 4 5 else mset (mw M 135 (1268 * z) (1268 * z + 1268) (fun i => M 133 (i - 1268 * z))) 132 4 (z + 1)
section RMS
variable {M M' : Mem} {v v' : Vw} {z tl : Int} {H : Int → Vw} {T : Int → Int} {s : AbS}
theorem actM_no {a : Nat} (h : a ≠ 132 ∧ a ≠ 135) : actM M z a = M a := by
  unfold actM
  split
  · rw [mset_row h.1, mw_no h.2, mset_row h.1, mw_no h.2]
  · rw [mset_row h.1, mw_no h.2]
theorem RM.keep (h : RM M (v, z, H, tl, T)) : RM (actM M z) (v, imin (z + 1) 5, pushH H z v, tl, T) := by
  obtain ⟨h1, h2, h3, h4, h5, h6, h7, h8⟩ := h
  replace h3 : 0 ≤ z ∧ z ≤ 5 := h3
  replace h4 : ∀ j, 0 ≤ j → j < z → WF (fun i => M 135 (1268 * j + i)) (H j) := h4
  have e6 : actM M z 132 6 = M 132 6 := by
    unfold actM
    split
    · rw [mset_ne (by omega), mw_no (by decide), mset_ne (by omega), mw_no (by decide)]
    · rw [mset_ne (by omega), mw_no (by decide)]
  refine ⟨by rw [actM_no (by decide)]; exact h1, ?_, ?_, fun j a b => ?_, by rw [e6]; exact h5, h6, by rw [actM_no (by decide)]; exact h7, h8⟩
  · show actM M z 132 4 = imin (z + 1) 5
    unfold actM
    rw [imin5 h3.2]
    by_cases e : z = 5
    · rw [if_pos e, if_neg (by omega)]; exact mset_at
    · rw [if_neg e, if_pos (by omega)]; exact mset_at
  · show 0 ≤ imin (z + 1) 5 ∧ imin (z + 1) 5 ≤ 5
    rw [imin5 h3.2]; split <;> omega
  · replace b : j < imin (z + 1) 5 := b
    rw [imin5 h3.2] at b
    show WF (fun i => actM M z 135 (1268 * j + i)) (pushH H z v j)
    unfold actM pushH
    by_cases e : z = 5
    · rw [if_neg (by omega)] at b
      rw [if_pos e, if_neg (by omega)]
      by_cases e4 : j = 4
      · rw [if_pos e4]
        refine WF.congr h1 fun i i0 i1 => ?_
        rw [mset_row (by decide), mw_at, if_pos (by omega)]; congr 1; omega
      · rw [if_neg e4]
        refine WF.congr (h4 (j + 1) (by omega) (by omega)) fun i i0 i1 => ?_
        rw [mset_row (by decide), mw_at, if_neg (by omega), mset_row (by decide), mw_at, if_pos (by omega)]
        show M 135 _ = M 135 _
        congr 1; omega
    · rw [if_pos (by omega)] at b
      rw [if_neg e, if_pos (by omega)]
      by_cases e4 : j = z
      · rw [if_pos e4]
        refine WF.congr h1 fun i i0 i1 => ?_
        rw [mset_row (by decide), mw_at, if_pos (by omega)]; congr 1; omega
      · rw [if_neg e4]
        refine WF.congr (h4 j a (by omega)) fun i i0 i1 => ?_
        rw [mset_row (by decide), mw_at, if_neg (by omega)]
theorem RM.upd (h : RM M (v, z, H, tl, T)) (hf : ∀ a, a ≠ 133 → 132 ≤ a → a ≠ 134 → M' a = M a) (hw : WF (M' 133) v') : RM M' (v', z, H, tl, T) := by
  obtain ⟨h1, h2, h3, h4, h5, h6, h7, h8⟩ := h
  refine ⟨hw, by rw [hf 132 (by decide) (by decide) (by decide)]; exact h2, h3, ?_, by rw [hf 132 (by decide) (by decide) (by decide)]; exact h5, h6, by rw [hf 136 (by decide) (by decide) (by decide)]; exact h7, h8⟩
  show ∀ j, 0 ≤ j → j < z → WF (fun i => M' 135 (1268 * j + i)) (H j)
  rw [hf 135 (by decide) (by decide) (by decide)]; exact h4
theorem RM.thrown (h : RM M s) {x : Int} : RM (mset M 132 0 x) s := by
  obtain ⟨h1, h2, h3, h4, h5, h6, h7, h8⟩ := h
  refine ⟨by rw [mset_row (by decide)]; exact h1, by rw [mset_ne (by omega)]; exact h2, h3, ?_, by rw [mset_ne (by omega)]; exact h5, h6, by rw [mset_row (by decide)]; exact h7, h8⟩
  rw [show mset M 132 0 x 135 = M 135 from mset_row (by decide)]; exact h4
end RMS
