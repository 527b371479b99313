/-! ===== the views behind look, keep, restore ===== -/
def Same8 (v w : Vw) : Prop := ∀ t, t ≤ 8 → v t = w t
theorem Same8.symm {v w : Vw} (h : Same8 v w) : Same8 w v := fun t ht => (h t ht).symm
theorem lit_congr {v w : Vw} (h : Same8 v w) (c : Int) : lit v c = lit w c := by
  unfold lit; simp only [h 0 (by decide), h 6 (by decide), h 7 (by decide), h 8 (by decide)]
theorem free_congr {v w : Vw} (h : Same8 v w) (a b : Int) : free v a b = free w a b := by
  unfold free okAt; simp only [h 1 (by decide), h 2 (by decide)]
theorem sees_congr {v w : Vw} (h : Same8 v w) (k c : Int) : sees v k c = sees w k c := by
  unfold sees see; simp only [h 4 (by decide), h 5 (by decide), lit_congr h, free_congr h]
theorem sSees_congr {v w : Vw} (h : Same8 v w) (s c : Int) : sSees v s c = sSees w s c := by
  unfold sSees; simp only [h 0 (by decide), h 3 (by decide), sees_congr h]
theorem sIn_congr {v w : Vw} (h : Same8 v w) (c : Int) : sIn v c = sIn w c := by
  unfold sIn; simp only [h 0 (by decide), h 4 (by decide)]
theorem nv_congr {v w : Vw} (h : Same8 v w) (s : Int) (t : Nat) (j : Int) : nv v s t j = nv w s t j := by
  unfold nv; simp only [h 0 (by decide), h 1 (by decide), h 2 (by decide), h 3 (by decide), sIn_congr h]
theorem Fref_congr {v w : Vw} (h : Same8 v w) : Fref v = Fref w := by
  funext a j; unfold Fref; simp only [h 0 (by decide), lit_congr h, sees_congr h]
theorem Frem_congr {v w : Vw} (h : Same8 v w) (b : Nat) (s : Int) : Frem v b s = Frem w b s := by
  funext a j; unfold Frem
  by_cases p : sSees v s j
  · rw [if_pos p, if_pos (show sSees w s j from (sSees_congr h s j) ▸ p), nv_congr h]
  · rw [if_neg p, if_neg (show ¬ sSees w s j from (sSees_congr h s j) ▸ p)]
theorem SG.congr {M : Mem} {v w : Vw} (h : Same8 v w) (g : SG M v) : SG M w := ⟨fun c hc => by rw [g.1 c hc, lit_congr h], fun c hc => by rw [g.2 c hc]; simp only [h 0 (by decide), sees_congr h]⟩
theorem remM_congr {v w : Vw} (h : Same8 v w) (M : Mem) : remM M v = remM M w := by unfold remM; rw [Frem_congr h, Frem_congr h]
theorem lookM_congr {v w : Vw} (h : Same8 v w) (M : Mem) : lookM M v = lookM M w := by unfold lookM; rw [remM_congr h, Fref_congr h]
/-- what a side knows of a cell behind a look -/
noncomputable def lk1 (v : Vw) (s : Int) (i : Nat) (f : Int → Int) (j : Int) : Int := @ite _ (0 ≤ j ∧ j < 120 ∧ sSees v s j) (Classical.propDecidable _) (nv v s i j) (f j)
noncomputable def lookV (v : Vw) : Vw := fun t => if 9 ≤ t ∧ t ≤ 12 then lk1 v 0 (t - 9) (v t) else if 13 ≤ t ∧ t ≤ 16 then lk1 v 1 (t - 13) (v t) else v t
theorem lookV_lo {v : Vw} {t : Nat} (h : t ≤ 8) : lookV v t = v t := by unfold lookV; rw [if_neg (by omega), if_neg (by omega)]
theorem lookV_same {v : Vw} : Same8 v (lookV v) := fun _ h => (lookV_lo h).symm
theorem Frem_at {v : Vw} {b : Nat} {s : Int} {M : Mem} {a : Nat} {j : Int} (h : b ≤ a ∧ a < b + 4) : mgen M (Frem v b s) 0 120 a j = lk1 v s (a - b) (M a) j := by
  unfold mgen lk1
  by_cases hj : 0 ≤ j ∧ j < 120
  · rw [if_pos hj]
    by_cases p : sSees v s j
    · have e : Frem v b s a j = if b ≤ a ∧ a < b + 4 then some (nv v s (a - b) j) else none := if_pos p
      rw [e, if_pos h, if_pos ⟨hj.1, hj.2, p⟩]; rfl
    · have e : Frem v b s a j = none := if_neg p
      rw [e, if_neg (fun q => p q.2.2)]; rfl
  · rw [if_neg hj, if_neg (fun q => hj ⟨q.1, q.2.1⟩)]
theorem remM_0 {M : Mem} {v : Vw} {a : Nat} {j : Int} (h : 12 ≤ a ∧ a < 16) : remM M v a j = lk1 v 0 (a - 12) (M a) j := by
  unfold remM
  rw [show mgen (mgen M (Frem v 12 0) 0 120) (Frem v 17 1) 0 120 a = mgen M (Frem v 12 0) 0 120 a from mgen_row (Frem_no (by omega))]
  exact Frem_at h
theorem remM_1 {M : Mem} {v : Vw} {a : Nat} {j : Int} (h : 17 ≤ a ∧ a < 21) : remM M v a j = lk1 v 1 (a - 17) (M a) j := by
  unfold remM
  rw [Frem_at h, show mgen M (Frem v 12 0) 0 120 a = M a from mgen_row (Frem_no (by omega))]
theorem remM_no {M : Mem} {v : Vw} {a : Nat} (h : ¬ (12 ≤ a ∧ a < 16) ∧ ¬ (17 ≤ a ∧ a < 21)) : remM M v a = M a := by
  unfold remM
  rw [show mgen (mgen M (Frem v 12 0) 0 120) (Frem v 17 1) 0 120 a = mgen M (Frem v 12 0) 0 120 a from mgen_row (Frem_no (by omega))]
  exact mgen_row (Frem_no (by omega))
theorem gd_lk1 {v : Vw} {s : Int} {i : Nat} {f g : Int → Int} (h : gd 120 f = g) : gd 120 (lk1 v s i f) = lk1 v s i g := by
  subst h
  funext j
  by_cases hj : 0 ≤ j ∧ j < 120
  · rw [gd_in hj]
    unfold lk1
    by_cases p : 0 ≤ j ∧ j < 120 ∧ sSees v s j
    · rw [if_pos p, if_pos p]
    · rw [if_neg p, if_neg p, gd_in hj]
  · rw [gd_out hj]
    unfold lk1
    rw [if_neg (fun q => hj ⟨q.1, q.2.1⟩), gd_out hj]
theorem rem_view {M : Mem} {v : Vw} (hv : vF M 1 = v) : vF (remM M v) 1 = lookV v := by
  have r0 : ∀ a, 12 ≤ a → a < 16 → remM M v a = lk1 v 0 (a - 12) (M a) := fun a h1 h2 => by funext j; exact remM_0 ⟨h1, h2⟩
  have r1 : ∀ a, 17 ≤ a → a < 21 → remM M v a = lk1 v 1 (a - 17) (M a) := fun a h1 h2 => by funext j; exact remM_1 ⟨h1, h2⟩
  have rn : ∀ a, a ≤ 9 → remM M v a = M a := fun a h => remM_no (by omega)
  funext t
  by_cases h8 : t ≤ 8
  · rw [lookV_lo h8, ← hv]
    have : t = 0 ∨ t = 1 ∨ t = 2 ∨ t = 3 ∨ t = 4 ∨ t = 5 ∨ t = 6 ∨ t = 7 ∨ t = 8 := by omega
    rcases this with rfl | rfl | rfl | rfl | rfl | rfl | rfl | rfl | rfl <;> simp only [vF, hv, rn 1 (by decide), rn (1 + 1) (by decide), rn (1 + 2) (by decide), rn (1 + 3) (by decide), rn (1 + 4) (by decide), rn (1 + 5) (by decide), rn (1 + 6) (by decide), rn (1 + 7) (by decide), rn (1 + 8) (by decide)]
  · by_cases h16 : t ≤ 16
    · have e : ∀ t, 9 ≤ t → t ≤ 16 → vF M 1 t = v t := fun t _ _ => by rw [hv]
      have : t = 9 ∨ t = 10 ∨ t = 11 ∨ t = 12 ∨ t = 13 ∨ t = 14 ∨ t = 15 ∨ t = 16 := by omega
      rcases this with rfl | rfl | rfl | rfl | rfl | rfl | rfl | rfl
      · show gd 120 (remM M v 12) = lk1 v 0 0 (v 9); rw [r0 12 (by decide) (by decide)]; exact gd_lk1 (e 9 (by decide) (by decide))
      · show gd 120 (remM M v 13) = lk1 v 0 1 (v 10); rw [r0 13 (by decide) (by decide)]; exact gd_lk1 (e 10 (by decide) (by decide))
      · show gd 120 (remM M v 14) = lk1 v 0 2 (v 11); rw [r0 14 (by decide) (by decide)]; exact gd_lk1 (e 11 (by decide) (by decide))
      · show gd 120 (remM M v 15) = lk1 v 0 3 (v 12); rw [r0 15 (by decide) (by decide)]; exact gd_lk1 (e 12 (by decide) (by decide))
      · show gd 120 (remM M v 17) = lk1 v 1 0 (v 13); rw [r1 17 (by decide) (by decide)]; exact gd_lk1 (e 13 (by decide) (by decide))
      · show gd 120 (remM M v 18) = lk1 v 1 1 (v 14); rw [r1 18 (by decide) (by decide)]; exact gd_lk1 (e 14 (by decide) (by decide))
      · show gd 120 (remM M v 19) = lk1 v 1 2 (v 15); rw [r1 19 (by decide) (by decide)]; exact gd_lk1 (e 15 (by decide) (by decide))
      · show gd 120 (remM M v 20) = lk1 v 1 3 (v 16); rw [r1 20 (by decide) (by decide)]; exact gd_lk1 (e 16 (by decide) (by decide))
    · have : lookV v t = v t := by unfold lookV; rw [if_neg (by omega), if_neg (by omega)]
      rw [this, ← hv]
      obtain ⟨k, rfl⟩ : ∃ k, t = k + 17 := ⟨t - 17, by omega⟩
      rfl
theorem look_view {M : Mem} {v : Vw} (hv : vF M 1 = v) : vF (lookM M v) 1 = lookV v := by
  have : vF (mgen M (Fref v) 0 120) 1 = v := by
    rw [← hv]; exact vF_frame fun a h1 h2 => mgen_row (Fref_lo (by omega))
  exact rem_view this
theorem SG.look {M : Mem} {v : Vw} : SG (lookM M v) (lookV v) := SG.congr lookV_same (SG.rem SG.ref)
theorem SI.look {v : Vw} (h : SI v) : SI (lookV v) := by
  have hb : ∀ (s : Int) (i : Nat) (f : Int → Int) (b : Int), (∀ j, 0 ≤ f j ∧ f j ≤ b) → (∀ j, 0 ≤ nv v s i j ∧ nv v s i j ≤ b) → ∀ j, 0 ≤ lk1 v s i f j ∧ lk1 v s i f j ≤ b := by
    intro s i f b h1 h2 j
    unfold lk1
    split
    · exact h2 j
    · exact h1 j
  have n0 : ∀ s j, 0 ≤ nv v s 0 j ∧ nv v s 0 j ≤ 99 := fun s j => by have := h.n2; show 0 ≤ v 0 2 ∧ v 0 2 ≤ 99; omega
  have n1 : ∀ s j, 0 ≤ nv v s 1 j ∧ nv v s 1 j ≤ 9 := fun s j => h.r1 j
  have n2 : ∀ s j, 0 ≤ nv v s 2 j ∧ nv v s 2 j ≤ 1 := fun s j => h.r2 j
  have n3 : ∀ s j, 0 ≤ nv v s 3 j ∧ nv v s 3 j ≤ 1 := fun s j => bi_ge _
  exact ⟨h.n0, h.n1, h.n2, h.r1, h.r2, h.r3, h.r4, h.r5, h.r6, h.r7, h.r8, hb 0 0 _ _ h.r9 (n0 0), hb 0 1 _ _ h.r10 (n1 0), hb 0 2 _ _ h.r11 (n2 0), hb 0 3 _ _ h.r12 (n3 0), hb 1 0 _ _ h.r13 (n0 1), hb 1 1 _ _ h.r14 (n1 1), hb 1 2 _ _ h.r15 (n2 1), hb 1 3 _ _ h.r16 (n3 1), fun k a b => h.on a b, fun j k a b c => h.ne a b c⟩
/-- addresses that a look, a turn leave -/
theorem lookM_no {M : Mem} {v : Vw} {a : Nat} (h : a ≤ 9 ∨ 24 ≤ a) : lookM M v a = M a := by
  unfold lookM
  rw [remM_no (by omega)]
  exact mgen_row (Fref_lo (by omega))
theorem cpS_in {M : Mem} {d s i : Nat} (h : i ∈ fullR) (h0 : 0 < i) : cpB M d s (d + i) = M (s + i) := by
  funext j
  unfold cpB cpS
  rw [if_neg (by omega), if_pos ⟨by omega, by rw [show d + i - d = i by omega]; exact h⟩]
  congr 1; omega
theorem cpS_f {M : Mem} {d s : Nat} {f : Int} (h : f ∈ fullF) : cpB M d s d f = M s f := by
  unfold cpB cpS
  rw [if_pos ⟨rfl, h⟩]
theorem cp_view {M : Mem} {d s : Nat} : vF (cpB M d s) d = vF M s := by
  funext t
  unfold vF
  simp only [cpS_f (M := M) (d := d) (s := s) (f := 2) (by decide), cpS_f (M := M) (d := d) (s := s) (f := 6) (by decide), cpS_f (M := M) (d := d) (s := s) (f := 10) (by decide), cpS_f (M := M) (d := d) (s := s) (f := 11) (by decide), cpS_in (M := M) (d := d) (s := s) (i := 1) (by decide) (by decide), cpS_in (M := M) (d := d) (s := s) (i := 2) (by decide) (by decide), cpS_in (M := M) (d := d) (s := s) (i := 3) (by decide) (by decide), cpS_in (M := M) (d := d) (s := s) (i := 4) (by decide) (by decide), cpS_in (M := M) (d := d) (s := s) (i := 5) (by decide) (by decide), cpS_in (M := M) (d := d) (s := s) (i := 6) (by decide) (by decide), cpS_in (M := M) (d := d) (s := s) (i := 7) (by decide) (by decide), cpS_in (M := M) (d := d) (s := s) (i := 8) (by decide) (by decide), cpS_in (M := M) (d := d) (s := s) (i := 11) (by decide) (by decide), cpS_in (M := M) (d := d) (s := s) (i := 12) (by decide) (by decide), cpS_in (M := M) (d := d) (s := s) (i := 13) (by decide) (by decide), cpS_in (M := M) (d := d) (s := s) (i := 14) (by decide) (by decide), cpS_in (M := M) (d := d) (s := s) (i := 16) (by decide) (by decide), cpS_in (M := M) (d := d) (s := s) (i := 17) (by decide) (by decide), cpS_in (M := M) (d := d) (s := s) (i := 18) (by decide) (by decide), cpS_in (M := M) (d := d) (s := s) (i := 19) (by decide) (by decide)]
/-! ===== the history ===== -/
/-- the j-th state that FogMap keeps, from the oldest on -/
def hF (M : Mem) (z j : Int) : Vw := vF M (26 + 20 * ((M 24 2 - z + j) % 5).toNat)
def pushH (H : Int → Vw) (z : Int) (v : Vw) : Int → Vw := fun j => if z < 5 then (if j = z then v else H j) else (if j = 4 then v else H (j + 1))
/-- FogMap's state, sight and history -/
def FS (M : Mem) (v : Vw) (z : Int) (H : Int → Vw) : Prop := vF M 1 = v ∧ SI v ∧ SG M v ∧ (0 ≤ M 24 2 ∧ M 24 2 ≤ 4) ∧ M 24 1 = z ∧ (0 ≤ z ∧ z ≤ 5) ∧ ∀ j, 0 ≤ j → j < z → hF M z j = H j ∧ SI (H j)
theorem keepM_no {M : Mem} {n z : Int} {a : Nat} (h : ¬ (26 + 20 * n.toNat ≤ a ∧ a < 26 + 20 * n.toNat + 20) ∧ a ≠ 24) : keepM M n z a = M a := by
  unfold keepM
  rw [mset_row h.2, mset_row h.2]; exact cpB_row h.1
theorem keepM_n {M : Mem} {n z : Int} : keepM M n z 24 2 = (n + 1) % 5 ∧ keepM M n z 24 1 = imin (z + 1) 5 := by
  unfold keepM
  refine ⟨?_, mset_at⟩
  rw [mset_ne (by omega)]; exact mset_at
theorem keep_slot {M : Mem} {n z : Int} (hn : 0 ≤ n ∧ n ≤ 4) : vF (keepM M n z) (26 + 20 * n.toNat) = vF M 1 := by
  have : vF (keepM M n z) (26 + 20 * n.toNat) = vF (cpB M (26 + 20 * n.toNat) 1) (26 + 20 * n.toNat) := vF_frame fun a h1 h2 => by
    unfold keepM; rw [mset_row (by omega), mset_row (by omega)]
  rw [this, cp_view]
theorem keep_other {M : Mem} {n z : Int} {m : Nat} (hn : 0 ≤ n ∧ n ≤ 4) (hm : m ≠ n.toNat) : vF (keepM M n z) (26 + 20 * m) = vF M (26 + 20 * m) := vF_frame fun a h1 h2 => keepM_no (by omega)
theorem imin5 {z : Int} (h : z ≤ 5) : imin (z + 1) 5 = if z < 5 then z + 1 else 5 := by unfold imin; split <;> split <;> omega
/-- an action: the state is kept, then changed, and the sight follows it -/
theorem FS.gen {M K : Mem} {v v' : Vw} {z : Int} {H : Int → Vw} (h : FS M v z H) (hK : ∀ a, 24 ≤ a → a < 126 → K a = keepM M (M 24 2) z a) (hv : vF K 1 = v') (hS : SI v') (hG : SG K v') : FS K v' (imin (z + 1) 5) (pushH H z v) := by
  obtain ⟨h1, h2, h3, h4, h5, h6, h7⟩ := h
  have e24 : K 24 = keepM M (M 24 2) z 24 := hK 24 (by omega) (by omega)
  have en : K 24 2 = (M 24 2 + 1) % 5 := by rw [e24]; exact keepM_n.1
  have ez : K 24 1 = imin (z + 1) 5 := by rw [e24]; exact keepM_n.2
  refine ⟨hv, hS, hG, by rw [en]; omega, ez, by rw [imin5 h6.2]; split <;> omega, fun j j1 j2 => ?_⟩
  have ev : ∀ m : Nat, m ≤ 4 → vF K (26 + 20 * m) = vF (keepM M (M 24 2) z) (26 + 20 * m) := fun m hm => vF_frame fun a a1 a2 => hK a (by omega) (by omega)
  unfold hF
  rw [ev _ (by omega), en]
  rw [imin5 h6.2] at j2 ⊢
  unfold hF at h7
  generalize M 24 2 = n at *
  by_cases hz : z < 5
  · rw [if_pos hz] at j2 ⊢
    unfold pushH
    rw [if_pos hz]
    by_cases e : j = z
    · subst e
      rw [if_pos rfl, show (((n + 1) % 5 - (j + 1) + j) % 5).toNat = n.toNat by omega, keep_slot h4, h1]
      exact ⟨rfl, h2⟩
    · rw [if_neg e, show (((n + 1) % 5 - (z + 1) + j) % 5).toNat = ((n - z + j) % 5).toNat by omega, keep_other h4 (by omega)]
      exact h7 j j1 (by omega)
  · rw [if_neg hz] at j2 ⊢
    unfold pushH
    rw [if_neg hz]
    by_cases e : j = 4
    · subst e
      rw [if_pos rfl, show (((n + 1) % 5 - 5 + 4) % 5).toNat = n.toNat by omega, keep_slot h4, h1]
      exact ⟨rfl, h2⟩
    · rw [if_neg e, show (((n + 1) % 5 - 5 + j) % 5).toNat = ((n - z + (j + 1)) % 5).toNat by omega, keep_other h4 (by omega)]
      exact h7 (j + 1) (by omega) (by omega)
theorem FS.act {M K : Mem} {v v' : Vw} {z : Int} {H : Int → Vw} (h : FS M v z H) (hK : ∀ a, 21 ≤ a → a < 126 → K a = keepM M (M 24 2) z a) (hv : vF K 1 = v') (hS : SI v') : FS (lookM K v') (lookV v') (imin (z + 1) 5) (pushH H z v) :=
  h.gen (fun a a1 a2 => (lookM_no (by omega)).trans (hK a (by omega) a2)) (look_view hv) hS.look SG.look
