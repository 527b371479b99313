/-! ===== the views behind FogMap's actions ===== -/
theorem VA.mk' {M : Mem} {v : Vw} (h0 : M 1 2 = v 0 0) (h1 : M 1 6 = v 0 1) (h2 : M 1 10 = v 0 2) (h3 : M 1 11 = v 0 3) (hz : ∀ j, j ≠ 0 → j ≠ 1 → j ≠ 2 → j ≠ 3 → v 0 j = 0) (r1 : gd 120 (M 2) = v 1) (r2 : gd 120 (M 3) = v 2) (r3 : gd (v 0 0) (M 4) = v 3) (r4 : gd (v 0 0) (M 5) = v 4) (r5 : gd (v 0 0) (M 6) = v 5) (r6 : gd (v 0 1) (M 7) = v 6) (r7 : gd (v 0 1) (M 8) = v 7) (r8 : gd (v 0 1) (M 9) = v 8) : VA M v := by
  intro t ht
  have : t = 0 ∨ t = 1 ∨ t = 2 ∨ t = 3 ∨ t = 4 ∨ t = 5 ∨ t = 6 ∨ t = 7 ∨ t = 8 := by omega
  rcases this with rfl | rfl | rfl | rfl | rfl | rfl | rfl | rfl | rfl
  · funext j
    show (if j = 0 then M 1 2 else if j = 1 then M 1 6 else if j = 2 then M 1 10 else if j = 3 then M 1 11 else 0) = v 0 j
    by_cases a : j = 0
    · rw [if_pos a, a]; exact h0
    by_cases b : j = 1
    · rw [if_neg a, if_pos b, b]; exact h1
    by_cases c : j = 2
    · rw [if_neg a, if_neg b, if_pos c, c]; exact h2
    by_cases d : j = 3
    · rw [if_neg a, if_neg b, if_neg c, if_pos d, d]; exact h3
    rw [if_neg a, if_neg b, if_neg c, if_neg d]; exact (hz j a b c d).symm
  · exact r1
  · exact r2
  · show gd (M 1 2) (M 4) = v 3; rw [h0]; exact r3
  · show gd (M 1 2) (M 5) = v 4; rw [h0]; exact r4
  · show gd (M 1 2) (M 6) = v 5; rw [h0]; exact r5
  · show gd (M 1 6) (M 7) = v 6; rw [h1]; exact r6
  · show gd (M 1 6) (M 8) = v 7; rw [h1]; exact r7
  · show gd (M 1 6) (M 9) = v 8; rw [h1]; exact r8
section VAI
variable {M : Mem} {v : Vw}
theorem VA.a1 (h : VA M v) : gd 120 (M 2) = v 1 := h 1 (by decide)
theorem VA.a2 (h : VA M v) : gd 120 (M 3) = v 2 := h 2 (by decide)
theorem VA.a3 (h : VA M v) : gd (v 0 0) (M 4) = v 3 := by rw [← rd_0_0 h]; exact h 3 (by decide)
theorem VA.a4 (h : VA M v) : gd (v 0 0) (M 5) = v 4 := by rw [← rd_0_0 h]; exact h 4 (by decide)
theorem VA.a5 (h : VA M v) : gd (v 0 0) (M 6) = v 5 := by rw [← rd_0_0 h]; exact h 5 (by decide)
theorem VA.a6 (h : VA M v) : gd (v 0 1) (M 7) = v 6 := by rw [← rd_0_1 h]; exact h 6 (by decide)
theorem VA.a7 (h : VA M v) : gd (v 0 1) (M 8) = v 7 := by rw [← rd_0_1 h]; exact h 7 (by decide)
theorem VA.a8 (h : VA M v) : gd (v 0 1) (M 9) = v 8 := by rw [← rd_0_1 h]; exact h 8 (by decide)
theorem VA.az (h : VA M v) : ∀ j, j ≠ 0 → j ≠ 1 → j ≠ 2 → j ≠ 3 → v 0 j = 0 := fun j a b c d => by
  rw [← h 0 (by decide)]
  show (if j = 0 then M 1 2 else if j = 1 then M 1 6 else if j = 2 then M 1 10 else if j = 3 then M 1 11 else 0) = 0
  rw [if_neg a, if_neg b, if_neg c, if_neg d]
end VAI
def Z17 (v : Vw) : Prop := ∀ t, 17 ≤ t → v t = fun _ => 0
theorem Z17.of {M : Mem} {b : Nat} {v : Vw} (h : vF M b = v) : Z17 v := by
  intro t ht
  rw [← h]
  obtain ⟨k, rfl⟩ : ∃ k, t = k + 17 := ⟨t - 17, by omega⟩
  rfl
theorem vF_all {M : Mem} {v : Vw} (hA : VA M v) (hM : VM M v) (h0 : Z17 v) : vF M 1 = v := by
  funext t
  by_cases h8 : t ≤ 8
  · exact hA t h8
  by_cases h16 : t ≤ 16
  · exact hM t (by omega) h16
  rw [h0 t (by omega)]
  obtain ⟨k, rfl⟩ : ∃ k, t = k + 17 := ⟨t - 17, by omega⟩
  rfl
theorem VA.keep {M : Mem} {v : Vw} {n z : Int} (h : VA M v) : VA (keepM M n z) v := h.frame fun a h1 h2 => keepM_no (by omega)
theorem VM.keep {M : Mem} {v : Vw} {n z : Int} (h : VM M v) : VM (keepM M n z) v := h.frame (fun a h1 h2 => keepM_no (by omega)) (fun _ _ _ => rfl)
theorem vF_set {M : Mem} {v : Vw} {t : Nat} {i x : Int} (hv : vF M 1 = v) (ht : 1 ≤ t ∧ t ≤ 8) (hi : 0 ≤ i ∧ i < (if t ≤ 2 then 120 else if t ≤ 5 then v 0 0 else v 0 1)) : vF (mset M (1 + t) i x) 1 = vset v t i x :=
  vF_all (VAset (VA.of hv) ht hi) ((VM.of hv).frame (fun a h1 h2 => mset_row (by omega)) (fun s h1 h2 => vset_ne (by omega))) (fun s hs => by rw [vset_ne (by omega)]; exact Z17.of hv s hs)
theorem gd_push {n x : Int} {f g : Int → Int} (h : gd n f = g) (h0 : 0 ≤ n) : gd (n + 1) (fun j => if j = n then x else f j) = fun j => if j = n then x else g j := by
  subst h
  funext j
  by_cases e : j = n
  · subst e; rw [gd_in (by omega), if_pos rfl, if_pos rfl]
  · rw [if_neg e]
    by_cases hj : 0 ≤ j ∧ j < n
    · rw [gd_in hj, gd_in (by omega), if_neg e]
    · rw [gd_out hj, gd_out (by omega)]
theorem gd_drop {n p : Int} {f g : Int → Int} (h : gd n f = g) (hp : 0 ≤ p ∧ p < n) : gd (n - 1) (fun j => if p ≤ j ∧ j < n - 1 then f (j + 1) else f j) = fun j => if p ≤ j then g (j + 1) else g j := by
  subst h
  funext j
  by_cases hj : 0 ≤ j ∧ j < n - 1
  · rw [gd_in hj]
    by_cases e : p ≤ j
    · rw [if_pos ⟨e, hj.2⟩, if_pos e, gd_in (by omega)]
    · rw [if_neg (fun q => e q.1), if_neg e, gd_in (by omega)]
  · rw [gd_out hj]
    by_cases e : p ≤ j
    · rw [if_pos e, gd_out (by omega)]
    · rw [if_neg e, gd_out (by omega)]
theorem gd_gen {f g : Int → Int} {h : Int → Int → Int} (e : gd 120 f = g) (h0 : ∀ j, ¬ (0 ≤ j ∧ j < 120) → h j 0 = 0) : gd 120 (fun j => h j (f j)) = fun j => h j (g j) := by
  subst e
  funext j
  by_cases hj : 0 ≤ j ∧ j < 120
  · rw [gd_in hj, gd_in hj]
  · rw [gd_out hj, gd_out hj, h0 j hj]
theorem vF_putS {K : Mem} {v : Vw} {a b c : Int} (hv : vF K 1 = v) (h0 : 0 ≤ v 0 0) : vF (mset (mset (mset (mset K 4 (v 0 0) a) 5 (v 0 0) b) 6 (v 0 0) c) 1 2 (v 0 0 + 1)) 1 = putSV v a b c := by
  have hA := VA.of hv
  have hn : ∀ r, r ≠ 1 → r ≠ 4 → r ≠ 5 → r ≠ 6 → mset (mset (mset (mset K 4 (v 0 0) a) 5 (v 0 0) b) 6 (v 0 0) c) 1 2 (v 0 0 + 1) r = K r := fun r r1 r4 r5 r6 => by rw [mset_row r1, mset_row r6, mset_row r5, mset_row r4]
  refine vF_all (VA.mk' ?_ ?_ ?_ ?_ ?_ ?_ ?_ ?_ ?_ ?_ ?_ ?_ ?_) ?_ ?_
  · rw [mset_at]; exact vset_at.symm
  · rw [mset_ne (by omega), mset_row (by omega), mset_row (by omega), mset_row (by omega)]; exact (rd_0_1 hA).trans rfl
  · rw [mset_ne (by omega), mset_row (by omega), mset_row (by omega), mset_row (by omega)]; exact (rd_0_2 hA).trans rfl
  · rw [mset_ne (by omega), mset_row (by omega), mset_row (by omega), mset_row (by omega)]; exact (rd_0_3 hA).trans rfl
  · intro j a b c d; exact (vset_no (v := vset (vset (vset v 3 (v 0 0) _) 4 (v 0 0) _) 5 (v 0 0) _) (t := 0) a).trans (hA.az j a b c d)
  · rw [hn 2 (by decide) (by decide) (by decide) (by decide)]; exact hA.a1
  · rw [hn 3 (by decide) (by decide) (by decide) (by decide)]; exact hA.a2
  · rw [mset_row (by decide), mset_row (by decide), mset_row (by decide), mset_fun]; exact gd_push hA.a3 h0
  · rw [mset_row (by decide), mset_row (by decide), mset_fun, mset_row (by decide)]; exact gd_push hA.a4 h0
  · rw [mset_row (by decide), mset_fun, mset_row (by decide), mset_row (by decide)]; exact gd_push hA.a5 h0
  · rw [hn 7 (by decide) (by decide) (by decide) (by decide)]; exact hA.a6
  · rw [hn 8 (by decide) (by decide) (by decide) (by decide)]; exact hA.a7
  · rw [hn 9 (by decide) (by decide) (by decide) (by decide)]; exact hA.a8
  · exact (VM.of hv).frame (fun r h1 h2 => hn r (by omega) (by omega) (by omega) (by omega)) (fun s h1 h2 => by unfold putSV; rw [vset_ne (by omega), vset_ne (by omega), vset_ne (by omega), vset_ne (by omega)])
  · intro s hs; unfold putSV; rw [vset_ne (by omega), vset_ne (by omega), vset_ne (by omega), vset_ne (by omega)]; exact Z17.of hv s hs
theorem vF_putL {K : Mem} {v : Vw} {a b c : Int} (hv : vF K 1 = v) (h0 : 0 ≤ v 0 1) : vF (mset (mset (mset (mset K 7 (v 0 1) a) 8 (v 0 1) b) 9 (v 0 1) c) 1 6 (v 0 1 + 1)) 1 = putLV v a b c := by
  have hA := VA.of hv
  have hn : ∀ r, r ≠ 1 → r ≠ 7 → r ≠ 8 → r ≠ 9 → mset (mset (mset (mset K 7 (v 0 1) a) 8 (v 0 1) b) 9 (v 0 1) c) 1 6 (v 0 1 + 1) r = K r := fun r r1 r4 r5 r6 => by rw [mset_row r1, mset_row r6, mset_row r5, mset_row r4]
  refine vF_all (VA.mk' ?_ ?_ ?_ ?_ ?_ ?_ ?_ ?_ ?_ ?_ ?_ ?_ ?_) ?_ ?_
  · rw [mset_ne (by omega), mset_row (by omega), mset_row (by omega), mset_row (by omega)]; exact (rd_0_0 hA).trans rfl
  · rw [mset_at]; exact vset_at.symm
  · rw [mset_ne (by omega), mset_row (by omega), mset_row (by omega), mset_row (by omega)]; exact (rd_0_2 hA).trans rfl
  · rw [mset_ne (by omega), mset_row (by omega), mset_row (by omega), mset_row (by omega)]; exact (rd_0_3 hA).trans rfl
  · intro j a b c d; exact (vset_no (v := vset (vset (vset v 6 (v 0 1) _) 7 (v 0 1) _) 8 (v 0 1) _) (t := 0) b).trans (hA.az j a b c d)
  · rw [hn 2 (by decide) (by decide) (by decide) (by decide)]; exact hA.a1
  · rw [hn 3 (by decide) (by decide) (by decide) (by decide)]; exact hA.a2
  · rw [hn 4 (by decide) (by decide) (by decide) (by decide)]; exact hA.a3
  · rw [hn 5 (by decide) (by decide) (by decide) (by decide)]; exact hA.a4
  · rw [hn 6 (by decide) (by decide) (by decide) (by decide)]; exact hA.a5
  · rw [mset_row (by decide), mset_row (by decide), mset_row (by decide), mset_fun]; exact gd_push hA.a6 h0
  · rw [mset_row (by decide), mset_row (by decide), mset_fun, mset_row (by decide)]; exact gd_push hA.a7 h0
  · rw [mset_row (by decide), mset_fun, mset_row (by decide), mset_row (by decide)]; exact gd_push hA.a8 h0
  · exact (VM.of hv).frame (fun r h1 h2 => hn r (by omega) (by omega) (by omega) (by omega)) (fun s h1 h2 => by unfold putLV; rw [vset_ne (by omega), vset_ne (by omega), vset_ne (by omega), vset_ne (by omega)])
  · intro s hs; unfold putLV; rw [vset_ne (by omega), vset_ne (by omega), vset_ne (by omega), vset_ne (by omega)]; exact Z17.of hv s hs
theorem Fgap_at {M K : Mem} {a : Nat} {p z : Int} (h : K a = M a) : mgen M (Fgap K a) p z a = fun j => if p ≤ j ∧ j < z then M a (j + 1) else M a j := by
  funext j
  unfold mgen Fgap Frow
  rw [h]
  simp
theorem drop3_rows {M : Mem} {a : Nat} {p z : Int} : (∀ b, b ≠ a → b ≠ a + 1 → b ≠ a + 2 → drop3 M a p z b = M b) ∧ ∀ b, b = a ∨ b = a + 1 ∨ b = a + 2 → drop3 M a p z b = fun j => if p ≤ j ∧ j < z - 1 then M b (j + 1) else M b j := by
  unfold drop3
  refine ⟨fun b b1 b2 b3 => by rw [Fgap_row b3, Fgap_row b2, Fgap_row b1], fun b hb => ?_⟩
  rcases hb with rfl | rfl | rfl
  · rw [Fgap_row (by omega), Fgap_row (by omega)]; exact Fgap_at rfl
  · rw [Fgap_row (by omega), Fgap_at rfl, Fgap_row (by omega)]
  · rw [Fgap_at rfl, Fgap_row (by omega), Fgap_row (by omega)]
theorem vF_dropS {K : Mem} {v : Vw} {p : Int} (hv : vF K 1 = v) (hp : 0 ≤ p ∧ p < v 0 0) : vF (mset (drop3 K 4 p (v 0 0)) 1 2 (v 0 0 - 1)) 1 = dropSV v p := by
  have hA := VA.of hv
  obtain ⟨hn0, hd⟩ := drop3_rows (M := K) (a := 4) (p := p) (z := v 0 0)
  have hn : ∀ r, r ≠ 1 → r ≠ 4 → r ≠ 5 → r ≠ 6 → mset (drop3 K 4 p (v 0 0)) 1 2 (v 0 0 - 1) r = K r := fun r r1 r4 r5 r6 => by rw [mset_row r1, hn0 r r4 r5 r6]
  have e0 : dropSV v p 0 0 = v 0 0 - 1 := vset_at
  have e : drop3 K 4 p (v 0 0) 1 = K 1 := hn0 1 (by decide) (by decide) (by decide)
  refine vF_all (VA.mk' ?_ ?_ ?_ ?_ ?_ ?_ ?_ ?_ ?_ ?_ ?_ ?_ ?_) ?_ ?_
  · rw [mset_at]; exact vset_at.symm
  · rw [mset_ne (by omega), e]; exact (rd_0_1 hA).trans rfl
  · rw [mset_ne (by omega), e]; exact (rd_0_2 hA).trans rfl
  · rw [mset_ne (by omega), e]; exact (rd_0_3 hA).trans rfl
  · intro j a b c d; exact (vset_no (v := dropV (dropV (dropV v 3 p) 4 p) 5 p) (t := 0) a).trans (hA.az j a b c d)
  · rw [hn 2 (by decide) (by decide) (by decide) (by decide)]; exact hA.a1
  · rw [hn 3 (by decide) (by decide) (by decide) (by decide)]; exact hA.a2
  · rw [e0, mset_row (by decide), hd 4 (by decide)]; exact gd_drop hA.a3 hp
  · rw [e0, mset_row (by decide), hd 5 (by decide)]; exact gd_drop hA.a4 hp
  · rw [e0, mset_row (by decide), hd 6 (by decide)]; exact gd_drop hA.a5 hp
  · rw [hn 7 (by decide) (by decide) (by decide) (by decide)]; exact hA.a6
  · rw [hn 8 (by decide) (by decide) (by decide) (by decide)]; exact hA.a7
  · rw [hn 9 (by decide) (by decide) (by decide) (by decide)]; exact hA.a8
  · exact (VM.of hv).frame (fun r h1 h2 => hn r (by omega) (by omega) (by omega) (by omega)) (fun s h1 h2 => by unfold dropSV dropV; rw [vset_ne (by omega), vrow_ne (by omega), vrow_ne (by omega), vrow_ne (by omega)])
  · intro s hs; unfold dropSV dropV; rw [vset_ne (by omega), vrow_ne (by omega), vrow_ne (by omega), vrow_ne (by omega)]; exact Z17.of hv s hs
theorem vF_dropL {K : Mem} {v : Vw} {p : Int} (hv : vF K 1 = v) (hp : 0 ≤ p ∧ p < v 0 1) : vF (mset (drop3 K 7 p (v 0 1)) 1 6 (v 0 1 - 1)) 1 = dropLV v p := by
  have hA := VA.of hv
  obtain ⟨hn0, hd⟩ := drop3_rows (M := K) (a := 7) (p := p) (z := v 0 1)
  have hn : ∀ r, r ≠ 1 → r ≠ 7 → r ≠ 8 → r ≠ 9 → mset (drop3 K 7 p (v 0 1)) 1 6 (v 0 1 - 1) r = K r := fun r r1 r4 r5 r6 => by rw [mset_row r1, hn0 r r4 r5 r6]
  have e0 : dropLV v p 0 1 = v 0 1 - 1 := vset_at
  have e : drop3 K 7 p (v 0 1) 1 = K 1 := hn0 1 (by decide) (by decide) (by decide)
  refine vF_all (VA.mk' ?_ ?_ ?_ ?_ ?_ ?_ ?_ ?_ ?_ ?_ ?_ ?_ ?_) ?_ ?_
  · rw [mset_ne (by omega), e]; exact (rd_0_0 hA).trans rfl
  · rw [mset_at]; exact vset_at.symm
  · rw [mset_ne (by omega), e]; exact (rd_0_2 hA).trans rfl
  · rw [mset_ne (by omega), e]; exact (rd_0_3 hA).trans rfl
  · intro j a b c d; exact (vset_no (v := dropV (dropV (dropV v 6 p) 7 p) 8 p) (t := 0) b).trans (hA.az j a b c d)
  · rw [hn 2 (by decide) (by decide) (by decide) (by decide)]; exact hA.a1
  · rw [hn 3 (by decide) (by decide) (by decide) (by decide)]; exact hA.a2
  · rw [hn 4 (by decide) (by decide) (by decide) (by decide)]; exact hA.a3
  · rw [hn 5 (by decide) (by decide) (by decide) (by decide)]; exact hA.a4
  · rw [hn 6 (by decide) (by decide) (by decide) (by decide)]; exact hA.a5
  · rw [e0, mset_row (by decide), hd 7 (by decide)]; exact gd_drop hA.a6 hp
  · rw [e0, mset_row (by decide), hd 8 (by decide)]; exact gd_drop hA.a7 hp
  · rw [e0, mset_row (by decide), hd 9 (by decide)]; exact gd_drop hA.a8 hp
  · exact (VM.of hv).frame (fun r h1 h2 => hn r (by omega) (by omega) (by omega) (by omega)) (fun s h1 h2 => by unfold dropLV dropV; rw [vset_ne (by omega), vrow_ne (by omega), vrow_ne (by omega), vrow_ne (by omega)])
  · intro s hs; unfold dropLV dropV; rw [vset_ne (by omega), vrow_ne (by omega), vrow_ne (by omega), vrow_ne (by omega)]; exact Z17.of hv s hs
theorem Frow_at {M : Mem} {a : Nat} {f g : Int → Int} (h : ∀ j, ¬ (0 ≤ j ∧ j < 120) → f j = 0) (e : f = g) : gd 120 (mgen M (Frow a f) 0 120 a) = g := by
  subst e
  funext j
  by_cases hj : 0 ≤ j ∧ j < 120
  · rw [gd_in hj]; exact mgen_in hj (if_pos rfl)
  · rw [gd_out hj, h j hj]
theorem VM.out {M : Mem} {v : Vw} (h : VM M v) {t : Nat} (ht : 9 ≤ t ∧ t ≤ 16) {j : Int} (hj : ¬ (0 ≤ j ∧ j < 120)) : v t j = 0 := by
  rw [← h t ht.1 ht.2]
  have : t = 9 ∨ t = 10 ∨ t = 11 ∨ t = 12 ∨ t = 13 ∨ t = 14 ∨ t = 15 ∨ t = 16 := by omega
  rcases this with rfl | rfl | rfl | rfl | rfl | rfl | rfl | rfl <;> exact gd_out hj
/-- rows 9 and 13 written anew -/
theorem VM.two {M M' : Mem} {v v' : Vw} (h : VM M v) (hf : ∀ a, 12 ≤ a → a ≤ 20 → a ≠ 12 → a ≠ 17 → M' a = M a) (h9 : gd 120 (M' 12) = v' 9) (h13 : gd 120 (M' 17) = v' 13) (hv : ∀ t, 9 ≤ t → t ≤ 16 → t ≠ 9 → t ≠ 13 → v' t = v t) : VM M' v' := by
  intro t h1 h2
  by_cases e9 : t = 9
  · subst e9; exact h9
  by_cases e13 : t = 13
  · subst e13; exact h13
  rw [hv t h1 h2 e9 e13, ← h t h1 h2]
  have : t = 10 ∨ t = 11 ∨ t = 12 ∨ t = 14 ∨ t = 15 ∨ t = 16 := by omega
  rcases this with rfl | rfl | rfl | rfl | rfl | rfl <;> simp only [vF, hf (1 + 12) (by omega) (by omega) (by omega) (by omega), hf (1 + 13) (by omega) (by omega) (by omega) (by omega), hf (1 + 14) (by omega) (by omega) (by omega) (by omega), hf (1 + 17) (by omega) (by omega) (by omega) (by omega), hf (1 + 18) (by omega) (by omega) (by omega) (by omega), hf (1 + 19) (by omega) (by omega) (by omega) (by omega)]
theorem vF_lim {K : Mem} {v : Vw} {x : Int} (hv : vF K 1 = v) (hx : 1 ≤ x) : vF (limM (mset K 1 10 x) v x) 1 = limV v x := by
  have hA : VA (mset K 1 10 x) (vset v 0 2 x) := VAscal (VA.of hv) (Or.inl ⟨rfl, rfl⟩)
  have hM := VM.of hv
  have hn : ∀ r, r ≠ 12 → r ≠ 17 → limM (mset K 1 10 x) v x r = mset K 1 10 x r := fun r r1 r2 => by unfold limM; rw [mgen_row (Frow_no r2), mgen_row (Frow_no r1)]
  have i0 : imin 0 x = 0 := by unfold imin; split <;> omega
  refine vF_all (hA.more (fun a a1 a2 => hn a (by omega) (by omega)) (fun t ht => ?_)) (hM.two (fun a a1 a2 a3 a4 => (hn a a3 a4).trans (mset_row (by omega))) ?_ ?_ (fun t a1 a2 a3 a4 => ?_)) (fun t ht => ?_)
  · by_cases e : t = 0
    · subst e; rfl
    · unfold limV; rw [if_neg e, if_neg (by omega), vset_ne e]
  · unfold limM; rw [mgen_row (Frow_no (by decide))]; exact Frow_at (fun j hj => by rw [hM.out (by decide) hj]; exact i0) rfl
  · unfold limM; exact Frow_at (fun j hj => by rw [hM.out (by decide) hj]; exact i0) rfl
  · unfold limV; rw [if_neg (by omega), if_neg (by omega)]
  · unfold limV; rw [if_neg (by omega), if_neg (by omega)]; exact Z17.of hv t ht
theorem vF_turn {M : Mem} {v : Vw} (hv : vF M 1 = v) : vF (turnM M v) 1 = fadeV (turnV v) := by
  have hM := VM.of hv
  have hn : ∀ r, r ≠ 12 → r ≠ 17 → turnM M v r = mset (burnM M v) 1 11 (v 0 3 + 1) r := fun r r1 r2 => by unfold turnM fadeM; rw [mgen_row (Frow_no r2), mgen_row (Frow_no r1)]
  have hb : ∀ r, 12 ≤ r → mset (burnM M v) 1 11 (v 0 3 + 1) r = M r := fun r h => by rw [mset_row (by omega)]; exact mgen_row (Frow_no (by omega))
  have ht : ∀ t, 9 ≤ t → turnV v t = v t := fun t h => by unfold turnV burnV; rw [vset_ne (by omega), vrow_ne (by omega)]
  refine vF_all ((VA.of hv).turn.more (fun _ _ _ => rfl) (fun t ht => ?_)) (hM.two (fun a a1 a2 a3 a4 => (hn a a3 a4).trans (hb a (by omega))) ?_ ?_ (fun t a1 a2 a3 a4 => ?_)) (fun t h => ?_)
  · unfold fadeV; rw [if_neg (by omega)]
  · unfold turnM fadeM; rw [mgen_row (Frow_no (by decide))]; exact Frow_at (fun j hj => by rw [hM.out (by decide) hj]; rfl) rfl
  · unfold turnM fadeM; exact Frow_at (fun j hj => by rw [hM.out (by decide) hj]; rfl) rfl
  · unfold fadeV; rw [if_neg (by omega)]; exact ht t a1
  · unfold fadeV; rw [if_neg (by omega), ht t (by omega)]; exact Z17.of hv t h
theorem Same8.fade {v : Vw} : Same8 v (fadeV v) := fun t ht => by unfold fadeV; rw [if_neg (by omega)]
theorem pt_view {M : Mem} {v : Vw} (hv : vF M 1 = v) : vF (ptM M v) 1 = passV v := by
  unfold ptM passV
  split
  · rw [lookM_congr Same8.fade]; exact look_view (vF_turn hv)
  · rw [remM_congr Same8.fade]; exact rem_view (vF_turn hv)
theorem SG.pt {M : Mem} {v : Vw} (hv : vF M 1 = v) (hS : SI v) (hG : SG M v) : SG (ptM M v) (passV v) := by
  unfold ptM passV
  split
  · rw [lookM_congr Same8.fade]; exact SG.look
  · rename_i h
    exact SG.congr (fun t ht => (Same8.fade t ht).trans (lookV_same t ht)) (SG.rem (SGx.turn hG (outV_0 hS (VA.of hv).V0 h)))
theorem ptM_no {M : Mem} {v : Vw} {a : Nat} (h : 24 ≤ a) : ptM M v a = M a := by
  have e : turnM M v a = M a := by
    unfold turnM fadeM burnM
    rw [mgen_row (Frow_no (by omega)), mgen_row (Frow_no (by omega)), mset_row (by omega), mgen_row (Frow_no (by omega))]
  unfold ptM
  split
  · exact (lookM_no (by omega)).trans e
  · exact (remM_no (by omega)).trans e
/-! ===== what FogMap's cells hold ===== -/
def FT (M : Mem) (tl : Int) (T : Int → Int) : Prop := M 126 1 = tl ∧ (0 ≤ tl ∧ tl ≤ 120) ∧ (∀ i, 0 ≤ i ∧ i < tl → M 127 i = T i) ∧ ∀ i, 0 ≤ T i ∧ T i ≤ 255
def RF (M : Mem) (s : AbS) : Prop := FS M s.1 s.2.1 s.2.2.1 ∧ FT M s.2.2.2.1 s.2.2.2.2
def OUT (M : Mem) (o : Int × AbS) : Option AV → Mem → Prop := fun r M' => r = some (.inl o.1) ∧ RF M' o.2 ∧ ∀ a, 132 ≤ a → M' a = M a
section RFS
variable {M M' K : Mem} {v v' : Vw} {z tl : Int} {H : Int → Vw} {T : Int → Int} {s : AbS}
theorem FT.frame (h : FT M tl T) (h1 : M' 126 = M 126) (h2 : M' 127 = M 127) : FT M' tl T := by
  unfold FT; rw [h1, h2]; exact h
theorem FS.frame (h : FS M v z H) (hf : ∀ a, a ≤ 125 → M' a = M a) : FS M' v z H := by
  obtain ⟨h1, h2, h3, h4, h5, h6, h7⟩ := h
  have e24 := hf 24 (by omega)
  refine ⟨(vF_frame fun a _ _ => hf a (by omega)).trans h1, h2, h3.frame (hf 22 (by omega)) (hf 23 (by omega)), by rw [e24]; exact h4, by rw [e24]; exact h5, h6, fun j a b => ?_⟩
  rw [show hF M' z j = hF M z j from by unfold hF; rw [e24]; exact vF_frame fun a _ _ => hf a (by omega)]
  exact h7 j a b
theorem RF.frame (h : RF M s) (hf : ∀ a, a ≤ 127 → M' a = M a) : RF M' s := ⟨h.1.frame (fun a ha => hf a (by omega)), h.2.frame (hf 126 (by omega)) (hf 127 (by omega))⟩
theorem keepM_hi {n z : Int} (hn : 0 ≤ n ∧ n ≤ 4) {a : Nat} (h : 126 ≤ a) : keepM M n z a = M a := keepM_no (by omega)
theorem RF.act (h : RF M (v, z, H, tl, T)) (hK : ∀ a, 21 ≤ a → K a = keepM M (M 24 2) z a) (hv : vF K 1 = v') (hS : SI v') : RF (lookM K v') (actS (v, z, H, tl, T) v') ∧ ∀ a, 132 ≤ a → lookM K v' a = M a := by
  have hh : ∀ a, 126 ≤ a → lookM K v' a = M a := fun a ha => (lookM_no (by omega)).trans ((hK a (by omega)).trans (keepM_hi h.1.2.2.2.1 ha))
  exact ⟨⟨h.1.act (fun a a1 _ => hK a a1) hv hS, h.2.frame (hh 126 (by omega)) (hh 127 (by omega))⟩, fun a ha => hh a (by omega)⟩
theorem FS.pt (h : FS M v z H) : FS (ptM M v) (passV v) z H := by
  obtain ⟨h1, h2, h3, h4, h5, h6, h7⟩ := h
  refine ⟨pt_view h1, h2.pass, SG.pt h1 h2 h3, by rw [ptM_no (by omega)]; exact h4, by rw [ptM_no (by omega)]; exact h5, h6, fun j a b => ?_⟩
  rw [show hF (ptM M v) z j = hF M z j from by unfold hF; rw [ptM_no (a := 24) (by omega)]; exact vF_frame fun a _ _ => ptM_no (by omega)]
  exact h7 j a b
theorem RF.pt (h : RF M (v, z, H, tl, T)) : RF (ptM M v) (passV v, z, H, tl, T) := ⟨h.1.pt, h.2.frame (ptM_no (by omega)) (ptM_no (by omega))⟩
theorem RF.keep (h : RF M (v, z, H, tl, T)) : RF (keepM M (M 24 2) z) (v, imin (z + 1) 5, pushH H z v, tl, T) := by
  refine ⟨h.1.gen (fun _ _ _ => rfl) ?_ h.1.2.1 (h.1.2.2.1.frame (keepM_no (by omega)) (keepM_no (by omega))), h.2.frame (keepM_hi h.1.2.2.2.1 (by omega)) (keepM_hi h.1.2.2.2.1 (by omega))⟩
  rw [vF_frame fun a _ _ => keepM_no (by omega)]; exact h.1.1
theorem RF.kV (h : RF M (v, z, H, tl, T)) : vF (keepM M (M 24 2) z) 1 = v := (vF_frame fun a _ _ => keepM_no (by omega)).trans h.1.1
theorem RF.put {x : Int} (h : RF M (v, z, H, tl, T)) (ht : tl < 120) (hx : 0 ≤ x ∧ x ≤ 255) : RF (mset (mset M 127 tl x) 126 1 (tl + 1)) (v, z, H, tl + 1, fun j => if j = tl then x else T j) ∧ ∀ a, 132 ≤ a → mset (mset M 127 tl x) 126 1 (tl + 1) a = M a := by
  obtain ⟨hF, hT1, hT2, hT3, hT4⟩ := h
  replace hT2 : 0 ≤ tl ∧ tl ≤ 120 := hT2
  refine ⟨⟨hF.frame (fun a ha => by rw [mset_row (by omega), mset_row (by omega)]), mset_at, ⟨by show 0 ≤ tl + 1; omega, by show tl + 1 ≤ 120; omega⟩, fun i hi => ?_, fun i => ?_⟩, fun a ha => by rw [mset_row (by omega), mset_row (by omega)]⟩
  · replace hi : 0 ≤ i ∧ i < tl + 1 := hi
    rw [mset_row (by decide), mset_fun]
    show (if i = tl then x else M 127 i) = if i = tl then x else T i
    by_cases e : i = tl
    · rw [if_pos e, if_pos e]
    · rw [if_neg e, if_neg e]; exact hT3 i ⟨hi.1, by show i < tl; omega⟩
  · show 0 ≤ (if i = tl then x else T i) ∧ (if i = tl then x else T i) ≤ 255
    split
    · exact hx
    · exact hT4 i
theorem RF.clear (h : RF M (v, z, H, tl, T)) : RF (mset M 126 1 0) (v, z, H, 0, T) ∧ ∀ a, 132 ≤ a → mset M 126 1 0 a = M a := by
  obtain ⟨hF, hT1, hT2, hT3, hT4⟩ := h
  exact ⟨⟨hF.frame (fun a ha => mset_row (by omega)), mset_at, ⟨Int.le_refl _, by show (0 : Int) ≤ 120; decide⟩, fun i hi => by replace hi : 0 ≤ i ∧ i < 0 := hi; omega, hT4⟩, fun a ha => mset_row (by omega)⟩
theorem outN_step {n k : Int} (h : k < n) : outN (n - k).toNat v = outV v + outN (n - (k + 1)).toNat (passV v) := by
  rw [show (n - k).toNat = (n - (k + 1)).toNat + 1 by omega]; rfl
theorem passN_step {n k : Int} (h : k < n) : passN (n - k).toNat v = passN (n - (k + 1)).toNat (passV v) := by
  rw [show (n - k).toNat = (n - (k + 1)).toNat + 1 by omega]; rfl
theorem rest_view (h : RF M (v, z, H, tl, T)) (hz : 1 ≤ z) : vF (restM M (M 24 2) z) 1 = H (z - 1) ∧ SI (H (z - 1)) := by
  obtain ⟨⟨h1, h2, h3, h4, h5, h6, h7⟩, -⟩ := h
  replace h6 : 0 ≤ z ∧ z ≤ 5 := h6
  replace h7 : ∀ j, 0 ≤ j → j < z → hF M z j = H j ∧ SI (H j) := h7
  have q := h7 (z - 1) (by omega) (by omega)
  refine ⟨?_, q.2⟩
  rw [← q.1]
  unfold restM hF
  rw [cp_view, show ((M 24 2 - z + (z - 1)) % 5).toNat = ((M 24 2 + 4) % 5).toNat from by omega]
  exact vF_frame fun a _ _ => by rw [mset_row (by omega), mset_row (by omega)]
theorem restM_no {n : Int} {a : Nat} (h : ¬ (1 ≤ a ∧ a < 21) ∧ a ≠ 24) : restM M n z a = M a := by
  unfold restM
  rw [cpB_row (by omega), mset_row h.2, mset_row h.2]
theorem RF.undo (h : RF M (v, z, H, tl, T)) (hz : 1 ≤ z) : RF (mgen (restM M (M 24 2) z) (Fref (H (z - 1))) 0 120) (H (z - 1), z - 1, H, tl, T) ∧ ∀ a, 132 ≤ a → mgen (restM M (M 24 2) z) (Fref (H (z - 1))) 0 120 a = M a := by
  have hv := rest_view h hz
  have hno : ∀ a, a ≠ 22 → a ≠ 23 → mgen (restM M (M 24 2) z) (Fref (H (z - 1))) 0 120 a = restM M (M 24 2) z a := fun a a1 a2 => mgen_row (Fref_lo ⟨a1, a2⟩)
  have hhi : ∀ a, 25 ≤ a → mgen (restM M (M 24 2) z) (Fref (H (z - 1))) 0 120 a = M a := fun a ha => (hno a (by omega) (by omega)).trans (restM_no (by omega))
  obtain ⟨⟨h1, h2, h3, h4, h5, h6, h7⟩, hT⟩ := h
  replace h6 : 0 ≤ z ∧ z ≤ 5 := h6
  replace h7 : ∀ j, 0 ≤ j → j < z → hF M z j = H j ∧ SI (H j) := h7
  have e24 : mgen (restM M (M 24 2) z) (Fref (H (z - 1))) 0 120 24 = restM M (M 24 2) z 24 := hno 24 (by decide) (by decide)
  have en : restM M (M 24 2) z 24 2 = (M 24 2 + 4) % 5 := by unfold restM; rw [cpB_row (by omega), mset_ne (by omega), mset_at]
  have ez : restM M (M 24 2) z 24 1 = z - 1 := by unfold restM; rw [cpB_row (by omega), mset_at]
  refine ⟨⟨⟨(vF_frame fun a _ _ => hno a (by omega) (by omega)).trans hv.1, hv.2, SG.ref, by rw [e24, en]; omega, by rw [e24]; exact ez, ⟨by show 0 ≤ z - 1; omega, by show z - 1 ≤ 5; have := h6.2; omega⟩, fun j a b => ?_⟩, hT.frame (hhi 126 (by omega)) (hhi 127 (by omega))⟩, fun a ha => hhi a (by omega)⟩
  have b2 : j < z - 1 := b
  have q := h7 j a (by omega)
  refine ⟨Eq.trans ?_ q.1, q.2⟩
  show vF _ (26 + 20 * ((mgen (restM M (M 24 2) z) (Fref (H (z - 1))) 0 120 24 2 - (z - 1) + j) % 5).toNat) = vF M (26 + 20 * ((M 24 2 - z + j) % 5).toNat)
  rw [e24, en, show (((M 24 2 + 4) % 5 - (z - 1) + j) % 5).toNat = ((M 24 2 - z + j) % 5).toNat from by omega]
  exact vF_frame fun a _ _ => hhi a (by omega)
end RFS
