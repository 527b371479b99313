/-! ===== FogMap.load ===== -/
theorem rdT_ind {T : Int → Int} {v : Vw} {n : Int} (Pg : (Int → Int) → Prop) (hs : ∀ g c r i, alw v (T i) c r → 0 ≤ c → 0 ≤ r → r < 10 → Pg g → Pg (fun j => if j = r * 12 + c then tval (T i) else g j)) : ∀ (f : Nat) (i c r : Int) (g : Int → Int), 0 ≤ c → 0 ≤ r → Pg g → Pg (rdT T v n f i c r g).2
  | 0, _, _, _, _, _, _, q => q
  | f + 1, i, c, r, g, hc, hr, q => by
    unfold rdT
    by_cases h1 : T i = 32
    · rw [if_pos h1]; exact rdT_ind Pg hs f _ _ _ _ hc hr q
    rw [if_neg h1]
    by_cases h2 : 10 ≤ r
    · rw [if_pos h2]; exact q
    rw [if_neg h2]
    by_cases h3 : T i = 59
    · rw [if_pos h3]; exact rdT_ind Pg hs f _ _ _ _ (Int.le_refl _) (by omega) q
    rw [if_neg h3]
    by_cases h4 : alw v (T i) c r
    · rw [if_pos h4]; exact rdT_ind Pg hs f _ _ _ _ (by omega) hr (hs g c r i h4 hc hr (by omega) q)
    · rw [if_neg h4]; exact q
theorem rdT_res {T : Int → Int} {v : Vw} {n : Int} : ∀ (f : Nat) (i c r : Int) (g : Int → Int), 0 ≤ i → i + f = n → 0 ≤ r → r ≤ 10 → (0 ≤ (rdT T v n f i c r g).1 ∧ (rdT T v n f i c r g).1 ≤ 10) ∨ (-1000 - n ≤ (rdT T v n f i c r g).1 ∧ (rdT T v n f i c r g).1 ≤ -1000)
  | 0, i, c, r, g, hi, hn, h1, h2 => by
    show (0 ≤ (if 0 < c then -1000 - n else r) ∧ (if 0 < c then -1000 - n else r) ≤ 10) ∨ (-1000 - n ≤ (if 0 < c then -1000 - n else r) ∧ (if 0 < c then -1000 - n else r) ≤ -1000)
    split <;> omega
  | f + 1, i, c, r, g, hi, hn, hr, hr2 => by
    unfold rdT
    by_cases h1 : T i = 32
    · rw [if_pos h1]; exact rdT_res f _ _ _ _ (by omega) (by omega) hr hr2
    rw [if_neg h1]
    by_cases h2 : 10 ≤ r
    · rw [if_pos h2]; exact Or.inr ⟨by show _ ≤ -1000 - i; omega, by show -1000 - i ≤ _; omega⟩
    rw [if_neg h2]
    by_cases h3 : T i = 59
    · rw [if_pos h3]; exact rdT_res f _ _ _ _ (by omega) (by omega) (by omega) (by omega)
    rw [if_neg h3]
    by_cases h4 : alw v (T i) c r
    · rw [if_pos h4]; exact rdT_res f _ _ _ _ (by omega) (by omega) hr hr2
    · rw [if_neg h4]; exact Or.inr ⟨by show _ ≤ -1000 - i; omega, by show -1000 - i ≤ _; omega⟩
theorem rdT_rel {T : Int → Int} {v : Vw} {n : Int} : ∀ (f : Nat) (i c r : Int) (g g' : Int → Int), (∀ j, 0 ≤ j → j < 120 → g j = g' j) → (rdT T v n f i c r g).1 = (rdT T v n f i c r g').1 ∧ ∀ j, 0 ≤ j → j < 120 → (rdT T v n f i c r g).2 j = (rdT T v n f i c r g').2 j
  | 0, _, _, _, _, _, q => ⟨rfl, q⟩
  | f + 1, i, c, r, g, g', q => by
    unfold rdT
    by_cases h1 : T i = 32
    · rw [if_pos h1, if_pos h1]; exact rdT_rel f _ _ _ _ _ q
    rw [if_neg h1, if_neg h1]
    by_cases h2 : 10 ≤ r
    · rw [if_pos h2, if_pos h2]; exact ⟨rfl, q⟩
    rw [if_neg h2, if_neg h2]
    by_cases h3 : T i = 59
    · rw [if_pos h3, if_pos h3]; exact rdT_rel f _ _ _ _ _ q
    rw [if_neg h3, if_neg h3]
    by_cases h4 : alw v (T i) c r
    · rw [if_pos h4, if_pos h4]
      refine rdT_rel f _ _ _ _ _ fun j a b => ?_
      show (if j = r * 12 + c then tval (T i) else g j) = if j = r * 12 + c then tval (T i) else g' j
      rw [q j a b]
    · rw [if_neg h4, if_neg h4]; exact ⟨rfl, q⟩
/-- what a text can tell -/
def told (v : Vw) (g : Int → Int) : Prop := (∀ j, -1 ≤ g j ∧ g j ≤ 10) ∧ (∀ k, 0 ≤ k → k < v 0 0 → g (v 4 k) ≠ 10) ∧ ∀ j, ¬ (0 ≤ j ∧ j < 120) → g j = -1
theorem told.step {v : Vw} (hS : SI v) {T : Int → Int} (g : Int → Int) (c r i : Int) (ha : alw v (T i) c r) (hc : 0 ≤ c) (hr : 0 ≤ r) (hr2 : r < 10) (h : told v g) : told v (fun j => if j = r * 12 + c then tval (T i) else g j) := by
  obtain ⟨h1, h2, h3⟩ := h
  obtain ⟨a1, a2⟩ := ha
  refine ⟨fun j => ?_, fun k k1 k2 => ?_, fun j hj => ?_⟩
  · show -1 ≤ (if j = r * 12 + c then tval (T i) else g j) ∧ (if j = r * 12 + c then tval (T i) else g j) ≤ 10
    split
    · unfold tval; split <;> omega
    · exact h1 j
  · show (if v 4 k = r * 12 + c then tval (T i) else g (v 4 k)) ≠ 10
    by_cases e : v 4 k = r * 12 + c
    · rw [if_pos e]
      rcases a2 with ⟨-, q⟩ | ⟨q1, q2⟩
      · exact absurd e ((sIn_none hS).mp q k k1 k2)
      · unfold tval; rw [if_neg q1]; omega
    · rw [if_neg e]; exact h2 k k1 k2
  · show (if j = r * 12 + c then tval (T i) else g j) = -1
    rw [if_neg (by omega)]; exact h3 j hj
theorem told.start {v : Vw} : told v (fun _ => -1) := ⟨fun _ => ⟨by show (-1 : Int) ≤ -1; decide, by show (-1 : Int) ≤ 10; decide⟩, fun _ _ _ => by show (-1 : Int) ≠ 10; decide, fun _ _ => rfl⟩
theorem rdS_told {s : AbS} (hS : SI s.1) : told s.1 (rdS s).2 := rdT_ind (told s.1) (told.step hS) _ _ _ _ _ (Int.le_refl _) (Int.le_refl _) told.start
theorem rdS_res {s : AbS} (h : 0 ≤ s.2.2.2.1) : (0 ≤ (rdS s).1 ∧ (rdS s).1 ≤ 10) ∨ (-1000 - s.2.2.2.1 ≤ (rdS s).1 ∧ (rdS s).1 ≤ -1000) := rdT_res _ _ _ _ _ (Int.le_refl _) (by omega) (Int.le_refl _) (by decide)
noncomputable def rdG (M : Mem) (s : AbS) : Int → Int := (rdT s.2.2.2.2 s.1 s.2.2.2.1 s.2.2.2.1.toNat 0 0 0 (fun j => if 0 ≤ j ∧ j < 120 then -1 else M 128 j)).2
theorem rdG_eq {M : Mem} {s : AbS} : ∀ j, 0 ≤ j → j < 120 → rdG M s j = (rdS s).2 j := (rdT_rel _ _ _ _ _ _ (fun j a b => if_pos ⟨a, b⟩)).2
theorem c_read2 (M : Mem) (v : Vw) (z : Int) (H : Int → Vw) (tl : Int) (T : Int → Int) (hR : RF M (v, z, H, tl, T)) : CX mX4_read 2 [.inr (some 126), .inr (some 1)] M (some (.inl (rdS (v, z, H, tl, T)).1)) (mrow M 128 (rdG M (v, z, H, tl, T))) := by
  have h := c_read M v (VA.of hR.1.1) hR.1.2.1 T tl hR.2.1 hR.2.2.1 hR.2.2.2.1 hR.2.2.2.2
  have e : (rdT T v tl tl.toNat 0 0 0 (fun j => if 0 ≤ j ∧ j < 120 then -1 else M 128 j)).1 = (rdS (v, z, H, tl, T)).1 := (rdT_rel _ _ _ _ _ _ (fun j a b => if_pos ⟨a, b⟩)).1
  rw [e] at h
  exact h
theorem mgen_tell {K : Mem} {g : Int → Int} {j : Int} (hj : 0 ≤ j ∧ j < 120) : mgen K (Ftell g) 0 120 2 j = (if g j = 10 then K 2 j else if g j = -1 then K 2 j else g j) ∧ mgen K (Ftell g) 0 120 3 j = (if g j = 10 then 1 else if g j = -1 then K 3 j else 0) := by
  unfold mgen Ftell
  rw [if_pos hj, if_pos hj]
  by_cases a : g j = 10
  · simp [a]
  · by_cases b : g j = -1 <;> simp [a, b]
theorem vF_tell {K : Mem} {v : Vw} {g g' : Int → Int} (hv : vF K 1 = v) (hg : ∀ j, 0 ≤ j → j < 120 → g j = g' j) (ho : ∀ j, ¬ (0 ≤ j ∧ j < 120) → g' j = -1) : vF (mset (mgen K (Ftell g) 0 120) 126 1 0) 1 = tellV g' v := by
  have hA := VA.of hv
  have hn : ∀ r, r ≠ 126 → r ≠ 2 → r ≠ 3 → mset (mgen K (Ftell g) 0 120) 126 1 0 r = K r := fun r a b c => by rw [mset_row a]; exact mgen_row (Ftell_no ⟨b, c⟩)
  have h1 := hn 1 (by decide) (by decide) (by decide)
  have hs : ∀ t, t ≠ 1 → t ≠ 2 → tellV g' v t = v t := fun t a b => by unfold tellV; rw [if_neg a, if_neg b]
  refine vF_all (VA.mk' ?_ ?_ ?_ ?_ ?_ ?_ ?_ ?_ ?_ ?_ ?_ ?_ ?_) ?_ ?_
  · rw [h1]; exact (rd_0_0 hA).trans rfl
  · rw [h1]; exact (rd_0_1 hA).trans rfl
  · rw [h1]; exact (rd_0_2 hA).trans rfl
  · rw [h1]; exact (rd_0_3 hA).trans rfl
  · exact hA.az
  · rw [mset_row (by decide)]
    refine gd_of (fun j a b => ?_) (fun j hj => ?_)
    · rw [(mgen_tell ⟨a, b⟩).1, hg j a b, rd_1 hA ⟨a, b⟩]; rfl
    · show (if g' j = 10 then v 1 j else if g' j = -1 then v 1 j else g' j) = 0
      rw [ho j hj]
      show v 1 j = 0
      exact hA.V0.1 1 (by decide) (by decide) j hj
  · rw [mset_row (by decide)]
    refine gd_of (fun j a b => ?_) (fun j hj => ?_)
    · rw [(mgen_tell ⟨a, b⟩).2, hg j a b, rd_2 hA ⟨a, b⟩]; rfl
    · show (if g' j = 10 then 1 else if g' j = -1 then v 2 j else 0) = 0
      rw [ho j hj]
      show v 2 j = 0
      exact hA.V0.1 2 (by decide) (by decide) j hj
  · rw [hn 4 (by decide) (by decide) (by decide)]; exact hA.a3
  · rw [hn 5 (by decide) (by decide) (by decide)]; exact hA.a4
  · rw [hn 6 (by decide) (by decide) (by decide)]; exact hA.a5
  · rw [hn 7 (by decide) (by decide) (by decide)]; exact hA.a6
  · rw [hn 8 (by decide) (by decide) (by decide)]; exact hA.a7
  · rw [hn 9 (by decide) (by decide) (by decide)]; exact hA.a8
  · exact (VM.of hv).frame (fun r a b => hn r (by omega) (by omega) (by omega)) (fun t a b => hs t (by omega) (by omega))
  · intro t ht; rw [hs t (by omega) (by omega)]; exact Z17.of hv t ht
section LD
variable {M : Mem} {v : Vw} {z tl : Int} {H : Int → Vw} {T : Int → Int}
/-- the cells behind read, keep, tellTo and length = 0 -/
noncomputable def ldK (M : Mem) (z : Int) (g : Int → Int) : Mem := mset (mgen (keepM (mrow M 128 g) (mrow M 128 g 24 2) z) (Ftell g) 0 120) 126 1 0
theorem RF.told (h : RF M (v, z, H, tl, T)) {g : Int → Int} : RF (mrow M 128 g) (v, z, H, tl, T) := h.frame fun a ha => mrow_row (by omega)
theorem ldK_view (h : RF M (v, z, H, tl, T)) : vF (ldK M z (rdG M (v, z, H, tl, T))) 1 = tellV (rdS (v, z, H, tl, T)).2 v ∧ SI (tellV (rdS (v, z, H, tl, T)).2 v) := by
  have ht := rdS_told (s := (v, z, H, tl, T)) h.1.2.1
  exact ⟨vF_tell h.told.kV rdG_eq ht.2.2, SI.tell h.1.2.1 ht.1 ht.2.1⟩
theorem RF.load (h : RF M (v, z, H, tl, T)) {w : Vw} (hw : vF (ldK M z (rdG M (v, z, H, tl, T))) 1 = w) (hS : SI w) : RF (lookM (ldK M z (rdG M (v, z, H, tl, T))) w) (lookV w, imin (z + 1) 5, pushH H z v, 0, T) ∧ ∀ a, 132 ≤ a → lookM (ldK M z (rdG M (v, z, H, tl, T))) w a = M a := by
  have hk : ∀ a, 21 ≤ a → a ≠ 126 → ldK M z (rdG M (v, z, H, tl, T)) a = keepM (mrow M 128 (rdG M (v, z, H, tl, T))) (mrow M 128 (rdG M (v, z, H, tl, T)) 24 2) z a := fun a a1 a2 => by
    unfold ldK; rw [mset_row a2]; exact mgen_row (Ftell_no (by omega))
  have h2 := h.told (g := rdG M (v, z, H, tl, T))
  have hh : ∀ a, 127 ≤ a → a ≠ 128 → lookM (ldK M z (rdG M (v, z, H, tl, T))) w a = M a := fun a a1 a2 => (lookM_no (by omega)).trans ((hk a (by omega) (by omega)).trans ((keepM_hi h2.1.2.2.2.1 (by omega)).trans (mrow_row a2)))
  refine ⟨⟨h2.1.act (fun a a1 a2 => hk a a1 (by omega)) hw hS, ?_, ⟨Int.le_refl _, by show (0 : Int) ≤ 120; decide⟩, fun i hi => by replace hi : 0 ≤ i ∧ i < 0 := hi; omega, h.2.2.2.2⟩, fun a ha => hh a (by omega) (by omega)⟩
  show lookM (ldK M z (rdG M (v, z, H, tl, T))) w 126 1 = 0
  rw [lookM_no (by omega)]; exact mset_at
end LD
