/-! ===== the model's load ===== -/
def TX (M : Mem) (n : Int) (T : Int → Int) : Prop := M 132 6 = n ∧ (0 ≤ n ∧ n ≤ 120) ∧ (∀ i, 0 ≤ i ∧ i < n → M 136 i = T i) ∧ ∀ i, 0 ≤ T i ∧ T i ≤ 255
/-- only the row s and next differ -/
def FRM (M M' : Mem) : Prop := (∀ a, a ≠ 132 → a ≠ 133 → M' a = M a) ∧ ∀ j, j ≠ 7 → M' 132 j = M 132 j
/-- the reading stands at character i, before cell (c, r), with what g tells so far -/
def PA (M : Mem) (v : Vw) (g : Int → Int) (i c r : Int) : Prop := M 132 7 = i ∧ WF (M 133) (tellV g v) ∧ told v g ∧ ∀ j, r * 12 + c ≤ j → g j = -1
section LD2
variable {M M' M2 : Mem} {v : Vw} {g : Int → Int} {T : Int → Int} {n i j c r x : Int}
theorem FRM.refl : FRM M M := ⟨fun _ _ _ => rfl, fun _ _ => rfl⟩
theorem FRM.trans (h : FRM M M2) (h2 : FRM M2 M') : FRM M M' := ⟨fun a a1 a2 => (h2.1 a a1 a2).trans (h.1 a a1 a2), fun j hj => (h2.2 j hj).trans (h.2 j hj)⟩
theorem FRM.next : FRM M (mset M 132 7 x) := ⟨fun a a1 _ => mset_row a1, fun j hj => mset_ne (by omega)⟩
theorem FRM.row : FRM M (mset M 133 i x) := ⟨fun a _ a2 => mset_row a2, fun j _ => congrFun (mset_row (by decide)) j⟩
theorem TX.frame (h : TX M n T) (hf : FRM M M') : TX M' n T := ⟨by rw [hf.2 6 (by decide)]; exact h.1, h.2.1, by rw [hf.1 136 (by decide) (by decide)]; exact h.2.2.1, h.2.2.2⟩
theorem mset_same (h : M 132 7 = i) : mset M 132 7 i = M := by
  funext a b
  unfold mset
  by_cases e : a = 132 ∧ b = 7
  · rw [if_pos e, e.1, e.2]; exact h.symm
  · rw [if_neg e]
theorem rdT_sp (hs : ∀ q, i ≤ q → q < j → T q = 32) (hij : i ≤ j) (hj : j ≤ n) : rdT T v n (n - i).toNat i c r g = rdT T v n (n - j).toNat j c r g := by
  have key : ∀ (d : Nat) (i : Int), (j - i).toNat = d → i ≤ j → (∀ q, i ≤ q → q < j → T q = 32) → rdT T v n (n - i).toNat i c r g = rdT T v n (n - j).toNat j c r g := by
    intro d
    induction d with
    | zero => intro i hd h1 _; rw [show i = j by omega]
    | succ d ih =>
      intro i hd h1 h2
      rw [rdT_step (by omega), if_pos (h2 i (Int.le_refl _) (by omega))]
      exact ih (i + 1) (by omega) (by omega) (fun q a b => h2 q (by omega) b)
  exact key _ i rfl hij hs
theorem tellV_0 : tellV (fun _ => -1) v = v := by
  funext t
  unfold tellV
  by_cases e : t = 1
  · subst e; rfl
  by_cases e2 : t = 2
  · subst e2; rfl
  rw [if_neg e, if_neg e2]
theorem tellV_1 (j : Int) : tellV g v 1 j = if g j = 10 then v 1 j else if g j = -1 then v 1 j else g j := rfl
theorem tellV_2 (j : Int) : tellV g v 2 j = if g j = 10 then 1 else if g j = -1 then v 2 j else 0 := rfl
theorem tellV_set {d y z : Int} (hy : y = if d = 10 then v 1 x else d) (hz : z = if d = 10 then 1 else 0) (hd : d ≠ -1) : tellV (fun j => if j = x then d else g j) v = vset (vset (tellV g v) 2 x z) 1 x y := by
  funext t
  by_cases e : t = 1
  · subst e
    funext j
    rw [tellV_1]
    by_cases ej : j = x
    · subst ej
      rw [vset_at, if_pos rfl, hy, if_neg hd]
    · rw [vset_no ej, vset_ne (by decide), if_neg ej, tellV_1]
  by_cases e2 : t = 2
  · subst e2
    funext j
    rw [tellV_2, vset_ne (by decide)]
    by_cases ej : j = x
    · subst ej
      rw [vset_at, if_pos rfl, hz, if_neg hd]
    · rw [vset_no ej, if_neg ej, tellV_2]
  rw [vset_ne e, vset_ne e2]
  unfold tellV
  rw [if_neg e, if_neg e2, if_neg e, if_neg e2]
/-- a cell read: told, and written to the row -/
theorem PA.read {ch z y : Int} (h : PA M v g i c r) (hSv : SI v) (hc : 0 ≤ c ∧ c < 12) (hr : 0 ≤ r ∧ r ≤ 9) (hch : ch = T i) (ha : alw v (T i) c r) (hz : z = if ch = 35 then 1 else 0) (hy : y = if ch = 35 then tellV g v 1 (r * 12 + c) else ch - 48) {p q : Int} (hp : p = 188 + (r * 12 + c)) (hq : q = 68 + (r * 12 + c)) :
    PA (mset (mset (mset M 133 p z) 133 q y) 132 7 (i + 1)) v (fun j => if j = r * 12 + c then tval (T i) else g j) (i + 1) (c + 1) r := by
  subst hch hp hq
  obtain ⟨h1, h2, h3, h4⟩ := h
  have hcell : 0 ≤ r * 12 + c ∧ r * 12 + c < 120 := by omega
  have hg := h4 (r * 12 + c) (Int.le_refl _)
  have hd : tval (T i) ≠ -1 ∧ (tval (T i) = 10 ↔ T i = 35) ∧ (T i ≠ 35 → tval (T i) = T i - 48 ∧ 0 ≤ tval (T i) ∧ tval (T i) ≤ 9) := by
    have := ha.2
    unfold tval
    split
    · exact ⟨by decide, ⟨fun _ => by assumption, fun _ => rfl⟩, fun q => absurd (by assumption) q⟩
    · rcases this with ⟨q, -⟩ | ⟨-, q1, q2⟩
      · exact absurd q (by assumption)
      · exact ⟨by omega, ⟨by omega, by omega⟩, fun _ => ⟨rfl, by omega, by omega⟩⟩
  have hg1 : tellV g v 1 (r * 12 + c) = v 1 (r * 12 + c) := by rw [tellV_1, hg]; rfl
  have ht2 : told v (fun j => if j = r * 12 + c then tval (T i) else g j) := told.step hSv g c r i ha hc.1 hr.1 (by omega) h3
  refine ⟨mset_at, ?_, ht2, fun j hj => ?_⟩
  · rw [mset_row (by decide)]
    rw [tellV_set (v := v) (g := g) (x := r * 12 + c) (d := tval (T i)) (y := y) (z := z) ?_ ?_ hd.1]
    · have hw : WF (mset M 133 (188 + (r * 12 + c)) z 133) (vset (tellV g v) 2 (r * 12 + c) z) := by
        refine h2.wall hcell ?_ ?_ (fun i => mset_self)
        · rw [hz]; split <;> omega
        · rintro ⟨q1, q2⟩
          have e35 : T i = 35 := by
            by_cases e : T i = 35
            · exact e
            · rw [hz, if_neg e] at q1; omega
          rcases ha.2 with ⟨-, q⟩ | ⟨q, -⟩
          · exact q2 q
          · exact q e35
      refine hw.height hcell ?_ (fun i => mset_self)
      rw [hy]
      split
      · rw [hg1]; exact hSv.r1 _
      · have := hd.2.2 (by assumption); omega
    · rw [hy]
      by_cases e : T i = 35
      · rw [if_pos e, if_pos (hd.2.1.mpr e), hg1]
      · rw [if_neg e, if_neg (fun q => e (hd.2.1.mp q)), (hd.2.2 e).1]
    · rw [hz]
      by_cases e : T i = 35
      · rw [if_pos e, if_pos (hd.2.1.mpr e)]
      · rw [if_neg e, if_neg (fun q => e (hd.2.1.mp q))]
  · show (if j = r * 12 + c then tval (T i) else g j) = -1
    rw [if_neg (by omega)]; exact h4 j (by omega)
theorem PA.sIn (x : Int) : sIn (tellV g v) x = sIn v x := rfl
theorem PA.goto (h : PA M v g i c r) : PA (mset M 132 7 j) v g j c r := ⟨mset_at, by rw [mset_row (by decide)]; exact h.2.1, h.2.2.1, h.2.2.2⟩
theorem PA.down (h : PA M v g i c r) (hc : c ≤ 12) : PA (mset M 132 7 (i + 1)) v g (i + 1) 0 (r + 1) := ⟨mset_at, by rw [mset_row (by decide)]; exact h.2.1, h.2.2.1, fun j hj => h.2.2.2 j (by omega)⟩
/-- the answers of the parts of load -/
def HQ (M : Mem) (n : Int) (T : Int → Int) (i : Int) : Option AV → Mem → Prop := fun o M' => ∃ j, (i ≤ j ∧ j ≤ n) ∧ M' = mset M 132 7 j ∧ o = some (.inl (if j < n then T j else -1)) ∧ (j < n → T j ≠ 32) ∧ ∀ q, i ≤ q → q < j → T q = 32
def CQ1 (M : Mem) (v : Vw) (g : Int → Int) (n : Int) (T : Int → Int) (i c r : Int) : Option AV → Mem → Prop := fun o M' => (o = some (.inl 1) ∧ i < n ∧ alw v (T i) c r ∧ FRM M M' ∧ PA M' v (fun j => if j = r * 12 + c then tval (T i) else g j) (i + 1) (c + 1) r) ∨ (o = some (.inl 0) ∧ M' = M ∧ ¬ (i < n ∧ alw v (T i) c r))
def RQ1 (M : Mem) (v : Vw) (n : Int) (T : Int → Int) (r : Int) (RR : Int × (Int → Int)) : Option AV → Mem → Prop := fun o M' => FRM M M' ∧ ((o = some (.inl 1) ∧ ∃ i g, PA M' v g i 0 (r + 1) ∧ (0 ≤ i ∧ i ≤ n) ∧ r ≤ 9 ∧ RR = rdT T v n (n - i).toNat i 0 (r + 1) g) ∨ (o = some (.inl 0) ∧ (0 ≤ M' 132 7 ∧ M' 132 7 ≤ n) ∧ RR.1 = -1000 - M' 132 7))
end LD2
