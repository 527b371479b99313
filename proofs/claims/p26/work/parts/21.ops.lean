/-! ===== what the calls answer and leave, over views ===== -/
/-- the state's view, how many states are kept, their views from the oldest on, the text's length, its characters -/
abbrev AbS : Type := Vw × Int × (Int → Vw) × Int × (Int → Int)
noncomputable def actS (s : AbS) (w : Vw) : AbS := (lookV w, imin (s.2.1 + 1) 5, pushH s.2.2.1 s.2.1 s.1, s.2.2.2.1, s.2.2.2.2)
noncomputable def oHeight (s : AbS) (c r x : Int) : Int × AbS := if (0 ≤ c ∧ c ≤ 11 ∧ 0 ≤ r ∧ r ≤ 9) then (if (0 ≤ x ∧ x ≤ 9) then (s.1 1 (r * 12 + c), actS s (vset s.1 1 (r * 12 + c) x)) else (-11, s)) else (-11, s)
noncomputable def oWall (s : AbS) (c r x : Int) : Int × AbS := if (0 ≤ c ∧ c ≤ 11 ∧ 0 ≤ r ∧ r ≤ 9) then (if (0 ≤ x ∧ x ≤ 1) then (if x = 1 ∧ ¬ sIn s.1 (r * 12 + c) = -19 then (-12, s) else (s.1 2 (r * 12 + c), actS s (vset s.1 2 (r * 12 + c) x))) else (-11, s)) else (-11, s)
def oAppend (s : AbS) (x : Int) : Int × AbS := if (1 ≤ x ∧ x ≤ 255) then (if 120 ≤ s.2.2.2.1 then (-13, s) else (s.2.2.2.1 + 1, (s.1, s.2.1, s.2.2.1, s.2.2.2.1 + 1, fun j => if j = s.2.2.2.1 then x else s.2.2.2.2 j))) else (-11, s)
def oClear (s : AbS) : Int × AbS := (s.2.2.2.1, (s.1, s.2.1, s.2.2.1, 0, s.2.2.2.2))
def tellV (g : Int → Int) (v : Vw) : Vw := fun t => if t = 1 then (fun j => if g j = 10 then v 1 j else if g j = -1 then v 1 j else g j) else if t = 2 then (fun j => if g j = 10 then 1 else if g j = -1 then v 2 j else 0) else v t
noncomputable def rdS (s : AbS) : Int × (Int → Int) := rdT s.2.2.2.2 s.1 s.2.2.2.1 s.2.2.2.1.toNat 0 0 0 (fun _ => -1)
noncomputable def oLoad (s : AbS) : Int × AbS := if (rdS s).1 < 0 then ((rdS s).1, s) else ((rdS s).1, (lookV (tellV (rdS s).2 s.1), imin (s.2.1 + 1) 5, pushH s.2.2.1 s.2.1 s.1, 0, s.2.2.2.2))
def putSV (v : Vw) (sd c g : Int) : Vw := vset (vset (vset (vset v 3 (v 0 0) sd) 4 (v 0 0) c) 5 (v 0 0) g) 0 0 (v 0 0 + 1)
def putLV (v : Vw) (c g o : Int) : Vw := vset (vset (vset (vset v 6 (v 0 1) c) 7 (v 0 1) g) 8 (v 0 1) o) 0 1 (v 0 1 + 1)
def dropV (v : Vw) (t : Nat) (p : Int) : Vw := vrow v t (fun j => if p ≤ j then v t (j + 1) else v t j)
def dropSV (v : Vw) (p : Int) : Vw := vset (dropV (dropV (dropV v 3 p) 4 p) 5 p) 0 0 (v 0 0 - 1)
def dropLV (v : Vw) (p : Int) : Vw := vset (dropV (dropV (dropV v 6 p) 7 p) 8 p) 0 1 (v 0 1 - 1)
noncomputable def oAddS (s : AbS) (sd c r g : Int) : Int × AbS := if (0 ≤ sd ∧ sd ≤ 1) then (if (0 ≤ c ∧ c ≤ 11 ∧ 0 ≤ r ∧ r ≤ 9) then (if (1 ≤ g ∧ g ≤ 8) then (if (s.1 2 (r * 12 + c) = 0 ∧ sIn s.1 (r * 12 + c) = -19) then (if 10 ≤ s.1 0 0 then (-13, s) else (s.1 0 0, actS s (putSV s.1 sd (r * 12 + c) g))) else (-12, s)) else (-11, s)) else (-11, s)) else (-11, s)
def stepC (v : Vw) (k ac dn : Int) : Int := (v 4 k / 12 + dn) * 12 + (v 4 k % 12 + ac)
noncomputable def uncV (w : Vw) (sd : Int) : Int := if sd = 0 then cnt (fun k => sSees w 0 k ∧ w 9 k = 0) 120 0 else cnt (fun k => sSees w 1 k ∧ w 13 k = 0) 120 0
noncomputable def oStep (s : AbS) (k ac dn : Int) : Int × AbS := if (0 ≤ k ∧ k ≤ s.1 0 0 - 1) then (if (-1 ≤ ac ∧ ac ≤ 1) then (if (-1 ≤ dn ∧ dn ≤ 1) then (if ac = 0 ∧ dn = 0 then (-11, s) else (if (0 ≤ s.1 4 k % 12 + ac ∧ s.1 4 k % 12 + ac ≤ 11 ∧ 0 ≤ s.1 4 k / 12 + dn ∧ s.1 4 k / 12 + dn ≤ 9) then (if ((s.1 2 (stepC s.1 k ac dn) = 0 ∧ sIn s.1 (stepC s.1 k ac dn) = -19) ∧ iabs (s.1 1 (s.1 4 k) - s.1 1 (stepC s.1 k ac dn)) ≤ 2) then (uncV (vset s.1 4 k (stepC s.1 k ac dn)) (s.1 3 k), actS s (vset s.1 4 k (stepC s.1 k ac dn))) else (-12, s)) else (-12, s))) else (-11, s)) else (-11, s)) else (-11, s)
noncomputable def oRemS (s : AbS) (k : Int) : Int × AbS := if (0 ≤ k ∧ k ≤ s.1 0 0 - 1) then (s.1 0 0 - 1, actS s (dropSV s.1 k)) else (-11, s)
noncomputable def oAddL (s : AbS) (c r g o : Int) : Int × AbS := if (0 ≤ c ∧ c ≤ 11 ∧ 0 ≤ r ∧ r ≤ 9) then (if (0 ≤ g ∧ g ≤ 4) then (if (0 ≤ o ∧ o ≤ 50) then (if 6 ≤ s.1 0 1 then (-13, s) else (s.1 0 1, actS s (putLV s.1 (r * 12 + c) g o))) else (-11, s)) else (-11, s)) else (-11, s)
noncomputable def oOil (s : AbS) (k o : Int) : Int × AbS := if (0 ≤ k ∧ k ≤ s.1 0 1 - 1) then (if (0 ≤ o ∧ o ≤ 50) then (s.1 8 k, actS s (vset s.1 8 k o)) else (-11, s)) else (-11, s)
noncomputable def oRemL (s : AbS) (k : Int) : Int × AbS := if (0 ≤ k ∧ k ≤ s.1 0 1 - 1) then (s.1 0 1 - 1, actS s (dropLV s.1 k)) else (-11, s)
def limV (v : Vw) (x : Int) : Vw := fun t => if t = 0 then (fun j => if j = 2 then x else v 0 j) else if t = 9 ∨ t = 13 then (fun j => imin (v t j) x) else v t
noncomputable def oFog (s : AbS) (x : Int) : Int × AbS := if (1 ≤ x ∧ x ≤ 99) then (s.1 0 2, actS s (limV s.1 x)) else (-11, s)
def fadeV (v : Vw) : Vw := fun t => if t = 9 ∨ t = 13 then (fun j => imax 0 (v t j - 1)) else v t
noncomputable def passV (v : Vw) : Vw := lookV (fadeV (turnV v))
noncomputable def passN : Nat → Vw → Vw
  | 0, v => v
  | n + 1, v => passN n (passV v)
noncomputable def outN : Nat → Vw → Int
  | 0, _ => 0
  | n + 1, v => outV v + outN n (passV v)
noncomputable def oPass (s : AbS) (n : Int) : Int × AbS := if (1 ≤ n ∧ n ≤ 99) then (outN n.toNat s.1, (passN n.toNat s.1, imin (s.2.1 + 1) 5, pushH s.2.2.1 s.2.1 s.1, s.2.2.2.1, s.2.2.2.2)) else (-11, s)
def oUndo (s : AbS) : Int × AbS := if s.2.1 = 0 then (-12, s) else (s.2.1 - 1, (s.2.2.1 (s.2.1 - 1), s.2.1 - 1, s.2.2.1, s.2.2.2.1, s.2.2.2.2))
noncomputable def qWay (v : Vw) (k c r : Int) : Int := if (0 ≤ k ∧ k ≤ v 0 0 - 1) then (if (0 ≤ c ∧ c ≤ 11 ∧ 0 ≤ r ∧ r ≤ 9) then wayS v (if v 3 k = 0 then 9 else 13) (v 4 k) (r * 12 + c) else -11) else -11
/-! the bounds hold on -/
theorem vset_at {v : Vw} {t : Nat} {i x : Int} : vset v t i x t i = x := by unfold vset; rw [vrow_at]; exact if_pos rfl
theorem vset_ne {v : Vw} {t s : Nat} {i x : Int} (h : s ≠ t) : vset v t i x s = v s := vrow_ne h
theorem vset_no {v : Vw} {t : Nat} {i j x : Int} (h : j ≠ i) : vset v t i x t j = v t j := by unfold vset; rw [vrow_at]; exact if_neg h
theorem vset_bd {v : Vw} {t : Nat} {i x a b : Int} (h : ∀ j, a ≤ v t j ∧ v t j ≤ b) (hx : a ≤ x ∧ x ≤ b) (j : Int) : a ≤ vset v t i x t j ∧ vset v t i x t j ≤ b := by
  by_cases e : j = i
  · subst e; rw [vset_at]; exact hx
  · rw [vset_no e]; exact h j
theorem vset_lt {v : Vw} {t : Nat} {i x a b : Int} (h : ∀ j, a ≤ v t j ∧ v t j < b) (hx : a ≤ x ∧ x < b) (j : Int) : a ≤ vset v t i x t j ∧ vset v t i x t j < b := by
  by_cases e : j = i
  · subst e; rw [vset_at]; exact hx
  · rw [vset_no e]; exact h j
theorem SI.height {v : Vw} {i x : Int} (h : SI v) (hx : 0 ≤ x ∧ x ≤ 9) : SI (vset v 1 i x) :=
  ⟨h.n0, h.n1, h.n2, vset_bd h.r1 hx, h.r2, h.r3, h.r4, h.r5, h.r6, h.r7, h.r8, h.r9, h.r10, h.r11, h.r12, h.r13, h.r14, h.r15, h.r16, fun _ a b => h.on a b, fun _ _ a b c => h.ne a b c⟩
theorem SI.oil {v : Vw} {i x : Int} (h : SI v) (hx : 0 ≤ x ∧ x ≤ 50) : SI (vset v 8 i x) :=
  ⟨h.n0, h.n1, h.n2, h.r1, h.r2, h.r3, h.r4, h.r5, h.r6, h.r7, vset_bd h.r8 hx, h.r9, h.r10, h.r11, h.r12, h.r13, h.r14, h.r15, h.r16, fun _ a b => h.on a b, fun _ _ a b c => h.ne a b c⟩
theorem SI.wall {v : Vw} {i x : Int} (h : SI v) (hx : 0 ≤ x ∧ x ≤ 1) (hs : ¬ (x = 1 ∧ ¬ sIn v i = -19)) : SI (vset v 2 i x) := by
  refine ⟨h.n0, h.n1, h.n2, h.r1, vset_bd h.r2 hx, h.r3, h.r4, h.r5, h.r6, h.r7, h.r8, h.r9, h.r10, h.r11, h.r12, h.r13, h.r14, h.r15, h.r16, fun k a b => ⟨(h.on a b).1, ?_⟩, fun _ _ a b c => h.ne a b c⟩
  show vset v 2 i x 2 (v 4 k) = 0
  by_cases e : v 4 k = i
  · rw [e, vset_at]
    by_cases e1 : x = 1
    · have : sIn v i = -19 := Classical.not_not.mp fun q => hs ⟨e1, q⟩
      exact absurd e ((sIn_none h).mp this k a b)
    · omega
  · rw [vset_no e]; exact (h.on a b).2
theorem SI.move {v : Vw} {k c : Int} (h : SI v) (hc : 0 ≤ c ∧ c < 120) (hw : v 2 c = 0) (hs : sIn v c = -19) : SI (vset v 4 k c) := by
  have hn := (sIn_none h).mp hs
  refine ⟨h.n0, h.n1, h.n2, h.r1, h.r2, h.r3, vset_lt h.r4 hc, h.r5, h.r6, h.r7, h.r8, h.r9, h.r10, h.r11, h.r12, h.r13, h.r14, h.r15, h.r16, fun j a b => ⟨(h.on a b).1, ?_⟩, fun j i a b c' => ?_⟩
  · show v 2 (vset v 4 k c 4 j) = 0
    by_cases e : j = k
    · subst e; rw [vset_at]; exact hw
    · rw [vset_no e]; exact (h.on a b).2
  · show vset v 4 k c 4 j ≠ vset v 4 k c 4 i
    have c2 : i < v 0 0 := c'
    by_cases e : j = k
    · subst e; rw [vset_at, vset_no (by omega)]; exact fun q => hn i (by omega) c2 q.symm
    · rw [vset_no e]
      by_cases e2 : i = k
      · subst e2; rw [vset_at]; exact hn j a (by omega)
      · rw [vset_no e2]; exact h.ne a b c2
theorem SI.putS {v : Vw} {sd c g : Int} (h : SI v) (hn : v 0 0 < 10) (hsd : 0 ≤ sd ∧ sd ≤ 1) (hc : 0 ≤ c ∧ c < 120) (hg : 1 ≤ g ∧ g ≤ 8) (hw : v 2 c = 0) (hs : sIn v c = -19) : SI (putSV v sd c g) := by
  have hno := (sIn_none h).mp hs
  have n0 := h.n0
  have e0 : putSV v sd c g 0 0 = v 0 0 + 1 := vset_at
  have e3 : putSV v sd c g 3 = vset v 3 (v 0 0) sd 3 := rfl
  have e4 : putSV v sd c g 4 = vset v 4 (v 0 0) c 4 := rfl
  have e5 : putSV v sd c g 5 = vset v 5 (v 0 0) g 5 := rfl
  refine ⟨by rw [e0]; omega, h.n1, h.n2, h.r1, h.r2, ?_, ?_, ?_, h.r6, h.r7, h.r8, h.r9, h.r10, h.r11, h.r12, h.r13, h.r14, h.r15, h.r16, ?_, ?_⟩
  · rw [e3]; exact vset_bd h.r3 hsd
  · rw [e4]; exact vset_lt h.r4 hc
  · rw [e5]; exact vset_bd h.r5 (by omega)
  · intro k a b
    rw [e0] at b
    rw [e4, e5]
    show _ ∧ v 2 (vset v 4 (v 0 0) c 4 k) = 0
    by_cases e : k = v 0 0
    · rw [e, vset_at, vset_at]; exact ⟨hg.1, hw⟩
    · rw [vset_no e, vset_no e]; exact h.on a (by omega)
  · intro j k a b c'
    rw [e0] at c'
    rw [e4, vset_no (show j ≠ v 0 0 by omega)]
    by_cases e : k = v 0 0
    · rw [e, vset_at]; exact hno j a (by omega)
    · rw [vset_no e]; exact h.ne a b (by omega)
theorem SI.putL {v : Vw} {c g o : Int} (h : SI v) (hn : v 0 1 < 6) (hc : 0 ≤ c ∧ c < 120) (hg : 0 ≤ g ∧ g ≤ 4) (ho : 0 ≤ o ∧ o ≤ 50) : SI (putLV v c g o) := by
  have n1 := h.n1
  have e0 : putLV v c g o 0 1 = v 0 1 + 1 := vset_at
  refine ⟨h.n0, by rw [e0]; omega, h.n2, h.r1, h.r2, h.r3, h.r4, h.r5, ?_, ?_, ?_, h.r9, h.r10, h.r11, h.r12, h.r13, h.r14, h.r15, h.r16, fun _ a b => h.on a b, fun _ _ a b c => h.ne a b c⟩
  · exact vset_lt (t := 6) (i := v 0 1) h.r6 hc
  · exact vset_bd (t := 7) (i := v 0 1) h.r7 hg
  · exact vset_bd (t := 8) (i := v 0 1) h.r8 ho
theorem drop_bd {f : Int → Int} {p a b : Int} (h : ∀ j, a ≤ f j ∧ f j ≤ b) (j : Int) : a ≤ (if p ≤ j then f (j + 1) else f j) ∧ (if p ≤ j then f (j + 1) else f j) ≤ b := by
  split
  · exact h _
  · exact h _
theorem drop_lt {f : Int → Int} {p a b : Int} (h : ∀ j, a ≤ f j ∧ f j < b) (j : Int) : a ≤ (if p ≤ j then f (j + 1) else f j) ∧ (if p ≤ j then f (j + 1) else f j) < b := by
  split
  · exact h _
  · exact h _
theorem SI.dropS {v : Vw} {p : Int} (h : SI v) (hp : 0 ≤ p ∧ p < v 0 0) : SI (dropSV v p) := by
  have n0 := h.n0
  have e0 : dropSV v p 0 0 = v 0 0 - 1 := vset_at
  refine ⟨by rw [e0]; omega, h.n1, h.n2, h.r1, h.r2, drop_bd h.r3, drop_lt h.r4, drop_bd h.r5, h.r6, h.r7, h.r8, h.r9, h.r10, h.r11, h.r12, h.r13, h.r14, h.r15, h.r16, ?_, ?_⟩
  · intro k a b
    rw [e0] at b
    show 1 ≤ (if p ≤ k then v 5 (k + 1) else v 5 k) ∧ v 2 (if p ≤ k then v 4 (k + 1) else v 4 k) = 0
    split
    · exact h.on (by omega) (by omega)
    · exact h.on a (by omega)
  · intro j k a b c
    rw [e0] at c
    show (if p ≤ j then v 4 (j + 1) else v 4 j) ≠ (if p ≤ k then v 4 (k + 1) else v 4 k)
    split <;> split
    · exact h.ne (by omega) (by omega) (by omega)
    · omega
    · exact h.ne (by omega) (by omega) (by omega)
    · exact h.ne (by omega) (by omega) (by omega)
theorem SI.dropL {v : Vw} {p : Int} (h : SI v) (hp : 0 ≤ p ∧ p < v 0 1) : SI (dropLV v p) := by
  have n1 := h.n1
  have e0 : dropLV v p 0 1 = v 0 1 - 1 := vset_at
  exact ⟨h.n0, by rw [e0]; omega, h.n2, h.r1, h.r2, h.r3, h.r4, h.r5, drop_lt h.r6, drop_bd h.r7, drop_bd h.r8, h.r9, h.r10, h.r11, h.r12, h.r13, h.r14, h.r15, h.r16, fun _ a b => h.on a b, fun _ _ a b c => h.ne a b c⟩
theorem SI.lim {v : Vw} {x : Int} (h : SI v) (hx : 1 ≤ x ∧ x ≤ 99) : SI (limV v x) := by
  refine ⟨h.n0, h.n1, hx, h.r1, h.r2, h.r3, h.r4, h.r5, h.r6, h.r7, h.r8, fun c => ?_, h.r10, h.r11, h.r12, fun c => ?_, h.r14, h.r15, h.r16, fun _ a b => h.on a b, fun _ _ a b c => h.ne a b c⟩
  · have := h.r9 c; have := imin_r (a := v 9 c) (b := x); show 0 ≤ imin (v 9 c) x ∧ imin (v 9 c) x ≤ 99; omega
  · have := h.r13 c; have := imin_r (a := v 13 c) (b := x); show 0 ≤ imin (v 13 c) x ∧ imin (v 13 c) x ≤ 99; omega
theorem SI.fade {v : Vw} (h : SI v) : SI (fadeV v) := by
  refine ⟨h.n0, h.n1, h.n2, h.r1, h.r2, h.r3, h.r4, h.r5, h.r6, h.r7, h.r8, fun c => ?_, h.r10, h.r11, h.r12, fun c => ?_, h.r14, h.r15, h.r16, fun _ a b => h.on a b, fun _ _ a b c => h.ne a b c⟩
  · have := h.r9 c; have := imax_r (a := 0) (b := v 9 c - 1); show 0 ≤ imax 0 (v 9 c - 1) ∧ imax 0 (v 9 c - 1) ≤ 99; omega
  · have := h.r13 c; have := imax_r (a := 0) (b := v 13 c - 1); show 0 ≤ imax 0 (v 13 c - 1) ∧ imax 0 (v 13 c - 1) ≤ 99; omega
theorem SI.pass {v : Vw} (h : SI v) : SI (passV v) := h.turn.fade.look
theorem SI.tell {v : Vw} {g : Int → Int} (h : SI v) (hg : ∀ j, -1 ≤ g j ∧ g j ≤ 10) (hs : ∀ k, 0 ≤ k → k < v 0 0 → g (v 4 k) ≠ 10) : SI (tellV g v) := by
  refine ⟨h.n0, h.n1, h.n2, fun c => ?_, fun c => ?_, h.r3, h.r4, h.r5, h.r6, h.r7, h.r8, h.r9, h.r10, h.r11, h.r12, h.r13, h.r14, h.r15, h.r16, fun k a b => ⟨(h.on a b).1, ?_⟩, fun _ _ a b c => h.ne a b c⟩
  · have := h.r1 c; have := hg c
    show 0 ≤ (if g c = 10 then v 1 c else if g c = -1 then v 1 c else g c) ∧ (if g c = 10 then v 1 c else if g c = -1 then v 1 c else g c) ≤ 9
    split
    · assumption
    · split <;> omega
  · have := h.r2 c
    show 0 ≤ (if g c = 10 then 1 else if g c = -1 then v 2 c else 0) ∧ (if g c = 10 then 1 else if g c = -1 then v 2 c else 0) ≤ 1
    split
    · omega
    · split <;> omega
  · have q := hs k a b
    show (if g (v 4 k) = 10 then 1 else if g (v 4 k) = -1 then v 2 (v 4 k) else 0) = 0
    rw [if_neg q]
    split
    · exact (h.on a b).2
    · rfl
