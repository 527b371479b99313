/-! ===== ways over what a side knows; t: the first of the side's rows ===== -/
def kst (v : Vw) (t : Nat) (a b : Int) : Prop := dist a b = 1 ∧ 0 < v t b ∧ v (t + 2) b = 0 ∧ v (t + 3) b = 0 ∧ iabs (v (t + 1) a - v (t + 1) b) ≤ 2
def rch (v : Vw) (t : Nat) (s : Int) : Nat → Int → Prop
  | 0, c => c = s
  | n + 1, c => (0 ≤ c ∧ c < 120) ∧ ∃ b, (0 ≤ b ∧ b < 120) ∧ rch v t s n b ∧ kst v t b c
def IsWay (v : Vw) (t : Nat) (s c r : Int) : Prop := (r = -19 ∧ ∀ n, ¬ rch v t s n c) ∨ ∃ n : Nat, r = n ∧ rch v t s n c ∧ ∀ m, m < n → ¬ rch v t s m c
theorem isWay_ex (v : Vw) (t : Nat) (s c : Int) : ∃ r, IsWay v t s c r := by
  by_cases h : ∃ n, rch v t s n c
  · obtain ⟨n, h1, h2⟩ := pk_least _ h
    exact ⟨n, Or.inr ⟨n, rfl, h1, h2⟩⟩
  · exact ⟨-19, Or.inl ⟨rfl, fun n q => h ⟨n, q⟩⟩⟩
noncomputable def wayS (v : Vw) (t : Nat) (s c : Int) : Int := Classical.choose (isWay_ex v t s c)
theorem wayS_eq {v : Vw} {t : Nat} {s c r : Int} (h : IsWay v t s c r) : r = wayS v t s c := by
  have h2 : IsWay v t s c (wayS v t s c) := Classical.choose_spec (isWay_ex v t s c)
  rcases h with ⟨e, a⟩ | ⟨n, e, a, b⟩ <;> rcases h2 with ⟨e2, a2⟩ | ⟨m, e2, a2, b2⟩
  · omega
  · exact absurd a2 (a m)
  · exact absurd a (a2 n)
  · have : ¬ m < n := fun q => b m q a2
    have : ¬ n < m := fun q => b2 n q a
    omega
/-- the search: st the steps, qu the cells in the order in which they were reached, q how many, i of them gone through -/
def BI (v : Vw) (t : Nat) (s : Int) (st qu : Int → Int) (q i : Int) : Prop :=
  (0 ≤ i ∧ i ≤ q ∧ q ≤ 120) ∧ (∀ j, 0 ≤ j → j < q → (0 ≤ qu j ∧ qu j < 120) ∧ 0 ≤ st (qu j)) ∧ (∀ c, 0 ≤ c → c < 120 → -1 ≤ st c ∧ st c ≤ 120 ∧ (st c ≠ -1 → ∃ j, 0 ≤ j ∧ j < q ∧ qu j = c)) ∧
  (∀ j k, 0 ≤ j → j ≤ k → k < q → st (qu j) ≤ st (qu k)) ∧ (i < q → ∀ j, 0 ≤ j → j < q → st (qu j) ≤ st (qu i) + 1) ∧ (∀ c, 0 ≤ c → c < 120 → st c ≠ -1 → rch v t s (st c).toNat c) ∧ st s = 0 ∧
  (∀ j, 0 ≤ j → j < i → ∀ c, 0 ≤ c → c < 120 → kst v t (qu j) c → st c ≠ -1 ∧ st c ≤ st (qu j) + 1) ∧ cnt (fun c => st c ≠ -1) 120 0 = q ∧ (∀ j, 0 ≤ j → j < q → st (qu j) ≤ j)
theorem BI.claim {v : Vw} {t : Nat} {s : Int} {st qu : Int → Int} {q i z : Int} (h : BI v t s st qu q i) (hs : 0 ≤ s ∧ s < 120) (hz : i < q → z ≤ st (qu i) + 1) : ∀ (m : Nat) (c : Int), rch v t s m c → (m : Int) < z → st c ≠ -1 ∧ st c ≤ m := by
  obtain ⟨h1, h2, h3, h4, h5, h6, h7, h8, -⟩ := h
  intro m
  induction m with
  | zero =>
    intro c hc hm
    have e : c = s := hc
    subst e
    exact ⟨by omega, by omega⟩
  | succ m ih =>
    rintro c ⟨hc, b, hb, hr, hk⟩ hm
    obtain ⟨a1, a2⟩ := ih b hr (by omega)
    obtain ⟨j, j1, j2, j3⟩ := (h3 b hb.1 hb.2).2.2 a1
    have hji : j < i := by
      by_cases hi : j < i
      · exact hi
      · exfalso
        have hiq : i < q := by omega
        have := h4 i j h1.1 (by omega) j2
        have := hz hiq
        rw [j3] at *
        omega
    have := h8 j j1 hji c hc.1 hc.2 (by rw [j3]; exact hk)
    rw [j3] at this
    exact ⟨this.1, by omega⟩
theorem BI.least {v : Vw} {t : Nat} {s : Int} {st qu : Int → Int} {q i : Int} (h : BI v t s st qu q i) (hs : 0 ≤ s ∧ s < 120) {c : Int} (hc : 0 ≤ c ∧ c < 120) (hd : st c ≠ -1) : IsWay v t s c (st c) := by
  have h3 := (h.2.2.1 c hc.1 hc.2)
  refine Or.inr ⟨(st c).toNat, by omega, h.2.2.2.2.2.1 c hc.1 hc.2 hd, fun m hm hr => ?_⟩
  obtain ⟨j, j1, j2, j3⟩ := h3.2.2 hd
  have := (h.claim hs (z := st c) (fun hi => by have := h.2.2.2.2.1 hi j j1 j2; rw [j3] at this; exact this) m c hr (by omega)).2
  omega
theorem BI.none {v : Vw} {t : Nat} {s : Int} {st qu : Int → Int} {q i : Int} (h : BI v t s st qu q i) (hs : 0 ≤ s ∧ s < 120) {c : Int} (hi : q ≤ i) (hd : st c = -1) : IsWay v t s c (-19) := by
  refine Or.inl ⟨rfl, fun n hr => ?_⟩
  have := (h.claim hs (z := (n : Int) + 1) (fun q => by omega) n c hr (by omega)).1
  exact this hd
theorem cnt_full {P : Int → Prop} : ∀ (n : Nat) (k c : Int), k ≤ c → c < k + n → ¬ P c → cnt P n k < n
  | 0, k, c, h1, h2, _ => by omega
  | n + 1, k, c, h1, h2, h3 => by
    simp only [cnt]
    have := bi_ge (P k)
    have := cnt_range P n (k + 1)
    by_cases e : c = k
    · subst e; rw [bi_f h3]; omega
    · have := cnt_full n (k + 1) c (by omega) (by omega) h3
      omega
theorem cnt_add {P Q : Int → Prop} : ∀ (n : Nat) (k c : Int), k ≤ c → c < k + n → ¬ P c → Q c → (∀ i, i ≠ c → (P i ↔ Q i)) → cnt Q n k = cnt P n k + 1
  | 0, k, c, h1, h2, _, _, _ => by omega
  | n + 1, k, c, h1, h2, h3, h4, h5 => by
    simp only [cnt]
    by_cases e : c = k
    · subst e
      rw [bi_f h3, bi_t h4, cnt_congr (P := Q) (Q := P) n (c + 1) (fun i a b => (h5 i (by omega)).symm)]
      omega
    · rw [cnt_add n (k + 1) c (by omega) (by omega) h3 h4 h5, bi_iff (h5 k (Ne.symm e))]
      omega
def fset (f : Int → Int) (i x : Int) : Int → Int := fun j => if j = i then x else f j
theorem fset_at {f : Int → Int} {i x : Int} : fset f i x i = x := if_pos rfl
theorem fset_ne {f : Int → Int} {i j x : Int} (h : j ≠ i) : fset f i x j = f j := if_neg h
/-- a cell is reached from the one that is gone through -/
theorem BI.reach {v : Vw} {t : Nat} {s : Int} {st qu : Int → Int} {q i c : Int} (h : BI v t s st qu q i) (hs : 0 ≤ s ∧ s < 120) (hi : i < q) (hc : 0 ≤ c ∧ c < 120) (hk : kst v t (qu i) c) (hn : st c = -1) : q < 120 ∧ BI v t s (fset st c (st (qu i) + 1)) (fset qu q c) (q + 1) i := by
  obtain ⟨h1, h2, h3, h4, h5, h6, h7, h8, h9, h10⟩ := h
  have hq : q < 120 := by
    have := cnt_full (P := fun c => st c ≠ -1) 120 0 c hc.1 (by omega) (fun z => z hn)
    omega
  have hqj : ∀ j, 0 ≤ j → j < q → fset qu q c j = qu j := fun j a b => fset_ne (by omega)
  have hqq : fset qu q c q = c := fset_at
  have hsn : ∀ j, 0 ≤ j → j < q → fset st c (st (qu i) + 1) (qu j) = st (qu j) := fun j a b => fset_ne (fun e => by
    have := (h2 j a b).2
    rw [e] at this; omega)
  have hx := h2 i h1.1 hi
  have hxi := h10 i h1.1 hi
  refine ⟨hq, ⟨h1.1, by omega, by omega⟩, fun j a b => ?_, fun x a b => ?_, fun j k a b d => ?_, fun _ j a b => ?_, fun x a b d => ?_, ?_, fun j a b x x1 x2 x3 => ?_, ?_, fun j a b => ?_⟩
  · by_cases e : j = q
    · subst e; rw [hqq, fset_at]; exact ⟨hc, by omega⟩
    · rw [hqj j a (by omega), hsn j a (by omega)]; exact h2 j a (by omega)
  · by_cases e : x = c
    · subst e
      rw [fset_at]
      exact ⟨by omega, by omega, fun _ => ⟨q, by omega, by omega, hqq⟩⟩
    · rw [fset_ne e]
      obtain ⟨g1, g2, g3⟩ := h3 x a b
      refine ⟨g1, g2, fun g => ?_⟩
      obtain ⟨j, j1, j2, j3⟩ := g3 g
      exact ⟨j, j1, by omega, by rw [hqj j j1 j2]; exact j3⟩
  · by_cases e : k = q
    · subst e
      rw [hqq, fset_at]
      by_cases e2 : j = k
      · subst e2; rw [hqq, fset_at]; omega
      · rw [hqj j a (by omega), hsn j a (by omega)]
        exact h5 hi j a (by omega)
    · rw [hqj j a (by omega), hsn j a (by omega), hqj k (by omega) (by omega), hsn k (by omega) (by omega)]
      exact h4 j k a b (by omega)
  · rw [hqj i h1.1 hi, hsn i h1.1 hi]
    by_cases e : j = q
    · subst e; rw [hqq, fset_at]; omega
    · rw [hqj j a (by omega), hsn j a (by omega)]; exact h5 hi j a (by omega)
  · by_cases e : x = c
    · subst e
      rw [fset_at, show (st (qu i) + 1).toNat = (st (qu i)).toNat + 1 by omega]
      exact ⟨hc, qu i, hx.1, h6 _ hx.1.1 hx.1.2 (by omega), hk⟩
    · rw [fset_ne e] at d ⊢
      exact h6 x a b d
  · rw [fset_ne (fun e => by rw [e] at h7; omega)]; exact h7
  · rw [hqj j a (by omega)] at x3 ⊢
    rw [hsn j a (by omega)]
    obtain ⟨g1, g2⟩ := h8 j a b x x1 x2 x3
    by_cases e : x = c
    · subst e; exact absurd hn g1
    · rw [fset_ne e]; exact ⟨g1, g2⟩
  · rw [cnt_add (P := fun x => st x ≠ -1) 120 0 c hc.1 (by omega) (fun z => z hn) (by show fset st c (st (qu i) + 1) c ≠ -1; rw [fset_at]; omega) (fun x hx => by
      show st x ≠ -1 ↔ fset st c (st (qu i) + 1) x ≠ -1
      rw [fset_ne hx]), h9]
  · by_cases e : j = q
    · subst e; rw [hqq, fset_at]; omega
    · rw [hqj j a (by omega), hsn j a (by omega)]; exact h10 j a (by omega)
theorem BI.next {v : Vw} {t : Nat} {s : Int} {st qu : Int → Int} {q i : Int} (h : BI v t s st qu q i) (hi : i < q) (hall : ∀ c, 0 ≤ c → c < 120 → kst v t (qu i) c → st c ≠ -1 ∧ st c ≤ st (qu i) + 1) : BI v t s st qu q (i + 1) := by
  obtain ⟨h1, h2, h3, h4, h5, h6, h7, h8, h9⟩ := h
  refine ⟨by omega, h2, h3, h4, fun hi2 j a b => ?_, h6, h7, fun j a b => ?_, h9⟩
  · have := h5 hi j a b
    have := h4 i (i + 1) h1.1 (by omega) hi2
    omega
  · by_cases e : j = i
    · subst e; exact hall
    · exact h8 j a (by omega)
theorem BI.start {v : Vw} {t : Nat} {s : Int} (hs : 0 ≤ s ∧ s < 120) {st qu : Int → Int} (h1 : ∀ c, 0 ≤ c → c < 120 → st c = if c = s then 0 else -1) (h2 : qu 0 = s) : BI v t s st qu 1 0 := by
  have es : st s = 0 := by rw [h1 s hs.1 hs.2, if_pos rfl]
  have en : ∀ c, 0 ≤ c → c < 120 → c ≠ s → st c = -1 := fun c a b d => by rw [h1 c a b, if_neg d]
  have j0 : ∀ j : Int, 0 ≤ j → j < 1 → j = 0 := fun j a b => by omega
  refine ⟨by omega, fun j a b => ?_, fun c a b => ?_, fun j k a b d => ?_, fun _ j a b => ?_, fun c a b d => ?_, es, fun j a b => by omega, ?_, fun j a b => ?_⟩
  · rw [j0 j a b, h2, es]; exact ⟨hs, by omega⟩
  · by_cases e : c = s
    · subst e; rw [es]; exact ⟨by omega, by omega, fun _ => ⟨0, by omega, by omega, h2⟩⟩
    · rw [en c a b e]; exact ⟨by omega, by omega, fun q => absurd rfl q⟩
  · rw [j0 j a (by omega), j0 k (by omega) d]; exact Int.le_refl _
  · rw [j0 j a b]; omega
  · by_cases e : c = s
    · subst e; rw [es]; rfl
    · exact absurd (en c a b e) d
  · have key : ∀ (n : Nat) (k : Int), 0 ≤ k → k + n ≤ 120 → cnt (fun c => st c ≠ -1) n k = if k ≤ s ∧ s < k + n then 1 else 0 := by
      intro n
      induction n with
      | zero => intro k a b; rw [if_neg (by omega)]; rfl
      | succ n ih =>
        intro k a b
        simp only [cnt]
        rw [ih (k + 1) (by omega) (by omega)]
        by_cases e : k = s
        · subst e
          rw [bi_t (by rw [es]; omega), if_neg (by omega), if_pos (by omega)]; rfl
        · rw [bi_f (fun z => z (en k a (by omega) e))]
          by_cases d : k + 1 ≤ s ∧ s < k + 1 + n
          · rw [if_pos d, if_pos (by omega)]; rfl
          · rw [if_neg d, if_neg (by omega)]; rfl
    rw [key 120 0 (by omega) (by omega), if_pos (by omega)]
  · rw [j0 j a b, h2, es]; exact Int.le_refl _
