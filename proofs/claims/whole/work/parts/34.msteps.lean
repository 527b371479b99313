/-! ===== the model's ways, round by round ===== -/
theorem mr_add (s : Int) (t : Nat) : mr s t = mr s 0 + t := by unfold mr; split <;> omega
theorem wmx {S : Int → Int} {v : Vw} (h : WM S v) {s j : Int} {t : Nat} (ht : t ≤ 3) (hs : 0 ≤ s ∧ s ≤ 1) (hj : 0 ≤ j ∧ j < 120) {i : Int} (hi : i = 308 + 240 * t + 120 * s + j) : S i = v (mr s 0 + t) j := by
  rw [hi, wm h ht hs hj, mr_add]
theorem mr_bd1 {v : Vw} (hS : SI v) {s i : Int} : 0 ≤ v (mr s 0 + 1) i ∧ v (mr s 0 + 1) i ≤ 9 := by
  rw [← mr_add]; unfold mr; split
  · exact hS.r10 i
  · exact hS.r14 i
theorem mr_bd2 {v : Vw} (hS : SI v) {s i : Int} : 0 ≤ v (mr s 0 + 2) i ∧ v (mr s 0 + 2) i ≤ 1 := by
  rw [← mr_add]; unfold mr; split
  · exact hS.r11 i
  · exact hS.r15 i
theorem mr_bd3 {v : Vw} (hS : SI v) {s i : Int} : 0 ≤ v (mr s 0 + 3) i ∧ v (mr s 0 + 3) i ≤ 1 := by
  rw [← mr_add]; unfold mr; split
  · exact hS.r12 i
  · exact hS.r16 i
noncomputable def NC (St : Int → Int) : Int := cnt (fun c => (0 ≤ c ∧ c < 120) ∧ St c = -19) 120 0
/-- at the begin of round r -/
def FW (v : Vw) (t : Nat) (s : Int) (St : Int → Int) (r : Int) : Prop := (∀ c, 0 ≤ c → c < 120 → St c = -19 ∨ (0 ≤ St c ∧ St c ≤ r)) ∧ (∀ c, 0 ≤ c → c < 120 → St c ≠ -19 → IsWay v t s c (St c)) ∧ (∀ (n : Nat) c, (n : Int) ≤ r → rch v t s n c → St c ≠ -19)
def FE (v : Vw) (t : Nat) (s : Int) (St : Int → Int) : Prop := ∀ c, 0 ≤ c → c < 120 → St c = -19 → ∀ n, ¬ rch v t s n c
/-- cell c is reached from a cell of round r -/
def stp (v : Vw) (t : Nat) (St : Int → Int) (r c : Int) : Prop := ∃ b, (0 ≤ b ∧ b < 120) ∧ St b = r ∧ kst v t b c
/-- within round r, the cells below k gone through -/
def TI (v : Vw) (t : Nat) (St S1 : Int → Int) (go r k : Int) : Prop := (∀ c, 0 ≤ c → c < 120 → ((c < k ∧ St c = -19 ∧ stp v t St r c) → S1 c = r + 1) ∧ (¬ (c < k ∧ St c = -19 ∧ stp v t St r c) → S1 c = St c)) ∧ (go = 0 ∨ go = 1) ∧ (go = 1 ↔ ∃ c, 0 ≤ c ∧ c < k ∧ c < 120 ∧ St c = -19 ∧ stp v t St r c)
section FS1
variable {v : Vw} {t : Nat} {s : Int} {St S1 : Int → Int} {r go k f : Int}
theorem rch_cell (hs : 0 ≤ s ∧ s < 120) {n : Nat} {c : Int} (h : rch v t s n c) : 0 ≤ c ∧ c < 120 := by
  cases n with
  | zero => rw [show c = s from h]; exact hs
  | succ n => exact h.1
theorem FW.start (hs : 0 ≤ s ∧ s < 120) (h : ∀ c, 0 ≤ c → c < 120 → St c = if c = s then 0 else -19) : FW v t s St 0 := by
  refine ⟨fun c a b => ?_, fun c a b q => ?_, fun n c hn hr => ?_⟩
  · rw [h c a b]; split <;> omega
  · rw [h c a b] at q ⊢
    by_cases e : c = s
    · rw [if_pos e]; exact Or.inr ⟨0, rfl, e, fun m hm => absurd hm (by omega)⟩
    · rw [if_neg e] at q; exact absurd rfl q
  · have : n = 0 := by omega
    subst this
    have e : c = s := hr
    rw [h c (by omega) (by omega), if_pos e]; decide
theorem NC_le : 0 ≤ NC St ∧ NC St ≤ 120 := cnt_range _ 120 0
theorem TI.start : TI v t St St 0 r 0 := ⟨fun c a b => ⟨fun q => by omega, fun _ => rfl⟩, Or.inl rfl, ⟨fun q => absurd q (by decide), fun ⟨c, a, b, _⟩ => by omega⟩⟩
theorem TI.next (h : TI v t St S1 go r k) (h0 : 0 ≤ k ∧ k < 120) (hn : ¬ (St k = -19 ∧ stp v t St r k)) : TI v t St S1 go r (k + 1) := by
  refine ⟨fun c a b => ⟨fun q => ?_, fun q => ?_⟩, h.2.1, ⟨fun q => ?_, fun ⟨c, a, b, c1, d, e⟩ => ?_⟩⟩
  · by_cases e : c = k
    · subst e; exact absurd q.2 hn
    · exact (h.1 c a b).1 ⟨by omega, q.2⟩
  · refine (h.1 c a b).2 fun z => q ⟨by omega, z.2⟩
  · obtain ⟨c, a, b, c1, d⟩ := h.2.2.mp q
    exact ⟨c, a, by omega, c1, d⟩
  · by_cases e2 : c = k
    · subst e2; exact absurd ⟨d, e⟩ hn
    · exact h.2.2.mpr ⟨c, a, by omega, c1, d, e⟩
theorem TI.at (h : TI v t St S1 go r k) {c : Int} (hc : 0 ≤ c ∧ c < 120) (hk : k ≤ c) : S1 c = St c := (h.1 c hc.1 hc.2).2 fun q => by omega
/-- what a step of round r sees of a cell of round r -/
theorem TI.old (h : TI v t St S1 go r k) (hr : 0 ≤ r) {c : Int} (hc : 0 ≤ c ∧ c < 120) : S1 c = r ↔ St c = r := by
  by_cases q : c < k ∧ St c = -19 ∧ stp v t St r c
  · rw [(h.1 c hc.1 hc.2).1 q]; omega
  · rw [(h.1 c hc.1 hc.2).2 q]
theorem TI.set (h : TI v t St S1 go r k) (h0 : 0 ≤ k ∧ k < 120) (hn : St k = -19) (hp : stp v t St r k) {S2 : Int → Int} (h2 : ∀ i, S2 i = if i = k then r + 1 else S1 i) : TI v t St S2 1 r (k + 1) := by
  refine ⟨fun c a b => ⟨fun q => ?_, fun q => ?_⟩, Or.inr rfl, ⟨fun _ => ⟨k, h0.1, by omega, h0.2, hn, hp⟩, fun _ => rfl⟩⟩
  · rw [h2]
    by_cases e : c = k
    · rw [if_pos e]
    · rw [if_neg e]; exact (h.1 c a b).1 ⟨by omega, q.2⟩
  · have e : c ≠ k := fun e => q ⟨by omega, by rw [e]; exact ⟨hn, hp⟩⟩
    rw [h2, if_neg e]; exact (h.1 c a b).2 fun z => q ⟨by omega, z.2⟩
/-- within a cell, its first f forerunners gone through -/
def RI (v : Vw) (t : Nat) (St S1 : Int → Int) (go r k f : Int) : Prop := (TI v t St S1 go r k ∧ (S1 k = -19 → ∀ b, 0 ≤ b → b < f → ¬ (St b = r ∧ kst v t b k))) ∨ (TI v t St S1 go r (k + 1) ∧ S1 k ≠ -19)
theorem RI.start (h : TI v t St S1 go r k) : RI v t St S1 go r k 0 := Or.inl ⟨h, fun _ b a c => by omega⟩
theorem RI.exit (h : RI v t St S1 go r k f) (h0 : 0 ≤ k ∧ k < 120) (hx : f = 120 ∨ S1 k ≠ -19) : TI v t St S1 go r (k + 1) := by
  rcases h with ⟨h, hb⟩ | ⟨h, -⟩
  · refine h.next h0 fun q => ?_
    have e := h.at h0 (Int.le_refl _)
    have e2 : S1 k = -19 := e.trans q.1
    rcases hx with hx | hx
    · obtain ⟨b, b0, b1, b2⟩ := q.2
      exact hb e2 b b0.1 (by omega) ⟨b1, b2⟩
    · exact hx e2
  · exact h
theorem RI.skip (h : RI v t St S1 go r k f) (hk : S1 k = -19) (hn : ¬ (St f = r ∧ kst v t f k)) : RI v t St S1 go r k (f + 1) := by
  rcases h with ⟨h, hb⟩ | ⟨-, hb⟩
  · refine Or.inl ⟨h, fun e b a c => ?_⟩
    by_cases e2 : b = f
    · rw [e2]; exact hn
    · exact hb e b a (by omega)
  · exact absurd hk hb
theorem RI.ti (h : RI v t St S1 go r k f) (hk : S1 k = -19) : TI v t St S1 go r k := by
  rcases h with ⟨h, -⟩ | ⟨-, hb⟩
  · exact h
  · exact absurd hk hb
theorem RI.hit (h : RI v t St S1 go r k f) (h0 : 0 ≤ k ∧ k < 120) (hf : 0 ≤ f ∧ f < 120) (hr : 0 ≤ r) (hk : S1 k = -19) (hs : St f = r) (hn : kst v t f k) {S2 : Int → Int} (h2 : ∀ i, S2 i = if i = k then r + 1 else S1 i) : RI v t St S2 1 r k (f + 1) := by
  have ht := h.ti hk
  refine Or.inr ⟨ht.set h0 ((ht.at h0 (Int.le_refl _)).symm.trans hk) ⟨f, hf, hs, hn⟩ h2, ?_⟩
  rw [h2, if_pos rfl]; omega
theorem RI.bd (h : RI v t St S1 go r k f) (hF : FW v t s St r) (hr : 0 ≤ r ∧ r ≤ 120) {c : Int} (hc : 0 ≤ c ∧ c < 120) : -19 ≤ S1 c ∧ S1 c ≤ 121 := by
  have hh : ∀ k, TI v t St S1 go r k → -19 ≤ S1 c ∧ S1 c ≤ 121 := fun k h => by
    have h1 := hF.1 c hc.1 hc.2
    by_cases q : c < k ∧ St c = -19 ∧ stp v t St r c
    · rw [(h.1 c hc.1 hc.2).1 q]; omega
    · rw [(h.1 c hc.1 hc.2).2 q]; omega
  rcases h with ⟨h, -⟩ | ⟨h, -⟩
  · exact hh _ h
  · exact hh _ h
theorem isWay_nat {c x : Int} (h : IsWay v t s c x) (hx : x ≠ -19) : ∃ n : Nat, x = n ∧ rch v t s n c ∧ ∀ m, m < n → ¬ rch v t s m c := by
  rcases h with ⟨e, -⟩ | h
  · exact absurd e hx
  · exact h
theorem TI.done (hs : 0 ≤ s ∧ s < 120) (hF : FW v t s St r) (h : TI v t St S1 go r 120) (hr : 0 ≤ r) : FW v t s S1 (r + 1) := by
  obtain ⟨f1, f2, f3⟩ := hF
  refine ⟨fun c a b => ?_, fun c a b q => ?_, fun n c hn hc => ?_⟩
  · have := f1 c a b
    by_cases z : c < 120 ∧ St c = -19 ∧ stp v t St r c
    · rw [(h.1 c a b).1 z]; omega
    · rw [(h.1 c a b).2 z]; omega
  · by_cases z : c < 120 ∧ St c = -19 ∧ stp v t St r c
    · rw [(h.1 c a b).1 z]
      obtain ⟨b0, hb, hb1, hb2⟩ := z.2.2
      obtain ⟨n, e1, e2, -⟩ := isWay_nat (f2 b0 hb.1 hb.2 (by omega)) (by omega)
      refine Or.inr ⟨n + 1, by omega, ⟨⟨a, b⟩, b0, hb, e2, hb2⟩, fun m hm hr2 => ?_⟩
      exact f3 m c (by omega) hr2 z.2.1
    · rw [(h.1 c a b).2 z] at q ⊢; exact f2 c a b q
  · have hcc := rch_cell hs hc
    by_cases z : c < 120 ∧ St c = -19 ∧ stp v t St r c
    · rw [(h.1 c hcc.1 hcc.2).1 z]; omega
    · rw [(h.1 c hcc.1 hcc.2).2 z]
      by_cases hn2 : (n : Int) ≤ r
      · exact f3 n c hn2 hc
      · intro e
        cases n with
        | zero => omega
        | succ n =>
          obtain ⟨-, b, hb, hb1, hb2⟩ := hc
          have hne := f3 n b (by omega) hb1
          obtain ⟨m, e1, e2, e3⟩ := isWay_nat (f2 b hb.1 hb.2 hne) hne
          by_cases hmr : St b = r
          · exact z ⟨hcc.2, e, b, hb, hmr, hb2⟩
          · have := f1 b hb.1 hb.2
            exact f3 (m + 1) c (by omega) ⟨hcc, b, hb, e2, hb2⟩ e
theorem TI.closed (hs : 0 ≤ s ∧ s < 120) (hF : FW v t s St r) (h : TI v t St S1 0 r 120) (hr : 0 ≤ r) : FE v t s S1 := by
  obtain ⟨f1, f2, f3⟩ := hF
  have hno : ∀ c, 0 ≤ c → c < 120 → ¬ (St c = -19 ∧ stp v t St r c) := fun c a b q => absurd (h.2.2.mpr ⟨c, a, b, b, q⟩) (by decide)
  have heq : ∀ c, 0 ≤ c → c < 120 → S1 c = St c := fun c a b => (h.1 c a b).2 fun q => hno c a b q.2
  have key : ∀ (n : Nat) c, rch v t s n c → St c ≠ -19 := by
    intro n
    induction n with
    | zero => intro c hc; exact f3 0 c (by omega) hc
    | succ n ih =>
      rintro c ⟨hcc, b, hb, hb1, hb2⟩ e
      have hne := ih b hb1
      obtain ⟨m, e1, e2, e3⟩ := isWay_nat (f2 b hb.1 hb.2 hne) hne
      by_cases hmr : St b = r
      · exact hno c hcc.1 hcc.2 ⟨e, b, hb, hmr, hb2⟩
      · have := f1 b hb.1 hb.2
        exact f3 (m + 1) c (by omega) ⟨hcc, b, hb, e2, hb2⟩ e
  exact fun c a b q n hr2 => key n c hr2 ((heq c a b).symm.trans q)
theorem TI.less (h : TI v t St S1 1 r 120) (hr : 0 ≤ r) : NC S1 + 1 ≤ NC St := by
  have sub : ∀ i, ((0 ≤ i ∧ i < 120) ∧ S1 i = -19) → ((0 ≤ i ∧ i < 120) ∧ St i = -19) := fun i ⟨a, q⟩ => by
    refine ⟨a, ?_⟩
    by_cases z : i < 120 ∧ St i = -19 ∧ stp v t St r i
    · exact z.2.1
    · rw [← (h.1 i a.1 a.2).2 z]; exact q
  have hl := cnt_le (P := fun c => (0 ≤ c ∧ c < 120) ∧ St c = -19) (Q := fun c => (0 ≤ c ∧ c < 120) ∧ S1 c = -19) 120 0 sub
  obtain ⟨c, a, b, -, d, e⟩ := h.2.2.mp rfl
  by_cases hle : NC St - NC S1 ≤ 0
  · have := (hl.2 hle c a (by omega) ⟨⟨a, b⟩, d⟩).2
    rw [(h.1 c a b).1 ⟨b, d, e⟩] at this
    omega
  · omega
theorem FW.way (hF : FW v t s St r) (hC : FE v t s St) {c : Int} (hc : 0 ≤ c ∧ c < 120) : St c = wayS v t s c := by
  by_cases e : St c = -19
  · rw [e]; exact wayS_eq (Or.inl ⟨rfl, hC c hc.1 hc.2 e⟩)
  · exact wayS_eq (hF.2.1 c hc.1 hc.2 e)
end FS1
