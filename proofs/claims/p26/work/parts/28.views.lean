/-! ===== VIEWS THAT ARE LOOKED AT: what the law asks of them ===== -/
theorem lk1_idem {v : Vw} {s : Int} {i : Nat} {f : Int → Int} : lk1 (lookV v) s i (lk1 v s i f) = lk1 v s i f := by
  funext j
  have hs : sSees v s j = sSees (lookV v) s j := sSees_congr lookV_same s j
  by_cases p : 0 ≤ j ∧ j < 120 ∧ sSees v s j
  · have p2 : 0 ≤ j ∧ j < 120 ∧ sSees (lookV v) s j := by rw [← hs]; exact p
    have e1 : lk1 (lookV v) s i (lk1 v s i f) j = nv (lookV v) s i j := if_pos p2
    have e2 : lk1 v s i f j = nv v s i j := if_pos p
    rw [e1, e2]; exact (nv_congr lookV_same s i j).symm
  · have p2 : ¬ (0 ≤ j ∧ j < 120 ∧ sSees (lookV v) s j) := by rw [← hs]; exact p
    exact if_neg p2
theorem lookV_look (v : Vw) : lookV (lookV v) = lookV v := by
  funext t
  by_cases h1 : 9 ≤ t ∧ t ≤ 12
  · have e : ∀ w : Vw, lookV w t = lk1 w 0 (t - 9) (w t) := fun w => if_pos h1
    rw [e (lookV v), e v]; exact lk1_idem
  · by_cases h2 : 13 ≤ t ∧ t ≤ 16
    · have e : ∀ w : Vw, lookV w t = lk1 w 1 (t - 13) (w t) := fun w => by unfold lookV; rw [if_neg h1, if_pos h2]
      rw [e (lookV v), e v]; exact lk1_idem
    · have e : ∀ w : Vw, lookV w t = w t := fun w => by unfold lookV; rw [if_neg h1, if_neg h2]
      rw [e (lookV v)]
/-- no memory is greater than the fog time -/
def MB (v : Vw) : Prop := ∀ c, v 9 c ≤ v 0 2 ∧ v 13 c ≤ v 0 2
/-- the sides have looked -/
def LK (v : Vw) : Prop := lookV v = v ∧ MB v
theorem MB.look {v : Vw} (h : MB v) : MB (lookV v) := fun c => by
  have key : ∀ (s : Int) (f : Int → Int), f c ≤ v 0 2 → lk1 v s 0 f c ≤ v 0 2 := by
    intro s f hf
    unfold lk1
    split
    · exact Int.le_refl _
    · exact hf
  exact ⟨key 0 (v 9) (h c).1, key 1 (v 13) (h c).2⟩
theorem LK.look {v : Vw} (h : MB v) : LK (lookV v) := ⟨lookV_look v, h.look⟩
def me (v : Vw) (s x : Int) : Int := v (if s = 0 then 9 else 13) x
def kh (v : Vw) (s x : Int) : Int := v (if s = 0 then 10 else 14) x
def kw (v : Vw) (s x : Int) : Int := v (if s = 0 then 11 else 15) x
def ke (v : Vw) (s x : Int) : Int := v (if s = 0 then 12 else 16) x
section KNOWN
variable {v : Vw} {s c r x : Int}
theorem me_0 : me v 0 x = v 9 x := rfl
theorem me_1 : me v 1 x = v 13 x := rfl
theorem me_r (hS : SI v) (hL : MB v) (hs : 0 ≤ s ∧ s ≤ 1) (x : Int) : 0 ≤ me v s x ∧ me v s x ≤ v 0 2 := by
  have : s = 0 ∨ s = 1 := by omega
  rcases this with rfl | rfl
  · rw [me_0]; exact ⟨(hS.r9 x).1, (hL x).1⟩
  · rw [me_1]; exact ⟨(hS.r13 x).1, (hL x).2⟩
theorem kh_r (hS : SI v) (s x : Int) : 0 ≤ kh v s x ∧ kh v s x ≤ 9 := by
  unfold kh; split
  · exact hS.r10 x
  · exact hS.r14 x
theorem kw_r (hS : SI v) (s x : Int) : 0 ≤ kw v s x ∧ kw v s x ≤ 1 := by
  unfold kw; split
  · exact hS.r11 x
  · exact hS.r15 x
theorem ke_r (hS : SI v) (s x : Int) : 0 ≤ ke v s x ∧ ke v s x ≤ 1 := by
  unfold ke; split
  · exact hS.r12 x
  · exact hS.r16 x
theorem qKnown_0 (hs : 0 ≤ s ∧ s ≤ 1) (h : 0 ≤ c ∧ c ≤ 11 ∧ 0 ≤ r ∧ r ≤ 9) : qKnown v s c r 0 = me v s (r * 12 + c) := by
  unfold qKnown; rw [if_pos hs, if_pos h, if_pos rfl]; rfl
theorem qKnown_1 (hs : 0 ≤ s ∧ s ≤ 1) (h : 0 ≤ c ∧ c ≤ 11 ∧ 0 ≤ r ∧ r ≤ 9) : qKnown v s c r 1 = if me v s (r * 12 + c) = 0 then -19 else kh v s (r * 12 + c) := by
  unfold qKnown; rw [if_pos hs, if_pos h, if_neg (by decide), if_pos rfl]; rfl
theorem qKnown_2 (hs : 0 ≤ s ∧ s ≤ 1) (h : 0 ≤ c ∧ c ≤ 11 ∧ 0 ≤ r ∧ r ≤ 9) : qKnown v s c r 2 = if me v s (r * 12 + c) = 0 then -19 else kw v s (r * 12 + c) := by
  unfold qKnown; rw [if_pos hs, if_pos h, if_neg (by decide), if_neg (by decide), if_pos rfl]; rfl
theorem qKnown_3 (hs : 0 ≤ s ∧ s ≤ 1) (h : 0 ≤ c ∧ c ≤ 11 ∧ 0 ≤ r ∧ r ≤ 9) : qKnown v s c r 3 = if me v s (r * 12 + c) = 0 then -19 else ke v s (r * 12 + c) := by
  unfold qKnown; rw [if_pos hs, if_pos h, if_neg (by decide), if_neg (by decide), if_neg (by decide), if_pos rfl]; rfl
theorem qKnown_4 (hs : 0 ≤ s ∧ s ≤ 1) (h : 0 ≤ c ∧ c ≤ 11 ∧ 0 ≤ r ∧ r ≤ 9) : qKnown v s c r 4 = bi (sSees v s (r * 12 + c)) := by
  unfold qKnown; rw [if_pos hs, if_pos h, if_neg (by decide), if_neg (by decide), if_neg (by decide), if_neg (by decide), if_pos rfl]
theorem qCell_0 (h : 0 ≤ c ∧ c ≤ 11 ∧ 0 ≤ r ∧ r ≤ 9) : qCell v c r 0 = v 1 (r * 12 + c) := by unfold qCell; rw [if_pos h, if_pos rfl]
theorem qCell_1 (h : 0 ≤ c ∧ c ≤ 11 ∧ 0 ≤ r ∧ r ≤ 9) : qCell v c r 1 = v 2 (r * 12 + c) := by unfold qCell; rw [if_pos h, if_neg (by decide), if_pos rfl]
theorem qCell_2 (h : 0 ≤ c ∧ c ≤ 11 ∧ 0 ≤ r ∧ r ≤ 9) : qCell v c r 2 = bi (lit v (r * 12 + c)) := by unfold qCell; rw [if_pos h, if_neg (by decide), if_neg (by decide), if_pos rfl]
theorem qCell_3 (h : 0 ≤ c ∧ c ≤ 11 ∧ 0 ≤ r ∧ r ≤ 9) : qCell v c r 3 = sIn v (r * 12 + c) := by unfold qCell; rw [if_pos h, if_neg (by decide), if_neg (by decide), if_neg (by decide), if_pos rfl]
theorem sees_kn (hL : LK v) (hs : 0 ≤ s ∧ s ≤ 1) (hx : 0 ≤ x ∧ x < 120) (p : sSees v s x) : me v s x = v 0 2 ∧ kh v s x = v 1 x ∧ kw v s x = v 2 x ∧ ke v s x = bi (¬ sIn v x = -19 ∧ ¬ v 3 (sIn v x) = s) := by
  have e : ∀ t, lookV v t x = v t x := fun t => congrFun (congrFun hL.1 t) x
  have k : ∀ (i : Nat) (f : Int → Int), lk1 v s i f x = nv v s i x := fun i f => if_pos ⟨hx.1, hx.2, p⟩
  have : s = 0 ∨ s = 1 := by omega
  rcases this with rfl | rfl
  · exact ⟨(e 9).symm.trans (k 0 _), (e 10).symm.trans (k 1 _), (e 11).symm.trans (k 2 _), (e 12).symm.trans (k 3 _)⟩
  · exact ⟨(e 13).symm.trans (k 0 _), (e 14).symm.trans (k 1 _), (e 15).symm.trans (k 2 _), (e 16).symm.trans (k 3 _)⟩
end KNOWN
/-! counts from the left -/
theorem cnt_snoc (P : Int → Prop) : ∀ (n : Nat) (k : Int), cnt P (n + 1) k = cnt P n k + bi (P (k + n))
  | 0, k => by
    show bi (P k) + 0 = 0 + bi (P (k + ((0 : Nat) : Int)))
    rw [show k + ((0 : Nat) : Int) = k by omega]; omega
  | n + 1, k => by
    have e1 : cnt P (n + 1 + 1) k = bi (P k) + cnt P (n + 1) (k + 1) := rfl
    have e2 : cnt P (n + 1) k = bi (P k) + cnt P n (k + 1) := rfl
    rw [e1, cnt_snoc P n (k + 1), e2, show k + 1 + (n : Int) = k + ((n + 1 : Nat) : Int) by omega]; omega
theorem cP_step {P : Int → Prop} {n : Int} (h : 0 ≤ n) : cnt P (n + 1).toNat 0 = cnt P n.toNat 0 + bi (P n) := by
  rw [show (n + 1).toNat = n.toNat + 1 by omega, cnt_snoc, show (0 : Int) + (n.toNat : Int) = n by omega]
theorem cP_r (P : Int → Prop) {n : Int} (h : 0 ≤ n) : 0 ≤ cnt P n.toNat 0 ∧ cnt P n.toNat 0 ≤ n := by
  have := cnt_range P n.toNat 0
  omega
/-! scouts -/
section SCOUTS
variable {v : Vw} {k : Int}
theorem sIn_own (h : SI v) (hk : 0 ≤ k ∧ k < v 0 0) : sIn v (v 4 k) = k := by
  rcases sIn_range h (v 4 k) with e | ⟨a, b, e⟩
  · exact absurd rfl ((sIn_none h).mp e k hk.1 hk.2)
  · by_cases q : sIn v (v 4 k) = k
    · exact q
    · exfalso
      by_cases q2 : sIn v (v 4 k) < k
      · exact h.ne a q2 hk.2 e
      · exact h.ne hk.1 (by omega) b e.symm
theorem dist_self (a : Int) : dist a a = 0 := by simp [dist, imax, iabs]
theorem sees_own (h : SI v) (hk : 0 ≤ k ∧ k < v 0 0) : sees v k (v 4 k) := by
  refine ⟨Or.inl ?_, fun i h1 h2 => ?_⟩
  · rw [dist_self]; exact (h.r5 k).1
  · rw [dist_self] at h2; omega
theorem sSees_own (h : SI v) (hk : 0 ≤ k ∧ k < v 0 0) : sSees v (v 3 k) (v 4 k) := ⟨k, hk.1, hk.2, sees_own h hk, rfl⟩
theorem qScout_0 (hk : 0 ≤ k ∧ k < v 0 0) : qScout v k 0 = v 3 k := by unfold qScout; rw [if_pos (by omega), if_pos rfl]
theorem qScout_1 (hk : 0 ≤ k ∧ k < v 0 0) : qScout v k 1 = v 4 k % 12 := by unfold qScout; rw [if_pos (by omega), if_neg (by decide), if_pos rfl]
theorem qScout_2 (hk : 0 ≤ k ∧ k < v 0 0) : qScout v k 2 = v 4 k / 12 := by unfold qScout; rw [if_pos (by omega), if_neg (by decide), if_neg (by decide), if_pos rfl]
theorem qScout_3 (hk : 0 ≤ k ∧ k < v 0 0) : qScout v k 3 = v 5 k := by unfold qScout; rw [if_pos (by omega), if_neg (by decide), if_neg (by decide), if_neg (by decide), if_pos rfl]
theorem qScout_4 (hk : 0 ≤ k ∧ k < v 0 0) : qScout v k 4 = cnt (fun c => sees v k c) 120 0 := by unfold qScout; rw [if_pos (by omega), if_neg (by decide), if_neg (by decide), if_neg (by decide), if_neg (by decide), if_pos rfl]
theorem qScout_5 (hk : 0 ≤ k ∧ k < v 0 0) : qScout v k 5 = bi (sSees v (1 - v 3 k) (v 4 k)) := by unfold qScout; rw [if_pos (by omega), if_neg (by decide), if_neg (by decide), if_neg (by decide), if_neg (by decide), if_neg (by decide), if_pos rfl]
theorem qCount_0 {z tl : Int} : qCount v z tl 0 = v 0 0 := rfl
theorem qCount_3 {z tl : Int} : qCount v z tl 3 = cnt (fun c => lit v c) 120 0 := rfl
theorem qCount_4 {z tl : Int} : qCount v z tl 4 = v 0 2 := rfl
theorem qCount_5 {z tl : Int} : qCount v z tl 5 = v 0 3 := rfl
theorem qCount_6 {z tl s : Int} (hs : 0 ≤ s ∧ s ≤ 1) : qCount v z tl (6 + s) = cnt (fun c => sSees v s c) 120 0 := by
  have : s = 0 ∨ s = 1 := by omega
  rcases this with rfl | rfl <;> rfl
theorem qCount_8 {z tl s : Int} (hs : 0 ≤ s ∧ s ≤ 1) : qCount v z tl (8 + s) = cnt (fun c => 0 < me v s c) 120 0 := by
  have : s = 0 ∨ s = 1 := by omega
  rcases this with rfl | rfl <;> rfl
theorem qAlone_le (hk : 0 ≤ k ∧ k < v 0 0) : 0 ≤ qAlone v k ∧ qAlone v k ≤ cnt (fun c => sees v k c) 120 0 := by
  unfold qAlone
  rw [if_pos (by omega)]
  exact ⟨(cnt_range _ 120 0).1, (cnt_le 120 0 (fun i q => q.1)).1⟩
theorem scout_le (hk : 0 ≤ k ∧ k < v 0 0) : cnt (fun c => sees v k c) 120 0 ≤ cnt (fun c => sSees v (v 3 k) c) 120 0 := (cnt_le 120 0 (fun i q => ⟨k, hk.1, hk.2, q, rfl⟩)).1
theorem look_spec (h : SI v) (hk : 0 ≤ k ∧ k < v 0 0) {dd : Int} (hd : 0 ≤ dd ∧ dd ≤ 11) : ∃ x, (0 ≤ x ∧ x < 120) ∧ qLook v k dd = 100 * (x % 12) + x / 12 ∧ dist (v 4 k) x ≤ dd ∧ v 2 x = 0 := by
  unfold qLook
  rw [if_pos (by omega), if_pos hd]
  have R : (fun (s : Int × Int) (_ : Unit) => (0 ≤ s.1 ∧ s.1 < 120) ∧ dist (v 4 k) s.1 ≤ dd ∧ v 2 s.1 = 0) (lkc (stF v (v 4 k) (v 5 k) dd) 12 0 (v 4 k, 0)) (lkc (fun (_ : Int) (t : Unit) => t) 12 0 ()) := by
    refine lkc_rel (g := fun (_ : Int) (t : Unit) => t) (t := ()) (R := fun (s : Int × Int) (_ : Unit) => (0 ≤ s.1 ∧ s.1 < 120) ∧ dist (v 4 k) s.1 ≤ dd ∧ v 2 s.1 = 0) (fun x s t hx hs => ?_) 12 0 _ (by omega) (by omega) ?_
    · by_cases p : lkP v (v 4 k) dd x ∧ s.2 < seenC v (v 5 k) x
      · have e : stF v (v 4 k) (v 5 k) dd x s = (x, seenC v (v 5 k) x) := if_pos p
        rw [e]
        refine ⟨hx, p.1.1, ?_⟩
        rcases p.1.2 with q | q
        · show v 2 x = 0
          rw [q]; exact (h.on hk.1 hk.2).2
        · exact q.1
      · have e : stF v (v 4 k) (v 5 k) dd x s = s := if_neg p
        rw [e]; exact hs
    · refine ⟨h.r4 k, ?_, (h.on hk.1 hk.2).2⟩
      show dist (v 4 k) (v 4 k) ≤ dd
      rw [dist_self]; exact hd.1
  exact ⟨_, R.1, rfl, R.2.1, R.2.2⟩
theorem dist_bd {a b d : Int} (h : dist a b ≤ d) : (a % 12 - b % 12 ≤ d ∧ b % 12 - a % 12 ≤ d) ∧ a / 12 - b / 12 ≤ d ∧ b / 12 - a / 12 ≤ d := by
  have h1 := imax_r (a := iabs (a % 12 - b % 12)) (b := iabs (a / 12 - b / 12))
  have h2 := iabs_r (a := a % 12 - b % 12)
  have h3 := iabs_r (a := a / 12 - b / 12)
  unfold dist at h
  omega
theorem look_own (h : SI v) (hk : 0 ≤ k ∧ k < v 0 0) : qLook v k 0 = 100 * (v 4 k % 12) + v 4 k / 12 := by
  obtain ⟨x, hx, e, hd, -⟩ := look_spec h hk (dd := 0) (by omega)
  have := dist_bd hd
  rw [e]; omega
/-! ways -/
theorem way_is (v : Vw) (t : Nat) (s c : Int) : IsWay v t s c (wayS v t s c) := Classical.choose_spec (isWay_ex v t s c)
theorem way_own (v : Vw) (t : Nat) (s : Int) : wayS v t s s = 0 := (wayS_eq (r := 0) (Or.inr ⟨0, rfl, rfl, fun m hm => by omega⟩)).symm
theorem rch_far {v : Vw} {t : Nat} {s : Int} : ∀ (n : Nat) (c : Int), rch v t s n c → s % 12 - c % 12 ≤ n ∧ c % 12 - s % 12 ≤ n
  | 0, c, h => by
    have e : c = s := h
    subst e; omega
  | n + 1, c, ⟨hc, b, hb, hr, hk⟩ => by
    have := rch_far n b hr
    have := (dist_bd (show dist b c ≤ 1 by rw [hk.1]; omega)).1
    omega
theorem rch_back {v : Vw} {t : Nat} {s : Int} (hs : 0 ≤ s ∧ s < 120) : ∀ (n : Nat) (c : Int), rch v t s n c → (∀ m, m < n → ¬ rch v t s m c) → ∀ m, m ≤ n → ∃ x, (0 ≤ x ∧ x < 120) ∧ rch v t s m x ∧ ∀ j, j < m → ¬ rch v t s j x
  | 0, c, h, _, m, hm => by
    have e : m = 0 := by omega
    subst e
    exact ⟨s, hs, rfl, fun j hj => by omega⟩
  | n + 1, c, h, hmin, m, hm => by
    obtain ⟨hc, b, hb, hr, hk⟩ := h
    by_cases e : m = n + 1
    · subst e
      exact ⟨c, hc, ⟨hc, b, hb, hr, hk⟩, hmin⟩
    · exact rch_back hs n b hr (fun j hj q => hmin (j + 1) (by omega) ⟨hc, b, hb, q, hk⟩) m (by omega)
theorem way_r (v : Vw) (t : Nat) {s c : Int} (hs : 0 ≤ s ∧ s < 120) : -19 ≤ wayS v t s c ∧ wayS v t s c ≤ 119 := by
  rcases way_is v t s c with ⟨e, -⟩ | ⟨n, e, hr, hmin⟩
  · rw [e]; omega
  · rw [e]
    have hb := rch_back hs n c hr hmin
    have key : ∀ m : Nat, m ≤ n → (m : Int) + 1 ≤ cnt (fun x => ∃ j, j ≤ m ∧ rch v t s j x) 120 0 := by
      intro m
      induction m with
      | zero =>
        intro _
        have h1 := cnt_le (P := fun x => ∃ j, j ≤ 0 ∧ rch v t s j x) (Q := fun _ => False) 120 0 (fun i q => q.elim)
        have h2 := cnt_range (fun _ => False) 120 0
        by_cases q : cnt (fun x => ∃ j, j ≤ 0 ∧ rch v t s j x) 120 0 ≤ 0
        · exact (h1.2 (by omega) s hs.1 (by omega) ⟨0, Nat.le_refl _, rfl⟩).elim
        · omega
      | succ m ih =>
        intro hm
        have := ih (by omega)
        have h1 := cnt_le (P := fun x => ∃ j, j ≤ m + 1 ∧ rch v t s j x) (Q := fun x => ∃ j, j ≤ m ∧ rch v t s j x) 120 0 (fun i ⟨j, a, b⟩ => ⟨j, by omega, b⟩)
        obtain ⟨x, hx, hx1, hx2⟩ := hb (m + 1) hm
        by_cases q : cnt (fun x => ∃ j, j ≤ m + 1 ∧ rch v t s j x) 120 0 - cnt (fun x => ∃ j, j ≤ m ∧ rch v t s j x) 120 0 ≤ 0
        · obtain ⟨j, j1, j2⟩ := h1.2 q x hx.1 (by omega) ⟨m + 1, Nat.le_refl _, hx1⟩
          exact absurd j2 (hx2 j (by omega))
        · omega
    have h1 := key n (Nat.le_refl _)
    have h2 := cnt_range (fun x => ∃ j, j ≤ n ∧ rch v t s j x) 120 0
    omega
theorem way_far {v : Vw} {t : Nat} {s c : Int} (hne : c ≠ s) (h : 0 ≤ wayS v t s c) : (s % 12 - c % 12 ≤ wayS v t s c ∧ c % 12 - s % 12 ≤ wayS v t s c) ∧ 0 < v t c ∧ v (t + 2) c = 0 := by
  rcases way_is v t s c with ⟨e, -⟩ | ⟨n, e, hr, -⟩
  · omega
  · have := rch_far n c hr
    refine ⟨by omega, ?_⟩
    cases n with
    | zero => exact absurd hr hne
    | succ n =>
      obtain ⟨-, b, -, -, hk⟩ := hr
      exact ⟨hk.2.1, hk.2.2.1⟩
theorem qWay_eq {c r : Int} (hk : 0 ≤ k ∧ k < v 0 0) (h : 0 ≤ c ∧ c ≤ 11 ∧ 0 ≤ r ∧ r ≤ 9) : qWay v k c r = wayS v (if v 3 k = 0 then 9 else 13) (v 4 k) (r * 12 + c) := by
  unfold qWay; rw [if_pos (by omega), if_pos h]
theorem qWay_own (hS : SI v) (hk : 0 ≤ k ∧ k < v 0 0) : qWay v k (v 4 k % 12) (v 4 k / 12) = 0 := by
  have := hS.r4 k
  rw [qWay_eq hk (by omega), show v 4 k / 12 * 12 + v 4 k % 12 = v 4 k by omega]; exact way_own _ _ _
theorem qWay_far (hS : SI v) (hk : 0 ≤ k ∧ k < v 0 0) {c r : Int} (h : 0 ≤ c ∧ c ≤ 11 ∧ 0 ≤ r ∧ r ≤ 9) (hne : r * 12 + c ≠ v 4 k) : (-19 ≤ qWay v k c r ∧ qWay v k c r ≤ 119) ∧ (0 ≤ qWay v k c r → (v 4 k % 12 - c ≤ qWay v k c r ∧ c - v 4 k % 12 ≤ qWay v k c r) ∧ 0 < me v (v 3 k) (r * 12 + c) ∧ kw v (v 3 k) (r * 12 + c) = 0) := by
  rw [qWay_eq hk h]
  refine ⟨way_r _ _ (hS.r4 k), fun h0 => ?_⟩
  have q := way_far hne h0
  rw [show (r * 12 + c) % 12 = c by omega] at q
  refine ⟨q.1, ?_⟩
  have := hS.r3 k
  have : v 3 k = 0 ∨ v 3 k = 1 := by omega
  rcases this with e | e
  · rw [e] at q ⊢; exact q.2
  · rw [e] at q ⊢; exact q.2
end SCOUTS
