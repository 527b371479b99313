/-! ===== what an action does to a view, whatever the history is ===== -/
/-- f answers r, and leaves w and one state more in the history, or is refused and leaves all; r and w come of the view alone; D holds of the turns that pass -/
def AC (v : Vw) (f : AbS → Int × AbS) (D : Int → Prop) : Prop := ∃ (r : Int) (w : Vw), (∀ (z : Int) (H : Int → Vw) (tl : Int) (T : Int → Int), f (v, z, H, tl, T) = (r, if r < 0 then (v, z, H, tl, T) else (w, imin (z + 1) 5, pushH H z v, tl, T))) ∧ (-19 ≤ r ∧ r ≤ 1000) ∧ (0 ≤ r → LK w ∧ SI w ∧ D (w 0 3 - v 0 3))
section AC0
variable {v w : Vw} {f : AbS → Int × AbS} {D : Int → Prop} {x : Int}
theorem AC.neg (hx : -19 ≤ x ∧ x < 0) (h : ∀ z H tl T, f (v, z, H, tl, T) = (x, (v, z, H, tl, T))) : AC v f D := ⟨x, v, fun z H tl T => by rw [h, if_pos hx.2], by omega, fun q => by omega⟩
theorem AC.pos' (hx : 0 ≤ x ∧ x ≤ 1000) (h : ∀ (z : Int) (H : Int → Vw) (tl : Int) (T : Int → Int), f (v, z, H, tl, T) = (x, (w, imin (z + 1) 5, pushH H z v, tl, T))) (hL : LK w) (hS : SI w) (hD : D (w 0 3 - v 0 3)) : AC v f D := ⟨x, w, fun z H tl T => by rw [h, if_neg (by omega)], by omega, fun _ => ⟨hL, hS, hD⟩⟩
theorem AC.pos (hx : 0 ≤ x ∧ x ≤ 1000) (h : ∀ z H tl T, f (v, z, H, tl, T) = (x, actS (v, z, H, tl, T) w)) (hM : MB w) (hS : SI w) (hD : w 0 3 = v 0 3) : AC v f (fun d => d = 0) := AC.pos' (w := lookV w) hx h (LK.look hM) hS.look (by rw [lookV_lo (by decide)]; omega)
theorem MB.same (h : MB v) (h9 : w 9 = v 9) (h13 : w 13 = v 13) (h2 : w 0 2 = v 0 2) : MB w := fun c => by rw [h9, h13, h2]; exact h c
theorem MB.set {t : Nat} {i x : Int} (h : MB v) (ht : 1 ≤ t ∧ t ≤ 8) : MB (vset v t i x) := h.same (vset_ne (by omega)) (vset_ne (by omega)) (by rw [vset_ne (by omega)])
theorem ac_height (hS : SI v) (hL : MB v) (c r x : Int) : AC v (fun s => oHeight s c r x) (fun d => d = 0) := by
  by_cases p : 0 ≤ c ∧ c ≤ 11 ∧ 0 ≤ r ∧ r ≤ 9
  · by_cases q : 0 ≤ x ∧ x ≤ 9
    · have := hS.r1 (r * 12 + c)
      exact AC.pos (x := v 1 (r * 12 + c)) (w := vset v 1 (r * 12 + c) x) (by omega) (fun z H tl T => by unfold oHeight; rw [if_pos p, if_pos q]) (hL.set (by decide)) (hS.height q) rfl
    · exact AC.neg (x := -11) (by decide) (fun z H tl T => by unfold oHeight; rw [if_pos p, if_neg q])
  · exact AC.neg (x := -11) (by decide) (fun z H tl T => by unfold oHeight; rw [if_neg p])
theorem ac_wall (hS : SI v) (hL : MB v) (c r x : Int) : AC v (fun s => oWall s c r x) (fun d => d = 0) := by
  by_cases p : 0 ≤ c ∧ c ≤ 11 ∧ 0 ≤ r ∧ r ≤ 9
  · by_cases q : 0 ≤ x ∧ x ≤ 1
    · by_cases q2 : x = 1 ∧ ¬ sIn v (r * 12 + c) = -19
      · exact AC.neg (x := -12) (by decide) (fun z H tl T => by unfold oWall; rw [if_pos p, if_pos q, if_pos q2])
      · have := hS.r2 (r * 12 + c)
        exact AC.pos (x := v 2 (r * 12 + c)) (w := vset v 2 (r * 12 + c) x) (by omega) (fun z H tl T => by unfold oWall; rw [if_pos p, if_pos q, if_neg q2]) (hL.set (by decide)) (hS.wall q q2) rfl
    · exact AC.neg (x := -11) (by decide) (fun z H tl T => by unfold oWall; rw [if_pos p, if_neg q])
  · exact AC.neg (x := -11) (by decide) (fun z H tl T => by unfold oWall; rw [if_neg p])
theorem put_02 {sd c g : Int} : putSV v sd c g 0 2 = v 0 2 ∧ putSV v sd c g 0 3 = v 0 3 := ⟨vset_no (by decide), vset_no (by decide)⟩
theorem putL_02 {c g o : Int} : putLV v c g o 0 2 = v 0 2 ∧ putLV v c g o 0 3 = v 0 3 := ⟨vset_no (by decide), vset_no (by decide)⟩
theorem drop_02 {p : Int} : dropSV v p 0 2 = v 0 2 ∧ dropSV v p 0 3 = v 0 3 := ⟨vset_no (by decide), vset_no (by decide)⟩
theorem dropL_02 {p : Int} : dropLV v p 0 2 = v 0 2 ∧ dropLV v p 0 3 = v 0 3 := ⟨vset_no (by decide), vset_no (by decide)⟩
theorem ac_addS (hS : SI v) (hL : MB v) (sd c r g : Int) : AC v (fun s => oAddS s sd c r g) (fun d => d = 0) := by
  by_cases p1 : 0 ≤ sd ∧ sd ≤ 1
  · by_cases p2 : 0 ≤ c ∧ c ≤ 11 ∧ 0 ≤ r ∧ r ≤ 9
    · by_cases p3 : 1 ≤ g ∧ g ≤ 8
      · by_cases p4 : v 2 (r * 12 + c) = 0 ∧ sIn v (r * 12 + c) = -19
        · by_cases p5 : 10 ≤ v 0 0
          · exact AC.neg (x := -13) (by decide) (fun z H tl T => by unfold oAddS; rw [if_pos p1, if_pos p2, if_pos p3, if_pos p4, if_pos p5])
          · have := hS.n0
            exact AC.pos (x := v 0 0) (w := putSV v sd (r * 12 + c) g) (by omega) (fun z H tl T => by unfold oAddS; rw [if_pos p1, if_pos p2, if_pos p3, if_pos p4, if_neg p5]) (hL.same rfl rfl put_02.1) (hS.putS (by omega) p1 (by omega) p3 p4.1 p4.2) put_02.2
        · exact AC.neg (x := -12) (by decide) (fun z H tl T => by unfold oAddS; rw [if_pos p1, if_pos p2, if_pos p3, if_neg p4])
      · exact AC.neg (x := -11) (by decide) (fun z H tl T => by unfold oAddS; rw [if_pos p1, if_pos p2, if_neg p3])
    · exact AC.neg (x := -11) (by decide) (fun z H tl T => by unfold oAddS; rw [if_pos p1, if_neg p2])
  · exact AC.neg (x := -11) (by decide) (fun z H tl T => by unfold oAddS; rw [if_neg p1])
theorem ac_step (hS : SI v) (hL : MB v) (k ac dn : Int) : AC v (fun s => oStep s k ac dn) (fun d => d = 0) := by
  by_cases p1 : 0 ≤ k ∧ k ≤ v 0 0 - 1
  · by_cases p2 : -1 ≤ ac ∧ ac ≤ 1
    · by_cases p3 : -1 ≤ dn ∧ dn ≤ 1
      · by_cases p4 : ac = 0 ∧ dn = 0
        · exact AC.neg (x := -11) (by decide) (fun z H tl T => by unfold oStep; rw [if_pos p1, if_pos p2, if_pos p3, if_pos p4])
        · by_cases p5 : 0 ≤ v 4 k % 12 + ac ∧ v 4 k % 12 + ac ≤ 11 ∧ 0 ≤ v 4 k / 12 + dn ∧ v 4 k / 12 + dn ≤ 9
          · by_cases p6 : (v 2 (stepC v k ac dn) = 0 ∧ sIn v (stepC v k ac dn) = -19) ∧ iabs (v 1 (v 4 k) - v 1 (stepC v k ac dn)) ≤ 2
            · have hu : 0 ≤ uncV (vset v 4 k (stepC v k ac dn)) (v 3 k) ∧ uncV (vset v 4 k (stepC v k ac dn)) (v 3 k) ≤ 1000 := by
                unfold uncV
                split
                · have := cnt_range (fun i => sSees (vset v 4 k (stepC v k ac dn)) 0 i ∧ vset v 4 k (stepC v k ac dn) 9 i = 0) 120 0
                  omega
                · have := cnt_range (fun i => sSees (vset v 4 k (stepC v k ac dn)) 1 i ∧ vset v 4 k (stepC v k ac dn) 13 i = 0) 120 0
                  omega
              exact AC.pos (w := vset v 4 k (stepC v k ac dn)) hu (fun z H tl T => by unfold oStep; rw [if_pos p1, if_pos p2, if_pos p3, if_neg p4, if_pos p5, if_pos p6]) (hL.set (by decide)) (hS.move (by unfold stepC; omega) p6.1.1 p6.1.2) rfl
            · exact AC.neg (x := -12) (by decide) (fun z H tl T => by unfold oStep; rw [if_pos p1, if_pos p2, if_pos p3, if_neg p4, if_pos p5, if_neg p6])
          · exact AC.neg (x := -12) (by decide) (fun z H tl T => by unfold oStep; rw [if_pos p1, if_pos p2, if_pos p3, if_neg p4, if_neg p5])
      · exact AC.neg (x := -11) (by decide) (fun z H tl T => by unfold oStep; rw [if_pos p1, if_pos p2, if_neg p3])
    · exact AC.neg (x := -11) (by decide) (fun z H tl T => by unfold oStep; rw [if_pos p1, if_neg p2])
  · exact AC.neg (x := -11) (by decide) (fun z H tl T => by unfold oStep; rw [if_neg p1])
theorem ac_remS (hS : SI v) (hL : MB v) (k : Int) : AC v (fun s => oRemS s k) (fun d => d = 0) := by
  by_cases p : 0 ≤ k ∧ k ≤ v 0 0 - 1
  · have := hS.n0
    exact AC.pos (x := v 0 0 - 1) (w := dropSV v k) (by omega) (fun z H tl T => by unfold oRemS; rw [if_pos p]) (hL.same rfl rfl drop_02.1) (hS.dropS (by omega)) drop_02.2
  · exact AC.neg (x := -11) (by decide) (fun z H tl T => by unfold oRemS; rw [if_neg p])
theorem ac_addL (hS : SI v) (hL : MB v) (c r g o : Int) : AC v (fun s => oAddL s c r g o) (fun d => d = 0) := by
  by_cases p2 : 0 ≤ c ∧ c ≤ 11 ∧ 0 ≤ r ∧ r ≤ 9
  · by_cases p3 : 0 ≤ g ∧ g ≤ 4
    · by_cases p4 : 0 ≤ o ∧ o ≤ 50
      · by_cases p5 : 6 ≤ v 0 1
        · exact AC.neg (x := -13) (by decide) (fun z H tl T => by unfold oAddL; rw [if_pos p2, if_pos p3, if_pos p4, if_pos p5])
        · have := hS.n1
          exact AC.pos (x := v 0 1) (w := putLV v (r * 12 + c) g o) (by omega) (fun z H tl T => by unfold oAddL; rw [if_pos p2, if_pos p3, if_pos p4, if_neg p5]) (hL.same rfl rfl putL_02.1) (hS.putL (by omega) (by omega) p3 p4) putL_02.2
      · exact AC.neg (x := -11) (by decide) (fun z H tl T => by unfold oAddL; rw [if_pos p2, if_pos p3, if_neg p4])
    · exact AC.neg (x := -11) (by decide) (fun z H tl T => by unfold oAddL; rw [if_pos p2, if_neg p3])
  · exact AC.neg (x := -11) (by decide) (fun z H tl T => by unfold oAddL; rw [if_neg p2])
theorem ac_oil (hS : SI v) (hL : MB v) (k o : Int) : AC v (fun s => oOil s k o) (fun d => d = 0) := by
  by_cases p : 0 ≤ k ∧ k ≤ v 0 1 - 1
  · by_cases q : 0 ≤ o ∧ o ≤ 50
    · have := hS.r8 k
      exact AC.pos (x := v 8 k) (w := vset v 8 k o) (by omega) (fun z H tl T => by unfold oOil; rw [if_pos p, if_pos q]) (hL.set (by decide)) (hS.oil q) rfl
    · exact AC.neg (x := -11) (by decide) (fun z H tl T => by unfold oOil; rw [if_pos p, if_neg q])
  · exact AC.neg (x := -11) (by decide) (fun z H tl T => by unfold oOil; rw [if_neg p])
theorem ac_remL (hS : SI v) (hL : MB v) (k : Int) : AC v (fun s => oRemL s k) (fun d => d = 0) := by
  by_cases p : 0 ≤ k ∧ k ≤ v 0 1 - 1
  · have := hS.n1
    exact AC.pos (x := v 0 1 - 1) (w := dropLV v k) (by omega) (fun z H tl T => by unfold oRemL; rw [if_pos p]) (hL.same rfl rfl dropL_02.1) (hS.dropL (by omega)) dropL_02.2
  · exact AC.neg (x := -11) (by decide) (fun z H tl T => by unfold oRemL; rw [if_neg p])
theorem ac_fog (hS : SI v) (hL : MB v) (x : Int) : AC v (fun s => oFog s x) (fun d => d = 0) := by
  by_cases p : 1 ≤ x ∧ x ≤ 99
  · have := hS.n2
    exact AC.pos (x := v 0 2) (w := limV v x) (by omega) (fun z H tl T => by unfold oFog; rw [if_pos p]) (fun c => ⟨(imin_r (a := v 9 c) (b := x)).2.1, (imin_r (a := v 13 c) (b := x)).2.1⟩) (hS.lim p) rfl
  · exact AC.neg (x := -11) (by decide) (fun z H tl T => by unfold oFog; rw [if_neg p])
theorem turn_02 : turnV v 0 2 = v 0 2 ∧ turnV v 0 3 = v 0 3 + 1 := by
  unfold turnV
  exact ⟨(vset_no (by decide)).trans rfl, vset_at⟩
theorem MB.pass (hS : SI v) (hL : MB v) : MB (fadeV (turnV v)) := fun c => by
  have e : fadeV (turnV v) 0 2 = v 0 2 := turn_02.1
  have n2 := hS.n2
  have h := hL c
  have h1 := imax_r (a := 0) (b := v 9 c - 1)
  have h2 := imax_r (a := 0) (b := v 13 c - 1)
  rw [e]
  refine ⟨?_, ?_⟩
  · show imax 0 (v 9 c - 1) ≤ v 0 2
    omega
  · show imax 0 (v 13 c - 1) ≤ v 0 2
    omega
theorem pass_lk (hS : SI v) (hL : MB v) : LK (passV v) ∧ passV v 0 3 = v 0 3 + 1 := ⟨LK.look (hL.pass hS), by
  unfold passV
  rw [lookV_lo (by decide)]; exact turn_02.2⟩
theorem passN_lk : ∀ (n : Nat) (v : Vw), SI v → LK v → LK (passN n v) ∧ SI (passN n v) ∧ passN n v 0 3 = v 0 3 + n ∧ 0 ≤ outN n v ∧ outN n v ≤ 6 * n
  | 0, v, hS, hL => ⟨hL, hS, by show v 0 3 = v 0 3 + ((0 : Nat) : Int); omega, Int.le_refl _, by show (0 : Int) ≤ 6 * ((0 : Nat) : Int); omega⟩
  | n + 1, v, hS, hL => by
    have p := pass_lk hS hL.2
    obtain ⟨a, b, c, d, e⟩ := passN_lk n (passV v) hS.pass p.1
    have o := outV_r hS
    refine ⟨a, b, ?_, ?_, ?_⟩
    · show passN n (passV v) 0 3 = _
      rw [c, p.2]; omega
    · show 0 ≤ outV v + outN n (passV v)
      omega
    · show outV v + outN n (passV v) ≤ _
      omega
theorem ac_pass (hS : SI v) (hL : LK v) (n : Int) (hn : 1 ≤ n ∧ n ≤ 5) : AC v (fun s => oPass s n) (fun d => d = n) := by
  obtain ⟨a, b, c, d, e⟩ := passN_lk n.toNat v hS hL
  exact AC.pos' (x := outN n.toNat v) (w := passN n.toNat v) (by omega) (fun z H tl T => by unfold oPass; rw [if_pos (by omega)]) a b (by rw [c]; omega)
end AC0
/-! ===== the law's act, over states ===== -/
def iShr (a b : Int) : Int := (Int32.ofInt a >>> (Int32.ofInt b &&& 31)).toInt
def lo (x n : Int) : Int := iAnd x 2147483647 % n
theorem toInt_inR (x : Int32) : inR x.toInt := by
  have h1 := Int32.minValue_le_toInt x
  have h2 := Int32.toInt_le x
  have e : Int32.minValue.toInt = -2147483648 := by decide
  have e2 : Int32.maxValue.toInt = 2147483647 := by decide
  exact ⟨by omega, by omega⟩
theorem iAnd_inR (a b : Int) : inR (iAnd a b) := toInt_inR _
theorem iShr_inR (a b : Int) : inR (iShr a b) := toInt_inR _
theorem iAnd_mask (a : Int) {n : Nat} (hn : n < 2 ^ 31) : 0 ≤ iAnd a n ∧ iAnd a n ≤ n := by
  have hm : (Int32.ofInt a).toBitVec.toNat &&& n ≤ n := Nat.and_le_right
  have e := nat_to (n := (Int32.ofInt a).toBitVec.toNat &&& n) (by omega) (Int32.ofInt a &&& Int32.ofInt n) (by
    rw [Int32.toBitVec_and, nat_of hn]
    apply BitVec.eq_of_toNat_eq
    rw [BitVec.toNat_and, BitVec.toNat_ofNat, BitVec.toNat_ofNat, Nat.mod_eq_of_lt (by omega : n < 2 ^ 32), Nat.mod_eq_of_lt (by omega)])
  unfold iAnd
  rw [e]
  omega
theorem lo_r (x : Int) {n : Int} (hn : 1 ≤ n) : 0 ≤ lo x n ∧ lo x n < n := ⟨Int.emod_nonneg _ (by omega), Int.emod_lt_of_pos _ (by omega)⟩
noncomputable def aS (y : Int) (s : AbS) : Int × AbS :=
  if iAnd y 15 = 0 ∨ iAnd y 15 = 1 then oHeight s (lo (iShr y 4) 12) (lo (iShr y 7) 10) (lo (iShr y 6) 11)
  else if iAnd y 15 = 2 then oWall s (lo (iShr y 4) 12) (lo (iShr y 7) 10) (iAnd (iShr y 9) 1)
  else if iAnd y 15 = 3 then oAddS s (lo (iShr y 4) 2) (lo (iShr y 5) 12) (lo (iShr y 7) 10) (1 + lo (iShr y 6) 5)
  else if iAnd y 15 = 4 then oRemS s (lo (iShr y 4) 6)
  else if iAnd y 15 = 5 then oAddL s (lo (iShr y 4) 12) (lo (iShr y 7) 10) (lo (iShr y 6) 5) (lo (iShr y 8) 6)
  else if iAnd y 15 = 6 then oOil s (lo (iShr y 4) 3) (lo (iShr y 7) 6)
  else if iAnd y 15 = 7 then (if iAnd y 64 = 0 then oRemL s (lo (iShr y 7) 3) else oFog s (1 + lo (iShr y 7) 12))
  else if iAnd y 15 = 8 ∨ iAnd y 15 = 9 then oPass s (1 + lo (iShr y 4) 5)
  else oStep s (lo (iShr y 4) 4) (lo (iShr y 6) 3 - 1) (lo (iShr y 8) 3 - 1)
/-- the turns that act(y) lets pass -/
def aD (y : Int) (d : Int) : Prop := ((iAnd y 15 = 8 ∨ iAnd y 15 = 9) → 1 ≤ d ∧ d ≤ 5) ∧ (¬ (iAnd y 15 = 8 ∨ iAnd y 15 = 9) → d = 0)
theorem AC.to {v : Vw} {f g : AbS → Int × AbS} {D E : Int → Prop} (h : AC v f D) (e : ∀ s, g s = f s) (hD : ∀ d, D d → E d) : AC v g E := by
  obtain ⟨r, w, h1, h2, h3⟩ := h
  exact ⟨r, w, fun z H tl T => (e _).trans (h1 z H tl T), h2, fun q => ⟨(h3 q).1, (h3 q).2.1, hD _ (h3 q).2.2⟩⟩
theorem ac_act {v : Vw} (hS : SI v) (hL : LK v) (y : Int) : AC v (aS y) (aD y) := by
  have hM := hL.2
  by_cases q8 : iAnd y 15 = 8 ∨ iAnd y 15 = 9
  · refine (ac_pass hS hL (1 + lo (iShr y 4) 5) (by have := lo_r (iShr y 4) (n := 5) (by decide); omega)).to (fun s => ?_) (fun d hd => ⟨fun _ => ?_, fun n => absurd q8 n⟩)
    · unfold aS
      rw [if_neg (by omega), if_neg (by omega), if_neg (by omega), if_neg (by omega), if_neg (by omega), if_neg (by omega), if_neg (by omega), if_pos q8]
    · have := lo_r (iShr y 4) (n := 5) (by decide)
      omega
  · have hd : ∀ d : Int, d = 0 → aD y d := fun d e => ⟨fun n => absurd n q8, fun _ => e⟩
    by_cases q0 : iAnd y 15 = 0 ∨ iAnd y 15 = 1
    · exact (ac_height hS hM _ _ _).to (fun s => by unfold aS; rw [if_pos q0]) hd
    by_cases q2 : iAnd y 15 = 2
    · exact (ac_wall hS hM _ _ _).to (fun s => by unfold aS; rw [if_neg q0, if_pos q2]) hd
    by_cases q3 : iAnd y 15 = 3
    · exact (ac_addS hS hM _ _ _ _).to (fun s => by unfold aS; rw [if_neg q0, if_neg q2, if_pos q3]) hd
    by_cases q4 : iAnd y 15 = 4
    · exact (ac_remS hS hM _).to (fun s => by unfold aS; rw [if_neg q0, if_neg q2, if_neg q3, if_pos q4]) hd
    by_cases q5 : iAnd y 15 = 5
    · exact (ac_addL hS hM _ _ _ _).to (fun s => by unfold aS; rw [if_neg q0, if_neg q2, if_neg q3, if_neg q4, if_pos q5]) hd
    by_cases q6 : iAnd y 15 = 6
    · exact (ac_oil hS hM _ _).to (fun s => by unfold aS; rw [if_neg q0, if_neg q2, if_neg q3, if_neg q4, if_neg q5, if_pos q6]) hd
    by_cases q7 : iAnd y 15 = 7
    · by_cases q9 : iAnd y 64 = 0
      · exact (ac_remL hS hM _).to (fun s => by unfold aS; rw [if_neg q0, if_neg q2, if_neg q3, if_neg q4, if_neg q5, if_neg q6, if_pos q7, if_pos q9]) hd
      · exact (ac_fog hS hM _).to (fun s => by unfold aS; rw [if_neg q0, if_neg q2, if_neg q3, if_neg q4, if_neg q5, if_neg q6, if_pos q7, if_neg q9]) hd
    · exact (ac_step hS hM _ _ _).to (fun s => by unfold aS; rw [if_neg q0, if_neg q2, if_neg q3, if_neg q4, if_neg q5, if_neg q6, if_neg q7, if_neg q8]) hd
