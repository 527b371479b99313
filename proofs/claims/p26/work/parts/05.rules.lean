section RULES
variable {μ : Mu} {d mc ms pc : Nat} {lv : List (Option AV)} {st : List AV} {sh : Shp} {M : Mem} {ck sk : Nat} {Q : Option AV → Shp → Mem → Prop}

theorem V.iconst {n : Int} (hd : decode μ.2.1 pc = .ok (.iconst n, 1)) (k : V μ d mc ms (pc + 1) lv (.inl n :: st) sh M ck sk Q) : V μ d mc ms (pc) lv (st) sh M ck sk Q := by
  intro p l e s m args below meth cd base D cI cM cS H locs ls C hW hF hz hL hR
  refine lv_iconst C.1 C.2.1 hd rfl ?_
  exact k p l e s m args below meth cd base D cI cM cS H locs ls C hW hF hz hL hR
theorem i8_of {n : Int} (h : -128 ≤ n ∧ n ≤ 127) : (Int8.ofInt n).toInt32 = Int32.ofInt n := by
  have h2 : (-2 ^ 7 : Int) ≤ n := by omega
  have h3 : n < 2 ^ 7 := by omega
  apply Int32.toInt_inj.mp
  rw [Int8.toInt_toInt32, Int8.toInt_ofInt_of_le h2 h3, Int32.toInt_ofInt_of_le (by omega) (by omega)]
theorem i16_of {n : Int} (h : -32768 ≤ n ∧ n ≤ 32767) : (Int16.ofInt n).toInt32 = Int32.ofInt n := by
  have h2 : (-2 ^ 15 : Int) ≤ n := by omega
  have h3 : n < 2 ^ 15 := by omega
  apply Int32.toInt_inj.mp
  rw [Int16.toInt_toInt32, Int16.toInt_ofInt_of_le h2 h3, Int32.toInt_ofInt_of_le (by omega) (by omega)]
theorem V.bipush {n : Int} (hd : decode μ.2.1 pc = .ok (.bipush n, 2)) (hn : -128 ≤ n ∧ n ≤ 127) (k : V μ d mc ms (pc + 2) lv (.inl n :: st) sh M ck sk Q) : V μ d mc ms (pc) lv (st) sh M ck sk Q := by
  intro p l e s m args below meth cd base D cI cM cS H locs ls C hW hF hz hL hR
  refine lv_bipush C.1 C.2.1 hd (i8_of hn) ?_
  exact k p l e s m args below meth cd base D cI cM cS H locs ls C hW hF hz hL hR
theorem V.sipush {n : Int} (hd : decode μ.2.1 pc = .ok (.sipush n, 3)) (hn : -32768 ≤ n ∧ n ≤ 32767) (k : V μ d mc ms (pc + 3) lv (.inl n :: st) sh M ck sk Q) : V μ d mc ms (pc) lv (st) sh M ck sk Q := by
  intro p l e s m args below meth cd base D cI cM cS H locs ls C hW hF hz hL hR
  refine lv_sipush C.1 C.2.1 hd (i16_of hn) ?_
  exact k p l e s m args below meth cd base D cI cM cS H locs ls C hW hF hz hL hR
theorem V.iload_n {j : Fin 4} {x : Int} (hd : decode μ.2.1 pc = .ok (.iload_n j, 1)) (hl : lv[(j : Nat)]? = some (some (.inl x))) (k : V μ d mc ms (pc + 1) lv (.inl x :: st) sh M ck sk Q) : V μ d mc ms (pc) lv (st) sh M ck sk Q := by
  intro p l e s m args below meth cd base D cI cM cS H locs ls C hW hF hz hL hR
  refine lv_iload_n C.1 C.2.1 hd rfl (hR.at hl) ?_
  exact k p l e s m args below meth cd base D cI cM cS H locs ls C hW hF hz hL hR
theorem V.iload {i : Nat} {x : Int} (hd : decode μ.2.1 pc = .ok (.iload i, 2)) (hl : lv[i]? = some (some (.inl x))) (k : V μ d mc ms (pc + 2) lv (.inl x :: st) sh M ck sk Q) : V μ d mc ms (pc) lv (st) sh M ck sk Q := by
  intro p l e s m args below meth cd base D cI cM cS H locs ls C hW hF hz hL hR
  refine lv_iload C.1 C.2.1 hd (hR.at hl) ?_
  exact k p l e s m args below meth cd base D cI cM cS H locs ls C hW hF hz hL hR
theorem V.aload_n {j : Fin 4} {x : Nat} (hd : decode μ.2.1 pc = .ok (.aload_n j, 1)) (hl : lv[(j : Nat)]? = some (some (.inr (some x)))) (k : V μ d mc ms (pc + 1) lv (.inr (some x) :: st) sh M ck sk Q) : V μ d mc ms (pc) lv (st) sh M ck sk Q := by
  intro p l e s m args below meth cd base D cI cM cS H locs ls C hW hF hz hL hR
  refine lv_aload_n C.1 C.2.1 hd rfl (hR.at hl) ?_
  exact k p l e s m args below meth cd base D cI cM cS H locs ls C hW hF hz hL hR
theorem V.aload {i : Nat} {x : Nat} (hd : decode μ.2.1 pc = .ok (.aload i, 2)) (hl : lv[i]? = some (some (.inr (some x)))) (k : V μ d mc ms (pc + 2) lv (.inr (some x) :: st) sh M ck sk Q) : V μ d mc ms (pc) lv (st) sh M ck sk Q := by
  intro p l e s m args below meth cd base D cI cM cS H locs ls C hW hF hz hL hR
  refine lv_aload C.1 C.2.1 hd (hR.at hl) ?_
  exact k p l e s m args below meth cd base D cI cM cS H locs ls C hW hF hz hL hR
theorem V.istore_n {j : Fin 4} {x : Int} {lv2 : List (Option AV)} (hd : decode μ.2.1 pc = .ok (.istore_n j, 1)) (hi : (j : Nat) < lv.length) (hl : lv.set (j : Nat) (some (.inl x)) = lv2) (k : V μ d mc ms (pc + 1) lv2 (st) sh M ck sk Q) : V μ d mc ms (pc) lv (.inl x :: st) sh M ck sk Q := by
  subst hl
  intro p l e s m args below meth cd base D cI cM cS H locs ls C hW hF hz hL hR
  exact lv_istore_n C.1 C.2.1 hd rfl hR.has (by rw [← hR.2.2.1]; exact hi) rfl (fun ls2 h2 => k p l e s m args below meth cd base D cI cM cS H locs ls2 C hW hF hz hL (hR.set (v := .inl x) h2))
theorem V.istore {i : Nat} {x : Int} {lv2 : List (Option AV)} (hd : decode μ.2.1 pc = .ok (.istore i, 2)) (hi : i < lv.length) (hl : lv.set i (some (.inl x)) = lv2) (k : V μ d mc ms (pc + 2) lv2 (st) sh M ck sk Q) : V μ d mc ms (pc) lv (.inl x :: st) sh M ck sk Q := by
  subst hl
  intro p l e s m args below meth cd base D cI cM cS H locs ls C hW hF hz hL hR
  exact lv_istore C.1 C.2.1 hd hR.has (by rw [← hR.2.2.1]; exact hi) rfl (fun ls2 h2 => k p l e s m args below meth cd base D cI cM cS H locs ls2 C hW hF hz hL (hR.set (v := .inl x) h2))
theorem V.astore_n {j : Fin 4} {x : Nat} {lv2 : List (Option AV)} (hd : decode μ.2.1 pc = .ok (.astore_n j, 1)) (hi : (j : Nat) < lv.length) (hl : lv.set (j : Nat) (some (.inr (some x))) = lv2) (k : V μ d mc ms (pc + 1) lv2 (st) sh M ck sk Q) : V μ d mc ms (pc) lv (.inr (some x) :: st) sh M ck sk Q := by
  subst hl
  intro p l e s m args below meth cd base D cI cM cS H locs ls C hW hF hz hL hR
  exact lv_astore_n C.1 C.2.1 hd rfl hR.has (by rw [← hR.2.2.1]; exact hi) rfl (fun ls2 h2 => k p l e s m args below meth cd base D cI cM cS H locs ls2 C hW hF hz hL (hR.set (v := .inr (some x)) h2))
theorem V.astore {i : Nat} {x : Nat} {lv2 : List (Option AV)} (hd : decode μ.2.1 pc = .ok (.astore i, 2)) (hi : i < lv.length) (hl : lv.set i (some (.inr (some x))) = lv2) (k : V μ d mc ms (pc + 2) lv2 (st) sh M ck sk Q) : V μ d mc ms (pc) lv (.inr (some x) :: st) sh M ck sk Q := by
  subst hl
  intro p l e s m args below meth cd base D cI cM cS H locs ls C hW hF hz hL hR
  exact lv_astore C.1 C.2.1 hd hR.has (by rw [← hR.2.2.1]; exact hi) rfl (fun ls2 h2 => k p l e s m args below meth cd base D cI cM cS H locs ls2 C hW hF hz hL (hR.set (v := .inr (some x)) h2))
theorem prs_pos {base : Nat} {lv : List (Option AV)} {i : Nat} {v : AV} (hl : lv[i]? = some (some v)) : ∃ k : Nat, (prs base lv)[k]? = some (i, cv base v) := List.getElem?_of_mem (prs_mem.mpr ⟨v, hl, rfl⟩)
theorem V.iinc {i : Nat} {n x y : Int} {lv2 : List (Option AV)} (hd : decode μ.2.1 pc = .ok (.iinc i n, 3)) (hl : lv[i]? = some (some (.inl x))) (hy : x + n = y) (h2 : lv.set i (some (.inl y)) = lv2) (k : V μ d mc ms (pc + 3) lv2 (st) sh M ck sk Q) : V μ d mc ms (pc) lv (st) sh M ck sk Q := by
  subst h2; subst hy
  intro p l e s m args below meth cd base D cI cM cS H locs ls C hW hF hz hL hR
  obtain ⟨q, hq⟩ := prs_pos (base := base) hl
  have hlen : i < lv.length := (List.getElem?_eq_some_iff.mp hl).1
  exact lv_iinc C.1 C.2.1 hd hR.has hq (Int32.ofInt_add x n).symm (by rw [← hR.2.2.1]; exact hlen) rfl (fun ls2 h2 => k p l e s m args below meth cd base D cI cM cS H locs ls2 C hW hF hz hL (hR.set (v := .inl (x + n)) h2))
theorem V.iadd {a b : Int} (hd : decode μ.2.1 pc = .ok (.iadd, 1)) (k : V μ d mc ms (pc + 1) lv (.inl (a + b) :: st) sh M ck sk Q) : V μ d mc ms (pc) lv (.inl b :: .inl a :: st) sh M ck sk Q := by
  intro p l e s m args below meth cd base D cI cM cS H locs ls C hW hF hz hL hR
  refine lv_iadd C.1 C.2.1 hd ?_
  rw [← Int32.ofInt_add]
  exact k p l e s m args below meth cd base D cI cM cS H locs ls C hW hF hz hL hR
theorem V.isub {a b : Int} (hd : decode μ.2.1 pc = .ok (.isub, 1)) (k : V μ d mc ms (pc + 1) lv (.inl (a - b) :: st) sh M ck sk Q) : V μ d mc ms (pc) lv (.inl b :: .inl a :: st) sh M ck sk Q := by
  intro p l e s m args below meth cd base D cI cM cS H locs ls C hW hF hz hL hR
  refine lv_isub C.1 C.2.1 hd ?_
  rw [← Int32.ofInt_sub]
  exact k p l e s m args below meth cd base D cI cM cS H locs ls C hW hF hz hL hR
theorem V.imul {a b : Int} (hd : decode μ.2.1 pc = .ok (.imul, 1)) (k : V μ d mc ms (pc + 1) lv (.inl (a * b) :: st) sh M ck sk Q) : V μ d mc ms (pc) lv (.inl b :: .inl a :: st) sh M ck sk Q := by
  intro p l e s m args below meth cd base D cI cM cS H locs ls C hW hF hz hL hR
  refine lv_imul C.1 C.2.1 hd ?_
  rw [← Int32.ofInt_mul]
  exact k p l e s m args below meth cd base D cI cM cS H locs ls C hW hF hz hL hR
theorem V.ineg {a : Int} (hd : decode μ.2.1 pc = .ok (.ineg, 1)) (k : V μ d mc ms (pc + 1) lv (.inl (-a) :: st) sh M ck sk Q) : V μ d mc ms (pc) lv (.inl a :: st) sh M ck sk Q := by
  intro p l e s m args below meth cd base D cI cM cS H locs ls C hW hF hz hL hR
  refine lv_ineg C.1 C.2.1 hd ?_
  rw [← Int32.ofInt_neg]
  exact k p l e s m args below meth cd base D cI cM cS H locs ls C hW hF hz hL hR
abbrev inR (z : Int) : Prop := -2147483648 ≤ z ∧ z ≤ 2147483647
theorem inR_toInt {z : Int} (h : inR z) : (Int32.ofInt z).toInt = z := Int32.toInt_ofInt_of_le (by have := h.1; omega) (by have := h.2; omega)
theorem inR_eq {a b : Int} (ha : inR a) (hb : inR b) : Int32.ofInt a = Int32.ofInt b ↔ a = b := by rw [← Int32.toInt_inj, inR_toInt ha, inR_toInt hb]
theorem inR_lt {a b : Int} (ha : inR a) (hb : inR b) : Int32.ofInt a < Int32.ofInt b ↔ a < b := by rw [Int32.lt_iff_toInt_lt, inR_toInt ha, inR_toInt hb]
theorem inR_le {a b : Int} (ha : inR a) (hb : inR b) : Int32.ofInt a ≤ Int32.ofInt b ↔ a ≤ b := by rw [Int32.le_iff_toInt_le, inR_toInt ha, inR_toInt hb]
theorem inR_0 : inR 0 := by decide
theorem of0 : Int32.ofInt 0 = 0 := by decide
theorem tdiv_of {a b : Int} (ha : inR a) (hb : inR b) : Int32.ofInt a / Int32.ofInt b = Int32.ofInt (a.tdiv b) := by
  apply Int32.toInt_inj.mp
  rw [Int32.toInt_div, inR_toInt ha, inR_toInt hb, Int32.toInt_ofInt]
theorem trem_of {a b : Int} (ha : inR a) (hb : inR b) : Int32.ofInt a - Int32.ofInt a / Int32.ofInt b * Int32.ofInt b = Int32.ofInt (a.tmod b) := by
  rw [tdiv_of ha hb, ← Int32.ofInt_mul, ← Int32.ofInt_sub]
  congr 1
  have := Int.tmod_def a b
  rw [this, Int.mul_comm]
theorem V.idivT {a b : Int} (hd : decode μ.2.1 pc = .ok (.idiv, 1)) (ha : inR a) (hb : inR b) (h0 : b ≠ 0) (k : V μ d mc ms (pc + 1) lv (.inl (a.tdiv b) :: st) sh M ck sk Q) : V μ d mc ms (pc) lv (.inl b :: .inl a :: st) sh M ck sk Q := by
  intro p l e s m args below meth cd base D cI cM cS H locs ls C hW hF hz hL hR
  refine lv_idiv C.1 C.2.1 hd (by intro h; exact h0 ((inR_eq hb inR_0).mp (h.trans of0.symm))) ?_
  rw [tdiv_of ha hb]
  exact k p l e s m args below meth cd base D cI cM cS H locs ls C hW hF hz hL hR
theorem V.iremT {a b : Int} (hd : decode μ.2.1 pc = .ok (.irem, 1)) (ha : inR a) (hb : inR b) (h0 : b ≠ 0) (k : V μ d mc ms (pc + 1) lv (.inl (a.tmod b) :: st) sh M ck sk Q) : V μ d mc ms (pc) lv (.inl b :: .inl a :: st) sh M ck sk Q := by
  intro p l e s m args below meth cd base D cI cM cS H locs ls C hW hF hz hL hR
  refine lv_irem C.1 C.2.1 hd (by intro h; exact h0 ((inR_eq hb inR_0).mp (h.trans of0.symm))) ?_
  rw [trem_of ha hb]
  exact k p l e s m args below meth cd base D cI cM cS H locs ls C hW hF hz hL hR
theorem V.idiv {a b : Int} (hd : decode μ.2.1 pc = .ok (.idiv, 1)) (ha : 0 ≤ a ∧ a ≤ 2147483647) (hb : 0 < b ∧ b ≤ 2147483647) (k : V μ d mc ms (pc + 1) lv (.inl (a / b) :: st) sh M ck sk Q) : V μ d mc ms (pc) lv (.inl b :: .inl a :: st) sh M ck sk Q := by
  refine V.idivT hd ⟨by omega, by omega⟩ ⟨by omega, by omega⟩ (by omega) ?_
  rw [Int.tdiv_eq_ediv_of_nonneg ha.1]
  exact k
theorem V.irem {a b : Int} (hd : decode μ.2.1 pc = .ok (.irem, 1)) (ha : 0 ≤ a ∧ a ≤ 2147483647) (hb : 0 < b ∧ b ≤ 2147483647) (k : V μ d mc ms (pc + 1) lv (.inl (a % b) :: st) sh M ck sk Q) : V μ d mc ms (pc) lv (.inl b :: .inl a :: st) sh M ck sk Q := by
  refine V.iremT hd ⟨by omega, by omega⟩ ⟨by omega, by omega⟩ (by omega) ?_
  rw [Int.tmod_eq_emod_of_nonneg ha.1]
  exact k
def iAnd (a b : Int) : Int := (Int32.ofInt a &&& Int32.ofInt b).toInt
def iOr (a b : Int) : Int := (Int32.ofInt a ||| Int32.ofInt b).toInt
def iXor (a b : Int) : Int := (Int32.ofInt a ^^^ Int32.ofInt b).toInt
def iShl (a b : Int) : Int := (Int32.ofInt a <<< (Int32.ofInt b &&& 31)).toInt
theorem V.iand {a b : Int} (hd : decode μ.2.1 pc = .ok (.iand, 1)) (k : V μ d mc ms (pc + 1) lv (.inl (iAnd a b) :: st) sh M ck sk Q) : V μ d mc ms (pc) lv (.inl b :: .inl a :: st) sh M ck sk Q := by
  intro p l e s m args below meth cd base D cI cM cS H locs ls C hW hF hz hL hR
  refine lv_iand C.1 C.2.1 hd ?_
  have k2 := k p l e s m args below meth cd base D cI cM cS H locs ls C hW hF hz hL hR
  simp only [List.map_cons, cv, iAnd, Int32.ofInt_toInt] at k2 ⊢
  exact k2
theorem V.ior {a b : Int} (hd : decode μ.2.1 pc = .ok (.ior, 1)) (k : V μ d mc ms (pc + 1) lv (.inl (iOr a b) :: st) sh M ck sk Q) : V μ d mc ms (pc) lv (.inl b :: .inl a :: st) sh M ck sk Q := by
  intro p l e s m args below meth cd base D cI cM cS H locs ls C hW hF hz hL hR
  refine lv_ior C.1 C.2.1 hd ?_
  have k2 := k p l e s m args below meth cd base D cI cM cS H locs ls C hW hF hz hL hR
  simp only [List.map_cons, cv, iOr, Int32.ofInt_toInt] at k2 ⊢
  exact k2
theorem V.ixor {a b : Int} (hd : decode μ.2.1 pc = .ok (.ixor, 1)) (k : V μ d mc ms (pc + 1) lv (.inl (iXor a b) :: st) sh M ck sk Q) : V μ d mc ms (pc) lv (.inl b :: .inl a :: st) sh M ck sk Q := by
  intro p l e s m args below meth cd base D cI cM cS H locs ls C hW hF hz hL hR
  refine lv_ixor C.1 C.2.1 hd ?_
  have k2 := k p l e s m args below meth cd base D cI cM cS H locs ls C hW hF hz hL hR
  simp only [List.map_cons, cv, iXor, Int32.ofInt_toInt] at k2 ⊢
  exact k2
theorem V.ishl {a b : Int} (hd : decode μ.2.1 pc = .ok (.ishl, 1)) (k : V μ d mc ms (pc + 1) lv (.inl (iShl a b) :: st) sh M ck sk Q) : V μ d mc ms (pc) lv (.inl b :: .inl a :: st) sh M ck sk Q := by
  intro p l e s m args below meth cd base D cI cM cS H locs ls C hW hF hz hL hR
  refine lv_ishl C.1 C.2.1 hd ?_
  have k2 := k p l e s m args below meth cd base D cI cM cS H locs ls C hW hF hz hL hR
  simp only [List.map_cons, cv, iShl, Int32.ofInt_toInt] at k2 ⊢
  exact k2
theorem V.icmp_eq {a b : Int} {off : Int} {tgt : Nat} (hd : decode μ.2.1 pc = .ok (.if_icmp .eq off, 3)) (ht : (pc : Int) + off = (tgt : Int)) (ha : inR a) (hb : inR b) (kt : a = b → V μ d mc ms (tgt) lv (st) sh M ck sk Q) (kf : ¬ a = b → V μ d mc ms (pc + 3) lv (st) sh M ck sk Q) : V μ d mc ms (pc) lv (.inl b :: .inl a :: st) sh M ck sk Q := by
  intro p l e s m args below meth cd base D cI cM cS H locs ls C hW hF hz hL hR
  refine lv_icmp_eq (tgt := tgt) C.1 C.2.1 hd ht (fun h => ?_) (fun h => ?_)
  · exact kt (by first | exact (inR_eq ha hb).mp h | (intro q; exact h ((inR_eq ha hb).mpr q))) p l e s m args below meth cd base D cI cM cS H locs ls C hW hF hz hL hR
  · exact kf (by first | exact (inR_eq ha hb).mp h | exact Int.not_lt.mp (fun q => h ((inR_eq ha hb).mpr q)) | exact Int.not_le.mp (fun q => h ((inR_eq ha hb).mpr q)) | (intro q; exact h ((inR_eq ha hb).mpr q))) p l e s m args below meth cd base D cI cM cS H locs ls C hW hF hz hL hR
theorem V.if_eq {a : Int} {off : Int} {tgt : Nat} (hd : decode μ.2.1 pc = .ok (.ifCond .eq off, 3)) (ht : (pc : Int) + off = (tgt : Int)) (ha : inR a) (kt : a = 0 → V μ d mc ms (tgt) lv (st) sh M ck sk Q) (kf : ¬ a = 0 → V μ d mc ms (pc + 3) lv (st) sh M ck sk Q) : V μ d mc ms (pc) lv (.inl a :: st) sh M ck sk Q := by
  intro p l e s m args below meth cd base D cI cM cS H locs ls C hW hF hz hL hR
  refine lv_if_eq (tgt := tgt) C.1 C.2.1 hd ht (fun h => ?_) (fun h => ?_) <;> rw [← of0] at h
  · exact kt (by first | exact (inR_eq ha inR_0).mp h | (intro q; exact h ((inR_eq ha inR_0).mpr q))) p l e s m args below meth cd base D cI cM cS H locs ls C hW hF hz hL hR
  · exact kf (by first | exact (inR_eq ha inR_0).mp h | exact Int.not_lt.mp (fun q => h ((inR_eq ha inR_0).mpr q)) | exact Int.not_le.mp (fun q => h ((inR_eq ha inR_0).mpr q)) | (intro q; exact h ((inR_eq ha inR_0).mpr q))) p l e s m args below meth cd base D cI cM cS H locs ls C hW hF hz hL hR
theorem V.icmp_ne {a b : Int} {off : Int} {tgt : Nat} (hd : decode μ.2.1 pc = .ok (.if_icmp .ne off, 3)) (ht : (pc : Int) + off = (tgt : Int)) (ha : inR a) (hb : inR b) (kt : ¬ a = b → V μ d mc ms (tgt) lv (st) sh M ck sk Q) (kf : a = b → V μ d mc ms (pc + 3) lv (st) sh M ck sk Q) : V μ d mc ms (pc) lv (.inl b :: .inl a :: st) sh M ck sk Q := by
  intro p l e s m args below meth cd base D cI cM cS H locs ls C hW hF hz hL hR
  refine lv_icmp_ne (tgt := tgt) C.1 C.2.1 hd ht (fun h => ?_) (fun h => ?_)
  · exact kt (by first | exact (inR_eq ha hb).mp h | (intro q; exact h ((inR_eq ha hb).mpr q))) p l e s m args below meth cd base D cI cM cS H locs ls C hW hF hz hL hR
  · exact kf (by first | exact (inR_eq ha hb).mp h | exact Int.not_lt.mp (fun q => h ((inR_eq ha hb).mpr q)) | exact Int.not_le.mp (fun q => h ((inR_eq ha hb).mpr q)) | (intro q; exact h ((inR_eq ha hb).mpr q))) p l e s m args below meth cd base D cI cM cS H locs ls C hW hF hz hL hR
theorem V.if_ne {a : Int} {off : Int} {tgt : Nat} (hd : decode μ.2.1 pc = .ok (.ifCond .ne off, 3)) (ht : (pc : Int) + off = (tgt : Int)) (ha : inR a) (kt : ¬ a = 0 → V μ d mc ms (tgt) lv (st) sh M ck sk Q) (kf : a = 0 → V μ d mc ms (pc + 3) lv (st) sh M ck sk Q) : V μ d mc ms (pc) lv (.inl a :: st) sh M ck sk Q := by
  intro p l e s m args below meth cd base D cI cM cS H locs ls C hW hF hz hL hR
  refine lv_if_ne (tgt := tgt) C.1 C.2.1 hd ht (fun h => ?_) (fun h => ?_) <;> rw [← of0] at h
  · exact kt (by first | exact (inR_eq ha inR_0).mp h | (intro q; exact h ((inR_eq ha inR_0).mpr q))) p l e s m args below meth cd base D cI cM cS H locs ls C hW hF hz hL hR
  · exact kf (by first | exact (inR_eq ha inR_0).mp h | exact Int.not_lt.mp (fun q => h ((inR_eq ha inR_0).mpr q)) | exact Int.not_le.mp (fun q => h ((inR_eq ha inR_0).mpr q)) | (intro q; exact h ((inR_eq ha inR_0).mpr q))) p l e s m args below meth cd base D cI cM cS H locs ls C hW hF hz hL hR
theorem V.icmp_lt {a b : Int} {off : Int} {tgt : Nat} (hd : decode μ.2.1 pc = .ok (.if_icmp .lt off, 3)) (ht : (pc : Int) + off = (tgt : Int)) (ha : inR a) (hb : inR b) (kt : a < b → V μ d mc ms (tgt) lv (st) sh M ck sk Q) (kf : b ≤ a → V μ d mc ms (pc + 3) lv (st) sh M ck sk Q) : V μ d mc ms (pc) lv (.inl b :: .inl a :: st) sh M ck sk Q := by
  intro p l e s m args below meth cd base D cI cM cS H locs ls C hW hF hz hL hR
  refine lv_icmp_lt (tgt := tgt) C.1 C.2.1 hd ht (fun h => ?_) (fun h => ?_)
  · exact kt (by first | exact (inR_lt ha hb).mp h | (intro q; exact h ((inR_lt ha hb).mpr q))) p l e s m args below meth cd base D cI cM cS H locs ls C hW hF hz hL hR
  · exact kf (by first | exact (inR_lt ha hb).mp h | exact Int.not_lt.mp (fun q => h ((inR_lt ha hb).mpr q)) | exact Int.not_le.mp (fun q => h ((inR_lt ha hb).mpr q)) | (intro q; exact h ((inR_lt ha hb).mpr q))) p l e s m args below meth cd base D cI cM cS H locs ls C hW hF hz hL hR
theorem V.if_lt {a : Int} {off : Int} {tgt : Nat} (hd : decode μ.2.1 pc = .ok (.ifCond .lt off, 3)) (ht : (pc : Int) + off = (tgt : Int)) (ha : inR a) (kt : a < 0 → V μ d mc ms (tgt) lv (st) sh M ck sk Q) (kf : 0 ≤ a → V μ d mc ms (pc + 3) lv (st) sh M ck sk Q) : V μ d mc ms (pc) lv (.inl a :: st) sh M ck sk Q := by
  intro p l e s m args below meth cd base D cI cM cS H locs ls C hW hF hz hL hR
  refine lv_if_lt (tgt := tgt) C.1 C.2.1 hd ht (fun h => ?_) (fun h => ?_) <;> rw [← of0] at h
  · exact kt (by first | exact (inR_lt ha inR_0).mp h | (intro q; exact h ((inR_lt ha inR_0).mpr q))) p l e s m args below meth cd base D cI cM cS H locs ls C hW hF hz hL hR
  · exact kf (by first | exact (inR_lt ha inR_0).mp h | exact Int.not_lt.mp (fun q => h ((inR_lt ha inR_0).mpr q)) | exact Int.not_le.mp (fun q => h ((inR_lt ha inR_0).mpr q)) | (intro q; exact h ((inR_lt ha inR_0).mpr q))) p l e s m args below meth cd base D cI cM cS H locs ls C hW hF hz hL hR
theorem V.icmp_ge {a b : Int} {off : Int} {tgt : Nat} (hd : decode μ.2.1 pc = .ok (.if_icmp .ge off, 3)) (ht : (pc : Int) + off = (tgt : Int)) (ha : inR a) (hb : inR b) (kt : b ≤ a → V μ d mc ms (tgt) lv (st) sh M ck sk Q) (kf : a < b → V μ d mc ms (pc + 3) lv (st) sh M ck sk Q) : V μ d mc ms (pc) lv (.inl b :: .inl a :: st) sh M ck sk Q := by
  intro p l e s m args below meth cd base D cI cM cS H locs ls C hW hF hz hL hR
  refine lv_icmp_ge (tgt := tgt) C.1 C.2.1 hd ht (fun h => ?_) (fun h => ?_)
  · exact kt (by first | exact (inR_le hb ha).mp h | (intro q; exact h ((inR_le hb ha).mpr q))) p l e s m args below meth cd base D cI cM cS H locs ls C hW hF hz hL hR
  · exact kf (by first | exact (inR_le hb ha).mp h | exact Int.not_lt.mp (fun q => h ((inR_le hb ha).mpr q)) | exact Int.not_le.mp (fun q => h ((inR_le hb ha).mpr q)) | (intro q; exact h ((inR_le hb ha).mpr q))) p l e s m args below meth cd base D cI cM cS H locs ls C hW hF hz hL hR
theorem V.if_ge {a : Int} {off : Int} {tgt : Nat} (hd : decode μ.2.1 pc = .ok (.ifCond .ge off, 3)) (ht : (pc : Int) + off = (tgt : Int)) (ha : inR a) (kt : 0 ≤ a → V μ d mc ms (tgt) lv (st) sh M ck sk Q) (kf : a < 0 → V μ d mc ms (pc + 3) lv (st) sh M ck sk Q) : V μ d mc ms (pc) lv (.inl a :: st) sh M ck sk Q := by
  intro p l e s m args below meth cd base D cI cM cS H locs ls C hW hF hz hL hR
  refine lv_if_ge (tgt := tgt) C.1 C.2.1 hd ht (fun h => ?_) (fun h => ?_) <;> rw [← of0] at h
  · exact kt (by first | exact (inR_le inR_0 ha).mp h | (intro q; exact h ((inR_le inR_0 ha).mpr q))) p l e s m args below meth cd base D cI cM cS H locs ls C hW hF hz hL hR
  · exact kf (by first | exact (inR_le inR_0 ha).mp h | exact Int.not_lt.mp (fun q => h ((inR_le inR_0 ha).mpr q)) | exact Int.not_le.mp (fun q => h ((inR_le inR_0 ha).mpr q)) | (intro q; exact h ((inR_le inR_0 ha).mpr q))) p l e s m args below meth cd base D cI cM cS H locs ls C hW hF hz hL hR
theorem V.icmp_gt {a b : Int} {off : Int} {tgt : Nat} (hd : decode μ.2.1 pc = .ok (.if_icmp .gt off, 3)) (ht : (pc : Int) + off = (tgt : Int)) (ha : inR a) (hb : inR b) (kt : b < a → V μ d mc ms (tgt) lv (st) sh M ck sk Q) (kf : a ≤ b → V μ d mc ms (pc + 3) lv (st) sh M ck sk Q) : V μ d mc ms (pc) lv (.inl b :: .inl a :: st) sh M ck sk Q := by
  intro p l e s m args below meth cd base D cI cM cS H locs ls C hW hF hz hL hR
  refine lv_icmp_gt (tgt := tgt) C.1 C.2.1 hd ht (fun h => ?_) (fun h => ?_)
  · exact kt (by first | exact (inR_lt hb ha).mp h | (intro q; exact h ((inR_lt hb ha).mpr q))) p l e s m args below meth cd base D cI cM cS H locs ls C hW hF hz hL hR
  · exact kf (by first | exact (inR_lt hb ha).mp h | exact Int.not_lt.mp (fun q => h ((inR_lt hb ha).mpr q)) | exact Int.not_le.mp (fun q => h ((inR_lt hb ha).mpr q)) | (intro q; exact h ((inR_lt hb ha).mpr q))) p l e s m args below meth cd base D cI cM cS H locs ls C hW hF hz hL hR
theorem V.if_gt {a : Int} {off : Int} {tgt : Nat} (hd : decode μ.2.1 pc = .ok (.ifCond .gt off, 3)) (ht : (pc : Int) + off = (tgt : Int)) (ha : inR a) (kt : 0 < a → V μ d mc ms (tgt) lv (st) sh M ck sk Q) (kf : a ≤ 0 → V μ d mc ms (pc + 3) lv (st) sh M ck sk Q) : V μ d mc ms (pc) lv (.inl a :: st) sh M ck sk Q := by
  intro p l e s m args below meth cd base D cI cM cS H locs ls C hW hF hz hL hR
  refine lv_if_gt (tgt := tgt) C.1 C.2.1 hd ht (fun h => ?_) (fun h => ?_) <;> rw [← of0] at h
  · exact kt (by first | exact (inR_lt inR_0 ha).mp h | (intro q; exact h ((inR_lt inR_0 ha).mpr q))) p l e s m args below meth cd base D cI cM cS H locs ls C hW hF hz hL hR
  · exact kf (by first | exact (inR_lt inR_0 ha).mp h | exact Int.not_lt.mp (fun q => h ((inR_lt inR_0 ha).mpr q)) | exact Int.not_le.mp (fun q => h ((inR_lt inR_0 ha).mpr q)) | (intro q; exact h ((inR_lt inR_0 ha).mpr q))) p l e s m args below meth cd base D cI cM cS H locs ls C hW hF hz hL hR
theorem V.icmp_le {a b : Int} {off : Int} {tgt : Nat} (hd : decode μ.2.1 pc = .ok (.if_icmp .le off, 3)) (ht : (pc : Int) + off = (tgt : Int)) (ha : inR a) (hb : inR b) (kt : a ≤ b → V μ d mc ms (tgt) lv (st) sh M ck sk Q) (kf : b < a → V μ d mc ms (pc + 3) lv (st) sh M ck sk Q) : V μ d mc ms (pc) lv (.inl b :: .inl a :: st) sh M ck sk Q := by
  intro p l e s m args below meth cd base D cI cM cS H locs ls C hW hF hz hL hR
  refine lv_icmp_le (tgt := tgt) C.1 C.2.1 hd ht (fun h => ?_) (fun h => ?_)
  · exact kt (by first | exact (inR_le ha hb).mp h | (intro q; exact h ((inR_le ha hb).mpr q))) p l e s m args below meth cd base D cI cM cS H locs ls C hW hF hz hL hR
  · exact kf (by first | exact (inR_le ha hb).mp h | exact Int.not_lt.mp (fun q => h ((inR_le ha hb).mpr q)) | exact Int.not_le.mp (fun q => h ((inR_le ha hb).mpr q)) | (intro q; exact h ((inR_le ha hb).mpr q))) p l e s m args below meth cd base D cI cM cS H locs ls C hW hF hz hL hR
theorem V.if_le {a : Int} {off : Int} {tgt : Nat} (hd : decode μ.2.1 pc = .ok (.ifCond .le off, 3)) (ht : (pc : Int) + off = (tgt : Int)) (ha : inR a) (kt : a ≤ 0 → V μ d mc ms (tgt) lv (st) sh M ck sk Q) (kf : 0 < a → V μ d mc ms (pc + 3) lv (st) sh M ck sk Q) : V μ d mc ms (pc) lv (.inl a :: st) sh M ck sk Q := by
  intro p l e s m args below meth cd base D cI cM cS H locs ls C hW hF hz hL hR
  refine lv_if_le (tgt := tgt) C.1 C.2.1 hd ht (fun h => ?_) (fun h => ?_) <;> rw [← of0] at h
  · exact kt (by first | exact (inR_le ha inR_0).mp h | (intro q; exact h ((inR_le ha inR_0).mpr q))) p l e s m args below meth cd base D cI cM cS H locs ls C hW hF hz hL hR
  · exact kf (by first | exact (inR_le ha inR_0).mp h | exact Int.not_lt.mp (fun q => h ((inR_le ha inR_0).mpr q)) | exact Int.not_le.mp (fun q => h ((inR_le ha inR_0).mpr q)) | (intro q; exact h ((inR_le ha inR_0).mpr q))) p l e s m args below meth cd base D cI cM cS H locs ls C hW hF hz hL hR
theorem V.goto {off : Int} {tgt : Nat} (hd : decode μ.2.1 pc = .ok (.goto off, 3)) (ht : (pc : Int) + off = (tgt : Int)) (k : V μ d mc ms (tgt) lv (st) sh M ck sk Q) : V μ d mc ms (pc) lv (st) sh M ck sk Q := by
  intro p l e s m args below meth cd base D cI cM cS H locs ls C hW hF hz hL hR
  exact lv_goto (tgt := tgt) C.1 C.2.1 hd ht (k p l e s m args below meth cd base D cI cM cS H locs ls C hW hF hz hL hR)
theorem V.tabOut {dflt lo hi : Int} {offs : Array Int} {len tgt : Nat} {a : Int} (hd : decode μ.2.1 pc = .ok (.tableswitch dflt lo hi offs, len)) (ha : inR a) (h : a < lo ∨ hi < a) (ht : (pc : Int) + dflt = (tgt : Int)) (k : V μ d mc ms (tgt) lv (st) sh M ck sk Q) : V μ d mc ms (pc) lv (.inl a :: st) sh M ck sk Q := by
  intro p l e s m args below meth cd base D cI cM cS H locs ls C hW hF hz hL hR
  exact lv_tableOut (tgt := tgt) C.1 C.2.1 hd (by rw [inR_toInt ha]; exact h) ht (k p l e s m args below meth cd base D cI cM cS H locs ls C hW hF hz hL hR)
theorem V.tabIn {dflt lo hi : Int} {offs : Array Int} {len tgt : Nat} {a off : Int} (hd : decode μ.2.1 pc = .ok (.tableswitch dflt lo hi offs, len)) (ha : inR a) (h1 : lo ≤ a) (h2 : a ≤ hi) (ho : offs[(a - lo).toNat]? = some off) (ht : (pc : Int) + off = (tgt : Int)) (k : V μ d mc ms (tgt) lv (st) sh M ck sk Q) : V μ d mc ms (pc) lv (.inl a :: st) sh M ck sk Q := by
  intro p l e s m args below meth cd base D cI cM cS H locs ls C hW hF hz hL hR
  exact lv_tableIn (tgt := tgt) C.1 C.2.1 hd (by rw [inR_toInt ha]; omega) (by rw [inR_toInt ha]; omega) (by rw [inR_toInt ha]; exact ho) ht (k p l e s m args below meth cd base D cI cM cS H locs ls C hW hF hz hL hR)
theorem V.dup {v : AV} (hd : decode μ.2.1 pc = .ok (.dup, 1)) (k : V μ d mc ms (pc + 1) lv (v :: v :: st) sh M ck sk Q) : V μ d mc ms (pc) lv (v :: st) sh M ck sk Q := by
  intro p l e s m args below meth cd base D cI cM cS H locs ls C hW hF hz hL hR
  exact lv_dup C.1 C.2.1 hd (cv_cat base v) (k p l e s m args below meth cd base D cI cM cS H locs ls C hW hF hz hL hR)
theorem V.dup2 {v w : AV} (hd : decode μ.2.1 pc = .ok (.dup2, 1)) (k : V μ d mc ms (pc + 1) lv (v :: w :: v :: w :: st) sh M ck sk Q) : V μ d mc ms (pc) lv (v :: w :: st) sh M ck sk Q := by
  intro p l e s m args below meth cd base D cI cM cS H locs ls C hW hF hz hL hR
  exact lv_dup2_11 C.1 C.2.1 hd (cv_cat base v) (cv_cat base w) (k p l e s m args below meth cd base D cI cM cS H locs ls C hW hF hz hL hR)
theorem V.pop {v : AV} (hd : decode μ.2.1 pc = .ok (.pop, 1)) (k : V μ d mc ms (pc + 1) lv (st) sh M ck sk Q) : V μ d mc ms (pc) lv (v :: st) sh M ck sk Q := by
  intro p l e s m args below meth cd base D cI cM cS H locs ls C hW hF hz hL hR
  exact lv_pop C.1 C.2.1 hd (cv_cat base v) (k p l e s m args below meth cd base D cI cM cS H locs ls C hW hF hz hL hR)
/-- a field's link and what the tables say of its class -/
def FI (own : String) (idx t k : Nat) (fin : Bool) (ty : FieldType) : Prop := ∃ (C : String) (T : u_T) (N : Nat), vwCl[t]? = some (C, T, N) ∧ k < N ∧ Cond.fieldLink own idx (T k).1 (T k).2.1 (T k).2.2.1 ∈ fm_TBL ∧ (∀ w ∈ u_ws C T N, w ∈ fm_TBL) ∧ (T k).2.2.2 = fin ∧ parseFieldDescriptor (T k).2.2.1 = some ty ∧ (∃ ty0 : Nat → FieldType, ∀ k, k < N → parseFieldDescriptor (T k).2.2.1 = some (ty0 k)) ∧ (∀ a, a < N → ∀ b, b < N → a ≠ b → (T a).2.1 ≠ (T b).2.1) ∧ (T k).1 = C
theorem fm_cons {μ : Mu} {w : Cond} (h : w ∈ fm_TBL) : w ∈ fm_ws μ := List.mem_cons_of_mem _ h
theorem Cl.obj {base : Nat} {D : va_G} {cI cM cS : ClassId} {a t n : Nat} {fs : List (Option (Option Nat))} {row : Int → Int} {H : Heap} (h : Cl base D cI cM cS a (t + 3, n, fs) row H) : fs.length = n ∧ ∃ r : vw_C, vwCl[t]? = some r ∧ r.2.2 = n ∧ t_OB (base + a) (D.1 t) r.2.2 (D.2 t) H (fv base row fs) := h
theorem V.getv {idx a t n k0 : Nat} {fs : List (Option (Option Nat))} {fin : Bool} {ty : FieldType} {v : AV} (hd : decode μ.2.1 pc = .ok (.getfield idx, 3)) (hf : FI μ.1.cls idx t k0 fin ty) (hs : sh[a]? = some (t + 3, n, fs)) (hv : ∀ base, fv base (M a) fs k0 = cv base v) (k : V μ d mc ms (pc + 3) lv (v :: st) sh M ck sk Q) : V μ d mc ms (pc) lv (.inr (some a) :: st) sh M ck sk Q := by
  intro p l e s m args below meth cd base D cI cM cS H locs ls C hW hF hz hL hR
  obtain ⟨Cn, T, N, hc, hk, hlink, hu, -⟩ := hf
  obtain ⟨hlen, r, h1, hn, cell, q1, q2, q3, q4⟩ := (hW.2 a _ hs).obj
  have hr : r = (Cn, T, N) := Option.some.inj (h1.symm.trans hc)
  subst hr
  have hts := C.2.2.2.2.2.1
  have hK := C.2.2.2.2.2.2.2.2.1
  obtain ⟨hS, hfc, kC, hkC, hkind⟩ := hK.1 t _ hc
  obtain ⟨cf, kf, fi, f, hi, hsl⟩ := hS k0 hk
  refine W.getf C.1 C.2.1 C.2.2.2.2.1 (hts _ (fm_cons hlink)) hi (u_facts hfc hkC (u_lays hts (fun w hw => fm_cons (hu w hw)) hk) hi).1 q1 (by rw [q3]; exact fun h => by cases h) (v := cv base v) ?_ rfl rfl hd (k p l e s m args below meth cd base D cI cM cS H locs ls C hW hF hz hL hR)
  rw [hsl, q4 k0 hk, hv]
theorem V.getI {idx a t n : Nat} (k0 : Nat) {fs : List (Option (Option Nat))} {fin : Bool} {ty : FieldType} (hd : decode μ.2.1 pc = .ok (.getfield idx, 3)) (hf : FI μ.1.cls idx t k0 fin ty) (hs : sh[a]? = some (t + 3, n, fs)) (hv : fs[k0]? = some none) (k : V μ d mc ms (pc + 3) lv (.inl (M a (k0 : Int)) :: st) sh M ck sk Q) : V μ d mc ms (pc) lv (.inr (some a) :: st) sh M ck sk Q :=
  V.getv hd hf hs (fun base => by simp [fv, hv, cv]) k
theorem V.getR {idx a t n k0 b : Nat} {fs : List (Option (Option Nat))} {fin : Bool} {ty : FieldType} (hd : decode μ.2.1 pc = .ok (.getfield idx, 3)) (hf : FI μ.1.cls idx t k0 fin ty) (hs : sh[a]? = some (t + 3, n, fs)) (hv : fs[k0]? = some (some (some b))) (k : V μ d mc ms (pc + 3) lv (.inr (some b) :: st) sh M ck sk Q) : V μ d mc ms (pc) lv (.inr (some a) :: st) sh M ck sk Q :=
  V.getv hd hf hs (fun base => by simp [fv, hv, cv]) k
def mset (M : Mem) (a : Nat) (i v : Int) : Mem := fun b j => if b = a ∧ j = i then v else M b j
def mrow (M : Mem) (a : Nat) (f : Int → Int) : Mem := fun b j => if b = a then f j else M b j
theorem mset_row {M : Mem} {a b : Nat} {i v : Int} (h : b ≠ a) : mset M a i v b = M b := by
  funext j; simp [mset, h]
theorem mrow_row {M : Mem} {a b : Nat} {f : Int → Int} (h : b ≠ a) : mrow M a f b = M b := by
  funext j; simp [mrow, h]
theorem mrow_at {M : Mem} {a : Nat} {f : Int → Int} : mrow M a f a = f := by
  funext j; simp [mrow]
theorem fm_apart {D : va_G} {cI cM cS : ClassId} {s : State} {args : Array Value} {μ : Mu} {t N : Nat} {Cn : String} {T : u_T} (hts : ∀ w ∈ fm_ws μ, w.before args s = true) (hu : ∀ w ∈ u_ws Cn T N, w ∈ fm_TBL) (ty0 : Nat → FieldType) (hty : ∀ k, k < N → parseFieldDescriptor (T k).2.2.1 = some (ty0 k)) (hnm : ∀ a, a < N → ∀ b, b < N → a ≠ b → (T a).2.1 ≠ (T b).2.1) (hK : va_K D vwCl (tysOf cI cM cS) s) (hc : vwCl[t]? = some (Cn, T, N)) : ∀ x y, x < N → y < N → x ≠ y → (D.2 t) x ≠ (D.2 t) y := va_apart (own := "") hts (fun w hw => fm_cons (hu w hw)) ty0 hty hnm hK hc
theorem V.putv {idx a t n k0 : Nat} {fs fs' : List (Option (Option Nat))} {ty : FieldType} {v : AV} {M' : Mem} (hd : decode μ.2.1 pc = .ok (.putfield idx, 3)) (hf : FI μ.1.cls idx t k0 false ty) (hs : sh[a]? = some (t + 3, n, fs)) (hv : ∀ base, narrow ty (cv base v) = cv base v ∧ fits ty (cv base v) = true) (hM : ∀ b, b ≠ a → M' b = M b) (hl : fs'.length = n) (hfs : ∀ base j, j < n → fv base (M' a) fs' j = if j = k0 then cv base v else fv base (M a) fs j) (k : V μ d mc ms (pc + 3) lv (st) (sh.set a (t + 3, n, fs')) M' ck sk Q) : V μ d mc ms (pc) lv (v :: .inr (some a) :: st) sh M ck sk Q := by
  intro p l e s m args below meth cd base D cI cM cS H locs ls C hW hF hz hL hR
  obtain ⟨Cn, T, N, hc, hk, hlink, hu, hfin, hdp, ⟨ty0, hty⟩, hnm, -⟩ := hf
  obtain ⟨hlen, r, h1, hn, cell, q1, q2, q3, q4⟩ := (hW.2 a _ hs).obj
  have hr : r = (Cn, T, N) := Option.some.inj (h1.symm.trans hc)
  subst hr
  have hts := C.2.2.2.2.2.1
  have hK := C.2.2.2.2.2.2.2.2.1
  have hap := fm_apart hts hu ty0 hty hnm hK hc
  obtain ⟨hS, hfc, kC, hkC, hkind⟩ := hK.1 t _ hc
  obtain ⟨cf, kf, fi, f, hi, hsl⟩ := hS k0 hk
  have hin : ∀ w ∈ u_ws Cn T N, w ∈ fm_ws μ := fun w hw => fm_cons (hu w hw)
  have hlay := hts _ (hin _ (u_in_lay hk))
  unfold u_lay at hlay
  rw [if_neg (by rw [hfin]; decide)] at hlay
  have hst := (u_facts hfc hkC (u_lays hts hin hk) hi).1
  have h6 := u_store hfc hkC hkind hlay hi hdp (hv base).1 (hv base).2
  refine W.putK C.1 C.2.1 (f := f) ⟨C.2.2.2.2.1, hts _ (fm_cons hlink), ⟨_, _, _, hi⟩, hst⟩ (by rw [q2]; exact h6) q1 q3 (by rw [hsl]; exact k2_hasslot (q4 k0 hk)) rfl rfl hd fun H' e1 e2 e3 => ?_
  rw [hsl] at e1
  have hW' : Wh base D cI cM cS (sh.set a (t + 3, n, fs')) M' H' := hW.put hs hM (show Cl base D cI cM cS a (t + 3, n, fs') (M' a) H' from ⟨hl, _, hc, hn, t_OB.to ⟨_, e1, q2, q3, t_set q4 hap hk (cv base v)⟩ (fun j hj => by
    rw [hfs base j (by rw [← hn]; exact hj)]; rfl)⟩) e2 e3
  have hge : base ≤ base + a := Nat.le_add_right _ _
  exact k p l e s m args below meth cd base D cI cM cS H' _ ls C hW' (fun q hq => by rw [e3 q (Nat.ne_of_lt (Nat.lt_of_lt_of_le hq (Nat.le_add_right base a)))]; exact hF q hq) (by rw [e2]; exact hz) (fun q hq => by
    rcases List.mem_append.mp hq with h | h
    · exact hL q h
    · rw [List.mem_singleton.mp h]; exact hge) hR
theorem V.putvF {idx a t n k0 : Nat} {fs fs' : List (Option (Option Nat))} {ty : FieldType} {v : AV} {M' : Mem} (hd : decode μ.2.1 pc = .ok (.putfield idx, 3)) (hf : FI μ.1.cls idx t k0 true ty) (hinit : μ.1.name = "<init>") (hown : ∀ r, vwCl[t]? = some r → r.1 = μ.1.cls) (hs : sh[a]? = some (t + 3, n, fs)) (hv : ∀ base, narrow ty (cv base v) = cv base v ∧ fits ty (cv base v) = true) (hM : ∀ b, b ≠ a → M' b = M b) (hl : fs'.length = n) (hfs : ∀ base j, j < n → fv base (M' a) fs' j = if j = k0 then cv base v else fv base (M a) fs j) (k : V μ d mc ms (pc + 3) lv (st) (sh.set a (t + 3, n, fs')) M' ck sk Q) : V μ d mc ms (pc) lv (v :: .inr (some a) :: st) sh M ck sk Q := by
  intro p l e s m args below meth cd base D cI cM cS H locs ls C hW hF hz hL hR
  obtain ⟨Cn, T, N, hc, hk, hlink, hu, hfin, hdp, ⟨ty0, hty⟩, hnm, hCn⟩ := hf
  have hown' := hown _ hc
  obtain ⟨hlen, r, h1, hn, cell, q1, q2, q3, q4⟩ := (hW.2 a _ hs).obj
  have hr : r = (Cn, T, N) := Option.some.inj (h1.symm.trans hc)
  subst hr
  have hts := C.2.2.2.2.2.1
  have hK := C.2.2.2.2.2.2.2.2.1
  have hap := fm_apart hts hu ty0 hty hnm hK hc
  obtain ⟨hS, hfc, kC, hkC, hkind⟩ := hK.1 t _ hc
  obtain ⟨cf, kf, fi, f, hi, hsl⟩ := hS k0 hk
  have hin : ∀ w ∈ u_ws Cn T N, w ∈ fm_ws μ := fun w hw => fm_cons (hu w hw)
  have hlay := hts _ (hin _ (u_in_lay hk))
  unfold u_lay at hlay
  rw [if_pos hfin] at hlay
  have hst := (u_facts hfc hkC (u_lays hts hin hk) hi).1
  have hcf : m.cls = cf := by
    obtain ⟨_, _, c', _, _, _, -, -, hf', -, -, -, hown2, -⟩ := Cond.laysFinal_spec hlay
    have e1 : c' = cf := by have := hi.symm.trans hf'; simp at this; exact this.1.symm
    rw [hCn] at hown2
    have hown3 : Cn = μ.1.cls := hown'
    rw [hown3] at hown2
    rw [← e1]; exact Option.some.inj (C.2.2.2.2.1.symm.trans hown2)
  have h6 := u_fits hfc hkC hkind (Or.inr hlay) hi hdp (hv base).1 (hv base).2
  refine W.putFinK C.1 C.2.1 C.2.2.2.2.1 (hts _ (fm_cons hlink)) hi hst hcf (C.2.2.2.2.2.2.2.1.trans hinit) (by rw [q2]; exact h6) q1 q3 (by rw [hsl]; exact k2_hasslot (q4 k0 hk)) rfl rfl hd fun H' e1 e2 e3 => ?_
  rw [hsl] at e1
  have hW' : Wh base D cI cM cS (sh.set a (t + 3, n, fs')) M' H' := hW.put hs hM (show Cl base D cI cM cS a (t + 3, n, fs') (M' a) H' from ⟨hl, _, hc, hn, t_OB.to ⟨_, e1, q2, q3, t_set q4 hap hk (cv base v)⟩ (fun j hj => by
    rw [hfs base j (by rw [← hn]; exact hj)]; rfl)⟩) e2 e3
  have hge : base ≤ base + a := Nat.le_add_right _ _
  exact k p l e s m args below meth cd base D cI cM cS H' _ ls C hW' (fun q hq => by rw [e3 q (Nat.ne_of_lt (Nat.lt_of_lt_of_le hq (Nat.le_add_right base a)))]; exact hF q hq) (by rw [e2]; exact hz) (fun q hq => by
    rcases List.mem_append.mp hq with h | h
    · exact hL q h
    · rw [List.mem_singleton.mp h]; exact hge) hR
theorem fv_mset {M : Mem} {a k0 : Nat} {x : Int} {fs : List (Option (Option Nat))} (hv : fs[k0]? = some none) (base j : Nat) : fv base (mset M a (k0 : Int) x a) fs j = if j = k0 then cv base (.inl x) else fv base (M a) fs j := by
  by_cases e : j = k0
  · subst e
    simp [fv, hv, cv, mset]
  · have e2 : ¬ ((j : Int) = (k0 : Int)) := by omega
    simp only [if_neg e, fv, mset, e2, and_false, if_false]
theorem V.putI {idx a t n : Nat} (k0 : Nat) {fs : List (Option (Option Nat))} {x : Int} (hd : decode μ.2.1 pc = .ok (.putfield idx, 3)) (hf : FI μ.1.cls idx t k0 false .int) (hs : sh[a]? = some (t + 3, n, fs)) (hn : fs.length = n) (hv : fs[k0]? = some none) (k : V μ d mc ms (pc + 3) lv (st) sh (mset M a k0 x) ck sk Q) : V μ d mc ms (pc) lv (.inl x :: .inr (some a) :: st) sh M ck sk Q := by
  refine V.putv (M' := mset M a k0 x) (fs' := fs) hd hf hs (fun base => ⟨rfl, rfl⟩) (fun b hb => mset_row hb) hn (fun base j _ => fv_mset hv base j) ?_
  rw [shp_set hs]
  exact k
theorem fv_set {fs : List (Option (Option Nat))} {k0 b : Nat} (hl : k0 < fs.length) (base : Nat) (row : Int → Int) (j : Nat) : fv base row (fs.set k0 (some (some b))) j = if j = k0 then cv base (.inr (some b)) else fv base row fs j := by
  by_cases e : j = k0
  · subst e
    simp [fv, hl, cv]
  · simp only [if_neg e, fv, List.getElem?_set_ne (Ne.symm e)]
theorem V.putRF {idx a t n k0 b : Nat} {fs : List (Option (Option Nat))} {ty : FieldType} {sh2 : Shp} (hd : decode μ.2.1 pc = .ok (.putfield idx, 3)) (hf : FI μ.1.cls idx t k0 true ty) (hinit : μ.1.name = "<init>") (hown : ∀ r, vwCl[t]? = some r → r.1 = μ.1.cls) (hs : sh[a]? = some (t + 3, n, fs)) (hr : ∀ x : Nat, narrow ty (.ref x) = .ref x ∧ fits ty (.ref x) = true) (hn : fs.length = n) (hl : k0 < fs.length) (h2 : sh.set a (t + 3, n, fs.set k0 (some (some b))) = sh2) (k : V μ d mc ms (pc + 3) lv (st) sh2 M ck sk Q) : V μ d mc ms (pc) lv (.inr (some b) :: .inr (some a) :: st) sh M ck sk Q := by
  subst h2
  exact V.putvF (M' := M) (fs' := fs.set k0 (some (some b))) hd hf hinit hown hs (fun base => hr _) (fun _ _ => rfl) (by rw [List.length_set]; exact hn) (fun base j _ => fv_set hl base _ j) k
theorem fm_clamp {i : Int} (h : 0 ≤ i) (h2 : i ≤ 2147483647) : ((Int32.ofInt i).toNatClampNeg : Int) = i := by
  rw [Int32.toNatClampNeg, inR_toInt ⟨by omega, h2⟩]; omega
theorem fm_nneg {i : Int} (h : 0 ≤ i) (h2 : i ≤ 2147483647) : ¬ Int32.ofInt i < 0 := by
  rw [← of0, inR_lt ⟨by omega, h2⟩ inR_0]; omega
theorem fm_vin {i : Int} {n : Nat} (h : 0 ≤ i ∧ i < (n : Int)) (hn : n ≤ 2147483647) : vp_in (Int32.ofInt i) n := by
  rw [vp_in_iff, inR_toInt ⟨by omega, by omega⟩]; exact h
theorem V.iald {a n : Nat} {fs : List (Option (Option Nat))} {i : Int} (hd : decode μ.2.1 pc = .ok (.iaload, 1)) (hs : sh[a]? = some (0, n, fs)) (hn : n ≤ 2147483647) (hi : 0 ≤ i ∧ i < (n : Int)) (k : V μ d mc ms (pc + 1) lv (.inl (M a i) :: st) sh M ck sk Q) : V μ d mc ms (pc) lv (.inl i :: .inr (some a) :: st) sh M ck sk Q := by
  intro p l e s m args below meth cd base D cI cM cS H locs ls C hW hF hz hL hR
  have hc : H[base + a]? = some (vp_cell cI (n, .inl (fun j : Nat => Int32.ofInt (M a (j : Int))))) := hW.2 a _ hs
  have hv := fm_vin hi hn
  have hlt : (Int32.ofInt i).toNatClampNeg < n := Nat.not_le.mp fun q => hv (Or.inr q)
  refine W.iald (v := .int (Int32.ofInt (M a i))) C.1 C.2.1 hc ((C.2.2.2.2.2.2.2.2.1.2 0 _ rfl).1 n _) (fun q => by cases q) (by show ¬ (_ ∨ (arrV _ _ _).slots.size ≤ _); rw [arrV_size]; exact hv) (by show (arrV _ _ _).slots[_]? = _; rw [arrV_read _ _ hlt]; show some (Value.int (Int32.ofInt (M a ((Int32.ofInt i).toNatClampNeg : Int)))) = _; rw [fm_clamp hi.1 (by omega)]) rfl rfl hd (k p l e s m args below meth cd base D cI cM cS H locs ls C hW hF hz hL hR)
theorem V.iast {a n : Nat} {fs : List (Option (Option Nat))} {i x : Int} (hd : decode μ.2.1 pc = .ok (.iastore, 1)) (hs : sh[a]? = some (0, n, fs)) (hn : n ≤ 2147483647) (hi : 0 ≤ i ∧ i < (n : Int)) (k : V μ d mc ms (pc + 1) lv (st) sh (mset M a i x) ck sk Q) : V μ d mc ms (pc) lv (.inl x :: .inl i :: .inr (some a) :: st) sh M ck sk Q := by
  intro p l e s m args below meth cd base D cI cM cS H locs ls C hW hF hz hL hR
  have hc : H[base + a]? = some (vp_cell cI (n, .inl (fun j : Nat => Int32.ofInt (M a (j : Int))))) := hW.2 a _ hs
  have hv := fm_vin hi hn
  have hlt : (Int32.ofInt i).toNatClampNeg < n := Nat.not_le.mp fun q => hv (Or.inr q)
  have hge : base ≤ base + a := Nat.le_add_right _ _
  refine W.iast C.1 C.2.1 hc ((C.2.2.2.2.2.2.2.2.1.2 0 _ rfl).1 n _) (fun q => by cases q) (by show ¬ (_ ∨ (arrV _ _ _).slots.size ≤ _); rw [arrV_size]; exact hv) rfl rfl hd fun H1 e9 z oq => ?_
  have hW' : Wh base D cI cM cS sh (mset M a i x) H1 := hW.put1 hs (fun b hb => mset_row hb) (show H1[base + a]? = some (vp_cell cI (n, .inl (fun j : Nat => Int32.ofInt (mset M a i x a (j : Int))))) from by
    rw [e9, vp_cell_i, vp_cell_i, arrV_store]
    congr 2
    funext q
    have hcl := fm_clamp hi.1 (by omega : i ≤ 2147483647)
    by_cases hq : q = (Int32.ofInt i).toNatClampNeg
    · subst hq
      simp [updV, mset, hcl]
    · have hq2 : ¬ ((q : Int) = i) := by omega
      simp [updV, mset, hq, hq2]) z oq
  exact k p l e s m args below meth cd base D cI cM cS H1 _ ls C hW' (fun q hq => by rw [oq q (Nat.ne_of_lt (Nat.lt_of_lt_of_le hq (Nat.le_add_right base a)))]; exact hF q hq) (by rw [z]; exact hz) (fun q hq => by
    rcases List.mem_append.mp hq with h | h
    · exact hL q h
    · rw [List.mem_singleton.mp h]; exact hge) hR
theorem V.aald {a n t b : Nat} {fs : List (Option (Option Nat))} {i : Int} (hd : decode μ.2.1 pc = .ok (.aaload, 1)) (hs : sh[a]? = some (t, n, fs)) (ht : t = 1 ∨ t = 2) (hn : n ≤ 2147483647) (hi : 0 ≤ i ∧ i < (n : Int)) (hv : fs[i.toNat]? = some (some (some b))) (k : V μ d mc ms (pc + 1) lv (.inr (some b) :: st) sh M ck sk Q) : V μ d mc ms (pc) lv (.inl i :: .inr (some a) :: st) sh M ck sk Q := by
  intro p l e s m args below meth cd base D cI cM cS H locs ls C hW hF hz hL hR
  have hvi := fm_vin hi hn
  have hlt : (Int32.ofInt i).toNatClampNeg < n := Nat.not_le.mp fun q => hvi (Or.inr q)
  have hcl : (Int32.ofInt i).toNatClampNeg = i.toNat := by have := fm_clamp hi.1 (by omega : i ≤ 2147483647); omega
  have hrd : (Value.ref (base + b)) = va_rf (rr base fs (Int32.ofInt i).toNatClampNeg) := by rw [hcl]; simp [rr, hv, va_rf]
  rcases ht with rfl | rfl
  · have hc : H[base + a]? = some (vp_cell cM (n, .inr (.inr (.inr (.inr (rr base fs)))))) := hW.2 a _ hs
    refine W.aald (v := .ref (base + b)) (ty := .object RX1) C.1 C.2.1 hc ((C.2.2.2.2.2.2.2.2.1.2 1 _ rfl).1 n (fun j => va_rf (rr base fs j))) rfl (fun q => by cases q) (by show ¬ (_ ∨ (arrV _ _ _).slots.size ≤ _); rw [arrV_size]; exact hvi) (by show (arrV _ _ _).slots[_]? = _; rw [arrV_read _ _ hlt, hrd]) rfl rfl hd (k p l e s m args below meth cd base D cI cM cS H locs ls C hW hF hz hL hR)
  · have hc : H[base + a]? = some (vp_cell cS (n, .inr (.inr (.inr (.inr (rr base fs)))))) := hW.2 a _ hs
    refine W.aald (v := .ref (base + b)) (ty := .object RX3) C.1 C.2.1 hc ((C.2.2.2.2.2.2.2.2.1.2 2 _ rfl).1 n (fun j => va_rf (rr base fs j))) rfl (fun q => by cases q) (by show ¬ (_ ∨ (arrV _ _ _).slots.size ≤ _); rw [arrV_size]; exact hvi) (by show (arrV _ _ _).slots[_]? = _; rw [arrV_read _ _ hlt, hrd]) rfl rfl hd (k p l e s m args below meth cd base D cI cM cS H locs ls C hW hF hz hL hR)
theorem V.alen {a n : Nat} {fs : List (Option (Option Nat))} (hd : decode μ.2.1 pc = .ok (.arraylength, 1)) (hs : sh[a]? = some (0, n, fs)) (k : V μ d mc ms (pc + 1) lv (.inl (n : Int) :: st) sh M ck sk Q) : V μ d mc ms (pc) lv (.inr (some a) :: st) sh M ck sk Q := by
  intro p l e s m args below meth cd base D cI cM cS H locs ls C hW hF hz hL hR
  have hc : H[base + a]? = some (vp_cell cI (n, .inl (fun j : Nat => Int32.ofInt (M a (j : Int))))) := hW.2 a _ hs
  exact W.alen (n := Int32.ofInt n) C.1 C.2.1 hc ((C.2.2.2.2.2.2.2.2.1.2 0 _ rfl).1 n _) (by rw [vp_cell_i, arrV_size, Int32.ofInt_eq_ofNat] <;> rfl) rfl rfl hd (k p l e s m args below meth cd base D cI cM cS H locs ls C hW hF hz hL hR)
theorem V.aast {a n t b : Nat} {fs gs : List (Option (Option Nat))} {i : Int} {nb cb : Nat} {sh2 : Shp} (hd : decode μ.2.1 pc = .ok (.aastore, 1)) (hs : sh[a]? = some (t, n, fs)) (ht : (t = 1 ∧ cb = 1) ∨ (t = 2 ∧ cb = 3)) (hb : sh[b]? = some (cb + 3, nb, gs)) (hn : n ≤ 2147483647) (hfl : fs.length = n) (hi : 0 ≤ i ∧ i < (n : Int)) (h2 : sh.set a (t, n, fs.set i.toNat (some (some b))) = sh2) (k : V μ d mc ms (pc + 1) lv (st) sh2 M ck sk Q) : V μ d mc ms (pc) lv (.inr (some b) :: .inl i :: .inr (some a) :: st) sh M ck sk Q := by
  subst h2
  intro p l e s m args below meth cd base D cI cM cS H locs ls C hW hF hz hL hR
  have hvi := fm_vin hi hn
  have hlt : (Int32.ofInt i).toNatClampNeg < n := Nat.not_le.mp fun q => hvi (Or.inr q)
  have hcl : (Int32.ofInt i).toNatClampNeg = i.toNat := by have := fm_clamp hi.1 (by omega : i ≤ 2147483647); omega
  have h0 : ¬ Int32.ofInt i < 0 := fun q => hvi (Or.inl q)
  have hge : base ≤ base + a := Nat.le_add_right _ _
  obtain ⟨-, r', hr', hn', cellV, g1, g2, g3, -⟩ := (hW.2 b _ hb).obj
  have hK := C.2.2.2.2.2.2.2.2.1
  have hfn : ∀ z : Value, z = .ref (base + b) → updV (fun j => va_rf (rr base fs j)) (Int32.ofInt i).toNatClampNeg z = fun j => va_rf (rr base (fs.set i.toNat (some (some b))) j) := by
    rintro z rfl
    funext q
    by_cases hq : q = (Int32.ofInt i).toNatClampNeg
    · subst hq
      rw [hcl]
      have : i.toNat < fs.length := by omega
      simp [updV, rr, this, va_rf]
    · have hq2 : ¬ i.toNat = q := by omega
      simp [updV, hq, rr, List.getElem?_set_ne hq2]
  rcases ht with ⟨rfl, rfl⟩ | ⟨rfl, rfl⟩
  · have hc : H[base + a]? = some (vp_cell cM (n, .inr (.inr (.inr (.inr (rr base fs)))))) := hW.2 a _ hs
    have hcls := (hK.1 1 r' hr').2
    obtain ⟨kA, comp, k1, k2, k3, -⟩ := (hK.2 1 _ rfl).2
    have hcomp : comp = D.1 1 := Option.some.inj (k3.symm.trans (by rw [show RX1 = r'.1 from by have := Option.some.inj hr'; rw [← this]]; exact hcls.1))
    subst hcomp
    obtain ⟨kC, hkC, hkk⟩ := hcls.2
    refine W.aast C.1 C.2.1 hc (fun q h => by cases h) (fun h => by cases h) k1 k2 rfl hkC ⟨h0, by show _ < (arrV _ _ _).slots.size; rw [arrV_size]; exact hlt⟩ g1 (fun q h => by rw [g3] at h; cases h) (by rw [g2]; exact hkC) (by rw [g2]; exact va_assign hcls) rfl rfl hd fun H1 e9 z oq => ?_
    have hW' : Wh base D cI cM cS (sh.set a (1, n, fs.set i.toNat (some (some b)))) M H1 := hW.put hs (fun _ _ => rfl) (show H1[base + a]? = some (vp_cell cM (n, .inr (.inr (.inr (.inr (rr base (fs.set i.toNat (some (some b)))))))) ) from by
      rw [e9, vp_cell_q, vp_cell_q, arrV_store, hfn _ rfl]) z oq
    exact k p l e s m args below meth cd base D cI cM cS H1 _ ls C hW' (fun q hq => by rw [oq q (Nat.ne_of_lt (Nat.lt_of_lt_of_le hq (Nat.le_add_right base a)))]; exact hF q hq) (by rw [z]; exact hz) (fun q hq => by
    rcases List.mem_append.mp hq with h | h
    · exact hL q h
    · rw [List.mem_singleton.mp h]; exact hge) hR
  · have hc : H[base + a]? = some (vp_cell cS (n, .inr (.inr (.inr (.inr (rr base fs)))))) := hW.2 a _ hs
    have hcls := (hK.1 3 r' hr').2
    obtain ⟨kA, comp, k1, k2, k3, -⟩ := (hK.2 2 _ rfl).2
    have hcomp : comp = D.1 3 := Option.some.inj (k3.symm.trans (by rw [show RX3 = r'.1 from by have := Option.some.inj hr'; rw [← this]]; exact hcls.1))
    subst hcomp
    obtain ⟨kC, hkC, hkk⟩ := hcls.2
    refine W.aast C.1 C.2.1 hc (fun q h => by cases h) (fun h => by cases h) k1 k2 rfl hkC ⟨h0, by show _ < (arrV _ _ _).slots.size; rw [arrV_size]; exact hlt⟩ g1 (fun q h => by rw [g3] at h; cases h) (by rw [g2]; exact hkC) (by rw [g2]; exact va_assign hcls) rfl rfl hd fun H1 e9 z oq => ?_
    have hW' : Wh base D cI cM cS (sh.set a (2, n, fs.set i.toNat (some (some b)))) M H1 := hW.put hs (fun _ _ => rfl) (show H1[base + a]? = some (vp_cell cS (n, .inr (.inr (.inr (.inr (rr base (fs.set i.toNat (some (some b)))))))) ) from by
      rw [e9, vp_cell_q, vp_cell_q, arrV_store, hfn _ rfl]) z oq
    exact k p l e s m args below meth cd base D cI cM cS H1 _ ls C hW' (fun q hq => by rw [oq q (Nat.ne_of_lt (Nat.lt_of_lt_of_le hq (Nat.le_add_right base a)))]; exact hF q hq) (by rw [z]; exact hz) (fun q hq => by
    rcases List.mem_append.mp hq with h | h
    · exact hL q h
    · rw [List.mem_singleton.mp h]; exact hge) hR
theorem fv_blank {M : Mem} {a : Nat} {fs : List (Option (Option Nat))} {ty : Nat → FieldType} (hM : ∀ i, M a i = 0) (hfs : ∀ j, j < fs.length → (fs[j]? = some none ∧ defaultValue (ty j) = .int 0) ∨ (fs[j]? = some (some none) ∧ defaultValue (ty j) = .null)) (base : Nat) : ∀ j, j < fs.length → defaultValue (ty j) = fv base (M a) fs j := by
  intro j hj
  rcases hfs j hj with ⟨h1, h2⟩ | ⟨h1, h2⟩
  · rw [h2]; simp only [fv, h1, hM]; rfl
  · rw [h2]; simp only [fv, h1]
theorem V.new {idx t N : Nat} {Cn : String} {T : u_T} {ty : Nat → FieldType} {fs : List (Option (Option Nat))} {sh2 : Shp} (hd : decode μ.2.1 pc = .ok (.new idx, 3)) (hc : vwCl[t]? = some (Cn, T, N)) (hk : Cond.classLink μ.1.cls idx Cn ∈ fm_TBL) (hins : Cond.instantiable Cn N ∈ fm_TBL) (hini : Cond.initialized Cn ∈ fm_TBL) (hu : ∀ w ∈ u_ws Cn T N, w ∈ fm_TBL) (hty : ∀ k, k < N → parseFieldDescriptor (T k).2.2.1 = some (ty k)) (hl : fs.length = N) (hM : ∀ i, M sh.length i = 0) (hfs : ∀ j, j < fs.length → (fs[j]? = some none ∧ defaultValue (ty j) = .int 0) ∨ (fs[j]? = some (some none) ∧ defaultValue (ty j) = .null)) (hck : ck + 1 ≤ mc) (hsk : sk + N ≤ ms) {a : Nat} (ha : sh.length = a) (h2 : sh ++ [(t + 3, N, fs)] = sh2) (k : V μ d mc ms (pc + 3) lv (.inr (some a) :: st) sh2 M (ck + 1) (sk + N) Q) : V μ d mc ms (pc) lv (st) sh M ck sk Q := by
  subst h2; subst ha
  intro p l e s m args below meth cd base D cI cM cS H locs ls C hW hF hz hL hR
  have hts := C.2.2.2.2.2.1
  have hK := C.2.2.2.2.2.2.2.2.1
  have hKn := hK.1 t _ hc
  have hin : ∀ w ∈ u_ws Cn T N, w ∈ fm_ws μ := fun w hw => fm_cons (hu w hw)
  refine W.newcK C.1 C.2.1 C.2.2.2.2.1 (hts _ (fm_cons hk)) (hts _ (fm_cons hins)) (hts _ (fm_cons hini)) rfl hd hck hsk hKn.2.1 hW.1 fun H1 kC hkC e1 z1 o1 => ?_
  have hW' : Wh base D cI cM cS (sh ++ [(t + 3, N, fs)]) M H1 := hW.push (show Cl base D cI cM cS sh.length (t + 3, N, fs) (M sh.length) H1 from ⟨hl, _, hc, rfl, (u_born ty hts hin hKn hkC e1 hty).to (fun j hj => fv_blank hM hfs base j (by rw [hl]; exact hj))⟩) (by rw [z1, hW.1]) (fun q hq => o1 q (by rw [← hW.1]; exact hq))
  exact k p l e s m args below meth cd base D cI cM cS H1 locs ls C hW' (fun q hq => by rw [o1 q (Nat.lt_of_lt_of_le hq (Nat.le_add_right base sh.length))]; exact hF q hq) (by rw [z1, ← hW.1]; omega) hL hR
theorem V.newa {N : Nat} {z : Int} {sh2 : Shp} {a : Nat} (hd : decode μ.2.1 pc = .ok (.newarray .int, 2)) (hz0 : z = (N : Int)) (hN : N ≤ 100000) (hM : ∀ i, M sh.length i = 0) (hck : ck + 1 ≤ mc) (hsk : sk + N ≤ ms) (ha : sh.length = a) (h2 : sh ++ [(0, N, [])] = sh2) (k : V μ d mc ms (pc + 2) lv (.inr (some a) :: st) sh2 M (ck + 1) (sk + N) Q) : V μ d mc ms (pc) lv (.inl z :: st) sh M ck sk Q := by
  subst h2; subst ha; subst hz0
  intro p l e s m args below meth cd base D cI cM cS H locs ls C hW hF hz hL hR
  have hts := C.2.2.2.2.2.1
  have hK := C.2.2.2.2.2.2.2.2.1
  have hcl : (Int32.ofInt (N : Int)).toNatClampNeg = N := by have := fm_clamp (i := (N : Int)) (by omega) (by omega); omega
  refine va_newaK C.1 C.2.1 (atype := .int) (hts _ (fm_cons kw_arr)) rfl hd rfl (fm_nneg (by omega) (by omega)) hcl (by show N * 4 ≤ _; omega) hck hsk hW.1 fun H1 cA e1 z1 o1 hAr hNm => ?_
  have hcA : cA = cI := Option.some.inj (hNm.symm.trans (hK.2 0 _ rfl).2)
  subst hcA
  have hW' : Wh base D cA cM cS (sh ++ [(0, N, [])]) M H1 := hW.push (show H1[base + sh.length]? = some (vp_cell cA (N, .inl (fun j : Nat => Int32.ofInt (M sh.length (j : Int))))) from by
    rw [e1, vp_cell_i]
    congr 2
    funext j
    rw [hM]; rfl) (by rw [z1, hW.1]) (fun q hq => o1 q (by rw [← hW.1]; exact hq))
  exact k p l e s m args below meth cd base D cA cM cS H1 locs ls C hW' (fun q hq => by rw [o1 q (Nat.lt_of_lt_of_le hq (Nat.le_add_right base sh.length))]; exact hF q hq) (by rw [z1, ← hW.1]; omega) hL hR
theorem V.newq {idx N t : Nat} {z : Int} {Cn : String} {sh2 : Shp} {a : Nat} (hd : decode μ.2.1 pc = .ok (.anewarray idx, 3)) (ht : (t = 1 ∧ Cn = RX1) ∨ (t = 2 ∧ Cn = RX3)) (hk : Cond.classLink μ.1.cls idx Cn ∈ fm_TBL) (hz0 : z = (N : Int)) (hN : N ≤ 100000) (hck : ck + 1 ≤ mc) (hsk : sk + N ≤ ms) (ha : sh.length = a) (h2 : sh ++ [(t, N, List.replicate N (some none))] = sh2) (k : V μ d mc ms (pc + 3) lv (.inr (some a) :: st) sh2 M (ck + 1) (sk + N) Q) : V μ d mc ms (pc) lv (.inl z :: st) sh M ck sk Q := by
  subst h2; subst ha; subst hz0
  intro p l e s m args below meth cd base D cI cM cS H locs ls C hW hF hz hL hR
  have hts := C.2.2.2.2.2.1
  have hK := C.2.2.2.2.2.2.2.2.1
  have hNK := C.2.2.2.2.2.2.2.2.2.1
  have hcl : (Int32.ofInt (N : Int)).toNatClampNeg = N := by have := fm_clamp (i := (N : Int)) (by omega) (by omega); omega
  have hov : (Cond.arrayOver (.object Cn)).before args s = true := by
    rcases ht with ⟨-, rfl⟩ | ⟨-, rfl⟩
    · exact hNK.2.1.use
    · exact hNK.2.2.use
  have hrr : ∀ j, rr base (List.replicate N (some none)) j = none := by
    intro j
    unfold rr
    by_cases hj : j < N
    · rw [List.getElem?_replicate, if_pos hj]
    · rw [List.getElem?_replicate, if_neg hj]
  refine W.anew C.1 C.2.1 C.2.2.2.2.1 (hts _ (fm_cons hk)) hov rfl hd rfl (fm_nneg (by omega) (by omega)) (by rw [hcl]; omega) hck (by rw [hcl]; exact hsk) fun cA kA comp f1 f2 f3 f4 => ?_
  rw [hcl]
  generalize hH1 : H.push ({ cls := cA, slots := Array.replicate N .null, vm := .none } : Cell) = H1
  have z1 : H1.size = H.size + 1 := by rw [← hH1, Array.size_push]
  have e1 : H1[H.size]? = some (arrV cA N (fun _ => .null)) := by rw [← hH1, Array.getElem?_push_size, ← arrV_new]
  have o1 : ∀ q : Nat, q < H.size → H1[q]? = H[q]? := fun q hq => by rw [← hH1, Array.getElem?_push, if_neg (Nat.ne_of_lt hq)]
  have e2 : H1[base + sh.length]? = some (vp_cell cA (N, .inr (.inr (.inr (.inr (rr base (List.replicate N (some none)))))))) := by
    rw [← hW.1, e1, vp_cell_q]
    congr 2
    funext j
    rw [hrr]; rfl
  rw [hW.1]
  have hb0 : base ≤ H.size := by rw [hW.1]; omega
  rcases ht with ⟨rfl, rfl⟩ | ⟨rfl, rfl⟩
  · obtain ⟨-, -, -, -, -, k4⟩ := (hK.2 1 _ rfl).2
    have hcA : cA = cM := Option.some.inj (f1.symm.trans k4)
    subst hcA
    exact k p l e s m args below meth cd base D cI cA cS H1 locs ls C (hW.push (c := (1, N, List.replicate N (some none))) e2 z1 o1) (fun q hq => by rw [o1 q (Nat.lt_of_lt_of_le hq hb0)]; exact hF q hq) (by omega) hL hR
  · obtain ⟨-, -, -, -, -, k4⟩ := (hK.2 2 _ rfl).2
    have hcA : cA = cS := Option.some.inj (f1.symm.trans k4)
    subst hcA
    exact k p l e s m args below meth cd base D cI cM cA H1 locs ls C (hW.push (c := (2, N, List.replicate N (some none))) e2 z1 o1) (fun q hq => by rw [o1 q (Nat.lt_of_lt_of_le hq hb0)]; exact hF q hq) (by omega) hL hR
theorem V.iret {z : Int} (hd : decode μ.2.1 pc = .ok (.ireturn, 1)) (hr : μ.2.2.2 = some .int) (hck : ck ≤ mc) (hsk : sk ≤ ms) (q : Q (some (.inl z)) sh M) : V μ d mc ms (pc) lv ([.inl z]) sh M ck sk Q := by
  intro p l e s m args below meth cd base D cI cM cS H locs ls C hW hF hz hL hR
  refine W.widen hck hsk ?_
  exact W.iret (v := Int32.ofInt z) C.1 C.2.1 (C.2.2.1.trans hr) (fun t ht hWm => ⟨⟨some (.inl z), sh, M, rfl, q, by rw [ht]; exact hW⟩, fun q hq => by rw [ht]; exact hF q hq, by rw [ht]; exact hz⟩) hL hd C.2.2.2.2.2.2.1
theorem V.zret {z : Int} (hd : decode μ.2.1 pc = .ok (.ireturn, 1)) (hr : μ.2.2.2 = some .boolean) (hzz : z = 0 ∨ z = 1) (hck : ck ≤ mc) (hsk : sk ≤ ms) (q : Q (some (.inl z)) sh M) : V μ d mc ms (pc) lv ([.inl z]) sh M ck sk Q := by
  intro p l e s m args below meth cd base D cI cM cS H locs ls C hW hF hz hL hR
  refine W.widen hck hsk ?_
  exact W.zret (v := Int32.ofInt z) (ty := .boolean) C.1 C.2.1 (C.2.2.1.trans hr) (by rcases hzz with rfl | rfl <;> decide) (fun t ht hWm => ⟨⟨some (.inl z), sh, M, rfl, q, by rw [ht]; exact hW⟩, fun q hq => by rw [ht]; exact hF q hq, by rw [ht]; exact hz⟩) hL hd C.2.2.2.2.2.2.1
theorem V.vret (hd : decode μ.2.1 pc = .ok (.return_, 1)) (hr : μ.2.2.2 = none) (hck : ck ≤ mc) (hsk : sk ≤ ms) (q : Q none sh M) : V μ d mc ms (pc) lv ([]) sh M ck sk Q := by
  intro p l e s m args below meth cd base D cI cM cS H locs ls C hW hF hz hL hR
  refine W.widen hck hsk ?_
  exact W.vret C.1 C.2.1 (C.2.2.1.trans hr) (fun t ht hWm => ⟨⟨none, sh, M, rfl, q, by rw [ht]; exact hW⟩, fun q hq => by rw [ht]; exact hF q hq, by rw [ht]; exact hz⟩) hL hd C.2.2.2.2.2.2.1
end RULES
