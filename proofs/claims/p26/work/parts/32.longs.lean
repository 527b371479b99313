/-! ===== WALKS WITH LONGS: a judgement over any values, the shapes fixed ===== -/
def JX (p : Program) (s : State) (m : MethodId) (args : Array Value) (meth : Method) (c : Code) (base : Nat) (D : va_G) (cI cM cS : ClassId) (R : Room) (own : String) (cc : ByteArray) (n dR ck sk : Nat) : Prop :=
  p.tables.exec = Jvm.exec ∧ c.code = cc ∧ c.maxLocals = n ∧ s.vm.findClass own = some m.cls ∧ (∀ w ∈ fm_TBL, w.before args s = true) ∧ meth.locks = false ∧ va_K D vwCl (tysOf cI cM cS) s ∧ NK s ∧ base ≤ s.heap.size ∧ (∀ d' n' : Nat, d' + 1 ≤ dR → n' ≤ 12 → d' + 1 ≤ R.frames ∧ 8 + (n' + 11) + 32 * d' ≤ R.locals) ∧ ck ≤ R.cells ∧ sk ≤ R.slots
/-- from here, with the locals lv, the stack st and the memory M, the method comes to Z -/
def J (p : Program) (l : Launch) (e : Env) (R : Room) (s : State) (m : MethodId) (args : Array Value) (below : List Frame) (meth : Method) (c : Code) (base : Nat) (D : va_G) (cI cM cS : ClassId) (ck sk : Nat) (Z : State → Prop) (n : Nat) (pc : Nat) (lv : List (Nat × Value)) (st : List Value) (M : Mem) : Prop :=
  ∀ (H : Heap) (locs : List Loc) (ls : Array Slot), Wh base D cI cM cS SH M H → (∀ q : Nat, q < base → H[q]? = s.heap[q]?) → s.heap.size ≤ H.size → (∀ q ∈ locs, base ≤ q.base) → lv_has ls n lv → W p l e R s m args below meth c H locs ck sk Z (F0 m pc ls st)
def QG (base : Nat) (D : va_G) (cI cM cS : ClassId) (Q : Option Value → Mem → Prop) : Array Value → State → Outcome → State → Prop := fun _ st oc t => (∃ (v : Option Value) (M' : Mem), oc = .returned v ∧ Q v M' ∧ Wh base D cI cM cS SH M' t.heap) ∧ (∀ q : Nat, q < base → t.heap[q]? = st.heap[q]?) ∧ st.heap.size ≤ t.heap.size
/-- a contract over the fixed shapes whose answer is any value -/
def DG (ν : Mu) (d : Nat) (vs : List AV) (M : Mem) (Q : Option Value → Mem → Prop) : Prop := ∀ (l : Launch) (base : Nat) (D : va_G) (cI cM cS : ClassId), Met l ν.1 (fm_ws ν) (rmv d 0 0) (va_Pc (vs.map (cv base)) (PW base D cI cM cS SH M)) (QG base D cI cM cS Q) 0 0 (fun q => base ≤ q)
theorem CQ.dg {ν : Mu} {d : Nat} {vs : List AV} {M : Mem} {Q : Option AV → Mem → Prop} (h : CQ ν d vs M Q) : ∀ (l : Launch) (base : Nat) (D : va_G) (cI cM cS : ClassId), Met l ν.1 (fm_ws ν) (rmv d 0 0) (va_Pc (vs.map (cv base)) (PW base D cI cM cS SH M)) (QG base D cI cM cS (fun v M' => ∃ r, v = r.map (cv base) ∧ Q r M')) 0 0 (fun q => base ≤ q) := by
  intro l base D cI cM cS
  have h1 := h l base D cI cM cS
  intro p e' ha hc hk s m args below hf hr hp htr
  obtain ⟨k, o, g1, g2, g3, ⟨⟨r, sh', M', a1, ⟨a2, a3⟩, a4⟩, b, c⟩, g5⟩ := h1 p e' ha hc hk s m args below hf hr hp htr
  subst a2
  exact ⟨k, o, g1, g2, g3, ⟨⟨_, M', a1, ⟨r, rfl, a3⟩, a4⟩, b, c⟩, g5⟩
theorem fm_goodT {ν : Mu} (h : Cond.code ν.1 ν.2.1 ν.2.2.1 ν.2.2.2 ∈ fm_TBL) : GoodIn fm_TBL (fm_ws ν) := by
  intro w hw
  rcases List.mem_cons.mp hw with e | e
  · exact ⟨e ▸ h, fm_good (e ▸ h)⟩
  · exact ⟨e, fm_good e⟩
def L64 (a : Int) : Int64 := (Int32.ofInt a).toInt64
section JR
variable {p : Program} {l : Launch} {e : Env} {R : Room} {s : State} {m : MethodId} {args : Array Value} {below : List Frame} {meth : Method} {c : Code} {base : Nat} {D : va_G} {cI cM cS : ClassId} {ck sk : Nat} {Z : State → Prop} {n dR : Nat} {own : String} {cc : ByteArray}
variable {pc : Nat} {lv lv' : List (Nat × Value)} {st rest : List Value} {M : Mem}
theorem J.iconst {a : Int} (C : JX p s m args meth c base D cI cM cS R own cc n dR ck sk) (hd : decode cc pc = .ok (.iconst a, 1)) (k : J p l e R s m args below meth c base D cI cM cS ck sk Z n (pc + 1) lv (.int (Int32.ofInt a) :: st) M) : J p l e R s m args below meth c base D cI cM cS ck sk Z n (pc) lv (st) M := fun H locs ls hW hF hz hL hl => lv_iconst C.1 C.2.1 hd rfl (k H locs ls hW hF hz hL hl)
theorem J.bipush {a : Int} (C : JX p s m args meth c base D cI cM cS R own cc n dR ck sk) (hd : decode cc pc = .ok (.bipush a, 2)) (ha : -128 ≤ a ∧ a ≤ 127) (k : J p l e R s m args below meth c base D cI cM cS ck sk Z n (pc + 2) lv (.int (Int32.ofInt a) :: st) M) : J p l e R s m args below meth c base D cI cM cS ck sk Z n (pc) lv (st) M := fun H locs ls hW hF hz hL hl => lv_bipush C.1 C.2.1 hd (i8_of ha) (k H locs ls hW hF hz hL hl)
theorem J.sipush {a : Int} (C : JX p s m args meth c base D cI cM cS R own cc n dR ck sk) (hd : decode cc pc = .ok (.sipush a, 3)) (ha : -32768 ≤ a ∧ a ≤ 32767) (k : J p l e R s m args below meth c base D cI cM cS ck sk Z n (pc + 3) lv (.int (Int32.ofInt a) :: st) M) : J p l e R s m args below meth c base D cI cM cS ck sk Z n (pc) lv (st) M := fun H locs ls hW hF hz hL hl => lv_sipush C.1 C.2.1 hd (i16_of ha) (k H locs ls hW hF hz hL hl)
theorem J.ldc2 {idx : Nat} {x : Int64} (C : JX p s m args meth c base D cI cM cS R own cc n dR ck sk) (hd : decode cc pc = .ok (.ldc2_w idx, 3)) (hk : Cond.constantLong own idx x ∈ fm_TBL) (k : J p l e R s m args below meth c base D cI cM cS ck sk Z n (pc + 3) lv (.long x :: st) M) : J p l e R s m args below meth c base D cI cM cS ck sk Z n (pc) lv (st) M := fun H locs ls hW hF hz hL hl => lv_ldc2 C.1 C.2.1 C.2.2.2.1 (C.2.2.2.2.1 _ hk) hd (k H locs ls hW hF hz hL hl)
theorem J.iload_n {j : Fin 4} {i : Nat} {x : Int32} (q : Nat) (C : JX p s m args meth c base D cI cM cS R own cc n dR ck sk) (hd : decode cc pc = .ok (.iload_n j, 1)) (hi : (j : Nat) = i) (hq : lv[q]? = some (i, .int x)) (k : J p l e R s m args below meth c base D cI cM cS ck sk Z n (pc + 1) lv (.int x :: st) M) : J p l e R s m args below meth c base D cI cM cS ck sk Z n (pc) lv (st) M := fun H locs ls hW hF hz hL hl => lv_iload_n C.1 C.2.1 hd hi (lv_at hl q hq) (k H locs ls hW hF hz hL hl)
theorem J.iload {i : Nat} {x : Int32} (q : Nat) (C : JX p s m args meth c base D cI cM cS R own cc n dR ck sk) (hd : decode cc pc = .ok (.iload i, 2)) (hq : lv[q]? = some (i, .int x)) (k : J p l e R s m args below meth c base D cI cM cS ck sk Z n (pc + 2) lv (.int x :: st) M) : J p l e R s m args below meth c base D cI cM cS ck sk Z n (pc) lv (st) M := fun H locs ls hW hF hz hL hl => lv_iload C.1 C.2.1 hd (lv_at hl q hq) (k H locs ls hW hF hz hL hl)
theorem J.aload_n {j : Fin 4} {i : Nat} {x : Nat} (q : Nat) (C : JX p s m args meth c base D cI cM cS R own cc n dR ck sk) (hd : decode cc pc = .ok (.aload_n j, 1)) (hi : (j : Nat) = i) (hq : lv[q]? = some (i, .ref x)) (k : J p l e R s m args below meth c base D cI cM cS ck sk Z n (pc + 1) lv (.ref x :: st) M) : J p l e R s m args below meth c base D cI cM cS ck sk Z n (pc) lv (st) M := fun H locs ls hW hF hz hL hl => lv_aload_n C.1 C.2.1 hd hi (lv_at hl q hq) (k H locs ls hW hF hz hL hl)
theorem J.aload {i : Nat} {x : Nat} (q : Nat) (C : JX p s m args meth c base D cI cM cS R own cc n dR ck sk) (hd : decode cc pc = .ok (.aload i, 2)) (hq : lv[q]? = some (i, .ref x)) (k : J p l e R s m args below meth c base D cI cM cS ck sk Z n (pc + 2) lv (.ref x :: st) M) : J p l e R s m args below meth c base D cI cM cS ck sk Z n (pc) lv (st) M := fun H locs ls hW hF hz hL hl => lv_aload C.1 C.2.1 hd (lv_at hl q hq) (k H locs ls hW hF hz hL hl)
theorem J.lload_n {j : Fin 4} {i : Nat} {x : Int64} (q : Nat) (C : JX p s m args meth c base D cI cM cS R own cc n dR ck sk) (hd : decode cc pc = .ok (.lload_n j, 1)) (hi : (j : Nat) = i) (hq : lv[q]? = some (i, .long x)) (k : J p l e R s m args below meth c base D cI cM cS ck sk Z n (pc + 1) lv (.long x :: st) M) : J p l e R s m args below meth c base D cI cM cS ck sk Z n (pc) lv (st) M := fun H locs ls hW hF hz hL hl => lv_lload_n C.1 C.2.1 hd hi (lv_at hl q hq) (k H locs ls hW hF hz hL hl)
theorem J.lload {i : Nat} {x : Int64} (q : Nat) (C : JX p s m args meth c base D cI cM cS R own cc n dR ck sk) (hd : decode cc pc = .ok (.lload i, 2)) (hq : lv[q]? = some (i, .long x)) (k : J p l e R s m args below meth c base D cI cM cS ck sk Z n (pc + 2) lv (.long x :: st) M) : J p l e R s m args below meth c base D cI cM cS ck sk Z n (pc) lv (st) M := fun H locs ls hW hF hz hL hl => lv_lload C.1 C.2.1 hd (lv_at hl q hq) (k H locs ls hW hF hz hL hl)
theorem J.istore_n {j : Fin 4} {i : Nat} {x : Int32} (C : JX p s m args meth c base D cI cM cS R own cc n dR ck sk) (hd : decode cc pc = .ok (.istore_n j, 1)) (hi : (j : Nat) = i) (hn : i < n) (hl0 : (i, Value.int x) :: lv.filter (fun q => !(q.1 == i) && !(q.1 + 1 == i && q.2.category == 2)) = lv') (k : J p l e R s m args below meth c base D cI cM cS ck sk Z n (pc + 1) lv' (st) M) : J p l e R s m args below meth c base D cI cM cS ck sk Z n (pc) lv (Value.int x :: st) M := fun H locs ls hW hF hz hL hl => lv_istore_n C.1 C.2.1 hd hi hl hn hl0 (fun ls2 hl2 => k H locs ls2 hW hF hz hL hl2)
theorem J.istore {i : Nat} {x : Int32} (C : JX p s m args meth c base D cI cM cS R own cc n dR ck sk) (hd : decode cc pc = .ok (.istore i, 2)) (hn : i < n) (hl0 : (i, Value.int x) :: lv.filter (fun q => !(q.1 == i) && !(q.1 + 1 == i && q.2.category == 2)) = lv') (k : J p l e R s m args below meth c base D cI cM cS ck sk Z n (pc + 2) lv' (st) M) : J p l e R s m args below meth c base D cI cM cS ck sk Z n (pc) lv (Value.int x :: st) M := fun H locs ls hW hF hz hL hl => lv_istore C.1 C.2.1 hd hl hn hl0 (fun ls2 hl2 => k H locs ls2 hW hF hz hL hl2)
theorem J.lstore_n {j : Fin 4} {i : Nat} {x : Int64} (C : JX p s m args meth c base D cI cM cS R own cc n dR ck sk) (hd : decode cc pc = .ok (.lstore_n j, 1)) (hi : (j : Nat) = i) (hn : i + 1 < n) (hl0 : (i, Value.long x) :: lv.filter (fun q => !(q.1 == i) && (!(q.1 == i + 1) && !(q.1 + 1 == i && q.2.category == 2))) = lv') (k : J p l e R s m args below meth c base D cI cM cS ck sk Z n (pc + 1) lv' (st) M) : J p l e R s m args below meth c base D cI cM cS ck sk Z n (pc) lv (Value.long x :: st) M := fun H locs ls hW hF hz hL hl => lv_lstore_n C.1 C.2.1 hd hi hl hn hl0 (fun ls2 hl2 => k H locs ls2 hW hF hz hL hl2)
theorem J.lstore {i : Nat} {x : Int64} (C : JX p s m args meth c base D cI cM cS R own cc n dR ck sk) (hd : decode cc pc = .ok (.lstore i, 2)) (hn : i + 1 < n) (hl0 : (i, Value.long x) :: lv.filter (fun q => !(q.1 == i) && (!(q.1 == i + 1) && !(q.1 + 1 == i && q.2.category == 2))) = lv') (k : J p l e R s m args below meth c base D cI cM cS ck sk Z n (pc + 2) lv' (st) M) : J p l e R s m args below meth c base D cI cM cS ck sk Z n (pc) lv (Value.long x :: st) M := fun H locs ls hW hF hz hL hl => lv_lstore C.1 C.2.1 hd hl hn hl0 (fun ls2 hl2 => k H locs ls2 hW hF hz hL hl2)
theorem J.iinc {i : Nat} {a x y : Int} (q : Nat) (C : JX p s m args meth c base D cI cM cS R own cc n dR ck sk) (hd : decode cc pc = .ok (.iinc i a, 3)) (hq : lv[q]? = some (i, .int (Int32.ofInt x))) (hy : x + a = y) (hn : i < n) (hl0 : (i, Value.int (Int32.ofInt y)) :: lv.filter (fun q => !(q.1 == i) && !(q.1 + 1 == i && q.2.category == 2)) = lv') (k : J p l e R s m args below meth c base D cI cM cS ck sk Z n (pc + 3) lv' (st) M) : J p l e R s m args below meth c base D cI cM cS ck sk Z n (pc) lv (st) M := fun H locs ls hW hF hz hL hl => lv_iinc C.1 C.2.1 hd hl hq (by rw [← hy, Int32.ofInt_add]) hn hl0 (fun ls2 hl2 => k H locs ls2 hW hF hz hL hl2)
theorem J.iadd {a b x : Int} (C : JX p s m args meth c base D cI cM cS R own cc n dR ck sk) (hd : decode cc pc = .ok (.iadd, 1)) (hx : a + b = x) (k : J p l e R s m args below meth c base D cI cM cS ck sk Z n (pc + 1) lv (.int (Int32.ofInt x) :: st) M) : J p l e R s m args below meth c base D cI cM cS ck sk Z n (pc) lv (.int (Int32.ofInt b) :: .int (Int32.ofInt a) :: st) M := fun H locs ls hW hF hz hL hl => by
  subst hx
  refine lv_iadd C.1 C.2.1 hd ?_
  rw [← Int32.ofInt_add]
  exact k H locs ls hW hF hz hL hl
theorem J.isub {a b x : Int} (C : JX p s m args meth c base D cI cM cS R own cc n dR ck sk) (hd : decode cc pc = .ok (.isub, 1)) (hx : a - b = x) (k : J p l e R s m args below meth c base D cI cM cS ck sk Z n (pc + 1) lv (.int (Int32.ofInt x) :: st) M) : J p l e R s m args below meth c base D cI cM cS ck sk Z n (pc) lv (.int (Int32.ofInt b) :: .int (Int32.ofInt a) :: st) M := fun H locs ls hW hF hz hL hl => by
  subst hx
  refine lv_isub C.1 C.2.1 hd ?_
  rw [← Int32.ofInt_sub]
  exact k H locs ls hW hF hz hL hl
theorem J.iand {a b x : Int} (C : JX p s m args meth c base D cI cM cS R own cc n dR ck sk) (hd : decode cc pc = .ok (.iand, 1)) (hx : iAnd a b = x) (k : J p l e R s m args below meth c base D cI cM cS ck sk Z n (pc + 1) lv (.int (Int32.ofInt x) :: st) M) : J p l e R s m args below meth c base D cI cM cS ck sk Z n (pc) lv (.int (Int32.ofInt b) :: .int (Int32.ofInt a) :: st) M := fun H locs ls hW hF hz hL hl => by
  subst hx
  refine lv_iand C.1 C.2.1 hd ?_
  have k2 := k H locs ls hW hF hz hL hl
  simp only [iAnd, Int32.ofInt_toInt] at k2 ⊢
  exact k2
theorem J.ishr {a b x : Int} (C : JX p s m args meth c base D cI cM cS R own cc n dR ck sk) (hd : decode cc pc = .ok (.ishr, 1)) (hx : iShr a b = x) (k : J p l e R s m args below meth c base D cI cM cS ck sk Z n (pc + 1) lv (.int (Int32.ofInt x) :: st) M) : J p l e R s m args below meth c base D cI cM cS ck sk Z n (pc) lv (.int (Int32.ofInt b) :: .int (Int32.ofInt a) :: st) M := fun H locs ls hW hF hz hL hl => by
  subst hx
  refine lv_ishr C.1 C.2.1 hd ?_
  have k2 := k H locs ls hW hF hz hL hl
  simp only [iShr, Int32.ofInt_toInt] at k2 ⊢
  exact k2
theorem J.i2l {a : Int} (C : JX p s m args meth c base D cI cM cS R own cc n dR ck sk) (hd : decode cc pc = .ok (.i2l, 1)) (k : J p l e R s m args below meth c base D cI cM cS ck sk Z n (pc + 1) lv (.long (L64 a) :: st) M) : J p l e R s m args below meth c base D cI cM cS ck sk Z n (pc) lv (.int (Int32.ofInt a) :: st) M := fun H locs ls hW hF hz hL hl => lv_i2l C.1 C.2.1 hd rfl (k H locs ls hW hF hz hL hl)
theorem J.ladd {x y : Int64} (C : JX p s m args meth c base D cI cM cS R own cc n dR ck sk) (hd : decode cc pc = .ok (.ladd, 1)) (k : J p l e R s m args below meth c base D cI cM cS ck sk Z n (pc + 1) lv (.long (x + y) :: st) M) : J p l e R s m args below meth c base D cI cM cS ck sk Z n (pc) lv (.long y :: .long x :: st) M := fun H locs ls hW hF hz hL hl => lv_ladd C.1 C.2.1 hd (k H locs ls hW hF hz hL hl)
theorem J.lmul {x y : Int64} (C : JX p s m args meth c base D cI cM cS R own cc n dR ck sk) (hd : decode cc pc = .ok (.lmul, 1)) (k : J p l e R s m args below meth c base D cI cM cS ck sk Z n (pc + 1) lv (.long (x * y) :: st) M) : J p l e R s m args below meth c base D cI cM cS ck sk Z n (pc) lv (.long y :: .long x :: st) M := fun H locs ls hW hF hz hL hl => lv_lmul C.1 C.2.1 hd (k H locs ls hW hF hz hL hl)
theorem J.lcmp {x : Int64} (C : JX p s m args meth c base D cI cM cS R own cc n dR ck sk) (hd : decode cc pc = .ok (.lcmp, 1)) (k : J p l e R s m args below meth c base D cI cM cS ck sk Z n (pc + 1) lv (.int (Int32.ofInt 0) :: st) M) : J p l e R s m args below meth c base D cI cM cS ck sk Z n (pc) lv (.long x :: .long x :: st) M := fun H locs ls hW hF hz hL hl => by
  refine W.lcmp C.1 C.2.1 hd ?_
  rw [show lg_cmp x x = Int32.ofInt 0 from by simp [lg_cmp]]
  exact k H locs ls hW hF hz hL hl
theorem J.icmp_eq {a b off : Int} {tgt : Nat} (C : JX p s m args meth c base D cI cM cS R own cc n dR ck sk) (hd : decode cc pc = .ok (.if_icmp .eq off, 3)) (ht : (pc : Int) + off = (tgt : Int)) (ha : inR a) (hb : inR b) (kt : a = b → J p l e R s m args below meth c base D cI cM cS ck sk Z n (tgt) lv (st) M) (kf : ¬ a = b → J p l e R s m args below meth c base D cI cM cS ck sk Z n (pc + 3) lv (st) M) : J p l e R s m args below meth c base D cI cM cS ck sk Z n (pc) lv (.int (Int32.ofInt b) :: .int (Int32.ofInt a) :: st) M := fun H locs ls hW hF hz hL hl => by
  refine lv_icmp_eq (tgt := tgt) C.1 C.2.1 hd ht (fun h => ?_) (fun h => ?_)
  · exact kt (by first | exact (inR_eq ha hb).mp h | (intro q; exact h ((inR_eq ha hb).mpr q))) H locs ls hW hF hz hL hl
  · exact kf (by first | exact (inR_eq ha hb).mp h | exact Int.not_lt.mp (fun q => h ((inR_eq ha hb).mpr q)) | exact Int.not_le.mp (fun q => h ((inR_eq ha hb).mpr q)) | (intro q; exact h ((inR_eq ha hb).mpr q))) H locs ls hW hF hz hL hl
theorem J.if_eq {a off : Int} {tgt : Nat} (C : JX p s m args meth c base D cI cM cS R own cc n dR ck sk) (hd : decode cc pc = .ok (.ifCond .eq off, 3)) (ht : (pc : Int) + off = (tgt : Int)) (ha : inR a) (kt : a = 0 → J p l e R s m args below meth c base D cI cM cS ck sk Z n (tgt) lv (st) M) (kf : ¬ a = 0 → J p l e R s m args below meth c base D cI cM cS ck sk Z n (pc + 3) lv (st) M) : J p l e R s m args below meth c base D cI cM cS ck sk Z n (pc) lv (.int (Int32.ofInt a) :: st) M := fun H locs ls hW hF hz hL hl => by
  refine lv_if_eq (tgt := tgt) C.1 C.2.1 hd ht (fun h => ?_) (fun h => ?_) <;> rw [← of0] at h
  · exact kt (by first | exact (inR_eq ha inR_0).mp h | (intro q; exact h ((inR_eq ha inR_0).mpr q))) H locs ls hW hF hz hL hl
  · exact kf (by first | exact (inR_eq ha inR_0).mp h | exact Int.not_lt.mp (fun q => h ((inR_eq ha inR_0).mpr q)) | exact Int.not_le.mp (fun q => h ((inR_eq ha inR_0).mpr q)) | (intro q; exact h ((inR_eq ha inR_0).mpr q))) H locs ls hW hF hz hL hl
theorem J.icmp_ne {a b off : Int} {tgt : Nat} (C : JX p s m args meth c base D cI cM cS R own cc n dR ck sk) (hd : decode cc pc = .ok (.if_icmp .ne off, 3)) (ht : (pc : Int) + off = (tgt : Int)) (ha : inR a) (hb : inR b) (kt : ¬ a = b → J p l e R s m args below meth c base D cI cM cS ck sk Z n (tgt) lv (st) M) (kf : a = b → J p l e R s m args below meth c base D cI cM cS ck sk Z n (pc + 3) lv (st) M) : J p l e R s m args below meth c base D cI cM cS ck sk Z n (pc) lv (.int (Int32.ofInt b) :: .int (Int32.ofInt a) :: st) M := fun H locs ls hW hF hz hL hl => by
  refine lv_icmp_ne (tgt := tgt) C.1 C.2.1 hd ht (fun h => ?_) (fun h => ?_)
  · exact kt (by first | exact (inR_eq ha hb).mp h | (intro q; exact h ((inR_eq ha hb).mpr q))) H locs ls hW hF hz hL hl
  · exact kf (by first | exact (inR_eq ha hb).mp h | exact Int.not_lt.mp (fun q => h ((inR_eq ha hb).mpr q)) | exact Int.not_le.mp (fun q => h ((inR_eq ha hb).mpr q)) | (intro q; exact h ((inR_eq ha hb).mpr q))) H locs ls hW hF hz hL hl
theorem J.if_ne {a off : Int} {tgt : Nat} (C : JX p s m args meth c base D cI cM cS R own cc n dR ck sk) (hd : decode cc pc = .ok (.ifCond .ne off, 3)) (ht : (pc : Int) + off = (tgt : Int)) (ha : inR a) (kt : ¬ a = 0 → J p l e R s m args below meth c base D cI cM cS ck sk Z n (tgt) lv (st) M) (kf : a = 0 → J p l e R s m args below meth c base D cI cM cS ck sk Z n (pc + 3) lv (st) M) : J p l e R s m args below meth c base D cI cM cS ck sk Z n (pc) lv (.int (Int32.ofInt a) :: st) M := fun H locs ls hW hF hz hL hl => by
  refine lv_if_ne (tgt := tgt) C.1 C.2.1 hd ht (fun h => ?_) (fun h => ?_) <;> rw [← of0] at h
  · exact kt (by first | exact (inR_eq ha inR_0).mp h | (intro q; exact h ((inR_eq ha inR_0).mpr q))) H locs ls hW hF hz hL hl
  · exact kf (by first | exact (inR_eq ha inR_0).mp h | exact Int.not_lt.mp (fun q => h ((inR_eq ha inR_0).mpr q)) | exact Int.not_le.mp (fun q => h ((inR_eq ha inR_0).mpr q)) | (intro q; exact h ((inR_eq ha inR_0).mpr q))) H locs ls hW hF hz hL hl
theorem J.icmp_lt {a b off : Int} {tgt : Nat} (C : JX p s m args meth c base D cI cM cS R own cc n dR ck sk) (hd : decode cc pc = .ok (.if_icmp .lt off, 3)) (ht : (pc : Int) + off = (tgt : Int)) (ha : inR a) (hb : inR b) (kt : a < b → J p l e R s m args below meth c base D cI cM cS ck sk Z n (tgt) lv (st) M) (kf : b ≤ a → J p l e R s m args below meth c base D cI cM cS ck sk Z n (pc + 3) lv (st) M) : J p l e R s m args below meth c base D cI cM cS ck sk Z n (pc) lv (.int (Int32.ofInt b) :: .int (Int32.ofInt a) :: st) M := fun H locs ls hW hF hz hL hl => by
  refine lv_icmp_lt (tgt := tgt) C.1 C.2.1 hd ht (fun h => ?_) (fun h => ?_)
  · exact kt (by first | exact (inR_lt ha hb).mp h | (intro q; exact h ((inR_lt ha hb).mpr q))) H locs ls hW hF hz hL hl
  · exact kf (by first | exact (inR_lt ha hb).mp h | exact Int.not_lt.mp (fun q => h ((inR_lt ha hb).mpr q)) | exact Int.not_le.mp (fun q => h ((inR_lt ha hb).mpr q)) | (intro q; exact h ((inR_lt ha hb).mpr q))) H locs ls hW hF hz hL hl
theorem J.if_lt {a off : Int} {tgt : Nat} (C : JX p s m args meth c base D cI cM cS R own cc n dR ck sk) (hd : decode cc pc = .ok (.ifCond .lt off, 3)) (ht : (pc : Int) + off = (tgt : Int)) (ha : inR a) (kt : a < 0 → J p l e R s m args below meth c base D cI cM cS ck sk Z n (tgt) lv (st) M) (kf : 0 ≤ a → J p l e R s m args below meth c base D cI cM cS ck sk Z n (pc + 3) lv (st) M) : J p l e R s m args below meth c base D cI cM cS ck sk Z n (pc) lv (.int (Int32.ofInt a) :: st) M := fun H locs ls hW hF hz hL hl => by
  refine lv_if_lt (tgt := tgt) C.1 C.2.1 hd ht (fun h => ?_) (fun h => ?_) <;> rw [← of0] at h
  · exact kt (by first | exact (inR_lt ha inR_0).mp h | (intro q; exact h ((inR_lt ha inR_0).mpr q))) H locs ls hW hF hz hL hl
  · exact kf (by first | exact (inR_lt ha inR_0).mp h | exact Int.not_lt.mp (fun q => h ((inR_lt ha inR_0).mpr q)) | exact Int.not_le.mp (fun q => h ((inR_lt ha inR_0).mpr q)) | (intro q; exact h ((inR_lt ha inR_0).mpr q))) H locs ls hW hF hz hL hl
theorem J.icmp_ge {a b off : Int} {tgt : Nat} (C : JX p s m args meth c base D cI cM cS R own cc n dR ck sk) (hd : decode cc pc = .ok (.if_icmp .ge off, 3)) (ht : (pc : Int) + off = (tgt : Int)) (ha : inR a) (hb : inR b) (kt : b ≤ a → J p l e R s m args below meth c base D cI cM cS ck sk Z n (tgt) lv (st) M) (kf : a < b → J p l e R s m args below meth c base D cI cM cS ck sk Z n (pc + 3) lv (st) M) : J p l e R s m args below meth c base D cI cM cS ck sk Z n (pc) lv (.int (Int32.ofInt b) :: .int (Int32.ofInt a) :: st) M := fun H locs ls hW hF hz hL hl => by
  refine lv_icmp_ge (tgt := tgt) C.1 C.2.1 hd ht (fun h => ?_) (fun h => ?_)
  · exact kt (by first | exact (inR_le hb ha).mp h | (intro q; exact h ((inR_le hb ha).mpr q))) H locs ls hW hF hz hL hl
  · exact kf (by first | exact (inR_le hb ha).mp h | exact Int.not_lt.mp (fun q => h ((inR_le hb ha).mpr q)) | exact Int.not_le.mp (fun q => h ((inR_le hb ha).mpr q)) | (intro q; exact h ((inR_le hb ha).mpr q))) H locs ls hW hF hz hL hl
theorem J.if_ge {a off : Int} {tgt : Nat} (C : JX p s m args meth c base D cI cM cS R own cc n dR ck sk) (hd : decode cc pc = .ok (.ifCond .ge off, 3)) (ht : (pc : Int) + off = (tgt : Int)) (ha : inR a) (kt : 0 ≤ a → J p l e R s m args below meth c base D cI cM cS ck sk Z n (tgt) lv (st) M) (kf : a < 0 → J p l e R s m args below meth c base D cI cM cS ck sk Z n (pc + 3) lv (st) M) : J p l e R s m args below meth c base D cI cM cS ck sk Z n (pc) lv (.int (Int32.ofInt a) :: st) M := fun H locs ls hW hF hz hL hl => by
  refine lv_if_ge (tgt := tgt) C.1 C.2.1 hd ht (fun h => ?_) (fun h => ?_) <;> rw [← of0] at h
  · exact kt (by first | exact (inR_le inR_0 ha).mp h | (intro q; exact h ((inR_le inR_0 ha).mpr q))) H locs ls hW hF hz hL hl
  · exact kf (by first | exact (inR_le inR_0 ha).mp h | exact Int.not_lt.mp (fun q => h ((inR_le inR_0 ha).mpr q)) | exact Int.not_le.mp (fun q => h ((inR_le inR_0 ha).mpr q)) | (intro q; exact h ((inR_le inR_0 ha).mpr q))) H locs ls hW hF hz hL hl
theorem J.icmp_gt {a b off : Int} {tgt : Nat} (C : JX p s m args meth c base D cI cM cS R own cc n dR ck sk) (hd : decode cc pc = .ok (.if_icmp .gt off, 3)) (ht : (pc : Int) + off = (tgt : Int)) (ha : inR a) (hb : inR b) (kt : b < a → J p l e R s m args below meth c base D cI cM cS ck sk Z n (tgt) lv (st) M) (kf : a ≤ b → J p l e R s m args below meth c base D cI cM cS ck sk Z n (pc + 3) lv (st) M) : J p l e R s m args below meth c base D cI cM cS ck sk Z n (pc) lv (.int (Int32.ofInt b) :: .int (Int32.ofInt a) :: st) M := fun H locs ls hW hF hz hL hl => by
  refine lv_icmp_gt (tgt := tgt) C.1 C.2.1 hd ht (fun h => ?_) (fun h => ?_)
  · exact kt (by first | exact (inR_lt hb ha).mp h | (intro q; exact h ((inR_lt hb ha).mpr q))) H locs ls hW hF hz hL hl
  · exact kf (by first | exact (inR_lt hb ha).mp h | exact Int.not_lt.mp (fun q => h ((inR_lt hb ha).mpr q)) | exact Int.not_le.mp (fun q => h ((inR_lt hb ha).mpr q)) | (intro q; exact h ((inR_lt hb ha).mpr q))) H locs ls hW hF hz hL hl
theorem J.if_gt {a off : Int} {tgt : Nat} (C : JX p s m args meth c base D cI cM cS R own cc n dR ck sk) (hd : decode cc pc = .ok (.ifCond .gt off, 3)) (ht : (pc : Int) + off = (tgt : Int)) (ha : inR a) (kt : 0 < a → J p l e R s m args below meth c base D cI cM cS ck sk Z n (tgt) lv (st) M) (kf : a ≤ 0 → J p l e R s m args below meth c base D cI cM cS ck sk Z n (pc + 3) lv (st) M) : J p l e R s m args below meth c base D cI cM cS ck sk Z n (pc) lv (.int (Int32.ofInt a) :: st) M := fun H locs ls hW hF hz hL hl => by
  refine lv_if_gt (tgt := tgt) C.1 C.2.1 hd ht (fun h => ?_) (fun h => ?_) <;> rw [← of0] at h
  · exact kt (by first | exact (inR_lt inR_0 ha).mp h | (intro q; exact h ((inR_lt inR_0 ha).mpr q))) H locs ls hW hF hz hL hl
  · exact kf (by first | exact (inR_lt inR_0 ha).mp h | exact Int.not_lt.mp (fun q => h ((inR_lt inR_0 ha).mpr q)) | exact Int.not_le.mp (fun q => h ((inR_lt inR_0 ha).mpr q)) | (intro q; exact h ((inR_lt inR_0 ha).mpr q))) H locs ls hW hF hz hL hl
theorem J.icmp_le {a b off : Int} {tgt : Nat} (C : JX p s m args meth c base D cI cM cS R own cc n dR ck sk) (hd : decode cc pc = .ok (.if_icmp .le off, 3)) (ht : (pc : Int) + off = (tgt : Int)) (ha : inR a) (hb : inR b) (kt : a ≤ b → J p l e R s m args below meth c base D cI cM cS ck sk Z n (tgt) lv (st) M) (kf : b < a → J p l e R s m args below meth c base D cI cM cS ck sk Z n (pc + 3) lv (st) M) : J p l e R s m args below meth c base D cI cM cS ck sk Z n (pc) lv (.int (Int32.ofInt b) :: .int (Int32.ofInt a) :: st) M := fun H locs ls hW hF hz hL hl => by
  refine lv_icmp_le (tgt := tgt) C.1 C.2.1 hd ht (fun h => ?_) (fun h => ?_)
  · exact kt (by first | exact (inR_le ha hb).mp h | (intro q; exact h ((inR_le ha hb).mpr q))) H locs ls hW hF hz hL hl
  · exact kf (by first | exact (inR_le ha hb).mp h | exact Int.not_lt.mp (fun q => h ((inR_le ha hb).mpr q)) | exact Int.not_le.mp (fun q => h ((inR_le ha hb).mpr q)) | (intro q; exact h ((inR_le ha hb).mpr q))) H locs ls hW hF hz hL hl
theorem J.if_le {a off : Int} {tgt : Nat} (C : JX p s m args meth c base D cI cM cS R own cc n dR ck sk) (hd : decode cc pc = .ok (.ifCond .le off, 3)) (ht : (pc : Int) + off = (tgt : Int)) (ha : inR a) (kt : a ≤ 0 → J p l e R s m args below meth c base D cI cM cS ck sk Z n (tgt) lv (st) M) (kf : 0 < a → J p l e R s m args below meth c base D cI cM cS ck sk Z n (pc + 3) lv (st) M) : J p l e R s m args below meth c base D cI cM cS ck sk Z n (pc) lv (.int (Int32.ofInt a) :: st) M := fun H locs ls hW hF hz hL hl => by
  refine lv_if_le (tgt := tgt) C.1 C.2.1 hd ht (fun h => ?_) (fun h => ?_) <;> rw [← of0] at h
  · exact kt (by first | exact (inR_le ha inR_0).mp h | (intro q; exact h ((inR_le ha inR_0).mpr q))) H locs ls hW hF hz hL hl
  · exact kf (by first | exact (inR_le ha inR_0).mp h | exact Int.not_lt.mp (fun q => h ((inR_le ha inR_0).mpr q)) | exact Int.not_le.mp (fun q => h ((inR_le ha inR_0).mpr q)) | (intro q; exact h ((inR_le ha inR_0).mpr q))) H locs ls hW hF hz hL hl
theorem J.goto {off : Int} {tgt : Nat} (C : JX p s m args meth c base D cI cM cS R own cc n dR ck sk) (hd : decode cc pc = .ok (.goto off, 3)) (ht : (pc : Int) + off = (tgt : Int)) (k : J p l e R s m args below meth c base D cI cM cS ck sk Z n (tgt) lv (st) M) : J p l e R s m args below meth c base D cI cM cS ck sk Z n (pc) lv (st) M := fun H locs ls hW hF hz hL hl => lv_goto (tgt := tgt) C.1 C.2.1 hd ht (k H locs ls hW hF hz hL hl)
theorem J.sub (ks : List Nat) (h : lv_pick lv ks = lv') (k : J p l e R s m args below meth c base D cI cM cS ck sk Z n (pc) lv' (st) M) : J p l e R s m args below meth c base D cI cM cS ck sk Z n (pc) lv (st) M := fun H locs ls hW hF hz hL hl => k H locs ls hW hF hz hL (lv_sub hl ks h)
theorem J.go {st0 : List Value} {Qa : State → Outcome → State → Prop} {Q' : Option Value → Mem → Prop} {H : Heap} {locs : List Loc} {ls : Array Slot} (hQ : ∀ st oc t, Qa st oc t → (∃ (v : Option Value) (M' : Mem), oc = .returned v ∧ Q' v M' ∧ Wh base D cI cM cS SH M' t.heap) ∧ (∀ q : Nat, q < base → t.heap[q]? = st.heap[q]?) ∧ st.heap.size ≤ t.heap.size) (hF : ∀ q : Nat, q < base → H[q]? = s.heap[q]?) (hz : s.heap.size ≤ H.size) (hL : ∀ q ∈ locs, base ≤ q.base) (hl : lv_has ls n lv)
    (hr : va_Run p l e R s m args below meth c H locs ck sk 0 0 (F0 m pc ls st0) rest Qa (fun q => base ≤ q))
    (k : ∀ (v : Option Value) (M' : Mem), Q' v M' → J p l e R s m args below meth c base D cI cM cS ck sk Z n (pc + 3) lv (v.toList ++ rest) M') : W p l e R s m args below meth c H locs ck sk Z (F0 m pc ls st0) := by
  intro T hT X
  obtain ⟨v, st₀, t, T', L, h0, X', hLL, e1, e2, hqa, st⟩ := hr T hT X
  obtain ⟨⟨v', M', hv, hq, hw⟩, hfr, hsz⟩ := hQ _ _ _ hqa
  have hv' : v = v' := by injection hv
  subst hv'
  obtain ⟨t2, a1, b1⟩ := k v M' hq T'.heap (locs ++ L) ls (by rw [e1]; exact hw) (fun q hq => by rw [e1, hfr q hq, h0]; exact hF q hq) (by rw [e1]; rw [h0] at hsz; exact Nat.le_trans hz hsz) (fun q hq => by
    rcases List.mem_append.mp hq with h | h
    · exact hL q h
    · exact hLL q h) hl T' rfl X'
  exact ⟨t2, st t2 a1, b1⟩
/-- a call of a static method, whatever its start asks of the state -/
theorem J.callSG {idx n' d' : Nat} {ν : Mu} {As : List Value} {B : State → Prop} {Qa : Array Value → State → Outcome → State → Prop} {Q' : Option Value → Mem → Prop} (C : JX p s m args meth c base D cI cM cS R own cc n dR ck sk) (hd : decode cc pc = .ok (.invokestatic idx, 3)) (hk : KS own idx ν n') (hM : Met l ν.1 (fm_ws ν) (rmv d' 0 0) (va_Pc As B) Qa 0 0 (fun q => base ≤ q)) (hB : FrameBlind (va_Pc As B)) (hQ : ∀ st oc t, Qa As.toArray st oc t → (∃ (v : Option Value) (M' : Mem), oc = .returned v ∧ Q' v M' ∧ Wh base D cI cM cS SH M' t.heap) ∧ (∀ q : Nat, q < base → t.heap[q]? = st.heap[q]?) ∧ st.heap.size ≤ t.heap.size)
    (hpre : ∀ (H : Heap) (U : State), Wh base D cI cM cS SH M H → (∀ q : Nat, q < base → H[q]? = s.heap[q]?) → U.heap = H → s.WarmedH U.vm → B U) (hn : As.length = n') (hdd : d' + 1 ≤ dR) (hst : st = As.reverse ++ rest) (hr : (rest.map fun v => v.category).sum ≤ 8) (k : ∀ (v : Option Value) (M' : Mem), Q' v M' → J p l e R s m args below meth c base D cI cM cS ck sk Z n (pc + 3) lv (v.toList ++ rest) M') : J p l e R s m args below meth c base D cI cM cS ck sk Z n (pc) lv (st) M := by
  intro H locs ls hW hF hz hL hl
  obtain ⟨k1, k2, hmc, hml, hcode, hini⟩ := hk
  have hts := C.2.2.2.2.1
  have hG : GoodIn fm_TBL (va_wsS own idx ν.1 (fm_ws ν)) := by
    intro w hw
    unfold va_wsS at hw
    rcases List.mem_append.mp hw with h | h
    · have : w ∈ fm_TBL := by
        rcases List.mem_cons.mp h with h | h
        · rw [h]; exact k1
        rcases List.mem_cons.mp h with h | h
        · rw [h]; exact k2
        rw [List.mem_singleton.mp h]; exact hini
      exact ⟨this, fm_good this⟩
    · exact fm_goodT hcode w h
  exact J.go hQ hF hz hL hl (va_runS (As := As) ⟨C.1, C.2.1, C.2.2.1, C.2.2.2.1, hts⟩ hM (va_cwS n' hts hG rfl rfl rfl hmc (C.2.2.2.2.2.2.2.2.2.1 d' _ hdd hml)) ⟨hB, fun U hU hWm => ⟨rfl, hpre H U hW hF hU hWm⟩⟩ rfl hn hl.1 hst (lv_room hr) hd ⟨C.2.2.2.2.2.2.2.2.2.2.1, C.2.2.2.2.2.2.2.2.2.2.2⟩) k
theorem J.callSD {idx n' d' : Nat} {ν : Mu} {As : List AV} {Q' : Option Value → Mem → Prop} (C : JX p s m args meth c base D cI cM cS R own cc n dR ck sk) (hd : decode cc pc = .ok (.invokestatic idx, 3)) (hk : KS own idx ν n') (hM : DG ν d' As M Q') (hn : As.length = n') (hdd : d' + 1 ≤ dR) (hst : st = (As.map (cv base)).reverse ++ rest) (hr : (rest.map fun v => v.category).sum ≤ 8) (k : ∀ (v : Option Value) (M' : Mem), Q' v M' → J p l e R s m args below meth c base D cI cM cS ck sk Z n (pc + 3) lv (v.toList ++ rest) M') : J p l e R s m args below meth c base D cI cM cS ck sk Z n (pc) lv (st) M :=
  J.callSG C hd hk (hM l base D cI cM cS) PW.blind (fun _ _ _ h => h) (fun H U hW hF hU hWm => PW.at hW C.2.2.2.2.2.2.1 C.2.2.2.2.2.2.2.1 hU hWm) (by rw [List.length_map]; exact hn) hdd hst hr k
theorem J.callS {idx n' d' : Nat} {ν : Mu} {As : List AV} {Q' : Option AV → Mem → Prop} (C : JX p s m args meth c base D cI cM cS R own cc n dR ck sk) (hd : decode cc pc = .ok (.invokestatic idx, 3)) (hk : KS own idx ν n') (hM : CQ ν d' As M Q') (hn : As.length = n') (hdd : d' + 1 ≤ dR) (hst : st = (As.map (cv base)).reverse ++ rest) (hr : (rest.map fun v => v.category).sum ≤ 8) (k : ∀ (r : Option AV) (M' : Mem), Q' r M' → J p l e R s m args below meth c base D cI cM cS ck sk Z n (pc + 3) lv ((r.map (cv base)).toList ++ rest) M') : J p l e R s m args below meth c base D cI cM cS ck sk Z n (pc) lv (st) M :=
  J.callSG C hd hk (hM.dg l base D cI cM cS) PW.blind (fun _ _ _ h => h) (fun H U hW hF hU hWm => PW.at hW C.2.2.2.2.2.2.1 C.2.2.2.2.2.2.2.1 hU hWm) (by rw [List.length_map]; exact hn) hdd hst hr (fun v M' h => by
    obtain ⟨r, e1, e2⟩ := h
    subst e1
    exact k r M' e2)
theorem J.callV {idx a t n' nf d' : Nat} {ν : Mu} {fs : List (Option (Option Nat))} {As : List AV} {Q' : Option AV → Mem → Prop} (C : JX p s m args meth c base D cI cM cS R own cc n dR ck sk) (hd : decode cc pc = .ok (.invokevirtual idx, 3)) (hk : KV own idx ν n' t) (hs : SH[a]? = some (t + 3, nf, fs)) (hM : CQ ν d' (.inr (some a) :: As) M Q') (hn : As.length = n') (hdd : d' + 1 ≤ dR) (hst : st = (As.map (cv base)).reverse ++ .ref (base + a) :: rest) (hr : (rest.map fun v => v.category).sum ≤ 8) (k : ∀ (r : Option AV) (M' : Mem), Q' r M' → J p l e R s m args below meth c base D cI cM cS ck sk Z n (pc + 3) lv ((r.map (cv base)).toList ++ rest) M') : J p l e R s m args below meth c base D cI cM cS ck sk Z n (pc) lv (st) M := by
  intro H locs ls hW hF hz hL hl
  obtain ⟨k1, k2, k3, ⟨rc, hrc, hrcn⟩, hmc, hml, hcode, hini⟩ := hk
  have hts := C.2.2.2.2.1
  have hK := C.2.2.2.2.2.2.1
  obtain ⟨-, rc', hrc', -, cell, g1, g2, g3, -⟩ := (hW.2 a _ hs).obj
  have hrr : rc' = rc := Option.some.inj (hrc'.symm.trans hrc)
  subst hrr
  have hG : GoodIn fm_TBL (wsV own idx ν.1.cls ν.1 (fm_ws ν)) := by
    intro w hw
    unfold wsV at hw
    rcases List.mem_append.mp hw with h | h
    · have : w ∈ fm_TBL := by
        rcases List.mem_cons.mp h with h | h
        · rw [h]; exact k1
        rcases List.mem_cons.mp h with h | h
        · rw [h]; exact k2
        rcases List.mem_cons.mp h with h | h
        · rw [h]; exact k3
        rw [List.mem_singleton.mp h]; exact hini
      exact ⟨this, fm_good this⟩
    · exact fm_goodT hcode w h
  exact J.go (fun _ _ _ h => h) hF hz hL hl (va_runV (As := As.map (cv base)) (b := base + a) ⟨C.1, C.2.1, C.2.2.1, C.2.2.2.1, hts⟩ (hM.dg l base D cI cM cS) (cwV n' hts hG rfl rfl rfl ⟨rfl, hmc⟩ (C.2.2.2.2.2.2.2.2.2.1 d' _ hdd hml)) ⟨PW.blind, ⟨cell, g1, by rw [g3]; rfl, by rw [g2, ← hrcn]; exact (hK.1 t _ hrc).2.1⟩, fun U hU hWm => ⟨rfl, PW.at hW hK C.2.2.2.2.2.2.2.1 hU hWm⟩⟩ rfl (by rw [List.length_map]; exact hn) hl.1 hst (lv_room hr) hd ⟨C.2.2.2.2.2.2.2.2.2.2.1, C.2.2.2.2.2.2.2.2.2.2.2⟩) (fun v M' h => by
    obtain ⟨r, e1, e2⟩ := h
    subst e1
    exact k r M' e2)
end JR
/-- the end of a method that answers a long -/
theorem J.lret {p : Program} {l : Launch} {e : Env} {R : Room} {s : State} {m : MethodId} {args : Array Value} {below : List Frame} {meth : Method} {c : Code} {base : Nat} {D : va_G} {cI cM cS : ClassId} {n dR : Nat} {own : String} {cc : ByteArray} {pc : Nat} {lv : List (Nat × Value)} {M : Mem} {x : Int64} {Q : Option Value → Mem → Prop} (C : JX p s m args meth c base D cI cM cS R own cc n dR 0 0) (hrt : meth.sig.returnType = some .long) (hd : decode cc pc = .ok (.lreturn, 1)) (q : Q (some (.long x)) M) : J p l e R s m args below meth c base D cI cM cS 0 0 (MQ below (QG base D cI cM cS Q) args s 0 0 (fun q => base ≤ q)) n pc lv [.long x] M := fun H locs ls hW hF hz hL hl => W.lret C.1 C.2.1 hrt (fun t ht _ => ⟨⟨_, M, rfl, q, by rw [ht]; exact hW⟩, fun q hq => by rw [ht]; exact hF q hq, by rw [ht]; exact hz⟩) hL hd C.2.2.2.2.2.1
