/-! ===== THE SCRIPT'S INTS, and what the law's last calls do ===== -/
set_option maxHeartbeats 4000000 in
theorem lw_cell {b L : Nat} {xs : Nat → Int32} (hL : L ≤ 260) (M : Mem) (k : Int) (hk : 0 ≤ k ∧ k ≤ 100) (l : Launch) (base : Nat) (D : va_G) (cI cM cS : ClassId) : Met l mL_cell.1 (fm_ws mL_cell) (rmv 0 0 0) (va_Pc [.ref b, .int (Int32.ofInt k)] (fun U => PW base D cI cM cS SH M U ∧ va_X b L xs U U.heap ∧ b < base)) (QG base D cI cM cS (fun r M' => (∃ y : Int, inR y ∧ r = some (.int (Int32.ofInt y))) ∧ M' = M)) 0 0 (fun q => base ≤ q) := by
  refine va_MetF (cc := cL_cell) (maxL := 2) (ret := some .int) (by decide +kernel) rfl ?_
  intro p e s m args below meth c s₁ B hml hv
  obtain ⟨rfl, ⟨hW, hK, hN⟩, hX, hb⟩ := hv
  have hl := lv_entry ([.ref b, .int (Int32.ofInt k)]) (n := 2) (Nat.le_of_ble_eq_true rfl)
  rw [lg_entry_eq]
  generalize (lg_sl ([.ref b, .int (Int32.ofInt k)]) ++ List.replicate (2 - (lg_sl ([.ref b, .int (Int32.ofInt k)])).length) Slot.unset).toArray = ls at hl ⊢
  have hl : lv_has ls 2 [(0, .ref b), (1, .int (Int32.ofInt k))] := hl
  have hx := B.exec
  have hc := B.bytes
  have hS0 : va_S (fun q => base ≤ q) s.heap s.heap [] := va_S.rf
  have hbl : b < s.heap.size := by rw [hW.1]; omega
  have hbA : ¬ base ≤ b := by omega
  have fin : ∀ (x : Int32) (t : State), t.heap = s.heap → (∃ (v : Option Value) (M' : Mem), Outcome.returned (some (.int x)) = .returned v ∧ ((∃ y : Int, inR y ∧ v = some (.int (Int32.ofInt y))) ∧ M' = M) ∧ Wh base D cI cM cS SH M' t.heap) ∧ (∀ q : Nat, q < base → t.heap[q]? = s.heap[q]?) ∧ s.heap.size ≤ t.heap.size := fun x t ht => ⟨⟨_, M, rfl, ⟨⟨x.toInt, toInt_inR x, by rw [Int32.ofInt_toInt]⟩, rfl⟩, by rw [ht]; exact hW⟩, fun q _ => by rw [ht], by rw [ht]; exact Nat.le_refl _⟩
  refine lv_iload_n hx hc dL_cell_0 rfl (lv_at hl 1 rfl) ?_
  refine lv_aload_n hx hc dL_cell_1 rfl (lv_at hl 0 rfl) ?_
  refine va_slen hx hc hX hbl hbA hS0 dL_cell_2 ?_
  rw [show Int32.ofNat L = Int32.ofInt (L : Int) from rfl]
  refine lv_icmp_ge (tgt := 12) hx hc dL_cell_3 (by decide) (fun h => ?_) (fun h => ?_)
  · refine lv_sipush (v := Int32.ofInt 7919) hx hc dL_cell_12 (i16_of (by decide)) ?_
    refine lv_iload_n hx hc dL_cell_15 rfl (lv_at hl 1 rfl) ?_
    refine lv_iconst (v := Int32.ofInt 3) hx hc dL_cell_16 rfl ?_
    refine lv_iadd hx hc dL_cell_17 ?_
    refine lv_imul hx hc dL_cell_18 ?_
    refine lv_iload_n hx hc dL_cell_19 rfl (lv_at hl 1 rfl) ?_
    refine lv_bipush (v := Int32.ofInt 11) hx hc dL_cell_20 (i8_of (by decide)) ?_
    refine lv_iadd hx hc dL_cell_22 ?_
    refine lv_imul hx hc dL_cell_23 ?_
    exact W.iret hx hc B.returns (fun t ht _ => fin _ t ht) (fun q hq => by cases hq) dL_cell_24 B.notSynchronized
  · have hkL : k < (L : Int) := Int.not_le.mp (fun q => h ((inR_le ⟨by omega, by omega⟩ ⟨by omega, by omega⟩).mpr q))
    refine lv_aload_n hx hc dL_cell_6 rfl (lv_at hl 0 rfl) ?_
    refine lv_iload_n hx hc dL_cell_7 rfl (lv_at hl 1 rfl) ?_
    refine va_sld hx hc hX hbl hbA hS0 (fm_vin ⟨hk.1, hkL⟩ (by omega)) dL_cell_8 ?_
    refine lv_goto (tgt := 24) hx hc dL_cell_9 (by decide) ?_
    exact W.iret hx hc B.returns (fun t ht _ => fin _ t ht) (fun q hq => by cases hq) dL_cell_24 B.notSynchronized
theorem J.cell {p : Program} {l : Launch} {e : Env} {R : Room} {s : State} {m : MethodId} {args : Array Value} {below : List Frame} {meth : Method} {c : Code} {base : Nat} {D : va_G} {cI cM cS : ClassId} {ck sk : Nat} {Z : State → Prop} {n dR : Nat} {cc : ByteArray} {pc : Nat} {lv : List (Nat × Value)} {rest : List Value} {M : Mem} {b L : Nat} {xs : Nat → Int32} {a : Int} (C : JX p s m args meth c base D cI cM cS R RL cc n dR ck sk) (hX : va_X b L xs s s.heap) (hb : b < base) (hL : L ≤ 260) (ha : 0 ≤ a ∧ a ≤ 100) (hd : decode cc pc = .ok (.invokestatic 81, 3)) (hdd : 1 ≤ dR) (hr : (rest.map fun v => v.category).sum ≤ 8) (k : ∀ y : Int, inR y → J p l e R s m args below meth c base D cI cM cS ck sk Z n (pc + 3) lv (.int (Int32.ofInt y) :: rest) M) : J p l e R s m args below meth c base D cI cM cS ck sk Z n pc lv (.int (Int32.ofInt a) :: .ref b :: rest) M :=
  J.callSG (As := [.ref b, .int (Int32.ofInt a)]) (rest := rest) C hd mk_L_81 (lw_cell (xs := xs) hL M a ha l base D cI cM cS) (fun a' U g mk q => ⟨q.1, (PW.blind (av := [.ref b, .int (Int32.ofInt a)]) a' U g mk ⟨q.1, q.2.1⟩).2, va_X.moved (u := U) (U := U.calling g mk a') (Vm.Alike.refl U.vm) q.2.2.1, q.2.2.2⟩) (fun _ _ _ h => h)
    (fun H U hW hF hU hWm => ⟨PW.at hW C.2.2.2.2.2.2.1 C.2.2.2.2.2.2.2.1 hU hWm, (va_X.moved hWm.alike hX).kept (by rw [hU]; exact hF b hb), hb⟩) rfl hdd rfl hr (fun v M' h => by
    obtain ⟨⟨y, hy, e1⟩, e2⟩ := h
    rw [e1, e2]
    exact k y hy)
/-! the first scouts -/
theorem la_addS {v : Vw} (hS : SI v) (hM : MB v) {sd c r g : Int} (h1 : 0 ≤ sd ∧ sd ≤ 1) (h2 : 0 ≤ c ∧ c ≤ 11 ∧ 0 ≤ r ∧ r ≤ 9) (h3 : 1 ≤ g ∧ g ≤ 8) (hn : v 0 0 < 10) (z : Int) (H : Int → Vw) (tl : Int) (T : Int → Int) : oAddS (v, z, H, tl, T) sd c r g = (-12, (v, z, H, tl, T)) ∨ ∃ w, oAddS (v, z, H, tl, T) sd c r g = (v 0 0, (w, imin (z + 1) 5, pushH H z v, tl, T)) ∧ LK w ∧ w 0 0 = v 0 0 + 1 ∧ w 0 3 = v 0 3 := by
  by_cases p4 : v 2 (r * 12 + c) = 0 ∧ sIn v (r * 12 + c) = -19
  · refine Or.inr ⟨lookV (putSV v sd (r * 12 + c) g), ?_, LK.look (hM.same rfl rfl put_02.1), ?_, ?_⟩
    · unfold oAddS; rw [if_pos h1, if_pos h2, if_pos h3, if_pos p4, if_neg (by show ¬ 10 ≤ v 0 0; omega)]; rfl
    · rw [lookV_lo (by decide)]; exact vset_at
    · rw [lookV_lo (by decide)]; exact put_02.2
  · exact Or.inl (by unfold oAddS; rw [if_pos h1, if_pos h2, if_pos h3, if_neg p4])
theorem push_last {H : Int → Vw} {z : Int} {v : Vw} (hz : 0 ≤ z ∧ z ≤ 5) : pushH H z v (imin (z + 1) 5 - 1) = v := by
  rw [imin5 hz.2]
  unfold pushH
  by_cases h : z < 5
  · rw [if_pos h, if_pos h, if_pos (by omega)]
  · rw [if_neg h, if_neg h, if_pos (by decide)]
theorem imin_pos {z : Int} (hz : 0 ≤ z ∧ z ≤ 5) : 1 ≤ imin (z + 1) 5 ∧ imin (z + 1) 5 ≤ 5 := by
  rw [imin5 hz.2]; split <;> omega
theorem undo_last {H : Int → Vw} {z tl : Int} {v w : Vw} {T : Int → Int} (hz : 0 ≤ z ∧ z ≤ 5) : oUndo (w, imin (z + 1) 5, pushH H z v, tl, T) = (imin (z + 1) 5 - 1, (v, imin (z + 1) 5 - 1, pushH H z v, tl, T)) := by
  have h := imin_pos hz
  unfold oUndo
  rw [if_neg (by show ¬ imin (z + 1) 5 = 0; omega)]
  show (_, (pushH H z v (imin (z + 1) 5 - 1), _)) = _
  rw [push_last hz]
theorem tell_id (v : Vw) : tellV (fun _ => -1) v = v := by
  funext t j
  unfold tellV
  by_cases h1 : t = 1
  · subst h1; rfl
  · rw [if_neg h1]
    by_cases h2 : t = 2
    · subst h2; rfl
    · rw [if_neg h2]
theorem load0 {v : Vw} {z : Int} {H : Int → Vw} {T : Int → Int} (hL : LK v) : oLoad (v, z, H, 0, T) = (0, (v, imin (z + 1) 5, pushH H z v, 0, T)) := by
  have e : rdS (v, z, H, 0, T) = (0, fun _ => -1) := rfl
  unfold oLoad
  rw [e, if_neg (by decide)]
  show (0, (lookV (tellV (fun _ => -1) v), _)) = _
  rw [tell_id, hL.1]
theorem e_h1 (s : AbS) : oHeight s 12 0 0 = (-11, s) := by unfold oHeight; rw [if_neg (by decide)]
theorem e_h2 (s : AbS) : oHeight s 0 0 10 = (-11, s) := by unfold oHeight; rw [if_pos (by decide), if_neg (by decide)]
theorem e_as (s : AbS) : oAddS s 2 0 0 1 = (-11, s) := by unfold oAddS; rw [if_neg (by decide)]
theorem e_al (s : AbS) : oAddL s 0 0 5 1 = (-11, s) := by unfold oAddL; rw [if_pos (by decide), if_neg (by decide)]
theorem e_fog (s : AbS) : oFog s 100 = (-11, s) := by unfold oFog; rw [if_neg (by decide)]
theorem e_pass (s : AbS) : oPass s 0 = (-11, s) := by unfold oPass; rw [if_neg (by decide)]
theorem e_app (s : AbS) : oAppend s 256 = (-11, s) := by unfold oAppend; rw [if_neg (by decide)]
theorem e_kn (v : Vw) : qKnown v 0 0 0 5 = -11 := by
  unfold qKnown
  rw [if_pos (by decide), if_pos (by decide), if_neg (by decide), if_neg (by decide), if_neg (by decide), if_neg (by decide), if_neg (by decide)]
