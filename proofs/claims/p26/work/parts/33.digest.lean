/-! ===== THE LAW'S digest ===== -/
section JI
variable {p : Program} {l : Launch} {e : Env} {R : Room} {s : State} {m : MethodId} {args : Array Value} {below : List Frame} {meth : Method} {c : Code} {base : Nat} {D : va_G} {cI cM cS : ClassId} {ck sk : Nat} {Z : State → Prop} {n dR : Nat} {own : String} {cc : ByteArray}
variable {pc : Nat} {lv lv' : List (Nat × Value)} {st rest : List Value} {M : Mem}
theorem J.callVI {idx a t n' nf d' : Nat} {ν : Mu} {fs : List (Option (Option Nat))} {As : List AV} {x : Int} (C : JX p s m args meth c base D cI cM cS R own cc n dR ck sk) (hd : decode cc pc = .ok (.invokevirtual idx, 3)) (hk : KV own idx ν n' t) (hs : SH[a]? = some (t + 3, nf, fs)) (hM : CX ν d' (.inr (some a) :: As) M (some (.inl x)) M) (hn : As.length = n') (hdd : d' + 1 ≤ dR) (hst : st = (As.map (cv base)).reverse ++ .ref (base + a) :: rest) (hr : (rest.map fun v => v.category).sum ≤ 8) (k : J p l e R s m args below meth c base D cI cM cS ck sk Z n (pc + 3) lv (.int (Int32.ofInt x) :: rest) M) : J p l e R s m args below meth c base D cI cM cS ck sk Z n pc lv st M :=
  J.callV C hd hk hs hM hn hdd hst hr (fun r M' h => by rw [h.1, h.2]; exact k)
theorem J.callSI {idx n' d' : Nat} {ν : Mu} {As : List AV} {x : Int} (C : JX p s m args meth c base D cI cM cS R own cc n dR ck sk) (hd : decode cc pc = .ok (.invokestatic idx, 3)) (hk : KS own idx ν n') (hM : CX ν d' As M (some (.inl x)) M) (hn : As.length = n') (hdd : d' + 1 ≤ dR) (hst : st = (As.map (cv base)).reverse ++ rest) (hr : (rest.map fun v => v.category).sum ≤ 8) (k : J p l e R s m args below meth c base D cI cM cS ck sk Z n (pc + 3) lv (.int (Int32.ofInt x) :: rest) M) : J p l e R s m args below meth c base D cI cM cS ck sk Z n pc lv st M :=
  J.callS C hd hk hM hn hdd hst hr (fun r M' h => by rw [h.1, h.2]; exact k)
end JI
def itN (g : Int → Int64 → Int64) : Nat → Int → Int64 → Int64
  | 0, _, h => h
  | n + 1, k, h => itN g n (k + 1) (g k h)
theorem itN_step {g : Int → Int64 → Int64} {k hi : Int} {h : Int64} (hk : k < hi) : itN g (hi - k).toNat k h = itN g (hi - (k + 1)).toNat (k + 1) (g k h) := by
  rw [show (hi - k).toNat = (hi - (k + 1)).toNat + 1 by omega]; rfl
theorem itN_end {g : Int → Int64 → Int64} {hi : Int} {h : Int64} : itN g (hi - hi).toNat hi h = h := by
  rw [show (hi - hi).toNat = 0 by omega]; rfl
def dstep (h : Int64) (a : Int) : Int64 := 31 * h + L64 a
noncomputable def gC (v : Vw) : Int → Int64 → Int64 := fun w h => dstep h (qCount v 0 0 w)
noncomputable def gW (v : Vw) (r c : Int) : Int → Int64 → Int64 := fun w h => dstep (dstep (dstep h (qCell v c r w)) (qKnown v 0 c r w)) (qKnown v 1 c r w)
noncomputable def gD (v : Vw) (r : Int) : Int → Int64 → Int64 := fun c h => itN (gW v r c) ((4 : Int) - 0).toNat 0 h
noncomputable def gR (v : Vw) : Int → Int64 → Int64 := fun r h => itN (gD v r) ((12 : Int) - 0).toNat 0 h
noncomputable def gT (v : Vw) (k : Int) : Int → Int64 → Int64 := fun w h => dstep h (qScout v k w)
noncomputable def gS (v : Vw) : Int → Int64 → Int64 := fun k h => itN (gT v k) ((6 : Int) - 0).toNat 0 h
noncomputable def gU (v : Vw) (k : Int) : Int → Int64 → Int64 := fun w h => dstep h (qLight v k w)
noncomputable def gL (v : Vw) : Int → Int64 → Int64 := fun k h => itN (gU v k) ((4 : Int) - 0).toNat 0 h
noncomputable def F3 (v : Vw) (h : Int64) : Int64 := itN (gL v) (v 0 1 - 0).toNat 0 h
noncomputable def F2 (v : Vw) (h : Int64) : Int64 := F3 v (itN (gS v) (v 0 0 - 0).toNat 0 h)
noncomputable def F1 (v : Vw) (h : Int64) : Int64 := F2 v (itN (gR v) ((10 : Int) - 0).toNat 0 h)
/-- the law's digest, of a view -/
noncomputable def dig (v : Vw) : Int64 := F1 v (itN (gC v) ((10 : Int) - 0).toNat 0 7)
theorem qCount_zt {v : Vw} {z tl w : Int} (h : w < 10) : qCount v z tl w = qCount v 0 0 w := by
  unfold qCount
  simp only [show ¬ w = 10 by omega, show ¬ w = 11 by omega, if_false]
set_option maxHeartbeats 4000000 in
set_option maxRecDepth 100000 in
theorem dg_walk {p : Program} {l : Launch} {e : Env} {R : Room} {s : State} {m : MethodId} {args : Array Value} {below : List Frame} {meth : Method} {c : Code} {base : Nat} {D : va_G} {cI cM cS : ClassId} {M : Mem} {v : Vw} {z : Int} {Hh : Int → Vw} {tl : Int} {T : Int → Int} (C : JX p s m args meth c base D cI cM cS R RL cL_digest 6 3 0 0) (hrt : meth.sig.returnType = some .long) (hR : RF M (v, z, Hh, tl, T)) : J p l e R s m args below meth c base D cI cM cS 0 0 (MQ below (QG base D cI cM cS (fun r M' => r = some (.long (dig v)) ∧ M' = M)) args s 0 0 (fun q => base ≤ q)) 6 0 [(0, .ref (base + 0))] [] M := by
  have hS : SI v := hR.1.2.1
  have n0 := hS.n0
  have n1 := hS.n1
  have E : ∀ h : Int64, h = dig v → J p l e R s m args below meth c base D cI cM cS 0 0 (MQ below (QG base D cI cM cS (fun r M' => r = some (.long (dig v)) ∧ M' = M)) args s 0 0 (fun q => base ≤ q)) 6 224 [(0, .ref (base + 0)), (1, .long h)] [] M := by
    intro h hh
    refine J.lload_n 1 C dL_digest_224 rfl rfl ?_
    exact J.lret C hrt dL_digest_225 ⟨by rw [hh], rfl⟩
  have L179 : ∀ k : Int, 0 ≤ k → k ≤ v 0 1 → ∀ h : Int64, itN (gL v) (v 0 1 - k).toNat k h = dig v → J p l e R s m args below meth c base D cI cM cS 0 0 (MQ below (QG base D cI cM cS (fun r M' => r = some (.long (dig v)) ∧ M' = M)) args s 0 0 (fun q => base ≤ q)) 6 179 [(0, .ref (base + 0)), (1, .long h), (3, .int (Int32.ofInt k))] [] M := by
    refine down_ind 0 (v 0 1) ?_ ?_
    · intro h hh
      rw [itN_end] at hh
      refine J.iload_n 2 C dL_digest_179 rfl rfl ?_
      refine J.aload_n 0 C dL_digest_180 rfl rfl ?_
      refine J.iconst C dL_digest_181 ?_
      refine J.callVI (As := [.inl 1]) (rest := [.int (Int32.ofInt (v 0 1))]) C dL_digest_182 mk_L_12 sh_0 (lq_count (x := v 0 1) hR 1 (by decide) rfl) rfl (by decide) rfl (Nat.le_of_ble_eq_true rfl) ?_
      refine J.icmp_ge (tgt := 224) C dL_digest_185 (by decide) ⟨by omega, by omega⟩ ⟨by omega, by omega⟩ (fun h1 => ?_) (fun h => by exfalso; omega)
      refine J.sub (lv' := [(0, .ref (base + 0)), (1, .long h)]) [0, 1] rfl ?_
      exact E _ hh
    · intro k hk1 hk2 ihk h hh
      rw [itN_step hk2] at hh
      have L191 : ∀ w : Int, 0 ≤ w → w ≤ 4 → ∀ h : Int64, itN (gL v) (v 0 1 - (k + 1)).toNat (k + 1) (itN (gU v k) ((4 : Int) - w).toNat w h) = dig v → J p l e R s m args below meth c base D cI cM cS 0 0 (MQ below (QG base D cI cM cS (fun r M' => r = some (.long (dig v)) ∧ M' = M)) args s 0 0 (fun q => base ≤ q)) 6 191 [(0, .ref (base + 0)), (1, .long h), (3, .int (Int32.ofInt k)), (4, .int (Int32.ofInt w))] [] M := by
        refine down_ind 0 4 ?_ ?_
        · intro h hh
          rw [itN_end] at hh
          refine J.iload 3 C dL_digest_191 rfl ?_
          refine J.iconst C dL_digest_193 ?_
          refine J.icmp_ge (tgt := 218) C dL_digest_194 (by decide) (by decide) (by decide) (fun h2 => ?_) (fun h => absurd h (by decide))
          refine J.iinc (y := k + 1) (lv' := [(3, .int (Int32.ofInt (k + 1))), (0, .ref (base + 0)), (1, .long h), (4, .int (Int32.ofInt 4))]) 2 C dL_digest_218 rfl rfl (by decide) rfl ?_
          refine J.goto (tgt := 179) C dL_digest_221 (by decide) ?_
          refine J.sub (lv' := [(0, .ref (base + 0)), (1, .long h), (3, .int (Int32.ofInt (k + 1)))]) [1, 2, 0] rfl ?_
          exact ihk _ hh
        · intro w hw1 hw2 ihw h hh
          rw [itN_step hw2] at hh
          refine J.iload 3 C dL_digest_191 rfl ?_
          refine J.iconst C dL_digest_193 ?_
          refine J.icmp_ge (tgt := 218) C dL_digest_194 (by decide) ⟨by omega, by omega⟩ (by decide) (fun h => by exfalso; omega) (fun h3 => ?_)
          refine J.ldc2 C dL_digest_197 kq_L_10 ?_
          refine J.lload_n 1 C dL_digest_200 rfl rfl ?_
          refine J.lmul C dL_digest_201 ?_
          refine J.aload_n 0 C dL_digest_202 rfl rfl ?_
          refine J.iload_n 2 C dL_digest_203 rfl rfl ?_
          refine J.iload 3 C dL_digest_204 rfl ?_
          refine J.callVI (As := [.inl k, .inl w]) (rest := [.long (31 * h)]) C dL_digest_206 mk_L_30 sh_0 (lq_light (x := qLight v k w) hR k w ⟨by omega, by omega⟩ ⟨by omega, by omega⟩ rfl) rfl (by decide) rfl (Nat.le_of_ble_eq_true rfl) ?_
          refine J.i2l C dL_digest_209 ?_
          refine J.ladd C dL_digest_210 ?_
          refine J.lstore_n (lv' := [(1, .long ((31 * h) + (L64 (qLight v k w)))), (0, .ref (base + 0)), (3, .int (Int32.ofInt k)), (4, .int (Int32.ofInt w))]) C dL_digest_211 rfl (by decide) rfl ?_
          refine J.iinc (y := w + 1) (lv' := [(4, .int (Int32.ofInt (w + 1))), (1, .long ((31 * h) + (L64 (qLight v k w)))), (0, .ref (base + 0)), (3, .int (Int32.ofInt k))]) 3 C dL_digest_212 rfl rfl (by decide) rfl ?_
          refine J.goto (tgt := 191) C dL_digest_215 (by decide) ?_
          refine J.sub (lv' := [(0, .ref (base + 0)), (1, .long ((31 * h) + (L64 (qLight v k w)))), (3, .int (Int32.ofInt k)), (4, .int (Int32.ofInt (w + 1)))]) [2, 1, 3, 0] rfl ?_
          exact ihw _ hh
      refine J.iload_n 2 C dL_digest_179 rfl rfl ?_
      refine J.aload_n 0 C dL_digest_180 rfl rfl ?_
      refine J.iconst C dL_digest_181 ?_
      refine J.callVI (As := [.inl 1]) (rest := [.int (Int32.ofInt k)]) C dL_digest_182 mk_L_12 sh_0 (lq_count (x := v 0 1) hR 1 (by decide) rfl) rfl (by decide) rfl (Nat.le_of_ble_eq_true rfl) ?_
      refine J.icmp_ge (tgt := 224) C dL_digest_185 (by decide) ⟨by omega, by omega⟩ ⟨by omega, by omega⟩ (fun h => by exfalso; omega) (fun h4 => ?_)
      refine J.iconst C dL_digest_188 ?_
      refine J.istore (lv' := [(4, .int (Int32.ofInt 0)), (0, .ref (base + 0)), (1, .long h), (3, .int (Int32.ofInt k))]) C dL_digest_189 (by decide) rfl ?_
      refine J.sub (lv' := [(0, .ref (base + 0)), (1, .long h), (3, .int (Int32.ofInt k)), (4, .int (Int32.ofInt 0))]) [1, 2, 3, 0] rfl ?_
      exact L191 0 (by omega) (by omega) _ hh
  have L131 : ∀ k : Int, 0 ≤ k → k ≤ v 0 0 → ∀ h : Int64, F3 v (itN (gS v) (v 0 0 - k).toNat k h) = dig v → J p l e R s m args below meth c base D cI cM cS 0 0 (MQ below (QG base D cI cM cS (fun r M' => r = some (.long (dig v)) ∧ M' = M)) args s 0 0 (fun q => base ≤ q)) 6 131 [(0, .ref (base + 0)), (1, .long h), (3, .int (Int32.ofInt k))] [] M := by
    refine down_ind 0 (v 0 0) ?_ ?_
    · intro h hh
      rw [itN_end] at hh
      refine J.iload_n 2 C dL_digest_131 rfl rfl ?_
      refine J.aload_n 0 C dL_digest_132 rfl rfl ?_
      refine J.iconst C dL_digest_133 ?_
      refine J.callVI (As := [.inl 0]) (rest := [.int (Int32.ofInt (v 0 0))]) C dL_digest_134 mk_L_12 sh_0 (lq_count (x := v 0 0) hR 0 (by decide) rfl) rfl (by decide) rfl (Nat.le_of_ble_eq_true rfl) ?_
      refine J.icmp_ge (tgt := 177) C dL_digest_137 (by decide) ⟨by omega, by omega⟩ ⟨by omega, by omega⟩ (fun h5 => ?_) (fun h => by exfalso; omega)
      refine J.iconst C dL_digest_177 ?_
      refine J.istore_n (lv' := [(3, .int (Int32.ofInt 0)), (0, .ref (base + 0)), (1, .long h)]) C dL_digest_178 rfl (by decide) rfl ?_
      refine J.sub (lv' := [(0, .ref (base + 0)), (1, .long h), (3, .int (Int32.ofInt 0))]) [1, 2, 0] rfl ?_
      exact L179 0 (by omega) (by omega) _ hh
    · intro k hk1 hk2 ihk h hh
      rw [itN_step hk2] at hh
      have L143 : ∀ w : Int, 0 ≤ w → w ≤ 6 → ∀ h : Int64, F3 v (itN (gS v) (v 0 0 - (k + 1)).toNat (k + 1) (itN (gT v k) ((6 : Int) - w).toNat w h)) = dig v → J p l e R s m args below meth c base D cI cM cS 0 0 (MQ below (QG base D cI cM cS (fun r M' => r = some (.long (dig v)) ∧ M' = M)) args s 0 0 (fun q => base ≤ q)) 6 143 [(0, .ref (base + 0)), (1, .long h), (3, .int (Int32.ofInt k)), (4, .int (Int32.ofInt w))] [] M := by
        refine down_ind 0 6 ?_ ?_
        · intro h hh
          rw [itN_end] at hh
          refine J.iload 3 C dL_digest_143 rfl ?_
          refine J.bipush C dL_digest_145 (by decide) ?_
          refine J.icmp_ge (tgt := 171) C dL_digest_147 (by decide) (by decide) (by decide) (fun h6 => ?_) (fun h => absurd h (by decide))
          refine J.iinc (y := k + 1) (lv' := [(3, .int (Int32.ofInt (k + 1))), (0, .ref (base + 0)), (1, .long h), (4, .int (Int32.ofInt 6))]) 2 C dL_digest_171 rfl rfl (by decide) rfl ?_
          refine J.goto (tgt := 131) C dL_digest_174 (by decide) ?_
          refine J.sub (lv' := [(0, .ref (base + 0)), (1, .long h), (3, .int (Int32.ofInt (k + 1)))]) [1, 2, 0] rfl ?_
          exact ihk _ hh
        · intro w hw1 hw2 ihw h hh
          rw [itN_step hw2] at hh
          refine J.iload 3 C dL_digest_143 rfl ?_
          refine J.bipush C dL_digest_145 (by decide) ?_
          refine J.icmp_ge (tgt := 171) C dL_digest_147 (by decide) ⟨by omega, by omega⟩ (by decide) (fun h => by exfalso; omega) (fun h7 => ?_)
          refine J.ldc2 C dL_digest_150 kq_L_10 ?_
          refine J.lload_n 1 C dL_digest_153 rfl rfl ?_
          refine J.lmul C dL_digest_154 ?_
          refine J.aload_n 0 C dL_digest_155 rfl rfl ?_
          refine J.iload_n 2 C dL_digest_156 rfl rfl ?_
          refine J.iload 3 C dL_digest_157 rfl ?_
          refine J.callVI (As := [.inl k, .inl w]) (rest := [.long (31 * h)]) C dL_digest_159 mk_L_26 sh_0 (lq_scout (x := qScout v k w) hR k w ⟨by omega, by omega⟩ ⟨by omega, by omega⟩ rfl) rfl (by decide) rfl (Nat.le_of_ble_eq_true rfl) ?_
          refine J.i2l C dL_digest_162 ?_
          refine J.ladd C dL_digest_163 ?_
          refine J.lstore_n (lv' := [(1, .long ((31 * h) + (L64 (qScout v k w)))), (0, .ref (base + 0)), (3, .int (Int32.ofInt k)), (4, .int (Int32.ofInt w))]) C dL_digest_164 rfl (by decide) rfl ?_
          refine J.iinc (y := w + 1) (lv' := [(4, .int (Int32.ofInt (w + 1))), (1, .long ((31 * h) + (L64 (qScout v k w)))), (0, .ref (base + 0)), (3, .int (Int32.ofInt k))]) 3 C dL_digest_165 rfl rfl (by decide) rfl ?_
          refine J.goto (tgt := 143) C dL_digest_168 (by decide) ?_
          refine J.sub (lv' := [(0, .ref (base + 0)), (1, .long ((31 * h) + (L64 (qScout v k w)))), (3, .int (Int32.ofInt k)), (4, .int (Int32.ofInt (w + 1)))]) [2, 1, 3, 0] rfl ?_
          exact ihw _ hh
      refine J.iload_n 2 C dL_digest_131 rfl rfl ?_
      refine J.aload_n 0 C dL_digest_132 rfl rfl ?_
      refine J.iconst C dL_digest_133 ?_
      refine J.callVI (As := [.inl 0]) (rest := [.int (Int32.ofInt k)]) C dL_digest_134 mk_L_12 sh_0 (lq_count (x := v 0 0) hR 0 (by decide) rfl) rfl (by decide) rfl (Nat.le_of_ble_eq_true rfl) ?_
      refine J.icmp_ge (tgt := 177) C dL_digest_137 (by decide) ⟨by omega, by omega⟩ ⟨by omega, by omega⟩ (fun h => by exfalso; omega) (fun h8 => ?_)
      refine J.iconst C dL_digest_140 ?_
      refine J.istore (lv' := [(4, .int (Int32.ofInt 0)), (0, .ref (base + 0)), (1, .long h), (3, .int (Int32.ofInt k))]) C dL_digest_141 (by decide) rfl ?_
      refine J.sub (lv' := [(0, .ref (base + 0)), (1, .long h), (3, .int (Int32.ofInt k)), (4, .int (Int32.ofInt 0))]) [1, 2, 3, 0] rfl ?_
      exact L143 0 (by omega) (by omega) _ hh
  have L33 : ∀ r : Int, 0 ≤ r → r ≤ 10 → ∀ h : Int64, F2 v (itN (gR v) ((10 : Int) - r).toNat r h) = dig v → J p l e R s m args below meth c base D cI cM cS 0 0 (MQ below (QG base D cI cM cS (fun r M' => r = some (.long (dig v)) ∧ M' = M)) args s 0 0 (fun q => base ≤ q)) 6 33 [(0, .ref (base + 0)), (1, .long h), (3, .int (Int32.ofInt r))] [] M := by
    refine down_ind 0 10 ?_ ?_
    · intro h hh
      rw [itN_end] at hh
      refine J.iload_n 2 C dL_digest_33 rfl rfl ?_
      refine J.bipush C dL_digest_34 (by decide) ?_
      refine J.icmp_ge (tgt := 129) C dL_digest_36 (by decide) (by decide) (by decide) (fun h9 => ?_) (fun h => absurd h (by decide))
      refine J.iconst C dL_digest_129 ?_
      refine J.istore_n (lv' := [(3, .int (Int32.ofInt 0)), (0, .ref (base + 0)), (1, .long h)]) C dL_digest_130 rfl (by decide) rfl ?_
      refine J.sub (lv' := [(0, .ref (base + 0)), (1, .long h), (3, .int (Int32.ofInt 0))]) [1, 2, 0] rfl ?_
      exact L131 0 (by omega) (by omega) _ hh
    · intro r hr1 hr2 ihr h hh
      rw [itN_step hr2] at hh
      have L42 : ∀ cc : Int, 0 ≤ cc → cc ≤ 12 → ∀ h : Int64, F2 v (itN (gR v) ((10 : Int) - (r + 1)).toNat (r + 1) (itN (gD v r) ((12 : Int) - cc).toNat cc h)) = dig v → J p l e R s m args below meth c base D cI cM cS 0 0 (MQ below (QG base D cI cM cS (fun r M' => r = some (.long (dig v)) ∧ M' = M)) args s 0 0 (fun q => base ≤ q)) 6 42 [(0, .ref (base + 0)), (1, .long h), (3, .int (Int32.ofInt r)), (4, .int (Int32.ofInt cc))] [] M := by
        refine down_ind 0 12 ?_ ?_
        · intro h hh
          rw [itN_end] at hh
          refine J.iload 3 C dL_digest_42 rfl ?_
          refine J.bipush C dL_digest_44 (by decide) ?_
          refine J.icmp_ge (tgt := 123) C dL_digest_46 (by decide) (by decide) (by decide) (fun h10 => ?_) (fun h => absurd h (by decide))
          refine J.iinc (y := r + 1) (lv' := [(3, .int (Int32.ofInt (r + 1))), (0, .ref (base + 0)), (1, .long h), (4, .int (Int32.ofInt 12))]) 2 C dL_digest_123 rfl rfl (by decide) rfl ?_
          refine J.goto (tgt := 33) C dL_digest_126 (by decide) ?_
          refine J.sub (lv' := [(0, .ref (base + 0)), (1, .long h), (3, .int (Int32.ofInt (r + 1)))]) [1, 2, 0] rfl ?_
          exact ihr _ hh
        · intro cc hcc1 hcc2 ihcc h hh
          rw [itN_step hcc2] at hh
          have L52 : ∀ w : Int, 0 ≤ w → w ≤ 4 → ∀ h : Int64, F2 v (itN (gR v) ((10 : Int) - (r + 1)).toNat (r + 1) (itN (gD v r) ((12 : Int) - (cc + 1)).toNat (cc + 1) (itN (gW v r cc) ((4 : Int) - w).toNat w h))) = dig v → J p l e R s m args below meth c base D cI cM cS 0 0 (MQ below (QG base D cI cM cS (fun r M' => r = some (.long (dig v)) ∧ M' = M)) args s 0 0 (fun q => base ≤ q)) 6 52 [(0, .ref (base + 0)), (1, .long h), (3, .int (Int32.ofInt r)), (4, .int (Int32.ofInt cc)), (5, .int (Int32.ofInt w))] [] M := by
            refine down_ind 0 4 ?_ ?_
            · intro h hh
              rw [itN_end] at hh
              refine J.iload 4 C dL_digest_52 rfl ?_
              refine J.iconst C dL_digest_54 ?_
              refine J.icmp_ge (tgt := 117) C dL_digest_55 (by decide) (by decide) (by decide) (fun h11 => ?_) (fun h => absurd h (by decide))
              refine J.iinc (y := cc + 1) (lv' := [(4, .int (Int32.ofInt (cc + 1))), (0, .ref (base + 0)), (1, .long h), (3, .int (Int32.ofInt r)), (5, .int (Int32.ofInt 4))]) 3 C dL_digest_117 rfl rfl (by decide) rfl ?_
              refine J.goto (tgt := 42) C dL_digest_120 (by decide) ?_
              refine J.sub (lv' := [(0, .ref (base + 0)), (1, .long h), (3, .int (Int32.ofInt r)), (4, .int (Int32.ofInt (cc + 1)))]) [1, 2, 3, 0] rfl ?_
              exact ihcc _ hh
            · intro w hw1 hw2 ihw h hh
              rw [itN_step hw2] at hh
              refine J.iload 4 C dL_digest_52 rfl ?_
              refine J.iconst C dL_digest_54 ?_
              refine J.icmp_ge (tgt := 117) C dL_digest_55 (by decide) ⟨by omega, by omega⟩ (by decide) (fun h => by exfalso; omega) (fun h12 => ?_)
              refine J.ldc2 C dL_digest_58 kq_L_10 ?_
              refine J.lload_n 1 C dL_digest_61 rfl rfl ?_
              refine J.lmul C dL_digest_62 ?_
              refine J.aload_n 0 C dL_digest_63 rfl rfl ?_
              refine J.iload 3 C dL_digest_64 rfl ?_
              refine J.iload_n 2 C dL_digest_66 rfl rfl ?_
              refine J.iload 4 C dL_digest_67 rfl ?_
              refine J.callVI (As := [.inl cc, .inl r, .inl w]) (rest := [.long (31 * h)]) C dL_digest_69 mk_L_18 sh_0 (lq_cell (x := qCell v cc r w) hR cc r w ⟨by omega, by omega⟩ ⟨by omega, by omega⟩ ⟨by omega, by omega⟩ rfl) rfl (by decide) rfl (Nat.le_of_ble_eq_true rfl) ?_
              refine J.i2l C dL_digest_72 ?_
              refine J.ladd C dL_digest_73 ?_
              refine J.lstore_n (lv' := [(1, .long ((31 * h) + (L64 (qCell v cc r w)))), (0, .ref (base + 0)), (3, .int (Int32.ofInt r)), (4, .int (Int32.ofInt cc)), (5, .int (Int32.ofInt w))]) C dL_digest_74 rfl (by decide) rfl ?_
              refine J.ldc2 C dL_digest_75 kq_L_10 ?_
              refine J.lload_n 0 C dL_digest_78 rfl rfl ?_
              refine J.lmul C dL_digest_79 ?_
              refine J.aload_n 1 C dL_digest_80 rfl rfl ?_
              refine J.iconst C dL_digest_81 ?_
              refine J.iload 3 C dL_digest_82 rfl ?_
              refine J.iload_n 2 C dL_digest_84 rfl rfl ?_
              refine J.iload 4 C dL_digest_85 rfl ?_
              refine J.callVI (As := [.inl 0, .inl cc, .inl r, .inl w]) (rest := [.long (31 * ((31 * h) + (L64 (qCell v cc r w))))]) C dL_digest_87 mk_L_22 sh_0 (lq_known (x := qKnown v 0 cc r w) hR 0 cc r w (by decide) ⟨by omega, by omega⟩ ⟨by omega, by omega⟩ ⟨by omega, by omega⟩ rfl) rfl (by decide) rfl (Nat.le_of_ble_eq_true rfl) ?_
              refine J.i2l C dL_digest_90 ?_
              refine J.ladd C dL_digest_91 ?_
              refine J.lstore_n (lv' := [(1, .long ((31 * ((31 * h) + (L64 (qCell v cc r w)))) + (L64 (qKnown v 0 cc r w)))), (0, .ref (base + 0)), (3, .int (Int32.ofInt r)), (4, .int (Int32.ofInt cc)), (5, .int (Int32.ofInt w))]) C dL_digest_92 rfl (by decide) rfl ?_
              refine J.ldc2 C dL_digest_93 kq_L_10 ?_
              refine J.lload_n 0 C dL_digest_96 rfl rfl ?_
              refine J.lmul C dL_digest_97 ?_
              refine J.aload_n 1 C dL_digest_98 rfl rfl ?_
              refine J.iconst C dL_digest_99 ?_
              refine J.iload 3 C dL_digest_100 rfl ?_
              refine J.iload_n 2 C dL_digest_102 rfl rfl ?_
              refine J.iload 4 C dL_digest_103 rfl ?_
              refine J.callVI (As := [.inl 1, .inl cc, .inl r, .inl w]) (rest := [.long (31 * ((31 * ((31 * h) + (L64 (qCell v cc r w)))) + (L64 (qKnown v 0 cc r w))))]) C dL_digest_105 mk_L_22 sh_0 (lq_known (x := qKnown v 1 cc r w) hR 1 cc r w (by decide) ⟨by omega, by omega⟩ ⟨by omega, by omega⟩ ⟨by omega, by omega⟩ rfl) rfl (by decide) rfl (Nat.le_of_ble_eq_true rfl) ?_
              refine J.i2l C dL_digest_108 ?_
              refine J.ladd C dL_digest_109 ?_
              refine J.lstore_n (lv' := [(1, .long ((31 * ((31 * ((31 * h) + (L64 (qCell v cc r w)))) + (L64 (qKnown v 0 cc r w)))) + (L64 (qKnown v 1 cc r w)))), (0, .ref (base + 0)), (3, .int (Int32.ofInt r)), (4, .int (Int32.ofInt cc)), (5, .int (Int32.ofInt w))]) C dL_digest_110 rfl (by decide) rfl ?_
              refine J.iinc (y := w + 1) (lv' := [(5, .int (Int32.ofInt (w + 1))), (1, .long ((31 * ((31 * ((31 * h) + (L64 (qCell v cc r w)))) + (L64 (qKnown v 0 cc r w)))) + (L64 (qKnown v 1 cc r w)))), (0, .ref (base + 0)), (3, .int (Int32.ofInt r)), (4, .int (Int32.ofInt cc))]) 4 C dL_digest_111 rfl rfl (by decide) rfl ?_
              refine J.goto (tgt := 52) C dL_digest_114 (by decide) ?_
              refine J.sub (lv' := [(0, .ref (base + 0)), (1, .long ((31 * ((31 * ((31 * h) + (L64 (qCell v cc r w)))) + (L64 (qKnown v 0 cc r w)))) + (L64 (qKnown v 1 cc r w)))), (3, .int (Int32.ofInt r)), (4, .int (Int32.ofInt cc)), (5, .int (Int32.ofInt (w + 1)))]) [2, 1, 3, 4, 0] rfl ?_
              exact ihw _ hh
          refine J.iload 3 C dL_digest_42 rfl ?_
          refine J.bipush C dL_digest_44 (by decide) ?_
          refine J.icmp_ge (tgt := 123) C dL_digest_46 (by decide) ⟨by omega, by omega⟩ (by decide) (fun h => by exfalso; omega) (fun h13 => ?_)
          refine J.iconst C dL_digest_49 ?_
          refine J.istore (lv' := [(5, .int (Int32.ofInt 0)), (0, .ref (base + 0)), (1, .long h), (3, .int (Int32.ofInt r)), (4, .int (Int32.ofInt cc))]) C dL_digest_50 (by decide) rfl ?_
          refine J.sub (lv' := [(0, .ref (base + 0)), (1, .long h), (3, .int (Int32.ofInt r)), (4, .int (Int32.ofInt cc)), (5, .int (Int32.ofInt 0))]) [1, 2, 3, 4, 0] rfl ?_
          exact L52 0 (by omega) (by omega) _ hh
      refine J.iload_n 2 C dL_digest_33 rfl rfl ?_
      refine J.bipush C dL_digest_34 (by decide) ?_
      refine J.icmp_ge (tgt := 129) C dL_digest_36 (by decide) ⟨by omega, by omega⟩ (by decide) (fun h => by exfalso; omega) (fun h14 => ?_)
      refine J.iconst C dL_digest_39 ?_
      refine J.istore (lv' := [(4, .int (Int32.ofInt 0)), (0, .ref (base + 0)), (1, .long h), (3, .int (Int32.ofInt r))]) C dL_digest_40 (by decide) rfl ?_
      refine J.sub (lv' := [(0, .ref (base + 0)), (1, .long h), (3, .int (Int32.ofInt r)), (4, .int (Int32.ofInt 0))]) [1, 2, 3, 0] rfl ?_
      exact L42 0 (by omega) (by omega) _ hh
  have L6 : ∀ w : Int, 0 ≤ w → w ≤ 10 → ∀ h : Int64, F1 v (itN (gC v) ((10 : Int) - w).toNat w h) = dig v → J p l e R s m args below meth c base D cI cM cS 0 0 (MQ below (QG base D cI cM cS (fun r M' => r = some (.long (dig v)) ∧ M' = M)) args s 0 0 (fun q => base ≤ q)) 6 6 [(0, .ref (base + 0)), (1, .long h), (3, .int (Int32.ofInt w))] [] M := by
    refine down_ind 0 10 ?_ ?_
    · intro h hh
      rw [itN_end] at hh
      refine J.iload_n 2 C dL_digest_6 rfl rfl ?_
      refine J.bipush C dL_digest_7 (by decide) ?_
      refine J.icmp_ge (tgt := 31) C dL_digest_9 (by decide) (by decide) (by decide) (fun h15 => ?_) (fun h => absurd h (by decide))
      refine J.iconst C dL_digest_31 ?_
      refine J.istore_n (lv' := [(3, .int (Int32.ofInt 0)), (0, .ref (base + 0)), (1, .long h)]) C dL_digest_32 rfl (by decide) rfl ?_
      refine J.sub (lv' := [(0, .ref (base + 0)), (1, .long h), (3, .int (Int32.ofInt 0))]) [1, 2, 0] rfl ?_
      exact L33 0 (by omega) (by omega) _ hh
    · intro w hw1 hw2 ihw h hh
      rw [itN_step hw2] at hh
      refine J.iload_n 2 C dL_digest_6 rfl rfl ?_
      refine J.bipush C dL_digest_7 (by decide) ?_
      refine J.icmp_ge (tgt := 31) C dL_digest_9 (by decide) ⟨by omega, by omega⟩ (by decide) (fun h => by exfalso; omega) (fun h16 => ?_)
      refine J.ldc2 C dL_digest_12 kq_L_10 ?_
      refine J.lload_n 1 C dL_digest_15 rfl rfl ?_
      refine J.lmul C dL_digest_16 ?_
      refine J.aload_n 0 C dL_digest_17 rfl rfl ?_
      refine J.iload_n 2 C dL_digest_18 rfl rfl ?_
      refine J.callVI (As := [.inl w]) (rest := [.long (31 * h)]) C dL_digest_19 mk_L_12 sh_0 (lq_count (x := qCount v 0 0 w) hR w ⟨by omega, by omega⟩ (qCount_zt (by omega))) rfl (by decide) rfl (Nat.le_of_ble_eq_true rfl) ?_
      refine J.i2l C dL_digest_22 ?_
      refine J.ladd C dL_digest_23 ?_
      refine J.lstore_n (lv' := [(1, .long ((31 * h) + (L64 (qCount v 0 0 w)))), (0, .ref (base + 0)), (3, .int (Int32.ofInt w))]) C dL_digest_24 rfl (by decide) rfl ?_
      refine J.iinc (y := w + 1) (lv' := [(3, .int (Int32.ofInt (w + 1))), (1, .long ((31 * h) + (L64 (qCount v 0 0 w)))), (0, .ref (base + 0))]) 2 C dL_digest_25 rfl rfl (by decide) rfl ?_
      refine J.goto (tgt := 6) C dL_digest_28 (by decide) ?_
      refine J.sub (lv' := [(0, .ref (base + 0)), (1, .long ((31 * h) + (L64 (qCount v 0 0 w)))), (3, .int (Int32.ofInt (w + 1)))]) [2, 1, 0] rfl ?_
      exact ihw _ hh
  refine J.ldc2 C dL_digest_0 kq_L_8 ?_
  refine J.lstore_n (lv' := [(1, .long 7), (0, .ref (base + 0))]) C dL_digest_3 rfl (by decide) rfl ?_
  refine J.iconst C dL_digest_4 ?_
  refine J.istore_n (lv' := [(3, .int (Int32.ofInt 0)), (1, .long 7), (0, .ref (base + 0))]) C dL_digest_5 rfl (by decide) rfl ?_
  refine J.sub (lv' := [(0, .ref (base + 0)), (1, .long 7), (3, .int (Int32.ofInt 0))]) [2, 1, 0] rfl ?_
  exact L6 0 (by omega) (by omega) _ rfl
set_option maxHeartbeats 4000000 in
set_option maxRecDepth 100000 in
theorem c_digest {M : Mem} {v : Vw} {z : Int} {Hh : Int → Vw} {tl : Int} {T : Int → Int} (hR : RF M (v, z, Hh, tl, T)) : DG mL_digest 3 [.inr (some 0)] M (fun r M' => r = some (.long (dig v)) ∧ M' = M) := by
  intro l base D cI cM cS
  refine va_MetF (cc := cL_digest) (maxL := 6) (ret := some .long) (by decide +kernel) rfl ?_
  intro p e s m args below meth c s₁ B hml hv
  obtain ⟨rfl, hW, hK, hN⟩ := hv
  have hts : ∀ w ∈ fm_TBL, w.before _ s = true := fun w hw => atoms_spec (ws := fm_ws mL_digest) B.pre w (fm_cons hw)
  have C : JX p s m _ meth c base D cI cM cS (rmv 3 0 0) RL cL_digest 6 3 0 0 := ⟨B.exec, B.bytes, hml, findClass_of_methodNamed B.named, hts, B.notSynchronized, hK, hN, by rw [hW.1]; omega, fun d' n' h1 h2 => ⟨by show d' + 1 ≤ 3; omega, by show 8 + (n' + 11) + 32 * d' ≤ 32 * 3; omega⟩, Nat.le_refl 0, Nat.le_refl 0⟩
  have hl := lv_entry ([.ref (base + 0)]) (n := 6) (Nat.le_of_ble_eq_true rfl)
  rw [lg_entry_eq]
  exact dg_walk (l := l) (e := e) (below := below) C B.returns hR s.heap [] _ hW (fun _ _ => rfl) (Nat.le_refl _) (fun q hq => by cases hq) hl
