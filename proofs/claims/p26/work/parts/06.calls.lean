theorem cat_sum (base : Nat) (rest : List AV) : ((rest.map (cv base)).map fun v => v.category).sum = rest.length := by
  induction rest with
  | nil => rfl
  | cons v r ih => simp only [List.map_cons, List.sum_cons, ih, cv_cat, List.length_cons]; omega
theorem PW.blind {av : List Value} {base : Nat} {D : va_G} {cI cM cS : ClassId} {sh : Shp} {M : Mem} : FrameBlind (va_Pc av (PW base D cI cM cS sh M)) := fun a U g mk q => ⟨q.1, q.2.1, va_K.moved (u := U) (U := U.calling g mk a) (Vm.Alike.refl U.vm) q.2.2.1, NK.same (u := U) (U := U.calling g mk a) rfl q.2.2.2⟩
theorem PW.at {base : Nat} {D : va_G} {cI cM cS : ClassId} {sh : Shp} {M : Mem} {s U : State} {H : Heap} (hW : Wh base D cI cM cS sh M H) (hK : va_K D vwCl (tysOf cI cM cS) s) (hN : NK s) (hU : U.heap = H) (hWm : s.WarmedH U.vm) : PW base D cI cM cS sh M U := ⟨by rw [hU]; exact hW, va_K.moved hWm.alike hK, NK.moved hWm hN⟩
/-- a method that is called: its name and code, among the words -/
def MC (ν : Mu) (n : Nat) : Prop := (ν.1.cls ≠ "java/lang/invoke/MethodHandle" ∧ ν.1.cls ≠ "java/lang/invoke/VarHandle" ∧ (parseMethodDescriptor ν.1.desc).map (fun d => d.parameters.length) = some n) ∧ ν.2.2.1 ≤ 12 ∧ Cond.code ν.1 ν.2.1 ν.2.2.1 ν.2.2.2 ∈ fm_TBL ∧ Cond.initialized ν.1.cls ∈ fm_TBL
def KV (own : String) (idx : Nat) (ν : Mu) (n t : Nat) : Prop := Cond.methodLink own idx ν.1 ∈ fm_TBL ∧ Cond.instanceMethod ν.1 ∈ fm_TBL ∧ Cond.selects ν.1.cls ν.1 ν.1 ∈ fm_TBL ∧ (∃ r, vwCl[t]? = some r ∧ r.1 = ν.1.cls) ∧ MC ν n
def KS (own : String) (idx : Nat) (ν : Mu) (n : Nat) : Prop := Cond.methodLink own idx ν.1 ∈ fm_TBL ∧ Cond.static ν.1 ∈ fm_TBL ∧ MC ν n
def KN (own : String) (idx : Nat) (ν : Mu) (n : Nat) : Prop := (∃ host, (own, idx, ν.1, host) ∈ fm_NL) ∧ Cond.static ν.1 ∈ fm_TBL ∧ MC ν n
def KI (own : String) (idx : Nat) (ν : Mu) (n : Nat) : Prop := (∃ host, (own, idx, ν.1, host) ∈ fm_NL) ∧ Cond.instanceMethod ν.1 ∈ fm_TBL ∧ ν.1.name = "<init>" ∧ ν.2.2.2 = none ∧ MC ν n
section CALLS
variable {μ ν : Mu} {d mc ms pc d' mc' ms' : Nat} {lv : List (Option AV)} {st rest As : List AV} {sh : Shp} {M : Mem} {ck sk : Nat} {Q Q' : Option AV → Shp → Mem → Prop}
theorem call_go {p : Program} {l : Launch} {e : Env} {s : State} {m : MethodId} {args aa : Array Value} {below : List Frame} {meth : Method} {cd : Code} {base : Nat} {D : va_G} {cI cM cS : ClassId} {H : Heap} {locs : List Loc} {ls : Array Slot} {st0 : List Value}
    (C : Cx μ p s m args meth cd base D cI cM cS) (hF : ∀ q : Nat, q < base → H[q]? = s.heap[q]?) (hz : s.heap.size ≤ H.size) (hL : ∀ q ∈ locs, base ≤ q.base) (hR : LR base μ.2.2.1 ls lv)
    (hr : va_Run p l e (rmv d mc ms) s m args below meth cd H locs ck sk mc' ms' (F0 m pc ls st0) (rest.map (cv base)) (QC base D cI cM cS Q' aa) (fun q => base ≤ q))
    (k : ∀ r sh' M', Q' r sh' M' → V μ d mc ms (pc + 3) lv (r.toList ++ rest) sh' M' (ck + mc') (sk + ms') Q) :
    W p l e (rmv d mc ms) s m args below meth cd H locs ck sk (MQ below (QC base D cI cM cS Q) args s mc ms (fun q => base ≤ q)) (F0 m pc ls st0) := by
  intro T hT X
  obtain ⟨v, st₀, t, T', L, h0, X', hLL, e1, e2, ⟨⟨r, sh', M', hv, hq, hw⟩, hfr, hsz⟩, st⟩ := hr T hT X
  have hv' : v = r.map (cv base) := by injection hv
  subst hv'
  have k' := k r sh' M' hq p l e s m args below meth cd base D cI cM cS T'.heap (locs ++ L) ls C (by rw [e1]; exact hw) (fun q hq => by rw [e1, hfr q hq, h0]; exact hF q hq) (by rw [e1]; rw [h0] at hsz; exact Nat.le_trans hz hsz) (fun q hq => by
    rcases List.mem_append.mp hq with h | h
    · exact hL q h
    · exact hLL q h) hR
  have k2 : W p l e (rmv d mc ms) s m args below meth cd T'.heap (locs ++ L) (ck + mc') (sk + ms') (MQ below (QC base D cI cM cS Q) args s mc ms (fun q => base ≤ q)) (F0 m (pc + 3) ls ((r.map (cv base)).toList ++ rest.map (cv base))) := by
    cases r <;> exact k'
  obtain ⟨t2, a1, b1⟩ := k2 T' rfl X'
  exact ⟨t2, st t2 a1, b1⟩
theorem rm_ok {d d' mc ms mc' ms' n : Nat} (hd : d' + 1 ≤ d) (hn : n ≤ 12) : (rmv d' mc' ms').frames + 1 ≤ (rmv d mc ms).frames ∧ 8 + (n + 11) + (rmv d' mc' ms').locals ≤ (rmv d mc ms).locals := by
  show d' + 1 ≤ d ∧ 8 + (n + 11) + 32 * d' ≤ 32 * d
  omega
theorem V.callV {idx a t n nf : Nat} {fs : List (Option (Option Nat))} (hd : decode μ.2.1 pc = .ok (.invokevirtual idx, 3)) (hk : KV μ.1.cls idx ν n t) (hs : sh[a]? = some (t + 3, nf, fs)) (hM : CT ν d' mc' ms' (.inr (some a) :: As) sh M Q') (hn : As.length = n) (hdd : d' + 1 ≤ d) (hst : st = As.reverse ++ .inr (some a) :: rest) (hr : rest.length ≤ 8) (hck : ck + mc' ≤ mc) (hsk : sk + ms' ≤ ms)
    (k : ∀ r sh' M', Q' r sh' M' → V μ d mc ms (pc + 3) lv (r.toList ++ rest) sh' M' (ck + mc') (sk + ms') Q) : V μ d mc ms pc lv st sh M ck sk Q := by
  intro p l e s m args below meth cd base D cI cM cS H locs ls C hW hF hz hL hR
  obtain ⟨k1, k2, k3, ⟨rc, hrc, hrcn⟩, hmc, hml, hcode, hini⟩ := hk
  have hts := C.2.2.2.2.2.1
  have hK := C.2.2.2.2.2.2.2.2.1
  obtain ⟨-, rc', hrc', -, cell, g1, g2, g3, -⟩ := (hW.2 a _ hs).obj
  have hrr : rc' = rc := Option.some.inj (hrc'.symm.trans hrc)
  subst hrr
  have hG : GoodIn (fm_ws μ) (wsV μ.1.cls idx ν.1.cls ν.1 (fm_ws ν)) := by
    intro w hw
    unfold wsV at hw
    rcases List.mem_append.mp hw with h | h
    · have : w ∈ fm_TBL := by
        rcases List.mem_cons.mp h with h | h
        · rw [h]; exact k1
        rcases List.mem_cons.mp h with h | h
        · rw [h]; exact k2
        rcases List.mem_cons.mp h with h | h
        · rw [h]; exact k3
        rw [List.mem_singleton.mp h]; exact hini
      exact ⟨fm_cons this, fm_good this⟩
    · exact fm_goodIn hcode w h
  refine call_go C hF hz hL hR (va_runV (As := As.map (cv base)) (b := base + a) ⟨C.1, C.2.1, C.2.2.2.1, C.2.2.2.2.1, hts⟩ (hM l base D cI cM cS) (cwV n hts hG rfl rfl rfl ⟨rfl, hmc⟩ (rm_ok hdd hml)) ⟨PW.blind, ⟨cell, g1, by rw [g3]; rfl, by rw [g2, ← hrcn]; exact (hK.1 t _ hrc).2.1⟩, fun U hU hWm => ⟨rfl, PW.at hW hK C.2.2.2.2.2.2.2.2.2.1 hU hWm⟩⟩ rfl (by rw [List.length_map]; exact hn) hR.1 (by subst hst; simp [cv]) (lv_room (by rw [cat_sum]; exact hr)) hd ⟨hck, hsk⟩) k
theorem V.callS {idx n : Nat} (hd : decode μ.2.1 pc = .ok (.invokestatic idx, 3)) (hk : KS μ.1.cls idx ν n) (hM : CT ν d' mc' ms' As sh M Q') (hn : As.length = n) (hdd : d' + 1 ≤ d) (hst : st = As.reverse ++ rest) (hr : rest.length ≤ 8) (hck : ck + mc' ≤ mc) (hsk : sk + ms' ≤ ms)
    (k : ∀ r sh' M', Q' r sh' M' → V μ d mc ms (pc + 3) lv (r.toList ++ rest) sh' M' (ck + mc') (sk + ms') Q) : V μ d mc ms pc lv st sh M ck sk Q := by
  intro p l e s m args below meth cd base D cI cM cS H locs ls C hW hF hz hL hR
  obtain ⟨k1, k2, hmc, hml, hcode, hini⟩ := hk
  have hts := C.2.2.2.2.2.1
  have hK := C.2.2.2.2.2.2.2.2.1
  have hG : GoodIn (fm_ws μ) (va_wsS μ.1.cls idx ν.1 (fm_ws ν)) := by
    intro w hw
    unfold va_wsS at hw
    rcases List.mem_append.mp hw with h | h
    · have : w ∈ fm_TBL := by
        rcases List.mem_cons.mp h with h | h
        · rw [h]; exact k1
        rcases List.mem_cons.mp h with h | h
        · rw [h]; exact k2
        rw [List.mem_singleton.mp h]; exact hini
      exact ⟨fm_cons this, fm_good this⟩
    · exact fm_goodIn hcode w h
  refine call_go C hF hz hL hR (va_runS (As := As.map (cv base)) ⟨C.1, C.2.1, C.2.2.2.1, C.2.2.2.2.1, hts⟩ (hM l base D cI cM cS) (va_cwS n hts hG rfl rfl rfl hmc (rm_ok hdd hml)) ⟨PW.blind, fun U hU hWm => ⟨rfl, PW.at hW hK C.2.2.2.2.2.2.2.2.2.1 hU hWm⟩⟩ rfl (by rw [List.length_map]; exact hn) hR.1 (by subst hst; simp) (lv_room (by rw [cat_sum]; exact hr)) hd ⟨hck, hsk⟩) k
theorem V.callN {idx n : Nat} (hd : decode μ.2.1 pc = .ok (.invokestatic idx, 3)) (hk : KN μ.1.cls idx ν n) (hM : CT ν d' mc' ms' As sh M Q') (hn : As.length = n) (hdd : d' + 1 ≤ d) (hst : st = As.reverse ++ rest) (hr : rest.length ≤ 8) (hck : ck + mc' ≤ mc) (hsk : sk + ms' ≤ ms)
    (k : ∀ r sh' M', Q' r sh' M' → V μ d mc ms (pc + 3) lv (r.toList ++ rest) sh' M' (ck + mc') (sk + ms') Q) : V μ d mc ms pc lv st sh M ck sk Q := by
  intro p l e s m args below meth cd base D cI cM cS H locs ls C hW hF hz hL hR
  obtain ⟨⟨host, k1⟩, k2, hmc, hml, hcode, hini⟩ := hk
  have hts := C.2.2.2.2.2.1
  have hK := C.2.2.2.2.2.2.2.2.1
  have hN := C.2.2.2.2.2.2.2.2.2.1
  refine call_go C hF hz hL hR (va_runSN (Ts := fm_ws μ) (host := host) (own := μ.1.cls) (As := As.map (cv base)) ⟨C.1, C.2.1, C.2.2.2.1, C.2.2.2.2.1, hts⟩ (hM l base D cI cM cS) ⟨va_cnB n hts (fm_goodIn hcode) rfl rfl rfl (hN.1 _ k1) (hts _ (fm_cons hini)) hmc (rm_ok hdd hml), hts _ (fm_cons k2), trivial⟩ ⟨PW.blind, fun U hU hWm => ⟨rfl, PW.at hW hK hN hU hWm⟩⟩ rfl (by rw [List.length_map]; exact hn) hR.1 (by subst hst; simp) (lv_room (by rw [cat_sum]; exact hr)) hd ⟨hck, hsk⟩) k
theorem V.callI {idx a n : Nat} (hd : decode μ.2.1 pc = .ok (.invokespecial idx, 3)) (hk : KI μ.1.cls idx ν n) (hM : CT ν d' mc' ms' (.inr (some a) :: As) sh M Q') (hn : As.length = n) (hdd : d' + 1 ≤ d) (hst : st = As.reverse ++ .inr (some a) :: rest) (hr : rest.length ≤ 8) (hck : ck + mc' ≤ mc) (hsk : sk + ms' ≤ ms)
    (k : ∀ r sh' M', Q' r sh' M' → V μ d mc ms (pc + 3) lv (r.toList ++ rest) sh' M' (ck + mc') (sk + ms') Q) : V μ d mc ms pc lv st sh M ck sk Q := by
  intro p l e s m args below meth cd base D cI cM cS H locs ls C hW hF hz hL hR
  obtain ⟨⟨host, k1⟩, k2, hname, hret, hmc, hml, hcode, hini⟩ := hk
  have hts := C.2.2.2.2.2.1
  have hK := C.2.2.2.2.2.2.2.2.1
  have hN := C.2.2.2.2.2.2.2.2.2.1
  refine call_go C hF hz hL hR (va_runIN (Ts := fm_ws μ) (host := host) (own := μ.1.cls) (As := As.map (cv base)) (b := base + a) ⟨C.1, C.2.1, C.2.2.2.1, C.2.2.2.2.1, hts⟩ (hM l base D cI cM cS) ⟨va_cnB n hts (fm_goodIn hcode) (by unfold fm_ws; rw [hret]) rfl rfl (hN.1 _ k1) (hts _ (fm_cons hini)) hmc (rm_ok hdd hml), hname, hts _ (fm_cons k2)⟩ ⟨PW.blind, fun U hU hWm => ⟨rfl, PW.at hW hK hN hU hWm⟩⟩ rfl (by rw [List.length_map]; exact hn) hR.1 (by subst hst; simp [cv]) (lv_room (by rw [cat_sum]; exact hr)) hd ⟨hck, hsk⟩) k
theorem V.objInit {idx a : Nat} (hd : decode μ.2.1 pc = .ok (.invokespecial idx, 3)) (hk : Cond.methodLink μ.1.cls idx objectInit ∈ fm_TBL) (hdd : 1 ≤ d) (hr : st.length ≤ 8) (k : V μ d mc ms (pc + 3) lv st sh M ck sk Q) : V μ d mc ms pc lv (.inr (some a) :: st) sh M ck sk Q := by
  intro p l e s m args below meth cd base D cI cM cS H locs ls C hW hF hz hL hR
  have hts := C.2.2.2.2.2.1
  refine W.objInit C.1 C.2.1 C.2.2.2.2.1 (hts _ (fm_cons hk)) (hts _ (fm_cons kw_oi)) (hts _ (fm_cons kw_oc)) rfl (by rw [C.2.2.2.1]; exact hR.1) rfl hd hdd (by show 2 * 0 + ((st.map (cv base)).map fun v => v.category).sum + 12 ≤ 32 * d; rw [cat_sum]; omega) (k p l e s m args below meth cd base D cI cM cS H locs ls C hW hF hz hL hR)
theorem V.acopy {idx a b n : Nat} {fs gs : List (Option (Option Nat))} {len : Int} (hd : decode μ.2.1 pc = .ok (.invokestatic idx, 3)) (hk : Cond.methodLink μ.1.cls idx arraycopyName ∈ fm_TBL) (hini : Cond.initialized "java/lang/System" ∈ fm_TBL) (ha : sh[a]? = some (0, n, fs)) (hb : sh[b]? = some (0, n, gs)) (hln : len = (n : Int)) (hnn : n ≤ 100000) (hdd : 2 ≤ d) (hr : st.length ≤ 8) (k : V μ d mc ms (pc + 3) lv st sh (mrow M b (M a)) ck sk Q) : V μ d mc ms pc lv (.inl len :: .inl 0 :: .inr (some b) :: .inl 0 :: .inr (some a) :: st) sh M ck sk Q := by
  subst hln
  intro p l e s m args below meth cd base D cI cM cS H locs ls C hW hF hz hL hR
  have hts := C.2.2.2.2.2.1
  have hK := C.2.2.2.2.2.2.2.2.1
  have hc0 : H[base + a]? = some (vp_cell cI (n, .inl (fun j : Nat => Int32.ofInt (M a (j : Int))))) := hW.2 a _ ha
  have hc1 : H[base + b]? = some (vp_cell cI (n, .inl (fun j : Nat => Int32.ofInt (M b (j : Int))))) := hW.2 b _ hb
  obtain ⟨-, k0, hk0, cm0, hkk0⟩ := (hK.2 0 _ rfl).1 n (fun j : Nat => Value.int (Int32.ofInt (M a (j : Int))))
  have hcl : (Int32.ofInt (n : Int)).toNatClampNeg = n := by have := fm_clamp (i := (n : Int)) (by omega) (by omega); omega
  have hcl0 : (Int32.ofInt 0).toNatClampNeg = 0 := by decide
  have hn0 : ¬ Int32.ofInt (n : Int) < 0 := fm_nneg (by omega) (by omega)
  have h00 : ¬ Int32.ofInt 0 < 0 := by decide
  have hnw : nativeFrameWords "java/lang/System" "arraycopy" 5 + 11 ≤ 56 := by decide +kernel
  intro T hT X
  obtain ⟨vm', X', step⟩ := X.arraycopy C.1 C.2.2.2.2.1 (hts _ (fm_cons hk)) (hts _ (fm_cons kw_nat)) (hts _ (fm_cons kw_ast)) (hts _ (fm_cons hini)) (src := base + a) (dst := base + b) (cs := vp_cell cI (n, .inl (fun j : Nat => Int32.ofInt (M a (j : Int))))) (cd := vp_cell cI (n, .inl (fun j : Nat => Int32.ofInt (M b (j : Int))))) (srcPos := Int32.ofInt 0) (destPos := Int32.ofInt 0) (n := Int32.ofInt (n : Int)) (by rw [hT]; exact hc0) (by rw [hT]; exact hc1)
    (fun _ h => by cases h) (fun _ h => by cases h) (fun h => by cases h) (fun h => by cases h) hk0 hk0 hkk0 hkk0 (by simp [refKind]) h00 h00 hn0
    (by rw [inR_toInt inR_0, inR_toInt ⟨by omega, by omega⟩]; show ¬ _ > ((arrV cI n (fun j : Nat => Value.int (Int32.ofInt (M a (j : Int))))).slots.size : Int); rw [arrV_size]; omega)
    (by rw [inR_toInt inR_0, inR_toInt ⟨by omega, by omega⟩]; show ¬ _ > ((arrV cI n (fun j : Nat => Value.int (Int32.ofInt (M b (j : Int))))).slots.size : Int); rw [arrV_size]; omega)
    (fun vm₁ _ i hi => by
      rw [hcl] at hi
      have e : (vp_cell cI (n, .inl (fun j : Nat => Int32.ofInt (M a (j : Int))))).slots.getD ((Int32.ofInt 0).toNatClampNeg + i) .null = .int (Int32.ofInt (M a (i : Int))) := by
        show (arrV cI n (fun j : Nat => Value.int (Int32.ofInt (M a (j : Int))))).slots.getD _ _ = _
        rw [hcl0, Nat.zero_add, Array.getD_eq_getD_getElem?, arrV_read _ _ hi]
        rfl
      refine ⟨?_, ?_⟩
      · rw [e]; rfl
      · rw [e]; exact trivial)
    (g := F0 m pc ls ((.inl (n : Int) :: .inl 0 :: .inr (some b) :: .inl 0 :: .inr (some a) :: st : List AV).map (cv base))) rfl (by rw [C.2.2.2.1]; exact hR.1) (rest := st.map (cv base)) rfl (by rw [C.2.1]; exact hd) (show 1 ≤ d by omega) (by show 2 * 0 + ((st.map (cv base)).map fun v => v.category).sum + _ ≤ 32 * d; rw [cat_sum]; omega)
  have e1 : copied (vp_cell cI (n, .inl (fun j : Nat => Int32.ofInt (M a (j : Int))))) (vp_cell cI (n, .inl (fun j : Nat => Int32.ofInt (M b (j : Int))))) (Int32.ofInt 0) (Int32.ofInt 0) (Int32.ofInt (n : Int)) = vp_cell cI (n, .inl (fun j : Nat => Int32.ofInt (mrow M b (M a) b (j : Int)))) := by
    refine (va_copied (fun z => .int z) cI cI (fun j : Nat => Int32.ofInt (M a (j : Int))) (fun j : Nat => Int32.ofInt (M b (j : Int))) (show (Int32.ofInt 0).toNatClampNeg + (Int32.ofInt (n : Int)).toNatClampNeg ≤ n by rw [hcl, hcl0]; omega)).trans ?_
    rw [hcl, hcl0]
    show arrV cI n (fun j => Value.int (va_cpy (fun j : Nat => Int32.ofInt (M a (j : Int))) (fun j : Nat => Int32.ofInt (M b (j : Int))) 0 0 n j)) = arrV cI n (fun j : Nat => Value.int (Int32.ofInt (mrow M b (M a) b (j : Int))))
    unfold arrV
    congr 1
    apply Array.ext_getElem?
    intro i
    by_cases hi : i < n
    · rw [Array.getElem?_ofFn, Array.getElem?_ofFn, dif_pos hi, dif_pos hi]
      simp [va_cpy, hi, mrow]
    · rw [Array.getElem?_ofFn, Array.getElem?_ofFn, dif_neg hi, dif_neg hi]
  rw [e1] at X' step
  have hl : base + b < H.size := hW.lt hb
  have hheap : ((T.setVm vm').setCell (base + b) (vp_cell cI (n, .inl (fun j : Nat => Int32.ofInt (mrow M b (M a) b (j : Int)))))).heap = H.setIfInBounds (base + b) (vp_cell cI (n, .inl (fun j : Nat => Int32.ofInt (mrow M b (M a) b (j : Int))))) := by rw [← hT]; rfl
  have oq : ∀ q : Nat, q ≠ base + b → (H.setIfInBounds (base + b) (vp_cell cI (n, .inl (fun j : Nat => Int32.ofInt (mrow M b (M a) b (j : Int))))))[q]? = H[q]? := fun q hq => by simp [Array.getElem?_setIfInBounds, Ne.symm hq]
  have hW' : Wh base D cI cM cS sh (mrow M b (M a)) (H.setIfInBounds (base + b) (vp_cell cI (n, .inl (fun j : Nat => Int32.ofInt (mrow M b (M a) b (j : Int)))))) := hW.put1 hb (fun x hx => mrow_row hx) (show (H.setIfInBounds (base + b) _)[base + b]? = some _ by simp [Array.getElem?_setIfInBounds, hl]) (by simp) oq
  obtain ⟨t, a1, b1⟩ := k p l e s m args below meth cd base D cI cM cS _ _ ls C hW' (fun q hq => by rw [oq q (Nat.ne_of_lt (Nat.lt_of_lt_of_le hq (Nat.le_add_right base b)))]; exact hF q hq) (by simpa using hz) (fun q hq => by
      rcases List.mem_append.mp hq with h | h
      · exact hL q h
      · obtain ⟨z, -, hz⟩ := List.mem_map.mp h
        rw [← hz]
        exact Nat.le_add_right base b) hR _ hheap X'
  exact ⟨t, step t a1, b1⟩
theorem V.mabs {idx : Nat} {z : Int} (hd : decode μ.2.1 pc = .ok (.invokestatic idx, 3)) (hk : Cond.methodLink μ.1.cls idx Lib.Math.abs.name ∈ fm_TBL) (hz0 : inR z) (hdd : 1 ≤ d) (hr : st.length ≤ 8) (hck : ck ≤ mc) (hsk : sk ≤ ms) (k : V μ d mc ms (pc + 3) lv (.inl (if 0 ≤ z then z else -z) :: st) sh M ck sk Q) : V μ d mc ms pc lv (.inl z :: st) sh M ck sk Q := by
  intro p l e s m args below meth cd base D cI cM cS H locs ls C hW hF hz hL hR
  have hts := C.2.2.2.2.2.1
  refine va_mabs C.1 C.2.1 (C.2.2.2.1.trans hR.1.symm) C.2.2.2.2.1 (hts _ (fm_cons hk)) (hts _ (fm_cons ks_J9_abs_0f7a4)) (hts _ (fm_cons ki_J9)) (hts _ (fm_cons kc_J9_abs_0f7a4)) hdd (by rw [cat_sum]; show _ ≤ 32 * d; omega) hck hsk hd ?_
  have e1 : (if (0 : Int32) ≤ Int32.ofInt z then Int32.ofInt z else 0 - Int32.ofInt z) = Int32.ofInt (if 0 ≤ z then z else -z) := by
    rw [← of0]
    by_cases h : 0 ≤ z
    · rw [if_pos h, if_pos ((inR_le inR_0 hz0).mpr h)]
    · rw [if_neg h, if_neg (fun q => h ((inR_le inR_0 hz0).mp q)), ← Int32.ofInt_sub]; congr 1; omega
  rw [e1]
  exact k p l e s m args below meth cd base D cI cM cS H locs ls C hW hF hz hL hR
theorem V.mmax {idx : Nat} {a b : Int} (hd : decode μ.2.1 pc = .ok (.invokestatic idx, 3)) (hk : Cond.methodLink μ.1.cls idx Lib.Math.max.name ∈ fm_TBL) (ha : inR a) (hb : inR b) (hdd : 1 ≤ d) (hr : st.length ≤ 8) (hck : ck ≤ mc) (hsk : sk ≤ ms) (k : V μ d mc ms (pc + 3) lv (.inl (if a < b then b else a) :: st) sh M ck sk Q) : V μ d mc ms pc lv (.inl b :: .inl a :: st) sh M ck sk Q := by
  intro p l e s m args below meth cd base D cI cM cS H locs ls C hW hF hz hL hR
  have hts := C.2.2.2.2.2.1
  refine va_mmax C.1 C.2.1 (C.2.2.2.1.trans hR.1.symm) C.2.2.2.2.1 (hts _ (fm_cons hk)) (hts _ (fm_cons ks_J9_max_7cf53)) (hts _ (fm_cons ki_J9)) (hts _ (fm_cons kc_J9_max_7cf53)) hdd (by rw [cat_sum]; show _ ≤ 32 * d; omega) hck hsk hd ?_
  have e1 : (if Int32.ofInt a < Int32.ofInt b then Int32.ofInt b else Int32.ofInt a) = Int32.ofInt (if a < b then b else a) := by
    by_cases h : a < b
    · rw [if_pos h, if_pos ((inR_lt ha hb).mpr h)]
    · rw [if_neg h, if_neg (fun q => h ((inR_lt ha hb).mp q))]
  rw [e1]
  exact k p l e s m args below meth cd base D cI cM cS H locs ls C hW hF hz hL hR
theorem V.mmin {idx : Nat} {a b : Int} (hd : decode μ.2.1 pc = .ok (.invokestatic idx, 3)) (hk : Cond.methodLink μ.1.cls idx Lib.Math.min.name ∈ fm_TBL) (ha : inR a) (hb : inR b) (hdd : 1 ≤ d) (hr : st.length ≤ 8) (hck : ck ≤ mc) (hsk : sk ≤ ms) (k : V μ d mc ms (pc + 3) lv (.inl (if b < a then b else a) :: st) sh M ck sk Q) : V μ d mc ms pc lv (.inl b :: .inl a :: st) sh M ck sk Q := by
  intro p l e s m args below meth cd base D cI cM cS H locs ls C hW hF hz hL hR
  have hts := C.2.2.2.2.2.1
  refine va_mmin C.1 C.2.1 (C.2.2.2.1.trans hR.1.symm) C.2.2.2.2.1 (hts _ (fm_cons hk)) (hts _ (fm_cons ks_J9_min_7cf53)) (hts _ (fm_cons ki_J9)) (hts _ (fm_cons kc_J9_min_7cf53)) hdd (by rw [cat_sum]; show _ ≤ 32 * d; omega) hck hsk hd ?_
  have e1 : (if Int32.ofInt b < Int32.ofInt a then Int32.ofInt b else Int32.ofInt a) = Int32.ofInt (if b < a then b else a) := by
    by_cases h : b < a
    · rw [if_pos h, if_pos ((inR_lt hb ha).mpr h)]
    · rw [if_neg h, if_neg (fun q => h ((inR_lt hb ha).mp q))]
  rw [e1]
  exact k p l e s m args below meth cd base D cI cM cS H locs ls C hW hF hz hL hR
end CALLS
