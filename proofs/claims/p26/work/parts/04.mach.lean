/-! ===== THE ABSTRACT MACHINE'S VALUES, SHAPES AND MEMORY ===== -/
abbrev AV : Type := Int ⊕ Option Nat
abbrev Mem : Type := Nat → Int → Int
abbrev Sh1 : Type := Nat × Nat × List (Option (Option Nat))
abbrev Shp : Type := List Sh1
def cv (base : Nat) (v : AV) : Value := match v with
  | .inl z => .int (Int32.ofInt z)
  | .inr none => .null
  | .inr (some a) => .ref (base + a)
def rr (base : Nat) (fs : List (Option (Option Nat))) (k : Nat) : Option Nat := match fs[k]? with
  | some (some (some a)) => some (base + a)
  | _ => none
def fv (base : Nat) (row : Int → Int) (fs : List (Option (Option Nat))) (k : Nat) : Value := match fs[k]? with
  | some (some (some a)) => .ref (base + a)
  | some (some none) => .null
  | _ => .int (Int32.ofInt (row (k : Int)))
def Cl (base : Nat) (D : va_G) (cI cM cS : ClassId) (a : Nat) (c : Sh1) (row : Int → Int) (H : Heap) : Prop := match c.1 with
  | 0 => H[base + a]? = some (vp_cell cI (c.2.1, .inl (fun j : Nat => Int32.ofInt (row (j : Int)))))
  | 1 => H[base + a]? = some (vp_cell cM (c.2.1, .inr (.inr (.inr (.inr (rr base c.2.2))))))
  | 2 => H[base + a]? = some (vp_cell cS (c.2.1, .inr (.inr (.inr (.inr (rr base c.2.2))))))
  | t + 3 => c.2.2.length = c.2.1 ∧ ∃ r : vw_C, vwCl[t]? = some r ∧ r.2.2 = c.2.1 ∧ t_OB (base + a) (D.1 t) r.2.2 (D.2 t) H (fv base row c.2.2)
def Wh (base : Nat) (D : va_G) (cI cM cS : ClassId) (sh : Shp) (M : Mem) (H : Heap) : Prop := H.size = base + sh.length ∧ ∀ (k : Nat) (c : Sh1), sh[k]? = some c → Cl base D cI cM cS k c (M k) H
abbrev tysOf (cI cM cS : ClassId) : List (ClassId × FieldType) := [(cI, .int), (cM, .object RX1), (cS, .object RX3)]
def NK (U : State) : Prop := (∀ q ∈ fm_NL, va_Nw (.methodLinkNest q.1 q.2.1 q.2.2.1 q.2.2.2) U) ∧ va_AO RX1 U ∧ va_AO RX3 U
theorem NK.moved {s U : State} (hW : s.WarmedH U.vm) (h : NK s) : NK U := ⟨fun q hq => va_Nw.warmM hW (h.1 q hq), h.2.1.moved hW.alike, h.2.2.moved hW.alike⟩
theorem NK.same {u U : State} (e : u.vm = U.vm) (h : NK u) : NK U := ⟨fun q hq => va_Nw.same rfl e (h.1 q hq), h.2.1.moved (e ▸ Vm.Alike.refl u.vm), h.2.2.moved (e ▸ Vm.Alike.refl u.vm)⟩
theorem Cl.kept {base : Nat} {D : va_G} {cI cM cS : ClassId} {a : Nat} {c : Sh1} {row : Int → Int} {H H1 : Heap} (h : Cl base D cI cM cS a c row H) (e : H1[base + a]? = H[base + a]?) : Cl base D cI cM cS a c row H1 := by
  obtain ⟨t, n, fs⟩ := c
  match t, h with
  | 0, h => exact e.trans h
  | 1, h => exact e.trans h
  | 2, h => exact e.trans h
  | t + 3, h => obtain ⟨hl, r, h1, h2, h3⟩ := h; exact ⟨hl, r, h1, h2, h3.kept e⟩
theorem Wh.lt {base : Nat} {D : va_G} {cI cM cS : ClassId} {sh : Shp} {M : Mem} {H : Heap} (h : Wh base D cI cM cS sh M H) {a : Nat} {c : Sh1} (hs : sh[a]? = some c) : base + a < H.size := by
  have := (List.getElem?_eq_some_iff.mp hs).1
  rw [h.1]; omega
theorem Wh.put {base : Nat} {D : va_G} {cI cM cS : ClassId} {sh : Shp} {M M' : Mem} {H H1 : Heap} (h : Wh base D cI cM cS sh M H) {a : Nat} {c c' : Sh1} (hs : sh[a]? = some c) (hM : ∀ b, b ≠ a → M' b = M b) (hc : Cl base D cI cM cS a c' (M' a) H1) (z : H1.size = H.size) (oq : ∀ q, q ≠ base + a → H1[q]? = H[q]?) : Wh base D cI cM cS (sh.set a c') M' H1 := by
  have hl := (List.getElem?_eq_some_iff.mp hs).1
  refine ⟨by rw [z, h.1, List.length_set], fun k x hk => ?_⟩
  by_cases e : k = a
  · subst e
    rw [List.getElem?_set_self hl] at hk
    cases hk
    exact hc
  · rw [List.getElem?_set_ne (Ne.symm e)] at hk
    rw [hM k e]
    exact (h.2 k x hk).kept (oq _ (by omega))
theorem shp_set {sh : Shp} {a : Nat} {c : Sh1} (hs : sh[a]? = some c) : sh.set a c = sh := by
  apply List.ext_getElem?
  intro k
  by_cases e : k = a
  · subst e
    rw [List.getElem?_set_self (List.getElem?_eq_some_iff.mp hs).1, hs]
  · rw [List.getElem?_set_ne (Ne.symm e)]
theorem Wh.put1 {base : Nat} {D : va_G} {cI cM cS : ClassId} {sh : Shp} {M M' : Mem} {H H1 : Heap} (h : Wh base D cI cM cS sh M H) {a : Nat} {c : Sh1} (hs : sh[a]? = some c) (hM : ∀ b, b ≠ a → M' b = M b) (hc : Cl base D cI cM cS a c (M' a) H1) (z : H1.size = H.size) (oq : ∀ q, q ≠ base + a → H1[q]? = H[q]?) : Wh base D cI cM cS sh M' H1 := by
  have := h.put hs hM hc z oq
  rwa [shp_set hs] at this
theorem Wh.push {base : Nat} {D : va_G} {cI cM cS : ClassId} {sh : Shp} {M : Mem} {H H1 : Heap} (h : Wh base D cI cM cS sh M H) {c : Sh1} (hc : Cl base D cI cM cS sh.length c (M sh.length) H1) (z : H1.size = H.size + 1) (oq : ∀ q, q < H.size → H1[q]? = H[q]?) : Wh base D cI cM cS (sh ++ [c]) M H1 := by
  refine ⟨by rw [z, h.1, List.length_append]; simp; omega, fun k x hk => ?_⟩
  by_cases hl : k < sh.length
  · rw [List.getElem?_append_left hl] at hk
    exact (h.2 k x hk).kept (oq _ (h.lt hk))
  · rw [List.getElem?_append_right (by omega)] at hk
    have hz : k - sh.length < 1 := (List.getElem?_eq_some_iff.mp hk).1
    have e : k = sh.length := by omega
    subst e
    rw [Nat.sub_self] at hk
    cases hk
    exact hc
/-! ===== THE JUDGEMENT ===== -/
def rmv (d mc ms : Nat) : Room := { frames := d, cells := mc, slots := ms, locals := 32 * d }
def prs (base : Nat) (lv : List (Option AV)) : List (Nat × Value) := (List.range lv.length).filterMap fun i => (lv.getD i none).map fun v => (i, cv base v)
def LR (base n : Nat) (ls : Array Slot) (lv : List (Option AV)) : Prop := ls.size = n ∧ lv_wf ls ∧ lv.length = n ∧ ∀ (i : Nat) (v : AV), lv[i]? = some (some v) → ls[i]? = some (.val (cv base v))
theorem cv_cat (base : Nat) (v : AV) : (cv base v).category = 1 := by
  rcases v with z | (_ | a) <;> rfl
theorem prs_mem {base : Nat} {lv : List (Option AV)} {q : Nat × Value} : q ∈ prs base lv ↔ ∃ v, lv[q.1]? = some (some v) ∧ q.2 = cv base v := by
  unfold prs
  rw [List.mem_filterMap]
  constructor
  · rintro ⟨i, hi, h⟩
    cases hv : lv[i]? with
    | none => rw [List.getD_eq_getElem?_getD, hv] at h; cases h
    | some o =>
      cases o with
      | none => rw [List.getD_eq_getElem?_getD, hv] at h; cases h
      | some v => rw [List.getD_eq_getElem?_getD, hv] at h; cases h; exact ⟨v, hv, rfl⟩
  · rintro ⟨v, hv, e⟩
    refine ⟨q.1, List.mem_range.mpr (List.getElem?_eq_some_iff.mp hv).1, ?_⟩
    rw [List.getD_eq_getElem?_getD, hv]
    show some (q.1, cv base v) = some q
    rw [← e]
theorem LR.has {base n : Nat} {ls : Array Slot} {lv : List (Option AV)} (h : LR base n ls lv) : lv_has ls n (prs base lv) := ⟨h.1, h.2.1, fun q hq => by
  obtain ⟨v, h1, h2⟩ := prs_mem.mp hq
  rw [h2]; exact h.2.2.2 _ _ h1⟩
theorem LR.at {base n : Nat} {ls : Array Slot} {lv : List (Option AV)} (h : LR base n ls lv) {i : Nat} {v : AV} (hv : lv[i]? = some (some v)) : ls[i]? = some (.val (cv base v)) := h.2.2.2 i v hv
theorem LR.set {base n : Nat} {ls ls' : Array Slot} {lv : List (Option AV)} (h : LR base n ls lv) {i : Nat} {v : AV} (h' : lv_has ls' n ((i, cv base v) :: (prs base lv).filter (fun q => !(q.1 == i) && !(q.1 + 1 == i && q.2.category == 2)))) : LR base n ls' (lv.set i (some v)) := by
  refine ⟨h'.1, h'.2.1, by rw [List.length_set]; exact h.2.2.1, fun j w hj => ?_⟩
  by_cases e : j = i
  · subst e
    have hl : j < lv.length := by
      have := (List.getElem?_eq_some_iff.mp hj).1
      rwa [List.length_set] at this
    rw [List.getElem?_set_self hl] at hj
    cases hj
    exact h'.2.2 (j, cv base v) List.mem_cons_self
  · rw [List.getElem?_set_ne (Ne.symm e)] at hj
    refine h'.2.2 (j, cv base w) (List.mem_cons_of_mem _ (List.mem_filter.mpr ⟨prs_mem.mpr ⟨w, hj, rfl⟩, ?_⟩))
    simp [e, cv_cat]
theorem lv_args_get (vs : List Value) (hc : ∀ v ∈ vs, v.category = 1) : ∀ (k i : Nat) (v : Value), vs[i]? = some v → (k + i, v) ∈ lv_args k vs := by
  induction vs with
  | nil => intro k i v h; simp at h
  | cons a vs ih =>
    intro k i v h
    have ha := hc a List.mem_cons_self
    cases i with
    | zero =>
      rw [List.getElem?_cons_zero] at h
      cases h
      simp [lv_args]
    | succ i =>
      rw [List.getElem?_cons_succ] at h
      have := ih (fun v hv => hc v (List.mem_cons_of_mem _ hv)) (k + 1) i v h
      rw [show k + (i + 1) = k + 1 + i by omega]
      simp only [lv_args, ha]
      exact List.mem_cons_of_mem _ (by simpa using this)
theorem lg_sl_len (vs : List Value) (hc : ∀ v ∈ vs, v.category = 1) : (lg_sl vs).length = vs.length := by
  induction vs with
  | nil => rfl
  | cons a vs ih =>
    have ha := hc a List.mem_cons_self
    have := ih (fun v hv => hc v (List.mem_cons_of_mem _ hv))
    simp only [lg_sl, List.flatMap_cons, ha] at this ⊢
    simp at this ⊢
    omega
def ent0 (n : Nat) (vs : List AV) : List (Option AV) := vs.map some ++ List.replicate (n - vs.length) none
theorem LR.entry {base n : Nat} {vs : List AV} (hn : vs.length ≤ n) : LR base n ((lg_sl (vs.map (cv base)) ++ List.replicate (n - (lg_sl (vs.map (cv base))).length) Slot.unset).toArray) (ent0 n vs) := by
  have hc : ∀ v ∈ vs.map (cv base), v.category = 1 := fun v hv => by
    obtain ⟨w, -, rfl⟩ := List.mem_map.mp hv
    exact cv_cat base w
  have hlen := lg_sl_len _ hc
  rw [List.length_map] at hlen
  have h := lv_entry (vs.map (cv base)) (n := n) (by rw [hlen]; exact hn)
  refine ⟨h.1, h.2.1, by simp [ent0]; omega, fun i v hv => ?_⟩
  refine h.2.2 (i, cv base v) ?_
  have h1 : vs[i]? = some v := by
    unfold ent0 at hv
    by_cases hi : i < vs.length
    · rw [List.getElem?_append_left (by simpa using hi), List.getElem?_map] at hv
      cases hw : vs[i]? with
      | none => rw [hw] at hv; cases hv
      | some w => rw [hw] at hv; cases hv; rfl
    · rw [List.getElem?_append_right (by simpa using hi)] at hv
      have := List.eq_of_mem_replicate (List.mem_of_getElem? hv)
      cases this
  have := lv_args_get _ hc 0 i (cv base v) (by rw [List.getElem?_map, h1]; rfl)
  simpa using this
def Cx (μ : Mu) (p : Program) (s : State) (m : MethodId) (args : Array Value) (meth : Method) (cd : Code) (base : Nat) (D : va_G) (cI cM cS : ClassId) : Prop :=
  p.tables.exec = Jvm.exec ∧ cd.code = μ.2.1 ∧ meth.sig.returnType = μ.2.2.2 ∧ cd.maxLocals = μ.2.2.1 ∧ s.vm.findClass μ.1.cls = some m.cls ∧ (∀ w ∈ fm_ws μ, w.before args s = true) ∧ meth.locks = false ∧ meth.name = μ.1.name ∧ va_K D vwCl (tysOf cI cM cS) s ∧ NK s ∧ base ≤ s.heap.size
def QC (base : Nat) (D : va_G) (cI cM cS : ClassId) (Q : Option AV → Shp → Mem → Prop) : Array Value → State → Outcome → State → Prop := fun _ st oc t => (∃ (r : Option AV) (sh' : Shp) (M' : Mem), oc = .returned (r.map (cv base)) ∧ Q r sh' M' ∧ Wh base D cI cM cS sh' M' t.heap) ∧ (∀ q : Nat, q < base → t.heap[q]? = st.heap[q]?) ∧ st.heap.size ≤ t.heap.size
def V (μ : Mu) (d mc ms pc : Nat) (lv : List (Option AV)) (st : List AV) (sh : Shp) (M : Mem) (ck sk : Nat) (Q : Option AV → Shp → Mem → Prop) : Prop :=
  ∀ (p : Program) (l : Launch) (e : Env) (s : State) (m : MethodId) (args : Array Value) (below : List Frame) (meth : Method) (cd : Code) (base : Nat) (D : va_G) (cI cM cS : ClassId) (H : Heap) (locs : List Loc) (ls : Array Slot),
    Cx μ p s m args meth cd base D cI cM cS → Wh base D cI cM cS sh M H → (∀ q : Nat, q < base → H[q]? = s.heap[q]?) → s.heap.size ≤ H.size → (∀ q ∈ locs, base ≤ q.base) → LR base μ.2.2.1 ls lv →
    W p l e (rmv d mc ms) s m args below meth cd H locs ck sk (MQ below (QC base D cI cM cS Q) args s mc ms (fun q => base ≤ q)) (F0 m pc ls (st.map (cv base)))
def PW (base : Nat) (D : va_G) (cI cM cS : ClassId) (sh : Shp) (M : Mem) : State → Prop := fun U => Wh base D cI cM cS sh M U.heap ∧ va_K D vwCl (tysOf cI cM cS) U ∧ NK U
def CT (μ : Mu) (d mc ms : Nat) (vs : List AV) (sh : Shp) (M : Mem) (Q : Option AV → Shp → Mem → Prop) : Prop :=
  ∀ (l : Launch) (base : Nat) (D : va_G) (cI cM cS : ClassId), Met l μ.1 (fm_ws μ) (rmv d mc ms) (va_Pc (vs.map (cv base)) (PW base D cI cM cS sh M)) (QC base D cI cM cS Q) mc ms (fun q => base ≤ q)
theorem CT.of {μ : Mu} {d mc ms : Nat} {vs : List AV} {sh : Shp} {M : Mem} {Q : Option AV → Shp → Mem → Prop} (hy : plainFor μ.1 = true) (hn : vs.length ≤ μ.2.2.1) (lv : List (Option AV)) (hlv : ent0 μ.2.2.1 vs = lv) (h : V μ d mc ms 0 lv [] sh M 0 0 Q) : CT μ d mc ms vs sh M Q := by
  subst hlv
  intro l base D cI cM cS
  refine va_MetF (cc := μ.2.1) (maxL := μ.2.2.1) (ret := μ.2.2.2) hy rfl ?_
  intro p e s m args below meth c s₁ B hml hv
  obtain ⟨rfl, hW, hK, hN⟩ := hv
  rw [lg_entry_eq]
  exact h p l e s m _ below meth c base D cI cM cS s.heap [] _ ⟨B.exec, B.bytes, B.returns, hml, findClass_of_methodNamed B.named, atoms_spec (ws := fm_ws μ) B.pre, B.notSynchronized, (name_of_methodNamed B.named B.method).1, hK, hN, by rw [hW.1]; omega⟩ hW (fun _ _ => rfl) (Nat.le_refl _) (fun q hq => by cases hq) (LR.entry hn)
theorem CT.mono {μ : Mu} {d mc ms : Nat} {vs : List AV} {sh : Shp} {M : Mem} {Q Q' : Option AV → Shp → Mem → Prop} (h : CT μ d mc ms vs sh M Q) (hq : ∀ r sh' M', Q r sh' M' → Q' r sh' M') : CT μ d mc ms vs sh M Q' := by
  intro l base D cI cM cS
  have h1 := h l base D cI cM cS
  have e : ∀ a st o t, QC base D cI cM cS Q a st o t → QC base D cI cM cS Q' a st o t := by
    rintro a st o t ⟨⟨r, sh', M', a1, a2, a3⟩, b, c⟩
    exact ⟨⟨r, sh', M', a1, hq _ _ _ a2, a3⟩, b, c⟩
  intro p e' ha hc hk s m args below hf hr hp htr
  obtain ⟨k, o, g1, g2, g3, g4, g5⟩ := h1 p e' ha hc hk s m args below hf hr hp htr
  exact ⟨k, o, g1, g2, g3, e _ _ _ _ g4, g5⟩
