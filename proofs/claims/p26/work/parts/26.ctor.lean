/-! ===== THE CONSTRUCTORS ===== -/
/-- a constructor that is linked as a method -/
def KC (own : String) (idx : Nat) (ν : Mu) (n : Nat) : Prop := Cond.methodLink own idx ν.1 ∈ fm_TBL ∧ Cond.instanceMethod ν.1 ∈ fm_TBL ∧ ν.1.name = "<init>" ∧ ν.2.2.2 = none ∧ MC ν n
section CALLC
variable {μ ν : Mu} {d mc ms pc d' mc' ms' : Nat} {lv : List (Option AV)} {st rest As : List AV} {sh : Shp} {M : Mem} {ck sk : Nat} {Q Q' : Option AV → Shp → Mem → Prop}
theorem V.callC {idx a n : Nat} (hd : decode μ.2.1 pc = .ok (.invokespecial idx, 3)) (hk : KC μ.1.cls idx ν n) (hM : CT ν d' mc' ms' (.inr (some a) :: As) sh M Q') (hn : As.length = n) (hdd : d' + 1 ≤ d) (hst : st = As.reverse ++ .inr (some a) :: rest) (hr : rest.length ≤ 8) (hck : ck + mc' ≤ mc) (hsk : sk + ms' ≤ ms)
    (k : ∀ r sh' M', Q' r sh' M' → V μ d mc ms (pc + 3) lv (r.toList ++ rest) sh' M' (ck + mc') (sk + ms') Q) : V μ d mc ms pc lv st sh M ck sk Q := by
  intro p l e s m args below meth cd base D cI cM cS H locs ls C hW hF hz hL hR
  obtain ⟨k1, k2, hname, hret, hmc, hml, hcode, hini⟩ := hk
  have hts := C.2.2.2.2.2.1
  have hK := C.2.2.2.2.2.2.2.2.1
  have hN := C.2.2.2.2.2.2.2.2.2.1
  refine call_go C hF hz hL hR (va_runI (As := As.map (cv base)) (b := base + a) ⟨C.1, C.2.1, C.2.2.2.1, C.2.2.2.2.1, hts⟩ (hM l base D cI cM cS) (cwI n hts (fm_goodIn hcode) (by unfold fm_ws; rw [hret]) rfl rfl (hts _ (fm_cons hini)) (hts _ (fm_cons k1)) (hts _ (fm_cons k2)) hname hmc (rm_ok hdd hml)) ⟨PW.blind, fun U hU hWm => ⟨rfl, PW.at hW hK hN hU hWm⟩⟩ rfl (by rw [List.length_map]; exact hn) hR.1 (by subst hst; simp [cv]) (lv_room (by rw [cat_sum]; exact hr)) hd ⟨hck, hsk⟩) k
end CALLC
section GROW
variable {l0 l l2 : Shp} {a k n b : Nat} {c : Sh1} {M : Mem}
theorem gat (ha : l0.length = a) (h : l[k]? = some c) : (l0 ++ l)[a + k]? = some c := by
  subst ha
  rw [List.getElem?_append_right (Nat.le_add_right _ _), Nat.add_sub_cancel_left]
  exact h
theorem gat0 (ha : l0.length = a) (h : l[0]? = some c) : (l0 ++ l)[a]? = some c := gat (k := 0) ha h
theorem gset (ha : l0.length = a) (h : l.set k c = l2) : (l0 ++ l).set (a + k) c = l0 ++ l2 := by
  subst ha; subst h
  rw [List.set_append_right _ _ (Nat.le_add_right _ _), Nat.add_sub_cancel_left]
theorem gset0 (ha : l0.length = a) (h : l.set 0 c = l2) : (l0 ++ l).set a c = l0 ++ l2 := gset (k := 0) ha h
theorem glen (ha : l0.length = a) (h : l.length = n) : (l0 ++ l).length = a + n := by
  rw [List.length_append, ha, h]
theorem gpush (h : l ++ [c] = l2) : (l0 ++ l) ++ [c] = l0 ++ l2 := by
  subst h
  rw [List.append_assoc]
theorem gjoin {l1 : Shp} (h : l ++ l1 = l2) : (l0 ++ l) ++ l1 = l0 ++ l2 := by
  subst h
  rw [List.append_assoc]
theorem mset_id {i x : Int} (h : M a i = x) : mset M a i x = M := by
  funext q j
  unfold mset
  split
  · rename_i e
    rw [e.1, e.2, h]
  · rfl
def Zr (M : Mem) (a : Nat) : Prop := ∀ k, a ≤ k → ∀ i, M k i = 0
theorem Zr.mono {b : Nat} (h : Zr M a) (hb : a ≤ b) : Zr M b := fun k hk i => h k (Nat.le_trans hb hk) i
theorem Zr.set {b : Nat} {i x : Int} {q : Nat} (h : Zr M a) (hb : a ≤ b) (hq : q < b) : Zr (mset M q i x) b := fun k hk j => by
  rw [mset_row (Nat.ne_of_gt (Nat.lt_of_lt_of_le hq hk))]
  exact h k (Nat.le_trans hb hk) j
theorem Zr.len (n : Nat) (h : Zr M b) (ha : l0.length = a) (hl : l.length = n) (hb : b ≤ a + n) : ∀ i, M (l0 ++ l).length i = 0 := fun i => by
  rw [glen ha hl]
  exact h _ hb i
end GROW
theorem bl_X0 : ∀ j, j < ([some none, none, none] : List (Option (Option Nat))).length → (([some none, none, none] : List (Option (Option Nat)))[j]? = some none ∧ defaultValue (tyX0 j) = .int 0) ∨ (([some none, none, none] : List (Option (Option Nat)))[j]? = some (some none) ∧ defaultValue (tyX0 j) = .null) := by
  intro j hj
  have hj : j < 3 := hj
  rcases (show j = 0 ∨ j = 1 ∨ j = 2 by omega) with rfl | rfl | rfl <;> first | exact Or.inl ⟨rfl, rfl⟩ | exact Or.inr ⟨rfl, rfl⟩
theorem bl_X1 : ∀ j, j < ([some none, some none, some none, some none] : List (Option (Option Nat))).length → (([some none, some none, some none, some none] : List (Option (Option Nat)))[j]? = some none ∧ defaultValue (tyX1 j) = .int 0) ∨ (([some none, some none, some none, some none] : List (Option (Option Nat)))[j]? = some (some none) ∧ defaultValue (tyX1 j) = .null) := by
  intro j hj
  have hj : j < 4 := hj
  rcases (show j = 0 ∨ j = 1 ∨ j = 2 ∨ j = 3 by omega) with rfl | rfl | rfl | rfl <;> first | exact Or.inl ⟨rfl, rfl⟩ | exact Or.inr ⟨rfl, rfl⟩
theorem bl_X2 : ∀ j, j < ([some none, some none] : List (Option (Option Nat))).length → (([some none, some none] : List (Option (Option Nat)))[j]? = some none ∧ defaultValue (tyX2 j) = .int 0) ∨ (([some none, some none] : List (Option (Option Nat)))[j]? = some (some none) ∧ defaultValue (tyX2 j) = .null) := by
  intro j hj
  have hj : j < 2 := hj
  rcases (show j = 0 ∨ j = 1 by omega) with rfl | rfl <;> first | exact Or.inl ⟨rfl, rfl⟩ | exact Or.inr ⟨rfl, rfl⟩
theorem bl_X3 : ∀ j, j < ([some none, some none, none, some none, some none, some none, none, some none, some none, some none, none, none, some none] : List (Option (Option Nat))).length → (([some none, some none, none, some none, some none, some none, none, some none, some none, some none, none, none, some none] : List (Option (Option Nat)))[j]? = some none ∧ defaultValue (tyX3 j) = .int 0) ∨ (([some none, some none, none, some none, some none, some none, none, some none, some none, some none, none, none, some none] : List (Option (Option Nat)))[j]? = some (some none) ∧ defaultValue (tyX3 j) = .null) := by
  intro j hj
  have hj : j < 13 := hj
  rcases (show j = 0 ∨ j = 1 ∨ j = 2 ∨ j = 3 ∨ j = 4 ∨ j = 5 ∨ j = 6 ∨ j = 7 ∨ j = 8 ∨ j = 9 ∨ j = 10 ∨ j = 11 ∨ j = 12 by omega) with rfl | rfl | rfl | rfl | rfl | rfl | rfl | rfl | rfl | rfl | rfl | rfl | rfl <;> first | exact Or.inl ⟨rfl, rfl⟩ | exact Or.inr ⟨rfl, rfl⟩
theorem bl_X4 : ∀ j, j < ([some none, none, some none] : List (Option (Option Nat))).length → (([some none, none, some none] : List (Option (Option Nat)))[j]? = some none ∧ defaultValue (tyX4 j) = .int 0) ∨ (([some none, none, some none] : List (Option (Option Nat)))[j]? = some (some none) ∧ defaultValue (tyX4 j) = .null) := by
  intro j hj
  have hj : j < 3 := hj
  rcases (show j = 0 ∨ j = 1 ∨ j = 2 by omega) with rfl | rfl | rfl <;> first | exact Or.inl ⟨rfl, rfl⟩ | exact Or.inr ⟨rfl, rfl⟩
theorem bl_X5 : ∀ j, j < ([some none, some none, none] : List (Option (Option Nat))).length → (([some none, some none, none] : List (Option (Option Nat)))[j]? = some none ∧ defaultValue (tyX5 j) = .int 0) ∨ (([some none, some none, none] : List (Option (Option Nat)))[j]? = some (some none) ∧ defaultValue (tyX5 j) = .null) := by
  intro j hj
  have hj : j < 3 := hj
  rcases (show j = 0 ∨ j = 1 ∨ j = 2 by omega) with rfl | rfl | rfl <;> first | exact Or.inl ⟨rfl, rfl⟩ | exact Or.inr ⟨rfl, rfl⟩
theorem mk_X6_25 : KC RX6 25 mX0_init 0 := ⟨kl_X6_25, kv_X0_init, rfl, rfl, mc_X0_init⟩
def sX1 (a : Nat) : Shp := [(4, 4, [some (some (a + 1)), some (some (a + 2)), some (some (a + 3)), some (some (a + 4))]), (0, 120, []), (0, 120, []), (0, 120, []), (0, 120, [])]
set_option maxHeartbeats 4000000 in
set_option maxRecDepth 100000 in
theorem i_X1 (l0 : Shp) (a : Nat) (M : Mem) (ha : l0.length = a) (hz : Zr M a) : CT mX1_init 1 4 480 [.inr (some a)] (l0 ++ [(4, 4, [some none, some none, some none, some none])]) M (fun r9 sh9 M9 => r9 = none ∧ sh9 = l0 ++ sX1 a ∧ M9 = M) := by
  refine CT.of (by decide +kernel) (Nat.le_of_ble_eq_true rfl) [some (.inr (some (a)))] rfl ?_
  refine V.aload_n dX1_init_0 rfl ?_
  refine V.objInit dX1_init_1 kl_X1_3 (by decide) (Nat.le_of_ble_eq_true rfl) ?_
  refine V.aload_n dX1_init_4 rfl ?_
  refine V.bipush dX1_init_5 (by decide) ?_
  refine V.newa (N := 120) (a := a + 1) (sh2 := l0 ++ [(4, 4, [some none, some none, some none, some none]), (0, 120, [])]) dX1_init_7 rfl (by decide) (Zr.len 1 hz ha rfl (by omega)) (by decide) (by decide) (glen ha rfl) (gpush rfl) ?_
  refine V.putRF (k0 := 0) (sh2 := l0 ++ [(4, 4, [some (some (a + 1)), some none, some none, some none]), (0, 120, [])]) dX1_init_9 fi_X1_9 rfl (fun r h => by cases h; rfl) (gat0 ha rfl) (fun _ => ⟨rfl, rfl⟩) rfl (Nat.le_of_ble_eq_true rfl) (gset0 ha rfl) ?_
  refine V.aload_n dX1_init_12 rfl ?_
  refine V.bipush dX1_init_13 (by decide) ?_
  refine V.newa (N := 120) (a := a + 2) (sh2 := l0 ++ [(4, 4, [some (some (a + 1)), some none, some none, some none]), (0, 120, []), (0, 120, [])]) dX1_init_15 rfl (by decide) (Zr.len 2 hz ha rfl (by omega)) (by decide) (by decide) (glen ha rfl) (gpush rfl) ?_
  refine V.putRF (k0 := 1) (sh2 := l0 ++ [(4, 4, [some (some (a + 1)), some (some (a + 2)), some none, some none]), (0, 120, []), (0, 120, [])]) dX1_init_17 fi_X1_15 rfl (fun r h => by cases h; rfl) (gat0 ha rfl) (fun _ => ⟨rfl, rfl⟩) rfl (Nat.le_of_ble_eq_true rfl) (gset0 ha rfl) ?_
  refine V.aload_n dX1_init_20 rfl ?_
  refine V.bipush dX1_init_21 (by decide) ?_
  refine V.newa (N := 120) (a := a + 3) (sh2 := l0 ++ [(4, 4, [some (some (a + 1)), some (some (a + 2)), some none, some none]), (0, 120, []), (0, 120, []), (0, 120, [])]) dX1_init_23 rfl (by decide) (Zr.len 3 hz ha rfl (by omega)) (by decide) (by decide) (glen ha rfl) (gpush rfl) ?_
  refine V.putRF (k0 := 2) (sh2 := l0 ++ [(4, 4, [some (some (a + 1)), some (some (a + 2)), some (some (a + 3)), some none]), (0, 120, []), (0, 120, []), (0, 120, [])]) dX1_init_25 fi_X1_18 rfl (fun r h => by cases h; rfl) (gat0 ha rfl) (fun _ => ⟨rfl, rfl⟩) rfl (Nat.le_of_ble_eq_true rfl) (gset0 ha rfl) ?_
  refine V.aload_n dX1_init_28 rfl ?_
  refine V.bipush dX1_init_29 (by decide) ?_
  refine V.newa (N := 120) (a := a + 4) (sh2 := l0 ++ [(4, 4, [some (some (a + 1)), some (some (a + 2)), some (some (a + 3)), some none]), (0, 120, []), (0, 120, []), (0, 120, []), (0, 120, [])]) dX1_init_31 rfl (by decide) (Zr.len 4 hz ha rfl (by omega)) (by decide) (by decide) (glen ha rfl) (gpush rfl) ?_
  refine V.putRF (k0 := 3) (sh2 := l0 ++ [(4, 4, [some (some (a + 1)), some (some (a + 2)), some (some (a + 3)), some (some (a + 4))]), (0, 120, []), (0, 120, []), (0, 120, []), (0, 120, [])]) dX1_init_33 fi_X1_21 rfl (fun r h => by cases h; rfl) (gat0 ha rfl) (fun _ => ⟨rfl, rfl⟩) rfl (Nat.le_of_ble_eq_true rfl) (gset0 ha rfl) ?_
  exact V.vret dX1_init_36 rfl (by decide) (by decide) ⟨rfl, rfl, rfl⟩
def sX2 (a : Nat) : Shp := [(5, 2, [some (some (a + 1)), some (some (a + 2))]), (0, 120, []), (0, 120, [])]
set_option maxHeartbeats 4000000 in
set_option maxRecDepth 100000 in
theorem i_X2 (l0 : Shp) (a : Nat) (M : Mem) (ha : l0.length = a) (hz : Zr M a) : CT mX2_init 1 2 240 [.inr (some a)] (l0 ++ [(5, 2, [some none, some none])]) M (fun r9 sh9 M9 => r9 = none ∧ sh9 = l0 ++ sX2 a ∧ M9 = M) := by
  refine CT.of (by decide +kernel) (Nat.le_of_ble_eq_true rfl) [some (.inr (some (a)))] rfl ?_
  refine V.aload_n dX2_init_0 rfl ?_
  refine V.objInit dX2_init_1 kl_X2_3 (by decide) (Nat.le_of_ble_eq_true rfl) ?_
  refine V.aload_n dX2_init_4 rfl ?_
  refine V.bipush dX2_init_5 (by decide) ?_
  refine V.newa (N := 120) (a := a + 1) (sh2 := l0 ++ [(5, 2, [some none, some none]), (0, 120, [])]) dX2_init_7 rfl (by decide) (Zr.len 1 hz ha rfl (by omega)) (by decide) (by decide) (glen ha rfl) (gpush rfl) ?_
  refine V.putRF (k0 := 0) (sh2 := l0 ++ [(5, 2, [some (some (a + 1)), some none]), (0, 120, [])]) dX2_init_9 fi_X2_9 rfl (fun r h => by cases h; rfl) (gat0 ha rfl) (fun _ => ⟨rfl, rfl⟩) rfl (Nat.le_of_ble_eq_true rfl) (gset0 ha rfl) ?_
  refine V.aload_n dX2_init_12 rfl ?_
  refine V.bipush dX2_init_13 (by decide) ?_
  refine V.newa (N := 120) (a := a + 2) (sh2 := l0 ++ [(5, 2, [some (some (a + 1)), some none]), (0, 120, []), (0, 120, [])]) dX2_init_15 rfl (by decide) (Zr.len 2 hz ha rfl (by omega)) (by decide) (by decide) (glen ha rfl) (gpush rfl) ?_
  refine V.putRF (k0 := 1) (sh2 := l0 ++ [(5, 2, [some (some (a + 1)), some (some (a + 2))]), (0, 120, []), (0, 120, [])]) dX2_init_17 fi_X2_15 rfl (fun r h => by cases h; rfl) (gat0 ha rfl) (fun _ => ⟨rfl, rfl⟩) rfl (Nat.le_of_ble_eq_true rfl) (gset0 ha rfl) ?_
  exact V.vret dX2_init_20 rfl (by decide) (by decide) ⟨rfl, rfl, rfl⟩
def sX4 (a : Nat) : Shp := [(7, 3, [some (some (a + 1)), none, some (some (a + 2))]), (0, 120, []), (0, 120, [])]
set_option maxHeartbeats 4000000 in
set_option maxRecDepth 100000 in
theorem i_X4 (l0 : Shp) (a : Nat) (M : Mem) (ha : l0.length = a) (hz : Zr M a) : CT mX4_init 1 2 240 [.inr (some a)] (l0 ++ [(7, 3, [some none, none, some none])]) M (fun r9 sh9 M9 => r9 = none ∧ sh9 = l0 ++ sX4 a ∧ M9 = M) := by
  refine CT.of (by decide +kernel) (Nat.le_of_ble_eq_true rfl) [some (.inr (some (a)))] rfl ?_
  refine V.aload_n dX4_init_0 rfl ?_
  refine V.objInit dX4_init_1 kl_X4_3 (by decide) (Nat.le_of_ble_eq_true rfl) ?_
  refine V.aload_n dX4_init_4 rfl ?_
  refine V.bipush dX4_init_5 (by decide) ?_
  refine V.newa (N := 120) (a := a + 1) (sh2 := l0 ++ [(7, 3, [some none, none, some none]), (0, 120, [])]) dX4_init_7 rfl (by decide) (Zr.len 1 hz ha rfl (by omega)) (by decide) (by decide) (glen ha rfl) (gpush rfl) ?_
  refine V.putRF (k0 := 0) (sh2 := l0 ++ [(7, 3, [some (some (a + 1)), none, some none]), (0, 120, [])]) dX4_init_9 fi_X4_9 rfl (fun r h => by cases h; rfl) (gat0 ha rfl) (fun _ => ⟨rfl, rfl⟩) rfl (Nat.le_of_ble_eq_true rfl) (gset0 ha rfl) ?_
  refine V.aload_n dX4_init_12 rfl ?_
  refine V.iconst dX4_init_13 ?_
  refine V.putI 1 dX4_init_14 fi_X4_15 (gat0 ha rfl) rfl rfl ?_
  rw [mset_id (hz a (Nat.le_refl _) _)]
  refine V.aload_n dX4_init_17 rfl ?_
  refine V.bipush dX4_init_18 (by decide) ?_
  refine V.newa (N := 120) (a := a + 2) (sh2 := l0 ++ [(7, 3, [some (some (a + 1)), none, some none]), (0, 120, []), (0, 120, [])]) dX4_init_20 rfl (by decide) (Zr.len 2 hz ha rfl (by omega)) (by decide) (by decide) (glen ha rfl) (gpush rfl) ?_
  refine V.putRF (k0 := 2) (sh2 := l0 ++ [(7, 3, [some (some (a + 1)), none, some (some (a + 2))]), (0, 120, []), (0, 120, [])]) dX4_init_22 fi_X4_19 rfl (fun r h => by cases h; rfl) (gat0 ha rfl) (fun _ => ⟨rfl, rfl⟩) rfl (Nat.le_of_ble_eq_true rfl) (gset0 ha rfl) ?_
  exact V.vret dX4_init_25 rfl (by decide) (by decide) ⟨rfl, rfl, rfl⟩
def sX5 (a : Nat) : Shp := [(8, 3, [some (some (a + 1)), some (some (a + 2)), none]), (0, 120, []), (0, 120, [])]
set_option maxHeartbeats 4000000 in
set_option maxRecDepth 100000 in
theorem i_X5 (l0 : Shp) (a : Nat) (M : Mem) (ha : l0.length = a) (hz : Zr M a) : CT mX5_init 1 2 240 [.inr (some a)] (l0 ++ [(8, 3, [some none, some none, none])]) M (fun r9 sh9 M9 => r9 = none ∧ sh9 = l0 ++ sX5 a ∧ M9 = M) := by
  refine CT.of (by decide +kernel) (Nat.le_of_ble_eq_true rfl) [some (.inr (some (a)))] rfl ?_
  refine V.aload_n dX5_init_0 rfl ?_
  refine V.objInit dX5_init_1 kl_X5_3 (by decide) (Nat.le_of_ble_eq_true rfl) ?_
  refine V.aload_n dX5_init_4 rfl ?_
  refine V.bipush dX5_init_5 (by decide) ?_
  refine V.newa (N := 120) (a := a + 1) (sh2 := l0 ++ [(8, 3, [some none, some none, none]), (0, 120, [])]) dX5_init_7 rfl (by decide) (Zr.len 1 hz ha rfl (by omega)) (by decide) (by decide) (glen ha rfl) (gpush rfl) ?_
  refine V.putRF (k0 := 0) (sh2 := l0 ++ [(8, 3, [some (some (a + 1)), some none, none]), (0, 120, [])]) dX5_init_9 fi_X5_9 rfl (fun r h => by cases h; rfl) (gat0 ha rfl) (fun _ => ⟨rfl, rfl⟩) rfl (Nat.le_of_ble_eq_true rfl) (gset0 ha rfl) ?_
  refine V.aload_n dX5_init_12 rfl ?_
  refine V.bipush dX5_init_13 (by decide) ?_
  refine V.newa (N := 120) (a := a + 2) (sh2 := l0 ++ [(8, 3, [some (some (a + 1)), some none, none]), (0, 120, []), (0, 120, [])]) dX5_init_15 rfl (by decide) (Zr.len 2 hz ha rfl (by omega)) (by decide) (by decide) (glen ha rfl) (gpush rfl) ?_
  refine V.putRF (k0 := 1) (sh2 := l0 ++ [(8, 3, [some (some (a + 1)), some (some (a + 2)), none]), (0, 120, []), (0, 120, [])]) dX5_init_17 fi_X5_15 rfl (fun r h => by cases h; rfl) (gat0 ha rfl) (fun _ => ⟨rfl, rfl⟩) rfl (Nat.le_of_ble_eq_true rfl) (gset0 ha rfl) ?_
  refine V.aload_n dX5_init_20 rfl ?_
  refine V.iconst dX5_init_21 ?_
  refine V.putI 2 dX5_init_22 fi_X5_18 (gat0 ha rfl) rfl rfl ?_
  rw [mset_id (hz a (Nat.le_refl _) _)]
  exact V.vret dX5_init_25 rfl (by decide) (by decide) ⟨rfl, rfl, rfl⟩
def sX3 (a : Nat) : Shp := [(6, 13, [some (some (a + 1)), some (some (a + 2)), none, some (some (a + 3)), some (some (a + 4)), some (some (a + 5)), none, some (some (a + 6)), some (some (a + 7)), some (some (a + 8)), none, none, some (some (a + 9))]), (0, 120, []), (0, 120, []), (0, 10, []), (0, 10, []), (0, 10, []), (0, 6, []), (0, 6, []), (0, 6, []), (1, 2, [some (some (a + 10)), some (some (a + 15))]), (4, 4, [some (some (a + 11)), some (some (a + 12)), some (some (a + 13)), some (some (a + 14))]), (0, 120, []), (0, 120, []), (0, 120, []), (0, 120, []), (4, 4, [some (some (a + 16)), some (some (a + 17)), some (some (a + 18)), some (some (a + 19))]), (0, 120, []), (0, 120, []), (0, 120, []), (0, 120, [])]
set_option maxHeartbeats 4000000 in
set_option maxRecDepth 100000 in
theorem i_X3 (l0 : Shp) (a : Nat) (M : Mem) (ha : l0.length = a) (hz : Zr M a) : CT mX3_init 2 19 1258 [.inr (some a)] (l0 ++ [(6, 13, [some none, some none, none, some none, some none, some none, none, some none, some none, some none, none, none, some none])]) M (fun r9 sh9 M9 => r9 = none ∧ sh9 = l0 ++ sX3 a ∧ M9 = (mset M (a) 10 10)) := by
  refine CT.of (by decide +kernel) (Nat.le_of_ble_eq_true rfl) [some (.inr (some (a)))] rfl ?_
  refine V.aload_n dX3_init_0 rfl ?_
  refine V.objInit dX3_init_1 kl_X3_3 (by decide) (Nat.le_of_ble_eq_true rfl) ?_
  refine V.aload_n dX3_init_4 rfl ?_
  refine V.bipush dX3_init_5 (by decide) ?_
  refine V.newa (N := 120) (a := a + 1) (sh2 := l0 ++ [(6, 13, [some none, some none, none, some none, some none, some none, none, some none, some none, some none, none, none, some none]), (0, 120, [])]) dX3_init_7 rfl (by decide) (Zr.len 1 hz ha rfl (by omega)) (by decide) (by decide) (glen ha rfl) (gpush rfl) ?_
  refine V.putRF (k0 := 0) (sh2 := l0 ++ [(6, 13, [some (some (a + 1)), some none, none, some none, some none, some none, none, some none, some none, some none, none, none, some none]), (0, 120, [])]) dX3_init_9 fi_X3_9 rfl (fun r h => by cases h; rfl) (gat0 ha rfl) (fun _ => ⟨rfl, rfl⟩) rfl (Nat.le_of_ble_eq_true rfl) (gset0 ha rfl) ?_
  refine V.aload_n dX3_init_12 rfl ?_
  refine V.bipush dX3_init_13 (by decide) ?_
  refine V.newa (N := 120) (a := a + 2) (sh2 := l0 ++ [(6, 13, [some (some (a + 1)), some none, none, some none, some none, some none, none, some none, some none, some none, none, none, some none]), (0, 120, []), (0, 120, [])]) dX3_init_15 rfl (by decide) (Zr.len 2 hz ha rfl (by omega)) (by decide) (by decide) (glen ha rfl) (gpush rfl) ?_
  refine V.putRF (k0 := 1) (sh2 := l0 ++ [(6, 13, [some (some (a + 1)), some (some (a + 2)), none, some none, some none, some none, none, some none, some none, some none, none, none, some none]), (0, 120, []), (0, 120, [])]) dX3_init_17 fi_X3_15 rfl (fun r h => by cases h; rfl) (gat0 ha rfl) (fun _ => ⟨rfl, rfl⟩) rfl (Nat.le_of_ble_eq_true rfl) (gset0 ha rfl) ?_
  refine V.aload_n dX3_init_20 rfl ?_
  refine V.iconst dX3_init_21 ?_
  refine V.putI 2 dX3_init_22 fi_X3_18 (gat0 ha rfl) rfl rfl ?_
  rw [mset_id (hz a (Nat.le_refl _) _)]
  refine V.aload_n dX3_init_25 rfl ?_
  refine V.bipush dX3_init_26 (by decide) ?_
  refine V.newa (N := 10) (a := a + 3) (sh2 := l0 ++ [(6, 13, [some (some (a + 1)), some (some (a + 2)), none, some none, some none, some none, none, some none, some none, some none, none, none, some none]), (0, 120, []), (0, 120, []), (0, 10, [])]) dX3_init_28 rfl (by decide) (Zr.len 3 hz ha rfl (by omega)) (by decide) (by decide) (glen ha rfl) (gpush rfl) ?_
  refine V.putRF (k0 := 3) (sh2 := l0 ++ [(6, 13, [some (some (a + 1)), some (some (a + 2)), none, some (some (a + 3)), some none, some none, none, some none, some none, some none, none, none, some none]), (0, 120, []), (0, 120, []), (0, 10, [])]) dX3_init_30 fi_X3_22 rfl (fun r h => by cases h; rfl) (gat0 ha rfl) (fun _ => ⟨rfl, rfl⟩) rfl (Nat.le_of_ble_eq_true rfl) (gset0 ha rfl) ?_
  refine V.aload_n dX3_init_33 rfl ?_
  refine V.bipush dX3_init_34 (by decide) ?_
  refine V.newa (N := 10) (a := a + 4) (sh2 := l0 ++ [(6, 13, [some (some (a + 1)), some (some (a + 2)), none, some (some (a + 3)), some none, some none, none, some none, some none, some none, none, none, some none]), (0, 120, []), (0, 120, []), (0, 10, []), (0, 10, [])]) dX3_init_36 rfl (by decide) (Zr.len 4 hz ha rfl (by omega)) (by decide) (by decide) (glen ha rfl) (gpush rfl) ?_
  refine V.putRF (k0 := 4) (sh2 := l0 ++ [(6, 13, [some (some (a + 1)), some (some (a + 2)), none, some (some (a + 3)), some (some (a + 4)), some none, none, some none, some none, some none, none, none, some none]), (0, 120, []), (0, 120, []), (0, 10, []), (0, 10, [])]) dX3_init_38 fi_X3_25 rfl (fun r h => by cases h; rfl) (gat0 ha rfl) (fun _ => ⟨rfl, rfl⟩) rfl (Nat.le_of_ble_eq_true rfl) (gset0 ha rfl) ?_
  refine V.aload_n dX3_init_41 rfl ?_
  refine V.bipush dX3_init_42 (by decide) ?_
  refine V.newa (N := 10) (a := a + 5) (sh2 := l0 ++ [(6, 13, [some (some (a + 1)), some (some (a + 2)), none, some (some (a + 3)), some (some (a + 4)), some none, none, some none, some none, some none, none, none, some none]), (0, 120, []), (0, 120, []), (0, 10, []), (0, 10, []), (0, 10, [])]) dX3_init_44 rfl (by decide) (Zr.len 5 hz ha rfl (by omega)) (by decide) (by decide) (glen ha rfl) (gpush rfl) ?_
  refine V.putRF (k0 := 5) (sh2 := l0 ++ [(6, 13, [some (some (a + 1)), some (some (a + 2)), none, some (some (a + 3)), some (some (a + 4)), some (some (a + 5)), none, some none, some none, some none, none, none, some none]), (0, 120, []), (0, 120, []), (0, 10, []), (0, 10, []), (0, 10, [])]) dX3_init_46 fi_X3_28 rfl (fun r h => by cases h; rfl) (gat0 ha rfl) (fun _ => ⟨rfl, rfl⟩) rfl (Nat.le_of_ble_eq_true rfl) (gset0 ha rfl) ?_
  refine V.aload_n dX3_init_49 rfl ?_
  refine V.iconst dX3_init_50 ?_
  refine V.putI 6 dX3_init_51 fi_X3_31 (gat0 ha rfl) rfl rfl ?_
  rw [mset_id (hz a (Nat.le_refl _) _)]
  refine V.aload_n dX3_init_54 rfl ?_
  refine V.bipush dX3_init_55 (by decide) ?_
  refine V.newa (N := 6) (a := a + 6) (sh2 := l0 ++ [(6, 13, [some (some (a + 1)), some (some (a + 2)), none, some (some (a + 3)), some (some (a + 4)), some (some (a + 5)), none, some none, some none, some none, none, none, some none]), (0, 120, []), (0, 120, []), (0, 10, []), (0, 10, []), (0, 10, []), (0, 6, [])]) dX3_init_57 rfl (by decide) (Zr.len 6 hz ha rfl (by omega)) (by decide) (by decide) (glen ha rfl) (gpush rfl) ?_
  refine V.putRF (k0 := 7) (sh2 := l0 ++ [(6, 13, [some (some (a + 1)), some (some (a + 2)), none, some (some (a + 3)), some (some (a + 4)), some (some (a + 5)), none, some (some (a + 6)), some none, some none, none, none, some none]), (0, 120, []), (0, 120, []), (0, 10, []), (0, 10, []), (0, 10, []), (0, 6, [])]) dX3_init_59 fi_X3_34 rfl (fun r h => by cases h; rfl) (gat0 ha rfl) (fun _ => ⟨rfl, rfl⟩) rfl (Nat.le_of_ble_eq_true rfl) (gset0 ha rfl) ?_
  refine V.aload_n dX3_init_62 rfl ?_
  refine V.bipush dX3_init_63 (by decide) ?_
  refine V.newa (N := 6) (a := a + 7) (sh2 := l0 ++ [(6, 13, [some (some (a + 1)), some (some (a + 2)), none, some (some (a + 3)), some (some (a + 4)), some (some (a + 5)), none, some (some (a + 6)), some none, some none, none, none, some none]), (0, 120, []), (0, 120, []), (0, 10, []), (0, 10, []), (0, 10, []), (0, 6, []), (0, 6, [])]) dX3_init_65 rfl (by decide) (Zr.len 7 hz ha rfl (by omega)) (by decide) (by decide) (glen ha rfl) (gpush rfl) ?_
  refine V.putRF (k0 := 8) (sh2 := l0 ++ [(6, 13, [some (some (a + 1)), some (some (a + 2)), none, some (some (a + 3)), some (some (a + 4)), some (some (a + 5)), none, some (some (a + 6)), some (some (a + 7)), some none, none, none, some none]), (0, 120, []), (0, 120, []), (0, 10, []), (0, 10, []), (0, 10, []), (0, 6, []), (0, 6, [])]) dX3_init_67 fi_X3_37 rfl (fun r h => by cases h; rfl) (gat0 ha rfl) (fun _ => ⟨rfl, rfl⟩) rfl (Nat.le_of_ble_eq_true rfl) (gset0 ha rfl) ?_
  refine V.aload_n dX3_init_70 rfl ?_
  refine V.bipush dX3_init_71 (by decide) ?_
  refine V.newa (N := 6) (a := a + 8) (sh2 := l0 ++ [(6, 13, [some (some (a + 1)), some (some (a + 2)), none, some (some (a + 3)), some (some (a + 4)), some (some (a + 5)), none, some (some (a + 6)), some (some (a + 7)), some none, none, none, some none]), (0, 120, []), (0, 120, []), (0, 10, []), (0, 10, []), (0, 10, []), (0, 6, []), (0, 6, []), (0, 6, [])]) dX3_init_73 rfl (by decide) (Zr.len 8 hz ha rfl (by omega)) (by decide) (by decide) (glen ha rfl) (gpush rfl) ?_
  refine V.putRF (k0 := 9) (sh2 := l0 ++ [(6, 13, [some (some (a + 1)), some (some (a + 2)), none, some (some (a + 3)), some (some (a + 4)), some (some (a + 5)), none, some (some (a + 6)), some (some (a + 7)), some (some (a + 8)), none, none, some none]), (0, 120, []), (0, 120, []), (0, 10, []), (0, 10, []), (0, 10, []), (0, 6, []), (0, 6, []), (0, 6, [])]) dX3_init_75 fi_X3_40 rfl (fun r h => by cases h; rfl) (gat0 ha rfl) (fun _ => ⟨rfl, rfl⟩) rfl (Nat.le_of_ble_eq_true rfl) (gset0 ha rfl) ?_
  refine V.aload_n dX3_init_78 rfl ?_
  refine V.bipush dX3_init_79 (by decide) ?_
  refine V.putI 10 dX3_init_81 fi_X3_43 (gat0 ha rfl) rfl rfl ?_
  rw [show mset M a ((10 : Nat) : Int) 10 = mset M a 10 10 from rfl]
  have hz0 := hz
  have hz1 : Zr (mset M (a) 10 10) (a + 1) := hz.set (by omega) (by omega)
  refine V.aload_n dX3_init_84 rfl ?_
  refine V.iconst dX3_init_85 ?_
  refine V.putI 11 dX3_init_86 fi_X3_46 (gat0 ha rfl) rfl rfl ?_
  rw [mset_id (show mset M a 10 10 a ((11 : Nat) : Int) = 0 from by rw [mset_ne (by omega)]; exact hz0 a (Nat.le_refl _) _)]
  refine V.aload_n dX3_init_89 rfl ?_
  refine V.iconst dX3_init_90 ?_
  refine V.newq (N := 2) (t := 1) (a := a + 9) (sh2 := l0 ++ [(6, 13, [some (some (a + 1)), some (some (a + 2)), none, some (some (a + 3)), some (some (a + 4)), some (some (a + 5)), none, some (some (a + 6)), some (some (a + 7)), some (some (a + 8)), none, none, some none]), (0, 120, []), (0, 120, []), (0, 10, []), (0, 10, []), (0, 10, []), (0, 6, []), (0, 6, []), (0, 6, []), (1, 2, [some none, some none])]) dX3_init_91 (by decide) kk_X3_49 rfl (by decide) (by decide) (by decide) (glen ha rfl) (gpush rfl) ?_
  refine V.dup dX3_init_94 ?_
  refine V.iconst dX3_init_95 ?_
  refine V.new (t := 1) (N := 4) (fs := [some none, some none, some none, some none]) (a := a + 10) dX3_init_96 rfl kk_X3_49 kn_X1 ki_X1 ku_X1 tyX1_ok rfl (Zr.len 10 hz1 ha rfl (by omega)) bl_X1 (by decide) (by decide) (glen ha rfl) rfl ?_
  refine V.dup dX3_init_99 ?_
  refine V.callI (As := []) (rest := [.inr (some (a + 10)), .inl 0, .inr (some (a + 9)), .inr (some (a + 9)), .inr (some (a))]) dX3_init_100 mk_X3_51 (i_X1 (l0 ++ [(6, 13, [some (some (a + 1)), some (some (a + 2)), none, some (some (a + 3)), some (some (a + 4)), some (some (a + 5)), none, some (some (a + 6)), some (some (a + 7)), some (some (a + 8)), none, none, some none]), (0, 120, []), (0, 120, []), (0, 10, []), (0, 10, []), (0, 10, []), (0, 6, []), (0, 6, []), (0, 6, []), (1, 2, [some none, some none])]) (a + 10) (mset M (a) 10 10) (glen ha rfl) (hz1.mono (by omega))) rfl (by decide) rfl (Nat.le_of_ble_eq_true rfl) (by decide) (by decide) (fun r9 sh9 M9 h9 => ?_)
  obtain ⟨e1, e2, e3⟩ := h9
  rw [e1, e2, e3]
  rw [show (l0 ++ [(6, 13, [some (some (a + 1)), some (some (a + 2)), none, some (some (a + 3)), some (some (a + 4)), some (some (a + 5)), none, some (some (a + 6)), some (some (a + 7)), some (some (a + 8)), none, none, some none]), (0, 120, []), (0, 120, []), (0, 10, []), (0, 10, []), (0, 10, []), (0, 6, []), (0, 6, []), (0, 6, []), (1, 2, [some none, some none])]) ++ sX1 (a + 10) = l0 ++ [(6, 13, [some (some (a + 1)), some (some (a + 2)), none, some (some (a + 3)), some (some (a + 4)), some (some (a + 5)), none, some (some (a + 6)), some (some (a + 7)), some (some (a + 8)), none, none, some none]), (0, 120, []), (0, 120, []), (0, 10, []), (0, 10, []), (0, 10, []), (0, 6, []), (0, 6, []), (0, 6, []), (1, 2, [some none, some none]), (4, 4, [some (some (a + 11)), some (some (a + 12)), some (some (a + 13)), some (some (a + 14))]), (0, 120, []), (0, 120, []), (0, 120, []), (0, 120, [])] from gjoin rfl]
  change V _ _ _ _ _ _ [.inr (some (a + 10)), .inl 0, .inr (some (a + 9)), .inr (some (a + 9)), .inr (some (a))] _ _ _ _ _
  refine V.aast (t := 1) (cb := 1) (sh2 := l0 ++ [(6, 13, [some (some (a + 1)), some (some (a + 2)), none, some (some (a + 3)), some (some (a + 4)), some (some (a + 5)), none, some (some (a + 6)), some (some (a + 7)), some (some (a + 8)), none, none, some none]), (0, 120, []), (0, 120, []), (0, 10, []), (0, 10, []), (0, 10, []), (0, 6, []), (0, 6, []), (0, 6, []), (1, 2, [some (some (a + 10)), some none]), (4, 4, [some (some (a + 11)), some (some (a + 12)), some (some (a + 13)), some (some (a + 14))]), (0, 120, []), (0, 120, []), (0, 120, []), (0, 120, [])]) dX3_init_103 (gat (k := 9) ha rfl) (by decide) (gat (k := 10) ha rfl) (by decide) rfl (by decide) (gset (k := 9) ha rfl) ?_
  refine V.dup dX3_init_104 ?_
  refine V.iconst dX3_init_105 ?_
  refine V.new (t := 1) (N := 4) (fs := [some none, some none, some none, some none]) (a := a + 15) dX3_init_106 rfl kk_X3_49 kn_X1 ki_X1 ku_X1 tyX1_ok rfl (Zr.len 15 hz1 ha rfl (by omega)) bl_X1 (by decide) (by decide) (glen ha rfl) rfl ?_
  refine V.dup dX3_init_109 ?_
  refine V.callI (As := []) (rest := [.inr (some (a + 15)), .inl 1, .inr (some (a + 9)), .inr (some (a + 9)), .inr (some (a))]) dX3_init_110 mk_X3_51 (i_X1 (l0 ++ [(6, 13, [some (some (a + 1)), some (some (a + 2)), none, some (some (a + 3)), some (some (a + 4)), some (some (a + 5)), none, some (some (a + 6)), some (some (a + 7)), some (some (a + 8)), none, none, some none]), (0, 120, []), (0, 120, []), (0, 10, []), (0, 10, []), (0, 10, []), (0, 6, []), (0, 6, []), (0, 6, []), (1, 2, [some (some (a + 10)), some none]), (4, 4, [some (some (a + 11)), some (some (a + 12)), some (some (a + 13)), some (some (a + 14))]), (0, 120, []), (0, 120, []), (0, 120, []), (0, 120, [])]) (a + 15) (mset M (a) 10 10) (glen ha rfl) (hz1.mono (by omega))) rfl (by decide) rfl (Nat.le_of_ble_eq_true rfl) (by decide) (by decide) (fun r9 sh9 M9 h9 => ?_)
  obtain ⟨e1, e2, e3⟩ := h9
  rw [e1, e2, e3]
  rw [show (l0 ++ [(6, 13, [some (some (a + 1)), some (some (a + 2)), none, some (some (a + 3)), some (some (a + 4)), some (some (a + 5)), none, some (some (a + 6)), some (some (a + 7)), some (some (a + 8)), none, none, some none]), (0, 120, []), (0, 120, []), (0, 10, []), (0, 10, []), (0, 10, []), (0, 6, []), (0, 6, []), (0, 6, []), (1, 2, [some (some (a + 10)), some none]), (4, 4, [some (some (a + 11)), some (some (a + 12)), some (some (a + 13)), some (some (a + 14))]), (0, 120, []), (0, 120, []), (0, 120, []), (0, 120, [])]) ++ sX1 (a + 15) = l0 ++ [(6, 13, [some (some (a + 1)), some (some (a + 2)), none, some (some (a + 3)), some (some (a + 4)), some (some (a + 5)), none, some (some (a + 6)), some (some (a + 7)), some (some (a + 8)), none, none, some none]), (0, 120, []), (0, 120, []), (0, 10, []), (0, 10, []), (0, 10, []), (0, 6, []), (0, 6, []), (0, 6, []), (1, 2, [some (some (a + 10)), some none]), (4, 4, [some (some (a + 11)), some (some (a + 12)), some (some (a + 13)), some (some (a + 14))]), (0, 120, []), (0, 120, []), (0, 120, []), (0, 120, []), (4, 4, [some (some (a + 16)), some (some (a + 17)), some (some (a + 18)), some (some (a + 19))]), (0, 120, []), (0, 120, []), (0, 120, []), (0, 120, [])] from gjoin rfl]
  change V _ _ _ _ _ _ [.inr (some (a + 15)), .inl 1, .inr (some (a + 9)), .inr (some (a + 9)), .inr (some (a))] _ _ _ _ _
  refine V.aast (t := 1) (cb := 1) (sh2 := l0 ++ [(6, 13, [some (some (a + 1)), some (some (a + 2)), none, some (some (a + 3)), some (some (a + 4)), some (some (a + 5)), none, some (some (a + 6)), some (some (a + 7)), some (some (a + 8)), none, none, some none]), (0, 120, []), (0, 120, []), (0, 10, []), (0, 10, []), (0, 10, []), (0, 6, []), (0, 6, []), (0, 6, []), (1, 2, [some (some (a + 10)), some (some (a + 15))]), (4, 4, [some (some (a + 11)), some (some (a + 12)), some (some (a + 13)), some (some (a + 14))]), (0, 120, []), (0, 120, []), (0, 120, []), (0, 120, []), (4, 4, [some (some (a + 16)), some (some (a + 17)), some (some (a + 18)), some (some (a + 19))]), (0, 120, []), (0, 120, []), (0, 120, []), (0, 120, [])]) dX3_init_113 (gat (k := 9) ha rfl) (by decide) (gat (k := 15) ha rfl) (by decide) rfl (by decide) (gset (k := 9) ha rfl) ?_
  refine V.putRF (k0 := 12) (sh2 := l0 ++ [(6, 13, [some (some (a + 1)), some (some (a + 2)), none, some (some (a + 3)), some (some (a + 4)), some (some (a + 5)), none, some (some (a + 6)), some (some (a + 7)), some (some (a + 8)), none, none, some (some (a + 9))]), (0, 120, []), (0, 120, []), (0, 10, []), (0, 10, []), (0, 10, []), (0, 6, []), (0, 6, []), (0, 6, []), (1, 2, [some (some (a + 10)), some (some (a + 15))]), (4, 4, [some (some (a + 11)), some (some (a + 12)), some (some (a + 13)), some (some (a + 14))]), (0, 120, []), (0, 120, []), (0, 120, []), (0, 120, []), (4, 4, [some (some (a + 16)), some (some (a + 17)), some (some (a + 18)), some (some (a + 19))]), (0, 120, []), (0, 120, []), (0, 120, []), (0, 120, [])]) dX3_init_114 fi_X3_52 rfl (fun r h => by cases h; rfl) (gat0 ha rfl) (fun _ => ⟨rfl, rfl⟩) rfl (Nat.le_of_ble_eq_true rfl) (gset0 ha rfl) ?_
  exact V.vret dX3_init_117 rfl (by decide) (by decide) ⟨rfl, rfl, rfl⟩
def sX0 (a : Nat) : Shp := ([(3, 3, [some (some (a + 1)), none, none]), (2, 5, [some (some (a + 2)), some (some (a + 22)), some (some (a + 42)), some (some (a + 62)), some (some (a + 82))])] ++ sX3 (a + 2) ++ sX3 (a + 22) ++ sX3 (a + 42) ++ sX3 (a + 62) ++ sX3 (a + 82))
set_option maxHeartbeats 4000000 in
set_option maxRecDepth 100000 in
theorem i_X0 (l0 : Shp) (a : Nat) (M : Mem) (ha : l0.length = a) (hz : Zr M a) : CT mX0_init 3 101 6360 [.inr (some a)] (l0 ++ [(3, 3, [some none, none, none])]) M (fun r9 sh9 M9 => r9 = none ∧ sh9 = l0 ++ sX0 a ∧ M9 = (mset (mset (mset (mset (mset M (a + 2) 10 10) (a + 22) 10 10) (a + 42) 10 10) (a + 62) 10 10) (a + 82) 10 10)) := by
  refine CT.of (by decide +kernel) (Nat.le_of_ble_eq_true rfl) [some (.inr (some a)), none] rfl ?_
  refine V.aload_n dX0_init_0 rfl ?_
  refine V.objInit dX0_init_1 kl_X0_3 (by decide) (Nat.le_of_ble_eq_true rfl) ?_
  refine V.aload_n dX0_init_4 rfl ?_
  refine V.iconst dX0_init_5 ?_
  refine V.newq (N := 5) (t := 2) (a := a + 1) (sh2 := l0 ++ [(3, 3, [some none, none, none]), (2, 5, [some none, some none, some none, some none, some none])]) dX0_init_6 (by decide) kk_X0_9 rfl (by decide) (by decide) (by decide) (glen ha rfl) (gpush rfl) ?_
  refine V.putRF (k0 := 0) (sh2 := l0 ++ ([(3, 3, [some (some (a + 1)), none, none]), (2, 5, [some none, some none, some none, some none, some none])])) dX0_init_9 fi_X0_11 rfl (fun r h => by cases h; rfl) (gat0 ha rfl) (fun _ => ⟨rfl, rfl⟩) rfl (Nat.le_of_ble_eq_true rfl) (gset0 ha rfl) ?_
  refine V.aload_n dX0_init_12 rfl ?_
  refine V.iconst dX0_init_13 ?_
  refine V.putI 1 dX0_init_14 fi_X0_17 (gat0 ha rfl) rfl rfl ?_
  rw [mset_id (hz a (Nat.le_refl _) _)]
  refine V.aload_n dX0_init_17 rfl ?_
  refine V.iconst dX0_init_18 ?_
  refine V.putI 2 dX0_init_19 fi_X0_21 (gat0 ha rfl) rfl rfl ?_
  rw [mset_id (hz a (Nat.le_refl _) _)]
  refine V.iconst dX0_init_22 ?_
  refine V.istore_n (lv2 := [some (.inr (some a)), some (.inl 0)]) dX0_init_23 (Nat.le_of_ble_eq_true rfl) rfl ?_
  have hy0 : ∀ i, M (l0 ++ ([(3, 3, [some (some (a + 1)), none, none]), (2, 5, [some none, some none, some none, some none, some none])])).length i = 0 := Zr.len 2 hz ha rfl (by omega)
  refine V.iload_n dX0_init_24 rfl ?_
  refine V.iconst dX0_init_25 ?_
  refine V.icmp_ge (tgt := 48) dX0_init_26 (by decide) (by decide) (by decide) (fun h => absurd h (by decide)) (fun _ => ?_)
  refine V.aload_n dX0_init_29 rfl ?_
  refine V.getR (b := a + 1) dX0_init_30 fi_X0_11 (gat0 ha rfl) rfl ?_
  refine V.iload_n dX0_init_33 rfl ?_
  refine V.new (t := 3) (N := 13) (fs := [some none, some none, none, some none, some none, some none, none, some none, some none, some none, none, none, some none]) (a := a + 2) dX0_init_34 rfl kk_X0_9 kn_X3 ki_X3 ku_X3 tyX3_ok rfl hy0 bl_X3 (by decide) (by decide) (glen ha rfl) rfl ?_
  refine V.dup dX0_init_37 ?_
  refine V.callI (As := []) (rest := [.inr (some (a + 2)), .inl 0, .inr (some (a + 1))]) dX0_init_38 mk_X0_24 (i_X3 (l0 ++ ([(3, 3, [some (some (a + 1)), none, none]), (2, 5, [some none, some none, some none, some none, some none])])) (a + 2) M (glen ha rfl) (hz.mono (by omega))) rfl (by decide) rfl (Nat.le_of_ble_eq_true rfl) (by decide) (by decide) (fun r9 sh9 M9 h9 => ?_)
  obtain ⟨e1, e2, e3⟩ := h9
  rw [e1, e2, e3]
  rw [show (l0 ++ ([(3, 3, [some (some (a + 1)), none, none]), (2, 5, [some none, some none, some none, some none, some none])])) ++ sX3 (a + 2) = l0 ++ ([(3, 3, [some (some (a + 1)), none, none]), (2, 5, [some none, some none, some none, some none, some none])] ++ sX3 (a + 2)) from gjoin rfl]
  have hz1 : Zr (mset M (a + 2) 10 10) (a + 22) := hz.set (by omega) (by omega)
  have hy1 : ∀ i, (mset M (a + 2) 10 10) (l0 ++ ([(3, 3, [some (some (a + 1)), none, none]), (2, 5, [some (some (a + 2)), some none, some none, some none, some none])] ++ sX3 (a + 2))).length i = 0 := fun i => by rw [glen ha (show ([(3, 3, [some (some (a + 1)), none, none]), (2, 5, [some (some (a + 2)), some none, some none, some none, some none])] ++ sX3 (a + 2)).length = 22 from rfl)]; exact hz1 _ (Nat.le_refl _) i
  change V _ _ _ _ _ _ [.inr (some (a + 2)), .inl 0, .inr (some (a + 1))] _ _ _ _ _
  refine V.aast (t := 2) (cb := 3) (sh2 := l0 ++ ([(3, 3, [some (some (a + 1)), none, none]), (2, 5, [some (some (a + 2)), some none, some none, some none, some none])] ++ sX3 (a + 2))) dX0_init_41 (gat (k := 1) ha rfl) (by decide) (gat (k := 2) ha rfl) (by decide) rfl (by decide) (gset (k := 1) ha rfl) ?_
  refine V.iinc (y := 1) (lv2 := [some (.inr (some a)), some (.inl 1)]) dX0_init_42 rfl rfl rfl ?_
  refine V.goto (tgt := 24) dX0_init_45 (by decide) ?_
  refine V.iload_n dX0_init_24 rfl ?_
  refine V.iconst dX0_init_25 ?_
  refine V.icmp_ge (tgt := 48) dX0_init_26 (by decide) (by decide) (by decide) (fun h => absurd h (by decide)) (fun _ => ?_)
  refine V.aload_n dX0_init_29 rfl ?_
  refine V.getR (b := a + 1) dX0_init_30 fi_X0_11 (gat0 ha rfl) rfl ?_
  refine V.iload_n dX0_init_33 rfl ?_
  refine V.new (t := 3) (N := 13) (fs := [some none, some none, none, some none, some none, some none, none, some none, some none, some none, none, none, some none]) (a := a + 22) dX0_init_34 rfl kk_X0_9 kn_X3 ki_X3 ku_X3 tyX3_ok rfl (hy1) bl_X3 (by decide) (by decide) (glen ha rfl) rfl ?_
  refine V.dup dX0_init_37 ?_
  refine V.callI (As := []) (rest := [.inr (some (a + 22)), .inl 1, .inr (some (a + 1))]) dX0_init_38 mk_X0_24 (i_X3 (l0 ++ ([(3, 3, [some (some (a + 1)), none, none]), (2, 5, [some (some (a + 2)), some none, some none, some none, some none])] ++ sX3 (a + 2))) (a + 22) (mset M (a + 2) 10 10) (glen ha rfl) (hz1)) rfl (by decide) rfl (Nat.le_of_ble_eq_true rfl) (by decide) (by decide) (fun r9 sh9 M9 h9 => ?_)
  obtain ⟨e1, e2, e3⟩ := h9
  rw [e1, e2, e3]
  rw [show (l0 ++ ([(3, 3, [some (some (a + 1)), none, none]), (2, 5, [some (some (a + 2)), some none, some none, some none, some none])] ++ sX3 (a + 2))) ++ sX3 (a + 22) = l0 ++ ([(3, 3, [some (some (a + 1)), none, none]), (2, 5, [some (some (a + 2)), some none, some none, some none, some none])] ++ sX3 (a + 2) ++ sX3 (a + 22)) from gjoin rfl]
  have hz2 : Zr (mset (mset M (a + 2) 10 10) (a + 22) 10 10) (a + 42) := hz1.set (by omega) (by omega)
  have hy2 : ∀ i, (mset (mset M (a + 2) 10 10) (a + 22) 10 10) (l0 ++ ([(3, 3, [some (some (a + 1)), none, none]), (2, 5, [some (some (a + 2)), some (some (a + 22)), some none, some none, some none])] ++ sX3 (a + 2) ++ sX3 (a + 22))).length i = 0 := fun i => by rw [glen ha (show ([(3, 3, [some (some (a + 1)), none, none]), (2, 5, [some (some (a + 2)), some (some (a + 22)), some none, some none, some none])] ++ sX3 (a + 2) ++ sX3 (a + 22)).length = 42 from rfl)]; exact hz2 _ (Nat.le_refl _) i
  change V _ _ _ _ _ _ [.inr (some (a + 22)), .inl 1, .inr (some (a + 1))] _ _ _ _ _
  refine V.aast (t := 2) (cb := 3) (sh2 := l0 ++ ([(3, 3, [some (some (a + 1)), none, none]), (2, 5, [some (some (a + 2)), some (some (a + 22)), some none, some none, some none])] ++ sX3 (a + 2) ++ sX3 (a + 22))) dX0_init_41 (gat (k := 1) ha rfl) (by decide) (gat (k := 22) ha rfl) (by decide) rfl (by decide) (gset (k := 1) ha rfl) ?_
  refine V.iinc (y := 2) (lv2 := [some (.inr (some a)), some (.inl 2)]) dX0_init_42 rfl rfl rfl ?_
  refine V.goto (tgt := 24) dX0_init_45 (by decide) ?_
  refine V.iload_n dX0_init_24 rfl ?_
  refine V.iconst dX0_init_25 ?_
  refine V.icmp_ge (tgt := 48) dX0_init_26 (by decide) (by decide) (by decide) (fun h => absurd h (by decide)) (fun _ => ?_)
  refine V.aload_n dX0_init_29 rfl ?_
  refine V.getR (b := a + 1) dX0_init_30 fi_X0_11 (gat0 ha rfl) rfl ?_
  refine V.iload_n dX0_init_33 rfl ?_
  refine V.new (t := 3) (N := 13) (fs := [some none, some none, none, some none, some none, some none, none, some none, some none, some none, none, none, some none]) (a := a + 42) dX0_init_34 rfl kk_X0_9 kn_X3 ki_X3 ku_X3 tyX3_ok rfl hy2 bl_X3 (by decide) (by decide) (glen ha rfl) rfl ?_
  refine V.dup dX0_init_37 ?_
  refine V.callI (As := []) (rest := [.inr (some (a + 42)), .inl 2, .inr (some (a + 1))]) dX0_init_38 mk_X0_24 (i_X3 (l0 ++ ([(3, 3, [some (some (a + 1)), none, none]), (2, 5, [some (some (a + 2)), some (some (a + 22)), some none, some none, some none])] ++ sX3 (a + 2) ++ sX3 (a + 22))) (a + 42) (mset (mset M (a + 2) 10 10) (a + 22) 10 10) (glen ha rfl) (hz2)) rfl (by decide) rfl (Nat.le_of_ble_eq_true rfl) (by decide) (by decide) (fun r9 sh9 M9 h9 => ?_)
  obtain ⟨e1, e2, e3⟩ := h9
  rw [e1, e2, e3]
  rw [show (l0 ++ ([(3, 3, [some (some (a + 1)), none, none]), (2, 5, [some (some (a + 2)), some (some (a + 22)), some none, some none, some none])] ++ sX3 (a + 2) ++ sX3 (a + 22))) ++ sX3 (a + 42) = l0 ++ ([(3, 3, [some (some (a + 1)), none, none]), (2, 5, [some (some (a + 2)), some (some (a + 22)), some none, some none, some none])] ++ sX3 (a + 2) ++ sX3 (a + 22) ++ sX3 (a + 42)) from gjoin rfl]
  have hz3 : Zr (mset (mset (mset M (a + 2) 10 10) (a + 22) 10 10) (a + 42) 10 10) (a + 62) := hz2.set (by omega) (by omega)
  have hy3 : ∀ i, (mset (mset (mset M (a + 2) 10 10) (a + 22) 10 10) (a + 42) 10 10) (l0 ++ ([(3, 3, [some (some (a + 1)), none, none]), (2, 5, [some (some (a + 2)), some (some (a + 22)), some (some (a + 42)), some none, some none])] ++ sX3 (a + 2) ++ sX3 (a + 22) ++ sX3 (a + 42))).length i = 0 := fun i => by rw [glen ha (show ([(3, 3, [some (some (a + 1)), none, none]), (2, 5, [some (some (a + 2)), some (some (a + 22)), some (some (a + 42)), some none, some none])] ++ sX3 (a + 2) ++ sX3 (a + 22) ++ sX3 (a + 42)).length = 62 from rfl)]; exact hz3 _ (Nat.le_refl _) i
  change V _ _ _ _ _ _ [.inr (some (a + 42)), .inl 2, .inr (some (a + 1))] _ _ _ _ _
  refine V.aast (t := 2) (cb := 3) (sh2 := l0 ++ ([(3, 3, [some (some (a + 1)), none, none]), (2, 5, [some (some (a + 2)), some (some (a + 22)), some (some (a + 42)), some none, some none])] ++ sX3 (a + 2) ++ sX3 (a + 22) ++ sX3 (a + 42))) dX0_init_41 (gat (k := 1) ha rfl) (by decide) (gat (k := 42) ha rfl) (by decide) rfl (by decide) (gset (k := 1) ha rfl) ?_
  refine V.iinc (y := 3) (lv2 := [some (.inr (some a)), some (.inl 3)]) dX0_init_42 rfl rfl rfl ?_
  refine V.goto (tgt := 24) dX0_init_45 (by decide) ?_
  refine V.iload_n dX0_init_24 rfl ?_
  refine V.iconst dX0_init_25 ?_
  refine V.icmp_ge (tgt := 48) dX0_init_26 (by decide) (by decide) (by decide) (fun h => absurd h (by decide)) (fun _ => ?_)
  refine V.aload_n dX0_init_29 rfl ?_
  refine V.getR (b := a + 1) dX0_init_30 fi_X0_11 (gat0 ha rfl) rfl ?_
  refine V.iload_n dX0_init_33 rfl ?_
  refine V.new (t := 3) (N := 13) (fs := [some none, some none, none, some none, some none, some none, none, some none, some none, some none, none, none, some none]) (a := a + 62) dX0_init_34 rfl kk_X0_9 kn_X3 ki_X3 ku_X3 tyX3_ok rfl hy3 bl_X3 (by decide) (by decide) (glen ha rfl) rfl ?_
  refine V.dup dX0_init_37 ?_
  refine V.callI (As := []) (rest := [.inr (some (a + 62)), .inl 3, .inr (some (a + 1))]) dX0_init_38 mk_X0_24 (i_X3 (l0 ++ ([(3, 3, [some (some (a + 1)), none, none]), (2, 5, [some (some (a + 2)), some (some (a + 22)), some (some (a + 42)), some none, some none])] ++ sX3 (a + 2) ++ sX3 (a + 22) ++ sX3 (a + 42))) (a + 62) (mset (mset (mset M (a + 2) 10 10) (a + 22) 10 10) (a + 42) 10 10) (glen ha rfl) (hz3)) rfl (by decide) rfl (Nat.le_of_ble_eq_true rfl) (by decide) (by decide) (fun r9 sh9 M9 h9 => ?_)
  obtain ⟨e1, e2, e3⟩ := h9
  rw [e1, e2, e3]
  rw [show (l0 ++ ([(3, 3, [some (some (a + 1)), none, none]), (2, 5, [some (some (a + 2)), some (some (a + 22)), some (some (a + 42)), some none, some none])] ++ sX3 (a + 2) ++ sX3 (a + 22) ++ sX3 (a + 42))) ++ sX3 (a + 62) = l0 ++ ([(3, 3, [some (some (a + 1)), none, none]), (2, 5, [some (some (a + 2)), some (some (a + 22)), some (some (a + 42)), some none, some none])] ++ sX3 (a + 2) ++ sX3 (a + 22) ++ sX3 (a + 42) ++ sX3 (a + 62)) from gjoin rfl]
  have hz4 : Zr (mset (mset (mset (mset M (a + 2) 10 10) (a + 22) 10 10) (a + 42) 10 10) (a + 62) 10 10) (a + 82) := hz3.set (by omega) (by omega)
  have hy4 : ∀ i, (mset (mset (mset (mset M (a + 2) 10 10) (a + 22) 10 10) (a + 42) 10 10) (a + 62) 10 10) (l0 ++ ([(3, 3, [some (some (a + 1)), none, none]), (2, 5, [some (some (a + 2)), some (some (a + 22)), some (some (a + 42)), some (some (a + 62)), some none])] ++ sX3 (a + 2) ++ sX3 (a + 22) ++ sX3 (a + 42) ++ sX3 (a + 62))).length i = 0 := fun i => by rw [glen ha (show ([(3, 3, [some (some (a + 1)), none, none]), (2, 5, [some (some (a + 2)), some (some (a + 22)), some (some (a + 42)), some (some (a + 62)), some none])] ++ sX3 (a + 2) ++ sX3 (a + 22) ++ sX3 (a + 42) ++ sX3 (a + 62)).length = 82 from rfl)]; exact hz4 _ (Nat.le_refl _) i
  change V _ _ _ _ _ _ [.inr (some (a + 62)), .inl 3, .inr (some (a + 1))] _ _ _ _ _
  refine V.aast (t := 2) (cb := 3) (sh2 := l0 ++ ([(3, 3, [some (some (a + 1)), none, none]), (2, 5, [some (some (a + 2)), some (some (a + 22)), some (some (a + 42)), some (some (a + 62)), some none])] ++ sX3 (a + 2) ++ sX3 (a + 22) ++ sX3 (a + 42) ++ sX3 (a + 62))) dX0_init_41 (gat (k := 1) ha rfl) (by decide) (gat (k := 62) ha rfl) (by decide) rfl (by decide) (gset (k := 1) ha rfl) ?_
  refine V.iinc (y := 4) (lv2 := [some (.inr (some a)), some (.inl 4)]) dX0_init_42 rfl rfl rfl ?_
  refine V.goto (tgt := 24) dX0_init_45 (by decide) ?_
  refine V.iload_n dX0_init_24 rfl ?_
  refine V.iconst dX0_init_25 ?_
  refine V.icmp_ge (tgt := 48) dX0_init_26 (by decide) (by decide) (by decide) (fun h => absurd h (by decide)) (fun _ => ?_)
  refine V.aload_n dX0_init_29 rfl ?_
  refine V.getR (b := a + 1) dX0_init_30 fi_X0_11 (gat0 ha rfl) rfl ?_
  refine V.iload_n dX0_init_33 rfl ?_
  refine V.new (t := 3) (N := 13) (fs := [some none, some none, none, some none, some none, some none, none, some none, some none, some none, none, none, some none]) (a := a + 82) dX0_init_34 rfl kk_X0_9 kn_X3 ki_X3 ku_X3 tyX3_ok rfl hy4 bl_X3 (by decide) (by decide) (glen ha rfl) rfl ?_
  refine V.dup dX0_init_37 ?_
  refine V.callI (As := []) (rest := [.inr (some (a + 82)), .inl 4, .inr (some (a + 1))]) dX0_init_38 mk_X0_24 (i_X3 (l0 ++ ([(3, 3, [some (some (a + 1)), none, none]), (2, 5, [some (some (a + 2)), some (some (a + 22)), some (some (a + 42)), some (some (a + 62)), some none])] ++ sX3 (a + 2) ++ sX3 (a + 22) ++ sX3 (a + 42) ++ sX3 (a + 62))) (a + 82) (mset (mset (mset (mset M (a + 2) 10 10) (a + 22) 10 10) (a + 42) 10 10) (a + 62) 10 10) (glen ha rfl) (hz4)) rfl (by decide) rfl (Nat.le_of_ble_eq_true rfl) (by decide) (by decide) (fun r9 sh9 M9 h9 => ?_)
  obtain ⟨e1, e2, e3⟩ := h9
  rw [e1, e2, e3]
  rw [show (l0 ++ ([(3, 3, [some (some (a + 1)), none, none]), (2, 5, [some (some (a + 2)), some (some (a + 22)), some (some (a + 42)), some (some (a + 62)), some none])] ++ sX3 (a + 2) ++ sX3 (a + 22) ++ sX3 (a + 42) ++ sX3 (a + 62))) ++ sX3 (a + 82) = l0 ++ ([(3, 3, [some (some (a + 1)), none, none]), (2, 5, [some (some (a + 2)), some (some (a + 22)), some (some (a + 42)), some (some (a + 62)), some none])] ++ sX3 (a + 2) ++ sX3 (a + 22) ++ sX3 (a + 42) ++ sX3 (a + 62) ++ sX3 (a + 82)) from gjoin rfl]
  have hz5 : Zr (mset (mset (mset (mset (mset M (a + 2) 10 10) (a + 22) 10 10) (a + 42) 10 10) (a + 62) 10 10) (a + 82) 10 10) (a + 102) := hz4.set (by omega) (by omega)
  have hy5 : ∀ i, (mset (mset (mset (mset (mset M (a + 2) 10 10) (a + 22) 10 10) (a + 42) 10 10) (a + 62) 10 10) (a + 82) 10 10) (l0 ++ ([(3, 3, [some (some (a + 1)), none, none]), (2, 5, [some (some (a + 2)), some (some (a + 22)), some (some (a + 42)), some (some (a + 62)), some (some (a + 82))])] ++ sX3 (a + 2) ++ sX3 (a + 22) ++ sX3 (a + 42) ++ sX3 (a + 62) ++ sX3 (a + 82))).length i = 0 := fun i => by rw [glen ha (show ([(3, 3, [some (some (a + 1)), none, none]), (2, 5, [some (some (a + 2)), some (some (a + 22)), some (some (a + 42)), some (some (a + 62)), some (some (a + 82))])] ++ sX3 (a + 2) ++ sX3 (a + 22) ++ sX3 (a + 42) ++ sX3 (a + 62) ++ sX3 (a + 82)).length = 102 from rfl)]; exact hz5 _ (Nat.le_refl _) i
  change V _ _ _ _ _ _ [.inr (some (a + 82)), .inl 4, .inr (some (a + 1))] _ _ _ _ _
  refine V.aast (t := 2) (cb := 3) (sh2 := l0 ++ ([(3, 3, [some (some (a + 1)), none, none]), (2, 5, [some (some (a + 2)), some (some (a + 22)), some (some (a + 42)), some (some (a + 62)), some (some (a + 82))])] ++ sX3 (a + 2) ++ sX3 (a + 22) ++ sX3 (a + 42) ++ sX3 (a + 62) ++ sX3 (a + 82))) dX0_init_41 (gat (k := 1) ha rfl) (by decide) (gat (k := 82) ha rfl) (by decide) rfl (by decide) (gset (k := 1) ha rfl) ?_
  refine V.iinc (y := 5) (lv2 := [some (.inr (some a)), some (.inl 5)]) dX0_init_42 rfl rfl rfl ?_
  refine V.goto (tgt := 24) dX0_init_45 (by decide) ?_
  refine V.iload_n dX0_init_24 rfl ?_
  refine V.iconst dX0_init_25 ?_
  refine V.icmp_ge (tgt := 48) dX0_init_26 (by decide) (by decide) (by decide) (fun _ => ?_) (fun h => absurd h (by decide))
  exact V.vret dX0_init_48 rfl (by decide) (by decide) ⟨rfl, rfl, rfl⟩
def sX6 : Shp := ([(9, 5, [some (some 1), some (some 21), some (some 24), some (some 126), some (some 129)])] ++ sX3 1 ++ sX2 21 ++ sX0 24 ++ sX4 126 ++ sX5 129)
def m6 (M : Mem) : Mem := (mset (mset (mset (mset (mset (mset M 1 10 10) 26 10 10) 46 10 10) 66 10 10) 86 10 10) 106 10 10)
set_option maxHeartbeats 4000000 in
set_option maxRecDepth 100000 in
theorem i_X6 (M : Mem) (hz : Zr M 0) : CT mX6_init 4 131 8362 [.inr (some 0)] [(9, 5, [some none, some none, some none, some none, some none])] M (fun r9 sh9 M9 => r9 = none ∧ sh9 = sX6 ∧ M9 = m6 M) := by
  refine CT.of (by decide +kernel) (Nat.le_of_ble_eq_true rfl) [some (.inr (some 0))] rfl ?_
  refine V.aload_n dX6_init_0 rfl ?_
  refine V.objInit dX6_init_1 kl_X6_3 (by decide) (Nat.le_of_ble_eq_true rfl) ?_
  refine V.aload_n dX6_init_4 rfl ?_
  refine V.new (t := 3) (N := 13) (fs := [some none, some none, none, some none, some none, some none, none, some none, some none, some none, none, none, some none]) (a := 1) dX6_init_5 rfl kk_X6_9 kn_X3 ki_X3 ku_X3 tyX3_ok rfl (fun i => hz _ (show 0 ≤ ([(9, 5, [some none, some none, some none, some none, some none])]).length from Nat.le_of_ble_eq_true rfl) i) bl_X3 (by decide) (by decide) rfl rfl ?_
  refine V.dup dX6_init_8 ?_
  refine V.callI (As := []) (rest := [.inr (some 1), .inr (some 0)]) dX6_init_9 mk_X6_11 (i_X3 ([(9, 5, [some none, some none, some none, some none, some none])]) 1 M rfl (hz.mono (Nat.le_of_ble_eq_true rfl))) rfl (by decide) rfl (Nat.le_of_ble_eq_true rfl) (by decide) (by decide) (fun r9 sh9 M9 h9 => ?_)
  obtain ⟨e1, e2, e3⟩ := h9
  rw [e1, e2, e3]
  have hz1 : Zr (mset M 1 10 10) 2 := hz.set (by decide) (by decide)
  have hz2 : Zr (mset M 1 10 10) 21 := hz1.mono (by decide)
  change V _ _ _ _ _ _ [.inr (some 1), .inr (some 0)] _ _ _ _ _
  refine V.putRF (k0 := 0) (sh2 := ([(9, 5, [some (some 1), some none, some none, some none, some none])] ++ sX3 1)) dX6_init_12 fi_X6_12 rfl (fun r h => by cases h; rfl) rfl (fun _ => ⟨rfl, rfl⟩) rfl (by decide) rfl ?_
  refine V.aload_n dX6_init_15 rfl ?_
  refine V.new (t := 2) (N := 2) (fs := [some none, some none]) (a := 21) dX6_init_16 rfl kk_X6_16 kn_X2 ki_X2 ku_X2 tyX2_ok rfl (fun i => hz2 _ (show 21 ≤ ([(9, 5, [some (some 1), some none, some none, some none, some none])] ++ sX3 1).length from Nat.le_of_ble_eq_true rfl) i) bl_X2 (by decide) (by decide) rfl rfl ?_
  refine V.dup dX6_init_19 ?_
  refine V.callI (As := []) (rest := [.inr (some 21), .inr (some 0)]) dX6_init_20 mk_X6_18 (i_X2 ([(9, 5, [some (some 1), some none, some none, some none, some none])] ++ sX3 1) 21 (mset M 1 10 10) rfl (hz2.mono (Nat.le_of_ble_eq_true rfl))) rfl (by decide) rfl (Nat.le_of_ble_eq_true rfl) (by decide) (by decide) (fun r9 sh9 M9 h9 => ?_)
  obtain ⟨e1, e2, e3⟩ := h9
  rw [e1, e2, e3]
  have hz3 : Zr (mset M 1 10 10) 24 := hz2.mono (by decide)
  change V _ _ _ _ _ _ [.inr (some 21), .inr (some 0)] _ _ _ _ _
  refine V.putRF (k0 := 1) (sh2 := ([(9, 5, [some (some 1), some (some 21), some none, some none, some none])] ++ sX3 1 ++ sX2 21)) dX6_init_23 fi_X6_19 rfl (fun r h => by cases h; rfl) rfl (fun _ => ⟨rfl, rfl⟩) rfl (by decide) rfl ?_
  refine V.aload_n dX6_init_26 rfl ?_
  refine V.new (t := 0) (N := 3) (fs := [some none, none, none]) (a := 24) dX6_init_27 rfl kk_X6_23 kn_X0 ki_X0 ku_X0 tyX0_ok rfl (fun i => hz3 _ (show 24 ≤ ([(9, 5, [some (some 1), some (some 21), some none, some none, some none])] ++ sX3 1 ++ sX2 21).length from Nat.le_of_ble_eq_true rfl) i) bl_X0 (by decide) (by decide) rfl rfl ?_
  refine V.dup dX6_init_30 ?_
  refine V.callC (As := []) (rest := [.inr (some 24), .inr (some 0)]) dX6_init_31 mk_X6_25 (i_X0 ([(9, 5, [some (some 1), some (some 21), some none, some none, some none])] ++ sX3 1 ++ sX2 21) 24 (mset M 1 10 10) rfl (hz3.mono (Nat.le_of_ble_eq_true rfl))) rfl (by decide) rfl (Nat.le_of_ble_eq_true rfl) (by decide) (by decide) (fun r9 sh9 M9 h9 => ?_)
  obtain ⟨e1, e2, e3⟩ := h9
  rw [e1, e2, e3]
  have hz4 : Zr (mset (mset M 1 10 10) 26 10 10) 27 := hz3.set (by decide) (by decide)
  have hz5 : Zr (mset (mset (mset M 1 10 10) 26 10 10) 46 10 10) 47 := hz4.set (by decide) (by decide)
  have hz6 : Zr (mset (mset (mset (mset M 1 10 10) 26 10 10) 46 10 10) 66 10 10) 67 := hz5.set (by decide) (by decide)
  have hz7 : Zr (mset (mset (mset (mset (mset M 1 10 10) 26 10 10) 46 10 10) 66 10 10) 86 10 10) 87 := hz6.set (by decide) (by decide)
  have hz8 : Zr (mset (mset (mset (mset (mset (mset M 1 10 10) 26 10 10) 46 10 10) 66 10 10) 86 10 10) 106 10 10) 107 := hz7.set (by decide) (by decide)
  have hz9 : Zr (mset (mset (mset (mset (mset (mset M 1 10 10) 26 10 10) 46 10 10) 66 10 10) 86 10 10) 106 10 10) 126 := hz8.mono (by decide)
  change V _ _ _ _ _ _ [.inr (some 24), .inr (some 0)] _ _ _ _ _
  refine V.putRF (k0 := 2) (sh2 := ([(9, 5, [some (some 1), some (some 21), some (some 24), some none, some none])] ++ sX3 1 ++ sX2 21 ++ sX0 24)) dX6_init_34 fi_X6_26 rfl (fun r h => by cases h; rfl) rfl (fun _ => ⟨rfl, rfl⟩) rfl (by decide) rfl ?_
  refine V.aload_n dX6_init_37 rfl ?_
  refine V.new (t := 4) (N := 3) (fs := [some none, none, some none]) (a := 126) dX6_init_38 rfl kk_X6_30 kn_X4 ki_X4 ku_X4 tyX4_ok rfl (fun i => hz9 _ (show 126 ≤ ([(9, 5, [some (some 1), some (some 21), some (some 24), some none, some none])] ++ sX3 1 ++ sX2 21 ++ sX0 24).length from Nat.le_of_ble_eq_true rfl) i) bl_X4 (by decide) (by decide) rfl rfl ?_
  refine V.dup dX6_init_41 ?_
  refine V.callI (As := []) (rest := [.inr (some 126), .inr (some 0)]) dX6_init_42 mk_X6_32 (i_X4 ([(9, 5, [some (some 1), some (some 21), some (some 24), some none, some none])] ++ sX3 1 ++ sX2 21 ++ sX0 24) 126 (mset (mset (mset (mset (mset (mset M 1 10 10) 26 10 10) 46 10 10) 66 10 10) 86 10 10) 106 10 10) rfl (hz9.mono (Nat.le_of_ble_eq_true rfl))) rfl (by decide) rfl (Nat.le_of_ble_eq_true rfl) (by decide) (by decide) (fun r9 sh9 M9 h9 => ?_)
  obtain ⟨e1, e2, e3⟩ := h9
  rw [e1, e2, e3]
  have hz10 : Zr (mset (mset (mset (mset (mset (mset M 1 10 10) 26 10 10) 46 10 10) 66 10 10) 86 10 10) 106 10 10) 129 := hz9.mono (by decide)
  change V _ _ _ _ _ _ [.inr (some 126), .inr (some 0)] _ _ _ _ _
  refine V.putRF (k0 := 3) (sh2 := ([(9, 5, [some (some 1), some (some 21), some (some 24), some (some 126), some none])] ++ sX3 1 ++ sX2 21 ++ sX0 24 ++ sX4 126)) dX6_init_45 fi_X6_33 rfl (fun r h => by cases h; rfl) rfl (fun _ => ⟨rfl, rfl⟩) rfl (by decide) rfl ?_
  refine V.aload_n dX6_init_48 rfl ?_
  refine V.new (t := 5) (N := 3) (fs := [some none, some none, none]) (a := 129) dX6_init_49 rfl kk_X6_37 kn_X5 ki_X5 ku_X5 tyX5_ok rfl (fun i => hz10 _ (show 129 ≤ ([(9, 5, [some (some 1), some (some 21), some (some 24), some (some 126), some none])] ++ sX3 1 ++ sX2 21 ++ sX0 24 ++ sX4 126).length from Nat.le_of_ble_eq_true rfl) i) bl_X5 (by decide) (by decide) rfl rfl ?_
  refine V.dup dX6_init_52 ?_
  refine V.callI (As := []) (rest := [.inr (some 129), .inr (some 0)]) dX6_init_53 mk_X6_39 (i_X5 ([(9, 5, [some (some 1), some (some 21), some (some 24), some (some 126), some none])] ++ sX3 1 ++ sX2 21 ++ sX0 24 ++ sX4 126) 129 (mset (mset (mset (mset (mset (mset M 1 10 10) 26 10 10) 46 10 10) 66 10 10) 86 10 10) 106 10 10) rfl (hz10.mono (Nat.le_of_ble_eq_true rfl))) rfl (by decide) rfl (Nat.le_of_ble_eq_true rfl) (by decide) (by decide) (fun r9 sh9 M9 h9 => ?_)
  obtain ⟨e1, e2, e3⟩ := h9
  rw [e1, e2, e3]
  have hz11 : Zr (mset (mset (mset (mset (mset (mset M 1 10 10) 26 10 10) 46 10 10) 66 10 10) 86 10 10) 106 10 10) 132 := hz10.mono (by decide)
  change V _ _ _ _ _ _ [.inr (some 129), .inr (some 0)] _ _ _ _ _
  refine V.putRF (k0 := 4) (sh2 := ([(9, 5, [some (some 1), some (some 21), some (some 24), some (some 126), some (some 129)])] ++ sX3 1 ++ sX2 21 ++ sX0 24 ++ sX4 126 ++ sX5 129)) dX6_init_56 fi_X6_40 rfl (fun r h => by cases h; rfl) rfl (fun _ => ⟨rfl, rfl⟩) rfl (by decide) rfl ?_
  exact V.vret dX6_init_59 rfl (by decide) (by decide) ⟨rfl, rfl, rfl⟩
set_option maxRecDepth 100000 in
theorem sX6_len : sX6.length = 132 := by rfl
set_option maxRecDepth 100000 in
theorem sX6_SH : sX6 = SH := by rfl
