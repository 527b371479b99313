/-! ===== THE LAW'S SMALL METHODS ===== -/
section RULES2
variable {μ : Mu} {d mc ms pc : Nat} {lv : List (Option AV)} {st : List AV} {sh : Shp} {M : Mem} {ck sk : Nat} {Q : Option AV → Shp → Mem → Prop}
theorem V.ishr {a b : Int} (hd : decode μ.2.1 pc = .ok (.ishr, 1)) (k : V μ d mc ms (pc + 1) lv (.inl (iShr a b) :: st) sh M ck sk Q) : V μ d mc ms (pc) lv (.inl b :: .inl a :: st) sh M ck sk Q := by
  intro p l e s m args below meth cd base D cI cM cS H locs ls C hW hF hz hL hR
  refine lv_ishr C.1 C.2.1 hd ?_
  have k2 := k p l e s m args below meth cd base D cI cM cS H locs ls C hW hF hz hL hR
  simp only [List.map_cons, cv, iShr, Int32.ofInt_toInt] at k2 ⊢
  exact k2
theorem V.ldc {idx : Nat} {n : Int} (hd : decode μ.2.1 pc = .ok (.ldc idx, 2)) (hk : Cond.constant μ.1.cls idx (Int32.ofInt n) ∈ fm_TBL) (k : V μ d mc ms (pc + 2) lv (.inl n :: st) sh M ck sk Q) : V μ d mc ms (pc) lv (st) sh M ck sk Q := by
  intro p l e s m args below meth cd base D cI cM cS H locs ls C hW hF hz hL hR
  exact lv_ldc C.1 C.2.1 C.2.2.2.2.1 (C.2.2.2.2.2.1 _ (fm_cons hk)) hd (k p l e s m args below meth cd base D cI cM cS H locs ls C hW hF hz hL hR)
end RULES2
section XR2
variable {μ : Mu} {d pc : Nat} {lv : List (Option AV)} {st : List AV} {M : Mem} {Q : Option AV → Mem → Prop}
theorem X.ishr {a b c : Int} (hd : decode μ.2.1 pc = .ok (.ishr, 1)) (hc : iShr a b = c) (k : VQ μ d (pc + 1) lv (.inl c :: st) M Q) : VQ μ d pc lv (.inl b :: .inl a :: st) M Q := V.ishr hd (hc ▸ k)
theorem X.ldc {idx : Nat} {n : Int} (hd : decode μ.2.1 pc = .ok (.ldc idx, 2)) (hk : Cond.constant μ.1.cls idx (Int32.ofInt n) ∈ fm_TBL) (k : VQ μ d (pc + 2) lv (.inl n :: st) M Q) : VQ μ d pc lv st M Q := V.ldc hd hk k
end XR2
theorem kq7 : Cond.constant RL 7 (Int32.ofInt 2147483647) ∈ fm_TBL := by
  have e : Int32.ofInt 2147483647 = 2147483647 := by decide
  rw [e]; exact kq_L_7
theorem iabs_lt {a b : Int} (h : a < b) : b - a = iabs (a - b) := by unfold iabs; rw [if_neg (by omega)]; omega
theorem iabs_ge {a b : Int} (h : b ≤ a) : a - b = iabs (a - b) := by unfold iabs; rw [if_pos (by omega)]
theorem lo_in (x : Int) {n : Int} (hn : 1 ≤ n ∧ n ≤ 2147483647) : inR (lo x n) := by
  have := lo_r x hn.1
  exact ⟨by omega, by omega⟩
theorem lo_in1 (x : Int) {n : Int} (hn : 1 ≤ n ∧ n ≤ 2147483646) : inR (1 + lo x n) := by
  have := lo_r x hn.1
  exact ⟨by omega, by omega⟩
theorem lo_in2 (x : Int) {n : Int} (hn : 1 ≤ n ∧ n ≤ 2147483647) : inR (lo x n - 1) := by
  have := lo_r x hn.1
  exact ⟨by omega, by omega⟩
set_option maxHeartbeats 4000000 in
set_option maxRecDepth 100000 in
theorem c_low (M : Mem) (v n : Int) (hn : 1 ≤ n ∧ n ≤ 2147483647) : CX mL_low 0 [.inl v, .inl n] M (some (.inl (lo v n))) M := by
  have hm : 0 ≤ iAnd v 2147483647 ∧ iAnd v 2147483647 ≤ 2147483647 := iAnd_mask v (n := 2147483647) (by decide)
  refine CX.of (by decide +kernel) (Nat.le_of_ble_eq_true rfl) [some (.inl v), some (.inl n)] rfl ?_
  refine X.iload_n dL_low_0 rfl ?_
  refine X.ldc dL_low_1 kq7 ?_
  refine X.iand (c := iAnd v 2147483647) dL_low_3 rfl ?_
  refine X.iload_n dL_low_4 rfl ?_
  refine X.irem (c := (iAnd v 2147483647) % n) dL_low_5 hm ⟨by omega, hn.2⟩ rfl ?_
  exact X.iret dL_low_6 rfl rfl rfl
set_option maxHeartbeats 4000000 in
set_option maxRecDepth 100000 in
theorem c_apart (M : Mem) (a b : Int) (ha : inR a) (hb : inR b) : CX mL_apart 0 [.inl a, .inl b] M (some (.inl (iabs (a - b)))) M := by
  refine CX.of (by decide +kernel) (Nat.le_of_ble_eq_true rfl) [some (.inl a), some (.inl b)] rfl ?_
  refine X.iload_n dL_apart_0 rfl ?_
  refine X.iload_n dL_apart_1 rfl ?_
  refine X.icmp_ge (tgt := 11) dL_apart_2 (by decide) ha hb (fun h1 => ?_) (fun h1 => ?_)
  · skip
    refine X.iload_n dL_apart_11 rfl ?_
    refine X.iload_n dL_apart_12 rfl ?_
    refine X.isub (c := a - b) dL_apart_13 rfl ?_
    exact X.iret dL_apart_14 rfl (congrArg (fun q => some (Sum.inl q : AV)) (iabs_ge (by omega))) rfl
  · skip
    refine X.iload_n dL_apart_5 rfl ?_
    refine X.iload_n dL_apart_6 rfl ?_
    refine X.isub (c := b - a) dL_apart_7 rfl ?_
    refine X.goto (tgt := 14) dL_apart_8 (by decide) ?_
    exact X.iret dL_apart_14 rfl (congrArg (fun q => some (Sum.inl q : AV)) (iabs_lt (by omega))) rfl
set_option maxHeartbeats 4000000 in
set_option maxRecDepth 100000 in
theorem c_act (M : Mem) (v : Vw) (z : Int) (H : Int → Vw) (tl : Int) (T : Int → Int) (hR : RF M (v, z, H, tl, T)) (y : Int) : CQ mL_act 9 [.inr (some 0), .inl y] M (OUT M (aS y (v, z, H, tl, T))) := by
  obtain ⟨w, hw⟩ : ∃ w, iAnd y 15 = w := ⟨_, rfl⟩
  refine CX.of (by decide +kernel) (Nat.le_of_ble_eq_true rfl) [some (.inr (some 0)), some (.inl y), none] rfl ?_
  refine X.iload_n dL_act_0 rfl ?_
  refine X.iconst dL_act_1 ?_
  refine X.ishr (c := iShr y 4) dL_act_2 rfl ?_
  refine X.istore_n (lv2 := [some (.inr (some 0)), some (.inl y), some (.inl (iShr y 4))]) dL_act_3 (Nat.le_of_ble_eq_true rfl) rfl ?_
  refine X.iload_n dL_act_4 rfl ?_
  refine X.bipush dL_act_5 (by decide) ?_
  refine X.iand (c := w) dL_act_7 hw ?_
  rcases (show w = 0 ∨ w = 1 ∨ w = 2 ∨ w = 3 ∨ w = 4 ∨ w = 5 ∨ w = 6 ∨ w = 7 ∨ w = 8 ∨ w = 9 ∨ (w < 0 ∨ 9 < w) from by omega) with rfl | rfl | rfl | rfl | rfl | rfl | rfl | rfl | rfl | rfl | hout
  · skip
    refine X.tabIn (tgt := 64) dL_act_8 (by decide) (by decide) (by decide) rfl (by decide) ?_
    refine X.aload_n dL_act_64 rfl ?_
    refine X.iload_n dL_act_65 rfl ?_
    refine X.bipush dL_act_66 (by decide) ?_
    refine X.callS1 (As := [.inl (iShr y 4), .inl 12]) (rest := [.inr (some 0)]) dL_act_68 mk_L_33 (c_low M (iShr y 4) 12 (by decide)) rfl (by decide) rfl (Nat.le_of_ble_eq_true rfl) ?_
    refine X.iload_n dL_act_71 rfl ?_
    refine X.bipush dL_act_72 (by decide) ?_
    refine X.ishr (c := iShr y 7) dL_act_74 rfl ?_
    refine X.bipush dL_act_75 (by decide) ?_
    refine X.callS1 (As := [.inl (iShr y 7), .inl 10]) (rest := [.inl (lo (iShr y 4) 12), .inr (some 0)]) dL_act_77 mk_L_33 (c_low M (iShr y 7) 10 (by decide)) rfl (by decide) rfl (Nat.le_of_ble_eq_true rfl) ?_
    refine X.iload_n dL_act_80 rfl ?_
    refine X.bipush dL_act_81 (by decide) ?_
    refine X.ishr (c := iShr y 6) dL_act_83 rfl ?_
    refine X.bipush dL_act_84 (by decide) ?_
    refine X.callS1 (As := [.inl (iShr y 6), .inl 11]) (rest := [.inl (lo (iShr y 7) 10), .inl (lo (iShr y 4) 12), .inr (some 0)]) dL_act_86 mk_L_33 (c_low M (iShr y 6) 11 (by decide)) rfl (by decide) rfl (Nat.le_of_ble_eq_true rfl) ?_
    refine Y.callV (As := [.inl (lo (iShr y 4) 12), .inl (lo (iShr y 7) 10), .inl (lo (iShr y 6) 11)]) (rest := []) dL_act_89 mk_L_38 sh_0 (c_setHeight M v z H tl T hR (lo (iShr y 4) 12) (lo (iShr y 7) 10) (lo (iShr y 6) 11) (lo_in _ (by decide)) (lo_in _ (by decide)) (lo_in _ (by decide))) rfl (by decide) rfl (Nat.le_of_ble_eq_true rfl) (fun r9 M9 h9 => ?_)
    obtain ⟨h90, h9f⟩ := h9
    subst h90
    exact Y.iret dL_act_92 rfl (by unfold aS; rw [if_pos (by omega)]; exact ⟨rfl, h9f⟩)
  · skip
    refine X.tabIn (tgt := 64) dL_act_8 (by decide) (by decide) (by decide) rfl (by decide) ?_
    refine X.aload_n dL_act_64 rfl ?_
    refine X.iload_n dL_act_65 rfl ?_
    refine X.bipush dL_act_66 (by decide) ?_
    refine X.callS1 (As := [.inl (iShr y 4), .inl 12]) (rest := [.inr (some 0)]) dL_act_68 mk_L_33 (c_low M (iShr y 4) 12 (by decide)) rfl (by decide) rfl (Nat.le_of_ble_eq_true rfl) ?_
    refine X.iload_n dL_act_71 rfl ?_
    refine X.bipush dL_act_72 (by decide) ?_
    refine X.ishr (c := iShr y 7) dL_act_74 rfl ?_
    refine X.bipush dL_act_75 (by decide) ?_
    refine X.callS1 (As := [.inl (iShr y 7), .inl 10]) (rest := [.inl (lo (iShr y 4) 12), .inr (some 0)]) dL_act_77 mk_L_33 (c_low M (iShr y 7) 10 (by decide)) rfl (by decide) rfl (Nat.le_of_ble_eq_true rfl) ?_
    refine X.iload_n dL_act_80 rfl ?_
    refine X.bipush dL_act_81 (by decide) ?_
    refine X.ishr (c := iShr y 6) dL_act_83 rfl ?_
    refine X.bipush dL_act_84 (by decide) ?_
    refine X.callS1 (As := [.inl (iShr y 6), .inl 11]) (rest := [.inl (lo (iShr y 7) 10), .inl (lo (iShr y 4) 12), .inr (some 0)]) dL_act_86 mk_L_33 (c_low M (iShr y 6) 11 (by decide)) rfl (by decide) rfl (Nat.le_of_ble_eq_true rfl) ?_
    refine Y.callV (As := [.inl (lo (iShr y 4) 12), .inl (lo (iShr y 7) 10), .inl (lo (iShr y 6) 11)]) (rest := []) dL_act_89 mk_L_38 sh_0 (c_setHeight M v z H tl T hR (lo (iShr y 4) 12) (lo (iShr y 7) 10) (lo (iShr y 6) 11) (lo_in _ (by decide)) (lo_in _ (by decide)) (lo_in _ (by decide))) rfl (by decide) rfl (Nat.le_of_ble_eq_true rfl) (fun r9 M9 h9 => ?_)
    obtain ⟨h90, h9f⟩ := h9
    subst h90
    exact Y.iret dL_act_92 rfl (by unfold aS; rw [if_pos (by omega)]; exact ⟨rfl, h9f⟩)
  · skip
    refine X.tabIn (tgt := 93) dL_act_8 (by decide) (by decide) (by decide) rfl (by decide) ?_
    refine X.aload_n dL_act_93 rfl ?_
    refine X.iload_n dL_act_94 rfl ?_
    refine X.bipush dL_act_95 (by decide) ?_
    refine X.callS1 (As := [.inl (iShr y 4), .inl 12]) (rest := [.inr (some 0)]) dL_act_97 mk_L_33 (c_low M (iShr y 4) 12 (by decide)) rfl (by decide) rfl (Nat.le_of_ble_eq_true rfl) ?_
    refine X.iload_n dL_act_100 rfl ?_
    refine X.bipush dL_act_101 (by decide) ?_
    refine X.ishr (c := iShr y 7) dL_act_103 rfl ?_
    refine X.bipush dL_act_104 (by decide) ?_
    refine X.callS1 (As := [.inl (iShr y 7), .inl 10]) (rest := [.inl (lo (iShr y 4) 12), .inr (some 0)]) dL_act_106 mk_L_33 (c_low M (iShr y 7) 10 (by decide)) rfl (by decide) rfl (Nat.le_of_ble_eq_true rfl) ?_
    refine X.iload_n dL_act_109 rfl ?_
    refine X.bipush dL_act_110 (by decide) ?_
    refine X.ishr (c := iShr y 9) dL_act_112 rfl ?_
    refine X.iconst dL_act_113 ?_
    refine X.iand (c := iAnd (iShr y 9) 1) dL_act_114 rfl ?_
    refine Y.callV (As := [.inl (lo (iShr y 4) 12), .inl (lo (iShr y 7) 10), .inl (iAnd (iShr y 9) 1)]) (rest := []) dL_act_115 mk_L_41 sh_0 (c_setWall M v z H tl T hR (lo (iShr y 4) 12) (lo (iShr y 7) 10) (iAnd (iShr y 9) 1) (lo_in _ (by decide)) (lo_in _ (by decide)) (iAnd_inR _ _)) rfl (by decide) rfl (Nat.le_of_ble_eq_true rfl) (fun r9 M9 h9 => ?_)
    obtain ⟨h90, h9f⟩ := h9
    subst h90
    exact Y.iret dL_act_118 rfl (by unfold aS; rw [if_neg (by omega), if_pos (by omega)]; exact ⟨rfl, h9f⟩)
  · skip
    refine X.tabIn (tgt := 119) dL_act_8 (by decide) (by decide) (by decide) rfl (by decide) ?_
    refine X.aload_n dL_act_119 rfl ?_
    refine X.iload_n dL_act_120 rfl ?_
    refine X.iconst dL_act_121 ?_
    refine X.callS1 (As := [.inl (iShr y 4), .inl 2]) (rest := [.inr (some 0)]) dL_act_122 mk_L_33 (c_low M (iShr y 4) 2 (by decide)) rfl (by decide) rfl (Nat.le_of_ble_eq_true rfl) ?_
    refine X.iload_n dL_act_125 rfl ?_
    refine X.iconst dL_act_126 ?_
    refine X.ishr (c := iShr y 5) dL_act_127 rfl ?_
    refine X.bipush dL_act_128 (by decide) ?_
    refine X.callS1 (As := [.inl (iShr y 5), .inl 12]) (rest := [.inl (lo (iShr y 4) 2), .inr (some 0)]) dL_act_130 mk_L_33 (c_low M (iShr y 5) 12 (by decide)) rfl (by decide) rfl (Nat.le_of_ble_eq_true rfl) ?_
    refine X.iload_n dL_act_133 rfl ?_
    refine X.bipush dL_act_134 (by decide) ?_
    refine X.ishr (c := iShr y 7) dL_act_136 rfl ?_
    refine X.bipush dL_act_137 (by decide) ?_
    refine X.callS1 (As := [.inl (iShr y 7), .inl 10]) (rest := [.inl (lo (iShr y 5) 12), .inl (lo (iShr y 4) 2), .inr (some 0)]) dL_act_139 mk_L_33 (c_low M (iShr y 7) 10 (by decide)) rfl (by decide) rfl (Nat.le_of_ble_eq_true rfl) ?_
    refine X.iconst dL_act_142 ?_
    refine X.iload_n dL_act_143 rfl ?_
    refine X.bipush dL_act_144 (by decide) ?_
    refine X.ishr (c := iShr y 6) dL_act_146 rfl ?_
    refine X.iconst dL_act_147 ?_
    refine X.callS1 (As := [.inl (iShr y 6), .inl 5]) (rest := [.inl 1, .inl (lo (iShr y 7) 10), .inl (lo (iShr y 5) 12), .inl (lo (iShr y 4) 2), .inr (some 0)]) dL_act_148 mk_L_33 (c_low M (iShr y 6) 5 (by decide)) rfl (by decide) rfl (Nat.le_of_ble_eq_true rfl) ?_
    refine X.iadd (c := 1 + (lo (iShr y 6) 5)) dL_act_151 rfl ?_
    refine Y.callV (As := [.inl (lo (iShr y 4) 2), .inl (lo (iShr y 5) 12), .inl (lo (iShr y 7) 10), .inl (1 + (lo (iShr y 6) 5))]) (rest := []) dL_act_152 mk_L_44 sh_0 (c_addScout M v z H tl T hR (lo (iShr y 4) 2) (lo (iShr y 5) 12) (lo (iShr y 7) 10) (1 + (lo (iShr y 6) 5)) (lo_in _ (by decide)) (lo_in _ (by decide)) (lo_in _ (by decide)) (lo_in1 _ (by decide))) rfl (by decide) rfl (Nat.le_of_ble_eq_true rfl) (fun r9 M9 h9 => ?_)
    obtain ⟨h90, h9f⟩ := h9
    subst h90
    exact Y.iret dL_act_155 rfl (by unfold aS; rw [if_neg (by omega), if_neg (by omega), if_pos (by omega)]; exact ⟨rfl, h9f⟩)
  · skip
    refine X.tabIn (tgt := 156) dL_act_8 (by decide) (by decide) (by decide) rfl (by decide) ?_
    refine X.aload_n dL_act_156 rfl ?_
    refine X.iload_n dL_act_157 rfl ?_
    refine X.bipush dL_act_158 (by decide) ?_
    refine X.callS1 (As := [.inl (iShr y 4), .inl 6]) (rest := [.inr (some 0)]) dL_act_160 mk_L_33 (c_low M (iShr y 4) 6 (by decide)) rfl (by decide) rfl (Nat.le_of_ble_eq_true rfl) ?_
    refine Y.callV (As := [.inl (lo (iShr y 4) 6)]) (rest := []) dL_act_163 mk_L_47 sh_0 (c_removeScout M v z H tl T hR (lo (iShr y 4) 6) (lo_in _ (by decide))) rfl (by decide) rfl (Nat.le_of_ble_eq_true rfl) (fun r9 M9 h9 => ?_)
    obtain ⟨h90, h9f⟩ := h9
    subst h90
    exact Y.iret dL_act_166 rfl (by unfold aS; rw [if_neg (by omega), if_neg (by omega), if_neg (by omega), if_pos (by omega)]; exact ⟨rfl, h9f⟩)
  · skip
    refine X.tabIn (tgt := 167) dL_act_8 (by decide) (by decide) (by decide) rfl (by decide) ?_
    refine X.aload_n dL_act_167 rfl ?_
    refine X.iload_n dL_act_168 rfl ?_
    refine X.bipush dL_act_169 (by decide) ?_
    refine X.callS1 (As := [.inl (iShr y 4), .inl 12]) (rest := [.inr (some 0)]) dL_act_171 mk_L_33 (c_low M (iShr y 4) 12 (by decide)) rfl (by decide) rfl (Nat.le_of_ble_eq_true rfl) ?_
    refine X.iload_n dL_act_174 rfl ?_
    refine X.bipush dL_act_175 (by decide) ?_
    refine X.ishr (c := iShr y 7) dL_act_177 rfl ?_
    refine X.bipush dL_act_178 (by decide) ?_
    refine X.callS1 (As := [.inl (iShr y 7), .inl 10]) (rest := [.inl (lo (iShr y 4) 12), .inr (some 0)]) dL_act_180 mk_L_33 (c_low M (iShr y 7) 10 (by decide)) rfl (by decide) rfl (Nat.le_of_ble_eq_true rfl) ?_
    refine X.iload_n dL_act_183 rfl ?_
    refine X.bipush dL_act_184 (by decide) ?_
    refine X.ishr (c := iShr y 6) dL_act_186 rfl ?_
    refine X.iconst dL_act_187 ?_
    refine X.callS1 (As := [.inl (iShr y 6), .inl 5]) (rest := [.inl (lo (iShr y 7) 10), .inl (lo (iShr y 4) 12), .inr (some 0)]) dL_act_188 mk_L_33 (c_low M (iShr y 6) 5 (by decide)) rfl (by decide) rfl (Nat.le_of_ble_eq_true rfl) ?_
    refine X.iload_n dL_act_191 rfl ?_
    refine X.bipush dL_act_192 (by decide) ?_
    refine X.ishr (c := iShr y 8) dL_act_194 rfl ?_
    refine X.bipush dL_act_195 (by decide) ?_
    refine X.callS1 (As := [.inl (iShr y 8), .inl 6]) (rest := [.inl (lo (iShr y 6) 5), .inl (lo (iShr y 7) 10), .inl (lo (iShr y 4) 12), .inr (some 0)]) dL_act_197 mk_L_33 (c_low M (iShr y 8) 6 (by decide)) rfl (by decide) rfl (Nat.le_of_ble_eq_true rfl) ?_
    refine Y.callV (As := [.inl (lo (iShr y 4) 12), .inl (lo (iShr y 7) 10), .inl (lo (iShr y 6) 5), .inl (lo (iShr y 8) 6)]) (rest := []) dL_act_200 mk_L_50 sh_0 (c_addLight M v z H tl T hR (lo (iShr y 4) 12) (lo (iShr y 7) 10) (lo (iShr y 6) 5) (lo (iShr y 8) 6) (lo_in _ (by decide)) (lo_in _ (by decide)) (lo_in _ (by decide)) (lo_in _ (by decide))) rfl (by decide) rfl (Nat.le_of_ble_eq_true rfl) (fun r9 M9 h9 => ?_)
    obtain ⟨h90, h9f⟩ := h9
    subst h90
    exact Y.iret dL_act_203 rfl (by unfold aS; rw [if_neg (by omega), if_neg (by omega), if_neg (by omega), if_neg (by omega), if_pos (by omega)]; exact ⟨rfl, h9f⟩)
  · skip
    refine X.tabIn (tgt := 204) dL_act_8 (by decide) (by decide) (by decide) rfl (by decide) ?_
    refine X.aload_n dL_act_204 rfl ?_
    refine X.iload_n dL_act_205 rfl ?_
    refine X.iconst dL_act_206 ?_
    refine X.callS1 (As := [.inl (iShr y 4), .inl 3]) (rest := [.inr (some 0)]) dL_act_207 mk_L_33 (c_low M (iShr y 4) 3 (by decide)) rfl (by decide) rfl (Nat.le_of_ble_eq_true rfl) ?_
    refine X.iload_n dL_act_210 rfl ?_
    refine X.bipush dL_act_211 (by decide) ?_
    refine X.ishr (c := iShr y 7) dL_act_213 rfl ?_
    refine X.bipush dL_act_214 (by decide) ?_
    refine X.callS1 (As := [.inl (iShr y 7), .inl 6]) (rest := [.inl (lo (iShr y 4) 3), .inr (some 0)]) dL_act_216 mk_L_33 (c_low M (iShr y 7) 6 (by decide)) rfl (by decide) rfl (Nat.le_of_ble_eq_true rfl) ?_
    refine Y.callV (As := [.inl (lo (iShr y 4) 3), .inl (lo (iShr y 7) 6)]) (rest := []) dL_act_219 mk_L_53 sh_0 (c_setOil M v z H tl T hR (lo (iShr y 4) 3) (lo (iShr y 7) 6) (lo_in _ (by decide)) (lo_in _ (by decide))) rfl (by decide) rfl (Nat.le_of_ble_eq_true rfl) (fun r9 M9 h9 => ?_)
    obtain ⟨h90, h9f⟩ := h9
    subst h90
    exact Y.iret dL_act_222 rfl (by unfold aS; rw [if_neg (by omega), if_neg (by omega), if_neg (by omega), if_neg (by omega), if_neg (by omega), if_pos (by omega)]; exact ⟨rfl, h9f⟩)
  · skip
    refine X.tabIn (tgt := 223) dL_act_8 (by decide) (by decide) (by decide) rfl (by decide) ?_
    refine X.iload_n dL_act_223 rfl ?_
    refine X.bipush dL_act_224 (by decide) ?_
    refine X.iand (c := iAnd y 64) dL_act_226 rfl ?_
    refine X.if_ne (tgt := 245) dL_act_227 (by decide) (iAnd_inR _ _) (fun h227 => ?_) (fun h227 => ?_)
    · skip
      refine X.aload_n dL_act_245 rfl ?_
      refine X.iconst dL_act_246 ?_
      refine X.iload_n dL_act_247 rfl ?_
      refine X.bipush dL_act_248 (by decide) ?_
      refine X.ishr (c := iShr y 7) dL_act_250 rfl ?_
      refine X.bipush dL_act_251 (by decide) ?_
      refine X.callS1 (As := [.inl (iShr y 7), .inl 12]) (rest := [.inl 1, .inr (some 0)]) dL_act_253 mk_L_33 (c_low M (iShr y 7) 12 (by decide)) rfl (by decide) rfl (Nat.le_of_ble_eq_true rfl) ?_
      refine X.iadd (c := 1 + (lo (iShr y 7) 12)) dL_act_256 rfl ?_
      refine Y.callV (As := [.inl (1 + (lo (iShr y 7) 12))]) (rest := []) dL_act_257 mk_L_59 sh_0 (c_setFogTime M v z H tl T hR (1 + (lo (iShr y 7) 12)) (lo_in1 _ (by decide))) rfl (by decide) rfl (Nat.le_of_ble_eq_true rfl) (fun r9 M9 h9 => ?_)
      obtain ⟨h90, h9f⟩ := h9
      subst h90
      exact Y.iret dL_act_260 rfl (by unfold aS; rw [if_neg (by omega), if_neg (by omega), if_neg (by omega), if_neg (by omega), if_neg (by omega), if_neg (by omega), if_pos (by omega), if_neg h227]; exact ⟨rfl, h9f⟩)
    · skip
      refine X.aload_n dL_act_230 rfl ?_
      refine X.iload_n dL_act_231 rfl ?_
      refine X.bipush dL_act_232 (by decide) ?_
      refine X.ishr (c := iShr y 7) dL_act_234 rfl ?_
      refine X.iconst dL_act_235 ?_
      refine X.callS1 (As := [.inl (iShr y 7), .inl 3]) (rest := [.inr (some 0)]) dL_act_236 mk_L_33 (c_low M (iShr y 7) 3 (by decide)) rfl (by decide) rfl (Nat.le_of_ble_eq_true rfl) ?_
      refine Y.callV (As := [.inl (lo (iShr y 7) 3)]) (rest := []) dL_act_239 mk_L_56 sh_0 (c_removeLight M v z H tl T hR (lo (iShr y 7) 3) (lo_in _ (by decide))) rfl (by decide) rfl (Nat.le_of_ble_eq_true rfl) (fun r9 M9 h9 => ?_)
      obtain ⟨h90, h9f⟩ := h9
      subst h90
      refine X.goto (tgt := 260) dL_act_242 (by decide) ?_
      exact Y.iret dL_act_260 rfl (by unfold aS; rw [if_neg (by omega), if_neg (by omega), if_neg (by omega), if_neg (by omega), if_neg (by omega), if_neg (by omega), if_pos (by omega), if_pos h227]; exact ⟨rfl, h9f⟩)
  · skip
    refine X.tabIn (tgt := 261) dL_act_8 (by decide) (by decide) (by decide) rfl (by decide) ?_
    refine X.aload_n dL_act_261 rfl ?_
    refine X.iconst dL_act_262 ?_
    refine X.iload_n dL_act_263 rfl ?_
    refine X.iconst dL_act_264 ?_
    refine X.callS1 (As := [.inl (iShr y 4), .inl 5]) (rest := [.inl 1, .inr (some 0)]) dL_act_265 mk_L_33 (c_low M (iShr y 4) 5 (by decide)) rfl (by decide) rfl (Nat.le_of_ble_eq_true rfl) ?_
    refine X.iadd (c := 1 + (lo (iShr y 4) 5)) dL_act_268 rfl ?_
    refine Y.callV (As := [.inl (1 + (lo (iShr y 4) 5))]) (rest := []) dL_act_269 mk_L_62 sh_0 (c_pass M v z H tl T hR (1 + (lo (iShr y 4) 5)) (lo_in1 _ (by decide))) rfl (by decide) rfl (Nat.le_of_ble_eq_true rfl) (fun r9 M9 h9 => ?_)
    obtain ⟨h90, h9f⟩ := h9
    subst h90
    exact Y.iret dL_act_272 rfl (by unfold aS; rw [if_neg (by omega), if_neg (by omega), if_neg (by omega), if_neg (by omega), if_neg (by omega), if_neg (by omega), if_neg (by omega), if_pos (by omega)]; exact ⟨rfl, h9f⟩)
  · skip
    refine X.tabIn (tgt := 261) dL_act_8 (by decide) (by decide) (by decide) rfl (by decide) ?_
    refine X.aload_n dL_act_261 rfl ?_
    refine X.iconst dL_act_262 ?_
    refine X.iload_n dL_act_263 rfl ?_
    refine X.iconst dL_act_264 ?_
    refine X.callS1 (As := [.inl (iShr y 4), .inl 5]) (rest := [.inl 1, .inr (some 0)]) dL_act_265 mk_L_33 (c_low M (iShr y 4) 5 (by decide)) rfl (by decide) rfl (Nat.le_of_ble_eq_true rfl) ?_
    refine X.iadd (c := 1 + (lo (iShr y 4) 5)) dL_act_268 rfl ?_
    refine Y.callV (As := [.inl (1 + (lo (iShr y 4) 5))]) (rest := []) dL_act_269 mk_L_62 sh_0 (c_pass M v z H tl T hR (1 + (lo (iShr y 4) 5)) (lo_in1 _ (by decide))) rfl (by decide) rfl (Nat.le_of_ble_eq_true rfl) (fun r9 M9 h9 => ?_)
    obtain ⟨h90, h9f⟩ := h9
    subst h90
    exact Y.iret dL_act_272 rfl (by unfold aS; rw [if_neg (by omega), if_neg (by omega), if_neg (by omega), if_neg (by omega), if_neg (by omega), if_neg (by omega), if_neg (by omega), if_pos (by omega)]; exact ⟨rfl, h9f⟩)
  · skip
    refine X.tabOut (tgt := 273) dL_act_8 (by rw [← hw]; exact iAnd_inR y 15) (by omega) (by decide) ?_
    refine X.aload_n dL_act_273 rfl ?_
    refine X.iload_n dL_act_274 rfl ?_
    refine X.iconst dL_act_275 ?_
    refine X.callS1 (As := [.inl (iShr y 4), .inl 4]) (rest := [.inr (some 0)]) dL_act_276 mk_L_33 (c_low M (iShr y 4) 4 (by decide)) rfl (by decide) rfl (Nat.le_of_ble_eq_true rfl) ?_
    refine X.iload_n dL_act_279 rfl ?_
    refine X.bipush dL_act_280 (by decide) ?_
    refine X.ishr (c := iShr y 6) dL_act_282 rfl ?_
    refine X.iconst dL_act_283 ?_
    refine X.callS1 (As := [.inl (iShr y 6), .inl 3]) (rest := [.inl (lo (iShr y 4) 4), .inr (some 0)]) dL_act_284 mk_L_33 (c_low M (iShr y 6) 3 (by decide)) rfl (by decide) rfl (Nat.le_of_ble_eq_true rfl) ?_
    refine X.iconst dL_act_287 ?_
    refine X.isub (c := (lo (iShr y 6) 3) - 1) dL_act_288 rfl ?_
    refine X.iload_n dL_act_289 rfl ?_
    refine X.bipush dL_act_290 (by decide) ?_
    refine X.ishr (c := iShr y 8) dL_act_292 rfl ?_
    refine X.iconst dL_act_293 ?_
    refine X.callS1 (As := [.inl (iShr y 8), .inl 3]) (rest := [.inl ((lo (iShr y 6) 3) - 1), .inl (lo (iShr y 4) 4), .inr (some 0)]) dL_act_294 mk_L_33 (c_low M (iShr y 8) 3 (by decide)) rfl (by decide) rfl (Nat.le_of_ble_eq_true rfl) ?_
    refine X.iconst dL_act_297 ?_
    refine X.isub (c := (lo (iShr y 8) 3) - 1) dL_act_298 rfl ?_
    refine Y.callV (As := [.inl (lo (iShr y 4) 4), .inl ((lo (iShr y 6) 3) - 1), .inl ((lo (iShr y 8) 3) - 1)]) (rest := []) dL_act_299 mk_L_65 sh_0 (c_step M v z H tl T hR (lo (iShr y 4) 4) ((lo (iShr y 6) 3) - 1) ((lo (iShr y 8) 3) - 1) (lo_in _ (by decide)) (lo_in2 _ (by decide)) (lo_in2 _ (by decide))) rfl (by decide) rfl (Nat.le_of_ble_eq_true rfl) (fun r9 M9 h9 => ?_)
    obtain ⟨h90, h9f⟩ := h9
    subst h90
    exact Y.iret dL_act_302 rfl (by unfold aS; rw [if_neg (by omega), if_neg (by omega), if_neg (by omega), if_neg (by omega), if_neg (by omega), if_neg (by omega), if_neg (by omega), if_neg (by omega)]; exact ⟨rfl, h9f⟩)
