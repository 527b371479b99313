/-! ===== THE LAW'S CASES ===== -/
/-- what goes on behind a case -/
def KT (p : Program) (l : Launch) (e : Env) (s : State) (m : MethodId) (below : List Frame) (meth : Method) (c : Code) (b : Nat) (D : va_G) (cI cM cS : ClassId) (ck sk : Nat) (ls : Array Slot) (Z : State → Prop) : Prop :=
  ∀ (M' : Mem) (H' : Heap) (locs' : List Loc) (σ' : AbS), RF M' σ' → RM M' σ' → Wh s.heap.size D cI cM cS SH M' H' → va_S (lwA s) s.heap H' locs' → W p l e room_1 s m #[Value.ref b] below meth c H' locs' ck sk Z (F0 m 899 ls [])
section CASES
variable {p : Program} {l : Launch} {e : Env} {s : State} {m : MethodId} {below : List Frame} {meth : Method} {c : Code} {b L : Nat} {xs : Nat → Int32} {D : va_G} {cI cM cS : ClassId}
variable {H : Heap} {locs : List Loc} {ck sk : Nat} {ls : Array Slot} {Z : State → Prop} {M : Mem} {i : Int} {σ : AbS}
set_option maxHeartbeats 4000000 in
set_option maxRecDepth 100000 in
theorem lx_case0 (C : LC p s m meth c b L xs D cI cM cS) (hL : L ≤ 2560) (hi : 0 ≤ i ∧ i + 4 < (L : Int)) (hl : lv_has ls 4 (LV b s.heap.size i)) (hR : RF M σ) (hQ : RM M σ) (hW : Wh s.heap.size D cI cM cS SH M H) (hS : va_S (lwA s) s.heap H locs) (hck : ck ≤ 600000) (hsk : sk ≤ 7302250) (k : KT p l e s m below meth c b D cI cM cS ck sk ls Z) : W p l e room_1 s m #[Value.ref b] below meth c H locs ck sk Z (F0 m 140 ls []) := by
  obtain ⟨v, z, Hh, tl, T⟩ := σ
  refine lv_aload_n C.1.1 C.1.2.1 dL_law_140 rfl (lv_at hl 1 rfl) ?_
  refine lx_arg (k := 1) C hL hS hl dL_law_143 ⟨by omega, by omega⟩ dL_law_141 dL_law_142 dL_law_144 dL_law_145 ?_
  refine lx_arg (k := 2) C hL hS hl dL_law_148 ⟨by omega, by omega⟩ dL_law_146 dL_law_147 dL_law_149 dL_law_150 ?_
  refine lx_arg (k := 3) C hL hS hl dL_law_153 ⟨by omega, by omega⟩ dL_law_151 dL_law_152 dL_law_154 dL_law_155 ?_
  refine lx_callV (As := [.inl (ag xs i 1), .inl (ag xs i 2), .inl (ag xs i 3)]) (rest := []) (a := 0) C hW hS hl.1 dL_law_156 mk_L_13 sh_0 (c_setHeight M v z Hh tl T hR (ag xs i 1) (ag xs i 2) (ag xs i 3) (ag_in xs i 1) (ag_in xs i 2) (ag_in xs i 3)) rfl (by decide) rfl (by decide) hck hsk (fun r1 M1 H1 locs1 h1 hW1 hS1 => ?_)
  obtain ⟨e1, hR1, hf1⟩ := h1
  rw [e1]
  refine lv_aload_n C.1.1 C.1.2.1 dL_law_159 rfl (lv_at hl 2 rfl) ?_
  refine lx_arg (k := 1) C hL hS1 hl dL_law_162 ⟨by omega, by omega⟩ dL_law_160 dL_law_161 dL_law_163 dL_law_164 ?_
  refine lx_arg (k := 2) C hL hS1 hl dL_law_167 ⟨by omega, by omega⟩ dL_law_165 dL_law_166 dL_law_168 dL_law_169 ?_
  refine lx_arg (k := 3) C hL hS1 hl dL_law_172 ⟨by omega, by omega⟩ dL_law_170 dL_law_171 dL_law_173 dL_law_174 ?_
  refine lx_callV (As := [.inl (ag xs i 1), .inl (ag xs i 2), .inl (ag xs i 3)]) (rest := [.int (Int32.ofInt _)]) (a := 132) C hW1 hS1 hl.1 dL_law_175 mk_L_17 sh_132 (c_msetHeight M1 v z Hh tl T (RM.lo hQ hf1) (ag xs i 1) (ag xs i 2) (ag xs i 3) (ag_in xs i 1) (ag_in xs i 2) (ag_in xs i 3)) rfl (by decide) rfl (Nat.le_of_ble_eq_true rfl) hck hsk (fun r2 M2 H2 locs2 h2 hW2 hS2 => ?_)
  obtain ⟨e2, hR2, hf2⟩ := h2
  rw [e2]
  refine lv_icmp_eq (tgt := 899) C.1.1 C.1.2.1 dL_law_178 (by decide) (fun _ => ?_) (fun h => absurd rfl h)
  exact k M2 H2 locs2 _ (hR1.frame (fun a ha => hf2 a (by omega))) hR2 hW2 hS2
set_option maxHeartbeats 4000000 in
set_option maxRecDepth 100000 in
theorem lx_case1 (C : LC p s m meth c b L xs D cI cM cS) (hL : L ≤ 2560) (hi : 0 ≤ i ∧ i + 4 < (L : Int)) (hl : lv_has ls 4 (LV b s.heap.size i)) (hR : RF M σ) (hQ : RM M σ) (hW : Wh s.heap.size D cI cM cS SH M H) (hS : va_S (lwA s) s.heap H locs) (hck : ck ≤ 600000) (hsk : sk ≤ 7302250) (k : KT p l e s m below meth c b D cI cM cS ck sk ls Z) : W p l e room_1 s m #[Value.ref b] below meth c H locs ck sk Z (F0 m 183 ls []) := by
  obtain ⟨v, z, Hh, tl, T⟩ := σ
  refine lv_aload_n C.1.1 C.1.2.1 dL_law_183 rfl (lv_at hl 1 rfl) ?_
  refine lx_arg (k := 1) C hL hS hl dL_law_186 ⟨by omega, by omega⟩ dL_law_184 dL_law_185 dL_law_187 dL_law_188 ?_
  refine lx_arg (k := 2) C hL hS hl dL_law_191 ⟨by omega, by omega⟩ dL_law_189 dL_law_190 dL_law_192 dL_law_193 ?_
  refine lx_arg (k := 3) C hL hS hl dL_law_196 ⟨by omega, by omega⟩ dL_law_194 dL_law_195 dL_law_197 dL_law_198 ?_
  refine lx_callV (As := [.inl (ag xs i 1), .inl (ag xs i 2), .inl (ag xs i 3)]) (rest := []) (a := 0) C hW hS hl.1 dL_law_199 mk_L_18 sh_0 (c_setWall M v z Hh tl T hR (ag xs i 1) (ag xs i 2) (ag xs i 3) (ag_in xs i 1) (ag_in xs i 2) (ag_in xs i 3)) rfl (by decide) rfl (by decide) hck hsk (fun r1 M1 H1 locs1 h1 hW1 hS1 => ?_)
  obtain ⟨e1, hR1, hf1⟩ := h1
  rw [e1]
  refine lv_aload_n C.1.1 C.1.2.1 dL_law_202 rfl (lv_at hl 2 rfl) ?_
  refine lx_arg (k := 1) C hL hS1 hl dL_law_205 ⟨by omega, by omega⟩ dL_law_203 dL_law_204 dL_law_206 dL_law_207 ?_
  refine lx_arg (k := 2) C hL hS1 hl dL_law_210 ⟨by omega, by omega⟩ dL_law_208 dL_law_209 dL_law_211 dL_law_212 ?_
  refine lx_arg (k := 3) C hL hS1 hl dL_law_215 ⟨by omega, by omega⟩ dL_law_213 dL_law_214 dL_law_216 dL_law_217 ?_
  refine lx_callV (As := [.inl (ag xs i 1), .inl (ag xs i 2), .inl (ag xs i 3)]) (rest := [.int (Int32.ofInt _)]) (a := 132) C hW1 hS1 hl.1 dL_law_218 mk_L_21 sh_132 (c_msetWall M1 v z Hh tl T (RM.lo hQ hf1) (ag xs i 1) (ag xs i 2) (ag xs i 3) (ag_in xs i 1) (ag_in xs i 2) (ag_in xs i 3)) rfl (by decide) rfl (Nat.le_of_ble_eq_true rfl) hck hsk (fun r2 M2 H2 locs2 h2 hW2 hS2 => ?_)
  obtain ⟨e2, hR2, hf2⟩ := h2
  rw [e2]
  refine lv_icmp_eq (tgt := 899) C.1.1 C.1.2.1 dL_law_221 (by decide) (fun _ => ?_) (fun h => absurd rfl h)
  exact k M2 H2 locs2 _ (hR1.frame (fun a ha => hf2 a (by omega))) hR2 hW2 hS2
set_option maxHeartbeats 4000000 in
set_option maxRecDepth 100000 in
theorem lx_case2 (C : LC p s m meth c b L xs D cI cM cS) (hL : L ≤ 2560) (hi : 0 ≤ i ∧ i + 4 < (L : Int)) (hl : lv_has ls 4 (LV b s.heap.size i)) (hR : RF M σ) (hQ : RM M σ) (hW : Wh s.heap.size D cI cM cS SH M H) (hS : va_S (lwA s) s.heap H locs) (hck : ck ≤ 600000) (hsk : sk ≤ 7302250) (k : KT p l e s m below meth c b D cI cM cS ck sk ls Z) : W p l e room_1 s m #[Value.ref b] below meth c H locs ck sk Z (F0 m 226 ls []) := by
  obtain ⟨v, z, Hh, tl, T⟩ := σ
  refine lv_aload_n C.1.1 C.1.2.1 dL_law_226 rfl (lv_at hl 1 rfl) ?_
  refine lx_arg (k := 1) C hL hS hl dL_law_229 ⟨by omega, by omega⟩ dL_law_227 dL_law_228 dL_law_230 dL_law_231 ?_
  refine lx_callV (As := [.inl (ag xs i 1)]) (rest := []) (a := 0) C hW hS hl.1 dL_law_232 mk_L_22 sh_0 (c_append M v z Hh tl T hR (ag xs i 1) (ag_in xs i 1)) rfl (by decide) rfl (by decide) hck hsk (fun r1 M1 H1 locs1 h1 hW1 hS1 => ?_)
  obtain ⟨e1, hR1, hf1⟩ := h1
  rw [e1]
  refine lv_aload_n C.1.1 C.1.2.1 dL_law_235 rfl (lv_at hl 2 rfl) ?_
  refine lx_arg (k := 1) C hL hS1 hl dL_law_238 ⟨by omega, by omega⟩ dL_law_236 dL_law_237 dL_law_239 dL_law_240 ?_
  refine lx_callV (As := [.inl (ag xs i 1)]) (rest := [.int (Int32.ofInt _)]) (a := 132) C hW1 hS1 hl.1 dL_law_241 mk_L_26 sh_132 (c_mappend M1 v z Hh tl T (RM.lo hQ hf1) (ag xs i 1) (ag_in xs i 1)) rfl (by decide) rfl (Nat.le_of_ble_eq_true rfl) hck hsk (fun r2 M2 H2 locs2 h2 hW2 hS2 => ?_)
  obtain ⟨e2, hR2, hf2⟩ := h2
  rw [e2]
  refine lv_icmp_eq (tgt := 899) C.1.1 C.1.2.1 dL_law_244 (by decide) (fun _ => ?_) (fun h => absurd rfl h)
  exact k M2 H2 locs2 _ (hR1.frame (fun a ha => hf2 a (by omega))) hR2 hW2 hS2
set_option maxHeartbeats 4000000 in
set_option maxRecDepth 100000 in
theorem lx_case3 (C : LC p s m meth c b L xs D cI cM cS) (hL : L ≤ 2560) (hi : 0 ≤ i ∧ i + 4 < (L : Int)) (hl : lv_has ls 4 (LV b s.heap.size i)) (hR : RF M σ) (hQ : RM M σ) (hW : Wh s.heap.size D cI cM cS SH M H) (hS : va_S (lwA s) s.heap H locs) (hck : ck ≤ 600000) (hsk : sk ≤ 7302250) (k : KT p l e s m below meth c b D cI cM cS ck sk ls Z) : W p l e room_1 s m #[Value.ref b] below meth c H locs ck sk Z (F0 m 249 ls []) := by
  obtain ⟨v, z, Hh, tl, T⟩ := σ
  refine lv_aload_n C.1.1 C.1.2.1 dL_law_249 rfl (lv_at hl 1 rfl) ?_
  refine lx_callV (As := []) (rest := []) (a := 0) C hW hS hl.1 dL_law_250 mk_L_27 sh_0 (c_clearText M v z Hh tl T hR) rfl (by decide) rfl (by decide) hck hsk (fun r1 M1 H1 locs1 h1 hW1 hS1 => ?_)
  obtain ⟨e1, hR1, hf1⟩ := h1
  rw [e1]
  refine lv_aload_n C.1.1 C.1.2.1 dL_law_253 rfl (lv_at hl 2 rfl) ?_
  refine lx_callV (As := []) (rest := [.int (Int32.ofInt _)]) (a := 132) C hW1 hS1 hl.1 dL_law_254 mk_L_31 sh_132 (c_mclearText M1 v z Hh tl T (RM.lo hQ hf1)) rfl (by decide) rfl (Nat.le_of_ble_eq_true rfl) hck hsk (fun r2 M2 H2 locs2 h2 hW2 hS2 => ?_)
  obtain ⟨e2, hR2, hf2⟩ := h2
  rw [e2]
  refine lv_icmp_eq (tgt := 899) C.1.1 C.1.2.1 dL_law_257 (by decide) (fun _ => ?_) (fun h => absurd rfl h)
  exact k M2 H2 locs2 _ (hR1.frame (fun a ha => hf2 a (by omega))) hR2 hW2 hS2
set_option maxHeartbeats 4000000 in
set_option maxRecDepth 100000 in
theorem lx_case4 (C : LC p s m meth c b L xs D cI cM cS) (hL : L ≤ 2560) (hi : 0 ≤ i ∧ i + 4 < (L : Int)) (hl : lv_has ls 4 (LV b s.heap.size i)) (hR : RF M σ) (hQ : RM M σ) (hW : Wh s.heap.size D cI cM cS SH M H) (hS : va_S (lwA s) s.heap H locs) (hck : ck ≤ 600000) (hsk : sk ≤ 7302250) (k : KT p l e s m below meth c b D cI cM cS ck sk ls Z) : W p l e room_1 s m #[Value.ref b] below meth c H locs ck sk Z (F0 m 262 ls []) := by
  obtain ⟨v, z, Hh, tl, T⟩ := σ
  refine lv_aload_n C.1.1 C.1.2.1 dL_law_262 rfl (lv_at hl 1 rfl) ?_
  refine lx_callV (As := []) (rest := []) (a := 0) C hW hS hl.1 dL_law_263 mk_L_32 sh_0 (c_load M v z Hh tl T hR) rfl (by decide) rfl (by decide) hck hsk (fun r1 M1 H1 locs1 h1 hW1 hS1 => ?_)
  obtain ⟨e1, hR1, hf1⟩ := h1
  rw [e1]
  refine lv_aload_n C.1.1 C.1.2.1 dL_law_266 rfl (lv_at hl 2 rfl) ?_
  refine lx_callV (As := []) (rest := [.int (Int32.ofInt _)]) (a := 132) C hW1 hS1 hl.1 dL_law_267 mk_L_35 sh_132 (c_mload M1 v z Hh tl T (RM.lo hQ hf1)) rfl (by decide) rfl (Nat.le_of_ble_eq_true rfl) hck hsk (fun r2 M2 H2 locs2 h2 hW2 hS2 => ?_)
  obtain ⟨e2, hR2, hf2⟩ := h2
  rw [e2]
  refine lv_icmp_eq (tgt := 899) C.1.1 C.1.2.1 dL_law_270 (by decide) (fun _ => ?_) (fun h => absurd rfl h)
  exact k M2 H2 locs2 _ (hR1.frame (fun a ha => hf2 a (by omega))) hR2 hW2 hS2
set_option maxHeartbeats 4000000 in
set_option maxRecDepth 100000 in
theorem lx_case5 (C : LC p s m meth c b L xs D cI cM cS) (hL : L ≤ 2560) (hi : 0 ≤ i ∧ i + 4 < (L : Int)) (hl : lv_has ls 4 (LV b s.heap.size i)) (hR : RF M σ) (hQ : RM M σ) (hW : Wh s.heap.size D cI cM cS SH M H) (hS : va_S (lwA s) s.heap H locs) (hck : ck ≤ 600000) (hsk : sk ≤ 7302250) (k : KT p l e s m below meth c b D cI cM cS ck sk ls Z) : W p l e room_1 s m #[Value.ref b] below meth c H locs ck sk Z (F0 m 275 ls []) := by
  obtain ⟨v, z, Hh, tl, T⟩ := σ
  refine lv_aload_n C.1.1 C.1.2.1 dL_law_275 rfl (lv_at hl 1 rfl) ?_
  refine lx_arg (k := 1) C hL hS hl dL_law_278 ⟨by omega, by omega⟩ dL_law_276 dL_law_277 dL_law_279 dL_law_280 ?_
  refine lx_arg (k := 2) C hL hS hl dL_law_283 ⟨by omega, by omega⟩ dL_law_281 dL_law_282 dL_law_284 dL_law_285 ?_
  refine lx_arg (k := 3) C hL hS hl dL_law_288 ⟨by omega, by omega⟩ dL_law_286 dL_law_287 dL_law_289 dL_law_290 ?_
  refine lx_arg (k := 4) C hL hS hl dL_law_293 ⟨by omega, by omega⟩ dL_law_291 dL_law_292 dL_law_294 dL_law_295 ?_
  refine lx_callV (As := [.inl (ag xs i 1), .inl (ag xs i 2), .inl (ag xs i 3), .inl (ag xs i 4)]) (rest := []) (a := 0) C hW hS hl.1 dL_law_296 mk_L_36 sh_0 (c_addScout M v z Hh tl T hR (ag xs i 1) (ag xs i 2) (ag xs i 3) (ag xs i 4) (ag_in xs i 1) (ag_in xs i 2) (ag_in xs i 3) (ag_in xs i 4)) rfl (by decide) rfl (by decide) hck hsk (fun r1 M1 H1 locs1 h1 hW1 hS1 => ?_)
  obtain ⟨e1, hR1, hf1⟩ := h1
  rw [e1]
  refine lv_aload_n C.1.1 C.1.2.1 dL_law_299 rfl (lv_at hl 2 rfl) ?_
  refine lx_arg (k := 1) C hL hS1 hl dL_law_302 ⟨by omega, by omega⟩ dL_law_300 dL_law_301 dL_law_303 dL_law_304 ?_
  refine lx_arg (k := 2) C hL hS1 hl dL_law_307 ⟨by omega, by omega⟩ dL_law_305 dL_law_306 dL_law_308 dL_law_309 ?_
  refine lx_arg (k := 3) C hL hS1 hl dL_law_312 ⟨by omega, by omega⟩ dL_law_310 dL_law_311 dL_law_313 dL_law_314 ?_
  refine lx_arg (k := 4) C hL hS1 hl dL_law_317 ⟨by omega, by omega⟩ dL_law_315 dL_law_316 dL_law_318 dL_law_319 ?_
  refine lx_callV (As := [.inl (ag xs i 1), .inl (ag xs i 2), .inl (ag xs i 3), .inl (ag xs i 4)]) (rest := [.int (Int32.ofInt _)]) (a := 132) C hW1 hS1 hl.1 dL_law_320 mk_L_40 sh_132 (c_maddScout M1 v z Hh tl T (RM.lo hQ hf1) (ag xs i 1) (ag xs i 2) (ag xs i 3) (ag xs i 4) (ag_in xs i 1) (ag_in xs i 2) (ag_in xs i 3) (ag_in xs i 4)) rfl (by decide) rfl (Nat.le_of_ble_eq_true rfl) hck hsk (fun r2 M2 H2 locs2 h2 hW2 hS2 => ?_)
  obtain ⟨e2, hR2, hf2⟩ := h2
  rw [e2]
  refine lv_icmp_eq (tgt := 899) C.1.1 C.1.2.1 dL_law_323 (by decide) (fun _ => ?_) (fun h => absurd rfl h)
  exact k M2 H2 locs2 _ (hR1.frame (fun a ha => hf2 a (by omega))) hR2 hW2 hS2
set_option maxHeartbeats 4000000 in
set_option maxRecDepth 100000 in
theorem lx_case6 (C : LC p s m meth c b L xs D cI cM cS) (hL : L ≤ 2560) (hi : 0 ≤ i ∧ i + 4 < (L : Int)) (hl : lv_has ls 4 (LV b s.heap.size i)) (hR : RF M σ) (hQ : RM M σ) (hW : Wh s.heap.size D cI cM cS SH M H) (hS : va_S (lwA s) s.heap H locs) (hck : ck ≤ 600000) (hsk : sk ≤ 7302250) (k : KT p l e s m below meth c b D cI cM cS ck sk ls Z) : W p l e room_1 s m #[Value.ref b] below meth c H locs ck sk Z (F0 m 328 ls []) := by
  obtain ⟨v, z, Hh, tl, T⟩ := σ
  refine lv_aload_n C.1.1 C.1.2.1 dL_law_328 rfl (lv_at hl 1 rfl) ?_
  refine lx_arg (k := 1) C hL hS hl dL_law_331 ⟨by omega, by omega⟩ dL_law_329 dL_law_330 dL_law_332 dL_law_333 ?_
  refine lx_arg (k := 2) C hL hS hl dL_law_336 ⟨by omega, by omega⟩ dL_law_334 dL_law_335 dL_law_337 dL_law_338 ?_
  refine lx_arg (k := 3) C hL hS hl dL_law_341 ⟨by omega, by omega⟩ dL_law_339 dL_law_340 dL_law_342 dL_law_343 ?_
  refine lx_callV (As := [.inl (ag xs i 1), .inl (ag xs i 2), .inl (ag xs i 3)]) (rest := []) (a := 0) C hW hS hl.1 dL_law_344 mk_L_41 sh_0 (c_step M v z Hh tl T hR (ag xs i 1) (ag xs i 2) (ag xs i 3) (ag_in xs i 1) (ag_in xs i 2) (ag_in xs i 3)) rfl (by decide) rfl (by decide) hck hsk (fun r1 M1 H1 locs1 h1 hW1 hS1 => ?_)
  obtain ⟨e1, hR1, hf1⟩ := h1
  rw [e1]
  refine lv_aload_n C.1.1 C.1.2.1 dL_law_347 rfl (lv_at hl 2 rfl) ?_
  refine lx_arg (k := 1) C hL hS1 hl dL_law_350 ⟨by omega, by omega⟩ dL_law_348 dL_law_349 dL_law_351 dL_law_352 ?_
  refine lx_arg (k := 2) C hL hS1 hl dL_law_355 ⟨by omega, by omega⟩ dL_law_353 dL_law_354 dL_law_356 dL_law_357 ?_
  refine lx_arg (k := 3) C hL hS1 hl dL_law_360 ⟨by omega, by omega⟩ dL_law_358 dL_law_359 dL_law_361 dL_law_362 ?_
  refine lx_callV (As := [.inl (ag xs i 1), .inl (ag xs i 2), .inl (ag xs i 3)]) (rest := [.int (Int32.ofInt _)]) (a := 132) C hW1 hS1 hl.1 dL_law_363 mk_L_44 sh_132 (c_mstep M1 v z Hh tl T (RM.lo hQ hf1) (ag xs i 1) (ag xs i 2) (ag xs i 3) (ag_in xs i 1) (ag_in xs i 2) (ag_in xs i 3)) rfl (by decide) rfl (Nat.le_of_ble_eq_true rfl) hck hsk (fun r2 M2 H2 locs2 h2 hW2 hS2 => ?_)
  obtain ⟨e2, hR2, hf2⟩ := h2
  rw [e2]
  refine lv_icmp_eq (tgt := 899) C.1.1 C.1.2.1 dL_law_366 (by decide) (fun _ => ?_) (fun h => absurd rfl h)
  exact k M2 H2 locs2 _ (hR1.frame (fun a ha => hf2 a (by omega))) hR2 hW2 hS2
set_option maxHeartbeats 4000000 in
set_option maxRecDepth 100000 in
theorem lx_case7 (C : LC p s m meth c b L xs D cI cM cS) (hL : L ≤ 2560) (hi : 0 ≤ i ∧ i + 4 < (L : Int)) (hl : lv_has ls 4 (LV b s.heap.size i)) (hR : RF M σ) (hQ : RM M σ) (hW : Wh s.heap.size D cI cM cS SH M H) (hS : va_S (lwA s) s.heap H locs) (hck : ck ≤ 600000) (hsk : sk ≤ 7302250) (k : KT p l e s m below meth c b D cI cM cS ck sk ls Z) : W p l e room_1 s m #[Value.ref b] below meth c H locs ck sk Z (F0 m 371 ls []) := by
  obtain ⟨v, z, Hh, tl, T⟩ := σ
  refine lv_aload_n C.1.1 C.1.2.1 dL_law_371 rfl (lv_at hl 1 rfl) ?_
  refine lx_arg (k := 1) C hL hS hl dL_law_374 ⟨by omega, by omega⟩ dL_law_372 dL_law_373 dL_law_375 dL_law_376 ?_
  refine lx_callV (As := [.inl (ag xs i 1)]) (rest := []) (a := 0) C hW hS hl.1 dL_law_377 mk_L_45 sh_0 (c_removeScout M v z Hh tl T hR (ag xs i 1) (ag_in xs i 1)) rfl (by decide) rfl (by decide) hck hsk (fun r1 M1 H1 locs1 h1 hW1 hS1 => ?_)
  obtain ⟨e1, hR1, hf1⟩ := h1
  rw [e1]
  refine lv_aload_n C.1.1 C.1.2.1 dL_law_380 rfl (lv_at hl 2 rfl) ?_
  refine lx_arg (k := 1) C hL hS1 hl dL_law_383 ⟨by omega, by omega⟩ dL_law_381 dL_law_382 dL_law_384 dL_law_385 ?_
  refine lx_callV (As := [.inl (ag xs i 1)]) (rest := [.int (Int32.ofInt _)]) (a := 132) C hW1 hS1 hl.1 dL_law_386 mk_L_48 sh_132 (c_mremoveScout M1 v z Hh tl T (RM.lo hQ hf1) (ag xs i 1) (ag_in xs i 1)) rfl (by decide) rfl (Nat.le_of_ble_eq_true rfl) hck hsk (fun r2 M2 H2 locs2 h2 hW2 hS2 => ?_)
  obtain ⟨e2, hR2, hf2⟩ := h2
  rw [e2]
  refine lv_icmp_eq (tgt := 899) C.1.1 C.1.2.1 dL_law_389 (by decide) (fun _ => ?_) (fun h => absurd rfl h)
  exact k M2 H2 locs2 _ (hR1.frame (fun a ha => hf2 a (by omega))) hR2 hW2 hS2
set_option maxHeartbeats 4000000 in
set_option maxRecDepth 100000 in
theorem lx_case8 (C : LC p s m meth c b L xs D cI cM cS) (hL : L ≤ 2560) (hi : 0 ≤ i ∧ i + 4 < (L : Int)) (hl : lv_has ls 4 (LV b s.heap.size i)) (hR : RF M σ) (hQ : RM M σ) (hW : Wh s.heap.size D cI cM cS SH M H) (hS : va_S (lwA s) s.heap H locs) (hck : ck ≤ 600000) (hsk : sk ≤ 7302250) (k : KT p l e s m below meth c b D cI cM cS ck sk ls Z) : W p l e room_1 s m #[Value.ref b] below meth c H locs ck sk Z (F0 m 394 ls []) := by
  obtain ⟨v, z, Hh, tl, T⟩ := σ
  refine lv_aload_n C.1.1 C.1.2.1 dL_law_394 rfl (lv_at hl 1 rfl) ?_
  refine lx_arg (k := 1) C hL hS hl dL_law_397 ⟨by omega, by omega⟩ dL_law_395 dL_law_396 dL_law_398 dL_law_399 ?_
  refine lx_arg (k := 2) C hL hS hl dL_law_402 ⟨by omega, by omega⟩ dL_law_400 dL_law_401 dL_law_403 dL_law_404 ?_
  refine lx_arg (k := 3) C hL hS hl dL_law_407 ⟨by omega, by omega⟩ dL_law_405 dL_law_406 dL_law_408 dL_law_409 ?_
  refine lx_arg (k := 4) C hL hS hl dL_law_412 ⟨by omega, by omega⟩ dL_law_410 dL_law_411 dL_law_413 dL_law_414 ?_
  refine lx_callV (As := [.inl (ag xs i 1), .inl (ag xs i 2), .inl (ag xs i 3), .inl (ag xs i 4)]) (rest := []) (a := 0) C hW hS hl.1 dL_law_415 mk_L_49 sh_0 (c_addLight M v z Hh tl T hR (ag xs i 1) (ag xs i 2) (ag xs i 3) (ag xs i 4) (ag_in xs i 1) (ag_in xs i 2) (ag_in xs i 3) (ag_in xs i 4)) rfl (by decide) rfl (by decide) hck hsk (fun r1 M1 H1 locs1 h1 hW1 hS1 => ?_)
  obtain ⟨e1, hR1, hf1⟩ := h1
  rw [e1]
  refine lv_aload_n C.1.1 C.1.2.1 dL_law_418 rfl (lv_at hl 2 rfl) ?_
  refine lx_arg (k := 1) C hL hS1 hl dL_law_421 ⟨by omega, by omega⟩ dL_law_419 dL_law_420 dL_law_422 dL_law_423 ?_
  refine lx_arg (k := 2) C hL hS1 hl dL_law_426 ⟨by omega, by omega⟩ dL_law_424 dL_law_425 dL_law_427 dL_law_428 ?_
  refine lx_arg (k := 3) C hL hS1 hl dL_law_431 ⟨by omega, by omega⟩ dL_law_429 dL_law_430 dL_law_432 dL_law_433 ?_
  refine lx_arg (k := 4) C hL hS1 hl dL_law_436 ⟨by omega, by omega⟩ dL_law_434 dL_law_435 dL_law_437 dL_law_438 ?_
  refine lx_callV (As := [.inl (ag xs i 1), .inl (ag xs i 2), .inl (ag xs i 3), .inl (ag xs i 4)]) (rest := [.int (Int32.ofInt _)]) (a := 132) C hW1 hS1 hl.1 dL_law_439 mk_L_52 sh_132 (c_maddLight M1 v z Hh tl T (RM.lo hQ hf1) (ag xs i 1) (ag xs i 2) (ag xs i 3) (ag xs i 4) (ag_in xs i 1) (ag_in xs i 2) (ag_in xs i 3) (ag_in xs i 4)) rfl (by decide) rfl (Nat.le_of_ble_eq_true rfl) hck hsk (fun r2 M2 H2 locs2 h2 hW2 hS2 => ?_)
  obtain ⟨e2, hR2, hf2⟩ := h2
  rw [e2]
  refine lv_icmp_eq (tgt := 899) C.1.1 C.1.2.1 dL_law_442 (by decide) (fun _ => ?_) (fun h => absurd rfl h)
  exact k M2 H2 locs2 _ (hR1.frame (fun a ha => hf2 a (by omega))) hR2 hW2 hS2
set_option maxHeartbeats 4000000 in
set_option maxRecDepth 100000 in
theorem lx_case9 (C : LC p s m meth c b L xs D cI cM cS) (hL : L ≤ 2560) (hi : 0 ≤ i ∧ i + 4 < (L : Int)) (hl : lv_has ls 4 (LV b s.heap.size i)) (hR : RF M σ) (hQ : RM M σ) (hW : Wh s.heap.size D cI cM cS SH M H) (hS : va_S (lwA s) s.heap H locs) (hck : ck ≤ 600000) (hsk : sk ≤ 7302250) (k : KT p l e s m below meth c b D cI cM cS ck sk ls Z) : W p l e room_1 s m #[Value.ref b] below meth c H locs ck sk Z (F0 m 447 ls []) := by
  obtain ⟨v, z, Hh, tl, T⟩ := σ
  refine lv_aload_n C.1.1 C.1.2.1 dL_law_447 rfl (lv_at hl 1 rfl) ?_
  refine lx_arg (k := 1) C hL hS hl dL_law_450 ⟨by omega, by omega⟩ dL_law_448 dL_law_449 dL_law_451 dL_law_452 ?_
  refine lx_arg (k := 2) C hL hS hl dL_law_455 ⟨by omega, by omega⟩ dL_law_453 dL_law_454 dL_law_456 dL_law_457 ?_
  refine lx_callV (As := [.inl (ag xs i 1), .inl (ag xs i 2)]) (rest := []) (a := 0) C hW hS hl.1 dL_law_458 mk_L_53 sh_0 (c_setOil M v z Hh tl T hR (ag xs i 1) (ag xs i 2) (ag_in xs i 1) (ag_in xs i 2)) rfl (by decide) rfl (by decide) hck hsk (fun r1 M1 H1 locs1 h1 hW1 hS1 => ?_)
  obtain ⟨e1, hR1, hf1⟩ := h1
  rw [e1]
  refine lv_aload_n C.1.1 C.1.2.1 dL_law_461 rfl (lv_at hl 2 rfl) ?_
  refine lx_arg (k := 1) C hL hS1 hl dL_law_464 ⟨by omega, by omega⟩ dL_law_462 dL_law_463 dL_law_465 dL_law_466 ?_
  refine lx_arg (k := 2) C hL hS1 hl dL_law_469 ⟨by omega, by omega⟩ dL_law_467 dL_law_468 dL_law_470 dL_law_471 ?_
  refine lx_callV (As := [.inl (ag xs i 1), .inl (ag xs i 2)]) (rest := [.int (Int32.ofInt _)]) (a := 132) C hW1 hS1 hl.1 dL_law_472 mk_L_57 sh_132 (c_msetOil M1 v z Hh tl T (RM.lo hQ hf1) (ag xs i 1) (ag xs i 2) (ag_in xs i 1) (ag_in xs i 2)) rfl (by decide) rfl (Nat.le_of_ble_eq_true rfl) hck hsk (fun r2 M2 H2 locs2 h2 hW2 hS2 => ?_)
  obtain ⟨e2, hR2, hf2⟩ := h2
  rw [e2]
  refine lv_icmp_eq (tgt := 899) C.1.1 C.1.2.1 dL_law_475 (by decide) (fun _ => ?_) (fun h => absurd rfl h)
  exact k M2 H2 locs2 _ (hR1.frame (fun a ha => hf2 a (by omega))) hR2 hW2 hS2
set_option maxHeartbeats 4000000 in
set_option maxRecDepth 100000 in
theorem lx_case10 (C : LC p s m meth c b L xs D cI cM cS) (hL : L ≤ 2560) (hi : 0 ≤ i ∧ i + 4 < (L : Int)) (hl : lv_has ls 4 (LV b s.heap.size i)) (hR : RF M σ) (hQ : RM M σ) (hW : Wh s.heap.size D cI cM cS SH M H) (hS : va_S (lwA s) s.heap H locs) (hck : ck ≤ 600000) (hsk : sk ≤ 7302250) (k : KT p l e s m below meth c b D cI cM cS ck sk ls Z) : W p l e room_1 s m #[Value.ref b] below meth c H locs ck sk Z (F0 m 480 ls []) := by
  obtain ⟨v, z, Hh, tl, T⟩ := σ
  refine lv_aload_n C.1.1 C.1.2.1 dL_law_480 rfl (lv_at hl 1 rfl) ?_
  refine lx_arg (k := 1) C hL hS hl dL_law_483 ⟨by omega, by omega⟩ dL_law_481 dL_law_482 dL_law_484 dL_law_485 ?_
  refine lx_callV (As := [.inl (ag xs i 1)]) (rest := []) (a := 0) C hW hS hl.1 dL_law_486 mk_L_58 sh_0 (c_removeLight M v z Hh tl T hR (ag xs i 1) (ag_in xs i 1)) rfl (by decide) rfl (by decide) hck hsk (fun r1 M1 H1 locs1 h1 hW1 hS1 => ?_)
  obtain ⟨e1, hR1, hf1⟩ := h1
  rw [e1]
  refine lv_aload_n C.1.1 C.1.2.1 dL_law_489 rfl (lv_at hl 2 rfl) ?_
  refine lx_arg (k := 1) C hL hS1 hl dL_law_492 ⟨by omega, by omega⟩ dL_law_490 dL_law_491 dL_law_493 dL_law_494 ?_
  refine lx_callV (As := [.inl (ag xs i 1)]) (rest := [.int (Int32.ofInt _)]) (a := 132) C hW1 hS1 hl.1 dL_law_495 mk_L_61 sh_132 (c_mremoveLight M1 v z Hh tl T (RM.lo hQ hf1) (ag xs i 1) (ag_in xs i 1)) rfl (by decide) rfl (Nat.le_of_ble_eq_true rfl) hck hsk (fun r2 M2 H2 locs2 h2 hW2 hS2 => ?_)
  obtain ⟨e2, hR2, hf2⟩ := h2
  rw [e2]
  refine lv_icmp_eq (tgt := 899) C.1.1 C.1.2.1 dL_law_498 (by decide) (fun _ => ?_) (fun h => absurd rfl h)
  exact k M2 H2 locs2 _ (hR1.frame (fun a ha => hf2 a (by omega))) hR2 hW2 hS2
set_option maxHeartbeats 4000000 in
set_option maxRecDepth 100000 in
theorem lx_case11 (C : LC p s m meth c b L xs D cI cM cS) (hL : L ≤ 2560) (hi : 0 ≤ i ∧ i + 4 < (L : Int)) (hl : lv_has ls 4 (LV b s.heap.size i)) (hR : RF M σ) (hQ : RM M σ) (hW : Wh s.heap.size D cI cM cS SH M H) (hS : va_S (lwA s) s.heap H locs) (hck : ck ≤ 600000) (hsk : sk ≤ 7302250) (k : KT p l e s m below meth c b D cI cM cS ck sk ls Z) : W p l e room_1 s m #[Value.ref b] below meth c H locs ck sk Z (F0 m 503 ls []) := by
  obtain ⟨v, z, Hh, tl, T⟩ := σ
  refine lv_aload_n C.1.1 C.1.2.1 dL_law_503 rfl (lv_at hl 1 rfl) ?_
  refine lx_arg (k := 1) C hL hS hl dL_law_506 ⟨by omega, by omega⟩ dL_law_504 dL_law_505 dL_law_507 dL_law_508 ?_
  refine lx_callV (As := [.inl (ag xs i 1)]) (rest := []) (a := 0) C hW hS hl.1 dL_law_509 mk_L_62 sh_0 (c_setFogTime M v z Hh tl T hR (ag xs i 1) (ag_in xs i 1)) rfl (by decide) rfl (by decide) hck hsk (fun r1 M1 H1 locs1 h1 hW1 hS1 => ?_)
  obtain ⟨e1, hR1, hf1⟩ := h1
  rw [e1]
  refine lv_aload_n C.1.1 C.1.2.1 dL_law_512 rfl (lv_at hl 2 rfl) ?_
  refine lx_arg (k := 1) C hL hS1 hl dL_law_515 ⟨by omega, by omega⟩ dL_law_513 dL_law_514 dL_law_516 dL_law_517 ?_
  refine lx_callV (As := [.inl (ag xs i 1)]) (rest := [.int (Int32.ofInt _)]) (a := 132) C hW1 hS1 hl.1 dL_law_518 mk_L_65 sh_132 (c_msetFogTime M1 v z Hh tl T (RM.lo hQ hf1) (ag xs i 1) (ag_in xs i 1)) rfl (by decide) rfl (Nat.le_of_ble_eq_true rfl) hck hsk (fun r2 M2 H2 locs2 h2 hW2 hS2 => ?_)
  obtain ⟨e2, hR2, hf2⟩ := h2
  rw [e2]
  refine lv_icmp_eq (tgt := 899) C.1.1 C.1.2.1 dL_law_521 (by decide) (fun _ => ?_) (fun h => absurd rfl h)
  exact k M2 H2 locs2 _ (hR1.frame (fun a ha => hf2 a (by omega))) hR2 hW2 hS2
set_option maxHeartbeats 4000000 in
set_option maxRecDepth 100000 in
theorem lx_case12 (C : LC p s m meth c b L xs D cI cM cS) (hL : L ≤ 2560) (hi : 0 ≤ i ∧ i + 4 < (L : Int)) (hl : lv_has ls 4 (LV b s.heap.size i)) (hR : RF M σ) (hQ : RM M σ) (hW : Wh s.heap.size D cI cM cS SH M H) (hS : va_S (lwA s) s.heap H locs) (hck : ck ≤ 600000) (hsk : sk ≤ 7302250) (k : KT p l e s m below meth c b D cI cM cS ck sk ls Z) : W p l e room_1 s m #[Value.ref b] below meth c H locs ck sk Z (F0 m 526 ls []) := by
  obtain ⟨v, z, Hh, tl, T⟩ := σ
  refine lv_aload_n C.1.1 C.1.2.1 dL_law_526 rfl (lv_at hl 1 rfl) ?_
  refine lx_arg (k := 1) C hL hS hl dL_law_529 ⟨by omega, by omega⟩ dL_law_527 dL_law_528 dL_law_530 dL_law_531 ?_
  refine lx_callV (As := [.inl (ag xs i 1)]) (rest := []) (a := 0) C hW hS hl.1 dL_law_532 mk_L_66 sh_0 (c_pass M v z Hh tl T hR (ag xs i 1) (ag_in xs i 1)) rfl (by decide) rfl (by decide) hck hsk (fun r1 M1 H1 locs1 h1 hW1 hS1 => ?_)
  obtain ⟨e1, hR1, hf1⟩ := h1
  rw [e1]
  refine lv_aload_n C.1.1 C.1.2.1 dL_law_535 rfl (lv_at hl 2 rfl) ?_
  refine lx_arg (k := 1) C hL hS1 hl dL_law_538 ⟨by omega, by omega⟩ dL_law_536 dL_law_537 dL_law_539 dL_law_540 ?_
  refine lx_callV (As := [.inl (ag xs i 1)]) (rest := [.int (Int32.ofInt _)]) (a := 132) C hW1 hS1 hl.1 dL_law_541 mk_L_69 sh_132 (c_mpass M1 v z Hh tl T (RM.lo hQ hf1) (ag xs i 1) (ag_in xs i 1)) rfl (by decide) rfl (Nat.le_of_ble_eq_true rfl) hck hsk (fun r2 M2 H2 locs2 h2 hW2 hS2 => ?_)
  obtain ⟨e2, hR2, hf2⟩ := h2
  rw [e2]
  refine lv_icmp_eq (tgt := 899) C.1.1 C.1.2.1 dL_law_544 (by decide) (fun _ => ?_) (fun h => absurd rfl h)
  exact k M2 H2 locs2 _ (hR1.frame (fun a ha => hf2 a (by omega))) hR2 hW2 hS2
set_option maxHeartbeats 4000000 in
set_option maxRecDepth 100000 in
theorem lx_case13 (C : LC p s m meth c b L xs D cI cM cS) (hL : L ≤ 2560) (hi : 0 ≤ i ∧ i + 4 < (L : Int)) (hl : lv_has ls 4 (LV b s.heap.size i)) (hR : RF M σ) (hQ : RM M σ) (hW : Wh s.heap.size D cI cM cS SH M H) (hS : va_S (lwA s) s.heap H locs) (hck : ck ≤ 600000) (hsk : sk ≤ 7302250) (k : KT p l e s m below meth c b D cI cM cS ck sk ls Z) : W p l e room_1 s m #[Value.ref b] below meth c H locs ck sk Z (F0 m 549 ls []) := by
  obtain ⟨v, z, Hh, tl, T⟩ := σ
  refine lv_aload_n C.1.1 C.1.2.1 dL_law_549 rfl (lv_at hl 1 rfl) ?_
  refine lx_callV (As := []) (rest := []) (a := 0) C hW hS hl.1 dL_law_550 mk_L_70 sh_0 (c_undo M v z Hh tl T hR) rfl (by decide) rfl (by decide) hck hsk (fun r1 M1 H1 locs1 h1 hW1 hS1 => ?_)
  obtain ⟨e1, hR1, hf1⟩ := h1
  rw [e1]
  refine lv_aload_n C.1.1 C.1.2.1 dL_law_553 rfl (lv_at hl 2 rfl) ?_
  refine lx_callV (As := []) (rest := [.int (Int32.ofInt _)]) (a := 132) C hW1 hS1 hl.1 dL_law_554 mk_L_73 sh_132 (c_mundo M1 v z Hh tl T (RM.lo hQ hf1)) rfl (by decide) rfl (Nat.le_of_ble_eq_true rfl) hck hsk (fun r2 M2 H2 locs2 h2 hW2 hS2 => ?_)
  obtain ⟨e2, hR2, hf2⟩ := h2
  rw [e2]
  refine lv_icmp_eq (tgt := 899) C.1.1 C.1.2.1 dL_law_557 (by decide) (fun _ => ?_) (fun h => absurd rfl h)
  exact k M2 H2 locs2 _ (hR1.frame (fun a ha => hf2 a (by omega))) hR2 hW2 hS2
set_option maxHeartbeats 4000000 in
set_option maxRecDepth 100000 in
theorem lx_case14 (C : LC p s m meth c b L xs D cI cM cS) (hL : L ≤ 2560) (hi : 0 ≤ i ∧ i + 4 < (L : Int)) (hl : lv_has ls 4 (LV b s.heap.size i)) (hR : RF M σ) (hQ : RM M σ) (hW : Wh s.heap.size D cI cM cS SH M H) (hS : va_S (lwA s) s.heap H locs) (hck : ck ≤ 600000) (hsk : sk ≤ 7302250) (k : KT p l e s m below meth c b D cI cM cS ck sk ls Z) : W p l e room_1 s m #[Value.ref b] below meth c H locs ck sk Z (F0 m 562 ls []) := by
  obtain ⟨v, z, Hh, tl, T⟩ := σ
  refine lv_aload_n C.1.1 C.1.2.1 dL_law_562 rfl (lv_at hl 1 rfl) ?_
  refine lx_arg (k := 1) C hL hS hl dL_law_565 ⟨by omega, by omega⟩ dL_law_563 dL_law_564 dL_law_566 dL_law_567 ?_
  refine lx_callV (As := [.inl (ag xs i 1)]) (rest := []) (a := 0) C hW hS hl.1 dL_law_568 mk_L_74 sh_0 (CX.out (c_count M v (VA.of hR.1.1) hR.1.2.1 hR.1.2.2.1 (VM.of hR.1.1) z tl (ag xs i 1) hR.1.2.2.2.2.1 hR.2.1 (ag_in xs i 1)) hR) rfl (by decide) rfl (by decide) hck hsk (fun r1 M1 H1 locs1 h1 hW1 hS1 => ?_)
  obtain ⟨e1, hR1, hf1⟩ := h1
  rw [e1]
  refine lv_aload_n C.1.1 C.1.2.1 dL_law_571 rfl (lv_at hl 2 rfl) ?_
  refine lx_arg (k := 1) C hL hS1 hl dL_law_574 ⟨by omega, by omega⟩ dL_law_572 dL_law_573 dL_law_575 dL_law_576 ?_
  refine lx_callV (As := [.inl (ag xs i 1)]) (rest := [.int (Int32.ofInt _)]) (a := 132) C hW1 hS1 hl.1 dL_law_577 mk_L_77 sh_132 (c_mcount M1 v z Hh tl T (RM.lo hQ hf1) (ag xs i 1) (ag_in xs i 1)) rfl (by decide) rfl (Nat.le_of_ble_eq_true rfl) hck hsk (fun r2 M2 H2 locs2 h2 hW2 hS2 => ?_)
  obtain ⟨e2, hR2, hf2⟩ := h2
  rw [e2]
  refine lv_icmp_eq (tgt := 899) C.1.1 C.1.2.1 dL_law_580 (by decide) (fun _ => ?_) (fun h => absurd rfl h)
  exact k M2 H2 locs2 _ (hR1.frame (fun a ha => hf2 a (by omega))) hR2 hW2 hS2
set_option maxHeartbeats 4000000 in
set_option maxRecDepth 100000 in
theorem lx_case15 (C : LC p s m meth c b L xs D cI cM cS) (hL : L ≤ 2560) (hi : 0 ≤ i ∧ i + 4 < (L : Int)) (hl : lv_has ls 4 (LV b s.heap.size i)) (hR : RF M σ) (hQ : RM M σ) (hW : Wh s.heap.size D cI cM cS SH M H) (hS : va_S (lwA s) s.heap H locs) (hck : ck ≤ 600000) (hsk : sk ≤ 7302250) (k : KT p l e s m below meth c b D cI cM cS ck sk ls Z) : W p l e room_1 s m #[Value.ref b] below meth c H locs ck sk Z (F0 m 585 ls []) := by
  obtain ⟨v, z, Hh, tl, T⟩ := σ
  refine lv_aload_n C.1.1 C.1.2.1 dL_law_585 rfl (lv_at hl 1 rfl) ?_
  refine lx_arg (k := 1) C hL hS hl dL_law_588 ⟨by omega, by omega⟩ dL_law_586 dL_law_587 dL_law_589 dL_law_590 ?_
  refine lx_arg (k := 2) C hL hS hl dL_law_593 ⟨by omega, by omega⟩ dL_law_591 dL_law_592 dL_law_594 dL_law_595 ?_
  refine lx_arg (k := 3) C hL hS hl dL_law_598 ⟨by omega, by omega⟩ dL_law_596 dL_law_597 dL_law_599 dL_law_600 ?_
  refine lx_callV (As := [.inl (ag xs i 1), .inl (ag xs i 2), .inl (ag xs i 3)]) (rest := []) (a := 0) C hW hS hl.1 dL_law_601 mk_L_78 sh_0 (CX.out (c_cell M v (VA.of hR.1.1) hR.1.2.1 hR.1.2.2.1 (ag xs i 1) (ag xs i 2) (ag xs i 3)  (ag_in xs i 1) (ag_in xs i 2) (ag_in xs i 3)) hR) rfl (by decide) rfl (by decide) hck hsk (fun r1 M1 H1 locs1 h1 hW1 hS1 => ?_)
  obtain ⟨e1, hR1, hf1⟩ := h1
  rw [e1]
  refine lv_aload_n C.1.1 C.1.2.1 dL_law_604 rfl (lv_at hl 2 rfl) ?_
  refine lx_arg (k := 1) C hL hS1 hl dL_law_607 ⟨by omega, by omega⟩ dL_law_605 dL_law_606 dL_law_608 dL_law_609 ?_
  refine lx_arg (k := 2) C hL hS1 hl dL_law_612 ⟨by omega, by omega⟩ dL_law_610 dL_law_611 dL_law_613 dL_law_614 ?_
  refine lx_arg (k := 3) C hL hS1 hl dL_law_617 ⟨by omega, by omega⟩ dL_law_615 dL_law_616 dL_law_618 dL_law_619 ?_
  refine lx_callV (As := [.inl (ag xs i 1), .inl (ag xs i 2), .inl (ag xs i 3)]) (rest := [.int (Int32.ofInt _)]) (a := 132) C hW1 hS1 hl.1 dL_law_620 mk_L_81 sh_132 (c_mcell M1 v z Hh tl T (RM.lo hQ hf1) (ag xs i 1) (ag xs i 2) (ag xs i 3) (ag_in xs i 1) (ag_in xs i 2) (ag_in xs i 3)) rfl (by decide) rfl (Nat.le_of_ble_eq_true rfl) hck hsk (fun r2 M2 H2 locs2 h2 hW2 hS2 => ?_)
  obtain ⟨e2, hR2, hf2⟩ := h2
  rw [e2]
  refine lv_icmp_eq (tgt := 899) C.1.1 C.1.2.1 dL_law_623 (by decide) (fun _ => ?_) (fun h => absurd rfl h)
  exact k M2 H2 locs2 _ (hR1.frame (fun a ha => hf2 a (by omega))) hR2 hW2 hS2
set_option maxHeartbeats 4000000 in
set_option maxRecDepth 100000 in
theorem lx_case16 (C : LC p s m meth c b L xs D cI cM cS) (hL : L ≤ 2560) (hi : 0 ≤ i ∧ i + 4 < (L : Int)) (hl : lv_has ls 4 (LV b s.heap.size i)) (hR : RF M σ) (hQ : RM M σ) (hW : Wh s.heap.size D cI cM cS SH M H) (hS : va_S (lwA s) s.heap H locs) (hck : ck ≤ 600000) (hsk : sk ≤ 7302250) (k : KT p l e s m below meth c b D cI cM cS ck sk ls Z) : W p l e room_1 s m #[Value.ref b] below meth c H locs ck sk Z (F0 m 628 ls []) := by
  obtain ⟨v, z, Hh, tl, T⟩ := σ
  refine lv_aload_n C.1.1 C.1.2.1 dL_law_628 rfl (lv_at hl 1 rfl) ?_
  refine lx_arg (k := 1) C hL hS hl dL_law_631 ⟨by omega, by omega⟩ dL_law_629 dL_law_630 dL_law_632 dL_law_633 ?_
  refine lx_arg (k := 2) C hL hS hl dL_law_636 ⟨by omega, by omega⟩ dL_law_634 dL_law_635 dL_law_637 dL_law_638 ?_
  refine lx_callV (As := [.inl (ag xs i 1), .inl (ag xs i 2)]) (rest := []) (a := 0) C hW hS hl.1 dL_law_639 mk_L_82 sh_0 (CX.out (c_scout M v (VA.of hR.1.1) hR.1.2.1 hR.1.2.2.1 (ag xs i 1) (ag xs i 2)  (ag_in xs i 1) (ag_in xs i 2)) hR) rfl (by decide) rfl (by decide) hck hsk (fun r1 M1 H1 locs1 h1 hW1 hS1 => ?_)
  obtain ⟨e1, hR1, hf1⟩ := h1
  rw [e1]
  refine lv_aload_n C.1.1 C.1.2.1 dL_law_642 rfl (lv_at hl 2 rfl) ?_
  refine lx_arg (k := 1) C hL hS1 hl dL_law_645 ⟨by omega, by omega⟩ dL_law_643 dL_law_644 dL_law_646 dL_law_647 ?_
  refine lx_arg (k := 2) C hL hS1 hl dL_law_650 ⟨by omega, by omega⟩ dL_law_648 dL_law_649 dL_law_651 dL_law_652 ?_
  refine lx_callV (As := [.inl (ag xs i 1), .inl (ag xs i 2)]) (rest := [.int (Int32.ofInt _)]) (a := 132) C hW1 hS1 hl.1 dL_law_653 mk_L_85 sh_132 (c_mscout M1 v z Hh tl T (RM.lo hQ hf1) (ag xs i 1) (ag xs i 2) (ag_in xs i 1) (ag_in xs i 2)) rfl (by decide) rfl (Nat.le_of_ble_eq_true rfl) hck hsk (fun r2 M2 H2 locs2 h2 hW2 hS2 => ?_)
  obtain ⟨e2, hR2, hf2⟩ := h2
  rw [e2]
  refine lv_icmp_eq (tgt := 899) C.1.1 C.1.2.1 dL_law_656 (by decide) (fun _ => ?_) (fun h => absurd rfl h)
  exact k M2 H2 locs2 _ (hR1.frame (fun a ha => hf2 a (by omega))) hR2 hW2 hS2
set_option maxHeartbeats 4000000 in
set_option maxRecDepth 100000 in
theorem lx_case17 (C : LC p s m meth c b L xs D cI cM cS) (hL : L ≤ 2560) (hi : 0 ≤ i ∧ i + 4 < (L : Int)) (hl : lv_has ls 4 (LV b s.heap.size i)) (hR : RF M σ) (hQ : RM M σ) (hW : Wh s.heap.size D cI cM cS SH M H) (hS : va_S (lwA s) s.heap H locs) (hck : ck ≤ 600000) (hsk : sk ≤ 7302250) (k : KT p l e s m below meth c b D cI cM cS ck sk ls Z) : W p l e room_1 s m #[Value.ref b] below meth c H locs ck sk Z (F0 m 661 ls []) := by
  obtain ⟨v, z, Hh, tl, T⟩ := σ
  refine lv_aload_n C.1.1 C.1.2.1 dL_law_661 rfl (lv_at hl 1 rfl) ?_
  refine lx_arg (k := 1) C hL hS hl dL_law_664 ⟨by omega, by omega⟩ dL_law_662 dL_law_663 dL_law_665 dL_law_666 ?_
  refine lx_arg (k := 2) C hL hS hl dL_law_669 ⟨by omega, by omega⟩ dL_law_667 dL_law_668 dL_law_670 dL_law_671 ?_
  refine lx_callV (As := [.inl (ag xs i 1), .inl (ag xs i 2)]) (rest := []) (a := 0) C hW hS hl.1 dL_law_672 mk_L_86 sh_0 (CX.out (c_light M v (VA.of hR.1.1) hR.1.2.1 (ag xs i 1) (ag xs i 2)  (ag_in xs i 1) (ag_in xs i 2)) hR) rfl (by decide) rfl (by decide) hck hsk (fun r1 M1 H1 locs1 h1 hW1 hS1 => ?_)
  obtain ⟨e1, hR1, hf1⟩ := h1
  rw [e1]
  refine lv_aload_n C.1.1 C.1.2.1 dL_law_675 rfl (lv_at hl 2 rfl) ?_
  refine lx_arg (k := 1) C hL hS1 hl dL_law_678 ⟨by omega, by omega⟩ dL_law_676 dL_law_677 dL_law_679 dL_law_680 ?_
  refine lx_arg (k := 2) C hL hS1 hl dL_law_683 ⟨by omega, by omega⟩ dL_law_681 dL_law_682 dL_law_684 dL_law_685 ?_
  refine lx_callV (As := [.inl (ag xs i 1), .inl (ag xs i 2)]) (rest := [.int (Int32.ofInt _)]) (a := 132) C hW1 hS1 hl.1 dL_law_686 mk_L_89 sh_132 (c_mlight M1 v z Hh tl T (RM.lo hQ hf1) (ag xs i 1) (ag xs i 2) (ag_in xs i 1) (ag_in xs i 2)) rfl (by decide) rfl (Nat.le_of_ble_eq_true rfl) hck hsk (fun r2 M2 H2 locs2 h2 hW2 hS2 => ?_)
  obtain ⟨e2, hR2, hf2⟩ := h2
  rw [e2]
  refine lv_icmp_eq (tgt := 899) C.1.1 C.1.2.1 dL_law_689 (by decide) (fun _ => ?_) (fun h => absurd rfl h)
  exact k M2 H2 locs2 _ (hR1.frame (fun a ha => hf2 a (by omega))) hR2 hW2 hS2
set_option maxHeartbeats 4000000 in
set_option maxRecDepth 100000 in
theorem lx_case18 (C : LC p s m meth c b L xs D cI cM cS) (hL : L ≤ 2560) (hi : 0 ≤ i ∧ i + 4 < (L : Int)) (hl : lv_has ls 4 (LV b s.heap.size i)) (hR : RF M σ) (hQ : RM M σ) (hW : Wh s.heap.size D cI cM cS SH M H) (hS : va_S (lwA s) s.heap H locs) (hck : ck ≤ 600000) (hsk : sk ≤ 7302250) (k : KT p l e s m below meth c b D cI cM cS ck sk ls Z) : W p l e room_1 s m #[Value.ref b] below meth c H locs ck sk Z (F0 m 694 ls []) := by
  obtain ⟨v, z, Hh, tl, T⟩ := σ
  refine lv_aload_n C.1.1 C.1.2.1 dL_law_694 rfl (lv_at hl 1 rfl) ?_
  refine lx_arg (k := 1) C hL hS hl dL_law_697 ⟨by omega, by omega⟩ dL_law_695 dL_law_696 dL_law_698 dL_law_699 ?_
  refine lx_arg (k := 2) C hL hS hl dL_law_702 ⟨by omega, by omega⟩ dL_law_700 dL_law_701 dL_law_703 dL_law_704 ?_
  refine lx_arg (k := 3) C hL hS hl dL_law_707 ⟨by omega, by omega⟩ dL_law_705 dL_law_706 dL_law_708 dL_law_709 ?_
  refine lx_arg (k := 4) C hL hS hl dL_law_712 ⟨by omega, by omega⟩ dL_law_710 dL_law_711 dL_law_713 dL_law_714 ?_
  refine lx_callV (As := [.inl (ag xs i 1), .inl (ag xs i 2), .inl (ag xs i 3), .inl (ag xs i 4)]) (rest := []) (a := 0) C hW hS hl.1 dL_law_715 mk_L_90 sh_0 (CX.out (c_known M v (VA.of hR.1.1) hR.1.2.1 hR.1.2.2.1 (VM.of hR.1.1) (ag xs i 1) (ag xs i 2) (ag xs i 3) (ag xs i 4)  (ag_in xs i 1) (ag_in xs i 2) (ag_in xs i 3) (ag_in xs i 4)) hR) rfl (by decide) rfl (by decide) hck hsk (fun r1 M1 H1 locs1 h1 hW1 hS1 => ?_)
  obtain ⟨e1, hR1, hf1⟩ := h1
  rw [e1]
  refine lv_aload_n C.1.1 C.1.2.1 dL_law_718 rfl (lv_at hl 2 rfl) ?_
  refine lx_arg (k := 1) C hL hS1 hl dL_law_721 ⟨by omega, by omega⟩ dL_law_719 dL_law_720 dL_law_722 dL_law_723 ?_
  refine lx_arg (k := 2) C hL hS1 hl dL_law_726 ⟨by omega, by omega⟩ dL_law_724 dL_law_725 dL_law_727 dL_law_728 ?_
  refine lx_arg (k := 3) C hL hS1 hl dL_law_731 ⟨by omega, by omega⟩ dL_law_729 dL_law_730 dL_law_732 dL_law_733 ?_
  refine lx_arg (k := 4) C hL hS1 hl dL_law_736 ⟨by omega, by omega⟩ dL_law_734 dL_law_735 dL_law_737 dL_law_738 ?_
  refine lx_callV (As := [.inl (ag xs i 1), .inl (ag xs i 2), .inl (ag xs i 3), .inl (ag xs i 4)]) (rest := [.int (Int32.ofInt _)]) (a := 132) C hW1 hS1 hl.1 dL_law_739 mk_L_93 sh_132 (c_mknown M1 v z Hh tl T (RM.lo hQ hf1) (ag xs i 1) (ag xs i 2) (ag xs i 3) (ag xs i 4) (ag_in xs i 1) (ag_in xs i 2) (ag_in xs i 3) (ag_in xs i 4)) rfl (by decide) rfl (Nat.le_of_ble_eq_true rfl) hck hsk (fun r2 M2 H2 locs2 h2 hW2 hS2 => ?_)
  obtain ⟨e2, hR2, hf2⟩ := h2
  rw [e2]
  refine lv_icmp_eq (tgt := 899) C.1.1 C.1.2.1 dL_law_742 (by decide) (fun _ => ?_) (fun h => absurd rfl h)
  exact k M2 H2 locs2 _ (hR1.frame (fun a ha => hf2 a (by omega))) hR2 hW2 hS2
set_option maxHeartbeats 4000000 in
set_option maxRecDepth 100000 in
theorem lx_case19 (C : LC p s m meth c b L xs D cI cM cS) (hL : L ≤ 2560) (hi : 0 ≤ i ∧ i + 4 < (L : Int)) (hl : lv_has ls 4 (LV b s.heap.size i)) (hR : RF M σ) (hQ : RM M σ) (hW : Wh s.heap.size D cI cM cS SH M H) (hS : va_S (lwA s) s.heap H locs) (hck : ck ≤ 600000) (hsk : sk ≤ 7302250) (k : KT p l e s m below meth c b D cI cM cS ck sk ls Z) : W p l e room_1 s m #[Value.ref b] below meth c H locs ck sk Z (F0 m 747 ls []) := by
  obtain ⟨v, z, Hh, tl, T⟩ := σ
  refine lv_aload_n C.1.1 C.1.2.1 dL_law_747 rfl (lv_at hl 1 rfl) ?_
  refine lx_arg (k := 1) C hL hS hl dL_law_750 ⟨by omega, by omega⟩ dL_law_748 dL_law_749 dL_law_751 dL_law_752 ?_
  refine lx_arg (k := 2) C hL hS hl dL_law_755 ⟨by omega, by omega⟩ dL_law_753 dL_law_754 dL_law_756 dL_law_757 ?_
  refine lx_arg (k := 3) C hL hS hl dL_law_760 ⟨by omega, by omega⟩ dL_law_758 dL_law_759 dL_law_761 dL_law_762 ?_
  refine lx_arg (k := 4) C hL hS hl dL_law_765 ⟨by omega, by omega⟩ dL_law_763 dL_law_764 dL_law_766 dL_law_767 ?_
  refine lx_callV (As := [.inl (ag xs i 1), .inl (ag xs i 2), .inl (ag xs i 3), .inl (ag xs i 4)]) (rest := []) (a := 0) C hW hS hl.1 dL_law_768 mk_L_94 sh_0 (CX.out (c_view M v (VA.of hR.1.1) hR.1.2.1 (ag xs i 1) (ag xs i 2) (ag xs i 3) (ag xs i 4)  (ag_in xs i 1) (ag_in xs i 2) (ag_in xs i 3) (ag_in xs i 4)) hR) rfl (by decide) rfl (by decide) hck hsk (fun r1 M1 H1 locs1 h1 hW1 hS1 => ?_)
  obtain ⟨e1, hR1, hf1⟩ := h1
  rw [e1]
  refine lv_aload_n C.1.1 C.1.2.1 dL_law_771 rfl (lv_at hl 2 rfl) ?_
  refine lx_arg (k := 1) C hL hS1 hl dL_law_774 ⟨by omega, by omega⟩ dL_law_772 dL_law_773 dL_law_775 dL_law_776 ?_
  refine lx_arg (k := 2) C hL hS1 hl dL_law_779 ⟨by omega, by omega⟩ dL_law_777 dL_law_778 dL_law_780 dL_law_781 ?_
  refine lx_arg (k := 3) C hL hS1 hl dL_law_784 ⟨by omega, by omega⟩ dL_law_782 dL_law_783 dL_law_785 dL_law_786 ?_
  refine lx_arg (k := 4) C hL hS1 hl dL_law_789 ⟨by omega, by omega⟩ dL_law_787 dL_law_788 dL_law_790 dL_law_791 ?_
  refine lx_callV (As := [.inl (ag xs i 1), .inl (ag xs i 2), .inl (ag xs i 3), .inl (ag xs i 4)]) (rest := [.int (Int32.ofInt _)]) (a := 132) C hW1 hS1 hl.1 dL_law_792 mk_L_97 sh_132 (c_mview M1 v z Hh tl T (RM.lo hQ hf1) (ag xs i 1) (ag xs i 2) (ag xs i 3) (ag xs i 4) (ag_in xs i 1) (ag_in xs i 2) (ag_in xs i 3) (ag_in xs i 4)) rfl (by decide) rfl (Nat.le_of_ble_eq_true rfl) hck hsk (fun r2 M2 H2 locs2 h2 hW2 hS2 => ?_)
  obtain ⟨e2, hR2, hf2⟩ := h2
  rw [e2]
  refine lv_icmp_eq (tgt := 899) C.1.1 C.1.2.1 dL_law_795 (by decide) (fun _ => ?_) (fun h => absurd rfl h)
  exact k M2 H2 locs2 _ (hR1.frame (fun a ha => hf2 a (by omega))) hR2 hW2 hS2
set_option maxHeartbeats 4000000 in
set_option maxRecDepth 100000 in
theorem lx_case20 (C : LC p s m meth c b L xs D cI cM cS) (hL : L ≤ 2560) (hi : 0 ≤ i ∧ i + 4 < (L : Int)) (hl : lv_has ls 4 (LV b s.heap.size i)) (hR : RF M σ) (hQ : RM M σ) (hW : Wh s.heap.size D cI cM cS SH M H) (hS : va_S (lwA s) s.heap H locs) (hck : ck ≤ 600000) (hsk : sk ≤ 7302250) (k : KT p l e s m below meth c b D cI cM cS ck sk ls Z) : W p l e room_1 s m #[Value.ref b] below meth c H locs ck sk Z (F0 m 800 ls []) := by
  obtain ⟨v, z, Hh, tl, T⟩ := σ
  refine lv_aload_n C.1.1 C.1.2.1 dL_law_800 rfl (lv_at hl 1 rfl) ?_
  refine lx_arg (k := 1) C hL hS hl dL_law_803 ⟨by omega, by omega⟩ dL_law_801 dL_law_802 dL_law_804 dL_law_805 ?_
  refine lx_arg (k := 2) C hL hS hl dL_law_808 ⟨by omega, by omega⟩ dL_law_806 dL_law_807 dL_law_809 dL_law_810 ?_
  refine lx_arg (k := 3) C hL hS hl dL_law_813 ⟨by omega, by omega⟩ dL_law_811 dL_law_812 dL_law_814 dL_law_815 ?_
  refine lx_callV (As := [.inl (ag xs i 1), .inl (ag xs i 2), .inl (ag xs i 3)]) (rest := []) (a := 0) C hW hS hl.1 dL_law_816 mk_L_98 sh_0 (c_way M v z Hh tl T hR (ag xs i 1) (ag xs i 2) (ag xs i 3) (ag_in xs i 1) (ag_in xs i 2) (ag_in xs i 3)) rfl (by decide) rfl (by decide) hck hsk (fun r1 M1 H1 locs1 h1 hW1 hS1 => ?_)
  obtain ⟨e1, hR1, hf1⟩ := h1
  rw [e1]
  refine lv_aload_n C.1.1 C.1.2.1 dL_law_819 rfl (lv_at hl 2 rfl) ?_
  refine lx_arg (k := 1) C hL hS1 hl dL_law_822 ⟨by omega, by omega⟩ dL_law_820 dL_law_821 dL_law_823 dL_law_824 ?_
  refine lx_arg (k := 2) C hL hS1 hl dL_law_827 ⟨by omega, by omega⟩ dL_law_825 dL_law_826 dL_law_828 dL_law_829 ?_
  refine lx_arg (k := 3) C hL hS1 hl dL_law_832 ⟨by omega, by omega⟩ dL_law_830 dL_law_831 dL_law_833 dL_law_834 ?_
  refine lx_callV (As := [.inl (ag xs i 1), .inl (ag xs i 2), .inl (ag xs i 3)]) (rest := [.int (Int32.ofInt _)]) (a := 132) C hW1 hS1 hl.1 dL_law_835 mk_L_101 sh_132 (c_mway M1 v z Hh tl T (RM.lo hQ hf1) (ag xs i 1) (ag xs i 2) (ag xs i 3) (ag_in xs i 1) (ag_in xs i 2) (ag_in xs i 3)) rfl (by decide) rfl (Nat.le_of_ble_eq_true rfl) hck hsk (fun r2 M2 H2 locs2 h2 hW2 hS2 => ?_)
  obtain ⟨e2, hR2, hf2⟩ := h2
  rw [e2]
  refine lv_icmp_eq (tgt := 899) C.1.1 C.1.2.1 dL_law_838 (by decide) (fun _ => ?_) (fun h => absurd rfl h)
  exact k M2 H2 locs2 _ (hR1.frame (fun a ha => hf2 a (by omega))) hR2 hW2 hS2
set_option maxHeartbeats 4000000 in
set_option maxRecDepth 100000 in
theorem lx_case21 (C : LC p s m meth c b L xs D cI cM cS) (hL : L ≤ 2560) (hi : 0 ≤ i ∧ i + 4 < (L : Int)) (hl : lv_has ls 4 (LV b s.heap.size i)) (hR : RF M σ) (hQ : RM M σ) (hW : Wh s.heap.size D cI cM cS SH M H) (hS : va_S (lwA s) s.heap H locs) (hck : ck ≤ 600000) (hsk : sk ≤ 7302250) (k : KT p l e s m below meth c b D cI cM cS ck sk ls Z) : W p l e room_1 s m #[Value.ref b] below meth c H locs ck sk Z (F0 m 843 ls []) := by
  obtain ⟨v, z, Hh, tl, T⟩ := σ
  refine lv_aload_n C.1.1 C.1.2.1 dL_law_843 rfl (lv_at hl 1 rfl) ?_
  refine lx_arg (k := 1) C hL hS hl dL_law_846 ⟨by omega, by omega⟩ dL_law_844 dL_law_845 dL_law_847 dL_law_848 ?_
  refine lx_arg (k := 2) C hL hS hl dL_law_851 ⟨by omega, by omega⟩ dL_law_849 dL_law_850 dL_law_852 dL_law_853 ?_
  refine lx_callV (As := [.inl (ag xs i 1), .inl (ag xs i 2)]) (rest := []) (a := 0) C hW hS hl.1 dL_law_854 mk_L_102 sh_0 (CX.out (c_lookout M v (VA.of hR.1.1) hR.1.2.1 hR.1.2.2.1 (ag xs i 1) (ag xs i 2)  (ag_in xs i 1) (ag_in xs i 2)) hR) rfl (by decide) rfl (by decide) hck hsk (fun r1 M1 H1 locs1 h1 hW1 hS1 => ?_)
  obtain ⟨e1, hR1, hf1⟩ := h1
  rw [e1]
  refine lv_aload_n C.1.1 C.1.2.1 dL_law_857 rfl (lv_at hl 2 rfl) ?_
  refine lx_arg (k := 1) C hL hS1 hl dL_law_860 ⟨by omega, by omega⟩ dL_law_858 dL_law_859 dL_law_861 dL_law_862 ?_
  refine lx_arg (k := 2) C hL hS1 hl dL_law_865 ⟨by omega, by omega⟩ dL_law_863 dL_law_864 dL_law_866 dL_law_867 ?_
  refine lx_callV (As := [.inl (ag xs i 1), .inl (ag xs i 2)]) (rest := [.int (Int32.ofInt _)]) (a := 132) C hW1 hS1 hl.1 dL_law_868 mk_L_105 sh_132 (c_mlookout M1 v z Hh tl T (RM.lo hQ hf1) (ag xs i 1) (ag xs i 2) (ag_in xs i 1) (ag_in xs i 2)) rfl (by decide) rfl (Nat.le_of_ble_eq_true rfl) hck hsk (fun r2 M2 H2 locs2 h2 hW2 hS2 => ?_)
  obtain ⟨e2, hR2, hf2⟩ := h2
  rw [e2]
  rw [show (qLookM v (ag xs i 1) (ag xs i 2), ((v, z, Hh, tl, T) : AbS)).1 = qLook v (ag xs i 1) (ag xs i 2) from qLook_eq hR.1.2.1]
  refine lv_icmp_eq (tgt := 899) C.1.1 C.1.2.1 dL_law_871 (by decide) (fun _ => ?_) (fun h => absurd rfl h)
  exact k M2 H2 locs2 _ (hR1.frame (fun a ha => hf2 a (by omega))) hR2 hW2 hS2
set_option maxHeartbeats 4000000 in
set_option maxRecDepth 100000 in
theorem lx_case22 (C : LC p s m meth c b L xs D cI cM cS) (hL : L ≤ 2560) (hi : 0 ≤ i ∧ i + 4 < (L : Int)) (hl : lv_has ls 4 (LV b s.heap.size i)) (hR : RF M σ) (hQ : RM M σ) (hW : Wh s.heap.size D cI cM cS SH M H) (hS : va_S (lwA s) s.heap H locs) (hck : ck ≤ 600000) (hsk : sk ≤ 7302250) (k : KT p l e s m below meth c b D cI cM cS ck sk ls Z) : W p l e room_1 s m #[Value.ref b] below meth c H locs ck sk Z (F0 m 876 ls []) := by
  obtain ⟨v, z, Hh, tl, T⟩ := σ
  refine lv_aload_n C.1.1 C.1.2.1 dL_law_876 rfl (lv_at hl 1 rfl) ?_
  refine lx_arg (k := 1) C hL hS hl dL_law_879 ⟨by omega, by omega⟩ dL_law_877 dL_law_878 dL_law_880 dL_law_881 ?_
  refine lx_callV (As := [.inl (ag xs i 1)]) (rest := []) (a := 0) C hW hS hl.1 dL_law_882 mk_L_106 sh_0 (CX.out (c_alone M v (VA.of hR.1.1) hR.1.2.1 hR.1.2.2.1 (ag xs i 1)  (ag_in xs i 1)) hR) rfl (by decide) rfl (by decide) hck hsk (fun r1 M1 H1 locs1 h1 hW1 hS1 => ?_)
  obtain ⟨e1, hR1, hf1⟩ := h1
  rw [e1]
  refine lv_aload_n C.1.1 C.1.2.1 dL_law_885 rfl (lv_at hl 2 rfl) ?_
  refine lx_arg (k := 1) C hL hS1 hl dL_law_888 ⟨by omega, by omega⟩ dL_law_886 dL_law_887 dL_law_889 dL_law_890 ?_
  refine lx_callV (As := [.inl (ag xs i 1)]) (rest := [.int (Int32.ofInt _)]) (a := 132) C hW1 hS1 hl.1 dL_law_891 mk_L_109 sh_132 (c_malone M1 v z Hh tl T (RM.lo hQ hf1) (ag xs i 1) (ag_in xs i 1)) rfl (by decide) rfl (Nat.le_of_ble_eq_true rfl) hck hsk (fun r2 M2 H2 locs2 h2 hW2 hS2 => ?_)
  obtain ⟨e2, hR2, hf2⟩ := h2
  rw [e2]
  refine lv_icmp_eq (tgt := 899) C.1.1 C.1.2.1 dL_law_894 (by decide) (fun _ => ?_) (fun h => absurd rfl h)
  exact k M2 H2 locs2 _ (hR1.frame (fun a ha => hf2 a (by omega))) hR2 hW2 hS2
end CASES
