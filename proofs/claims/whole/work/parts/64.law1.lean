/-! The law's cases. Written by gen_law.py. -/
abbrev lvL (cA cO : Nat → Nat) (ou b t : Nat) : List (Nat × Value) := [(0, .ref b), (1, .ref (cA 0)), (2, .ref (cO 0)), (3, .ref ou), (4, .int (nI (4 * t)))]
abbrev WS (E : Nat → ClassId) (cA cO : Nat → Nat) (ou : Nat) (a : AS) (o : OS) (f : Nat → Int64) : va_W := aC E cA a ++ (oC E cO o ++ [ouC E ou f])
section LawCases
variable {p : Program} {l : Launch} {e : Env} {R : Room} {s : State} {m : MethodId} {args : Array Value} {below : List Frame} {meth : Method} {c : Code} {Q : State → Prop} {D : va_G} {E : Nat → ClassId} {A : Nat → Prop} {cells slots : Nat} {b L t : Nat} {xs : Nat → Int32} {cA cO : Nat → Nat} {ou : Nat} {a : AS} {o : OS} {f : Nat → Int64}
set_option maxHeartbeats 4000000 in
set_option maxRecDepth 100000 in
theorem law_claim (C : CX p s m args c D E A code 7 "AttackBenchLaw") (K : TK A s) (htr : TR l) (hX : va_X b L xs s s.heap) (hbl : b < s.heap.size) (hbA : ¬ A b) (hL : L ≤ 2048) (hRf : 100 ≤ R.frames) (hRl : 2000 ≤ R.locals) (hce : cells + 1 ≤ R.cells) (hsl : slots + 6 ≤ R.slots) (h4 : 4 * t + 4 ≤ L) (hS : SIM a o) (kend : ∀ u u' f', SIM u u' → GG p l e R s m args below meth c Q D A 7 (cells + 1) (slots + 6) 943 (lvL cA cO ou b t) [] (WS E cA cO ou u u' f')) : GG p l e R s m args below meth c Q D A 7 cells slots 140 (lvL cA cO ou b t) [] (WS E cA cO ou a o f) := by
  obtain ⟨QA, hA, hO⟩ := P_claim l D E cA cO hS 
  refine g_aload_n C d_Law_law_140 rfl 1 rfl ?_
  refine g_iV (rest := []) (wr := oC E cO o ++ [ouC E ou f]) C hA rd_AB_claim m_190 m_191 m_192 rfl rfl (by show 24 + 1 ≤ R.frames; omega) (by show 8 + (2 + 11) + 700 ≤ R.locals; omega) (Nat.le_of_succ_le hce) (Nat.le_trans (Nat.le_add_right _ 6) hsl) rfl rfl (Nat.le_of_ble_eq_true rfl) d_Law_law_141 [0, 1, 2, 3, 4, 5, 6, 7, 8, 9, 10, 11, 12, 13, 14, 15, 16, 17] [18, 19, 20, 21, 22, 23, 24, 25, 26, 27, 28, 29, 30, 31, 32, 33, 34] rfl (by decide) rfl (by decide) (by decide) (fun r u hq => ?_)
  refine g_aload_n C d_Law_law_144 rfl 2 rfl ?_
  refine g_iV (rest := [.int r]) (wr := ouC E ou f :: aC E cA u) C (hO r u hq) rd_Mo_claim m_715 m_716 m_717 rfl rfl (by show 24 + 1 ≤ R.frames; omega) (by show 8 + (1 + 11) + 700 ≤ R.locals; omega) (Nat.le_of_succ_le hce) (Nat.le_trans (Nat.le_add_right _ 6) hsl) rfl rfl (Nat.le_of_ble_eq_true rfl) d_Law_law_145 [0, 1, 2, 3, 4, 5, 6, 7, 8, 9, 10, 11, 12, 13, 14, 15] [16, 17, 18, 19, 20, 21, 22, 23, 24, 25, 26, 27, 28, 29, 30, 31, 32, 33, 34] rfl (by decide) rfl (by decide) (by decide) (fun r' u' h' => ?_)
  obtain ⟨h1, hS'⟩ := h'
  subst h1
  refine g_icmp_eq (tgt := 943) C d_Law_law_148 (by decide) (fun _ => ?_) (fun q => absurd rfl q)
  refine g_cells (ws' := WS E cA cO ou u u' f) [1, 2, 3, 4, 5, 6, 7, 8, 9, 10, 11, 12, 13, 14, 15, 16, 17, 18, 19, 20, 21, 22, 23, 24, 25, 26, 27, 28, 29, 30, 31, 32, 33, 34, 0] (by decide) rfl ?_
  exact g_widen (Nat.le_succ _) (Nat.le_add_right _ 6) (kend u u' f hS')
set_option maxHeartbeats 4000000 in
set_option maxRecDepth 100000 in
theorem law_attack (C : CX p s m args c D E A code 7 "AttackBenchLaw") (K : TK A s) (htr : TR l) (hX : va_X b L xs s s.heap) (hbl : b < s.heap.size) (hbA : ¬ A b) (hL : L ≤ 2048) (hRf : 100 ≤ R.frames) (hRl : 2000 ≤ R.locals) (hce : cells + 1 ≤ R.cells) (hsl : slots + 6 ≤ R.slots) (h4 : 4 * t + 4 ≤ L) (hS : SIM a o) (kend : ∀ u u' f', SIM u u' → GG p l e R s m args below meth c Q D A 7 (cells + 1) (slots + 6) 943 (lvL cA cO ou b t) [] (WS E cA cO ou u u' f')) : GG p l e R s m args below meth c Q D A 7 cells slots 153 (lvL cA cO ou b t) [] (WS E cA cO ou a o f) := by
  obtain ⟨QA, hA, hO⟩ := P_attack l D E cA cO hS (xs (4 * t + 1)) (xs (4 * t + 2)) (decide (xs (4 * t + 3) ≠ 0))
  refine g_aload_n C d_Law_law_153 rfl 1 rfl ?_
  refine g_aload_n C d_Law_law_154 rfl 0 rfl ?_
  refine g_iload C d_Law_law_155 4 rfl ?_
  refine g_iconst (v := nI 1) C d_Law_law_157 (by decide) ?_
  refine g_iaddN C d_Law_law_158 ?_
  refine g_sldN C hX hbl hbA (by omega) (by omega) d_Law_law_159 ?_
  refine g_aload_n C d_Law_law_160 rfl 0 rfl ?_
  refine g_iload C d_Law_law_161 4 rfl ?_
  refine g_iconst (v := nI 2) C d_Law_law_163 (by decide) ?_
  refine g_iaddN C d_Law_law_164 ?_
  refine g_sldN C hX hbl hbA (by omega) (by omega) d_Law_law_165 ?_
  refine g_aload_n C d_Law_law_166 rfl 0 rfl ?_
  refine g_iload C d_Law_law_167 4 rfl ?_
  refine g_iconst (v := nI 3) C d_Law_law_169 (by decide) ?_
  refine g_iaddN C d_Law_law_170 ?_
  refine g_sldN C hX hbl hbA (by omega) (by omega) d_Law_law_171 ?_
  refine g_nz C d_Law_law_172 d_Law_law_175 d_Law_law_176 d_Law_law_179 ?_
  refine g_iV (rest := []) (wr := oC E cO o ++ [ouC E ou f]) C hA rd_AB_attack m_215 m_216 m_217 rfl rfl (by show 24 + 1 ≤ R.frames; omega) (by show 8 + (4 + 11) + 700 ≤ R.locals; omega) (Nat.le_of_succ_le hce) (Nat.le_trans (Nat.le_add_right _ 6) hsl) rfl rfl (Nat.le_of_ble_eq_true rfl) d_Law_law_180 [0, 1, 2, 3, 4, 5, 6, 7, 8, 9, 10, 11, 12, 13, 14, 15, 16, 17] [18, 19, 20, 21, 22, 23, 24, 25, 26, 27, 28, 29, 30, 31, 32, 33, 34] rfl (by decide) rfl (by decide) (by decide) (fun r u hq => ?_)
  refine g_aload_n C d_Law_law_183 rfl 2 rfl ?_
  refine g_aload_n C d_Law_law_184 rfl 0 rfl ?_
  refine g_iload C d_Law_law_185 4 rfl ?_
  refine g_iconst (v := nI 1) C d_Law_law_187 (by decide) ?_
  refine g_iaddN C d_Law_law_188 ?_
  refine g_sldN C hX hbl hbA (by omega) (by omega) d_Law_law_189 ?_
  refine g_aload_n C d_Law_law_190 rfl 0 rfl ?_
  refine g_iload C d_Law_law_191 4 rfl ?_
  refine g_iconst (v := nI 2) C d_Law_law_193 (by decide) ?_
  refine g_iaddN C d_Law_law_194 ?_
  refine g_sldN C hX hbl hbA (by omega) (by omega) d_Law_law_195 ?_
  refine g_aload_n C d_Law_law_196 rfl 0 rfl ?_
  refine g_iload C d_Law_law_197 4 rfl ?_
  refine g_iconst (v := nI 3) C d_Law_law_199 (by decide) ?_
  refine g_iaddN C d_Law_law_200 ?_
  refine g_sldN C hX hbl hbA (by omega) (by omega) d_Law_law_201 ?_
  refine g_nz C d_Law_law_202 d_Law_law_205 d_Law_law_206 d_Law_law_209 ?_
  refine g_iV (rest := [.int r]) (wr := ouC E ou f :: aC E cA u) C (hO r u hq) rd_Mo_attack m_727 m_728 m_729 rfl rfl (by show 24 + 1 ≤ R.frames; omega) (by show 8 + (4 + 11) + 700 ≤ R.locals; omega) (Nat.le_of_succ_le hce) (Nat.le_trans (Nat.le_add_right _ 6) hsl) rfl rfl (Nat.le_of_ble_eq_true rfl) d_Law_law_210 [0, 1, 2, 3, 4, 5, 6, 7, 8, 9, 10, 11, 12, 13, 14, 15] [16, 17, 18, 19, 20, 21, 22, 23, 24, 25, 26, 27, 28, 29, 30, 31, 32, 33, 34] rfl (by decide) rfl (by decide) (by decide) (fun r' u' h' => ?_)
  obtain ⟨h1, hS'⟩ := h'
  subst h1
  refine g_icmp_eq (tgt := 943) C d_Law_law_213 (by decide) (fun _ => ?_) (fun q => absurd rfl q)
  refine g_cells (ws' := WS E cA cO ou u u' f) [1, 2, 3, 4, 5, 6, 7, 8, 9, 10, 11, 12, 13, 14, 15, 16, 17, 18, 19, 20, 21, 22, 23, 24, 25, 26, 27, 28, 29, 30, 31, 32, 33, 34, 0] (by decide) rfl ?_
  exact g_widen (Nat.le_succ _) (Nat.le_add_right _ 6) (kend u u' f hS')
set_option maxHeartbeats 4000000 in
set_option maxRecDepth 100000 in
theorem law_attacks (C : CX p s m args c D E A code 7 "AttackBenchLaw") (K : TK A s) (htr : TR l) (hX : va_X b L xs s s.heap) (hbl : b < s.heap.size) (hbA : ¬ A b) (hL : L ≤ 2048) (hRf : 100 ≤ R.frames) (hRl : 2000 ≤ R.locals) (hce : cells + 1 ≤ R.cells) (hsl : slots + 6 ≤ R.slots) (h4 : 4 * t + 4 ≤ L) (hS : SIM a o) (kend : ∀ u u' f', SIM u u' → GG p l e R s m args below meth c Q D A 7 (cells + 1) (slots + 6) 943 (lvL cA cO ou b t) [] (WS E cA cO ou u u' f')) : GG p l e R s m args below meth c Q D A 7 cells slots 218 (lvL cA cO ou b t) [] (WS E cA cO ou a o f) := by
  obtain ⟨QA, hA, hO⟩ := P_attacks l D E cA cO hS (xs (4 * t + 1)) (xs (4 * t + 2))
  refine g_aload_n C d_Law_law_218 rfl 1 rfl ?_
  refine g_aload_n C d_Law_law_219 rfl 0 rfl ?_
  refine g_iload C d_Law_law_220 4 rfl ?_
  refine g_iconst (v := nI 1) C d_Law_law_222 (by decide) ?_
  refine g_iaddN C d_Law_law_223 ?_
  refine g_sldN C hX hbl hbA (by omega) (by omega) d_Law_law_224 ?_
  refine g_aload_n C d_Law_law_225 rfl 0 rfl ?_
  refine g_iload C d_Law_law_226 4 rfl ?_
  refine g_iconst (v := nI 2) C d_Law_law_228 (by decide) ?_
  refine g_iaddN C d_Law_law_229 ?_
  refine g_sldN C hX hbl hbA (by omega) (by omega) d_Law_law_230 ?_
  refine g_iV (rest := []) (wr := oC E cO o ++ [ouC E ou f]) C hA rd_AB_attacks m_235 m_236 m_237 rfl rfl (by show 24 + 1 ≤ R.frames; omega) (by show 8 + (3 + 11) + 700 ≤ R.locals; omega) (Nat.le_of_succ_le hce) (Nat.le_trans (Nat.le_add_right _ 6) hsl) rfl rfl (Nat.le_of_ble_eq_true rfl) d_Law_law_231 [0, 1, 2, 3, 4, 5, 6, 7, 8, 9, 10, 11, 12, 13, 14, 15, 16, 17] [18, 19, 20, 21, 22, 23, 24, 25, 26, 27, 28, 29, 30, 31, 32, 33, 34] rfl (by decide) rfl (by decide) (by decide) (fun r u hq => ?_)
  refine g_aload_n C d_Law_law_234 rfl 2 rfl ?_
  refine g_aload_n C d_Law_law_235 rfl 0 rfl ?_
  refine g_iload C d_Law_law_236 4 rfl ?_
  refine g_iconst (v := nI 1) C d_Law_law_238 (by decide) ?_
  refine g_iaddN C d_Law_law_239 ?_
  refine g_sldN C hX hbl hbA (by omega) (by omega) d_Law_law_240 ?_
  refine g_aload_n C d_Law_law_241 rfl 0 rfl ?_
  refine g_iload C d_Law_law_242 4 rfl ?_
  refine g_iconst (v := nI 2) C d_Law_law_244 (by decide) ?_
  refine g_iaddN C d_Law_law_245 ?_
  refine g_sldN C hX hbl hbA (by omega) (by omega) d_Law_law_246 ?_
  refine g_iV (rest := [.int r]) (wr := ouC E ou f :: aC E cA u) C (hO r u hq) rd_Mo_attacks m_739 m_740 m_741 rfl rfl (by show 24 + 1 ≤ R.frames; omega) (by show 8 + (3 + 11) + 700 ≤ R.locals; omega) (Nat.le_of_succ_le hce) (Nat.le_trans (Nat.le_add_right _ 6) hsl) rfl rfl (Nat.le_of_ble_eq_true rfl) d_Law_law_247 [0, 1, 2, 3, 4, 5, 6, 7, 8, 9, 10, 11, 12, 13, 14, 15] [16, 17, 18, 19, 20, 21, 22, 23, 24, 25, 26, 27, 28, 29, 30, 31, 32, 33, 34] rfl (by decide) rfl (by decide) (by decide) (fun r' u' h' => ?_)
  obtain ⟨h1, hS'⟩ := h'
  subst h1
  refine g_icmp_eq (tgt := 943) C d_Law_law_250 (by decide) (fun _ => ?_) (fun q => absurd rfl q)
  refine g_cells (ws' := WS E cA cO ou u u' f) [1, 2, 3, 4, 5, 6, 7, 8, 9, 10, 11, 12, 13, 14, 15, 16, 17, 18, 19, 20, 21, 22, 23, 24, 25, 26, 27, 28, 29, 30, 31, 32, 33, 34, 0] (by decide) rfl ?_
  exact g_widen (Nat.le_succ _) (Nat.le_add_right _ 6) (kend u u' f hS')
set_option maxHeartbeats 4000000 in
set_option maxRecDepth 100000 in
theorem law_joint (C : CX p s m args c D E A code 7 "AttackBenchLaw") (K : TK A s) (htr : TR l) (hX : va_X b L xs s s.heap) (hbl : b < s.heap.size) (hbA : ¬ A b) (hL : L ≤ 2048) (hRf : 100 ≤ R.frames) (hRl : 2000 ≤ R.locals) (hce : cells + 1 ≤ R.cells) (hsl : slots + 6 ≤ R.slots) (h4 : 4 * t + 4 ≤ L) (hS : SIM a o) (kend : ∀ u u' f', SIM u u' → GG p l e R s m args below meth c Q D A 7 (cells + 1) (slots + 6) 943 (lvL cA cO ou b t) [] (WS E cA cO ou u u' f')) : GG p l e R s m args below meth c Q D A 7 cells slots 255 (lvL cA cO ou b t) [] (WS E cA cO ou a o f) := by
  obtain ⟨QA, hA, hO⟩ := P_joint l D E cA cO hS (xs (4 * t + 1)) (xs (4 * t + 2)) (xs (4 * t + 3))
  refine g_aload_n C d_Law_law_255 rfl 1 rfl ?_
  refine g_aload_n C d_Law_law_256 rfl 0 rfl ?_
  refine g_iload C d_Law_law_257 4 rfl ?_
  refine g_iconst (v := nI 1) C d_Law_law_259 (by decide) ?_
  refine g_iaddN C d_Law_law_260 ?_
  refine g_sldN C hX hbl hbA (by omega) (by omega) d_Law_law_261 ?_
  refine g_aload_n C d_Law_law_262 rfl 0 rfl ?_
  refine g_iload C d_Law_law_263 4 rfl ?_
  refine g_iconst (v := nI 2) C d_Law_law_265 (by decide) ?_
  refine g_iaddN C d_Law_law_266 ?_
  refine g_sldN C hX hbl hbA (by omega) (by omega) d_Law_law_267 ?_
  refine g_aload_n C d_Law_law_268 rfl 0 rfl ?_
  refine g_iload C d_Law_law_269 4 rfl ?_
  refine g_iconst (v := nI 3) C d_Law_law_271 (by decide) ?_
  refine g_iaddN C d_Law_law_272 ?_
  refine g_sldN C hX hbl hbA (by omega) (by omega) d_Law_law_273 ?_
  refine g_iV (rest := []) (wr := oC E cO o ++ [ouC E ou f]) C hA rd_AB_joint m_239 m_240 m_241 rfl rfl (by show 24 + 1 ≤ R.frames; omega) (by show 8 + (7 + 11) + 700 ≤ R.locals; omega) (Nat.le_of_succ_le hce) (Nat.le_trans (Nat.le_add_right _ 6) hsl) rfl rfl (Nat.le_of_ble_eq_true rfl) d_Law_law_274 [0, 1, 2, 3, 4, 5, 6, 7, 8, 9, 10, 11, 12, 13, 14, 15, 16, 17] [18, 19, 20, 21, 22, 23, 24, 25, 26, 27, 28, 29, 30, 31, 32, 33, 34] rfl (by decide) rfl (by decide) (by decide) (fun r u hq => ?_)
  refine g_aload_n C d_Law_law_277 rfl 2 rfl ?_
  refine g_aload_n C d_Law_law_278 rfl 0 rfl ?_
  refine g_iload C d_Law_law_279 4 rfl ?_
  refine g_iconst (v := nI 1) C d_Law_law_281 (by decide) ?_
  refine g_iaddN C d_Law_law_282 ?_
  refine g_sldN C hX hbl hbA (by omega) (by omega) d_Law_law_283 ?_
  refine g_aload_n C d_Law_law_284 rfl 0 rfl ?_
  refine g_iload C d_Law_law_285 4 rfl ?_
  refine g_iconst (v := nI 2) C d_Law_law_287 (by decide) ?_
  refine g_iaddN C d_Law_law_288 ?_
  refine g_sldN C hX hbl hbA (by omega) (by omega) d_Law_law_289 ?_
  refine g_aload_n C d_Law_law_290 rfl 0 rfl ?_
  refine g_iload C d_Law_law_291 4 rfl ?_
  refine g_iconst (v := nI 3) C d_Law_law_293 (by decide) ?_
  refine g_iaddN C d_Law_law_294 ?_
  refine g_sldN C hX hbl hbA (by omega) (by omega) d_Law_law_295 ?_
  refine g_iV (rest := [.int r]) (wr := ouC E ou f :: aC E cA u) C (hO r u hq) rd_Mo_joint m_743 m_744 m_745 rfl rfl (by show 24 + 1 ≤ R.frames; omega) (by show 8 + (7 + 11) + 700 ≤ R.locals; omega) (Nat.le_of_succ_le hce) (Nat.le_trans (Nat.le_add_right _ 6) hsl) rfl rfl (Nat.le_of_ble_eq_true rfl) d_Law_law_296 [0, 1, 2, 3, 4, 5, 6, 7, 8, 9, 10, 11, 12, 13, 14, 15] [16, 17, 18, 19, 20, 21, 22, 23, 24, 25, 26, 27, 28, 29, 30, 31, 32, 33, 34] rfl (by decide) rfl (by decide) (by decide) (fun r' u' h' => ?_)
  obtain ⟨h1, hS'⟩ := h'
  subst h1
  refine g_icmp_eq (tgt := 943) C d_Law_law_299 (by decide) (fun _ => ?_) (fun q => absurd rfl q)
  refine g_cells (ws' := WS E cA cO ou u u' f) [1, 2, 3, 4, 5, 6, 7, 8, 9, 10, 11, 12, 13, 14, 15, 16, 17, 18, 19, 20, 21, 22, 23, 24, 25, 26, 27, 28, 29, 30, 31, 32, 33, 34, 0] (by decide) rfl ?_
  exact g_widen (Nat.le_succ _) (Nat.le_add_right _ 6) (kend u u' f hS')
set_option maxHeartbeats 4000000 in
set_option maxRecDepth 100000 in
theorem law_support (C : CX p s m args c D E A code 7 "AttackBenchLaw") (K : TK A s) (htr : TR l) (hX : va_X b L xs s s.heap) (hbl : b < s.heap.size) (hbA : ¬ A b) (hL : L ≤ 2048) (hRf : 100 ≤ R.frames) (hRl : 2000 ≤ R.locals) (hce : cells + 1 ≤ R.cells) (hsl : slots + 6 ≤ R.slots) (h4 : 4 * t + 4 ≤ L) (hS : SIM a o) (kend : ∀ u u' f', SIM u u' → GG p l e R s m args below meth c Q D A 7 (cells + 1) (slots + 6) 943 (lvL cA cO ou b t) [] (WS E cA cO ou u u' f')) : GG p l e R s m args below meth c Q D A 7 cells slots 304 (lvL cA cO ou b t) [] (WS E cA cO ou a o f) := by
  obtain ⟨QA, hA, hO⟩ := P_support l D E cA cO hS (xs (4 * t + 1)) (xs (4 * t + 2))
  refine g_aload_n C d_Law_law_304 rfl 1 rfl ?_
  refine g_aload_n C d_Law_law_305 rfl 0 rfl ?_
  refine g_iload C d_Law_law_306 4 rfl ?_
  refine g_iconst (v := nI 1) C d_Law_law_308 (by decide) ?_
  refine g_iaddN C d_Law_law_309 ?_
  refine g_sldN C hX hbl hbA (by omega) (by omega) d_Law_law_310 ?_
  refine g_aload_n C d_Law_law_311 rfl 0 rfl ?_
  refine g_iload C d_Law_law_312 4 rfl ?_
  refine g_iconst (v := nI 2) C d_Law_law_314 (by decide) ?_
  refine g_iaddN C d_Law_law_315 ?_
  refine g_sldN C hX hbl hbA (by omega) (by omega) d_Law_law_316 ?_
  refine g_iV (rest := []) (wr := oC E cO o ++ [ouC E ou f]) C hA rd_AB_support m_243 m_244 m_245 rfl rfl (by show 24 + 1 ≤ R.frames; omega) (by show 8 + (4 + 11) + 700 ≤ R.locals; omega) (Nat.le_of_succ_le hce) (Nat.le_trans (Nat.le_add_right _ 6) hsl) rfl rfl (Nat.le_of_ble_eq_true rfl) d_Law_law_317 [0, 1, 2, 3, 4, 5, 6, 7, 8, 9, 10, 11, 12, 13, 14, 15, 16, 17] [18, 19, 20, 21, 22, 23, 24, 25, 26, 27, 28, 29, 30, 31, 32, 33, 34] rfl (by decide) rfl (by decide) (by decide) (fun r u hq => ?_)
  refine g_aload_n C d_Law_law_320 rfl 2 rfl ?_
  refine g_aload_n C d_Law_law_321 rfl 0 rfl ?_
  refine g_iload C d_Law_law_322 4 rfl ?_
  refine g_iconst (v := nI 1) C d_Law_law_324 (by decide) ?_
  refine g_iaddN C d_Law_law_325 ?_
  refine g_sldN C hX hbl hbA (by omega) (by omega) d_Law_law_326 ?_
  refine g_aload_n C d_Law_law_327 rfl 0 rfl ?_
  refine g_iload C d_Law_law_328 4 rfl ?_
  refine g_iconst (v := nI 2) C d_Law_law_330 (by decide) ?_
  refine g_iaddN C d_Law_law_331 ?_
  refine g_sldN C hX hbl hbA (by omega) (by omega) d_Law_law_332 ?_
  refine g_iV (rest := [.int r]) (wr := ouC E ou f :: aC E cA u) C (hO r u hq) rd_Mo_support m_747 m_748 m_749 rfl rfl (by show 24 + 1 ≤ R.frames; omega) (by show 8 + (4 + 11) + 700 ≤ R.locals; omega) (Nat.le_of_succ_le hce) (Nat.le_trans (Nat.le_add_right _ 6) hsl) rfl rfl (Nat.le_of_ble_eq_true rfl) d_Law_law_333 [0, 1, 2, 3, 4, 5, 6, 7, 8, 9, 10, 11, 12, 13, 14, 15] [16, 17, 18, 19, 20, 21, 22, 23, 24, 25, 26, 27, 28, 29, 30, 31, 32, 33, 34] rfl (by decide) rfl (by decide) (by decide) (fun r' u' h' => ?_)
  obtain ⟨h1, hS'⟩ := h'
  subst h1
  refine g_icmp_eq (tgt := 943) C d_Law_law_336 (by decide) (fun _ => ?_) (fun q => absurd rfl q)
  refine g_cells (ws' := WS E cA cO ou u u' f) [1, 2, 3, 4, 5, 6, 7, 8, 9, 10, 11, 12, 13, 14, 15, 16, 17, 18, 19, 20, 21, 22, 23, 24, 25, 26, 27, 28, 29, 30, 31, 32, 33, 34, 0] (by decide) rfl ?_
  exact g_widen (Nat.le_succ _) (Nat.le_add_right _ 6) (kend u u' f hS')
set_option maxHeartbeats 4000000 in
set_option maxRecDepth 100000 in
theorem law_arguments (C : CX p s m args c D E A code 7 "AttackBenchLaw") (K : TK A s) (htr : TR l) (hX : va_X b L xs s s.heap) (hbl : b < s.heap.size) (hbA : ¬ A b) (hL : L ≤ 2048) (hRf : 100 ≤ R.frames) (hRl : 2000 ≤ R.locals) (hce : cells + 1 ≤ R.cells) (hsl : slots + 6 ≤ R.slots) (h4 : 4 * t + 4 ≤ L) (hS : SIM a o) (kend : ∀ u u' f', SIM u u' → GG p l e R s m args below meth c Q D A 7 (cells + 1) (slots + 6) 943 (lvL cA cO ou b t) [] (WS E cA cO ou u u' f')) : GG p l e R s m args below meth c Q D A 7 cells slots 341 (lvL cA cO ou b t) [] (WS E cA cO ou a o f) := by
  obtain ⟨QA, hA, hO⟩ := P_arguments l D E cA cO hS 
  refine g_aload_n C d_Law_law_341 rfl 1 rfl ?_
  refine g_iV (rest := []) (wr := oC E cO o ++ [ouC E ou f]) C hA rd_AB_arguments m_247 m_248 m_249 rfl rfl (by show 24 + 1 ≤ R.frames; omega) (by show 8 + (1 + 11) + 700 ≤ R.locals; omega) (Nat.le_of_succ_le hce) (Nat.le_trans (Nat.le_add_right _ 6) hsl) rfl rfl (Nat.le_of_ble_eq_true rfl) d_Law_law_342 [0, 1, 2, 3, 4, 5, 6, 7, 8, 9, 10, 11, 12, 13, 14, 15, 16, 17] [18, 19, 20, 21, 22, 23, 24, 25, 26, 27, 28, 29, 30, 31, 32, 33, 34] rfl (by decide) rfl (by decide) (by decide) (fun r u hq => ?_)
  refine g_aload_n C d_Law_law_345 rfl 2 rfl ?_
  refine g_iV (rest := [.int r]) (wr := ouC E ou f :: aC E cA u) C (hO r u hq) rd_Mo_arguments m_751 m_752 m_753 rfl rfl (by show 24 + 1 ≤ R.frames; omega) (by show 8 + (1 + 11) + 700 ≤ R.locals; omega) (Nat.le_of_succ_le hce) (Nat.le_trans (Nat.le_add_right _ 6) hsl) rfl rfl (Nat.le_of_ble_eq_true rfl) d_Law_law_346 [0, 1, 2, 3, 4, 5, 6, 7, 8, 9, 10, 11, 12, 13, 14, 15] [16, 17, 18, 19, 20, 21, 22, 23, 24, 25, 26, 27, 28, 29, 30, 31, 32, 33, 34] rfl (by decide) rfl (by decide) (by decide) (fun r' u' h' => ?_)
  obtain ⟨h1, hS'⟩ := h'
  subst h1
  refine g_icmp_eq (tgt := 943) C d_Law_law_349 (by decide) (fun _ => ?_) (fun q => absurd rfl q)
  refine g_cells (ws' := WS E cA cO ou u u' f) [1, 2, 3, 4, 5, 6, 7, 8, 9, 10, 11, 12, 13, 14, 15, 16, 17, 18, 19, 20, 21, 22, 23, 24, 25, 26, 27, 28, 29, 30, 31, 32, 33, 34, 0] (by decide) rfl ?_
  exact g_widen (Nat.le_succ _) (Nat.le_add_right _ 6) (kend u u' f hS')
set_option maxHeartbeats 4000000 in
set_option maxRecDepth 100000 in
theorem law_isFree (C : CX p s m args c D E A code 7 "AttackBenchLaw") (K : TK A s) (htr : TR l) (hX : va_X b L xs s s.heap) (hbl : b < s.heap.size) (hbA : ¬ A b) (hL : L ≤ 2048) (hRf : 100 ≤ R.frames) (hRl : 2000 ≤ R.locals) (hce : cells + 1 ≤ R.cells) (hsl : slots + 6 ≤ R.slots) (h4 : 4 * t + 4 ≤ L) (hS : SIM a o) (kend : ∀ u u' f', SIM u u' → GG p l e R s m args below meth c Q D A 7 (cells + 1) (slots + 6) 943 (lvL cA cO ou b t) [] (WS E cA cO ou u u' f')) : GG p l e R s m args below meth c Q D A 7 cells slots 354 (lvL cA cO ou b t) [] (WS E cA cO ou a o f) := by
  obtain ⟨QA, hA, hO⟩ := P_isFree l D E cA cO hS (xs (4 * t + 1))
  refine g_aload_n C d_Law_law_354 rfl 1 rfl ?_
  refine g_aload_n C d_Law_law_355 rfl 0 rfl ?_
  refine g_iload C d_Law_law_356 4 rfl ?_
  refine g_iconst (v := nI 1) C d_Law_law_358 (by decide) ?_
  refine g_iaddN C d_Law_law_359 ?_
  refine g_sldN C hX hbl hbA (by omega) (by omega) d_Law_law_360 ?_
  refine g_iV (rest := []) (wr := oC E cO o ++ [ouC E ou f]) C hA rd_AB_isFree m_255 m_256 m_257 rfl rfl (by show 24 + 1 ≤ R.frames; omega) (by show 8 + (2 + 11) + 700 ≤ R.locals; omega) (Nat.le_of_succ_le hce) (Nat.le_trans (Nat.le_add_right _ 6) hsl) rfl rfl (Nat.le_of_ble_eq_true rfl) d_Law_law_361 [0, 1, 2, 3, 4, 5, 6, 7, 8, 9, 10, 11, 12, 13, 14, 15, 16, 17] [18, 19, 20, 21, 22, 23, 24, 25, 26, 27, 28, 29, 30, 31, 32, 33, 34] rfl (by decide) rfl (by decide) (by decide) (fun r u hq => ?_)
  refine g_aload_n C d_Law_law_364 rfl 2 rfl ?_
  refine g_aload_n C d_Law_law_365 rfl 0 rfl ?_
  refine g_iload C d_Law_law_366 4 rfl ?_
  refine g_iconst (v := nI 1) C d_Law_law_368 (by decide) ?_
  refine g_iaddN C d_Law_law_369 ?_
  refine g_sldN C hX hbl hbA (by omega) (by omega) d_Law_law_370 ?_
  refine g_iV (rest := [.int r]) (wr := ouC E ou f :: aC E cA u) C (hO r u hq) rd_Mo_isFree m_755 m_756 m_757 rfl rfl (by show 24 + 1 ≤ R.frames; omega) (by show 8 + (2 + 11) + 700 ≤ R.locals; omega) (Nat.le_of_succ_le hce) (Nat.le_trans (Nat.le_add_right _ 6) hsl) rfl rfl (Nat.le_of_ble_eq_true rfl) d_Law_law_371 [0, 1, 2, 3, 4, 5, 6, 7, 8, 9, 10, 11, 12, 13, 14, 15] [16, 17, 18, 19, 20, 21, 22, 23, 24, 25, 26, 27, 28, 29, 30, 31, 32, 33, 34] rfl (by decide) rfl (by decide) (by decide) (fun r' u' h' => ?_)
  obtain ⟨h1, hS'⟩ := h'
  subst h1
  refine g_icmp_eq (tgt := 943) C d_Law_law_374 (by decide) (fun _ => ?_) (fun q => absurd rfl q)
  refine g_cells (ws' := WS E cA cO ou u u' f) [1, 2, 3, 4, 5, 6, 7, 8, 9, 10, 11, 12, 13, 14, 15, 16, 17, 18, 19, 20, 21, 22, 23, 24, 25, 26, 27, 28, 29, 30, 31, 32, 33, 34, 0] (by decide) rfl ?_
  exact g_widen (Nat.le_succ _) (Nat.le_add_right _ 6) (kend u u' f hS')
set_option maxHeartbeats 4000000 in
set_option maxRecDepth 100000 in
theorem law_is (C : CX p s m args c D E A code 7 "AttackBenchLaw") (K : TK A s) (htr : TR l) (hX : va_X b L xs s s.heap) (hbl : b < s.heap.size) (hbA : ¬ A b) (hL : L ≤ 2048) (hRf : 100 ≤ R.frames) (hRl : 2000 ≤ R.locals) (hce : cells + 1 ≤ R.cells) (hsl : slots + 6 ≤ R.slots) (h4 : 4 * t + 4 ≤ L) (hS : SIM a o) (kend : ∀ u u' f', SIM u u' → GG p l e R s m args below meth c Q D A 7 (cells + 1) (slots + 6) 943 (lvL cA cO ou b t) [] (WS E cA cO ou u u' f')) : GG p l e R s m args below meth c Q D A 7 cells slots 379 (lvL cA cO ou b t) [] (WS E cA cO ou a o f) := by
  obtain ⟨QA, hA, hO⟩ := P_is l D E cA cO hS (xs (4 * t + 1)) (xs (4 * t + 2))
  refine g_aload_n C d_Law_law_379 rfl 1 rfl ?_
  refine g_aload_n C d_Law_law_380 rfl 0 rfl ?_
  refine g_iload C d_Law_law_381 4 rfl ?_
  refine g_iconst (v := nI 1) C d_Law_law_383 (by decide) ?_
  refine g_iaddN C d_Law_law_384 ?_
  refine g_sldN C hX hbl hbA (by omega) (by omega) d_Law_law_385 ?_
  refine g_aload_n C d_Law_law_386 rfl 0 rfl ?_
  refine g_iload C d_Law_law_387 4 rfl ?_
  refine g_iconst (v := nI 2) C d_Law_law_389 (by decide) ?_
  refine g_iaddN C d_Law_law_390 ?_
  refine g_sldN C hX hbl hbA (by omega) (by omega) d_Law_law_391 ?_
  refine g_iV (rest := []) (wr := oC E cO o ++ [ouC E ou f]) C hA rd_AB_is m_274 m_275 m_276 rfl rfl (by show 24 + 1 ≤ R.frames; omega) (by show 8 + (3 + 11) + 700 ≤ R.locals; omega) (Nat.le_of_succ_le hce) (Nat.le_trans (Nat.le_add_right _ 6) hsl) rfl rfl (Nat.le_of_ble_eq_true rfl) d_Law_law_392 [0, 1, 2, 3, 4, 5, 6, 7, 8, 9, 10, 11, 12, 13, 14, 15, 16, 17] [18, 19, 20, 21, 22, 23, 24, 25, 26, 27, 28, 29, 30, 31, 32, 33, 34] rfl (by decide) rfl (by decide) (by decide) (fun r u hq => ?_)
  refine g_aload_n C d_Law_law_395 rfl 2 rfl ?_
  refine g_aload_n C d_Law_law_396 rfl 0 rfl ?_
  refine g_iload C d_Law_law_397 4 rfl ?_
  refine g_iconst (v := nI 1) C d_Law_law_399 (by decide) ?_
  refine g_iaddN C d_Law_law_400 ?_
  refine g_sldN C hX hbl hbA (by omega) (by omega) d_Law_law_401 ?_
  refine g_aload_n C d_Law_law_402 rfl 0 rfl ?_
  refine g_iload C d_Law_law_403 4 rfl ?_
  refine g_iconst (v := nI 2) C d_Law_law_405 (by decide) ?_
  refine g_iaddN C d_Law_law_406 ?_
  refine g_sldN C hX hbl hbA (by omega) (by omega) d_Law_law_407 ?_
  refine g_iV (rest := [.int r]) (wr := ouC E ou f :: aC E cA u) C (hO r u hq) rd_Mo_is m_787 m_788 m_789 rfl rfl (by show 24 + 1 ≤ R.frames; omega) (by show 8 + (3 + 11) + 700 ≤ R.locals; omega) (Nat.le_of_succ_le hce) (Nat.le_trans (Nat.le_add_right _ 6) hsl) rfl rfl (Nat.le_of_ble_eq_true rfl) d_Law_law_408 [0, 1, 2, 3, 4, 5, 6, 7, 8, 9, 10, 11, 12, 13, 14, 15] [16, 17, 18, 19, 20, 21, 22, 23, 24, 25, 26, 27, 28, 29, 30, 31, 32, 33, 34] rfl (by decide) rfl (by decide) (by decide) (fun r' u' h' => ?_)
  obtain ⟨h1, hS'⟩ := h'
  subst h1
  refine g_icmp_eq (tgt := 943) C d_Law_law_411 (by decide) (fun _ => ?_) (fun q => absurd rfl q)
  refine g_cells (ws' := WS E cA cO ou u u' f) [1, 2, 3, 4, 5, 6, 7, 8, 9, 10, 11, 12, 13, 14, 15, 16, 17, 18, 19, 20, 21, 22, 23, 24, 25, 26, 27, 28, 29, 30, 31, 32, 33, 34, 0] (by decide) rfl ?_
  exact g_widen (Nat.le_succ _) (Nat.le_add_right _ 6) (kend u u' f hS')
set_option maxHeartbeats 4000000 in
set_option maxRecDepth 100000 in
theorem law_attackedBy (C : CX p s m args c D E A code 7 "AttackBenchLaw") (K : TK A s) (htr : TR l) (hX : va_X b L xs s s.heap) (hbl : b < s.heap.size) (hbA : ¬ A b) (hL : L ≤ 2048) (hRf : 100 ≤ R.frames) (hRl : 2000 ≤ R.locals) (hce : cells + 1 ≤ R.cells) (hsl : slots + 6 ≤ R.slots) (h4 : 4 * t + 4 ≤ L) (hS : SIM a o) (kend : ∀ u u' f', SIM u u' → GG p l e R s m args below meth c Q D A 7 (cells + 1) (slots + 6) 943 (lvL cA cO ou b t) [] (WS E cA cO ou u u' f')) : GG p l e R s m args below meth c Q D A 7 cells slots 416 (lvL cA cO ou b t) [] (WS E cA cO ou a o f) := by
  obtain ⟨QA, hA, hO⟩ := P_attackedBy l D E cA cO hS (xs (4 * t + 1))
  refine g_aload_n C d_Law_law_416 rfl 1 rfl ?_
  refine g_aload_n C d_Law_law_417 rfl 0 rfl ?_
  refine g_iload C d_Law_law_418 4 rfl ?_
  refine g_iconst (v := nI 1) C d_Law_law_420 (by decide) ?_
  refine g_iaddN C d_Law_law_421 ?_
  refine g_sldN C hX hbl hbA (by omega) (by omega) d_Law_law_422 ?_
  refine g_iV (rest := []) (wr := oC E cO o ++ [ouC E ou f]) C hA rd_AB_attackedBy m_339 m_340 m_341 rfl rfl (by show 24 + 1 ≤ R.frames; omega) (by show 8 + (2 + 11) + 700 ≤ R.locals; omega) (Nat.le_of_succ_le hce) (Nat.le_trans (Nat.le_add_right _ 6) hsl) rfl rfl (Nat.le_of_ble_eq_true rfl) d_Law_law_423 [0, 1, 2, 3, 4, 5, 6, 7, 8, 9, 10, 11, 12, 13, 14, 15, 16, 17] [18, 19, 20, 21, 22, 23, 24, 25, 26, 27, 28, 29, 30, 31, 32, 33, 34] rfl (by decide) rfl (by decide) (by decide) (fun r u hq => ?_)
  refine g_aload_n C d_Law_law_426 rfl 2 rfl ?_
  refine g_aload_n C d_Law_law_427 rfl 0 rfl ?_
  refine g_iload C d_Law_law_428 4 rfl ?_
  refine g_iconst (v := nI 1) C d_Law_law_430 (by decide) ?_
  refine g_iaddN C d_Law_law_431 ?_
  refine g_sldN C hX hbl hbA (by omega) (by omega) d_Law_law_432 ?_
  refine g_iV (rest := [.int r]) (wr := ouC E ou f :: aC E cA u) C (hO r u hq) rd_Mo_attackedBy m_798 m_799 m_800 rfl rfl (by show 24 + 1 ≤ R.frames; omega) (by show 8 + (2 + 11) + 700 ≤ R.locals; omega) (Nat.le_of_succ_le hce) (Nat.le_trans (Nat.le_add_right _ 6) hsl) rfl rfl (Nat.le_of_ble_eq_true rfl) d_Law_law_433 [0, 1, 2, 3, 4, 5, 6, 7, 8, 9, 10, 11, 12, 13, 14, 15] [16, 17, 18, 19, 20, 21, 22, 23, 24, 25, 26, 27, 28, 29, 30, 31, 32, 33, 34] rfl (by decide) rfl (by decide) (by decide) (fun r' u' h' => ?_)
  obtain ⟨h1, hS'⟩ := h'
  subst h1
  refine g_icmp_eq (tgt := 943) C d_Law_law_436 (by decide) (fun _ => ?_) (fun q => absurd rfl q)
  refine g_cells (ws' := WS E cA cO ou u u' f) [1, 2, 3, 4, 5, 6, 7, 8, 9, 10, 11, 12, 13, 14, 15, 16, 17, 18, 19, 20, 21, 22, 23, 24, 25, 26, 27, 28, 29, 30, 31, 32, 33, 34, 0] (by decide) rfl ?_
  exact g_widen (Nat.le_succ _) (Nat.le_add_right _ 6) (kend u u' f hS')
set_option maxHeartbeats 4000000 in
set_option maxRecDepth 100000 in
theorem law_defendedBy (C : CX p s m args c D E A code 7 "AttackBenchLaw") (K : TK A s) (htr : TR l) (hX : va_X b L xs s s.heap) (hbl : b < s.heap.size) (hbA : ¬ A b) (hL : L ≤ 2048) (hRf : 100 ≤ R.frames) (hRl : 2000 ≤ R.locals) (hce : cells + 1 ≤ R.cells) (hsl : slots + 6 ≤ R.slots) (h4 : 4 * t + 4 ≤ L) (hS : SIM a o) (kend : ∀ u u' f', SIM u u' → GG p l e R s m args below meth c Q D A 7 (cells + 1) (slots + 6) 943 (lvL cA cO ou b t) [] (WS E cA cO ou u u' f')) : GG p l e R s m args below meth c Q D A 7 cells slots 441 (lvL cA cO ou b t) [] (WS E cA cO ou a o f) := by
  obtain ⟨QA, hA, hO⟩ := P_defendedBy l D E cA cO hS (xs (4 * t + 1))
  refine g_aload_n C d_Law_law_441 rfl 1 rfl ?_
  refine g_aload_n C d_Law_law_442 rfl 0 rfl ?_
  refine g_iload C d_Law_law_443 4 rfl ?_
  refine g_iconst (v := nI 1) C d_Law_law_445 (by decide) ?_
  refine g_iaddN C d_Law_law_446 ?_
  refine g_sldN C hX hbl hbA (by omega) (by omega) d_Law_law_447 ?_
  refine g_iV (rest := []) (wr := oC E cO o ++ [ouC E ou f]) C hA rd_AB_defendedBy m_343 m_344 m_345 rfl rfl (by show 24 + 1 ≤ R.frames; omega) (by show 8 + (2 + 11) + 700 ≤ R.locals; omega) (Nat.le_of_succ_le hce) (Nat.le_trans (Nat.le_add_right _ 6) hsl) rfl rfl (Nat.le_of_ble_eq_true rfl) d_Law_law_448 [0, 1, 2, 3, 4, 5, 6, 7, 8, 9, 10, 11, 12, 13, 14, 15, 16, 17] [18, 19, 20, 21, 22, 23, 24, 25, 26, 27, 28, 29, 30, 31, 32, 33, 34] rfl (by decide) rfl (by decide) (by decide) (fun r u hq => ?_)
  refine g_aload_n C d_Law_law_451 rfl 2 rfl ?_
  refine g_aload_n C d_Law_law_452 rfl 0 rfl ?_
  refine g_iload C d_Law_law_453 4 rfl ?_
  refine g_iconst (v := nI 1) C d_Law_law_455 (by decide) ?_
  refine g_iaddN C d_Law_law_456 ?_
  refine g_sldN C hX hbl hbA (by omega) (by omega) d_Law_law_457 ?_
  refine g_iV (rest := [.int r]) (wr := ouC E ou f :: aC E cA u) C (hO r u hq) rd_Mo_defendedBy m_802 m_803 m_804 rfl rfl (by show 24 + 1 ≤ R.frames; omega) (by show 8 + (2 + 11) + 700 ≤ R.locals; omega) (Nat.le_of_succ_le hce) (Nat.le_trans (Nat.le_add_right _ 6) hsl) rfl rfl (Nat.le_of_ble_eq_true rfl) d_Law_law_458 [0, 1, 2, 3, 4, 5, 6, 7, 8, 9, 10, 11, 12, 13, 14, 15] [16, 17, 18, 19, 20, 21, 22, 23, 24, 25, 26, 27, 28, 29, 30, 31, 32, 33, 34] rfl (by decide) rfl (by decide) (by decide) (fun r' u' h' => ?_)
  obtain ⟨h1, hS'⟩ := h'
  subst h1
  refine g_icmp_eq (tgt := 943) C d_Law_law_461 (by decide) (fun _ => ?_) (fun q => absurd rfl q)
  refine g_cells (ws' := WS E cA cO ou u u' f) [1, 2, 3, 4, 5, 6, 7, 8, 9, 10, 11, 12, 13, 14, 15, 16, 17, 18, 19, 20, 21, 22, 23, 24, 25, 26, 27, 28, 29, 30, 31, 32, 33, 34, 0] (by decide) rfl ?_
  exact g_widen (Nat.le_succ _) (Nat.le_add_right _ 6) (kend u u' f hS')
set_option maxHeartbeats 4000000 in
set_option maxRecDepth 100000 in
theorem law_grounded (C : CX p s m args c D E A code 7 "AttackBenchLaw") (K : TK A s) (htr : TR l) (hX : va_X b L xs s s.heap) (hbl : b < s.heap.size) (hbA : ¬ A b) (hL : L ≤ 2048) (hRf : 100 ≤ R.frames) (hRl : 2000 ≤ R.locals) (hce : cells + 1 ≤ R.cells) (hsl : slots + 6 ≤ R.slots) (h4 : 4 * t + 4 ≤ L) (hS : SIM a o) (kend : ∀ u u' f', SIM u u' → GG p l e R s m args below meth c Q D A 7 (cells + 1) (slots + 6) 943 (lvL cA cO ou b t) [] (WS E cA cO ou u u' f')) : GG p l e R s m args below meth c Q D A 7 cells slots 466 (lvL cA cO ou b t) [] (WS E cA cO ou a o f) := by
  obtain ⟨QA, hA, hO⟩ := P_grounded l D E cA cO hS 
  refine g_aload_n C d_Law_law_466 rfl 1 rfl ?_
  refine g_iV (rest := []) (wr := oC E cO o ++ [ouC E ou f]) C hA rd_AB_grounded m_352 m_353 m_354 rfl rfl (by show 24 + 1 ≤ R.frames; omega) (by show 8 + (1 + 11) + 700 ≤ R.locals; omega) (Nat.le_of_succ_le hce) (Nat.le_trans (Nat.le_add_right _ 6) hsl) rfl rfl (Nat.le_of_ble_eq_true rfl) d_Law_law_467 [0, 1, 2, 3, 4, 5, 6, 7, 8, 9, 10, 11, 12, 13, 14, 15, 16, 17] [18, 19, 20, 21, 22, 23, 24, 25, 26, 27, 28, 29, 30, 31, 32, 33, 34] rfl (by decide) rfl (by decide) (by decide) (fun r u hq => ?_)
  refine g_aload_n C d_Law_law_470 rfl 2 rfl ?_
  refine g_iV (rest := [.int r]) (wr := ouC E ou f :: aC E cA u) C (hO r u hq) rd_Mo_grounded m_806 m_807 m_808 rfl rfl (by show 24 + 1 ≤ R.frames; omega) (by show 8 + (1 + 11) + 700 ≤ R.locals; omega) (Nat.le_of_succ_le hce) (Nat.le_trans (Nat.le_add_right _ 6) hsl) rfl rfl (Nat.le_of_ble_eq_true rfl) d_Law_law_471 [0, 1, 2, 3, 4, 5, 6, 7, 8, 9, 10, 11, 12, 13, 14, 15] [16, 17, 18, 19, 20, 21, 22, 23, 24, 25, 26, 27, 28, 29, 30, 31, 32, 33, 34] rfl (by decide) rfl (by decide) (by decide) (fun r' u' h' => ?_)
  obtain ⟨h1, hS'⟩ := h'
  subst h1
  refine g_icmp_eq (tgt := 943) C d_Law_law_474 (by decide) (fun _ => ?_) (fun q => absurd rfl q)
  refine g_cells (ws' := WS E cA cO ou u u' f) [1, 2, 3, 4, 5, 6, 7, 8, 9, 10, 11, 12, 13, 14, 15, 16, 17, 18, 19, 20, 21, 22, 23, 24, 25, 26, 27, 28, 29, 30, 31, 32, 33, 34, 0] (by decide) rfl ?_
  exact g_widen (Nat.le_succ _) (Nat.le_add_right _ 6) (kend u u' f hS')
set_option maxHeartbeats 4000000 in
set_option maxRecDepth 100000 in
theorem law_round (C : CX p s m args c D E A code 7 "AttackBenchLaw") (K : TK A s) (htr : TR l) (hX : va_X b L xs s s.heap) (hbl : b < s.heap.size) (hbA : ¬ A b) (hL : L ≤ 2048) (hRf : 100 ≤ R.frames) (hRl : 2000 ≤ R.locals) (hce : cells + 1 ≤ R.cells) (hsl : slots + 6 ≤ R.slots) (h4 : 4 * t + 4 ≤ L) (hS : SIM a o) (kend : ∀ u u' f', SIM u u' → GG p l e R s m args below meth c Q D A 7 (cells + 1) (slots + 6) 943 (lvL cA cO ou b t) [] (WS E cA cO ou u u' f')) : GG p l e R s m args below meth c Q D A 7 cells slots 479 (lvL cA cO ou b t) [] (WS E cA cO ou a o f) := by
  obtain ⟨QA, hA, hO⟩ := P_round l D E cA cO hS (xs (4 * t + 1))
  refine g_aload_n C d_Law_law_479 rfl 1 rfl ?_
  refine g_aload_n C d_Law_law_480 rfl 0 rfl ?_
  refine g_iload C d_Law_law_481 4 rfl ?_
  refine g_iconst (v := nI 1) C d_Law_law_483 (by decide) ?_
  refine g_iaddN C d_Law_law_484 ?_
  refine g_sldN C hX hbl hbA (by omega) (by omega) d_Law_law_485 ?_
  refine g_iV (rest := []) (wr := oC E cO o ++ [ouC E ou f]) C hA rd_AB_round m_370 m_371 m_372 rfl rfl (by show 24 + 1 ≤ R.frames; omega) (by show 8 + (2 + 11) + 700 ≤ R.locals; omega) (Nat.le_of_succ_le hce) (Nat.le_trans (Nat.le_add_right _ 6) hsl) rfl rfl (Nat.le_of_ble_eq_true rfl) d_Law_law_486 [0, 1, 2, 3, 4, 5, 6, 7, 8, 9, 10, 11, 12, 13, 14, 15, 16, 17] [18, 19, 20, 21, 22, 23, 24, 25, 26, 27, 28, 29, 30, 31, 32, 33, 34] rfl (by decide) rfl (by decide) (by decide) (fun r u hq => ?_)
  refine g_aload_n C d_Law_law_489 rfl 2 rfl ?_
  refine g_aload_n C d_Law_law_490 rfl 0 rfl ?_
  refine g_iload C d_Law_law_491 4 rfl ?_
  refine g_iconst (v := nI 1) C d_Law_law_493 (by decide) ?_
  refine g_iaddN C d_Law_law_494 ?_
  refine g_sldN C hX hbl hbA (by omega) (by omega) d_Law_law_495 ?_
  refine g_iV (rest := [.int r]) (wr := ouC E ou f :: aC E cA u) C (hO r u hq) rd_Mo_round m_810 m_811 m_812 rfl rfl (by show 24 + 1 ≤ R.frames; omega) (by show 8 + (2 + 11) + 700 ≤ R.locals; omega) (Nat.le_of_succ_le hce) (Nat.le_trans (Nat.le_add_right _ 6) hsl) rfl rfl (Nat.le_of_ble_eq_true rfl) d_Law_law_496 [0, 1, 2, 3, 4, 5, 6, 7, 8, 9, 10, 11, 12, 13, 14, 15] [16, 17, 18, 19, 20, 21, 22, 23, 24, 25, 26, 27, 28, 29, 30, 31, 32, 33, 34] rfl (by decide) rfl (by decide) (by decide) (fun r' u' h' => ?_)
  obtain ⟨h1, hS'⟩ := h'
  subst h1
  refine g_icmp_eq (tgt := 943) C d_Law_law_499 (by decide) (fun _ => ?_) (fun q => absurd rfl q)
  refine g_cells (ws' := WS E cA cO ou u u' f) [1, 2, 3, 4, 5, 6, 7, 8, 9, 10, 11, 12, 13, 14, 15, 16, 17, 18, 19, 20, 21, 22, 23, 24, 25, 26, 27, 28, 29, 30, 31, 32, 33, 34, 0] (by decide) rfl ?_
  exact g_widen (Nat.le_succ _) (Nat.le_add_right _ 6) (kend u u' f hS')
set_option maxHeartbeats 4000000 in
set_option maxRecDepth 100000 in
theorem law_ideal (C : CX p s m args c D E A code 7 "AttackBenchLaw") (K : TK A s) (htr : TR l) (hX : va_X b L xs s s.heap) (hbl : b < s.heap.size) (hbA : ¬ A b) (hL : L ≤ 2048) (hRf : 100 ≤ R.frames) (hRl : 2000 ≤ R.locals) (hce : cells + 1 ≤ R.cells) (hsl : slots + 6 ≤ R.slots) (h4 : 4 * t + 4 ≤ L) (hS : SIM a o) (kend : ∀ u u' f', SIM u u' → GG p l e R s m args below meth c Q D A 7 (cells + 1) (slots + 6) 943 (lvL cA cO ou b t) [] (WS E cA cO ou u u' f')) : GG p l e R s m args below meth c Q D A 7 cells slots 504 (lvL cA cO ou b t) [] (WS E cA cO ou a o f) := by
  obtain ⟨QA, hA, hO⟩ := P_ideal l D E cA cO hS 
  refine g_aload_n C d_Law_law_504 rfl 1 rfl ?_
  refine g_iV (rest := []) (wr := oC E cO o ++ [ouC E ou f]) C hA rd_AB_ideal m_378 m_379 m_380 rfl rfl (by show 24 + 1 ≤ R.frames; omega) (by show 8 + (1 + 11) + 700 ≤ R.locals; omega) (Nat.le_of_succ_le hce) (Nat.le_trans (Nat.le_add_right _ 6) hsl) rfl rfl (Nat.le_of_ble_eq_true rfl) d_Law_law_505 [0, 1, 2, 3, 4, 5, 6, 7, 8, 9, 10, 11, 12, 13, 14, 15, 16, 17] [18, 19, 20, 21, 22, 23, 24, 25, 26, 27, 28, 29, 30, 31, 32, 33, 34] rfl (by decide) rfl (by decide) (by decide) (fun r u hq => ?_)
  refine g_aload_n C d_Law_law_508 rfl 2 rfl ?_
  refine g_iV (rest := [.int r]) (wr := ouC E ou f :: aC E cA u) C (hO r u hq) rd_Mo_ideal m_814 m_815 m_816 rfl rfl (by show 24 + 1 ≤ R.frames; omega) (by show 8 + (4 + 11) + 700 ≤ R.locals; omega) (Nat.le_of_succ_le hce) (Nat.le_trans (Nat.le_add_right _ 6) hsl) rfl rfl (Nat.le_of_ble_eq_true rfl) d_Law_law_509 [0, 1, 2, 3, 4, 5, 6, 7, 8, 9, 10, 11, 12, 13, 14, 15] [16, 17, 18, 19, 20, 21, 22, 23, 24, 25, 26, 27, 28, 29, 30, 31, 32, 33, 34] rfl (by decide) rfl (by decide) (by decide) (fun r' u' h' => ?_)
  obtain ⟨h1, hS'⟩ := h'
  subst h1
  refine g_icmp_eq (tgt := 943) C d_Law_law_512 (by decide) (fun _ => ?_) (fun q => absurd rfl q)
  refine g_cells (ws' := WS E cA cO ou u u' f) [1, 2, 3, 4, 5, 6, 7, 8, 9, 10, 11, 12, 13, 14, 15, 16, 17, 18, 19, 20, 21, 22, 23, 24, 25, 26, 27, 28, 29, 30, 31, 32, 33, 34, 0] (by decide) rfl ?_
  exact g_widen (Nat.le_succ _) (Nat.le_add_right _ 6) (kend u u' f hS')
set_option maxHeartbeats 4000000 in
set_option maxRecDepth 100000 in
theorem law_start (C : CX p s m args c D E A code 7 "AttackBenchLaw") (K : TK A s) (htr : TR l) (hX : va_X b L xs s s.heap) (hbl : b < s.heap.size) (hbA : ¬ A b) (hL : L ≤ 2048) (hRf : 100 ≤ R.frames) (hRl : 2000 ≤ R.locals) (hce : cells + 1 ≤ R.cells) (hsl : slots + 6 ≤ R.slots) (h4 : 4 * t + 4 ≤ L) (hS : SIM a o) (kend : ∀ u u' f', SIM u u' → GG p l e R s m args below meth c Q D A 7 (cells + 1) (slots + 6) 943 (lvL cA cO ou b t) [] (WS E cA cO ou u u' f')) : GG p l e R s m args below meth c Q D A 7 cells slots 517 (lvL cA cO ou b t) [] (WS E cA cO ou a o f) := by
  obtain ⟨QA, hA, hO⟩ := R_start l D E cA cO htr hS (xs (4 * t + 1))
  refine g_aload_n C d_Law_law_517 rfl 1 rfl ?_
  refine g_aload_n C d_Law_law_518 rfl 0 rfl ?_
  refine g_iload C d_Law_law_519 4 rfl ?_
  refine g_iconst (v := nI 1) C d_Law_law_521 (by decide) ?_
  refine g_iaddN C d_Law_law_522 ?_
  refine g_sldN C hX hbl hbA (by omega) (by omega) d_Law_law_523 ?_
  refine g_iSW (n := 2) (rest := []) (wr := oC E cO o ++ [ouC E ou f]) C K hA cw_start m_37 (by decide) (by decide +kernel) m_447 m_448 (by show 40 + 1 ≤ R.frames; omega) (by show 8 + (3 + 11) + 900 ≤ R.locals; omega) hce hsl rfl rfl (Nat.le_of_ble_eq_true rfl) d_Law_law_524 [0, 1, 2, 3, 4, 5, 6, 7, 8, 9, 10, 11, 12, 13, 14, 15, 16, 17] [18, 19, 20, 21, 22, 23, 24, 25, 26, 27, 28, 29, 30, 31, 32, 33, 34] rfl (by decide) rfl (by decide) (by decide) (fun k u hq => ?_)
  obtain ⟨kk, hk, hk3, hO⟩ := hO k u hq
  subst hk
  refine g_istore (lv' := (5, .int (nI kk)) :: lvL cA cO ou b t) C d_Law_law_527 (by decide) rfl ?_
  refine g_aload_n C d_Law_law_529 rfl 3 rfl ?_
  refine g_aload_n C d_Law_law_530 rfl 1 rfl ?_
  refine g_iload C d_Law_law_531 5 rfl ?_
  refine g_iconst (v := nI 1) C d_Law_law_533 (by decide) ?_
  refine g_iaddN C d_Law_law_534 ?_
  refine g_sldN C hX hbl hbA (by omega) (by omega) d_Law_law_535 ?_
  refine g_vV (rest := []) (wr := ouC E ou f :: aC E cA u) C hO rd_Mo_start m_818 m_819 m_820 rfl rfl (by show 24 + 1 ≤ R.frames; omega) (by show 8 + (2 + 11) + 700 ≤ R.locals; omega) hce hsl rfl rfl (Nat.le_of_ble_eq_true rfl) d_Law_law_536 [0, 1, 2, 3, 4, 5, 6, 7, 8, 9, 10, 11, 12, 13, 14, 15] [16, 17, 18, 19, 20, 21, 22, 23, 24, 25, 26, 27, 28, 29, 30, 31, 32, 33, 34] rfl (by decide) rfl (by decide) (by decide) (fun u' h' => ?_)
  obtain ⟨hth, hS'⟩ := h'
  refine g_aload_n C d_Law_law_539 rfl 3 rfl ?_
  refine g_iV (rest := []) (wr := ouC E ou f :: aC E cA u) C (O_thrown l D E cO u') rd_Mo_thrown m_711 m_712 m_713 rfl rfl (by show 24 + 1 ≤ R.frames; omega) (by show 8 + (1 + 11) + 700 ≤ R.locals; omega) hce hsl rfl rfl (Nat.le_of_ble_eq_true rfl) d_Law_law_540 [19, 20, 21, 22, 23, 24, 25, 26, 27, 28, 29, 30, 31, 32, 33, 34] [0, 1, 2, 3, 4, 5, 6, 7, 8, 9, 10, 11, 12, 13, 14, 15, 16, 17, 18] rfl (by decide) rfl (by decide) (by decide) (fun r9 u9 h9 => ?_)
  obtain ⟨h91, h92⟩ := h9
  subst h91
  have h93 : u9 = u' := h92
  subst h93
  refine g_iload C d_Law_law_543 0 rfl ?_
  refine g_icmp_eq (tgt := 550) C d_Law_law_545 (by decide) (fun _ => ?_) (fun q => absurd (congrArg nI hth) q)
  refine g_goto (tgt := 943) C d_Law_law_550 (by decide) ?_
  refine g_perm (lv' := lvL cA cO ou b t) [1, 2, 3, 4, 5] rfl ?_
  refine g_cells (ws' := WS E cA cO ou u u9 f) [1, 2, 3, 4, 5, 6, 7, 8, 9, 10, 11, 12, 13, 14, 15, 16, 17, 18, 19, 20, 21, 22, 23, 24, 25, 26, 27, 28, 29, 30, 31, 32, 33, 34, 0] (by decide) rfl ?_
  exact g_widen (Nat.le_refl _) (Nat.le_refl _) (kend u u9 f hS')
set_option maxHeartbeats 4000000 in
set_option maxRecDepth 100000 in
theorem law_next (C : CX p s m args c D E A code 7 "AttackBenchLaw") (K : TK A s) (htr : TR l) (hX : va_X b L xs s s.heap) (hbl : b < s.heap.size) (hbA : ¬ A b) (hL : L ≤ 2048) (hRf : 100 ≤ R.frames) (hRl : 2000 ≤ R.locals) (hce : cells + 1 ≤ R.cells) (hsl : slots + 6 ≤ R.slots) (h4 : 4 * t + 4 ≤ L) (hS : SIM a o) (kend : ∀ u u' f', SIM u u' → GG p l e R s m args below meth c Q D A 7 (cells + 1) (slots + 6) 943 (lvL cA cO ou b t) [] (WS E cA cO ou u u' f')) : GG p l e R s m args below meth c Q D A 7 cells slots 553 (lvL cA cO ou b t) [] (WS E cA cO ou a o f) := by
  obtain ⟨QA, hA, hO⟩ := R_next l D E cA cO ou f htr hS 
  refine g_aload_n C d_Law_law_553 rfl 1 rfl ?_
  refine g_aload_n C d_Law_law_554 rfl 3 rfl ?_
  refine g_iSW (n := 2) (rest := []) (wr := oC E cO o) C K hA cw_next m_37 (by decide) (by decide +kernel) m_526 m_527 (by show 40 + 1 ≤ R.frames; omega) (by show 8 + (3 + 11) + 900 ≤ R.locals; omega) hce hsl rfl rfl (Nat.le_of_ble_eq_true rfl) d_Law_law_555 [0, 1, 2, 3, 4, 5, 6, 7, 8, 9, 10, 11, 12, 13, 14, 15, 16, 17, 34] [18, 19, 20, 21, 22, 23, 24, 25, 26, 27, 28, 29, 30, 31, 32, 33] rfl (by decide) rfl (by decide) (by decide) (fun k u hq => ?_)
  obtain ⟨kk, hk, hk3, hO⟩ := hO k u hq
  subst hk
  refine g_istore (lv' := (5, .int (nI kk)) :: lvL cA cO ou b t) C d_Law_law_558 (by decide) rfl ?_
  refine g_aload_n C d_Law_law_560 rfl 3 rfl ?_
  refine g_iV (rest := []) (wr := aC E cA u.1 ++ [ouC E ou u.2]) C hO rd_Mo_next m_822 m_823 m_824 rfl rfl (by show 24 + 1 ≤ R.frames; omega) (by show 8 + (2 + 11) + 700 ≤ R.locals; omega) hce hsl rfl rfl (Nat.le_of_ble_eq_true rfl) d_Law_law_561 [0, 1, 2, 3, 4, 5, 6, 7, 8, 9, 10, 11, 12, 13, 14, 15] [16, 17, 18, 19, 20, 21, 22, 23, 24, 25, 26, 27, 28, 29, 30, 31, 32, 33, 34] rfl (by decide) rfl (by decide) (by decide) (fun r' u' h' => ?_)
  obtain ⟨hth, hS', hval⟩ := h'
  refine g_istore (lv' := (6, .int r') :: (5, .int (nI kk)) :: lvL cA cO ou b t) C d_Law_law_564 (by decide) rfl ?_
  refine g_aload_n C d_Law_law_566 rfl 4 rfl ?_
  refine g_iV (rest := []) (wr := aC E cA u.1 ++ [ouC E ou u.2]) C (O_thrown l D E cO u') rd_Mo_thrown m_711 m_712 m_713 rfl rfl (by show 24 + 1 ≤ R.frames; omega) (by show 8 + (1 + 11) + 700 ≤ R.locals; omega) hce hsl rfl rfl (Nat.le_of_ble_eq_true rfl) d_Law_law_567 [19, 20, 21, 22, 23, 24, 25, 26, 27, 28, 29, 30, 31, 32, 33, 34] [0, 1, 2, 3, 4, 5, 6, 7, 8, 9, 10, 11, 12, 13, 14, 15, 16, 17, 18] rfl (by decide) rfl (by decide) (by decide) (fun r9 u9 h9 => ?_)
  obtain ⟨h91, h92⟩ := h9
  subst h91
  have h93 : u9 = u' := h92
  subst h93
  refine g_iload C d_Law_law_570 1 rfl ?_
  refine g_icmp_eq (tgt := 577) C d_Law_law_572 (by decide) (fun _ => ?_) (fun q => absurd (congrArg nI hth) q)
  have fin : GG p l e R s m args below meth c Q D A 7 (cells + rmH.cells + rmO.cells + rmO.cells) (slots + rmH.slots + rmO.slots + rmO.slots) 594 ((6, .int r') :: (5, .int (nI kk)) :: lvL cA cO ou b t) [] ((aC E cA u.1 ++ [ouC E ou u.2]) ++ oC E cO u9) := by
    refine g_goto (tgt := 943) C d_Law_law_594 (by decide) ?_
    refine g_perm (lv' := lvL cA cO ou b t) [2, 3, 4, 5, 6] rfl ?_
    refine g_cells (ws' := WS E cA cO ou u.1 u9 u.2) [0, 1, 2, 3, 4, 5, 6, 7, 8, 9, 10, 11, 12, 13, 14, 15, 16, 17, 19, 20, 21, 22, 23, 24, 25, 26, 27, 28, 29, 30, 31, 32, 33, 34, 18] (by decide) rfl ?_
    exact g_widen (Nat.le_refl _) (Nat.le_refl _) (kend u.1 u9 u.2 hS')
  refine g_iload C d_Law_law_577 1 rfl ?_
  refine g_if_neN (tgt := 594) C (by omega) d_Law_law_579 (by decide) (fun _ => fin) (fun hk0 => ?_)
  refine g_aload_n C d_Law_law_582 rfl 5 rfl ?_
  refine g_iconst (v := nI 0) C d_Law_law_583 (by decide) ?_
  refine g_lald C 18 rfl (show vp_in (nI 0) 1 from vp_in_nI (by decide) (by decide)) d_Law_law_584 ?_
  refine g_iload C d_Law_law_585 0 rfl ?_
  refine g_i2l C d_Law_law_587 ?_
  refine g_lcmpE C (hval hk0) d_Law_law_588 ?_
  exact g_if_eq (tgt := 594) C d_Law_law_589 (by decide) (fun _ => fin) (fun q => absurd rfl q)
set_option maxHeartbeats 4000000 in
set_option maxRecDepth 100000 in
theorem law_label (C : CX p s m args c D E A code 7 "AttackBenchLaw") (K : TK A s) (htr : TR l) (hX : va_X b L xs s s.heap) (hbl : b < s.heap.size) (hbA : ¬ A b) (hL : L ≤ 2048) (hRf : 100 ≤ R.frames) (hRl : 2000 ≤ R.locals) (hce : cells + 1 ≤ R.cells) (hsl : slots + 6 ≤ R.slots) (h4 : 4 * t + 4 ≤ L) (hS : SIM a o) (kend : ∀ u u' f', SIM u u' → GG p l e R s m args below meth c Q D A 7 (cells + 1) (slots + 6) 943 (lvL cA cO ou b t) [] (WS E cA cO ou u u' f')) : GG p l e R s m args below meth c Q D A 7 cells slots 597 (lvL cA cO ou b t) [] (WS E cA cO ou a o f) := by
  obtain ⟨QA, hA, hO⟩ := R_label l D E cA cO ou f htr hS (xs (4 * t + 1))
  refine g_aload_n C d_Law_law_597 rfl 1 rfl ?_
  refine g_aload_n C d_Law_law_598 rfl 0 rfl ?_
  refine g_iload C d_Law_law_599 4 rfl ?_
  refine g_iconst (v := nI 1) C d_Law_law_601 (by decide) ?_
  refine g_iaddN C d_Law_law_602 ?_
  refine g_sldN C hX hbl hbA (by omega) (by omega) d_Law_law_603 ?_
  refine g_aload_n C d_Law_law_604 rfl 3 rfl ?_
  refine g_iSW (n := 3) (rest := []) (wr := oC E cO o) C K hA cw_label m_37 (by decide) (by decide +kernel) m_564 m_565 (by show 40 + 1 ≤ R.frames; omega) (by show 8 + (4 + 11) + 900 ≤ R.locals; omega) hce hsl rfl rfl (Nat.le_of_ble_eq_true rfl) d_Law_law_605 [0, 1, 2, 3, 4, 5, 6, 7, 8, 9, 10, 11, 12, 13, 14, 15, 16, 17, 34] [18, 19, 20, 21, 22, 23, 24, 25, 26, 27, 28, 29, 30, 31, 32, 33] rfl (by decide) rfl (by decide) (by decide) (fun k u hq => ?_)
  obtain ⟨kk, hk, hk3, hO⟩ := hO k u hq
  subst hk
  refine g_istore (lv' := (5, .int (nI kk)) :: lvL cA cO ou b t) C d_Law_law_608 (by decide) rfl ?_
  refine g_aload_n C d_Law_law_610 rfl 3 rfl ?_
  refine g_aload_n C d_Law_law_611 rfl 1 rfl ?_
  refine g_iload C d_Law_law_612 5 rfl ?_
  refine g_iconst (v := nI 1) C d_Law_law_614 (by decide) ?_
  refine g_iaddN C d_Law_law_615 ?_
  refine g_sldN C hX hbl hbA (by omega) (by omega) d_Law_law_616 ?_
  refine g_iV (rest := []) (wr := aC E cA u.1 ++ [ouC E ou u.2]) C hO rd_Mo_label m_826 m_827 m_828 rfl rfl (by show 24 + 1 ≤ R.frames; omega) (by show 8 + (2 + 11) + 700 ≤ R.locals; omega) hce hsl rfl rfl (Nat.le_of_ble_eq_true rfl) d_Law_law_617 [0, 1, 2, 3, 4, 5, 6, 7, 8, 9, 10, 11, 12, 13, 14, 15] [16, 17, 18, 19, 20, 21, 22, 23, 24, 25, 26, 27, 28, 29, 30, 31, 32, 33, 34] rfl (by decide) rfl (by decide) (by decide) (fun r' u' h' => ?_)
  obtain ⟨hth, hS', hval⟩ := h'
  refine g_istore (lv' := (6, .int r') :: (5, .int (nI kk)) :: lvL cA cO ou b t) C d_Law_law_620 (by decide) rfl ?_
  refine g_aload_n C d_Law_law_622 rfl 4 rfl ?_
  refine g_iV (rest := []) (wr := aC E cA u.1 ++ [ouC E ou u.2]) C (O_thrown l D E cO u') rd_Mo_thrown m_711 m_712 m_713 rfl rfl (by show 24 + 1 ≤ R.frames; omega) (by show 8 + (1 + 11) + 700 ≤ R.locals; omega) hce hsl rfl rfl (Nat.le_of_ble_eq_true rfl) d_Law_law_623 [19, 20, 21, 22, 23, 24, 25, 26, 27, 28, 29, 30, 31, 32, 33, 34] [0, 1, 2, 3, 4, 5, 6, 7, 8, 9, 10, 11, 12, 13, 14, 15, 16, 17, 18] rfl (by decide) rfl (by decide) (by decide) (fun r9 u9 h9 => ?_)
  obtain ⟨h91, h92⟩ := h9
  subst h91
  have h93 : u9 = u' := h92
  subst h93
  refine g_iload C d_Law_law_626 1 rfl ?_
  refine g_icmp_eq (tgt := 633) C d_Law_law_628 (by decide) (fun _ => ?_) (fun q => absurd (congrArg nI hth) q)
  have fin : GG p l e R s m args below meth c Q D A 7 (cells + rmH.cells + rmO.cells + rmO.cells) (slots + rmH.slots + rmO.slots + rmO.slots) 650 ((6, .int r') :: (5, .int (nI kk)) :: lvL cA cO ou b t) [] ((aC E cA u.1 ++ [ouC E ou u.2]) ++ oC E cO u9) := by
    refine g_goto (tgt := 943) C d_Law_law_650 (by decide) ?_
    refine g_perm (lv' := lvL cA cO ou b t) [2, 3, 4, 5, 6] rfl ?_
    refine g_cells (ws' := WS E cA cO ou u.1 u9 u.2) [0, 1, 2, 3, 4, 5, 6, 7, 8, 9, 10, 11, 12, 13, 14, 15, 16, 17, 19, 20, 21, 22, 23, 24, 25, 26, 27, 28, 29, 30, 31, 32, 33, 34, 18] (by decide) rfl ?_
    exact g_widen (Nat.le_refl _) (Nat.le_refl _) (kend u.1 u9 u.2 hS')
  refine g_iload C d_Law_law_633 1 rfl ?_
  refine g_if_neN (tgt := 650) C (by omega) d_Law_law_635 (by decide) (fun _ => fin) (fun hk0 => ?_)
  refine g_aload_n C d_Law_law_638 rfl 5 rfl ?_
  refine g_iconst (v := nI 0) C d_Law_law_639 (by decide) ?_
  refine g_lald C 18 rfl (show vp_in (nI 0) 1 from vp_in_nI (by decide) (by decide)) d_Law_law_640 ?_
  refine g_iload C d_Law_law_641 0 rfl ?_
  refine g_i2l C d_Law_law_643 ?_
  refine g_lcmpE C (hval hk0) d_Law_law_644 ?_
  exact g_if_eq (tgt := 650) C d_Law_law_645 (by decide) (fun _ => fin) (fun q => absurd rfl q)
set_option maxHeartbeats 4000000 in
set_option maxRecDepth 100000 in
theorem law_count (C : CX p s m args c D E A code 7 "AttackBenchLaw") (K : TK A s) (htr : TR l) (hX : va_X b L xs s s.heap) (hbl : b < s.heap.size) (hbA : ¬ A b) (hL : L ≤ 2048) (hRf : 100 ≤ R.frames) (hRl : 2000 ≤ R.locals) (hce : cells + 1 ≤ R.cells) (hsl : slots + 6 ≤ R.slots) (h4 : 4 * t + 4 ≤ L) (hS : SIM a o) (kend : ∀ u u' f', SIM u u' → GG p l e R s m args below meth c Q D A 7 (cells + 1) (slots + 6) 943 (lvL cA cO ou b t) [] (WS E cA cO ou u u' f')) : GG p l e R s m args below meth c Q D A 7 cells slots 653 (lvL cA cO ou b t) [] (WS E cA cO ou a o f) := by
  obtain ⟨QA, hA, hO⟩ := R_count l D E cA cO ou f htr hS (xs (4 * t + 1))
  refine g_aload_n C d_Law_law_653 rfl 1 rfl ?_
  refine g_aload_n C d_Law_law_654 rfl 0 rfl ?_
  refine g_iload C d_Law_law_655 4 rfl ?_
  refine g_iconst (v := nI 1) C d_Law_law_657 (by decide) ?_
  refine g_iaddN C d_Law_law_658 ?_
  refine g_sldN C hX hbl hbA (by omega) (by omega) d_Law_law_659 ?_
  refine g_aload_n C d_Law_law_660 rfl 3 rfl ?_
  refine g_iSW (n := 3) (rest := []) (wr := oC E cO o) C K hA cw_count m_37 (by decide) (by decide +kernel) m_578 m_579 (by show 40 + 1 ≤ R.frames; omega) (by show 8 + (4 + 11) + 900 ≤ R.locals; omega) hce hsl rfl rfl (Nat.le_of_ble_eq_true rfl) d_Law_law_661 [0, 1, 2, 3, 4, 5, 6, 7, 8, 9, 10, 11, 12, 13, 14, 15, 16, 17, 34] [18, 19, 20, 21, 22, 23, 24, 25, 26, 27, 28, 29, 30, 31, 32, 33] rfl (by decide) rfl (by decide) (by decide) (fun k u hq => ?_)
  obtain ⟨kk, hk, hk3, hO⟩ := hO k u hq
  subst hk
  refine g_istore (lv' := (5, .int (nI kk)) :: lvL cA cO ou b t) C d_Law_law_664 (by decide) rfl ?_
  refine g_aload_n C d_Law_law_666 rfl 3 rfl ?_
  refine g_aload_n C d_Law_law_667 rfl 1 rfl ?_
  refine g_iload C d_Law_law_668 5 rfl ?_
  refine g_iconst (v := nI 1) C d_Law_law_670 (by decide) ?_
  refine g_iaddN C d_Law_law_671 ?_
  refine g_sldN C hX hbl hbA (by omega) (by omega) d_Law_law_672 ?_
  refine g_iV (rest := []) (wr := aC E cA u.1 ++ [ouC E ou u.2]) C hO rd_Mo_count m_830 m_831 m_832 rfl rfl (by show 24 + 1 ≤ R.frames; omega) (by show 8 + (4 + 11) + 700 ≤ R.locals; omega) hce hsl rfl rfl (Nat.le_of_ble_eq_true rfl) d_Law_law_673 [0, 1, 2, 3, 4, 5, 6, 7, 8, 9, 10, 11, 12, 13, 14, 15] [16, 17, 18, 19, 20, 21, 22, 23, 24, 25, 26, 27, 28, 29, 30, 31, 32, 33, 34] rfl (by decide) rfl (by decide) (by decide) (fun r' u' h' => ?_)
  obtain ⟨hth, hS', hval⟩ := h'
  refine g_istore (lv' := (6, .int r') :: (5, .int (nI kk)) :: lvL cA cO ou b t) C d_Law_law_676 (by decide) rfl ?_
  refine g_aload_n C d_Law_law_678 rfl 4 rfl ?_
  refine g_iV (rest := []) (wr := aC E cA u.1 ++ [ouC E ou u.2]) C (O_thrown l D E cO u') rd_Mo_thrown m_711 m_712 m_713 rfl rfl (by show 24 + 1 ≤ R.frames; omega) (by show 8 + (1 + 11) + 700 ≤ R.locals; omega) hce hsl rfl rfl (Nat.le_of_ble_eq_true rfl) d_Law_law_679 [19, 20, 21, 22, 23, 24, 25, 26, 27, 28, 29, 30, 31, 32, 33, 34] [0, 1, 2, 3, 4, 5, 6, 7, 8, 9, 10, 11, 12, 13, 14, 15, 16, 17, 18] rfl (by decide) rfl (by decide) (by decide) (fun r9 u9 h9 => ?_)
  obtain ⟨h91, h92⟩ := h9
  subst h91
  have h93 : u9 = u' := h92
  subst h93
  refine g_iload C d_Law_law_682 1 rfl ?_
  refine g_icmp_eq (tgt := 689) C d_Law_law_684 (by decide) (fun _ => ?_) (fun q => absurd (congrArg nI hth) q)
  have fin : GG p l e R s m args below meth c Q D A 7 (cells + rmH.cells + rmO.cells + rmO.cells) (slots + rmH.slots + rmO.slots + rmO.slots) 706 ((6, .int r') :: (5, .int (nI kk)) :: lvL cA cO ou b t) [] ((aC E cA u.1 ++ [ouC E ou u.2]) ++ oC E cO u9) := by
    refine g_goto (tgt := 943) C d_Law_law_706 (by decide) ?_
    refine g_perm (lv' := lvL cA cO ou b t) [2, 3, 4, 5, 6] rfl ?_
    refine g_cells (ws' := WS E cA cO ou u.1 u9 u.2) [0, 1, 2, 3, 4, 5, 6, 7, 8, 9, 10, 11, 12, 13, 14, 15, 16, 17, 19, 20, 21, 22, 23, 24, 25, 26, 27, 28, 29, 30, 31, 32, 33, 34, 18] (by decide) rfl ?_
    exact g_widen (Nat.le_refl _) (Nat.le_refl _) (kend u.1 u9 u.2 hS')
  refine g_iload C d_Law_law_689 1 rfl ?_
  refine g_if_neN (tgt := 706) C (by omega) d_Law_law_691 (by decide) (fun _ => fin) (fun hk0 => ?_)
  refine g_aload_n C d_Law_law_694 rfl 5 rfl ?_
  refine g_iconst (v := nI 0) C d_Law_law_695 (by decide) ?_
  refine g_lald C 18 rfl (show vp_in (nI 0) 1 from vp_in_nI (by decide) (by decide)) d_Law_law_696 ?_
  refine g_iload C d_Law_law_697 0 rfl ?_
  refine g_i2l C d_Law_law_699 ?_
  refine g_lcmpE C (hval hk0) d_Law_law_700 ?_
  exact g_if_eq (tgt := 706) C d_Law_law_701 (by decide) (fun _ => fin) (fun q => absurd rfl q)
set_option maxHeartbeats 4000000 in
set_option maxRecDepth 100000 in
theorem law_holds (C : CX p s m args c D E A code 7 "AttackBenchLaw") (K : TK A s) (htr : TR l) (hX : va_X b L xs s s.heap) (hbl : b < s.heap.size) (hbA : ¬ A b) (hL : L ≤ 2048) (hRf : 100 ≤ R.frames) (hRl : 2000 ≤ R.locals) (hce : cells + 1 ≤ R.cells) (hsl : slots + 6 ≤ R.slots) (h4 : 4 * t + 4 ≤ L) (hS : SIM a o) (kend : ∀ u u' f', SIM u u' → GG p l e R s m args below meth c Q D A 7 (cells + 1) (slots + 6) 943 (lvL cA cO ou b t) [] (WS E cA cO ou u u' f')) : GG p l e R s m args below meth c Q D A 7 cells slots 709 (lvL cA cO ou b t) [] (WS E cA cO ou a o f) := by
  obtain ⟨QA, hA, hO⟩ := R_holds l D E cA cO ou f htr hS (xs (4 * t + 1)) (xs (4 * t + 2)) (decide (xs (4 * t + 3) ≠ 0))
  refine g_aload_n C d_Law_law_709 rfl 1 rfl ?_
  refine g_aload_n C d_Law_law_710 rfl 0 rfl ?_
  refine g_iload C d_Law_law_711 4 rfl ?_
  refine g_iconst (v := nI 1) C d_Law_law_713 (by decide) ?_
  refine g_iaddN C d_Law_law_714 ?_
  refine g_sldN C hX hbl hbA (by omega) (by omega) d_Law_law_715 ?_
  refine g_aload_n C d_Law_law_716 rfl 0 rfl ?_
  refine g_iload C d_Law_law_717 4 rfl ?_
  refine g_iconst (v := nI 2) C d_Law_law_719 (by decide) ?_
  refine g_iaddN C d_Law_law_720 ?_
  refine g_sldN C hX hbl hbA (by omega) (by omega) d_Law_law_721 ?_
  refine g_aload_n C d_Law_law_722 rfl 0 rfl ?_
  refine g_iload C d_Law_law_723 4 rfl ?_
  refine g_iconst (v := nI 3) C d_Law_law_725 (by decide) ?_
  refine g_iaddN C d_Law_law_726 ?_
  refine g_sldN C hX hbl hbA (by omega) (by omega) d_Law_law_727 ?_
  refine g_nz C d_Law_law_728 d_Law_law_731 d_Law_law_732 d_Law_law_735 ?_
  refine g_aload_n C d_Law_law_736 rfl 3 rfl ?_
  refine g_iSW (n := 5) (rest := []) (wr := oC E cO o) C K hA cw_holds m_37 (by decide) (by decide +kernel) m_589 m_590 (by show 40 + 1 ≤ R.frames; omega) (by show 8 + (6 + 11) + 900 ≤ R.locals; omega) hce hsl rfl rfl (Nat.le_of_ble_eq_true rfl) d_Law_law_737 [0, 1, 2, 3, 4, 5, 6, 7, 8, 9, 10, 11, 12, 13, 14, 15, 16, 17, 34] [18, 19, 20, 21, 22, 23, 24, 25, 26, 27, 28, 29, 30, 31, 32, 33] rfl (by decide) rfl (by decide) (by decide) (fun k u hq => ?_)
  obtain ⟨kk, hk, hk3, hO⟩ := hO k u hq
  subst hk
  refine g_istore (lv' := (5, .int (nI kk)) :: lvL cA cO ou b t) C d_Law_law_740 (by decide) rfl ?_
  refine g_aload_n C d_Law_law_742 rfl 3 rfl ?_
  refine g_aload_n C d_Law_law_743 rfl 1 rfl ?_
  refine g_iload C d_Law_law_744 5 rfl ?_
  refine g_iconst (v := nI 1) C d_Law_law_746 (by decide) ?_
  refine g_iaddN C d_Law_law_747 ?_
  refine g_sldN C hX hbl hbA (by omega) (by omega) d_Law_law_748 ?_
  refine g_aload_n C d_Law_law_749 rfl 1 rfl ?_
  refine g_iload C d_Law_law_750 5 rfl ?_
  refine g_iconst (v := nI 2) C d_Law_law_752 (by decide) ?_
  refine g_iaddN C d_Law_law_753 ?_
  refine g_sldN C hX hbl hbA (by omega) (by omega) d_Law_law_754 ?_
  refine g_aload_n C d_Law_law_755 rfl 1 rfl ?_
  refine g_iload C d_Law_law_756 5 rfl ?_
  refine g_iconst (v := nI 3) C d_Law_law_758 (by decide) ?_
  refine g_iaddN C d_Law_law_759 ?_
  refine g_sldN C hX hbl hbA (by omega) (by omega) d_Law_law_760 ?_
  refine g_nz C d_Law_law_761 d_Law_law_764 d_Law_law_765 d_Law_law_768 ?_
  refine g_iV (rest := []) (wr := aC E cA u.1 ++ [ouC E ou u.2]) C hO rd_Mo_holds m_834 m_835 m_836 rfl rfl (by show 24 + 1 ≤ R.frames; omega) (by show 8 + (7 + 11) + 700 ≤ R.locals; omega) hce hsl rfl rfl (Nat.le_of_ble_eq_true rfl) d_Law_law_769 [0, 1, 2, 3, 4, 5, 6, 7, 8, 9, 10, 11, 12, 13, 14, 15] [16, 17, 18, 19, 20, 21, 22, 23, 24, 25, 26, 27, 28, 29, 30, 31, 32, 33, 34] rfl (by decide) rfl (by decide) (by decide) (fun r' u' h' => ?_)
  obtain ⟨hth, hS', hval⟩ := h'
  refine g_istore (lv' := (6, .int r') :: (5, .int (nI kk)) :: lvL cA cO ou b t) C d_Law_law_772 (by decide) rfl ?_
  refine g_aload_n C d_Law_law_774 rfl 4 rfl ?_
  refine g_iV (rest := []) (wr := aC E cA u.1 ++ [ouC E ou u.2]) C (O_thrown l D E cO u') rd_Mo_thrown m_711 m_712 m_713 rfl rfl (by show 24 + 1 ≤ R.frames; omega) (by show 8 + (1 + 11) + 700 ≤ R.locals; omega) hce hsl rfl rfl (Nat.le_of_ble_eq_true rfl) d_Law_law_775 [19, 20, 21, 22, 23, 24, 25, 26, 27, 28, 29, 30, 31, 32, 33, 34] [0, 1, 2, 3, 4, 5, 6, 7, 8, 9, 10, 11, 12, 13, 14, 15, 16, 17, 18] rfl (by decide) rfl (by decide) (by decide) (fun r9 u9 h9 => ?_)
  obtain ⟨h91, h92⟩ := h9
  subst h91
  have h93 : u9 = u' := h92
  subst h93
  refine g_iload C d_Law_law_778 1 rfl ?_
  refine g_icmp_eq (tgt := 785) C d_Law_law_780 (by decide) (fun _ => ?_) (fun q => absurd (congrArg nI hth) q)
  have fin : GG p l e R s m args below meth c Q D A 7 (cells + rmH.cells + rmO.cells + rmO.cells) (slots + rmH.slots + rmO.slots + rmO.slots) 809 ((6, .int r') :: (5, .int (nI kk)) :: lvL cA cO ou b t) [] ((aC E cA u.1 ++ [ouC E ou u.2]) ++ oC E cO u9) := by
    refine g_goto (tgt := 943) C d_Law_law_809 (by decide) ?_
    refine g_perm (lv' := lvL cA cO ou b t) [2, 3, 4, 5, 6] rfl ?_
    refine g_cells (ws' := WS E cA cO ou u.1 u9 u.2) [0, 1, 2, 3, 4, 5, 6, 7, 8, 9, 10, 11, 12, 13, 14, 15, 16, 17, 19, 20, 21, 22, 23, 24, 25, 26, 27, 28, 29, 30, 31, 32, 33, 34, 18] (by decide) rfl ?_
    exact g_widen (Nat.le_refl _) (Nat.le_refl _) (kend u.1 u9 u.2 hS')
  refine g_iload C d_Law_law_785 1 rfl ?_
  refine g_if_neN (tgt := 809) C (by omega) d_Law_law_787 (by decide) (fun _ => fin) (fun hk0 => ?_)
  refine g_aload_n C d_Law_law_790 rfl 5 rfl ?_
  refine g_iconst (v := nI 0) C d_Law_law_791 (by decide) ?_
  refine g_lald C 18 rfl (show vp_in (nI 0) 1 from vp_in_nI (by decide) (by decide)) d_Law_law_792 ?_
  refine g_iload C d_Law_law_793 0 rfl ?_
  refine g_nzL C d_Law_law_795 d_Law_law_798 d_Law_law_799 d_Law_law_802 ?_
  refine g_lcmpE C (hval hk0) d_Law_law_803 ?_
  exact g_if_eq (tgt := 809) C d_Law_law_804 (by decide) (fun _ => fin) (fun q => absurd rfl q)
set_option maxHeartbeats 4000000 in
set_option maxRecDepth 100000 in
theorem law_dialogue (C : CX p s m args c D E A code 7 "AttackBenchLaw") (K : TK A s) (htr : TR l) (hX : va_X b L xs s s.heap) (hbl : b < s.heap.size) (hbA : ¬ A b) (hL : L ≤ 2048) (hRf : 100 ≤ R.frames) (hRl : 2000 ≤ R.locals) (hce : cells + 1 ≤ R.cells) (hsl : slots + 6 ≤ R.slots) (h4 : 4 * t + 4 ≤ L) (hS : SIM a o) (kend : ∀ u u' f', SIM u u' → GG p l e R s m args below meth c Q D A 7 (cells + 1) (slots + 6) 943 (lvL cA cO ou b t) [] (WS E cA cO ou u u' f')) : GG p l e R s m args below meth c Q D A 7 cells slots 812 (lvL cA cO ou b t) [] (WS E cA cO ou a o f) := by
  obtain ⟨QA, hA, hO⟩ := R_dialogue l D E cA cO ou f htr hS (xs (4 * t + 1))
  refine g_aload_n C d_Law_law_812 rfl 1 rfl ?_
  refine g_aload_n C d_Law_law_813 rfl 0 rfl ?_
  refine g_iload C d_Law_law_814 4 rfl ?_
  refine g_iconst (v := nI 1) C d_Law_law_816 (by decide) ?_
  refine g_iaddN C d_Law_law_817 ?_
  refine g_sldN C hX hbl hbA (by omega) (by omega) d_Law_law_818 ?_
  refine g_aload_n C d_Law_law_819 rfl 3 rfl ?_
  refine g_iSW (n := 3) (rest := []) (wr := oC E cO o) C K hA cw_dialogue m_37 (by decide) (by decide +kernel) m_598 m_599 (by show 40 + 1 ≤ R.frames; omega) (by show 8 + (4 + 11) + 900 ≤ R.locals; omega) hce hsl rfl rfl (Nat.le_of_ble_eq_true rfl) d_Law_law_820 [0, 1, 2, 3, 4, 5, 6, 7, 8, 9, 10, 11, 12, 13, 14, 15, 16, 17, 34] [18, 19, 20, 21, 22, 23, 24, 25, 26, 27, 28, 29, 30, 31, 32, 33] rfl (by decide) rfl (by decide) (by decide) (fun k u hq => ?_)
  obtain ⟨kk, hk, hk3, hO⟩ := hO k u hq
  subst hk
  refine g_istore (lv' := (5, .int (nI kk)) :: lvL cA cO ou b t) C d_Law_law_823 (by decide) rfl ?_
  refine g_aload_n C d_Law_law_825 rfl 3 rfl ?_
  refine g_aload_n C d_Law_law_826 rfl 1 rfl ?_
  refine g_iload C d_Law_law_827 5 rfl ?_
  refine g_iconst (v := nI 1) C d_Law_law_829 (by decide) ?_
  refine g_iaddN C d_Law_law_830 ?_
  refine g_sldN C hX hbl hbA (by omega) (by omega) d_Law_law_831 ?_
  refine g_iV (rest := []) (wr := aC E cA u.1 ++ [ouC E ou u.2]) C hO rd_Mo_dialogue m_838 m_839 m_840 rfl rfl (by show 24 + 1 ≤ R.frames; omega) (by show 8 + (4 + 11) + 700 ≤ R.locals; omega) hce hsl rfl rfl (Nat.le_of_ble_eq_true rfl) d_Law_law_832 [0, 1, 2, 3, 4, 5, 6, 7, 8, 9, 10, 11, 12, 13, 14, 15] [16, 17, 18, 19, 20, 21, 22, 23, 24, 25, 26, 27, 28, 29, 30, 31, 32, 33, 34] rfl (by decide) rfl (by decide) (by decide) (fun r' u' h' => ?_)
  obtain ⟨hth, hS', hval⟩ := h'
  refine g_istore (lv' := (6, .int r') :: (5, .int (nI kk)) :: lvL cA cO ou b t) C d_Law_law_835 (by decide) rfl ?_
  refine g_aload_n C d_Law_law_837 rfl 4 rfl ?_
  refine g_iV (rest := []) (wr := aC E cA u.1 ++ [ouC E ou u.2]) C (O_thrown l D E cO u') rd_Mo_thrown m_711 m_712 m_713 rfl rfl (by show 24 + 1 ≤ R.frames; omega) (by show 8 + (1 + 11) + 700 ≤ R.locals; omega) hce hsl rfl rfl (Nat.le_of_ble_eq_true rfl) d_Law_law_838 [19, 20, 21, 22, 23, 24, 25, 26, 27, 28, 29, 30, 31, 32, 33, 34] [0, 1, 2, 3, 4, 5, 6, 7, 8, 9, 10, 11, 12, 13, 14, 15, 16, 17, 18] rfl (by decide) rfl (by decide) (by decide) (fun r9 u9 h9 => ?_)
  obtain ⟨h91, h92⟩ := h9
  subst h91
  have h93 : u9 = u' := h92
  subst h93
  refine g_iload C d_Law_law_841 1 rfl ?_
  refine g_icmp_eq (tgt := 848) C d_Law_law_843 (by decide) (fun _ => ?_) (fun q => absurd (congrArg nI hth) q)
  have fin : GG p l e R s m args below meth c Q D A 7 (cells + rmH.cells + rmO.cells + rmO.cells) (slots + rmH.slots + rmO.slots + rmO.slots) 865 ((6, .int r') :: (5, .int (nI kk)) :: lvL cA cO ou b t) [] ((aC E cA u.1 ++ [ouC E ou u.2]) ++ oC E cO u9) := by
    refine g_goto (tgt := 943) C d_Law_law_865 (by decide) ?_
    refine g_perm (lv' := lvL cA cO ou b t) [2, 3, 4, 5, 6] rfl ?_
    refine g_cells (ws' := WS E cA cO ou u.1 u9 u.2) [0, 1, 2, 3, 4, 5, 6, 7, 8, 9, 10, 11, 12, 13, 14, 15, 16, 17, 19, 20, 21, 22, 23, 24, 25, 26, 27, 28, 29, 30, 31, 32, 33, 34, 18] (by decide) rfl ?_
    exact g_widen (Nat.le_refl _) (Nat.le_refl _) (kend u.1 u9 u.2 hS')
  refine g_iload C d_Law_law_848 1 rfl ?_
  refine g_if_neN (tgt := 865) C (by omega) d_Law_law_850 (by decide) (fun _ => fin) (fun hk0 => ?_)
  refine g_aload_n C d_Law_law_853 rfl 5 rfl ?_
  refine g_iconst (v := nI 0) C d_Law_law_854 (by decide) ?_
  refine g_lald C 18 rfl (show vp_in (nI 0) 1 from vp_in_nI (by decide) (by decide)) d_Law_law_855 ?_
  refine g_iload C d_Law_law_856 0 rfl ?_
  refine g_i2l C d_Law_law_858 ?_
  refine g_lcmpE C (hval hk0) d_Law_law_859 ?_
  exact g_if_eq (tgt := 865) C d_Law_law_860 (by decide) (fun _ => fin) (fun q => absurd rfl q)
set_option maxHeartbeats 4000000 in
set_option maxRecDepth 100000 in
theorem law_move (C : CX p s m args c D E A code 7 "AttackBenchLaw") (K : TK A s) (htr : TR l) (hX : va_X b L xs s s.heap) (hbl : b < s.heap.size) (hbA : ¬ A b) (hL : L ≤ 2048) (hRf : 100 ≤ R.frames) (hRl : 2000 ≤ R.locals) (hce : cells + 1 ≤ R.cells) (hsl : slots + 6 ≤ R.slots) (h4 : 4 * t + 4 ≤ L) (hS : SIM a o) (kend : ∀ u u' f', SIM u u' → GG p l e R s m args below meth c Q D A 7 (cells + 1) (slots + 6) 943 (lvL cA cO ou b t) [] (WS E cA cO ou u u' f')) : GG p l e R s m args below meth c Q D A 7 cells slots 868 (lvL cA cO ou b t) [] (WS E cA cO ou a o f) := by
  obtain ⟨QA, hA, hO⟩ := P_move l D E cA cO hS (xs (4 * t + 1)) (xs (4 * t + 2))
  refine g_aload_n C d_Law_law_868 rfl 1 rfl ?_
  refine g_aload_n C d_Law_law_869 rfl 0 rfl ?_
  refine g_iload C d_Law_law_870 4 rfl ?_
  refine g_iconst (v := nI 1) C d_Law_law_872 (by decide) ?_
  refine g_iaddN C d_Law_law_873 ?_
  refine g_sldN C hX hbl hbA (by omega) (by omega) d_Law_law_874 ?_
  refine g_aload_n C d_Law_law_875 rfl 0 rfl ?_
  refine g_iload C d_Law_law_876 4 rfl ?_
  refine g_iconst (v := nI 2) C d_Law_law_878 (by decide) ?_
  refine g_iaddN C d_Law_law_879 ?_
  refine g_sldN C hX hbl hbA (by omega) (by omega) d_Law_law_880 ?_
  refine g_iV (rest := []) (wr := oC E cO o ++ [ouC E ou f]) C hA rd_AB_move m_391 m_392 m_393 rfl rfl (by show 24 + 1 ≤ R.frames; omega) (by show 8 + (3 + 11) + 700 ≤ R.locals; omega) (Nat.le_of_succ_le hce) (Nat.le_trans (Nat.le_add_right _ 6) hsl) rfl rfl (Nat.le_of_ble_eq_true rfl) d_Law_law_881 [0, 1, 2, 3, 4, 5, 6, 7, 8, 9, 10, 11, 12, 13, 14, 15, 16, 17] [18, 19, 20, 21, 22, 23, 24, 25, 26, 27, 28, 29, 30, 31, 32, 33, 34] rfl (by decide) rfl (by decide) (by decide) (fun r u hq => ?_)
  refine g_aload_n C d_Law_law_884 rfl 2 rfl ?_
  refine g_aload_n C d_Law_law_885 rfl 0 rfl ?_
  refine g_iload C d_Law_law_886 4 rfl ?_
  refine g_iconst (v := nI 1) C d_Law_law_888 (by decide) ?_
  refine g_iaddN C d_Law_law_889 ?_
  refine g_sldN C hX hbl hbA (by omega) (by omega) d_Law_law_890 ?_
  refine g_aload_n C d_Law_law_891 rfl 0 rfl ?_
  refine g_iload C d_Law_law_892 4 rfl ?_
  refine g_iconst (v := nI 2) C d_Law_law_894 (by decide) ?_
  refine g_iaddN C d_Law_law_895 ?_
  refine g_sldN C hX hbl hbA (by omega) (by omega) d_Law_law_896 ?_
  refine g_iV (rest := [.int r]) (wr := ouC E ou f :: aC E cA u) C (hO r u hq) rd_Mo_move m_850 m_851 m_852 rfl rfl (by show 24 + 1 ≤ R.frames; omega) (by show 8 + (3 + 11) + 700 ≤ R.locals; omega) (Nat.le_of_succ_le hce) (Nat.le_trans (Nat.le_add_right _ 6) hsl) rfl rfl (Nat.le_of_ble_eq_true rfl) d_Law_law_897 [0, 1, 2, 3, 4, 5, 6, 7, 8, 9, 10, 11, 12, 13, 14, 15] [16, 17, 18, 19, 20, 21, 22, 23, 24, 25, 26, 27, 28, 29, 30, 31, 32, 33, 34] rfl (by decide) rfl (by decide) (by decide) (fun r' u' h' => ?_)
  obtain ⟨h1, hS'⟩ := h'
  subst h1
  refine g_icmp_eq (tgt := 943) C d_Law_law_900 (by decide) (fun _ => ?_) (fun q => absurd rfl q)
  refine g_cells (ws' := WS E cA cO ou u u' f) [1, 2, 3, 4, 5, 6, 7, 8, 9, 10, 11, 12, 13, 14, 15, 16, 17, 18, 19, 20, 21, 22, 23, 24, 25, 26, 27, 28, 29, 30, 31, 32, 33, 34, 0] (by decide) rfl ?_
  exact g_widen (Nat.le_succ _) (Nat.le_add_right _ 6) (kend u u' f hS')
set_option maxHeartbeats 4000000 in
set_option maxRecDepth 100000 in
theorem law_circle (C : CX p s m args c D E A code 7 "AttackBenchLaw") (K : TK A s) (htr : TR l) (hX : va_X b L xs s s.heap) (hbl : b < s.heap.size) (hbA : ¬ A b) (hL : L ≤ 2048) (hRf : 100 ≤ R.frames) (hRl : 2000 ≤ R.locals) (hce : cells + 1 ≤ R.cells) (hsl : slots + 6 ≤ R.slots) (h4 : 4 * t + 4 ≤ L) (hS : SIM a o) (kend : ∀ u u' f', SIM u u' → GG p l e R s m args below meth c Q D A 7 (cells + 1) (slots + 6) 943 (lvL cA cO ou b t) [] (WS E cA cO ou u u' f')) : GG p l e R s m args below meth c Q D A 7 cells slots 905 (lvL cA cO ou b t) [] (WS E cA cO ou a o f) := by
  obtain ⟨QA, hA, hO⟩ := P_circle l D E cA cO hS (xs (4 * t + 1))
  refine g_aload_n C d_Law_law_905 rfl 1 rfl ?_
  refine g_aload_n C d_Law_law_906 rfl 0 rfl ?_
  refine g_iload C d_Law_law_907 4 rfl ?_
  refine g_iconst (v := nI 1) C d_Law_law_909 (by decide) ?_
  refine g_iaddN C d_Law_law_910 ?_
  refine g_sldN C hX hbl hbA (by omega) (by omega) d_Law_law_911 ?_
  refine g_iV (rest := []) (wr := oC E cO o ++ [ouC E ou f]) C hA rd_AB_circle m_399 m_400 m_401 rfl rfl (by show 24 + 1 ≤ R.frames; omega) (by show 8 + (2 + 11) + 700 ≤ R.locals; omega) (Nat.le_of_succ_le hce) (Nat.le_trans (Nat.le_add_right _ 6) hsl) rfl rfl (Nat.le_of_ble_eq_true rfl) d_Law_law_912 [0, 1, 2, 3, 4, 5, 6, 7, 8, 9, 10, 11, 12, 13, 14, 15, 16, 17] [18, 19, 20, 21, 22, 23, 24, 25, 26, 27, 28, 29, 30, 31, 32, 33, 34] rfl (by decide) rfl (by decide) (by decide) (fun r u hq => ?_)
  refine g_aload_n C d_Law_law_915 rfl 2 rfl ?_
  refine g_aload_n C d_Law_law_916 rfl 0 rfl ?_
  refine g_iload C d_Law_law_917 4 rfl ?_
  refine g_iconst (v := nI 1) C d_Law_law_919 (by decide) ?_
  refine g_iaddN C d_Law_law_920 ?_
  refine g_sldN C hX hbl hbA (by omega) (by omega) d_Law_law_921 ?_
  refine g_iV (rest := [.int r]) (wr := ouC E ou f :: aC E cA u) C (hO r u hq) rd_Mo_circle m_854 m_855 m_856 rfl rfl (by show 24 + 1 ≤ R.frames; omega) (by show 8 + (3 + 11) + 700 ≤ R.locals; omega) (Nat.le_of_succ_le hce) (Nat.le_trans (Nat.le_add_right _ 6) hsl) rfl rfl (Nat.le_of_ble_eq_true rfl) d_Law_law_922 [0, 1, 2, 3, 4, 5, 6, 7, 8, 9, 10, 11, 12, 13, 14, 15] [16, 17, 18, 19, 20, 21, 22, 23, 24, 25, 26, 27, 28, 29, 30, 31, 32, 33, 34] rfl (by decide) rfl (by decide) (by decide) (fun r' u' h' => ?_)
  obtain ⟨h1, hS'⟩ := h'
  subst h1
  refine g_icmp_eq (tgt := 943) C d_Law_law_925 (by decide) (fun _ => ?_) (fun q => absurd rfl q)
  refine g_cells (ws' := WS E cA cO ou u u' f) [1, 2, 3, 4, 5, 6, 7, 8, 9, 10, 11, 12, 13, 14, 15, 16, 17, 18, 19, 20, 21, 22, 23, 24, 25, 26, 27, 28, 29, 30, 31, 32, 33, 34, 0] (by decide) rfl ?_
  exact g_widen (Nat.le_succ _) (Nat.le_add_right _ 6) (kend u u' f hS')
set_option maxHeartbeats 4000000 in
set_option maxRecDepth 100000 in
theorem law_circles (C : CX p s m args c D E A code 7 "AttackBenchLaw") (K : TK A s) (htr : TR l) (hX : va_X b L xs s s.heap) (hbl : b < s.heap.size) (hbA : ¬ A b) (hL : L ≤ 2048) (hRf : 100 ≤ R.frames) (hRl : 2000 ≤ R.locals) (hce : cells + 1 ≤ R.cells) (hsl : slots + 6 ≤ R.slots) (h4 : 4 * t + 4 ≤ L) (hS : SIM a o) (kend : ∀ u u' f', SIM u u' → GG p l e R s m args below meth c Q D A 7 (cells + 1) (slots + 6) 943 (lvL cA cO ou b t) [] (WS E cA cO ou u u' f')) : GG p l e R s m args below meth c Q D A 7 cells slots 930 (lvL cA cO ou b t) [] (WS E cA cO ou a o f) := by
  obtain ⟨QA, hA, hO⟩ := P_circles l D E cA cO hS 
  refine g_aload_n C d_Law_law_930 rfl 1 rfl ?_
  refine g_iV (rest := []) (wr := oC E cO o ++ [ouC E ou f]) C hA rd_AB_circles m_439 m_440 m_441 rfl rfl (by show 24 + 1 ≤ R.frames; omega) (by show 8 + (1 + 11) + 700 ≤ R.locals; omega) (Nat.le_of_succ_le hce) (Nat.le_trans (Nat.le_add_right _ 6) hsl) rfl rfl (Nat.le_of_ble_eq_true rfl) d_Law_law_931 [0, 1, 2, 3, 4, 5, 6, 7, 8, 9, 10, 11, 12, 13, 14, 15, 16, 17] [18, 19, 20, 21, 22, 23, 24, 25, 26, 27, 28, 29, 30, 31, 32, 33, 34] rfl (by decide) rfl (by decide) (by decide) (fun r u hq => ?_)
  refine g_aload_n C d_Law_law_934 rfl 2 rfl ?_
  refine g_iV (rest := [.int r]) (wr := ouC E ou f :: aC E cA u) C (hO r u hq) rd_Mo_circles m_870 m_871 m_872 rfl rfl (by show 24 + 1 ≤ R.frames; omega) (by show 8 + (1 + 11) + 700 ≤ R.locals; omega) (Nat.le_of_succ_le hce) (Nat.le_trans (Nat.le_add_right _ 6) hsl) rfl rfl (Nat.le_of_ble_eq_true rfl) d_Law_law_935 [0, 1, 2, 3, 4, 5, 6, 7, 8, 9, 10, 11, 12, 13, 14, 15] [16, 17, 18, 19, 20, 21, 22, 23, 24, 25, 26, 27, 28, 29, 30, 31, 32, 33, 34] rfl (by decide) rfl (by decide) (by decide) (fun r' u' h' => ?_)
  obtain ⟨h1, hS'⟩ := h'
  subst h1
  refine g_icmp_eq (tgt := 943) C d_Law_law_938 (by decide) (fun _ => ?_) (fun q => absurd rfl q)
  refine g_cells (ws' := WS E cA cO ou u u' f) [1, 2, 3, 4, 5, 6, 7, 8, 9, 10, 11, 12, 13, 14, 15, 16, 17, 18, 19, 20, 21, 22, 23, 24, 25, 26, 27, 28, 29, 30, 31, 32, 33, 34, 0] (by decide) rfl ?_
  exact g_widen (Nat.le_succ _) (Nat.le_add_right _ 6) (kend u u' f hS')
end LawCases
