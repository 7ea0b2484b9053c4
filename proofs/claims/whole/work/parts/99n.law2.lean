theorem RC.oth {L : PL} {FI AI F2 A2 : Nat → Nat → Int32} {AL L2 : Nat → Nat → Int64} {AR R2 : Nat → Nat → Option Nat} {x : Nat} {Z : ZW} (h : RC L FI AI AL AR x Z) (e : ∀ a, x ≤ a → a < x + 7208 → (∀ j, F2 j a = FI j a) ∧ A2 a = AI a ∧ L2 a = AL a ∧ R2 a = AR a) : RC L F2 A2 L2 R2 x Z := by
  have hf6 := h.f6
  have hwb : ∀ w : Nat, WB L AR w → x ≤ w → w + 720 ≤ x + 7208 → WB L R2 w := by
    intro w hw h1 h2
    obtain ⟨hl, sa, ha⟩ := hw
    refine ⟨hl, sa, ?_⟩
    unfold WA at ha ⊢
    rw [(e (w + 1) (by omega) (by omega)).2.2.2, (e (w + 2) (by omega) (by omega)).2.2.2, (e (w + 3) (by omega) (by omega)).2.2.2, (e (w + 4) (by omega) (by omega)).2.2.2]
    exact ha
  have hcv : ∀ (w : Nat) (X : XW), CV L FI AI AL AR w X → x ≤ w → w + 720 ≤ x + 7208 → CV L F2 A2 L2 R2 w X := fun w X hw h1 h2 => hw.oth (fun a h3 h4 => e a (by omega) (by omega))
  refine ⟨h.lc, ⟨fun i hi => ?_, fun i hi => ?_⟩, hcv _ _ h.live (by omega) (by omega), hwb _ h.fore (by omega) (by omega), fun i hi => hwb _ (h.wh hi) (by omega) (by omega), fun i hi => hwb _ (h.ws hi) (by omega) (by omega), ⟨?_, h.f6, ?_, h.k6, fun i hi => hcv _ _ (h.h hi) (by omega) (by omega)⟩, fun s hs => ⟨?_, fun hv => hcv _ _ (h.s hs hv) (by omega) (by omega)⟩, ?_, h.n80, fun i hi => ?_⟩
  · rw [(e (x + 1442) (by omega) (by omega)).2.2.2]; exact h.sh hi
  · rw [(e (x + 5763) (by omega) (by omega)).2.2.2]; exact h.ss hi
  · rw [(e (x + 1441) (by omega) (by omega)).1]; exact h.pf
  · rw [(e (x + 1441) (by omega) (by omega)).1]; exact h.pk
  · rw [(e (x + 5764) (by omega) (by omega)).2.1]; exact h.v hs
  · rw [(e (x + 5765) (by omega) (by omega)).1]; exact h.pn
  · rw [(e (x + 5766) (by omega) (by omega)).2.1]; exact h.c hi
theorem RZ.oth {FI AI F2 A2 : Nat → Nat → Int32} {m : Nat} {Z : ZW} (h : RZ FI AI m Z) (e : ∀ j, j ≤ 268 → F2 j m = FI j m) (ea : ∀ a, m < a → a ≤ m + 10 → A2 a = AI a) : RZ F2 A2 m Z := by
  obtain ⟨h1, h2, h3, h4, h5⟩ := h
  refine ⟨?_, ?_, fun i hi => ?_, fun s hs => ?_, ?_⟩
  · show RF (A2 (m + 1)) (A2 (m + 2)) _
    rw [ea (m + 1) (by omega) (by omega), ea (m + 2) (by omega) (by omega)]; exact h1
  · rw [e 260 (by decide), e 261 (by decide)]; exact h2
  · rw [ea (m + 3) (by omega) (by omega), ea (m + 4) (by omega) (by omega)]; exact h3 i hi
  · rw [ea (m + 7) (by omega) (by omega), ea (m + 5) (by omega) (by omega), ea (m + 6) (by omega) (by omega)]; exact h4 s hs
  · rw [e 268 (by decide), ea (m + 10) (by omega) (by omega)]; exact h5
section Law2
variable {p : Program} {e : Env} {s : State} {m : MethodId} {b0 : Nat} {below : List Frame} {meth : Method} {c : Code} {g : PG} {L : PL} {FI AI : Nat → Nat → Int32} {AL : Nat → Nat → Int64} {AR : Nat → Nat → Option Nat} {x m1 j N : Nat} {xs : Nat → Int32} {Z : ZW}
theorem c_law_0 (fx : p_FZ g p s m b0 meth c) (hX : va_X b0 N xs s s.heap) (hbl : b0 < s.heap.size) (hN : N ≤ 3072) (hM : WM L m1) (hm : x + 7208 ≤ m1) (hj : 6 * j + 6 ≤ N) (hR : RC L FI AI AL AR x Z) (hZ : RZ FI AI m1 Z) (hG : ZG (40500 * j) Z) (next : ∀ (Z2 : ZW) (F A : Nat → Nat → Int32) (B : Nat → Nat → Int64) (R : Nat → Nat → Option Nat), RC L F A B R x Z2 → RZ F A m1 Z2 → ZG (40500 * (j + 1)) Z2 → Zj p e s m b0 below meth c g iL_law 1040 [some (vr b0), some (vr x), some (vr m1), some (vi (Int32.ofNat (6 * j)))] [] (L, F, A, B, R) (0, 0)) : Zj p e s m b0 below meth c g iL_law 152 [some (vr b0), some (vr x), some (vr m1), some (vi (Int32.ofNat (6 * j)))] [] (L, FI, AI, AL, AR) (0, 0) := by
  refine Z_aloadn fx (i := 1) rfl rfl dL_law_152 ?_
  refine Z_aloadn fx (i := 0) rfl rfl dL_law_153 ?_
  refine Z_iloadn fx (i := 3) rfl rfl dL_law_154 ?_
  refine Z_iconst fx (v := 1) rfl dL_law_155 ?_
  refine Z_iadd fx dL_law_156 ?_
  refine Z_sld fx hX hbl (j := 6 * j + 1) (n_add (6 * j) 1) (by omega) (by omega) rfl dL_law_157 ?_
  refine Z_aloadn fx (i := 0) rfl rfl dL_law_158 ?_
  refine Z_iloadn fx (i := 3) rfl rfl dL_law_159 ?_
  refine Z_iconst fx (v := 2) rfl dL_law_160 ?_
  refine Z_iadd fx dL_law_161 ?_
  refine Z_sld fx hX hbl (j := 6 * j + 2) (n_add (6 * j) 2) (by omega) (by omega) rfl dL_law_162 ?_
  refine Z_aloadn fx (i := 0) rfl rfl dL_law_163 ?_
  refine Z_iloadn fx (i := 3) rfl rfl dL_law_164 ?_
  refine Z_iconst fx (v := 3) rfl dL_law_165 ?_
  refine Z_iadd fx dL_law_166 ?_
  refine Z_sld fx hX hbl (j := 6 * j + 3) (n_add (6 * j) 3) (by omega) (by omega) rfl dL_law_167 ?_
  refine Z_aloadn fx (i := 0) rfl rfl dL_law_168 ?_
  refine Z_iloadn fx (i := 3) rfl rfl dL_law_169 ?_
  refine Z_iconst fx (v := 4) rfl dL_law_170 ?_
  refine Z_iadd fx dL_law_171 ?_
  refine Z_sld fx hX hbl (j := 6 * j + 4) (n_add (6 * j) 4) (by omega) (by omega) rfl dL_law_172 ?_
  refine ZkL_13 fx (g_node hR hG.1.1) (by decide) hR.lc.kx rfl dL_law_173 (fun r1 s1 q1 => ?_)
  obtain ⟨F1, A1, B1, R1, rfl, rfl, hf1, hR1⟩ := q1
  have hZ1 := hZ.oth (fun j _ => (hf1 m1 (by omega)).1 j) (fun a h1 h2 => (hf1 a (by omega)).2.1)
  refine Z_aloadn fx (i := 2) rfl rfl dL_law_176 ?_
  refine Z_aloadn fx (i := 0) rfl rfl dL_law_177 ?_
  refine Z_iloadn fx (i := 3) rfl rfl dL_law_178 ?_
  refine Z_iconst fx (v := 1) rfl dL_law_179 ?_
  refine Z_iadd fx dL_law_180 ?_
  refine Z_sld fx hX hbl (j := 6 * j + 1) (n_add (6 * j) 1) (by omega) (by omega) rfl dL_law_181 ?_
  refine Z_aloadn fx (i := 0) rfl rfl dL_law_182 ?_
  refine Z_iloadn fx (i := 3) rfl rfl dL_law_183 ?_
  refine Z_iconst fx (v := 2) rfl dL_law_184 ?_
  refine Z_iadd fx dL_law_185 ?_
  refine Z_sld fx hX hbl (j := 6 * j + 2) (n_add (6 * j) 2) (by omega) (by omega) rfl dL_law_186 ?_
  refine Z_aloadn fx (i := 0) rfl rfl dL_law_187 ?_
  refine Z_iloadn fx (i := 3) rfl rfl dL_law_188 ?_
  refine Z_iconst fx (v := 3) rfl dL_law_189 ?_
  refine Z_iadd fx dL_law_190 ?_
  refine Z_sld fx hX hbl (j := 6 * j + 3) (n_add (6 * j) 3) (by omega) (by omega) rfl dL_law_191 ?_
  refine Z_aloadn fx (i := 0) rfl rfl dL_law_192 ?_
  refine Z_iloadn fx (i := 3) rfl rfl dL_law_193 ?_
  refine Z_iconst fx (v := 4) rfl dL_law_194 ?_
  refine Z_iadd fx dL_law_195 ?_
  refine Z_sld fx hX hbl (j := 6 * j + 4) (n_add (6 * j) 4) (by omega) (by omega) rfl dL_law_196 ?_
  refine ZkL_17 fx (s_node hM hZ1) (by decide) hM.k0 rfl dL_law_197 (fun r2 s2 q2 => ?_)
  obtain ⟨F2, A2, rfl, rfl, hf2, hZ2⟩ := q2
  have hw2 := hf2.w
  have hR2 := hR1.oth (fun a h1 h2 => ⟨fun j => hw2.1 j a (by omega), hw2.2 a (by omega), rfl, rfl⟩)
  refine Z_icmpeq fx dL_law_200 (tgt := 1040) rfl (fun _ => ?_) (fun hh => absurd rfl hh)
  exact next _ _ _ _ _ hR2 hZ2 (hG.node.mono (by omega))
theorem c_law_1 (fx : p_FZ g p s m b0 meth c) (hX : va_X b0 N xs s s.heap) (hbl : b0 < s.heap.size) (hN : N ≤ 3072) (hM : WM L m1) (hm : x + 7208 ≤ m1) (hj : 6 * j + 6 ≤ N) (hR : RC L FI AI AL AR x Z) (hZ : RZ FI AI m1 Z) (hG : ZG (40500 * j) Z) (next : ∀ (Z2 : ZW) (F A : Nat → Nat → Int32) (B : Nat → Nat → Int64) (R : Nat → Nat → Option Nat), RC L F A B R x Z2 → RZ F A m1 Z2 → ZG (40500 * (j + 1)) Z2 → Zj p e s m b0 below meth c g iL_law 1040 [some (vr b0), some (vr x), some (vr m1), some (vi (Int32.ofNat (6 * j)))] [] (L, F, A, B, R) (0, 0)) : Zj p e s m b0 below meth c g iL_law 205 [some (vr b0), some (vr x), some (vr m1), some (vi (Int32.ofNat (6 * j)))] [] (L, FI, AI, AL, AR) (0, 0) := by
  refine Z_aloadn fx (i := 1) rfl rfl dL_law_205 ?_
  refine Z_aloadn fx (i := 0) rfl rfl dL_law_206 ?_
  refine Z_iloadn fx (i := 3) rfl rfl dL_law_207 ?_
  refine Z_iconst fx (v := 1) rfl dL_law_208 ?_
  refine Z_iadd fx dL_law_209 ?_
  refine Z_sld fx hX hbl (j := 6 * j + 1) (n_add (6 * j) 1) (by omega) (by omega) rfl dL_law_210 ?_
  refine Z_aloadn fx (i := 0) rfl rfl dL_law_211 ?_
  refine Z_iloadn fx (i := 3) rfl rfl dL_law_212 ?_
  refine Z_iconst fx (v := 2) rfl dL_law_213 ?_
  refine Z_iadd fx dL_law_214 ?_
  refine Z_sld fx hX hbl (j := 6 * j + 2) (n_add (6 * j) 2) (by omega) (by omega) rfl dL_law_215 ?_
  refine Z_aloadn fx (i := 0) rfl rfl dL_law_216 ?_
  refine Z_iloadn fx (i := 3) rfl rfl dL_law_217 ?_
  refine Z_iconst fx (v := 3) rfl dL_law_218 ?_
  refine Z_iadd fx dL_law_219 ?_
  refine Z_sld fx hX hbl (j := 6 * j + 3) (n_add (6 * j) 3) (by omega) (by omega) rfl dL_law_220 ?_
  refine Z_aloadn fx (i := 0) rfl rfl dL_law_221 ?_
  refine Z_iloadn fx (i := 3) rfl rfl dL_law_222 ?_
  refine Z_iconst fx (v := 4) rfl dL_law_223 ?_
  refine Z_iadd fx dL_law_224 ?_
  refine Z_sld fx hX hbl (j := 6 * j + 4) (n_add (6 * j) 4) (by omega) (by omega) rfl dL_law_225 ?_
  refine Z_aloadn fx (i := 0) rfl rfl dL_law_226 ?_
  refine Z_iloadn fx (i := 3) rfl rfl dL_law_227 ?_
  refine Z_iconst fx (v := 5) rfl dL_law_228 ?_
  refine Z_iadd fx dL_law_229 ?_
  refine Z_sld fx hX hbl (j := 6 * j + 5) (n_add (6 * j) 5) (by omega) (by omega) rfl dL_law_230 ?_
  refine ZkL_18 fx (g_bridge hR hG.1.1) (by decide) hR.lc.kx rfl dL_law_231 (fun r1 s1 q1 => ?_)
  obtain ⟨F1, A1, B1, R1, rfl, rfl, hf1, hR1⟩ := q1
  have hZ1 := hZ.oth (fun j _ => (hf1 m1 (by omega)).1 j) (fun a h1 h2 => (hf1 a (by omega)).2.1)
  refine Z_aloadn fx (i := 2) rfl rfl dL_law_234 ?_
  refine Z_aloadn fx (i := 0) rfl rfl dL_law_235 ?_
  refine Z_iloadn fx (i := 3) rfl rfl dL_law_236 ?_
  refine Z_iconst fx (v := 1) rfl dL_law_237 ?_
  refine Z_iadd fx dL_law_238 ?_
  refine Z_sld fx hX hbl (j := 6 * j + 1) (n_add (6 * j) 1) (by omega) (by omega) rfl dL_law_239 ?_
  refine Z_aloadn fx (i := 0) rfl rfl dL_law_240 ?_
  refine Z_iloadn fx (i := 3) rfl rfl dL_law_241 ?_
  refine Z_iconst fx (v := 2) rfl dL_law_242 ?_
  refine Z_iadd fx dL_law_243 ?_
  refine Z_sld fx hX hbl (j := 6 * j + 2) (n_add (6 * j) 2) (by omega) (by omega) rfl dL_law_244 ?_
  refine Z_aloadn fx (i := 0) rfl rfl dL_law_245 ?_
  refine Z_iloadn fx (i := 3) rfl rfl dL_law_246 ?_
  refine Z_iconst fx (v := 3) rfl dL_law_247 ?_
  refine Z_iadd fx dL_law_248 ?_
  refine Z_sld fx hX hbl (j := 6 * j + 3) (n_add (6 * j) 3) (by omega) (by omega) rfl dL_law_249 ?_
  refine Z_aloadn fx (i := 0) rfl rfl dL_law_250 ?_
  refine Z_iloadn fx (i := 3) rfl rfl dL_law_251 ?_
  refine Z_iconst fx (v := 4) rfl dL_law_252 ?_
  refine Z_iadd fx dL_law_253 ?_
  refine Z_sld fx hX hbl (j := 6 * j + 4) (n_add (6 * j) 4) (by omega) (by omega) rfl dL_law_254 ?_
  refine Z_aloadn fx (i := 0) rfl rfl dL_law_255 ?_
  refine Z_iloadn fx (i := 3) rfl rfl dL_law_256 ?_
  refine Z_iconst fx (v := 5) rfl dL_law_257 ?_
  refine Z_iadd fx dL_law_258 ?_
  refine Z_sld fx hX hbl (j := 6 * j + 5) (n_add (6 * j) 5) (by omega) (by omega) rfl dL_law_259 ?_
  refine ZkL_22 fx (s_bridge hM hZ1) (by decide) hM.k0 rfl dL_law_260 (fun r2 s2 q2 => ?_)
  obtain ⟨F2, A2, rfl, rfl, hf2, hZ2⟩ := q2
  have hw2 := hf2.w
  have hR2 := hR1.oth (fun a h1 h2 => ⟨fun j => hw2.1 j a (by omega), hw2.2 a (by omega), rfl, rfl⟩)
  refine Z_icmpeq fx dL_law_263 (tgt := 1040) rfl (fun _ => ?_) (fun hh => absurd rfl hh)
  exact next _ _ _ _ _ hR2 hZ2 (hG.bridge.mono (by omega))
theorem c_law_2 (fx : p_FZ g p s m b0 meth c) (hX : va_X b0 N xs s s.heap) (hbl : b0 < s.heap.size) (hN : N ≤ 3072) (hM : WM L m1) (hm : x + 7208 ≤ m1) (hj : 6 * j + 6 ≤ N) (hR : RC L FI AI AL AR x Z) (hZ : RZ FI AI m1 Z) (hG : ZG (40500 * j) Z) (next : ∀ (Z2 : ZW) (F A : Nat → Nat → Int32) (B : Nat → Nat → Int64) (R : Nat → Nat → Option Nat), RC L F A B R x Z2 → RZ F A m1 Z2 → ZG (40500 * (j + 1)) Z2 → Zj p e s m b0 below meth c g iL_law 1040 [some (vr b0), some (vr x), some (vr m1), some (vi (Int32.ofNat (6 * j)))] [] (L, F, A, B, R) (0, 0)) : Zj p e s m b0 below meth c g iL_law 268 [some (vr b0), some (vr x), some (vr m1), some (vi (Int32.ofNat (6 * j)))] [] (L, FI, AI, AL, AR) (0, 0) := by
  refine Z_aloadn fx (i := 1) rfl rfl dL_law_268 ?_
  refine Z_aloadn fx (i := 0) rfl rfl dL_law_269 ?_
  refine Z_iloadn fx (i := 3) rfl rfl dL_law_270 ?_
  refine Z_iconst fx (v := 1) rfl dL_law_271 ?_
  refine Z_iadd fx dL_law_272 ?_
  refine Z_sld fx hX hbl (j := 6 * j + 1) (n_add (6 * j) 1) (by omega) (by omega) rfl dL_law_273 ?_
  refine Z_aloadn fx (i := 0) rfl rfl dL_law_274 ?_
  refine Z_iloadn fx (i := 3) rfl rfl dL_law_275 ?_
  refine Z_iconst fx (v := 2) rfl dL_law_276 ?_
  refine Z_iadd fx dL_law_277 ?_
  refine Z_sld fx hX hbl (j := 6 * j + 2) (n_add (6 * j) 2) (by omega) (by omega) rfl dL_law_278 ?_
  refine Z_aloadn fx (i := 0) rfl rfl dL_law_279 ?_
  refine Z_iloadn fx (i := 3) rfl rfl dL_law_280 ?_
  refine Z_iconst fx (v := 3) rfl dL_law_281 ?_
  refine Z_iadd fx dL_law_282 ?_
  refine Z_sld fx hX hbl (j := 6 * j + 3) (n_add (6 * j) 3) (by omega) (by omega) rfl dL_law_283 ?_
  refine ZkL_23 fx (g_mend hR hG.1.1) (by decide) hR.lc.kx rfl dL_law_284 (fun r1 s1 q1 => ?_)
  obtain ⟨F1, A1, B1, R1, rfl, rfl, hf1, hR1⟩ := q1
  have hZ1 := hZ.oth (fun j _ => (hf1 m1 (by omega)).1 j) (fun a h1 h2 => (hf1 a (by omega)).2.1)
  refine Z_aloadn fx (i := 2) rfl rfl dL_law_287 ?_
  refine Z_aloadn fx (i := 0) rfl rfl dL_law_288 ?_
  refine Z_iloadn fx (i := 3) rfl rfl dL_law_289 ?_
  refine Z_iconst fx (v := 1) rfl dL_law_290 ?_
  refine Z_iadd fx dL_law_291 ?_
  refine Z_sld fx hX hbl (j := 6 * j + 1) (n_add (6 * j) 1) (by omega) (by omega) rfl dL_law_292 ?_
  refine Z_aloadn fx (i := 0) rfl rfl dL_law_293 ?_
  refine Z_iloadn fx (i := 3) rfl rfl dL_law_294 ?_
  refine Z_iconst fx (v := 2) rfl dL_law_295 ?_
  refine Z_iadd fx dL_law_296 ?_
  refine Z_sld fx hX hbl (j := 6 * j + 2) (n_add (6 * j) 2) (by omega) (by omega) rfl dL_law_297 ?_
  refine Z_aloadn fx (i := 0) rfl rfl dL_law_298 ?_
  refine Z_iloadn fx (i := 3) rfl rfl dL_law_299 ?_
  refine Z_iconst fx (v := 3) rfl dL_law_300 ?_
  refine Z_iadd fx dL_law_301 ?_
  refine Z_sld fx hX hbl (j := 6 * j + 3) (n_add (6 * j) 3) (by omega) (by omega) rfl dL_law_302 ?_
  refine ZkL_27 fx (s_mend hM hZ1) (by decide) hM.k0 rfl dL_law_303 (fun r2 s2 q2 => ?_)
  obtain ⟨F2, A2, rfl, rfl, hf2, hZ2⟩ := q2
  have hw2 := hf2.w
  have hR2 := hR1.oth (fun a h1 h2 => ⟨fun j => hw2.1 j a (by omega), hw2.2 a (by omega), rfl, rfl⟩)
  refine Z_icmpeq fx dL_law_306 (tgt := 1040) rfl (fun _ => ?_) (fun hh => absurd rfl hh)
  exact next _ _ _ _ _ hR2 hZ2 (hG.mend.mono (by omega))
theorem c_law_3 (fx : p_FZ g p s m b0 meth c) (hX : va_X b0 N xs s s.heap) (hbl : b0 < s.heap.size) (hN : N ≤ 3072) (hM : WM L m1) (hm : x + 7208 ≤ m1) (hj : 6 * j + 6 ≤ N) (hR : RC L FI AI AL AR x Z) (hZ : RZ FI AI m1 Z) (hG : ZG (40500 * j) Z) (next : ∀ (Z2 : ZW) (F A : Nat → Nat → Int32) (B : Nat → Nat → Int64) (R : Nat → Nat → Option Nat), RC L F A B R x Z2 → RZ F A m1 Z2 → ZG (40500 * (j + 1)) Z2 → Zj p e s m b0 below meth c g iL_law 1040 [some (vr b0), some (vr x), some (vr m1), some (vi (Int32.ofNat (6 * j)))] [] (L, F, A, B, R) (0, 0)) : Zj p e s m b0 below meth c g iL_law 311 [some (vr b0), some (vr x), some (vr m1), some (vi (Int32.ofNat (6 * j)))] [] (L, FI, AI, AL, AR) (0, 0) := by
  refine Z_aloadn fx (i := 1) rfl rfl dL_law_311 ?_
  refine Z_aloadn fx (i := 0) rfl rfl dL_law_312 ?_
  refine Z_iloadn fx (i := 3) rfl rfl dL_law_313 ?_
  refine Z_iconst fx (v := 1) rfl dL_law_314 ?_
  refine Z_iadd fx dL_law_315 ?_
  refine Z_sld fx hX hbl (j := 6 * j + 1) (n_add (6 * j) 1) (by omega) (by omega) rfl dL_law_316 ?_
  refine Z_aloadn fx (i := 0) rfl rfl dL_law_317 ?_
  refine Z_iloadn fx (i := 3) rfl rfl dL_law_318 ?_
  refine Z_iconst fx (v := 2) rfl dL_law_319 ?_
  refine Z_iadd fx dL_law_320 ?_
  refine Z_sld fx hX hbl (j := 6 * j + 2) (n_add (6 * j) 2) (by omega) (by omega) rfl dL_law_321 ?_
  refine Z_aloadn fx (i := 0) rfl rfl dL_law_322 ?_
  refine Z_iloadn fx (i := 3) rfl rfl dL_law_323 ?_
  refine Z_iconst fx (v := 3) rfl dL_law_324 ?_
  refine Z_iadd fx dL_law_325 ?_
  refine Z_sld fx hX hbl (j := 6 * j + 3) (n_add (6 * j) 3) (by omega) (by omega) rfl dL_law_326 ?_
  refine ZkL_28 fx (g_route hR hG.1.1) (by decide) hR.lc.kx rfl dL_law_327 (fun r1 s1 q1 => ?_)
  obtain ⟨F1, A1, B1, R1, rfl, rfl, hf1, hR1⟩ := q1
  have hZ1 := hZ.oth (fun j _ => (hf1 m1 (by omega)).1 j) (fun a h1 h2 => (hf1 a (by omega)).2.1)
  refine Z_aloadn fx (i := 2) rfl rfl dL_law_330 ?_
  refine Z_aloadn fx (i := 0) rfl rfl dL_law_331 ?_
  refine Z_iloadn fx (i := 3) rfl rfl dL_law_332 ?_
  refine Z_iconst fx (v := 1) rfl dL_law_333 ?_
  refine Z_iadd fx dL_law_334 ?_
  refine Z_sld fx hX hbl (j := 6 * j + 1) (n_add (6 * j) 1) (by omega) (by omega) rfl dL_law_335 ?_
  refine Z_aloadn fx (i := 0) rfl rfl dL_law_336 ?_
  refine Z_iloadn fx (i := 3) rfl rfl dL_law_337 ?_
  refine Z_iconst fx (v := 2) rfl dL_law_338 ?_
  refine Z_iadd fx dL_law_339 ?_
  refine Z_sld fx hX hbl (j := 6 * j + 2) (n_add (6 * j) 2) (by omega) (by omega) rfl dL_law_340 ?_
  refine Z_aloadn fx (i := 0) rfl rfl dL_law_341 ?_
  refine Z_iloadn fx (i := 3) rfl rfl dL_law_342 ?_
  refine Z_iconst fx (v := 3) rfl dL_law_343 ?_
  refine Z_iadd fx dL_law_344 ?_
  refine Z_sld fx hX hbl (j := 6 * j + 3) (n_add (6 * j) 3) (by omega) (by omega) rfl dL_law_345 ?_
  refine ZkL_31 fx (s_route hM hZ1) (by decide) hM.k0 rfl dL_law_346 (fun r2 s2 q2 => ?_)
  obtain ⟨F2, A2, rfl, rfl, hf2, hZ2⟩ := q2
  have hw2 := hf2.w
  have hR2 := hR1.oth (fun a h1 h2 => ⟨fun j => hw2.1 j a (by omega), hw2.2 a (by omega), rfl, rfl⟩)
  refine Z_icmpeq fx dL_law_349 (tgt := 1040) rfl (fun _ => ?_) (fun hh => absurd rfl hh)
  exact next _ _ _ _ _ hR2 hZ2 (hG.route.mono (by omega))
theorem c_law_4 (fx : p_FZ g p s m b0 meth c) (hX : va_X b0 N xs s s.heap) (hbl : b0 < s.heap.size) (hN : N ≤ 3072) (hM : WM L m1) (hm : x + 7208 ≤ m1) (hj : 6 * j + 6 ≤ N) (hR : RC L FI AI AL AR x Z) (hZ : RZ FI AI m1 Z) (hG : ZG (40500 * j) Z) (next : ∀ (Z2 : ZW) (F A : Nat → Nat → Int32) (B : Nat → Nat → Int64) (R : Nat → Nat → Option Nat), RC L F A B R x Z2 → RZ F A m1 Z2 → ZG (40500 * (j + 1)) Z2 → Zj p e s m b0 below meth c g iL_law 1040 [some (vr b0), some (vr x), some (vr m1), some (vi (Int32.ofNat (6 * j)))] [] (L, F, A, B, R) (0, 0)) : Zj p e s m b0 below meth c g iL_law 354 [some (vr b0), some (vr x), some (vr m1), some (vi (Int32.ofNat (6 * j)))] [] (L, FI, AI, AL, AR) (0, 0) := by
  refine Z_aloadn fx (i := 1) rfl rfl dL_law_354 ?_
  refine Z_aloadn fx (i := 0) rfl rfl dL_law_355 ?_
  refine Z_iloadn fx (i := 3) rfl rfl dL_law_356 ?_
  refine Z_iconst fx (v := 1) rfl dL_law_357 ?_
  refine Z_iadd fx dL_law_358 ?_
  refine Z_sld fx hX hbl (j := 6 * j + 1) (n_add (6 * j) 1) (by omega) (by omega) rfl dL_law_359 ?_
  refine Z_aloadn fx (i := 0) rfl rfl dL_law_360 ?_
  refine Z_iloadn fx (i := 3) rfl rfl dL_law_361 ?_
  refine Z_iconst fx (v := 2) rfl dL_law_362 ?_
  refine Z_iadd fx dL_law_363 ?_
  refine Z_sld fx hX hbl (j := 6 * j + 2) (n_add (6 * j) 2) (by omega) (by omega) rfl dL_law_364 ?_
  refine Z_aloadn fx (i := 0) rfl rfl dL_law_365 ?_
  refine Z_iloadn fx (i := 3) rfl rfl dL_law_366 ?_
  refine Z_iconst fx (v := 3) rfl dL_law_367 ?_
  refine Z_iadd fx dL_law_368 ?_
  refine Z_sld fx hX hbl (j := 6 * j + 3) (n_add (6 * j) 3) (by omega) (by omega) rfl dL_law_369 ?_
  refine Z_aloadn fx (i := 0) rfl rfl dL_law_370 ?_
  refine Z_iloadn fx (i := 3) rfl rfl dL_law_371 ?_
  refine Z_iconst fx (v := 4) rfl dL_law_372 ?_
  refine Z_iadd fx dL_law_373 ?_
  refine Z_sld fx hX hbl (j := 6 * j + 4) (n_add (6 * j) 4) (by omega) (by omega) rfl dL_law_374 ?_
  refine Z_aloadn fx (i := 0) rfl rfl dL_law_375 ?_
  refine Z_iloadn fx (i := 3) rfl rfl dL_law_376 ?_
  refine Z_iconst fx (v := 5) rfl dL_law_377 ?_
  refine Z_iadd fx dL_law_378 ?_
  refine Z_sld fx hX hbl (j := 6 * j + 5) (n_add (6 * j) 5) (by omega) (by omega) rfl dL_law_379 ?_
  refine ZkL_32 fx (g_send hR hG.1.1) (by decide) hR.lc.kx rfl dL_law_380 (fun r1 s1 q1 => ?_)
  obtain ⟨F1, A1, B1, R1, rfl, rfl, hf1, hR1⟩ := q1
  have hZ1 := hZ.oth (fun j _ => (hf1 m1 (by omega)).1 j) (fun a h1 h2 => (hf1 a (by omega)).2.1)
  refine Z_aloadn fx (i := 2) rfl rfl dL_law_383 ?_
  refine Z_aloadn fx (i := 0) rfl rfl dL_law_384 ?_
  refine Z_iloadn fx (i := 3) rfl rfl dL_law_385 ?_
  refine Z_iconst fx (v := 1) rfl dL_law_386 ?_
  refine Z_iadd fx dL_law_387 ?_
  refine Z_sld fx hX hbl (j := 6 * j + 1) (n_add (6 * j) 1) (by omega) (by omega) rfl dL_law_388 ?_
  refine Z_aloadn fx (i := 0) rfl rfl dL_law_389 ?_
  refine Z_iloadn fx (i := 3) rfl rfl dL_law_390 ?_
  refine Z_iconst fx (v := 2) rfl dL_law_391 ?_
  refine Z_iadd fx dL_law_392 ?_
  refine Z_sld fx hX hbl (j := 6 * j + 2) (n_add (6 * j) 2) (by omega) (by omega) rfl dL_law_393 ?_
  refine Z_aloadn fx (i := 0) rfl rfl dL_law_394 ?_
  refine Z_iloadn fx (i := 3) rfl rfl dL_law_395 ?_
  refine Z_iconst fx (v := 3) rfl dL_law_396 ?_
  refine Z_iadd fx dL_law_397 ?_
  refine Z_sld fx hX hbl (j := 6 * j + 3) (n_add (6 * j) 3) (by omega) (by omega) rfl dL_law_398 ?_
  refine Z_aloadn fx (i := 0) rfl rfl dL_law_399 ?_
  refine Z_iloadn fx (i := 3) rfl rfl dL_law_400 ?_
  refine Z_iconst fx (v := 4) rfl dL_law_401 ?_
  refine Z_iadd fx dL_law_402 ?_
  refine Z_sld fx hX hbl (j := 6 * j + 4) (n_add (6 * j) 4) (by omega) (by omega) rfl dL_law_403 ?_
  refine Z_aloadn fx (i := 0) rfl rfl dL_law_404 ?_
  refine Z_iloadn fx (i := 3) rfl rfl dL_law_405 ?_
  refine Z_iconst fx (v := 5) rfl dL_law_406 ?_
  refine Z_iadd fx dL_law_407 ?_
  refine Z_sld fx hX hbl (j := 6 * j + 5) (n_add (6 * j) 5) (by omega) (by omega) rfl dL_law_408 ?_
  refine ZkL_35 fx (s_send hM hZ1) (by decide) hM.k0 rfl dL_law_409 (fun r2 s2 q2 => ?_)
  obtain ⟨F2, A2, rfl, rfl, hf2, hZ2⟩ := q2
  have hw2 := hf2.w
  have hR2 := hR1.oth (fun a h1 h2 => ⟨fun j => hw2.1 j a (by omega), hw2.2 a (by omega), rfl, rfl⟩)
  refine Z_icmpeq fx dL_law_412 (tgt := 1040) rfl (fun _ => ?_) (fun hh => absurd rfl hh)
  exact next _ _ _ _ _ hR2 hZ2 (hG.send.mono (by omega))
theorem c_law_5 (fx : p_FZ g p s m b0 meth c) (hX : va_X b0 N xs s s.heap) (hbl : b0 < s.heap.size) (hN : N ≤ 3072) (hM : WM L m1) (hm : x + 7208 ≤ m1) (hj : 6 * j + 6 ≤ N) (hR : RC L FI AI AL AR x Z) (hZ : RZ FI AI m1 Z) (hG : ZG (40500 * j) Z) (next : ∀ (Z2 : ZW) (F A : Nat → Nat → Int32) (B : Nat → Nat → Int64) (R : Nat → Nat → Option Nat), RC L F A B R x Z2 → RZ F A m1 Z2 → ZG (40500 * (j + 1)) Z2 → Zj p e s m b0 below meth c g iL_law 1040 [some (vr b0), some (vr x), some (vr m1), some (vi (Int32.ofNat (6 * j)))] [] (L, F, A, B, R) (0, 0)) : Zj p e s m b0 below meth c g iL_law 417 [some (vr b0), some (vr x), some (vr m1), some (vi (Int32.ofNat (6 * j)))] [] (L, FI, AI, AL, AR) (0, 0) := by
  refine Z_aloadn fx (i := 1) rfl rfl dL_law_417 ?_
  refine Z_aloadn fx (i := 0) rfl rfl dL_law_418 ?_
  refine Z_iloadn fx (i := 3) rfl rfl dL_law_419 ?_
  refine Z_iconst fx (v := 1) rfl dL_law_420 ?_
  refine Z_iadd fx dL_law_421 ?_
  refine Z_sld fx hX hbl (j := 6 * j + 1) (n_add (6 * j) 1) (by omega) (by omega) rfl dL_law_422 ?_
  refine ZkL_36 fx (g_resend hR hG.1.1) (by decide) hR.lc.kx rfl dL_law_423 (fun r1 s1 q1 => ?_)
  obtain ⟨F1, A1, B1, R1, rfl, rfl, hf1, hR1⟩ := q1
  have hZ1 := hZ.oth (fun j _ => (hf1 m1 (by omega)).1 j) (fun a h1 h2 => (hf1 a (by omega)).2.1)
  refine Z_aloadn fx (i := 2) rfl rfl dL_law_426 ?_
  refine Z_aloadn fx (i := 0) rfl rfl dL_law_427 ?_
  refine Z_iloadn fx (i := 3) rfl rfl dL_law_428 ?_
  refine Z_iconst fx (v := 1) rfl dL_law_429 ?_
  refine Z_iadd fx dL_law_430 ?_
  refine Z_sld fx hX hbl (j := 6 * j + 1) (n_add (6 * j) 1) (by omega) (by omega) rfl dL_law_431 ?_
  refine ZkL_40 fx (s_resend hM hZ1) (by decide) hM.k0 rfl dL_law_432 (fun r2 s2 q2 => ?_)
  obtain ⟨F2, A2, rfl, rfl, hf2, hZ2⟩ := q2
  have hw2 := hf2.w
  have hR2 := hR1.oth (fun a h1 h2 => ⟨fun j => hw2.1 j a (by omega), hw2.2 a (by omega), rfl, rfl⟩)
  refine Z_icmpeq fx dL_law_435 (tgt := 1040) rfl (fun _ => ?_) (fun hh => absurd rfl hh)
  exact next _ _ _ _ _ hR2 hZ2 ((hG.resend (by omega)).mono (by omega))
theorem c_law_6 (fx : p_FZ g p s m b0 meth c) (hX : va_X b0 N xs s s.heap) (hbl : b0 < s.heap.size) (hN : N ≤ 3072) (hM : WM L m1) (hm : x + 7208 ≤ m1) (hj : 6 * j + 6 ≤ N) (hR : RC L FI AI AL AR x Z) (hZ : RZ FI AI m1 Z) (hG : ZG (40500 * j) Z) (next : ∀ (Z2 : ZW) (F A : Nat → Nat → Int32) (B : Nat → Nat → Int64) (R : Nat → Nat → Option Nat), RC L F A B R x Z2 → RZ F A m1 Z2 → ZG (40500 * (j + 1)) Z2 → Zj p e s m b0 below meth c g iL_law 1040 [some (vr b0), some (vr x), some (vr m1), some (vi (Int32.ofNat (6 * j)))] [] (L, F, A, B, R) (0, 0)) : Zj p e s m b0 below meth c g iL_law 440 [some (vr b0), some (vr x), some (vr m1), some (vi (Int32.ofNat (6 * j)))] [] (L, FI, AI, AL, AR) (0, 0) := by
  refine Z_aloadn fx (i := 1) rfl rfl dL_law_440 ?_
  refine Z_aloadn fx (i := 0) rfl rfl dL_law_441 ?_
  refine Z_iloadn fx (i := 3) rfl rfl dL_law_442 ?_
  refine Z_iconst fx (v := 1) rfl dL_law_443 ?_
  refine Z_iadd fx dL_law_444 ?_
  refine Z_sld fx hX hbl (j := 6 * j + 1) (n_add (6 * j) 1) (by omega) (by omega) rfl dL_law_445 ?_
  refine Z_aloadn fx (i := 0) rfl rfl dL_law_446 ?_
  refine Z_iloadn fx (i := 3) rfl rfl dL_law_447 ?_
  refine Z_iconst fx (v := 2) rfl dL_law_448 ?_
  refine Z_iadd fx dL_law_449 ?_
  refine Z_sld fx hX hbl (j := 6 * j + 2) (n_add (6 * j) 2) (by omega) (by omega) rfl dL_law_450 ?_
  refine Z_aloadn fx (i := 0) rfl rfl dL_law_451 ?_
  refine Z_iloadn fx (i := 3) rfl rfl dL_law_452 ?_
  refine Z_iconst fx (v := 3) rfl dL_law_453 ?_
  refine Z_iadd fx dL_law_454 ?_
  refine Z_sld fx hX hbl (j := 6 * j + 3) (n_add (6 * j) 3) (by omega) (by omega) rfl dL_law_455 ?_
  refine Z_aloadn fx (i := 0) rfl rfl dL_law_456 ?_
  refine Z_iloadn fx (i := 3) rfl rfl dL_law_457 ?_
  refine Z_iconst fx (v := 4) rfl dL_law_458 ?_
  refine Z_iadd fx dL_law_459 ?_
  refine Z_sld fx hX hbl (j := 6 * j + 4) (n_add (6 * j) 4) (by omega) (by omega) rfl dL_law_460 ?_
  refine Z_aloadn fx (i := 0) rfl rfl dL_law_461 ?_
  refine Z_iloadn fx (i := 3) rfl rfl dL_law_462 ?_
  refine Z_iconst fx (v := 5) rfl dL_law_463 ?_
  refine Z_iadd fx dL_law_464 ?_
  refine Z_sld fx hX hbl (j := 6 * j + 5) (n_add (6 * j) 5) (by omega) (by omega) rfl dL_law_465 ?_
  refine ZkL_41 fx (g_forge hR hG.1.1) (by decide) hR.lc.kx rfl dL_law_466 (fun r1 s1 q1 => ?_)
  obtain ⟨F1, A1, B1, R1, rfl, rfl, hf1, hR1⟩ := q1
  have hZ1 := hZ.oth (fun j _ => (hf1 m1 (by omega)).1 j) (fun a h1 h2 => (hf1 a (by omega)).2.1)
  refine Z_aloadn fx (i := 2) rfl rfl dL_law_469 ?_
  refine Z_aloadn fx (i := 0) rfl rfl dL_law_470 ?_
  refine Z_iloadn fx (i := 3) rfl rfl dL_law_471 ?_
  refine Z_iconst fx (v := 1) rfl dL_law_472 ?_
  refine Z_iadd fx dL_law_473 ?_
  refine Z_sld fx hX hbl (j := 6 * j + 1) (n_add (6 * j) 1) (by omega) (by omega) rfl dL_law_474 ?_
  refine Z_aloadn fx (i := 0) rfl rfl dL_law_475 ?_
  refine Z_iloadn fx (i := 3) rfl rfl dL_law_476 ?_
  refine Z_iconst fx (v := 2) rfl dL_law_477 ?_
  refine Z_iadd fx dL_law_478 ?_
  refine Z_sld fx hX hbl (j := 6 * j + 2) (n_add (6 * j) 2) (by omega) (by omega) rfl dL_law_479 ?_
  refine Z_aloadn fx (i := 0) rfl rfl dL_law_480 ?_
  refine Z_iloadn fx (i := 3) rfl rfl dL_law_481 ?_
  refine Z_iconst fx (v := 3) rfl dL_law_482 ?_
  refine Z_iadd fx dL_law_483 ?_
  refine Z_sld fx hX hbl (j := 6 * j + 3) (n_add (6 * j) 3) (by omega) (by omega) rfl dL_law_484 ?_
  refine Z_aloadn fx (i := 0) rfl rfl dL_law_485 ?_
  refine Z_iloadn fx (i := 3) rfl rfl dL_law_486 ?_
  refine Z_iconst fx (v := 4) rfl dL_law_487 ?_
  refine Z_iadd fx dL_law_488 ?_
  refine Z_sld fx hX hbl (j := 6 * j + 4) (n_add (6 * j) 4) (by omega) (by omega) rfl dL_law_489 ?_
  refine Z_aloadn fx (i := 0) rfl rfl dL_law_490 ?_
  refine Z_iloadn fx (i := 3) rfl rfl dL_law_491 ?_
  refine Z_iconst fx (v := 5) rfl dL_law_492 ?_
  refine Z_iadd fx dL_law_493 ?_
  refine Z_sld fx hX hbl (j := 6 * j + 5) (n_add (6 * j) 5) (by omega) (by omega) rfl dL_law_494 ?_
  refine ZkL_44 fx (s_forge hM hZ1) (by decide) hM.k0 rfl dL_law_495 (fun r2 s2 q2 => ?_)
  obtain ⟨F2, A2, rfl, rfl, hf2, hZ2⟩ := q2
  have hw2 := hf2.w
  have hR2 := hR1.oth (fun a h1 h2 => ⟨fun j => hw2.1 j a (by omega), hw2.2 a (by omega), rfl, rfl⟩)
  refine Z_icmpeq fx dL_law_498 (tgt := 1040) rfl (fun _ => ?_) (fun hh => absurd rfl hh)
  exact next _ _ _ _ _ hR2 hZ2 (hG.forge.mono (by omega))
theorem c_law_7 (fx : p_FZ g p s m b0 meth c) (hX : va_X b0 N xs s s.heap) (hbl : b0 < s.heap.size) (hN : N ≤ 3072) (hM : WM L m1) (hm : x + 7208 ≤ m1) (hj : 6 * j + 6 ≤ N) (hR : RC L FI AI AL AR x Z) (hZ : RZ FI AI m1 Z) (hG : ZG (40500 * j) Z) (next : ∀ (Z2 : ZW) (F A : Nat → Nat → Int32) (B : Nat → Nat → Int64) (R : Nat → Nat → Option Nat), RC L F A B R x Z2 → RZ F A m1 Z2 → ZG (40500 * (j + 1)) Z2 → Zj p e s m b0 below meth c g iL_law 1040 [some (vr b0), some (vr x), some (vr m1), some (vi (Int32.ofNat (6 * j)))] [] (L, F, A, B, R) (0, 0)) : Zj p e s m b0 below meth c g iL_law 503 [some (vr b0), some (vr x), some (vr m1), some (vi (Int32.ofNat (6 * j)))] [] (L, FI, AI, AL, AR) (0, 0) := by
  refine Z_aloadn fx (i := 1) rfl rfl dL_law_503 ?_
  refine Z_aloadn fx (i := 0) rfl rfl dL_law_504 ?_
  refine Z_iloadn fx (i := 3) rfl rfl dL_law_505 ?_
  refine Z_iconst fx (v := 1) rfl dL_law_506 ?_
  refine Z_iadd fx dL_law_507 ?_
  refine Z_sld fx hX hbl (j := 6 * j + 1) (n_add (6 * j) 1) (by omega) (by omega) rfl dL_law_508 ?_
  refine ZkL_45 fx (g_ticks hR hG.1.1 (by omega)) (by decide) hR.lc.kx rfl dL_law_509 (fun r1 s1 q1 => ?_)
  obtain ⟨F1, A1, B1, R1, rfl, rfl, hf1, hR1⟩ := q1
  have hZ1 := hZ.oth (fun j _ => (hf1 m1 (by omega)).1 j) (fun a h1 h2 => (hf1 a (by omega)).2.1)
  refine Z_aloadn fx (i := 2) rfl rfl dL_law_512 ?_
  refine Z_aloadn fx (i := 0) rfl rfl dL_law_513 ?_
  refine Z_iloadn fx (i := 3) rfl rfl dL_law_514 ?_
  refine Z_iconst fx (v := 1) rfl dL_law_515 ?_
  refine Z_iadd fx dL_law_516 ?_
  refine Z_sld fx hX hbl (j := 6 * j + 1) (n_add (6 * j) 1) (by omega) (by omega) rfl dL_law_517 ?_
  refine ZkL_48 fx (s_ticks hM hZ1 hG.1.1 (by omega)) (by decide) hM.k0 rfl dL_law_518 (fun r2 s2 q2 => ?_)
  obtain ⟨F2, A2, rfl, rfl, hf2, hZ2⟩ := q2
  have hw2 := hf2.w
  have hR2 := hR1.oth (fun a h1 h2 => ⟨fun j => hw2.1 j a (by omega), hw2.2 a (by omega), rfl, rfl⟩)
  refine Z_icmpeq fx dL_law_521 (tgt := 1040) rfl (fun _ => ?_) (fun hh => absurd rfl hh)
  exact next _ _ _ _ _ hR2 hZ2 ((hG.ticks (by omega)).mono (by omega))
theorem c_law_8 (fx : p_FZ g p s m b0 meth c) (hX : va_X b0 N xs s s.heap) (hbl : b0 < s.heap.size) (hN : N ≤ 3072) (hM : WM L m1) (hm : x + 7208 ≤ m1) (hj : 6 * j + 6 ≤ N) (hR : RC L FI AI AL AR x Z) (hZ : RZ FI AI m1 Z) (hG : ZG (40500 * j) Z) (next : ∀ (Z2 : ZW) (F A : Nat → Nat → Int32) (B : Nat → Nat → Int64) (R : Nat → Nat → Option Nat), RC L F A B R x Z2 → RZ F A m1 Z2 → ZG (40500 * (j + 1)) Z2 → Zj p e s m b0 below meth c g iL_law 1040 [some (vr b0), some (vr x), some (vr m1), some (vi (Int32.ofNat (6 * j)))] [] (L, F, A, B, R) (0, 0)) : Zj p e s m b0 below meth c g iL_law 526 [some (vr b0), some (vr x), some (vr m1), some (vi (Int32.ofNat (6 * j)))] [] (L, FI, AI, AL, AR) (0, 0) := by
  refine Z_aloadn fx (i := 1) rfl rfl dL_law_526 ?_
  refine Z_aloadn fx (i := 0) rfl rfl dL_law_527 ?_
  refine Z_iloadn fx (i := 3) rfl rfl dL_law_528 ?_
  refine Z_iconst fx (v := 1) rfl dL_law_529 ?_
  refine Z_iadd fx dL_law_530 ?_
  refine Z_sld fx hX hbl (j := 6 * j + 1) (n_add (6 * j) 1) (by omega) (by omega) rfl dL_law_531 ?_
  refine Z_aloadn fx (i := 0) rfl rfl dL_law_532 ?_
  refine Z_iloadn fx (i := 3) rfl rfl dL_law_533 ?_
  refine Z_iconst fx (v := 2) rfl dL_law_534 ?_
  refine Z_iadd fx dL_law_535 ?_
  refine Z_sld fx hX hbl (j := 6 * j + 2) (n_add (6 * j) 2) (by omega) (by omega) rfl dL_law_536 ?_
  refine ZkL_49 fx (g_ofNode hR hG.1.1) (by decide) hR.lc.kx rfl dL_law_537 (fun r1 s1 q1 => ?_)
  obtain ⟨rfl, rfl⟩ := q1
  refine Z_aloadn fx (i := 2) rfl rfl dL_law_540 ?_
  refine Z_aloadn fx (i := 0) rfl rfl dL_law_541 ?_
  refine Z_iloadn fx (i := 3) rfl rfl dL_law_542 ?_
  refine Z_iconst fx (v := 1) rfl dL_law_543 ?_
  refine Z_iadd fx dL_law_544 ?_
  refine Z_sld fx hX hbl (j := 6 * j + 1) (n_add (6 * j) 1) (by omega) (by omega) rfl dL_law_545 ?_
  refine Z_aloadn fx (i := 0) rfl rfl dL_law_546 ?_
  refine Z_iloadn fx (i := 3) rfl rfl dL_law_547 ?_
  refine Z_iconst fx (v := 2) rfl dL_law_548 ?_
  refine Z_iadd fx dL_law_549 ?_
  refine Z_sld fx hX hbl (j := 6 * j + 2) (n_add (6 * j) 2) (by omega) (by omega) rfl dL_law_550 ?_
  refine ZkL_53 fx (s_ofNode hM hZ.1) (by decide) hM.k0 rfl dL_law_551 (fun r2 s2 q2 => ?_)
  obtain ⟨rfl, rfl⟩ := q2
  refine Z_icmpeq fx dL_law_554 (tgt := 1040) rfl (fun _ => ?_) (fun hh => absurd rfl hh)
  exact next _ _ _ _ _ hR hZ (hG.mono (by omega))
theorem c_law_9 (fx : p_FZ g p s m b0 meth c) (hX : va_X b0 N xs s s.heap) (hbl : b0 < s.heap.size) (hN : N ≤ 3072) (hM : WM L m1) (hm : x + 7208 ≤ m1) (hj : 6 * j + 6 ≤ N) (hR : RC L FI AI AL AR x Z) (hZ : RZ FI AI m1 Z) (hG : ZG (40500 * j) Z) (next : ∀ (Z2 : ZW) (F A : Nat → Nat → Int32) (B : Nat → Nat → Int64) (R : Nat → Nat → Option Nat), RC L F A B R x Z2 → RZ F A m1 Z2 → ZG (40500 * (j + 1)) Z2 → Zj p e s m b0 below meth c g iL_law 1040 [some (vr b0), some (vr x), some (vr m1), some (vi (Int32.ofNat (6 * j)))] [] (L, F, A, B, R) (0, 0)) : Zj p e s m b0 below meth c g iL_law 559 [some (vr b0), some (vr x), some (vr m1), some (vi (Int32.ofNat (6 * j)))] [] (L, FI, AI, AL, AR) (0, 0) := by
  refine Z_aloadn fx (i := 1) rfl rfl dL_law_559 ?_
  refine Z_aloadn fx (i := 0) rfl rfl dL_law_560 ?_
  refine Z_iloadn fx (i := 3) rfl rfl dL_law_561 ?_
  refine Z_iconst fx (v := 1) rfl dL_law_562 ?_
  refine Z_iadd fx dL_law_563 ?_
  refine Z_sld fx hX hbl (j := 6 * j + 1) (n_add (6 * j) 1) (by omega) (by omega) rfl dL_law_564 ?_
  refine Z_aloadn fx (i := 0) rfl rfl dL_law_565 ?_
  refine Z_iloadn fx (i := 3) rfl rfl dL_law_566 ?_
  refine Z_iconst fx (v := 2) rfl dL_law_567 ?_
  refine Z_iadd fx dL_law_568 ?_
  refine Z_sld fx hX hbl (j := 6 * j + 2) (n_add (6 * j) 2) (by omega) (by omega) rfl dL_law_569 ?_
  refine ZkL_54 fx (g_ofBridge hR hG.1.1) (by decide) hR.lc.kx rfl dL_law_570 (fun r1 s1 q1 => ?_)
  obtain ⟨rfl, rfl⟩ := q1
  refine Z_aloadn fx (i := 2) rfl rfl dL_law_573 ?_
  refine Z_aloadn fx (i := 0) rfl rfl dL_law_574 ?_
  refine Z_iloadn fx (i := 3) rfl rfl dL_law_575 ?_
  refine Z_iconst fx (v := 1) rfl dL_law_576 ?_
  refine Z_iadd fx dL_law_577 ?_
  refine Z_sld fx hX hbl (j := 6 * j + 1) (n_add (6 * j) 1) (by omega) (by omega) rfl dL_law_578 ?_
  refine Z_aloadn fx (i := 0) rfl rfl dL_law_579 ?_
  refine Z_iloadn fx (i := 3) rfl rfl dL_law_580 ?_
  refine Z_iconst fx (v := 2) rfl dL_law_581 ?_
  refine Z_iadd fx dL_law_582 ?_
  refine Z_sld fx hX hbl (j := 6 * j + 2) (n_add (6 * j) 2) (by omega) (by omega) rfl dL_law_583 ?_
  refine ZkL_57 fx (s_ofBridge hM hZ.1) (by decide) hM.k0 rfl dL_law_584 (fun r2 s2 q2 => ?_)
  obtain ⟨rfl, rfl⟩ := q2
  refine Z_icmpeq fx dL_law_587 (tgt := 1040) rfl (fun _ => ?_) (fun hh => absurd rfl hh)
  exact next _ _ _ _ _ hR hZ (hG.mono (by omega))
theorem c_law_10 (fx : p_FZ g p s m b0 meth c) (hX : va_X b0 N xs s s.heap) (hbl : b0 < s.heap.size) (hN : N ≤ 3072) (hM : WM L m1) (hm : x + 7208 ≤ m1) (hj : 6 * j + 6 ≤ N) (hR : RC L FI AI AL AR x Z) (hZ : RZ FI AI m1 Z) (hG : ZG (40500 * j) Z) (next : ∀ (Z2 : ZW) (F A : Nat → Nat → Int32) (B : Nat → Nat → Int64) (R : Nat → Nat → Option Nat), RC L F A B R x Z2 → RZ F A m1 Z2 → ZG (40500 * (j + 1)) Z2 → Zj p e s m b0 below meth c g iL_law 1040 [some (vr b0), some (vr x), some (vr m1), some (vi (Int32.ofNat (6 * j)))] [] (L, F, A, B, R) (0, 0)) : Zj p e s m b0 below meth c g iL_law 592 [some (vr b0), some (vr x), some (vr m1), some (vi (Int32.ofNat (6 * j)))] [] (L, FI, AI, AL, AR) (0, 0) := by
  refine Z_aloadn fx (i := 1) rfl rfl dL_law_592 ?_
  refine Z_aloadn fx (i := 0) rfl rfl dL_law_593 ?_
  refine Z_iloadn fx (i := 3) rfl rfl dL_law_594 ?_
  refine Z_iconst fx (v := 1) rfl dL_law_595 ?_
  refine Z_iadd fx dL_law_596 ?_
  refine Z_sld fx hX hbl (j := 6 * j + 1) (n_add (6 * j) 1) (by omega) (by omega) rfl dL_law_597 ?_
  refine Z_aloadn fx (i := 0) rfl rfl dL_law_598 ?_
  refine Z_iloadn fx (i := 3) rfl rfl dL_law_599 ?_
  refine Z_iconst fx (v := 2) rfl dL_law_600 ?_
  refine Z_iadd fx dL_law_601 ?_
  refine Z_sld fx hX hbl (j := 6 * j + 2) (n_add (6 * j) 2) (by omega) (by omega) rfl dL_law_602 ?_
  refine ZkL_58 fx (g_ofParcel hR hG.1.1) (by decide) hR.lc.kx rfl dL_law_603 (fun r1 s1 q1 => ?_)
  obtain ⟨rfl, rfl⟩ := q1
  refine Z_aloadn fx (i := 2) rfl rfl dL_law_606 ?_
  refine Z_aloadn fx (i := 0) rfl rfl dL_law_607 ?_
  refine Z_iloadn fx (i := 3) rfl rfl dL_law_608 ?_
  refine Z_iconst fx (v := 1) rfl dL_law_609 ?_
  refine Z_iadd fx dL_law_610 ?_
  refine Z_sld fx hX hbl (j := 6 * j + 1) (n_add (6 * j) 1) (by omega) (by omega) rfl dL_law_611 ?_
  refine Z_aloadn fx (i := 0) rfl rfl dL_law_612 ?_
  refine Z_iloadn fx (i := 3) rfl rfl dL_law_613 ?_
  refine Z_iconst fx (v := 2) rfl dL_law_614 ?_
  refine Z_iadd fx dL_law_615 ?_
  refine Z_sld fx hX hbl (j := 6 * j + 2) (n_add (6 * j) 2) (by omega) (by omega) rfl dL_law_616 ?_
  refine ZkL_61 fx (s_ofParcel hM hZ.1 hG.1.1) (by decide) hM.k0 rfl dL_law_617 (fun r2 s2 q2 => ?_)
  obtain ⟨rfl, rfl⟩ := q2
  refine Z_icmpeq fx dL_law_620 (tgt := 1040) rfl (fun _ => ?_) (fun hh => absurd rfl hh)
  exact next _ _ _ _ _ hR hZ (hG.mono (by omega))
theorem c_law_11 (fx : p_FZ g p s m b0 meth c) (hX : va_X b0 N xs s s.heap) (hbl : b0 < s.heap.size) (hN : N ≤ 3072) (hM : WM L m1) (hm : x + 7208 ≤ m1) (hj : 6 * j + 6 ≤ N) (hR : RC L FI AI AL AR x Z) (hZ : RZ FI AI m1 Z) (hG : ZG (40500 * j) Z) (next : ∀ (Z2 : ZW) (F A : Nat → Nat → Int32) (B : Nat → Nat → Int64) (R : Nat → Nat → Option Nat), RC L F A B R x Z2 → RZ F A m1 Z2 → ZG (40500 * (j + 1)) Z2 → Zj p e s m b0 below meth c g iL_law 1040 [some (vr b0), some (vr x), some (vr m1), some (vi (Int32.ofNat (6 * j)))] [] (L, F, A, B, R) (0, 0)) : Zj p e s m b0 below meth c g iL_law 625 [some (vr b0), some (vr x), some (vr m1), some (vi (Int32.ofNat (6 * j)))] [] (L, FI, AI, AL, AR) (0, 0) := by
  refine Z_aloadn fx (i := 1) rfl rfl dL_law_625 ?_
  refine Z_aloadn fx (i := 0) rfl rfl dL_law_626 ?_
  refine Z_iloadn fx (i := 3) rfl rfl dL_law_627 ?_
  refine Z_iconst fx (v := 1) rfl dL_law_628 ?_
  refine Z_iadd fx dL_law_629 ?_
  refine Z_sld fx hX hbl (j := 6 * j + 1) (n_add (6 * j) 1) (by omega) (by omega) rfl dL_law_630 ?_
  refine Z_aloadn fx (i := 0) rfl rfl dL_law_631 ?_
  refine Z_iloadn fx (i := 3) rfl rfl dL_law_632 ?_
  refine Z_iconst fx (v := 2) rfl dL_law_633 ?_
  refine Z_iadd fx dL_law_634 ?_
  refine Z_sld fx hX hbl (j := 6 * j + 2) (n_add (6 * j) 2) (by omega) (by omega) rfl dL_law_635 ?_
  refine ZkL_62 fx (g_byteAt hR hG.1.1) (by decide) hR.lc.kx rfl dL_law_636 (fun r1 s1 q1 => ?_)
  obtain ⟨rfl, rfl⟩ := q1
  refine Z_aloadn fx (i := 2) rfl rfl dL_law_639 ?_
  refine Z_aloadn fx (i := 0) rfl rfl dL_law_640 ?_
  refine Z_iloadn fx (i := 3) rfl rfl dL_law_641 ?_
  refine Z_iconst fx (v := 1) rfl dL_law_642 ?_
  refine Z_iadd fx dL_law_643 ?_
  refine Z_sld fx hX hbl (j := 6 * j + 1) (n_add (6 * j) 1) (by omega) (by omega) rfl dL_law_644 ?_
  refine Z_aloadn fx (i := 0) rfl rfl dL_law_645 ?_
  refine Z_iloadn fx (i := 3) rfl rfl dL_law_646 ?_
  refine Z_iconst fx (v := 2) rfl dL_law_647 ?_
  refine Z_iadd fx dL_law_648 ?_
  refine Z_sld fx hX hbl (j := 6 * j + 2) (n_add (6 * j) 2) (by omega) (by omega) rfl dL_law_649 ?_
  refine ZkL_65 fx (s_byteAt hM hZ.1) (by decide) hM.k0 rfl dL_law_650 (fun r2 s2 q2 => ?_)
  obtain ⟨rfl, rfl⟩ := q2
  refine Z_icmpeq fx dL_law_653 (tgt := 1040) rfl (fun _ => ?_) (fun hh => absurd rfl hh)
  exact next _ _ _ _ _ hR hZ (hG.mono (by omega))
theorem c_law_12 (fx : p_FZ g p s m b0 meth c) (hX : va_X b0 N xs s s.heap) (hbl : b0 < s.heap.size) (hN : N ≤ 3072) (hM : WM L m1) (hm : x + 7208 ≤ m1) (hj : 6 * j + 6 ≤ N) (hR : RC L FI AI AL AR x Z) (hZ : RZ FI AI m1 Z) (hG : ZG (40500 * j) Z) (next : ∀ (Z2 : ZW) (F A : Nat → Nat → Int32) (B : Nat → Nat → Int64) (R : Nat → Nat → Option Nat), RC L F A B R x Z2 → RZ F A m1 Z2 → ZG (40500 * (j + 1)) Z2 → Zj p e s m b0 below meth c g iL_law 1040 [some (vr b0), some (vr x), some (vr m1), some (vi (Int32.ofNat (6 * j)))] [] (L, F, A, B, R) (0, 0)) : Zj p e s m b0 below meth c g iL_law 658 [some (vr b0), some (vr x), some (vr m1), some (vi (Int32.ofNat (6 * j)))] [] (L, FI, AI, AL, AR) (0, 0) := by
  refine Z_aloadn fx (i := 1) rfl rfl dL_law_658 ?_
  refine Z_aloadn fx (i := 0) rfl rfl dL_law_659 ?_
  refine Z_iloadn fx (i := 3) rfl rfl dL_law_660 ?_
  refine Z_iconst fx (v := 1) rfl dL_law_661 ?_
  refine Z_iadd fx dL_law_662 ?_
  refine Z_sld fx hX hbl (j := 6 * j + 1) (n_add (6 * j) 1) (by omega) (by omega) rfl dL_law_663 ?_
  refine ZkL_66 fx (g_count hR hG.1.1) (by decide) hR.lc.kx rfl dL_law_664 (fun r1 s1 q1 => ?_)
  obtain ⟨rfl, rfl⟩ := q1
  refine Z_aloadn fx (i := 2) rfl rfl dL_law_667 ?_
  refine Z_aloadn fx (i := 0) rfl rfl dL_law_668 ?_
  refine Z_iloadn fx (i := 3) rfl rfl dL_law_669 ?_
  refine Z_iconst fx (v := 1) rfl dL_law_670 ?_
  refine Z_iadd fx dL_law_671 ?_
  refine Z_sld fx hX hbl (j := 6 * j + 1) (n_add (6 * j) 1) (by omega) (by omega) rfl dL_law_672 ?_
  refine ZkL_69 fx (s_count hM hZ) (by decide) hM.k0 rfl dL_law_673 (fun r2 s2 q2 => ?_)
  obtain ⟨rfl, rfl⟩ := q2
  refine Z_icmpeq fx dL_law_676 (tgt := 1040) rfl (fun _ => ?_) (fun hh => absurd rfl hh)
  exact next _ _ _ _ _ hR hZ (hG.mono (by omega))
theorem c_law_13 (fx : p_FZ g p s m b0 meth c) (hX : va_X b0 N xs s s.heap) (hbl : b0 < s.heap.size) (hN : N ≤ 3072) (hM : WM L m1) (hm : x + 7208 ≤ m1) (hj : 6 * j + 6 ≤ N) (hR : RC L FI AI AL AR x Z) (hZ : RZ FI AI m1 Z) (hG : ZG (40500 * j) Z) (next : ∀ (Z2 : ZW) (F A : Nat → Nat → Int32) (B : Nat → Nat → Int64) (R : Nat → Nat → Option Nat), RC L F A B R x Z2 → RZ F A m1 Z2 → ZG (40500 * (j + 1)) Z2 → Zj p e s m b0 below meth c g iL_law 1040 [some (vr b0), some (vr x), some (vr m1), some (vi (Int32.ofNat (6 * j)))] [] (L, F, A, B, R) (0, 0)) : Zj p e s m b0 below meth c g iL_law 681 [some (vr b0), some (vr x), some (vr m1), some (vi (Int32.ofNat (6 * j)))] [] (L, FI, AI, AL, AR) (0, 0) := by
  refine Z_aloadn fx (i := 1) rfl rfl dL_law_681 ?_
  refine Z_aloadn fx (i := 0) rfl rfl dL_law_682 ?_
  refine Z_iloadn fx (i := 3) rfl rfl dL_law_683 ?_
  refine Z_iconst fx (v := 1) rfl dL_law_684 ?_
  refine Z_iadd fx dL_law_685 ?_
  refine Z_sld fx hX hbl (j := 6 * j + 1) (n_add (6 * j) 1) (by omega) (by omega) rfl dL_law_686 ?_
  refine Z_aloadn fx (i := 0) rfl rfl dL_law_687 ?_
  refine Z_iloadn fx (i := 3) rfl rfl dL_law_688 ?_
  refine Z_iconst fx (v := 2) rfl dL_law_689 ?_
  refine Z_iadd fx dL_law_690 ?_
  refine Z_sld fx hX hbl (j := 6 * j + 2) (n_add (6 * j) 2) (by omega) (by omega) rfl dL_law_691 ?_
  refine ZkL_70 fx (g_leastRoom hR hG.1.1) (by decide) hR.lc.kx rfl dL_law_692 (fun r1 s1 q1 => ?_)
  obtain ⟨F1, A1, B1, R1, rfl, rfl, hf1, hR1⟩ := q1
  have hZ1 := hZ.oth (fun j _ => (hf1 m1 (by omega)).1 j) (fun a h1 h2 => (hf1 a (by omega)).2.1)
  refine Z_aloadn fx (i := 2) rfl rfl dL_law_695 ?_
  refine Z_aloadn fx (i := 0) rfl rfl dL_law_696 ?_
  refine Z_iloadn fx (i := 3) rfl rfl dL_law_697 ?_
  refine Z_iconst fx (v := 1) rfl dL_law_698 ?_
  refine Z_iadd fx dL_law_699 ?_
  refine Z_sld fx hX hbl (j := 6 * j + 1) (n_add (6 * j) 1) (by omega) (by omega) rfl dL_law_700 ?_
  refine Z_aloadn fx (i := 0) rfl rfl dL_law_701 ?_
  refine Z_iloadn fx (i := 3) rfl rfl dL_law_702 ?_
  refine Z_iconst fx (v := 2) rfl dL_law_703 ?_
  refine Z_iadd fx dL_law_704 ?_
  refine Z_sld fx hX hbl (j := 6 * j + 2) (n_add (6 * j) 2) (by omega) (by omega) rfl dL_law_705 ?_
  refine ZkL_73 fx (s_leastRoom hM hZ1 hG.1.1) (by decide) hM.k0 rfl dL_law_706 (fun r2 s2 q2 => ?_)
  obtain ⟨F2, A2, rfl, rfl, hf2, hZ2⟩ := q2
  have hw2 := hf2.w
  have hR2 := hR1.oth (fun a h1 h2 => ⟨fun j => hw2.1 j a (by omega), hw2.2 a (by omega), rfl, rfl⟩)
  refine Z_icmpeq fx dL_law_709 (tgt := 1040) rfl (fun _ => ?_) (fun hh => absurd rfl hh)
  exact next _ _ _ _ _ hR2 hZ2 (hG.mono (by omega))
theorem c_law_14 (fx : p_FZ g p s m b0 meth c) (hX : va_X b0 N xs s s.heap) (hbl : b0 < s.heap.size) (hN : N ≤ 3072) (hM : WM L m1) (hm : x + 7208 ≤ m1) (hj : 6 * j + 6 ≤ N) (hR : RC L FI AI AL AR x Z) (hZ : RZ FI AI m1 Z) (hG : ZG (40500 * j) Z) (next : ∀ (Z2 : ZW) (F A : Nat → Nat → Int32) (B : Nat → Nat → Int64) (R : Nat → Nat → Option Nat), RC L F A B R x Z2 → RZ F A m1 Z2 → ZG (40500 * (j + 1)) Z2 → Zj p e s m b0 below meth c g iL_law 1040 [some (vr b0), some (vr x), some (vr m1), some (vi (Int32.ofNat (6 * j)))] [] (L, F, A, B, R) (0, 0)) : Zj p e s m b0 below meth c g iL_law 714 [some (vr b0), some (vr x), some (vr m1), some (vi (Int32.ofNat (6 * j)))] [] (L, FI, AI, AL, AR) (0, 0) := by
  refine Z_aloadn fx (i := 1) rfl rfl dL_law_714 ?_
  refine Z_aloadn fx (i := 0) rfl rfl dL_law_715 ?_
  refine Z_iloadn fx (i := 3) rfl rfl dL_law_716 ?_
  refine Z_iconst fx (v := 1) rfl dL_law_717 ?_
  refine Z_iadd fx dL_law_718 ?_
  refine Z_sld fx hX hbl (j := 6 * j + 1) (n_add (6 * j) 1) (by omega) (by omega) rfl dL_law_719 ?_
  refine Z_aloadn fx (i := 0) rfl rfl dL_law_720 ?_
  refine Z_iloadn fx (i := 3) rfl rfl dL_law_721 ?_
  refine Z_iconst fx (v := 2) rfl dL_law_722 ?_
  refine Z_iadd fx dL_law_723 ?_
  refine Z_sld fx hX hbl (j := 6 * j + 2) (n_add (6 * j) 2) (by omega) (by omega) rfl dL_law_724 ?_
  refine Z_aloadn fx (i := 0) rfl rfl dL_law_725 ?_
  refine Z_iloadn fx (i := 3) rfl rfl dL_law_726 ?_
  refine Z_iconst fx (v := 3) rfl dL_law_727 ?_
  refine Z_iadd fx dL_law_728 ?_
  refine Z_sld fx hX hbl (j := 6 * j + 3) (n_add (6 * j) 3) (by omega) (by omega) rfl dL_law_729 ?_
  refine ZkL_74 fx (g_slices hR hG.1.1) (by decide) hR.lc.kx rfl dL_law_730 (fun r1 s1 q1 => ?_)
  obtain ⟨F1, A1, B1, R1, rfl, rfl, hf1, hR1⟩ := q1
  have hZ1 := hZ.oth (fun j _ => (hf1 m1 (by omega)).1 j) (fun a h1 h2 => (hf1 a (by omega)).2.1)
  refine Z_aloadn fx (i := 2) rfl rfl dL_law_733 ?_
  refine Z_aloadn fx (i := 0) rfl rfl dL_law_734 ?_
  refine Z_iloadn fx (i := 3) rfl rfl dL_law_735 ?_
  refine Z_iconst fx (v := 1) rfl dL_law_736 ?_
  refine Z_iadd fx dL_law_737 ?_
  refine Z_sld fx hX hbl (j := 6 * j + 1) (n_add (6 * j) 1) (by omega) (by omega) rfl dL_law_738 ?_
  refine Z_aloadn fx (i := 0) rfl rfl dL_law_739 ?_
  refine Z_iloadn fx (i := 3) rfl rfl dL_law_740 ?_
  refine Z_iconst fx (v := 2) rfl dL_law_741 ?_
  refine Z_iadd fx dL_law_742 ?_
  refine Z_sld fx hX hbl (j := 6 * j + 2) (n_add (6 * j) 2) (by omega) (by omega) rfl dL_law_743 ?_
  refine Z_aloadn fx (i := 0) rfl rfl dL_law_744 ?_
  refine Z_iloadn fx (i := 3) rfl rfl dL_law_745 ?_
  refine Z_iconst fx (v := 3) rfl dL_law_746 ?_
  refine Z_iadd fx dL_law_747 ?_
  refine Z_sld fx hX hbl (j := 6 * j + 3) (n_add (6 * j) 3) (by omega) (by omega) rfl dL_law_748 ?_
  refine ZkL_77 fx (s_slices hM hZ1 hG.1.1) (by decide) hM.k0 rfl dL_law_749 (fun r2 s2 q2 => ?_)
  obtain ⟨F2, A2, rfl, rfl, hf2, hZ2⟩ := q2
  have hw2 := hf2.w
  have hR2 := hR1.oth (fun a h1 h2 => ⟨fun j => hw2.1 j a (by omega), hw2.2 a (by omega), rfl, rfl⟩)
  refine Z_icmpeq fx dL_law_752 (tgt := 1040) rfl (fun _ => ?_) (fun hh => absurd rfl hh)
  exact next _ _ _ _ _ hR2 hZ2 (hG.mono (by omega))
theorem c_law_15 (fx : p_FZ g p s m b0 meth c) (hX : va_X b0 N xs s s.heap) (hbl : b0 < s.heap.size) (hN : N ≤ 3072) (hM : WM L m1) (hm : x + 7208 ≤ m1) (hj : 6 * j + 6 ≤ N) (hR : RC L FI AI AL AR x Z) (hZ : RZ FI AI m1 Z) (hG : ZG (40500 * j) Z) (next : ∀ (Z2 : ZW) (F A : Nat → Nat → Int32) (B : Nat → Nat → Int64) (R : Nat → Nat → Option Nat), RC L F A B R x Z2 → RZ F A m1 Z2 → ZG (40500 * (j + 1)) Z2 → Zj p e s m b0 below meth c g iL_law 1040 [some (vr b0), some (vr x), some (vr m1), some (vi (Int32.ofNat (6 * j)))] [] (L, F, A, B, R) (0, 0)) : Zj p e s m b0 below meth c g iL_law 757 [some (vr b0), some (vr x), some (vr m1), some (vi (Int32.ofNat (6 * j)))] [] (L, FI, AI, AL, AR) (0, 0) := by
  refine Z_aloadn fx (i := 1) rfl rfl dL_law_757 ?_
  refine Z_aloadn fx (i := 0) rfl rfl dL_law_758 ?_
  refine Z_iloadn fx (i := 3) rfl rfl dL_law_759 ?_
  refine Z_iconst fx (v := 1) rfl dL_law_760 ?_
  refine Z_iadd fx dL_law_761 ?_
  refine Z_sld fx hX hbl (j := 6 * j + 1) (n_add (6 * j) 1) (by omega) (by omega) rfl dL_law_762 ?_
  refine Z_aloadn fx (i := 0) rfl rfl dL_law_763 ?_
  refine Z_iloadn fx (i := 3) rfl rfl dL_law_764 ?_
  refine Z_iconst fx (v := 2) rfl dL_law_765 ?_
  refine Z_iadd fx dL_law_766 ?_
  refine Z_sld fx hX hbl (j := 6 * j + 2) (n_add (6 * j) 2) (by omega) (by omega) rfl dL_law_767 ?_
  refine Z_aloadn fx (i := 0) rfl rfl dL_law_768 ?_
  refine Z_iloadn fx (i := 3) rfl rfl dL_law_769 ?_
  refine Z_iconst fx (v := 3) rfl dL_law_770 ?_
  refine Z_iadd fx dL_law_771 ?_
  refine Z_sld fx hX hbl (j := 6 * j + 3) (n_add (6 * j) 3) (by omega) (by omega) rfl dL_law_772 ?_
  refine ZkL_78 fx (g_time hR hG.1.1) (by decide) hR.lc.kx rfl dL_law_773 (fun r1 s1 q1 => ?_)
  obtain ⟨F1, A1, B1, R1, rfl, rfl, hf1, hR1⟩ := q1
  have hZ1 := hZ.oth (fun j _ => (hf1 m1 (by omega)).1 j) (fun a h1 h2 => (hf1 a (by omega)).2.1)
  refine Z_aloadn fx (i := 2) rfl rfl dL_law_776 ?_
  refine Z_aloadn fx (i := 0) rfl rfl dL_law_777 ?_
  refine Z_iloadn fx (i := 3) rfl rfl dL_law_778 ?_
  refine Z_iconst fx (v := 1) rfl dL_law_779 ?_
  refine Z_iadd fx dL_law_780 ?_
  refine Z_sld fx hX hbl (j := 6 * j + 1) (n_add (6 * j) 1) (by omega) (by omega) rfl dL_law_781 ?_
  refine Z_aloadn fx (i := 0) rfl rfl dL_law_782 ?_
  refine Z_iloadn fx (i := 3) rfl rfl dL_law_783 ?_
  refine Z_iconst fx (v := 2) rfl dL_law_784 ?_
  refine Z_iadd fx dL_law_785 ?_
  refine Z_sld fx hX hbl (j := 6 * j + 2) (n_add (6 * j) 2) (by omega) (by omega) rfl dL_law_786 ?_
  refine Z_aloadn fx (i := 0) rfl rfl dL_law_787 ?_
  refine Z_iloadn fx (i := 3) rfl rfl dL_law_788 ?_
  refine Z_iconst fx (v := 3) rfl dL_law_789 ?_
  refine Z_iadd fx dL_law_790 ?_
  refine Z_sld fx hX hbl (j := 6 * j + 3) (n_add (6 * j) 3) (by omega) (by omega) rfl dL_law_791 ?_
  refine ZkL_81 fx (s_time hM hZ1 hG.1.1) (by decide) hM.k0 rfl dL_law_792 (fun r2 s2 q2 => ?_)
  obtain ⟨F2, A2, rfl, rfl, hf2, hZ2⟩ := q2
  have hw2 := hf2.w
  have hR2 := hR1.oth (fun a h1 h2 => ⟨fun j => hw2.1 j a (by omega), hw2.2 a (by omega), rfl, rfl⟩)
  refine Z_icmpeq fx dL_law_795 (tgt := 1040) rfl (fun _ => ?_) (fun hh => absurd rfl hh)
  exact next _ _ _ _ _ hR2 hZ2 (hG.mono (by omega))
theorem c_law_16 (fx : p_FZ g p s m b0 meth c) (hX : va_X b0 N xs s s.heap) (hbl : b0 < s.heap.size) (hN : N ≤ 3072) (hM : WM L m1) (hm : x + 7208 ≤ m1) (hj : 6 * j + 6 ≤ N) (hR : RC L FI AI AL AR x Z) (hZ : RZ FI AI m1 Z) (hG : ZG (40500 * j) Z) (next : ∀ (Z2 : ZW) (F A : Nat → Nat → Int32) (B : Nat → Nat → Int64) (R : Nat → Nat → Option Nat), RC L F A B R x Z2 → RZ F A m1 Z2 → ZG (40500 * (j + 1)) Z2 → Zj p e s m b0 below meth c g iL_law 1040 [some (vr b0), some (vr x), some (vr m1), some (vi (Int32.ofNat (6 * j)))] [] (L, F, A, B, R) (0, 0)) : Zj p e s m b0 below meth c g iL_law 800 [some (vr b0), some (vr x), some (vr m1), some (vi (Int32.ofNat (6 * j)))] [] (L, FI, AI, AL, AR) (0, 0) := by
  refine Z_aloadn fx (i := 1) rfl rfl dL_law_800 ?_
  refine Z_aloadn fx (i := 0) rfl rfl dL_law_801 ?_
  refine Z_iloadn fx (i := 3) rfl rfl dL_law_802 ?_
  refine Z_iconst fx (v := 1) rfl dL_law_803 ?_
  refine Z_iadd fx dL_law_804 ?_
  refine Z_sld fx hX hbl (j := 6 * j + 1) (n_add (6 * j) 1) (by omega) (by omega) rfl dL_law_805 ?_
  refine Z_aloadn fx (i := 0) rfl rfl dL_law_806 ?_
  refine Z_iloadn fx (i := 3) rfl rfl dL_law_807 ?_
  refine Z_iconst fx (v := 2) rfl dL_law_808 ?_
  refine Z_iadd fx dL_law_809 ?_
  refine Z_sld fx hX hbl (j := 6 * j + 2) (n_add (6 * j) 2) (by omega) (by omega) rfl dL_law_810 ?_
  refine ZkL_82 fx (g_stateIn hR hG.1.1 (by omega)) (by decide) hR.lc.kx rfl dL_law_811 (fun r1 s1 q1 => ?_)
  obtain ⟨F1, A1, B1, R1, rfl, rfl, hf1, hR1⟩ := q1
  have hZ1 := hZ.oth (fun j _ => (hf1 m1 (by omega)).1 j) (fun a h1 h2 => (hf1 a (by omega)).2.1)
  refine Z_aloadn fx (i := 2) rfl rfl dL_law_814 ?_
  refine Z_aloadn fx (i := 0) rfl rfl dL_law_815 ?_
  refine Z_iloadn fx (i := 3) rfl rfl dL_law_816 ?_
  refine Z_iconst fx (v := 1) rfl dL_law_817 ?_
  refine Z_iadd fx dL_law_818 ?_
  refine Z_sld fx hX hbl (j := 6 * j + 1) (n_add (6 * j) 1) (by omega) (by omega) rfl dL_law_819 ?_
  refine Z_aloadn fx (i := 0) rfl rfl dL_law_820 ?_
  refine Z_iloadn fx (i := 3) rfl rfl dL_law_821 ?_
  refine Z_iconst fx (v := 2) rfl dL_law_822 ?_
  refine Z_iadd fx dL_law_823 ?_
  refine Z_sld fx hX hbl (j := 6 * j + 2) (n_add (6 * j) 2) (by omega) (by omega) rfl dL_law_824 ?_
  refine ZkL_85 fx (s_stateIn hM hZ1 hG.1.1 (by omega)) (by decide) hM.k0 rfl dL_law_825 (fun r2 s2 q2 => ?_)
  obtain ⟨F2, A2, rfl, rfl, hf2, hZ2⟩ := q2
  have hw2 := hf2.w
  have hR2 := hR1.oth (fun a h1 h2 => ⟨fun j => hw2.1 j a (by omega), hw2.2 a (by omega), rfl, rfl⟩)
  refine Z_icmpeq fx dL_law_828 (tgt := 1040) rfl (fun _ => ?_) (fun hh => absurd rfl hh)
  exact next _ _ _ _ _ hR2 hZ2 (hG.mono (by omega))
theorem c_law_17 (fx : p_FZ g p s m b0 meth c) (hX : va_X b0 N xs s s.heap) (hbl : b0 < s.heap.size) (hN : N ≤ 3072) (hM : WM L m1) (hm : x + 7208 ≤ m1) (hj : 6 * j + 6 ≤ N) (hR : RC L FI AI AL AR x Z) (hZ : RZ FI AI m1 Z) (hG : ZG (40500 * j) Z) (next : ∀ (Z2 : ZW) (F A : Nat → Nat → Int32) (B : Nat → Nat → Int64) (R : Nat → Nat → Option Nat), RC L F A B R x Z2 → RZ F A m1 Z2 → ZG (40500 * (j + 1)) Z2 → Zj p e s m b0 below meth c g iL_law 1040 [some (vr b0), some (vr x), some (vr m1), some (vi (Int32.ofNat (6 * j)))] [] (L, F, A, B, R) (0, 0)) : Zj p e s m b0 below meth c g iL_law 833 [some (vr b0), some (vr x), some (vr m1), some (vi (Int32.ofNat (6 * j)))] [] (L, FI, AI, AL, AR) (0, 0) := by
  refine Z_aloadn fx (i := 1) rfl rfl dL_law_833 ?_
  refine Z_aloadn fx (i := 0) rfl rfl dL_law_834 ?_
  refine Z_iloadn fx (i := 3) rfl rfl dL_law_835 ?_
  refine Z_iconst fx (v := 1) rfl dL_law_836 ?_
  refine Z_iadd fx dL_law_837 ?_
  refine Z_sld fx hX hbl (j := 6 * j + 1) (n_add (6 * j) 1) (by omega) (by omega) rfl dL_law_838 ?_
  refine ZkL_86 fx (g_doneIn hR hG.1.1 (by omega)) (by decide) hR.lc.kx rfl dL_law_839 (fun r1 s1 q1 => ?_)
  obtain ⟨F1, A1, B1, R1, rfl, rfl, hf1, hR1⟩ := q1
  have hZ1 := hZ.oth (fun j _ => (hf1 m1 (by omega)).1 j) (fun a h1 h2 => (hf1 a (by omega)).2.1)
  refine Z_aloadn fx (i := 2) rfl rfl dL_law_842 ?_
  refine Z_aloadn fx (i := 0) rfl rfl dL_law_843 ?_
  refine Z_iloadn fx (i := 3) rfl rfl dL_law_844 ?_
  refine Z_iconst fx (v := 1) rfl dL_law_845 ?_
  refine Z_iadd fx dL_law_846 ?_
  refine Z_sld fx hX hbl (j := 6 * j + 1) (n_add (6 * j) 1) (by omega) (by omega) rfl dL_law_847 ?_
  refine ZkL_89 fx (s_doneIn hM hZ1 hG.1.1 (by omega)) (by decide) hM.k0 rfl dL_law_848 (fun r2 s2 q2 => ?_)
  obtain ⟨F2, A2, rfl, rfl, hf2, hZ2⟩ := q2
  have hw2 := hf2.w
  have hR2 := hR1.oth (fun a h1 h2 => ⟨fun j => hw2.1 j a (by omega), hw2.2 a (by omega), rfl, rfl⟩)
  refine Z_icmpeq fx dL_law_851 (tgt := 1040) rfl (fun _ => ?_) (fun hh => absurd rfl hh)
  exact next _ _ _ _ _ hR2 hZ2 (hG.mono (by omega))
theorem c_law_18 (fx : p_FZ g p s m b0 meth c) (hX : va_X b0 N xs s s.heap) (hbl : b0 < s.heap.size) (hN : N ≤ 3072) (hM : WM L m1) (hm : x + 7208 ≤ m1) (hj : 6 * j + 6 ≤ N) (hR : RC L FI AI AL AR x Z) (hZ : RZ FI AI m1 Z) (hG : ZG (40500 * j) Z) (next : ∀ (Z2 : ZW) (F A : Nat → Nat → Int32) (B : Nat → Nat → Int64) (R : Nat → Nat → Option Nat), RC L F A B R x Z2 → RZ F A m1 Z2 → ZG (40500 * (j + 1)) Z2 → Zj p e s m b0 below meth c g iL_law 1040 [some (vr b0), some (vr x), some (vr m1), some (vi (Int32.ofNat (6 * j)))] [] (L, F, A, B, R) (0, 0)) : Zj p e s m b0 below meth c g iL_law 856 [some (vr b0), some (vr x), some (vr m1), some (vi (Int32.ofNat (6 * j)))] [] (L, FI, AI, AL, AR) (0, 0) := by
  refine Z_aloadn fx (i := 1) rfl rfl dL_law_856 ?_
  refine Z_aloadn fx (i := 0) rfl rfl dL_law_857 ?_
  refine Z_iloadn fx (i := 3) rfl rfl dL_law_858 ?_
  refine Z_iconst fx (v := 1) rfl dL_law_859 ?_
  refine Z_iadd fx dL_law_860 ?_
  refine Z_sld fx hX hbl (j := 6 * j + 1) (n_add (6 * j) 1) (by omega) (by omega) rfl dL_law_861 ?_
  refine Z_aloadn fx (i := 0) rfl rfl dL_law_862 ?_
  refine Z_iloadn fx (i := 3) rfl rfl dL_law_863 ?_
  refine Z_iconst fx (v := 2) rfl dL_law_864 ?_
  refine Z_iadd fx dL_law_865 ?_
  refine Z_sld fx hX hbl (j := 6 * j + 2) (n_add (6 * j) 2) (by omega) (by omega) rfl dL_law_866 ?_
  refine ZkL_90 fx (g_gap hR hG.1.1) (by decide) hR.lc.kx rfl dL_law_867 (fun r1 s1 q1 => ?_)
  obtain ⟨rfl, rfl⟩ := q1
  refine Z_aloadn fx (i := 2) rfl rfl dL_law_870 ?_
  refine Z_aloadn fx (i := 0) rfl rfl dL_law_871 ?_
  refine Z_iloadn fx (i := 3) rfl rfl dL_law_872 ?_
  refine Z_iconst fx (v := 1) rfl dL_law_873 ?_
  refine Z_iadd fx dL_law_874 ?_
  refine Z_sld fx hX hbl (j := 6 * j + 1) (n_add (6 * j) 1) (by omega) (by omega) rfl dL_law_875 ?_
  refine Z_aloadn fx (i := 0) rfl rfl dL_law_876 ?_
  refine Z_iloadn fx (i := 3) rfl rfl dL_law_877 ?_
  refine Z_iconst fx (v := 2) rfl dL_law_878 ?_
  refine Z_iadd fx dL_law_879 ?_
  refine Z_sld fx hX hbl (j := 6 * j + 2) (n_add (6 * j) 2) (by omega) (by omega) rfl dL_law_880 ?_
  refine ZkL_93 fx (s_gap hM hZ.1) (by decide) hM.k0 rfl dL_law_881 (fun r2 s2 q2 => ?_)
  obtain ⟨rfl, rfl⟩ := q2
  refine Z_icmpeq fx dL_law_884 (tgt := 1040) rfl (fun _ => ?_) (fun hh => absurd rfl hh)
  exact next _ _ _ _ _ hR hZ (hG.mono (by omega))
theorem c_law_19 (fx : p_FZ g p s m b0 meth c) (hX : va_X b0 N xs s s.heap) (hbl : b0 < s.heap.size) (hN : N ≤ 3072) (hM : WM L m1) (hm : x + 7208 ≤ m1) (hj : 6 * j + 6 ≤ N) (hR : RC L FI AI AL AR x Z) (hZ : RZ FI AI m1 Z) (hG : ZG (40500 * j) Z) (next : ∀ (Z2 : ZW) (F A : Nat → Nat → Int32) (B : Nat → Nat → Int64) (R : Nat → Nat → Option Nat), RC L F A B R x Z2 → RZ F A m1 Z2 → ZG (40500 * (j + 1)) Z2 → Zj p e s m b0 below meth c g iL_law 1040 [some (vr b0), some (vr x), some (vr m1), some (vi (Int32.ofNat (6 * j)))] [] (L, F, A, B, R) (0, 0)) : Zj p e s m b0 below meth c g iL_law 889 [some (vr b0), some (vr x), some (vr m1), some (vi (Int32.ofNat (6 * j)))] [] (L, FI, AI, AL, AR) (0, 0) := by
  refine Z_aloadn fx (i := 1) rfl rfl dL_law_889 ?_
  refine Z_aloadn fx (i := 0) rfl rfl dL_law_890 ?_
  refine Z_iloadn fx (i := 3) rfl rfl dL_law_891 ?_
  refine Z_iconst fx (v := 1) rfl dL_law_892 ?_
  refine Z_iadd fx dL_law_893 ?_
  refine Z_sld fx hX hbl (j := 6 * j + 1) (n_add (6 * j) 1) (by omega) (by omega) rfl dL_law_894 ?_
  refine Z_i2l fx dL_law_895 ?_
  refine Z_bipush fx (v := 32) rfl dL_law_896 ?_
  refine Z_lshl fx rfl dL_law_898 ?_
  refine Z_aloadn fx (i := 0) rfl rfl dL_law_899 ?_
  refine Z_iloadn fx (i := 3) rfl rfl dL_law_900 ?_
  refine Z_iconst fx (v := 2) rfl dL_law_901 ?_
  refine Z_iadd fx dL_law_902 ?_
  refine Z_sld fx hX hbl (j := 6 * j + 2) (n_add (6 * j) 2) (by omega) (by omega) rfl dL_law_903 ?_
  refine Z_i2l fx dL_law_904 ?_
  refine ZLL_94 fx dL_law_905 ?_
  refine Z_land fx dL_law_908 ?_
  refine Z_lor fx dL_law_909 ?_
  refine ZkL_96 fx (g_put hR) (by decide) hR.lc.kx rfl dL_law_910 (fun r1 s1 q1 => ?_)
  obtain ⟨F1, A1, B1, R1, rfl, rfl, hf1, hR1⟩ := q1
  have hZ1 := hZ.oth (fun j _ => (hf1 m1 (by omega)).1 j) (fun a h1 h2 => (hf1 a (by omega)).2.1)
  refine Z_aloadn fx (i := 2) rfl rfl dL_law_913 ?_
  refine Z_aloadn fx (i := 0) rfl rfl dL_law_914 ?_
  refine Z_iloadn fx (i := 3) rfl rfl dL_law_915 ?_
  refine Z_iconst fx (v := 1) rfl dL_law_916 ?_
  refine Z_iadd fx dL_law_917 ?_
  refine Z_sld fx hX hbl (j := 6 * j + 1) (n_add (6 * j) 1) (by omega) (by omega) rfl dL_law_918 ?_
  refine Z_i2l fx dL_law_919 ?_
  refine Z_bipush fx (v := 32) rfl dL_law_920 ?_
  refine Z_lshl fx rfl dL_law_922 ?_
  refine Z_aloadn fx (i := 0) rfl rfl dL_law_923 ?_
  refine Z_iloadn fx (i := 3) rfl rfl dL_law_924 ?_
  refine Z_iconst fx (v := 2) rfl dL_law_925 ?_
  refine Z_iadd fx dL_law_926 ?_
  refine Z_sld fx hX hbl (j := 6 * j + 2) (n_add (6 * j) 2) (by omega) (by omega) rfl dL_law_927 ?_
  refine Z_i2l fx dL_law_928 ?_
  refine ZLL_94 fx dL_law_929 ?_
  refine Z_land fx dL_law_932 ?_
  refine Z_lor fx dL_law_933 ?_
  refine ZkL_100 fx (s_put8 hM hZ1) (by decide) hM.k0 rfl dL_law_934 (fun r2 s2 q2 => ?_)
  obtain ⟨F2, A2, rfl, rfl, hf2, hZ2⟩ := q2
  have hw2 := hf2.w
  have hR2 := hR1.oth (fun a h1 h2 => ⟨fun j => hw2.1 j a (by omega), hw2.2 a (by omega), rfl, rfl⟩)
  refine Z_icmpeq fx dL_law_937 (tgt := 1040) rfl (fun _ => ?_) (fun hh => absurd rfl hh)
  exact next _ _ _ _ _ hR2 hZ2 (hG.put.mono (by omega))
theorem c_law_20 (fx : p_FZ g p s m b0 meth c) (hX : va_X b0 N xs s s.heap) (hbl : b0 < s.heap.size) (hN : N ≤ 3072) (hM : WM L m1) (hm : x + 7208 ≤ m1) (hj : 6 * j + 6 ≤ N) (hR : RC L FI AI AL AR x Z) (hZ : RZ FI AI m1 Z) (hG : ZG (40500 * j) Z) (next : ∀ (Z2 : ZW) (F A : Nat → Nat → Int32) (B : Nat → Nat → Int64) (R : Nat → Nat → Option Nat), RC L F A B R x Z2 → RZ F A m1 Z2 → ZG (40500 * (j + 1)) Z2 → Zj p e s m b0 below meth c g iL_law 1040 [some (vr b0), some (vr x), some (vr m1), some (vi (Int32.ofNat (6 * j)))] [] (L, F, A, B, R) (0, 0)) : Zj p e s m b0 below meth c g iL_law 942 [some (vr b0), some (vr x), some (vr m1), some (vi (Int32.ofNat (6 * j)))] [] (L, FI, AI, AL, AR) (0, 0) := by
  refine Z_aloadn fx (i := 1) rfl rfl dL_law_942 ?_
  refine ZkL_101 fx (g_wipe hR) (by decide) hR.lc.kx rfl dL_law_943 (fun r1 s1 q1 => ?_)
  obtain ⟨F1, A1, B1, R1, rfl, rfl, hf1, hR1⟩ := q1
  have hZ1 := hZ.oth (fun j _ => (hf1 m1 (by omega)).1 j) (fun a h1 h2 => (hf1 a (by omega)).2.1)
  refine Z_aloadn fx (i := 2) rfl rfl dL_law_946 ?_
  refine ZkL_105 fx (s_wipe hM hZ1) (by decide) hM.k0 rfl dL_law_947 (fun r2 s2 q2 => ?_)
  obtain ⟨F2, A2, rfl, rfl, hf2, hZ2⟩ := q2
  have hw2 := hf2.w
  have hR2 := hR1.oth (fun a h1 h2 => ⟨fun j => hw2.1 j a (by omega), hw2.2 a (by omega), rfl, rfl⟩)
  refine Z_icmpeq fx dL_law_950 (tgt := 1040) rfl (fun _ => ?_) (fun hh => absurd rfl hh)
  exact next _ _ _ _ _ hR2 hZ2 (hG.wipe.mono (by omega))
theorem c_law_21 (fx : p_FZ g p s m b0 meth c) (hX : va_X b0 N xs s s.heap) (hbl : b0 < s.heap.size) (hN : N ≤ 3072) (hM : WM L m1) (hm : x + 7208 ≤ m1) (hj : 6 * j + 6 ≤ N) (hR : RC L FI AI AL AR x Z) (hZ : RZ FI AI m1 Z) (hG : ZG (40500 * j) Z) (next : ∀ (Z2 : ZW) (F A : Nat → Nat → Int32) (B : Nat → Nat → Int64) (R : Nat → Nat → Option Nat), RC L F A B R x Z2 → RZ F A m1 Z2 → ZG (40500 * (j + 1)) Z2 → Zj p e s m b0 below meth c g iL_law 1040 [some (vr b0), some (vr x), some (vr m1), some (vi (Int32.ofNat (6 * j)))] [] (L, F, A, B, R) (0, 0)) : Zj p e s m b0 below meth c g iL_law 955 [some (vr b0), some (vr x), some (vr m1), some (vi (Int32.ofNat (6 * j)))] [] (L, FI, AI, AL, AR) (0, 0) := by
  refine Z_aloadn fx (i := 1) rfl rfl dL_law_955 ?_
  refine ZkL_106 fx (g_fault hR hG.2.2.1) (by decide) hR.lc.kx rfl dL_law_956 (fun r1 s1 q1 => ?_)
  obtain ⟨F1, A1, B1, R1, rfl, rfl, hf1, hR1⟩ := q1
  have hZ1 := hZ.oth (fun j _ => (hf1 m1 (by omega)).1 j) (fun a h1 h2 => (hf1 a (by omega)).2.1)
  refine Z_aloadn fx (i := 2) rfl rfl dL_law_959 ?_
  refine ZkL_109 fx (s_fault8 hM hZ1.tc) (by decide) hM.k0 rfl dL_law_960 (fun r2 s2 q2 => ?_)
  obtain ⟨F2, A2, rfl, rfl, e1, e2, e3, _⟩ := q2
  have hZ2 := hZ1.oth (F2 := F2) (A2 := A2) (fun j hj => e2 j (by omega) (by omega) (by omega)) (fun a h1 h2 => e3 a (by omega) (by omega))
  have hR2 := hR1.oth (F2 := F2) (A2 := A2) (L2 := B1) (R2 := R1) (fun a h1 h2 => ⟨fun j => e1 j a (by omega), e3 a (by omega) (by omega), rfl, rfl⟩)
  refine Z_icmpeq fx dL_law_963 (tgt := 1040) rfl (fun _ => ?_) (fun hh => absurd rfl hh)
  exact next _ _ _ _ _ hR2 hZ2 (hG.mono (by omega))
theorem c_law_22 (fx : p_FZ g p s m b0 meth c) (hX : va_X b0 N xs s s.heap) (hbl : b0 < s.heap.size) (hN : N ≤ 3072) (hM : WM L m1) (hm : x + 7208 ≤ m1) (hj : 6 * j + 6 ≤ N) (hR : RC L FI AI AL AR x Z) (hZ : RZ FI AI m1 Z) (hG : ZG (40500 * j) Z) (next : ∀ (Z2 : ZW) (F A : Nat → Nat → Int32) (B : Nat → Nat → Int64) (R : Nat → Nat → Option Nat), RC L F A B R x Z2 → RZ F A m1 Z2 → ZG (40500 * (j + 1)) Z2 → Zj p e s m b0 below meth c g iL_law 1040 [some (vr b0), some (vr x), some (vr m1), some (vi (Int32.ofNat (6 * j)))] [] (L, F, A, B, R) (0, 0)) : Zj p e s m b0 below meth c g iL_law 968 [some (vr b0), some (vr x), some (vr m1), some (vi (Int32.ofNat (6 * j)))] [] (L, FI, AI, AL, AR) (0, 0) := by
  refine Z_aloadn fx (i := 1) rfl rfl dL_law_968 ?_
  refine ZkL_110 fx (g_carryOut hR hG (by omega)) (by decide) hR.lc.kx rfl dL_law_969 (fun r1 s1 q1 => ?_)
  obtain ⟨F1, A1, B1, R1, rfl, rfl, hf1, hR1⟩ := q1
  have hZ1 := hZ.oth (fun j _ => (hf1 m1 (by omega)).1 j) (fun a h1 h2 => (hf1 a (by omega)).2.1)
  refine Z_aloadn fx (i := 2) rfl rfl dL_law_972 ?_
  refine ZkL_113 fx (s_carryOut8 hM hZ1 hG.1.1 (by omega)) (by decide) hM.k0 rfl dL_law_973 (fun r2 s2 q2 => ?_)
  obtain ⟨F2, A2, rfl, rfl, hf2, hZ2⟩ := q2
  have hw2 := hf2
  have hR2 := hR1.oth (fun a h1 h2 => ⟨fun j => hw2.1 j a (by omega), hw2.2 a (by omega), rfl, rfl⟩)
  refine Z_icmpeq fx dL_law_976 (tgt := 1040) rfl (fun _ => ?_) (fun hh => absurd rfl hh)
  exact next _ _ _ _ _ hR2 hZ2 ((hG.carry (by omega)).mono (by omega))
theorem c_law_23 (fx : p_FZ g p s m b0 meth c) (hX : va_X b0 N xs s s.heap) (hbl : b0 < s.heap.size) (hN : N ≤ 3072) (hM : WM L m1) (hm : x + 7208 ≤ m1) (hj : 6 * j + 6 ≤ N) (hR : RC L FI AI AL AR x Z) (hZ : RZ FI AI m1 Z) (hG : ZG (40500 * j) Z) (next : ∀ (Z2 : ZW) (F A : Nat → Nat → Int32) (B : Nat → Nat → Int64) (R : Nat → Nat → Option Nat), RC L F A B R x Z2 → RZ F A m1 Z2 → ZG (40500 * (j + 1)) Z2 → Zj p e s m b0 below meth c g iL_law 1040 [some (vr b0), some (vr x), some (vr m1), some (vi (Int32.ofNat (6 * j)))] [] (L, F, A, B, R) (0, 0)) : Zj p e s m b0 below meth c g iL_law 981 [some (vr b0), some (vr x), some (vr m1), some (vi (Int32.ofNat (6 * j)))] [] (L, FI, AI, AL, AR) (0, 0) := by
  refine Z_aloadn fx (i := 1) rfl rfl dL_law_981 ?_
  refine ZkL_114 fx (g_undo hR hG.1) (by decide) hR.lc.kx rfl dL_law_982 (fun r1 s1 q1 => ?_)
  obtain ⟨F1, A1, B1, R1, rfl, rfl, hf1, hR1⟩ := q1
  have hZ1 := hZ.oth (fun j _ => (hf1 m1 (by omega)).1 j) (fun a h1 h2 => (hf1 a (by omega)).2.1)
  refine Z_aloadn fx (i := 2) rfl rfl dL_law_985 ?_
  refine ZkL_117 fx (s_undo hM hZ1) (by decide) hM.k0 rfl dL_law_986 (fun r2 s2 q2 => ?_)
  obtain ⟨F2, A2, rfl, rfl, hf2, hZ2⟩ := q2
  have hw2 := hf2.w
  have hR2 := hR1.oth (fun a h1 h2 => ⟨fun j => hw2.1 j a (by omega), hw2.2 a (by omega), rfl, rfl⟩)
  refine Z_icmpeq fx dL_law_989 (tgt := 1040) rfl (fun _ => ?_) (fun hh => absurd rfl hh)
  exact next _ _ _ _ _ hR2 hZ2 (hG.undo.mono (by omega))
theorem c_law_24 (fx : p_FZ g p s m b0 meth c) (hX : va_X b0 N xs s s.heap) (hbl : b0 < s.heap.size) (hN : N ≤ 3072) (hM : WM L m1) (hm : x + 7208 ≤ m1) (hj : 6 * j + 6 ≤ N) (hR : RC L FI AI AL AR x Z) (hZ : RZ FI AI m1 Z) (hG : ZG (40500 * j) Z) (next : ∀ (Z2 : ZW) (F A : Nat → Nat → Int32) (B : Nat → Nat → Int64) (R : Nat → Nat → Option Nat), RC L F A B R x Z2 → RZ F A m1 Z2 → ZG (40500 * (j + 1)) Z2 → Zj p e s m b0 below meth c g iL_law 1040 [some (vr b0), some (vr x), some (vr m1), some (vi (Int32.ofNat (6 * j)))] [] (L, F, A, B, R) (0, 0)) : Zj p e s m b0 below meth c g iL_law 994 [some (vr b0), some (vr x), some (vr m1), some (vi (Int32.ofNat (6 * j)))] [] (L, FI, AI, AL, AR) (0, 0) := by
  refine Z_aloadn fx (i := 1) rfl rfl dL_law_994 ?_
  refine Z_aloadn fx (i := 0) rfl rfl dL_law_995 ?_
  refine Z_iloadn fx (i := 3) rfl rfl dL_law_996 ?_
  refine Z_iconst fx (v := 1) rfl dL_law_997 ?_
  refine Z_iadd fx dL_law_998 ?_
  refine Z_sld fx hX hbl (j := 6 * j + 1) (n_add (6 * j) 1) (by omega) (by omega) rfl dL_law_999 ?_
  refine ZkL_118 fx (g_save hR hG.1) (by decide) hR.lc.kx rfl dL_law_1000 (fun r1 s1 q1 => ?_)
  obtain ⟨F1, A1, B1, R1, rfl, rfl, hf1, hR1⟩ := q1
  have hZ1 := hZ.oth (fun j _ => (hf1 m1 (by omega)).1 j) (fun a h1 h2 => (hf1 a (by omega)).2.1)
  refine Z_aloadn fx (i := 2) rfl rfl dL_law_1003 ?_
  refine Z_aloadn fx (i := 0) rfl rfl dL_law_1004 ?_
  refine Z_iloadn fx (i := 3) rfl rfl dL_law_1005 ?_
  refine Z_iconst fx (v := 1) rfl dL_law_1006 ?_
  refine Z_iadd fx dL_law_1007 ?_
  refine Z_sld fx hX hbl (j := 6 * j + 1) (n_add (6 * j) 1) (by omega) (by omega) rfl dL_law_1008 ?_
  refine ZkL_121 fx (s_save hM hZ1) (by decide) hM.k0 rfl dL_law_1009 (fun r2 s2 q2 => ?_)
  obtain ⟨F2, A2, rfl, rfl, hf2, hZ2⟩ := q2
  have hw2 := hf2.w
  have hR2 := hR1.oth (fun a h1 h2 => ⟨fun j => hw2.1 j a (by omega), hw2.2 a (by omega), rfl, rfl⟩)
  refine Z_icmpeq fx dL_law_1012 (tgt := 1040) rfl (fun _ => ?_) (fun hh => absurd rfl hh)
  exact next _ _ _ _ _ hR2 hZ2 (hG.save.mono (by omega))
theorem c_law_25 (fx : p_FZ g p s m b0 meth c) (hX : va_X b0 N xs s s.heap) (hbl : b0 < s.heap.size) (hN : N ≤ 3072) (hM : WM L m1) (hm : x + 7208 ≤ m1) (hj : 6 * j + 6 ≤ N) (hR : RC L FI AI AL AR x Z) (hZ : RZ FI AI m1 Z) (hG : ZG (40500 * j) Z) (next : ∀ (Z2 : ZW) (F A : Nat → Nat → Int32) (B : Nat → Nat → Int64) (R : Nat → Nat → Option Nat), RC L F A B R x Z2 → RZ F A m1 Z2 → ZG (40500 * (j + 1)) Z2 → Zj p e s m b0 below meth c g iL_law 1040 [some (vr b0), some (vr x), some (vr m1), some (vi (Int32.ofNat (6 * j)))] [] (L, F, A, B, R) (0, 0)) : Zj p e s m b0 below meth c g iL_law 1017 [some (vr b0), some (vr x), some (vr m1), some (vi (Int32.ofNat (6 * j)))] [] (L, FI, AI, AL, AR) (0, 0) := by
  refine Z_aloadn fx (i := 1) rfl rfl dL_law_1017 ?_
  refine Z_aloadn fx (i := 0) rfl rfl dL_law_1018 ?_
  refine Z_iloadn fx (i := 3) rfl rfl dL_law_1019 ?_
  refine Z_iconst fx (v := 1) rfl dL_law_1020 ?_
  refine Z_iadd fx dL_law_1021 ?_
  refine Z_sld fx hX hbl (j := 6 * j + 1) (n_add (6 * j) 1) (by omega) (by omega) rfl dL_law_1022 ?_
  refine ZkL_122 fx (g_restore hR hG.1) (by decide) hR.lc.kx rfl dL_law_1023 (fun r1 s1 q1 => ?_)
  obtain ⟨F1, A1, B1, R1, rfl, rfl, hf1, hR1⟩ := q1
  have hZ1 := hZ.oth (fun j _ => (hf1 m1 (by omega)).1 j) (fun a h1 h2 => (hf1 a (by omega)).2.1)
  refine Z_aloadn fx (i := 2) rfl rfl dL_law_1026 ?_
  refine Z_aloadn fx (i := 0) rfl rfl dL_law_1027 ?_
  refine Z_iloadn fx (i := 3) rfl rfl dL_law_1028 ?_
  refine Z_iconst fx (v := 1) rfl dL_law_1029 ?_
  refine Z_iadd fx dL_law_1030 ?_
  refine Z_sld fx hX hbl (j := 6 * j + 1) (n_add (6 * j) 1) (by omega) (by omega) rfl dL_law_1031 ?_
  refine ZkL_125 fx (s_restore hM hZ1) (by decide) hM.k0 rfl dL_law_1032 (fun r2 s2 q2 => ?_)
  obtain ⟨F2, A2, rfl, rfl, hf2, hZ2⟩ := q2
  have hw2 := hf2.w
  have hR2 := hR1.oth (fun a h1 h2 => ⟨fun j => hw2.1 j a (by omega), hw2.2 a (by omega), rfl, rfl⟩)
  refine Z_icmpeq fx dL_law_1035 (tgt := 1040) rfl (fun _ => ?_) (fun hh => absurd rfl hh)
  exact next _ _ _ _ _ hR2 hZ2 (hG.restore.mono (by omega))
theorem c_law (fx : p_FZ g p s m b0 meth c) (hX : va_X b0 N xs s s.heap) (hbl : b0 < s.heap.size) (hN : N ≤ 3072) (hM : WM L m1) (hm : x + 7208 ≤ m1) : ∀ (n j : Nat) (Z : ZW) (F A : Nat → Nat → Int32) (B : Nat → Nat → Int64) (R : Nat → Nat → Option Nat), N < 6 * j + 6 * n → 6 * j ≤ N + 6 → RC L F A B R x Z → RZ F A m1 Z → ZG (40500 * j) Z → Zj p e s m b0 below meth c g iL_law 18 [some (vr b0), some (vr x), some (vr m1), some (vi (Int32.ofNat (6 * j)))] [] (L, F, A, B, R) (0, 0) := by
  intro n
  induction n with
  | zero =>
    intro j Z F A B R hn hj hR hZ hG
    refine Z_iloadn fx (i := 3) rfl rfl dL_law_18 ?_
    refine Z_aloadn fx (i := 0) rfl rfl dL_law_19 ?_
    refine Z_slen fx hX hbl dL_law_20 ?_
    refine Z_bipush fx (v := 6) rfl dL_law_21 ?_
    refine Z_isub fx dL_law_23 ?_
    refine Z_icmpgt fx dL_law_24 (tgt := 1046) rfl (fun _ => ?_) (fun hh => absurd (Int32.lt_iff_toInt_lt.mpr (by rw [i_sub' (by rw [n_int (by omega), show (6 : Int32).toInt = 6 from rfl]; omega) (by rw [n_int (by omega), show (6 : Int32).toInt = 6 from rfl]; omega), n_int (by omega), n_int (by omega), show (6 : Int32).toInt = 6 from rfl]; omega)) hh)
    refine Z_iconst fx (v := 1) rfl dL_law_1046 ?_
    exact Z_end fx dL_law_1047
  | succ n ih =>
    intro j Z F A B R hn hj hR hZ hG
    refine Z_iloadn fx (i := 3) rfl rfl dL_law_18 ?_
    refine Z_aloadn fx (i := 0) rfl rfl dL_law_19 ?_
    refine Z_slen fx hX hbl dL_law_20 ?_
    refine Z_bipush fx (v := 6) rfl dL_law_21 ?_
    refine Z_isub fx dL_law_23 ?_
    refine Z_icmpgt fx dL_law_24 (tgt := 1046) rfl (fun _ => ?_) (fun h24 => ?_)
    · refine Z_iconst fx (v := 1) rfl dL_law_1046 ?_
      exact Z_end fx dL_law_1047
    · have hj6 : 6 * j + 6 ≤ N := Decidable.byContradiction fun hc => h24 (Int32.lt_iff_toInt_lt.mpr (by rw [i_sub' (by rw [n_int (by omega), show (6 : Int32).toInt = 6 from rfl]; omega) (by rw [n_int (by omega), show (6 : Int32).toInt = 6 from rfl]; omega), n_int (by omega), n_int (by omega), show (6 : Int32).toInt = 6 from rfl]; omega))
      have next : ∀ (Z2 : ZW) (F A : Nat → Nat → Int32) (B : Nat → Nat → Int64) (R : Nat → Nat → Option Nat), RC L F A B R x Z2 → RZ F A m1 Z2 → ZG (40500 * (j + 1)) Z2 → Zj p e s m b0 below meth c g iL_law 1040 [some (vr b0), some (vr x), some (vr m1), some (vi (Int32.ofNat (6 * j)))] [] (L, F, A, B, R) (0, 0) := by
        intro Z2 F A B R hR hZ hG
        refine Z_in3 fx (n := 6) (v := Int32.ofNat (6 * (j + 1))) (by rw [show Int32.ofInt 6 = Int32.ofNat 6 from rfl, n_add, Nat.mul_add]) dL_law_1040 rfl ?_
        refine Z_goto fx dL_law_1043 (tgt := 18) rfl ?_
        exact ih (j + 1) Z2 F A B R (by omega) (by omega) hR hZ hG
      refine Z_aloadn fx (i := 0) rfl rfl dL_law_27 ?_
      refine Z_iloadn fx (i := 3) rfl rfl dL_law_28 ?_
      refine Z_sld fx hX hbl (j := 6 * j) rfl (by omega) (by omega) rfl dL_law_29 ?_
      refine Z_bipush fx (v := 31) rfl dL_law_30 ?_
      refine Z_iand fx dL_law_32 ?_
      generalize xs (6 * j) &&& 31 = v
      by_cases e0 : v = 0
      · exact Z_tabIn fx (off := 119) (tgt := 152) dL_law_33 (by rw [e0]; decide) (by rw [e0]; decide) (by rw [e0]; rfl) rfl (c_law_0 fx hX hbl hN hM hm (by omega) hR hZ hG next)
      by_cases e1 : v = 1
      · exact Z_tabIn fx (off := 172) (tgt := 205) dL_law_33 (by rw [e1]; decide) (by rw [e1]; decide) (by rw [e1]; rfl) rfl (c_law_1 fx hX hbl hN hM hm (by omega) hR hZ hG next)
      by_cases e2 : v = 2
      · exact Z_tabIn fx (off := 235) (tgt := 268) dL_law_33 (by rw [e2]; decide) (by rw [e2]; decide) (by rw [e2]; rfl) rfl (c_law_2 fx hX hbl hN hM hm (by omega) hR hZ hG next)
      by_cases e3 : v = 3
      · exact Z_tabIn fx (off := 278) (tgt := 311) dL_law_33 (by rw [e3]; decide) (by rw [e3]; decide) (by rw [e3]; rfl) rfl (c_law_3 fx hX hbl hN hM hm (by omega) hR hZ hG next)
      by_cases e4 : v = 4
      · exact Z_tabIn fx (off := 321) (tgt := 354) dL_law_33 (by rw [e4]; decide) (by rw [e4]; decide) (by rw [e4]; rfl) rfl (c_law_4 fx hX hbl hN hM hm (by omega) hR hZ hG next)
      by_cases e5 : v = 5
      · exact Z_tabIn fx (off := 384) (tgt := 417) dL_law_33 (by rw [e5]; decide) (by rw [e5]; decide) (by rw [e5]; rfl) rfl (c_law_5 fx hX hbl hN hM hm (by omega) hR hZ hG next)
      by_cases e6 : v = 6
      · exact Z_tabIn fx (off := 407) (tgt := 440) dL_law_33 (by rw [e6]; decide) (by rw [e6]; decide) (by rw [e6]; rfl) rfl (c_law_6 fx hX hbl hN hM hm (by omega) hR hZ hG next)
      by_cases e7 : v = 7
      · exact Z_tabIn fx (off := 470) (tgt := 503) dL_law_33 (by rw [e7]; decide) (by rw [e7]; decide) (by rw [e7]; rfl) rfl (c_law_7 fx hX hbl hN hM hm (by omega) hR hZ hG next)
      by_cases e8 : v = 8
      · exact Z_tabIn fx (off := 493) (tgt := 526) dL_law_33 (by rw [e8]; decide) (by rw [e8]; decide) (by rw [e8]; rfl) rfl (c_law_8 fx hX hbl hN hM hm (by omega) hR hZ hG next)
      by_cases e9 : v = 9
      · exact Z_tabIn fx (off := 526) (tgt := 559) dL_law_33 (by rw [e9]; decide) (by rw [e9]; decide) (by rw [e9]; rfl) rfl (c_law_9 fx hX hbl hN hM hm (by omega) hR hZ hG next)
      by_cases e10 : v = 10
      · exact Z_tabIn fx (off := 559) (tgt := 592) dL_law_33 (by rw [e10]; decide) (by rw [e10]; decide) (by rw [e10]; rfl) rfl (c_law_10 fx hX hbl hN hM hm (by omega) hR hZ hG next)
      by_cases e11 : v = 11
      · exact Z_tabIn fx (off := 592) (tgt := 625) dL_law_33 (by rw [e11]; decide) (by rw [e11]; decide) (by rw [e11]; rfl) rfl (c_law_11 fx hX hbl hN hM hm (by omega) hR hZ hG next)
      by_cases e12 : v = 12
      · exact Z_tabIn fx (off := 625) (tgt := 658) dL_law_33 (by rw [e12]; decide) (by rw [e12]; decide) (by rw [e12]; rfl) rfl (c_law_12 fx hX hbl hN hM hm (by omega) hR hZ hG next)
      by_cases e13 : v = 13
      · exact Z_tabIn fx (off := 648) (tgt := 681) dL_law_33 (by rw [e13]; decide) (by rw [e13]; decide) (by rw [e13]; rfl) rfl (c_law_13 fx hX hbl hN hM hm (by omega) hR hZ hG next)
      by_cases e14 : v = 14
      · exact Z_tabIn fx (off := 681) (tgt := 714) dL_law_33 (by rw [e14]; decide) (by rw [e14]; decide) (by rw [e14]; rfl) rfl (c_law_14 fx hX hbl hN hM hm (by omega) hR hZ hG next)
      by_cases e15 : v = 15
      · exact Z_tabIn fx (off := 724) (tgt := 757) dL_law_33 (by rw [e15]; decide) (by rw [e15]; decide) (by rw [e15]; rfl) rfl (c_law_15 fx hX hbl hN hM hm (by omega) hR hZ hG next)
      by_cases e16 : v = 16
      · exact Z_tabIn fx (off := 767) (tgt := 800) dL_law_33 (by rw [e16]; decide) (by rw [e16]; decide) (by rw [e16]; rfl) rfl (c_law_16 fx hX hbl hN hM hm (by omega) hR hZ hG next)
      by_cases e17 : v = 17
      · exact Z_tabIn fx (off := 800) (tgt := 833) dL_law_33 (by rw [e17]; decide) (by rw [e17]; decide) (by rw [e17]; rfl) rfl (c_law_17 fx hX hbl hN hM hm (by omega) hR hZ hG next)
      by_cases e18 : v = 18
      · exact Z_tabIn fx (off := 823) (tgt := 856) dL_law_33 (by rw [e18]; decide) (by rw [e18]; decide) (by rw [e18]; rfl) rfl (c_law_18 fx hX hbl hN hM hm (by omega) hR hZ hG next)
      by_cases e19 : v = 19
      · exact Z_tabIn fx (off := 856) (tgt := 889) dL_law_33 (by rw [e19]; decide) (by rw [e19]; decide) (by rw [e19]; rfl) rfl (c_law_19 fx hX hbl hN hM hm (by omega) hR hZ hG next)
      by_cases e20 : v = 20
      · exact Z_tabIn fx (off := 909) (tgt := 942) dL_law_33 (by rw [e20]; decide) (by rw [e20]; decide) (by rw [e20]; rfl) rfl (c_law_20 fx hX hbl hN hM hm (by omega) hR hZ hG next)
      by_cases e21 : v = 21
      · exact Z_tabIn fx (off := 922) (tgt := 955) dL_law_33 (by rw [e21]; decide) (by rw [e21]; decide) (by rw [e21]; rfl) rfl (c_law_21 fx hX hbl hN hM hm (by omega) hR hZ hG next)
      by_cases e22 : v = 22
      · exact Z_tabIn fx (off := 935) (tgt := 968) dL_law_33 (by rw [e22]; decide) (by rw [e22]; decide) (by rw [e22]; rfl) rfl (c_law_22 fx hX hbl hN hM hm (by omega) hR hZ hG next)
      by_cases e23 : v = 23
      · exact Z_tabIn fx (off := 948) (tgt := 981) dL_law_33 (by rw [e23]; decide) (by rw [e23]; decide) (by rw [e23]; rfl) rfl (c_law_23 fx hX hbl hN hM hm (by omega) hR hZ hG next)
      by_cases e24 : v = 24
      · exact Z_tabIn fx (off := 961) (tgt := 994) dL_law_33 (by rw [e24]; decide) (by rw [e24]; decide) (by rw [e24]; rfl) rfl (c_law_24 fx hX hbl hN hM hm (by omega) hR hZ hG next)
      by_cases e25 : v = 25
      · exact Z_tabIn fx (off := 984) (tgt := 1017) dL_law_33 (by rw [e25]; decide) (by rw [e25]; decide) (by rw [e25]; rfl) rfl (c_law_25 fx hX hbl hN hM hm (by omega) hR hZ hG next)
      refine Z_tabOut fx (tgt := 1040) dL_law_33 (by
        have hne : ∀ k : Nat, k < 2147483648 → ¬ v = Int32.ofNat k → ¬ v.toInt = (k : Int) := fun k hk h1 h2 => h1 (i_eq.mpr (by rw [n_int hk]; exact h2))
        have f0 := hne 0 (by decide) e0
        have f1 := hne 1 (by decide) e1
        have f2 := hne 2 (by decide) e2
        have f3 := hne 3 (by decide) e3
        have f4 := hne 4 (by decide) e4
        have f5 := hne 5 (by decide) e5
        have f6 := hne 6 (by decide) e6
        have f7 := hne 7 (by decide) e7
        have f8 := hne 8 (by decide) e8
        have f9 := hne 9 (by decide) e9
        have f10 := hne 10 (by decide) e10
        have f11 := hne 11 (by decide) e11
        have f12 := hne 12 (by decide) e12
        have f13 := hne 13 (by decide) e13
        have f14 := hne 14 (by decide) e14
        have f15 := hne 15 (by decide) e15
        have f16 := hne 16 (by decide) e16
        have f17 := hne 17 (by decide) e17
        have f18 := hne 18 (by decide) e18
        have f19 := hne 19 (by decide) e19
        have f20 := hne 20 (by decide) e20
        have f21 := hne 21 (by decide) e21
        have f22 := hne 22 (by decide) e22
        have f23 := hne 23 (by decide) e23
        have f24 := hne 24 (by decide) e24
        have f25 := hne 25 (by decide) e25
        omega) rfl ?_
      exact next Z F A B R hR hZ (hG.mono (by omega))
end Law2
