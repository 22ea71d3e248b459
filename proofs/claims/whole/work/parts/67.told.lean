/-! The law: what is told. -/
section ZJ
variable {L : Nat} {xs : Nat → Int32} {Q : am_A → am_H → Prop} {dy : List (Nat × Nat)} {σ : Nat → Nat → Int32} {ρ : Nat → Nat → Option Nat} {τ : Nat → Nat → Int64} {A : TD} {W : RS} {F E : Nat → Nat} {i : Nat} {l5 l6 : Option Value}
theorem vok_s {x z w : Int32} (h : vok x z w) : 1 ≤ z.toInt.toNat ∧ z.toInt.toNat ≤ 4 ∧ w.toInt.toNat < z.toInt.toNat := by
  obtain ⟨-, h2, h3⟩ := h
  omega
theorem L_0 (hdy : dy.length < 80000) (hi : i + 4 ≤ L) (hL : L ≤ 2048) (hJ : JJ A W F E dy σ ρ τ) (kk : LK L xs i dy Q) : go (tb_P L xs) 151 128 [some (.ref am_scr), some (.ref 0), some (.ref 24), some (.ref 46), some (.int (nn i)), l5, l6] [] (mk dy σ ρ τ) Q := by
  obtain ⟨⟨ok, wo, hin⟩, hS, hR, hW⟩ := hJ
  have hdy2 : dy.length < 100000 := by omega
  refine g_aload_n k151_128 rfl ?_
  refine g_aload_n k151_129 rfl ?_
  refine g_iload k151_130 rfl ?_
  refine g_iconst (v := nn 1) k151_132 ci_1 ?_
  refine g_iaddN k151_133 ?_
  refine m_sald k151_134 (by omega) (by omega) ?_
  refine g_aload_n k151_135 rfl ?_
  refine g_iload k151_136 rfl ?_
  refine g_iconst (v := nn 2) k151_138 ci_2 ?_
  refine g_iaddN k151_139 ?_
  refine m_sald k151_140 (by omega) (by omega) ?_
  refine g_aload_n k151_141 rfl ?_
  refine g_iload k151_142 rfl ?_
  refine g_iconst (v := nn 3) k151_144 ci_3 ?_
  refine g_iaddN k151_145 ?_
  refine m_sald k151_146 (by omega) (by omega) ?_
  refine g_callS4 k151_147 s151_147 c151_147 l38 (by omega) ⟨rfl, rfl, rfl, rfl⟩ rfl r151_147 ?_
  refine g_aload_n k38_0 rfl ?_
  refine g_iload_n k38_1 rfl ?_
  refine g_iload_n k38_2 rfl ?_
  refine g_iload_n k38_3 rfl ?_
  refine m_callV3 k38_4 s38_4 c38_4 l39 (by omega) ⟨rfl, rfl, rfl⟩ rfl r38_4 rfl ?_
  refine s_39 hdy2 ok hS (fun hc ho => ?_) (fun hc σ1 ho => ?_)
  · skip
    refine af_cat h38x v38_9 ⟨(show 4 < 5 by omega), rfl⟩ ?_
    refine g_iconst (v := nn 1) k38_12 ci_1 ?_
    refine g_ireturn k38_13 t38 ?_
    refine af_ret ?_
    have hg : gr dy (dy ++ [(14, 0)]) := gr_1
    have hdl : List.length (dy ++ [(14, 0)]) < 100000 := by have := hg.1; omega
    have hR1 : RepM A σ := hR.fx ho.2.1
    have hW1 : RunM W σ := hW.fx ho.2.1
    refine g_istore k151_150 rfl rfl ?_
    refine g_aload_n k151_152 rfl ?_
    refine g_aload_n k151_153 rfl ?_
    refine g_iload k151_154 rfl ?_
    refine g_iconst (v := nn 1) k151_156 ci_1 ?_
    refine g_iaddN k151_157 ?_
    refine m_sald k151_158 (by omega) (by omega) ?_
    refine g_aload_n k151_159 rfl ?_
    refine g_iload k151_160 rfl ?_
    refine g_iconst (v := nn 2) k151_162 ci_2 ?_
    refine g_iaddN k151_163 ?_
    refine m_sald k151_164 (by omega) (by omega) ?_
    refine g_aload_n k151_165 rfl ?_
    refine g_iload k151_166 rfl ?_
    refine g_iconst (v := nn 3) k151_168 ci_3 ?_
    refine g_iaddN k151_169 ?_
    refine m_sald k151_170 (by omega) (by omega) ?_
    refine m_callV3 k151_171 s151_171 c151_171 l113 (by omega) ⟨rfl, rfl, rfl⟩ rfl r151_171 rfl ?_
    refine s_113 hdl hR1 hW1 (fun _ σ2 hm => ?_) (fun h => absurd h hc)
    refine af_void ?_
    refine g_aload_n k151_174 rfl ?_
    refine m_callV0 k151_175 s151_175 c151_175 l105 (by omega) trivial rfl r151_175 rfl ?_
    refine s_105 ?_
    refine af_ret ?_
    rw [hm.2.2.2]
    refine g_iload k151_178 rfl ?_
    refine g_iceq_t k151_180 (t := 185) rfl rfl ?_
    refine g_goto k151_185 (t := 1052) rfl ?_
    exact kk _ _ _ _ _ _ _ _ _ _ (JJ.fin ok wo hin ho.1 hm) hg
  · skip
    refine af_void ?_
    have hg : gr dy dy := gr.rf
    have hdl : List.length dy < 100000 := by have := hg.1; omega
    have hR1 : RepM A σ1 := hR.fx ho.2.1
    have hW1 : RunM W σ1 := hW.fx ho.2.1
    refine g_goto k38_7 (t := 14) rfl ?_
    refine g_iconst (v := nn 0) k38_14 ci_0 ?_
    refine g_ireturn k38_15 t38 ?_
    refine af_ret ?_
    refine g_istore k151_150 rfl rfl ?_
    refine g_aload_n k151_152 rfl ?_
    refine g_aload_n k151_153 rfl ?_
    refine g_iload k151_154 rfl ?_
    refine g_iconst (v := nn 1) k151_156 ci_1 ?_
    refine g_iaddN k151_157 ?_
    refine m_sald k151_158 (by omega) (by omega) ?_
    refine g_aload_n k151_159 rfl ?_
    refine g_iload k151_160 rfl ?_
    refine g_iconst (v := nn 2) k151_162 ci_2 ?_
    refine g_iaddN k151_163 ?_
    refine m_sald k151_164 (by omega) (by omega) ?_
    refine g_aload_n k151_165 rfl ?_
    refine g_iload k151_166 rfl ?_
    refine g_iconst (v := nn 3) k151_168 ci_3 ?_
    refine g_iaddN k151_169 ?_
    refine m_sald k151_170 (by omega) (by omega) ?_
    refine m_callV3 k151_171 s151_171 c151_171 l113 (by omega) ⟨rfl, rfl, rfl⟩ rfl r151_171 rfl ?_
    refine s_113 hdl hR1 hW1 (fun h => absurd hc h) (fun _ σ2 hm => ?_)
    refine af_void ?_
    refine g_aload_n k151_174 rfl ?_
    refine m_callV0 k151_175 s151_175 c151_175 l105 (by omega) trivial rfl r151_175 rfl ?_
    refine s_105 ?_
    refine af_ret ?_
    rw [hm.2.2.2]
    refine g_iload k151_178 rfl ?_
    refine g_iceq_t k151_180 (t := 185) rfl rfl ?_
    refine g_goto k151_185 (t := 1052) rfl ?_
    exact kk _ _ _ _ _ _ _ _ _ _ (JJ.fin (ok.sv (vok_s hc)) wo.off (fun q => by cases q) ho.1 hm) hg
theorem L_1 (hdy : dy.length < 80000) (hi : i + 4 ≤ L) (hL : L ≤ 2048) (hJ : JJ A W F E dy σ ρ τ) (kk : LK L xs i dy Q) : go (tb_P L xs) 151 188 [some (.ref am_scr), some (.ref 0), some (.ref 24), some (.ref 46), some (.int (nn i)), l5, l6] [] (mk dy σ ρ τ) Q := by
  obtain ⟨⟨ok, wo, hin⟩, hS, hR, hW⟩ := hJ
  have hdy2 : dy.length < 100000 := by omega
  refine g_aload_n k151_188 rfl ?_
  refine g_aload_n k151_189 rfl ?_
  refine g_iload k151_190 rfl ?_
  refine g_iconst (v := nn 1) k151_192 ci_1 ?_
  refine g_iaddN k151_193 ?_
  refine m_sald k151_194 (by omega) (by omega) ?_
  refine g_aload_n k151_195 rfl ?_
  refine g_callS3 k151_196 s151_196 c151_196 l41 (by omega) ⟨rfl, rfl, rfl⟩ rfl r151_196 ?_
  refine g_aload_n k41_0 rfl ?_
  refine g_iconst (v := nn 0) k41_1 ci_0 ?_
  refine g_aload_n k41_2 rfl ?_
  refine g_iload_n k41_3 rfl ?_
  refine m_callV1 k41_4 s41_4 c41_4 l42 (by omega) rfl rfl r41_4 rfl ?_
  refine s_42 hdy2 ok wo hS (fun hc ho => ?_) (fun hc hf ho => ?_) (fun hc hf σ1 ho => ?_)
  · skip
    refine af_cat h41x v41_9 ⟨(show 3 < 4 by omega), rfl⟩ ?_
    refine g_iconst (v := nn 1) k41_13 ci_1 ?_
    refine g_ireturn k41_14 t41 ?_
    refine af_ret ?_
    have hg : gr dy (dy ++ [(14, 0)]) := gr_1
    have hdl : List.length (dy ++ [(14, 0)]) < 100000 := by have := hg.1; omega
    have hR1 : RepM A σ := hR.fx ho.2.1
    have hW1 : RunM W σ := hW.fx ho.2.1
    refine g_istore k151_199 rfl rfl ?_
    refine g_aload_n k151_201 rfl ?_
    refine g_aload_n k151_202 rfl ?_
    refine g_iload k151_203 rfl ?_
    refine g_iconst (v := nn 1) k151_205 ci_1 ?_
    refine g_iaddN k151_206 ?_
    refine m_sald k151_207 (by omega) (by omega) ?_
    refine m_callV1 k151_208 s151_208 c151_208 l106 (by omega) rfl rfl r151_208 rfl ?_
    refine s_106 hdl hR1 hW1 wo (fun _ σ2 hm => ?_) (fun h => absurd h hc) (fun h => absurd h hc)
    refine af_ret ?_
    refine g_istore k151_211 rfl rfl ?_
    refine g_aload_n k151_213 rfl ?_
    refine m_callV0 k151_214 s151_214 c151_214 l105 (by omega) trivial rfl r151_214 rfl ?_
    refine s_105 ?_
    refine af_ret ?_
    rw [hm.2.2.2]
    refine g_iload k151_217 rfl ?_
    refine g_iceq_t k151_219 (t := 224) rfl rfl ?_
    refine g_iload k151_224 rfl ?_
    refine g_ifne_t k151_226 (t := 241) rfl (by decide) ?_
    refine g_goto k151_241 (t := 1052) rfl ?_
    exact kk _ _ _ _ _ _ _ _ _ _ (JJ.fin ok wo hin ho.1 hm) hg
  · skip
    refine af_cat h41x v41_10 ⟨(show 3 < 4 by omega), rfl⟩ ?_
    refine g_iconst (v := nn 2) k41_16 ci_2 ?_
    refine g_ireturn k41_17 t41 ?_
    refine af_ret ?_
    have hg : gr dy (dy ++ [(15, 0)]) := gr_1
    have hdl : List.length (dy ++ [(15, 0)]) < 100000 := by have := hg.1; omega
    have hR1 : RepM A σ := hR.fx ho.2.1
    have hW1 : RunM W σ := hW.fx ho.2.1
    refine g_istore k151_199 rfl rfl ?_
    refine g_aload_n k151_201 rfl ?_
    refine g_aload_n k151_202 rfl ?_
    refine g_iload k151_203 rfl ?_
    refine g_iconst (v := nn 1) k151_205 ci_1 ?_
    refine g_iaddN k151_206 ?_
    refine m_sald k151_207 (by omega) (by omega) ?_
    refine m_callV1 k151_208 s151_208 c151_208 l106 (by omega) rfl rfl r151_208 rfl ?_
    refine s_106 hdl hR1 hW1 wo (fun h => absurd hc h) (fun _ _ σ2 hm => ?_) (fun _ h => absurd h (by omega))
    refine af_ret ?_
    refine g_istore k151_211 rfl rfl ?_
    refine g_aload_n k151_213 rfl ?_
    refine m_callV0 k151_214 s151_214 c151_214 l105 (by omega) trivial rfl r151_214 rfl ?_
    refine s_105 ?_
    refine af_ret ?_
    rw [hm.2.2.2]
    refine g_iload k151_217 rfl ?_
    refine g_iceq_t k151_219 (t := 224) rfl rfl ?_
    refine g_iload k151_224 rfl ?_
    refine g_ifne_t k151_226 (t := 241) rfl (by decide) ?_
    refine g_goto k151_241 (t := 1052) rfl ?_
    exact kk _ _ _ _ _ _ _ _ _ _ (JJ.fin ok wo hin ho.1 hm) hg
  · skip
    refine af_ret ?_
    have hg : gr dy dy := gr.rf
    have hdl : List.length dy < 100000 := by have := hg.1; omega
    have hR1 : RepM A σ1 := hR.fx ho.2.1
    have hW1 : RunM W σ1 := hW.fx ho.2.1
    refine g_i2l k41_7 ?_
    refine m_last k41_8 rfl rfl (by omega) (by omega) ?_
    refine g_goto k41_9 (t := 18) rfl ?_
    refine g_iconst (v := nn 0) k41_18 ci_0 ?_
    refine g_ireturn k41_19 t41 ?_
    refine af_ret ?_
    refine g_istore k151_199 rfl rfl ?_
    refine g_aload_n k151_201 rfl ?_
    refine g_aload_n k151_202 rfl ?_
    refine g_iload k151_203 rfl ?_
    refine g_iconst (v := nn 1) k151_205 ci_1 ?_
    refine g_iaddN k151_206 ?_
    refine m_sald k151_207 (by omega) (by omega) ?_
    refine m_callV1 k151_208 s151_208 c151_208 l106 (by omega) rfl rfl r151_208 rfl ?_
    refine s_106 hdl hR1 hW1 wo (fun h => absurd hc h) (fun _ h => absurd h (by omega)) (fun _ _ σ2 hm => ?_)
    refine af_ret ?_
    refine g_istore k151_211 rfl rfl ?_
    refine g_aload_n k151_213 rfl ?_
    refine m_callV0 k151_214 s151_214 c151_214 l105 (by omega) trivial rfl r151_214 rfl ?_
    refine s_105 ?_
    refine af_ret ?_
    rw [hm.2.2.2]
    refine g_iload k151_217 rfl ?_
    refine g_iceq_t k151_219 (t := 224) rfl rfl ?_
    refine g_iload k151_224 rfl ?_
    refine g_ifne_f k151_226 (t := 241) rfl rfl ?_
    refine g_aload_n k151_229 rfl ?_
    refine g_iconst (v := nn 0) k151_230 ci_0 ?_
    refine m_lald k151_231 rfl rfl (by omega) (by omega) ?_
    rw [up2_at]
    refine g_iload k151_232 rfl ?_
    refine g_i2l k151_234 ?_
    refine g_lcmp k151_235 ?_
    refine g_ifeq_t k151_236 (t := 241) rfl lc_s ?_
    refine g_goto k151_241 (t := 1052) rfl ?_
    exact kk _ _ _ _ _ _ _ _ _ _ (JJ.fin ok (wo.wd hf hc) hin ho.1.out hm) hg
theorem L_2 (hdy : dy.length < 80000) (hi : i + 4 ≤ L) (hL : L ≤ 2048) (hJ : JJ A W F E dy σ ρ τ) (kk : LK L xs i dy Q) : go (tb_P L xs) 151 244 [some (.ref am_scr), some (.ref 0), some (.ref 24), some (.ref 46), some (.int (nn i)), l5, l6] [] (mk dy σ ρ τ) Q := by
  obtain ⟨⟨ok, wo, hin⟩, hS, hR, hW⟩ := hJ
  have hdy2 : dy.length < 100000 := by omega
  refine g_aload_n k151_244 rfl ?_
  refine g_aload_n k151_245 rfl ?_
  refine g_callS2 k151_246 s151_246 c151_246 l46 (by omega) ⟨rfl, rfl⟩ rfl r151_246 ?_
  refine g_aload_n k46_0 rfl ?_
  refine g_iconst (v := nn 0) k46_1 ci_0 ?_
  refine g_aload_n k46_2 rfl ?_
  refine m_callV0 k46_3 s46_3 c46_3 l47 (by omega) trivial rfl r46_3 rfl ?_
  refine s_47 (by omega) ok wo hS (fun hc σ1 ho => ?_) (fun hc hf σ1 ho => ?_) (fun hc hf F1 σ1 ρ1 ho => ?_)
  · skip
    refine af_cat h46x v46_9 ⟨(show 2 < 3 by omega), rfl⟩ ?_
    refine g_iconst (v := nn 1) k46_12 ci_1 ?_
    refine g_ireturn k46_13 t46 ?_
    refine af_ret ?_
    have hg : gr dy (dy ++ [(14, 0)]) := gr_1
    have hdl : List.length (dy ++ [(14, 0)]) < 100000 := by have := hg.1; omega
    have hR1 : RepM A σ1 := hR.fx ho.2.1
    have hW1 : RunM W σ1 := hW.fx ho.2.1
    refine g_istore k151_249 rfl rfl ?_
    refine g_aload_n k151_251 rfl ?_
    refine m_callV0 k151_252 s151_252 c151_252 l108 (by omega) trivial rfl r151_252 rfl ?_
    refine s_108 hdl ok hR1 hW1 wo (fun _ σ2 hm => ?_) (fun h => by rw [hc] at h; cases h) (fun h => by rw [hc] at h; cases h)
    refine af_ret ?_
    refine g_istore k151_255 rfl rfl ?_
    refine g_aload_n k151_257 rfl ?_
    refine m_callV0 k151_258 s151_258 c151_258 l105 (by omega) trivial rfl r151_258 rfl ?_
    refine s_105 ?_
    refine af_ret ?_
    rw [hm.2.2.2]
    refine g_iload k151_261 rfl ?_
    refine g_iceq_t k151_263 (t := 268) rfl rfl ?_
    refine g_iload k151_268 rfl ?_
    refine g_ifne_t k151_270 (t := 285) rfl (by decide) ?_
    refine g_goto k151_285 (t := 1052) rfl ?_
    exact kk _ _ _ _ _ _ _ _ _ _ (JJ.fin ok wo.cl hin ho.1 hm) hg
  · skip
    refine af_cat h46x v46_10 ⟨(show 2 < 3 by omega), rfl⟩ ?_
    refine g_iconst (v := nn 2) k46_15 ci_2 ?_
    refine g_ireturn k46_16 t46 ?_
    refine af_ret ?_
    have hg : gr dy (dy ++ [(15, 0)]) := gr_1
    have hdl : List.length (dy ++ [(15, 0)]) < 100000 := by have := hg.1; omega
    have hR1 : RepM A σ1 := hR.fx ho.2.1
    have hW1 : RunM W σ1 := hW.fx ho.2.1
    refine g_istore k151_249 rfl rfl ?_
    refine g_aload_n k151_251 rfl ?_
    refine m_callV0 k151_252 s151_252 c151_252 l108 (by omega) trivial rfl r151_252 rfl ?_
    refine s_108 hdl ok hR1 hW1 wo (fun h => by rw [hc] at h; cases h) (fun _ _ σ2 hm => ?_) (fun _ h => absurd h (by omega))
    refine af_ret ?_
    refine g_istore k151_255 rfl rfl ?_
    refine g_aload_n k151_257 rfl ?_
    refine m_callV0 k151_258 s151_258 c151_258 l105 (by omega) trivial rfl r151_258 rfl ?_
    refine s_105 ?_
    refine af_ret ?_
    rw [hm.2.2.2]
    refine g_iload k151_261 rfl ?_
    refine g_iceq_t k151_263 (t := 268) rfl rfl ?_
    refine g_iload k151_268 rfl ?_
    refine g_ifne_t k151_270 (t := 285) rfl (by decide) ?_
    refine g_goto k151_285 (t := 1052) rfl ?_
    exact kk _ _ _ _ _ _ _ _ _ _ (JJ.fin ok wo hin ho.1 hm) hg
  · skip
    refine af_ret ?_
    have hg : gr dy (dy ++ dF (rs_n W)) := (gr_f wo.1.1)
    have hdl : List.length (dy ++ dF (rs_n W)) < 100000 := by have := hg.1; omega
    have hR1 : RepM A σ1 := hR.fx ho.2.1
    have hW1 : RunM W σ1 := hW.fx ho.2.1
    refine g_i2l k46_6 ?_
    refine m_last k46_7 rfl rfl (by omega) (by omega) ?_
    refine g_goto k46_8 (t := 17) rfl ?_
    refine g_iconst (v := nn 0) k46_17 ci_0 ?_
    refine g_ireturn k46_18 t46 ?_
    refine af_ret ?_
    refine g_istore k151_249 rfl rfl ?_
    refine g_aload_n k151_251 rfl ?_
    refine m_callV0 k151_252 s151_252 c151_252 l108 (by omega) trivial rfl r151_252 rfl ?_
    refine s_108 hdl ok hR1 hW1 wo (fun h => by rw [hc] at h; cases h) (fun _ h => absurd h (by omega)) (fun _ _ σ2 hm => ?_)
    refine af_ret ?_
    refine g_istore k151_255 rfl rfl ?_
    refine g_aload_n k151_257 rfl ?_
    refine m_callV0 k151_258 s151_258 c151_258 l105 (by omega) trivial rfl r151_258 rfl ?_
    refine s_105 ?_
    refine af_ret ?_
    rw [hm.2.2.2]
    refine g_iload k151_261 rfl ?_
    refine g_iceq_t k151_263 (t := 268) rfl rfl ?_
    refine g_iload k151_268 rfl ?_
    refine g_ifne_f k151_270 (t := 285) rfl rfl ?_
    refine g_aload_n k151_273 rfl ?_
    refine g_iconst (v := nn 0) k151_274 ci_0 ?_
    refine m_lald k151_275 rfl rfl (by omega) (by omega) ?_
    rw [up2_at]
    refine g_iload k151_276 rfl ?_
    refine g_i2l k151_278 ?_
    refine g_lcmp k151_279 ?_
    refine g_ifeq_t k151_280 (t := 285) rfl lc_s ?_
    refine g_goto k151_285 (t := 1052) rfl ?_
    exact kk _ _ _ _ _ _ _ _ _ _ (JJ.fin (ok.af hf ⟨(ky_kr wo.1.2 hc).1, wo.1.1⟩ wo.1.2 (ky_kr wo.1.2 hc).2) wo.cl hin ho.1.out hm) hg
theorem eok_u {A : TD} {x z w : Int32} (h : eok A x z w) : x.toInt.toNat ≤ 1 ∧ (1 ≤ z.toInt.toNat ∧ z.toInt.toNat ≤ 4) ∧ ∀ u, io w = some u → u < td_ne A ∧ x.toInt.toNat = 1 ∧ td_ma A u = 0 := by
  obtain ⟨h1, h2, h3⟩ := h
  refine ⟨by omega, by omega, fun u hu => ?_⟩
  unfold io at hu
  by_cases c : w.toInt = -1
  · rw [if_pos c] at hu
    cases hu
  · rw [if_neg c] at hu
    cases hu
    rcases h3 with q | ⟨q1, q2, q3⟩
    · exact absurd q c
    · exact ⟨by omega, by omega, q3⟩
theorem L_3 (hdy : dy.length < 80000) (hi : i + 4 ≤ L) (hL : L ≤ 2048) (hJ : JJ A W F E dy σ ρ τ) (kk : LK L xs i dy Q) : go (tb_P L xs) 151 288 [some (.ref am_scr), some (.ref 0), some (.ref 24), some (.ref 46), some (.int (nn i)), l5, l6] [] (mk dy σ ρ τ) Q := by
  obtain ⟨⟨ok, wo, hin⟩, hS, hR, hW⟩ := hJ
  have hdy2 : dy.length < 100000 := by omega
  refine g_aload_n k151_288 rfl ?_
  refine g_aload_n k151_289 rfl ?_
  refine g_iload k151_290 rfl ?_
  refine g_iconst (v := nn 1) k151_292 ci_1 ?_
  refine g_iaddN k151_293 ?_
  refine m_sald k151_294 (by omega) (by omega) ?_
  refine g_aload_n k151_295 rfl ?_
  refine g_iload k151_296 rfl ?_
  refine g_iconst (v := nn 2) k151_298 ci_2 ?_
  refine g_iaddN k151_299 ?_
  refine m_sald k151_300 (by omega) (by omega) ?_
  refine g_aload_n k151_301 rfl ?_
  refine g_iload k151_302 rfl ?_
  refine g_iconst (v := nn 3) k151_304 ci_3 ?_
  refine g_iaddN k151_305 ?_
  refine m_sald k151_306 (by omega) (by omega) ?_
  refine g_aload_n k151_307 rfl ?_
  refine g_callS5 k151_308 s151_308 c151_308 l58 (by omega) ⟨rfl, rfl, rfl, rfl, rfl⟩ rfl r151_308 ?_
  refine g_aload k58_0 rfl ?_
  refine g_iconst (v := nn 0) k58_2 ci_0 ?_
  refine g_aload_n k58_3 rfl ?_
  refine g_iload_n k58_4 rfl ?_
  refine g_iload_n k58_5 rfl ?_
  refine g_iload_n k58_6 rfl ?_
  refine m_callV3 k58_7 s58_7 c58_7 l59 (by omega) ⟨rfl, rfl, rfl⟩ rfl r58_7 rfl ?_
  refine s_59 (by omega) ok hS (fun hc ho => ?_) (fun hc hf ho => ?_) (fun hc hf E1 σ1 ρ1 ho => ?_)
  · skip
    refine af_cat h58x v58_9 ⟨(show 5 < 6 by omega), rfl⟩ ?_
    refine g_iconst (v := nn 1) k58_17 ci_1 ?_
    refine g_ireturn k58_18 t58 ?_
    refine af_ret ?_
    have hg : gr dy (dy ++ [(14, 0)]) := gr_1
    have hdl : List.length (dy ++ [(14, 0)]) < 100000 := by have := hg.1; omega
    have hR1 : RepM A σ := hR.fx ho.2.1
    have hW1 : RunM W σ := hW.fx ho.2.1
    refine g_istore k151_311 rfl rfl ?_
    refine g_aload_n k151_313 rfl ?_
    refine g_aload_n k151_314 rfl ?_
    refine g_iload k151_315 rfl ?_
    refine g_iconst (v := nn 1) k151_317 ci_1 ?_
    refine g_iaddN k151_318 ?_
    refine m_sald k151_319 (by omega) (by omega) ?_
    refine g_aload_n k151_320 rfl ?_
    refine g_iload k151_321 rfl ?_
    refine g_iconst (v := nn 2) k151_323 ci_2 ?_
    refine g_iaddN k151_324 ?_
    refine m_sald k151_325 (by omega) (by omega) ?_
    refine g_aload_n k151_326 rfl ?_
    refine g_iload k151_327 rfl ?_
    refine g_iconst (v := nn 3) k151_329 ci_3 ?_
    refine g_iaddN k151_330 ?_
    refine m_sald k151_331 (by omega) (by omega) ?_
    refine m_callV3 k151_332 s151_332 c151_332 l114 (by omega) ⟨rfl, rfl, rfl⟩ rfl r151_332 rfl ?_
    refine s_114 hdl ok hR1 hW1 (fun _ σ2 hm => ?_) (fun h => absurd h hc) (fun h => absurd h hc)
    refine af_ret ?_
    refine g_istore k151_335 rfl rfl ?_
    refine g_aload_n k151_337 rfl ?_
    refine m_callV0 k151_338 s151_338 c151_338 l105 (by omega) trivial rfl r151_338 rfl ?_
    refine s_105 ?_
    refine af_ret ?_
    rw [hm.2.2.2]
    refine g_iload k151_341 rfl ?_
    refine g_iceq_t k151_343 (t := 348) rfl rfl ?_
    refine g_iload k151_348 rfl ?_
    refine g_ifne_t k151_350 (t := 365) rfl (by decide) ?_
    refine g_goto k151_365 (t := 1052) rfl ?_
    exact kk _ _ _ _ _ _ _ _ _ _ (JJ.fin ok wo hin ho.1 hm) hg
  · skip
    refine af_cat h58x v58_10 ⟨(show 5 < 6 by omega), rfl⟩ ?_
    refine g_iconst (v := nn 2) k58_21 ci_2 ?_
    refine g_ireturn k58_22 t58 ?_
    refine af_ret ?_
    have hg : gr dy (dy ++ [(15, 0)]) := gr_1
    have hdl : List.length (dy ++ [(15, 0)]) < 100000 := by have := hg.1; omega
    have hR1 : RepM A σ := hR.fx ho.2.1
    have hW1 : RunM W σ := hW.fx ho.2.1
    refine g_istore k151_311 rfl rfl ?_
    refine g_aload_n k151_313 rfl ?_
    refine g_aload_n k151_314 rfl ?_
    refine g_iload k151_315 rfl ?_
    refine g_iconst (v := nn 1) k151_317 ci_1 ?_
    refine g_iaddN k151_318 ?_
    refine m_sald k151_319 (by omega) (by omega) ?_
    refine g_aload_n k151_320 rfl ?_
    refine g_iload k151_321 rfl ?_
    refine g_iconst (v := nn 2) k151_323 ci_2 ?_
    refine g_iaddN k151_324 ?_
    refine m_sald k151_325 (by omega) (by omega) ?_
    refine g_aload_n k151_326 rfl ?_
    refine g_iload k151_327 rfl ?_
    refine g_iconst (v := nn 3) k151_329 ci_3 ?_
    refine g_iaddN k151_330 ?_
    refine m_sald k151_331 (by omega) (by omega) ?_
    refine m_callV3 k151_332 s151_332 c151_332 l114 (by omega) ⟨rfl, rfl, rfl⟩ rfl r151_332 rfl ?_
    refine s_114 hdl ok hR1 hW1 (fun h => absurd hc h) (fun _ _ σ2 hm => ?_) (fun _ h => absurd h (by omega))
    refine af_ret ?_
    refine g_istore k151_335 rfl rfl ?_
    refine g_aload_n k151_337 rfl ?_
    refine m_callV0 k151_338 s151_338 c151_338 l105 (by omega) trivial rfl r151_338 rfl ?_
    refine s_105 ?_
    refine af_ret ?_
    rw [hm.2.2.2]
    refine g_iload k151_341 rfl ?_
    refine g_iceq_t k151_343 (t := 348) rfl rfl ?_
    refine g_iload k151_348 rfl ?_
    refine g_ifne_t k151_350 (t := 365) rfl (by decide) ?_
    refine g_goto k151_365 (t := 1052) rfl ?_
    exact kk _ _ _ _ _ _ _ _ _ _ (JJ.fin ok wo hin ho.1 hm) hg
  · skip
    refine af_ret ?_
    have hg : gr dy (dy ++ [(8, 0), (3, 6)]) := gr_e
    have hdl : List.length (dy ++ [(8, 0), (3, 6)]) < 100000 := by have := hg.1; omega
    have hR1 : RepM A σ1 := hR.fx ho.2.1
    have hW1 : RunM W σ1 := hW.fx ho.2.1
    refine g_i2l k58_10 ?_
    refine m_last k58_11 rfl rfl (by omega) (by omega) ?_
    refine g_goto k58_12 (t := 23) rfl ?_
    refine g_iconst (v := nn 0) k58_23 ci_0 ?_
    refine g_ireturn k58_24 t58 ?_
    refine af_ret ?_
    refine g_istore k151_311 rfl rfl ?_
    refine g_aload_n k151_313 rfl ?_
    refine g_aload_n k151_314 rfl ?_
    refine g_iload k151_315 rfl ?_
    refine g_iconst (v := nn 1) k151_317 ci_1 ?_
    refine g_iaddN k151_318 ?_
    refine m_sald k151_319 (by omega) (by omega) ?_
    refine g_aload_n k151_320 rfl ?_
    refine g_iload k151_321 rfl ?_
    refine g_iconst (v := nn 2) k151_323 ci_2 ?_
    refine g_iaddN k151_324 ?_
    refine m_sald k151_325 (by omega) (by omega) ?_
    refine g_aload_n k151_326 rfl ?_
    refine g_iload k151_327 rfl ?_
    refine g_iconst (v := nn 3) k151_329 ci_3 ?_
    refine g_iaddN k151_330 ?_
    refine m_sald k151_331 (by omega) (by omega) ?_
    refine m_callV3 k151_332 s151_332 c151_332 l114 (by omega) ⟨rfl, rfl, rfl⟩ rfl r151_332 rfl ?_
    refine s_114 hdl ok hR1 hW1 (fun h => absurd hc h) (fun _ h => absurd h (by omega)) (fun _ _ σ2 hm => ?_)
    refine af_ret ?_
    refine g_istore k151_335 rfl rfl ?_
    refine g_aload_n k151_337 rfl ?_
    refine m_callV0 k151_338 s151_338 c151_338 l105 (by omega) trivial rfl r151_338 rfl ?_
    refine s_105 ?_
    refine af_ret ?_
    rw [hm.2.2.2]
    refine g_iload k151_341 rfl ?_
    refine g_iceq_t k151_343 (t := 348) rfl rfl ?_
    refine g_iload k151_348 rfl ?_
    refine g_ifne_f k151_350 (t := 365) rfl rfl ?_
    refine g_aload_n k151_353 rfl ?_
    refine g_iconst (v := nn 0) k151_354 ci_0 ?_
    refine m_lald k151_355 rfl rfl (by omega) (by omega) ?_
    rw [up2_at]
    refine g_iload k151_356 rfl ?_
    refine g_i2l k151_358 ?_
    refine g_lcmp k151_359 ?_
    refine g_ifeq_t k151_360 (t := 365) rfl lc_s ?_
    refine g_goto k151_365 (t := 1052) rfl ?_
    exact kk _ _ _ _ _ _ _ _ _ _ (JJ.fin (ok.ae hf (eok_u hc).1 (eok_u hc).2.1 (eok_u hc).2.2) wo hin ho.1.out hm) hg
theorem no_u {A : TD} {x z : Int32} {t : Bool} (h : td_no A x z t = false) : x.toInt.toNat < td_ne A ∧ z.toInt.toNat < td_nf A ∧ td_ft A z.toInt.toNat = t ∧ (td_ma A x.toInt.toNat = 0 → td_hl A z.toInt.toNat = false) := by
  obtain ⟨h1, h2⟩ := no_f h
  unfold td_no at h
  rw [Bool.not_eq_false', Bool.and_eq_true, Bool.and_eq_true, Bool.and_eq_true, decide_eq_true_eq, decide_eq_true_eq, beq_iff_eq, Bool.not_eq_true'] at h
  refine ⟨by omega, by omega, h.1.2, fun q => ?_⟩
  have h3 := h.2
  rw [decide_eq_true q, Bool.true_and] at h3
  exact h3
theorem L_4 (hdy : dy.length < 80000) (hi : i + 4 ≤ L) (hL : L ≤ 2048) (hJ : JJ A W F E dy σ ρ τ) (kk : LK L xs i dy Q) : go (tb_P L xs) 151 368 [some (.ref am_scr), some (.ref 0), some (.ref 24), some (.ref 46), some (.int (nn i)), l5, l6] [] (mk dy σ ρ τ) Q := by
  obtain ⟨⟨ok, wo, hin⟩, hS, hR, hW⟩ := hJ
  have hdy2 : dy.length < 100000 := by omega
  refine g_aload_n k151_368 rfl ?_
  refine g_aload_n k151_369 rfl ?_
  refine g_iload k151_370 rfl ?_
  refine g_iconst (v := nn 1) k151_372 ci_1 ?_
  refine g_iaddN k151_373 ?_
  refine m_sald k151_374 (by omega) (by omega) ?_
  refine g_aload_n k151_375 rfl ?_
  refine g_iload k151_376 rfl ?_
  refine g_iconst (v := nn 2) k151_378 ci_2 ?_
  refine g_iaddN k151_379 ?_
  refine m_sald k151_380 (by omega) (by omega) ?_
  refine g_callS3 k151_381 s151_381 c151_381 l65 (by omega) ⟨rfl, rfl, rfl⟩ rfl r151_381 ?_
  refine g_aload_n k65_0 rfl ?_
  refine g_iload_n k65_1 rfl ?_
  refine g_iload_n k65_2 rfl ?_
  refine m_callV2 k65_3 s65_3 c65_3 l66 (by omega) ⟨rfl, rfl⟩ rfl r65_3 rfl ?_
  refine s_66 hdy2 ok hS (fun hc ho => ?_) (fun hc ρ1 ho => ?_)
  · skip
    refine af_cat h65x v65_9 ⟨(show 3 < 4 by omega), rfl⟩ ?_
    refine g_iconst (v := nn 1) k65_10 ci_1 ?_
    refine g_ireturn k65_11 t65 ?_
    refine af_ret ?_
    have hg : gr dy (dy ++ [(14, 0)]) := gr_1
    have hdl : List.length (dy ++ [(14, 0)]) < 100000 := by have := hg.1; omega
    have hR1 : RepM A σ := hR.fx ho.2.1
    have hW1 : RunM W σ := hW.fx ho.2.1
    refine g_istore k151_384 rfl rfl ?_
    refine g_aload_n k151_386 rfl ?_
    refine g_aload_n k151_387 rfl ?_
    refine g_iload k151_388 rfl ?_
    refine g_iconst (v := nn 1) k151_390 ci_1 ?_
    refine g_iaddN k151_391 ?_
    refine m_sald k151_392 (by omega) (by omega) ?_
    refine g_aload_n k151_393 rfl ?_
    refine g_iload k151_394 rfl ?_
    refine g_iconst (v := nn 2) k151_396 ci_2 ?_
    refine g_iaddN k151_397 ?_
    refine m_sald k151_398 (by omega) (by omega) ?_
    refine m_callV2 k151_399 s151_399 c151_399 l116 (by omega) ⟨rfl, rfl⟩ rfl r151_399 rfl ?_
    refine s_116 hdl ok hR1 hW1 (fun _ σ2 hm => ?_) (fun h => absurd h hc)
    refine af_void ?_
    refine g_aload_n k151_402 rfl ?_
    refine m_callV0 k151_403 s151_403 c151_403 l105 (by omega) trivial rfl r151_403 rfl ?_
    refine s_105 ?_
    refine af_ret ?_
    rw [hm.2.2.2]
    refine g_iload k151_406 rfl ?_
    refine g_iceq_t k151_408 (t := 413) rfl rfl ?_
    refine g_goto k151_413 (t := 1052) rfl ?_
    exact kk _ _ _ _ _ _ _ _ _ _ (JJ.fin ok wo hin ho.1 hm) hg
  · skip
    refine af_void ?_
    have hg : gr dy dy := gr.rf
    have hdl : List.length dy < 100000 := by have := hg.1; omega
    have hR1 : RepM A σ := hR.fx ho.2.1
    have hW1 : RunM W σ := hW.fx ho.2.1
    refine g_goto k65_6 (t := 12) rfl ?_
    refine g_iconst (v := nn 0) k65_12 ci_0 ?_
    refine g_ireturn k65_13 t65 ?_
    refine af_ret ?_
    refine g_istore k151_384 rfl rfl ?_
    refine g_aload_n k151_386 rfl ?_
    refine g_aload_n k151_387 rfl ?_
    refine g_iload k151_388 rfl ?_
    refine g_iconst (v := nn 1) k151_390 ci_1 ?_
    refine g_iaddN k151_391 ?_
    refine m_sald k151_392 (by omega) (by omega) ?_
    refine g_aload_n k151_393 rfl ?_
    refine g_iload k151_394 rfl ?_
    refine g_iconst (v := nn 2) k151_396 ci_2 ?_
    refine g_iaddN k151_397 ?_
    refine m_sald k151_398 (by omega) (by omega) ?_
    refine m_callV2 k151_399 s151_399 c151_399 l116 (by omega) ⟨rfl, rfl⟩ rfl r151_399 rfl ?_
    refine s_116 hdl ok hR1 hW1 (fun h => by rw [hc] at h; cases h) (fun _ σ2 hm => ?_)
    refine af_void ?_
    refine g_aload_n k151_402 rfl ?_
    refine m_callV0 k151_403 s151_403 c151_403 l105 (by omega) trivial rfl r151_403 rfl ?_
    refine s_105 ?_
    refine af_ret ?_
    rw [hm.2.2.2]
    refine g_iload k151_406 rfl ?_
    refine g_iceq_t k151_408 (t := 413) rfl rfl ?_
    refine g_goto k151_413 (t := 1052) rfl ?_
    exact kk _ _ _ _ _ _ _ _ _ _ (JJ.fin (ok.sg (no_u hc).2.1 (no_u hc).2.2.1 (no_u hc).2.2.2) wo hin ho.1 hm) hg
theorem L_5 (hdy : dy.length < 80000) (hi : i + 4 ≤ L) (hL : L ≤ 2048) (hJ : JJ A W F E dy σ ρ τ) (kk : LK L xs i dy Q) : go (tb_P L xs) 151 416 [some (.ref am_scr), some (.ref 0), some (.ref 24), some (.ref 46), some (.int (nn i)), l5, l6] [] (mk dy σ ρ τ) Q := by
  obtain ⟨⟨ok, wo, hin⟩, hS, hR, hW⟩ := hJ
  have hdy2 : dy.length < 100000 := by omega
  refine g_aload_n k151_416 rfl ?_
  refine g_aload_n k151_417 rfl ?_
  refine g_iload k151_418 rfl ?_
  refine g_iconst (v := nn 1) k151_420 ci_1 ?_
  refine g_iaddN k151_421 ?_
  refine m_sald k151_422 (by omega) (by omega) ?_
  refine g_aload_n k151_423 rfl ?_
  refine g_iload k151_424 rfl ?_
  refine g_iconst (v := nn 2) k151_426 ci_2 ?_
  refine g_iaddN k151_427 ?_
  refine m_sald k151_428 (by omega) (by omega) ?_
  refine g_aload_n k151_429 rfl ?_
  refine g_iload k151_430 rfl ?_
  refine g_iconst (v := nn 3) k151_432 ci_3 ?_
  refine g_iaddN k151_433 ?_
  refine m_sald k151_434 (by omega) (by omega) ?_
  refine g_callS4 k151_435 s151_435 c151_435 l72 (by omega) ⟨rfl, rfl, rfl, rfl⟩ rfl r151_435 ?_
  refine g_aload_n k72_0 rfl ?_
  refine g_iload_n k72_1 rfl ?_
  refine g_iload_n k72_2 rfl ?_
  refine g_iload_n k72_3 rfl ?_
  refine m_callV3 k72_4 s72_4 c72_4 l73 (by omega) ⟨rfl, rfl, rfl⟩ rfl r72_4 rfl ?_
  refine s_73 hdy2 ok hS (fun hc ho => ?_) (fun hc ρ1 ho => ?_)
  · skip
    refine af_cat h72x v72_9 ⟨(show 4 < 5 by omega), rfl⟩ ?_
    refine g_iconst (v := nn 1) k72_12 ci_1 ?_
    refine g_ireturn k72_13 t72 ?_
    refine af_ret ?_
    have hg : gr dy (dy ++ [(14, 0)]) := gr_1
    have hdl : List.length (dy ++ [(14, 0)]) < 100000 := by have := hg.1; omega
    have hR1 : RepM A σ := hR.fx ho.2.1
    have hW1 : RunM W σ := hW.fx ho.2.1
    refine g_istore k151_438 rfl rfl ?_
    refine g_aload_n k151_440 rfl ?_
    refine g_aload_n k151_441 rfl ?_
    refine g_iload k151_442 rfl ?_
    refine g_iconst (v := nn 1) k151_444 ci_1 ?_
    refine g_iaddN k151_445 ?_
    refine m_sald k151_446 (by omega) (by omega) ?_
    refine g_aload_n k151_447 rfl ?_
    refine g_iload k151_448 rfl ?_
    refine g_iconst (v := nn 2) k151_450 ci_2 ?_
    refine g_iaddN k151_451 ?_
    refine m_sald k151_452 (by omega) (by omega) ?_
    refine g_aload_n k151_453 rfl ?_
    refine g_iload k151_454 rfl ?_
    refine g_iconst (v := nn 3) k151_456 ci_3 ?_
    refine g_iaddN k151_457 ?_
    refine m_sald k151_458 (by omega) (by omega) ?_
    refine m_callV3 k151_459 s151_459 c151_459 l119 (by omega) ⟨rfl, rfl, rfl⟩ rfl r151_459 rfl ?_
    refine s_119 hdl ok hR1 hW1 (fun _ σ2 hm => ?_) (fun h => absurd h hc)
    refine af_void ?_
    refine g_aload_n k151_462 rfl ?_
    refine m_callV0 k151_463 s151_463 c151_463 l105 (by omega) trivial rfl r151_463 rfl ?_
    refine s_105 ?_
    refine af_ret ?_
    rw [hm.2.2.2]
    refine g_iload k151_466 rfl ?_
    refine g_iceq_t k151_468 (t := 473) rfl rfl ?_
    refine g_goto k151_473 (t := 1052) rfl ?_
    exact kk _ _ _ _ _ _ _ _ _ _ (JJ.fin ok wo hin ho.1 hm) hg
  · skip
    refine af_void ?_
    have hg : gr dy dy := gr.rf
    have hdl : List.length dy < 100000 := by have := hg.1; omega
    have hR1 : RepM A σ := hR.fx ho.2.1
    have hW1 : RunM W σ := hW.fx ho.2.1
    refine g_goto k72_7 (t := 14) rfl ?_
    refine g_iconst (v := nn 0) k72_14 ci_0 ?_
    refine g_ireturn k72_15 t72 ?_
    refine af_ret ?_
    refine g_istore k151_438 rfl rfl ?_
    refine g_aload_n k151_440 rfl ?_
    refine g_aload_n k151_441 rfl ?_
    refine g_iload k151_442 rfl ?_
    refine g_iconst (v := nn 1) k151_444 ci_1 ?_
    refine g_iaddN k151_445 ?_
    refine m_sald k151_446 (by omega) (by omega) ?_
    refine g_aload_n k151_447 rfl ?_
    refine g_iload k151_448 rfl ?_
    refine g_iconst (v := nn 2) k151_450 ci_2 ?_
    refine g_iaddN k151_451 ?_
    refine m_sald k151_452 (by omega) (by omega) ?_
    refine g_aload_n k151_453 rfl ?_
    refine g_iload k151_454 rfl ?_
    refine g_iconst (v := nn 3) k151_456 ci_3 ?_
    refine g_iaddN k151_457 ?_
    refine m_sald k151_458 (by omega) (by omega) ?_
    refine m_callV3 k151_459 s151_459 c151_459 l119 (by omega) ⟨rfl, rfl, rfl⟩ rfl r151_459 rfl ?_
    refine s_119 hdl ok hR1 hW1 (fun h => absurd hc h) (fun _ σ2 hm => ?_)
    refine af_void ?_
    refine g_aload_n k151_462 rfl ?_
    refine m_callV0 k151_463 s151_463 c151_463 l105 (by omega) trivial rfl r151_463 rfl ?_
    refine s_105 ?_
    refine af_ret ?_
    rw [hm.2.2.2]
    refine g_iload k151_466 rfl ?_
    refine g_iceq_t k151_468 (t := 473) rfl rfl ?_
    refine g_goto k151_473 (t := 1052) rfl ?_
    exact kk _ _ _ _ _ _ _ _ _ _ (JJ.fin (ok.sa (no_u hc.1).1 (no_u hc.1).2.1 (no_u hc.1).2.2.1 hc.2.2 (no_u hc.1).2.2.2) wo hin ho.1 hm) hg
theorem L_6 (hdy : dy.length < 80000) (hi : i + 4 ≤ L) (hL : L ≤ 2048) (hJ : JJ A W F E dy σ ρ τ) (kk : LK L xs i dy Q) : go (tb_P L xs) 151 476 [some (.ref am_scr), some (.ref 0), some (.ref 24), some (.ref 46), some (.int (nn i)), l5, l6] [] (mk dy σ ρ τ) Q := by
  obtain ⟨⟨ok, wo, hin⟩, hS, hR, hW⟩ := hJ
  have hdy2 : dy.length < 100000 := by omega
  refine g_aload_n k151_476 rfl ?_
  refine g_aload_n k151_477 rfl ?_
  refine g_iload k151_478 rfl ?_
  refine g_iconst (v := nn 1) k151_480 ci_1 ?_
  refine g_iaddN k151_481 ?_
  refine m_sald k151_482 (by omega) (by omega) ?_
  refine g_aload_n k151_483 rfl ?_
  refine g_iload k151_484 rfl ?_
  refine g_iconst (v := nn 2) k151_486 ci_2 ?_
  refine g_iaddN k151_487 ?_
  refine m_sald k151_488 (by omega) (by omega) ?_
  refine g_callS3 k151_489 s151_489 c151_489 l76 (by omega) ⟨rfl, rfl, rfl⟩ rfl r151_489 ?_
  refine g_aload_n k76_0 rfl ?_
  refine g_iload_n k76_1 rfl ?_
  refine g_iload_n k76_2 rfl ?_
  refine m_callV2 k76_3 s76_3 c76_3 l77 (by omega) ⟨rfl, rfl⟩ rfl r76_3 rfl ?_
  refine s_77 hdy2 ok hS (fun hc ho => ?_) (fun hc hc2 ρ1 ho => ?_)
  · skip
    refine af_cat h76x v76_9 ⟨(show 3 < 4 by omega), rfl⟩ ?_
    refine g_iconst (v := nn 1) k76_10 ci_1 ?_
    refine g_ireturn k76_11 t76 ?_
    refine af_ret ?_
    have hg : gr dy (dy ++ [(14, 0)]) := gr_1
    have hdl : List.length (dy ++ [(14, 0)]) < 100000 := by have := hg.1; omega
    have hR1 : RepM A σ := hR.fx ho.2.1
    have hW1 : RunM W σ := hW.fx ho.2.1
    refine g_istore k151_492 rfl rfl ?_
    refine g_aload_n k151_494 rfl ?_
    refine g_aload_n k151_495 rfl ?_
    refine g_iload k151_496 rfl ?_
    refine g_iconst (v := nn 1) k151_498 ci_1 ?_
    refine g_iaddN k151_499 ?_
    refine m_sald k151_500 (by omega) (by omega) ?_
    refine g_aload_n k151_501 rfl ?_
    refine g_iload k151_502 rfl ?_
    refine g_iconst (v := nn 2) k151_504 ci_2 ?_
    refine g_iaddN k151_505 ?_
    refine m_sald k151_506 (by omega) (by omega) ?_
    refine m_callV2 k151_507 s151_507 c151_507 l120 (by omega) ⟨rfl, rfl⟩ rfl r151_507 rfl ?_
    refine s_120 hdl ok hR1 hW1 (fun _ σ2 hm => ?_) (fun h1 h2 => absurd ⟨h1, h2⟩ hc)
    refine af_void ?_
    refine g_aload_n k151_510 rfl ?_
    refine m_callV0 k151_511 s151_511 c151_511 l105 (by omega) trivial rfl r151_511 rfl ?_
    refine s_105 ?_
    refine af_ret ?_
    rw [hm.2.2.2]
    refine g_iload k151_514 rfl ?_
    refine g_iceq_t k151_516 (t := 521) rfl rfl ?_
    refine g_goto k151_521 (t := 1052) rfl ?_
    exact kk _ _ _ _ _ _ _ _ _ _ (JJ.fin ok wo hin ho.1 hm) hg
  · skip
    refine af_void ?_
    have hg : gr dy dy := gr.rf
    have hdl : List.length dy < 100000 := by have := hg.1; omega
    have hR1 : RepM A σ := hR.fx ho.2.1
    have hW1 : RunM W σ := hW.fx ho.2.1
    refine g_goto k76_6 (t := 12) rfl ?_
    refine g_iconst (v := nn 0) k76_12 ci_0 ?_
    refine g_ireturn k76_13 t76 ?_
    refine af_ret ?_
    refine g_istore k151_492 rfl rfl ?_
    refine g_aload_n k151_494 rfl ?_
    refine g_aload_n k151_495 rfl ?_
    refine g_iload k151_496 rfl ?_
    refine g_iconst (v := nn 1) k151_498 ci_1 ?_
    refine g_iaddN k151_499 ?_
    refine m_sald k151_500 (by omega) (by omega) ?_
    refine g_aload_n k151_501 rfl ?_
    refine g_iload k151_502 rfl ?_
    refine g_iconst (v := nn 2) k151_504 ci_2 ?_
    refine g_iaddN k151_505 ?_
    refine m_sald k151_506 (by omega) (by omega) ?_
    refine m_callV2 k151_507 s151_507 c151_507 l120 (by omega) ⟨rfl, rfl⟩ rfl r151_507 rfl ?_
    refine s_120 hdl ok hR1 hW1 (fun h => absurd ⟨hc, hc2⟩ h) (fun _ _ σ2 hm => ?_)
    refine af_void ?_
    refine g_aload_n k151_510 rfl ?_
    refine m_callV0 k151_511 s151_511 c151_511 l105 (by omega) trivial rfl r151_511 rfl ?_
    refine s_105 ?_
    refine af_ret ?_
    rw [hm.2.2.2]
    refine g_iload k151_514 rfl ?_
    refine g_iceq_t k151_516 (t := 521) rfl rfl ?_
    refine g_goto k151_521 (t := 1052) rfl ?_
    exact kk _ _ _ _ _ _ _ _ _ _ (JJ.fin (ok.sw (no_u hc).2.1 (no_u hc).2.2.1 hc2) wo hin ho.1 hm) hg
theorem L_7 (hdy : dy.length < 80000) (hi : i + 4 ≤ L) (hL : L ≤ 2048) (hJ : JJ A W F E dy σ ρ τ) (kk : LK L xs i dy Q) : go (tb_P L xs) 151 524 [some (.ref am_scr), some (.ref 0), some (.ref 24), some (.ref 46), some (.int (nn i)), l5, l6] [] (mk dy σ ρ τ) Q := by
  obtain ⟨⟨ok, wo, hin⟩, hS, hR, hW⟩ := hJ
  have hdy2 : dy.length < 100000 := by omega
  refine g_aload_n k151_524 rfl ?_
  refine g_aload_n k151_525 rfl ?_
  refine g_iload k151_526 rfl ?_
  refine g_iconst (v := nn 1) k151_528 ci_1 ?_
  refine g_iaddN k151_529 ?_
  refine m_sald k151_530 (by omega) (by omega) ?_
  refine g_aload_n k151_531 rfl ?_
  refine g_iload k151_532 rfl ?_
  refine g_iconst (v := nn 2) k151_534 ci_2 ?_
  refine g_iaddN k151_535 ?_
  refine m_sald k151_536 (by omega) (by omega) ?_
  refine g_aload_n k151_537 rfl ?_
  refine g_callS4 k151_538 s151_538 c151_538 l78 (by omega) ⟨rfl, rfl, rfl, rfl⟩ rfl r151_538 ?_
  refine g_aload_n k78_0 rfl ?_
  refine g_iconst (v := nn 0) k78_1 ci_0 ?_
  refine g_aload_n k78_2 rfl ?_
  refine g_iload_n k78_3 rfl ?_
  refine g_iload_n k78_4 rfl ?_
  refine m_callV2 k78_5 s78_5 c78_5 l79 (by omega) ⟨rfl, rfl⟩ rfl r78_5 rfl ?_
  refine s_79 hdy2 ok hS (fun hc ho => ?_) (fun hc hf ho => ?_) (fun hc hf σ1 ρ1 τ1 ho => ?_)
  · skip
    refine af_cat h78x v78_9 ⟨(show 4 < 5 by omega), rfl⟩ ?_
    refine g_iconst (v := nn 1) k78_15 ci_1 ?_
    refine g_ireturn k78_16 t78 ?_
    refine af_ret ?_
    have hg : gr dy (dy ++ [(14, 0)]) := gr_1
    have hdl : List.length (dy ++ [(14, 0)]) < 100000 := by have := hg.1; omega
    have hR1 : RepM A σ := hR.fx ho.2.1
    have hW1 : RunM W σ := hW.fx ho.2.1
    refine g_istore k151_541 rfl rfl ?_
    refine g_aload_n k151_543 rfl ?_
    refine g_aload_n k151_544 rfl ?_
    refine g_iload k151_545 rfl ?_
    refine g_iconst (v := nn 1) k151_547 ci_1 ?_
    refine g_iaddN k151_548 ?_
    refine m_sald k151_549 (by omega) (by omega) ?_
    refine g_aload_n k151_550 rfl ?_
    refine g_iload k151_551 rfl ?_
    refine g_iconst (v := nn 2) k151_553 ci_2 ?_
    refine g_iaddN k151_554 ?_
    refine m_sald k151_555 (by omega) (by omega) ?_
    refine m_callV2 k151_556 s151_556 c151_556 l121 (by omega) ⟨rfl, rfl⟩ rfl r151_556 rfl ?_
    refine s_121 hdl ok hR1 hW1 (fun _ σ2 hm => ?_) (fun h => absurd h hc) (fun h => absurd h hc)
    refine af_ret ?_
    refine g_istore k151_559 rfl rfl ?_
    refine g_aload_n k151_561 rfl ?_
    refine m_callV0 k151_562 s151_562 c151_562 l105 (by omega) trivial rfl r151_562 rfl ?_
    refine s_105 ?_
    refine af_ret ?_
    rw [hm.2.2.2]
    refine g_iload k151_565 rfl ?_
    refine g_iceq_t k151_567 (t := 572) rfl rfl ?_
    refine g_iload k151_572 rfl ?_
    refine g_ifne_t k151_574 (t := 589) rfl (by decide) ?_
    refine g_goto k151_589 (t := 1052) rfl ?_
    exact kk _ _ _ _ _ _ _ _ _ _ (JJ.fin ok wo hin ho.1 hm) hg
  · skip
    refine af_cat h78x v78_10 ⟨(show 4 < 5 by omega), rfl⟩ ?_
    refine g_iconst (v := nn 2) k78_19 ci_2 ?_
    refine g_ireturn k78_20 t78 ?_
    refine af_ret ?_
    have hg : gr dy (dy ++ [(15, 0)]) := gr_1
    have hdl : List.length (dy ++ [(15, 0)]) < 100000 := by have := hg.1; omega
    have hR1 : RepM A σ := hR.fx ho.2.1
    have hW1 : RunM W σ := hW.fx ho.2.1
    refine g_istore k151_541 rfl rfl ?_
    refine g_aload_n k151_543 rfl ?_
    refine g_aload_n k151_544 rfl ?_
    refine g_iload k151_545 rfl ?_
    refine g_iconst (v := nn 1) k151_547 ci_1 ?_
    refine g_iaddN k151_548 ?_
    refine m_sald k151_549 (by omega) (by omega) ?_
    refine g_aload_n k151_550 rfl ?_
    refine g_iload k151_551 rfl ?_
    refine g_iconst (v := nn 2) k151_553 ci_2 ?_
    refine g_iaddN k151_554 ?_
    refine m_sald k151_555 (by omega) (by omega) ?_
    refine m_callV2 k151_556 s151_556 c151_556 l121 (by omega) ⟨rfl, rfl⟩ rfl r151_556 rfl ?_
    refine s_121 hdl ok hR1 hW1 (fun h => absurd hc h) (fun _ _ σ2 hm => ?_) (fun _ h => absurd h (by omega))
    refine af_ret ?_
    refine g_istore k151_559 rfl rfl ?_
    refine g_aload_n k151_561 rfl ?_
    refine m_callV0 k151_562 s151_562 c151_562 l105 (by omega) trivial rfl r151_562 rfl ?_
    refine s_105 ?_
    refine af_ret ?_
    rw [hm.2.2.2]
    refine g_iload k151_565 rfl ?_
    refine g_iceq_t k151_567 (t := 572) rfl rfl ?_
    refine g_iload k151_572 rfl ?_
    refine g_ifne_t k151_574 (t := 589) rfl (by decide) ?_
    refine g_goto k151_589 (t := 1052) rfl ?_
    exact kk _ _ _ _ _ _ _ _ _ _ (JJ.fin ok wo hin ho.1 hm) hg
  · skip
    refine af_ret ?_
    have hg : gr dy dy := gr.rf
    have hdl : List.length dy < 100000 := by have := hg.1; omega
    have hR1 : RepM A σ1 := hR.fx ho.2.1
    have hW1 : RunM W σ1 := hW.fx ho.2.1
    refine g_i2l k78_8 ?_
    refine m_last k78_9 rfl rfl (by omega) (by omega) ?_
    refine g_goto k78_10 (t := 21) rfl ?_
    refine g_iconst (v := nn 0) k78_21 ci_0 ?_
    refine g_ireturn k78_22 t78 ?_
    refine af_ret ?_
    refine g_istore k151_541 rfl rfl ?_
    refine g_aload_n k151_543 rfl ?_
    refine g_aload_n k151_544 rfl ?_
    refine g_iload k151_545 rfl ?_
    refine g_iconst (v := nn 1) k151_547 ci_1 ?_
    refine g_iaddN k151_548 ?_
    refine m_sald k151_549 (by omega) (by omega) ?_
    refine g_aload_n k151_550 rfl ?_
    refine g_iload k151_551 rfl ?_
    refine g_iconst (v := nn 2) k151_553 ci_2 ?_
    refine g_iaddN k151_554 ?_
    refine m_sald k151_555 (by omega) (by omega) ?_
    refine m_callV2 k151_556 s151_556 c151_556 l121 (by omega) ⟨rfl, rfl⟩ rfl r151_556 rfl ?_
    refine s_121 hdl ok hR1 hW1 (fun h => absurd hc h) (fun _ h => absurd h (by omega)) (fun _ _ σ2 hm => ?_)
    refine af_ret ?_
    refine g_istore k151_559 rfl rfl ?_
    refine g_aload_n k151_561 rfl ?_
    refine m_callV0 k151_562 s151_562 c151_562 l105 (by omega) trivial rfl r151_562 rfl ?_
    refine s_105 ?_
    refine af_ret ?_
    rw [hm.2.2.2]
    refine g_iload k151_565 rfl ?_
    refine g_iceq_t k151_567 (t := 572) rfl rfl ?_
    refine g_iload k151_572 rfl ?_
    refine g_ifne_f k151_574 (t := 589) rfl rfl ?_
    refine g_aload_n k151_577 rfl ?_
    refine g_iconst (v := nn 0) k151_578 ci_0 ?_
    refine m_lald k151_579 rfl rfl (by omega) (by omega) ?_
    rw [up2_at]
    refine g_iload k151_580 rfl ?_
    refine g_i2l k151_582 ?_
    refine g_lcmp k151_583 ?_
    refine g_ifeq_t k151_584 (t := 589) rfl lc_s ?_
    refine g_goto k151_589 (t := 1052) rfl ?_
    exact kk _ _ _ _ _ _ _ _ _ _ (JJ.fin (ok.ai hf (by have := hc.2.1; omega) hc.2.2.1 hc.2.2.2.1 (fun q => hc.2.2.2.2 (by have := hc.1; omega))) wo hin ho.1.out hm) hg
theorem L_8 (hdy : dy.length < 80000) (hi : i + 4 ≤ L) (hL : L ≤ 2048) (hJ : JJ A W F E dy σ ρ τ) (kk : LK L xs i dy Q) : go (tb_P L xs) 151 592 [some (.ref am_scr), some (.ref 0), some (.ref 24), some (.ref 46), some (.int (nn i)), l5, l6] [] (mk dy σ ρ τ) Q := by
  obtain ⟨⟨ok, wo, hin⟩, hS, hR, hW⟩ := hJ
  have hdy2 : dy.length < 100000 := by omega
  refine g_aload_n k151_592 rfl ?_
  refine g_aload_n k151_593 rfl ?_
  refine g_iload k151_594 rfl ?_
  refine g_iconst (v := nn 1) k151_596 ci_1 ?_
  refine g_iaddN k151_597 ?_
  refine m_sald k151_598 (by omega) (by omega) ?_
  refine g_callS2 k151_599 s151_599 c151_599 l83 (by omega) ⟨rfl, rfl⟩ rfl r151_599 ?_
  refine g_aload_n k83_0 rfl ?_
  refine g_iload_n k83_1 rfl ?_
  refine m_callV1 k83_2 s83_2 c83_2 l84 (by omega) rfl rfl r83_2 rfl ?_
  refine s_84 hdy2 ok hS (fun hc ho => ?_) (fun hc ρ1 ho => ?_)
  · skip
    refine af_cat h83x v83_9 ⟨(show 2 < 3 by omega), rfl⟩ ?_
    refine g_iconst (v := nn 1) k83_9 ci_1 ?_
    refine g_ireturn k83_10 t83 ?_
    refine af_ret ?_
    have hg : gr dy (dy ++ [(14, 0)]) := gr_1
    have hdl : List.length (dy ++ [(14, 0)]) < 100000 := by have := hg.1; omega
    have hR1 : RepM A σ := hR.fx ho.2.1
    have hW1 : RunM W σ := hW.fx ho.2.1
    refine g_istore k151_602 rfl rfl ?_
    refine g_aload_n k151_604 rfl ?_
    refine g_aload_n k151_605 rfl ?_
    refine g_iload k151_606 rfl ?_
    refine g_iconst (v := nn 1) k151_608 ci_1 ?_
    refine g_iaddN k151_609 ?_
    refine m_sald k151_610 (by omega) (by omega) ?_
    refine m_callV1 k151_611 s151_611 c151_611 l122 (by omega) rfl rfl r151_611 rfl ?_
    refine s_122 hdl ok hR1 hW1 (fun _ σ2 hm => ?_) (fun h => absurd h hc)
    refine af_void ?_
    refine g_aload_n k151_614 rfl ?_
    refine m_callV0 k151_615 s151_615 c151_615 l105 (by omega) trivial rfl r151_615 rfl ?_
    refine s_105 ?_
    refine af_ret ?_
    rw [hm.2.2.2]
    refine g_iload k151_618 rfl ?_
    refine g_iceq_t k151_620 (t := 625) rfl rfl ?_
    refine g_goto k151_625 (t := 1052) rfl ?_
    exact kk _ _ _ _ _ _ _ _ _ _ (JJ.fin ok wo hin ho.1 hm) hg
  · skip
    refine af_void ?_
    have hg : gr dy dy := gr.rf
    have hdl : List.length dy < 100000 := by have := hg.1; omega
    have hR1 : RepM A σ := hR.fx ho.2.1
    have hW1 : RunM W σ := hW.fx ho.2.1
    refine g_goto k83_5 (t := 11) rfl ?_
    refine g_iconst (v := nn 0) k83_11 ci_0 ?_
    refine g_ireturn k83_12 t83 ?_
    refine af_ret ?_
    refine g_istore k151_602 rfl rfl ?_
    refine g_aload_n k151_604 rfl ?_
    refine g_aload_n k151_605 rfl ?_
    refine g_iload k151_606 rfl ?_
    refine g_iconst (v := nn 1) k151_608 ci_1 ?_
    refine g_iaddN k151_609 ?_
    refine m_sald k151_610 (by omega) (by omega) ?_
    refine m_callV1 k151_611 s151_611 c151_611 l122 (by omega) rfl rfl r151_611 rfl ?_
    refine s_122 hdl ok hR1 hW1 (fun h => absurd hc h) (fun _ σ2 hm => ?_)
    refine af_void ?_
    refine g_aload_n k151_614 rfl ?_
    refine m_callV0 k151_615 s151_615 c151_615 l105 (by omega) trivial rfl r151_615 rfl ?_
    refine s_105 ?_
    refine af_ret ?_
    rw [hm.2.2.2]
    refine g_iload k151_618 rfl ?_
    refine g_iceq_t k151_620 (t := 625) rfl rfl ?_
    refine g_goto k151_625 (t := 1052) rfl ?_
    exact kk _ _ _ _ _ _ _ _ _ _ (JJ.fin (ok.sr (by have := hc.1; omega) hc.2.1 hc.2.2) wo hin ho.1 hm) hg
end ZJ
