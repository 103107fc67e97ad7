theorem lgc (x : Int64) : (lg_cmp x x = 0) = True := eq_true (by
  have h : ¬ x > x := by
    show ¬ x < x
    rw [Int64.lt_iff_toInt_lt]; omega
  rw [lg_cmp, if_neg h, if_pos rfl])
/-! the drawn calls, and taking them back -/
theorem sfj_t11 {ρ γ0 γ1 γ2 γ3 γ4 γ5 γ6 γ7 γ8 γ9 γ10 : Type} {K : γ0 → γ1 → γ2 → γ3 → γ4 → γ5 → γ6 → γ7 → γ8 → γ9 → γ10 → Option ρ} {B : (γ0 → γ1 → γ2 → γ3 → γ4 → γ5 → γ6 → γ7 → γ8 → γ9 → γ10 → Option ρ) → Option ρ} {R : Option ρ} (v0 : γ0) (v1 : γ1) (v2 : γ2) (v3 : γ3) (v4 : γ4) (v5 : γ5) (v6 : γ6) (v7 : γ7) (v8 : γ8) (v9 : γ9) (v10 : γ10) (hB : ∀ k : γ0 → γ1 → γ2 → γ3 → γ4 → γ5 → γ6 → γ7 → γ8 → γ9 → γ10 → Option ρ, B k = k v0 v1 v2 v3 v4 v5 v6 v7 v8 v9 v10) (h : K v0 v1 v2 v3 v4 v5 v6 v7 v8 v9 v10 = R) : sf_j K B = R := (hB K).trans h
theorem sfj_t32 {ρ γ0 γ1 γ2 γ3 γ4 γ5 γ6 γ7 γ8 γ9 γ10 γ11 γ12 γ13 γ14 γ15 γ16 γ17 γ18 γ19 γ20 γ21 γ22 γ23 γ24 γ25 γ26 γ27 γ28 γ29 γ30 γ31 : Type} {K : γ0 → γ1 → γ2 → γ3 → γ4 → γ5 → γ6 → γ7 → γ8 → γ9 → γ10 → γ11 → γ12 → γ13 → γ14 → γ15 → γ16 → γ17 → γ18 → γ19 → γ20 → γ21 → γ22 → γ23 → γ24 → γ25 → γ26 → γ27 → γ28 → γ29 → γ30 → γ31 → Option ρ} {B : (γ0 → γ1 → γ2 → γ3 → γ4 → γ5 → γ6 → γ7 → γ8 → γ9 → γ10 → γ11 → γ12 → γ13 → γ14 → γ15 → γ16 → γ17 → γ18 → γ19 → γ20 → γ21 → γ22 → γ23 → γ24 → γ25 → γ26 → γ27 → γ28 → γ29 → γ30 → γ31 → Option ρ) → Option ρ} {R : Option ρ} (v0 : γ0) (v1 : γ1) (v2 : γ2) (v3 : γ3) (v4 : γ4) (v5 : γ5) (v6 : γ6) (v7 : γ7) (v8 : γ8) (v9 : γ9) (v10 : γ10) (v11 : γ11) (v12 : γ12) (v13 : γ13) (v14 : γ14) (v15 : γ15) (v16 : γ16) (v17 : γ17) (v18 : γ18) (v19 : γ19) (v20 : γ20) (v21 : γ21) (v22 : γ22) (v23 : γ23) (v24 : γ24) (v25 : γ25) (v26 : γ26) (v27 : γ27) (v28 : γ28) (v29 : γ29) (v30 : γ30) (v31 : γ31) (hB : ∀ k : γ0 → γ1 → γ2 → γ3 → γ4 → γ5 → γ6 → γ7 → γ8 → γ9 → γ10 → γ11 → γ12 → γ13 → γ14 → γ15 → γ16 → γ17 → γ18 → γ19 → γ20 → γ21 → γ22 → γ23 → γ24 → γ25 → γ26 → γ27 → γ28 → γ29 → γ30 → γ31 → Option ρ, B k = k v0 v1 v2 v3 v4 v5 v6 v7 v8 v9 v10 v11 v12 v13 v14 v15 v16 v17 v18 v19 v20 v21 v22 v23 v24 v25 v26 v27 v28 v29 v30 v31) (h : K v0 v1 v2 v3 v4 v5 v6 v7 v8 v9 v10 v11 v12 v13 v14 v15 v16 v17 v18 v19 v20 v21 v22 v23 v24 v25 v26 v27 v28 v29 v30 v31 = R) : sf_j K B = R := (hB K).trans h
theorem u32n (u : UInt32) : u.toInt32 = nI u.toNat := by
  apply Int32.toBitVec_inj.mp
  show u.toBitVec = BitVec.ofNat 32 u.toBitVec.toNat
  rw [BitVec.ofNat_toNat, BitVec.setWidth_eq]
/-- numbers out of the script are not below 0 -/
theorem ius_n (x : Int32) (y : Int32) (hy : y = 1 ∨ y = 2 ∨ y = 3 ∨ y = 4 ∨ y = 5 ∨ y = 6 ∨ y = 7 ∨ y = 9) : ∃ n, n < 2 ^ 31 ∧ iushr x y = nI n := by
  have h1 : ∀ k : UInt32, 1 ≤ k.toNat → k.toNat ≤ 31 → ∃ n, n < 2 ^ 31 ∧ (x.toUInt32 >>> k).toInt32 = nI n := fun k k1 k2 => by
    refine ⟨(x.toUInt32 >>> k).toNat, ?_, ?_⟩
    · rw [UInt32.toNat_shiftRight, Nat.shiftRight_eq_div_pow, Nat.mod_eq_of_lt (by omega)]
      have h2 := x.toUInt32.toNat_lt
      have h3 : 2 ^ 1 ≤ 2 ^ k.toNat := Nat.pow_le_pow_right (by omega) k1
      exact Nat.lt_of_le_of_lt (Nat.div_le_div_left h3 (by omega)) (by omega)
    · exact u32n _
  rcases hy with h | h | h | h | h | h | h | h <;> subst h <;> exact h1 _ (by decide) (by decide)
theorem rem_n {n b : Nat} (hn : n < 2 ^ 31) (hb : 0 < b) (hb2 : b < 2 ^ 31) : nI n - nI n / nI b * nI b = nI (n % b) := by
  rw [nI_div hn hb2 hb, nI_mul, nI_sub (Nat.div_mul_le_self n b)]
  congr 1
  have := Nat.div_add_mod n b
  rw [Nat.mul_comm] at this
  omega
theorem a_cell {cA : Nat → Nat} (hL : cA 201 ≤ 260) {a : Nat} (ha : a < 100000) : ∃ r, f_L_cell cA (nI a) = some r := by
  rw [f_L_cell]
  by_cases c : cA 201 ≤ a
  · exact ⟨_, sfj_t _ (fun k => sfb_t (by rw [nI_of0, nI_leP (by omega) (by omega)]; exact c) rfl) rfl⟩
  · exact ⟨_, sfj_t _ (fun k => sfb_f (by rw [nI_of0, nI_leP (by omega) (by omega)]; exact c) (sfg_i (of_eq_true (nI_inT (by omega) (by omega))) rfl)) rfl⟩
theorem cs_13 : CS 13 [113, 117, 101, 117, 101, 32] := (show ((cwB.getD 13 []).map Int32.toNatClampNeg) = [113, 117, 101, 117, 101, 32] by decide +kernel) ▸ cs_ok 13 (by omega)
theorem cs_14 : CS 14 [59, 119, 97, 105, 116, 32] := (show ((cwB.getD 14 []).map Int32.toNatClampNeg) = [59, 119, 97, 105, 116, 32] by decide +kernel) ▸ cs_ok 14 (by omega)
theorem cs_15 : CS 15 [59, 103, 117, 101, 115, 116, 59, 108, 101, 97, 118, 101, 32] := (show ((cwB.getD 15 []).map Int32.toNatClampNeg) = [59, 103, 117, 101, 115, 116, 59, 108, 101, 97, 118, 101, 32] by decide +kernel) ▸ cs_ok 15 (by omega)
section UND
variable {M : Nat → Nat} {U : Nat} {H : Nat → Nat → Nat} {c : Nat} {yv : Nat → OffT} {yn yc : Int32} {on ot op os sc gc bc fc : Int32} {sd sp sw gp gr bg bs bt be ql qg fg fs fm : Nat → Int32}
set_option maxHeartbeats 2000000 in
theorem sw_un {ρ : Type} (hV : VW M U) (hr : RO M on ot op os sc sd sp sw gc gp gr bc bg bs bt be ql qg fc fg fs fm) (hU : U + 3600 ≤ 4000000) (hz : HZ U yv yn yc H c) (x38 x39 : Int32) (hx : ∃ e, e < 2 ^ 31 ∧ x39 = nI e) (xe xf tp : Int32) (ts tn : Nat → Int32) : ∃ (is : Int32) (xe' xf' : Int32) (on' : Int32) (ot' : Int32) (op' : Int32) (os' : Int32) (sc' : Int32) (sd' : Nat → Int32) (sp' : Nat → Int32) (sw' : Nat → Int32) (gc' : Int32) (gp' : Nat → Int32) (gr' : Nat → Int32) (bc' : Int32) (bg' : Nat → Int32) (bs' : Nat → Int32) (bt' : Nat → Int32) (be' : Nat → Int32) (ql' : Nat → Int32) (qg' : Nat → Int32) (fc' : Int32) (fg' : Nat → Int32) (fs' : Nat → Int32) (fm' : Nat → Int32) (yn' yc' : Int32) (yv' : Nat → OffT) (tp' : Int32) (ts' tn' : Nat → Int32), (∀ kk : Int32 → Int32 → Int32 → Int32 → Int32 → Int32 → Int32 → Int32 → (Nat → Int32) → (Nat → Int32) → (Nat → Int32) → Int32 → (Nat → Int32) → (Nat → Int32) → Int32 → (Nat → Int32) → (Nat → Int32) → (Nat → Int32) → (Nat → Int32) → (Nat → Int32) → (Nat → Int32) → Int32 → (Nat → Int32) → (Nat → Int32) → (Nat → Int32) → Int32 → Int32 → (Nat → OffT) → Int32 → Int32 → (Nat → Int32) → (Nat → Int32) → Option ρ, sf_b ((x38 - x38 / (9 : Int32) * (9 : Int32)) = (0 : Int32)) (sf_j (fun (v_84 : Int32) (v_85 : Int32) (w_86 : (Nat → Int32)) (w_87 : (Nat → Int32)) (w_88 : (Nat → Int32)) (v_89 : Int32) (w_90 : (Nat → Int32)) (w_91 : (Nat → Int32)) (v_92 : Int32) (v_93 : Int32) (g_94 : (Nat → OffT)) => kk v_84 xe xf on ot op os v_85 w_86 w_87 w_88 v_89 w_90 w_91 bc bg bs bt be ql qg fc fg fs fm v_92 v_93 g_94 0 tp ts tn) (fun k_95 => sf_b ((x39 - x39 / (2 : Int32) * (2 : Int32)) = (0 : Int32)) (sf_c8 (f_L_build on ot op os sc sd sp sw gc gp gr bc bg bs bt be ql qg fc fg fs fm yv yn yc ((iushr x39 (1 : Int32)) - (iushr x39 (1 : Int32)) / (11 : Int32) * (11 : Int32)) ((iushr x39 (5 : Int32)) - (iushr x39 (5 : Int32)) / (11 : Int32) * (11 : Int32))) (fun r_103 x_104 a_105 a_106 a_107 g_108 x_109 x_110 => k_95 r_103 x_104 a_105 a_106 a_107 gc gp gr x_109 x_110 g_108)) (sf_c7 (f_L_addGuest on ot op os sc sd sp sw gc gp gr bc bg bs bt be ql qg fc fg fs fm yv yn yc) (fun r_96 x_97 a_98 a_99 g_100 x_101 x_102 => k_95 r_96 sc sd sp sw x_97 a_98 a_99 x_101 x_102 g_100)))) (sf_b ((x38 - x38 / (9 : Int32) * (9 : Int32)) = (1 : Int32)) (sf_c1 (f_X11_minute on) (fun r_111 => sf_c11 (f_L_book on ot op os sc sd sp sw gc gp gr bc bg bs bt be ql qg fc fg fs fm yv yn yc (x39 - x39 / (11 : Int32) * (11 : Int32)) ((iushr x39 (4 : Int32)) - (iushr x39 (4 : Int32)) / (5 : Int32) * (5 : Int32)) ((r_111 + ((iushr x39 (7 : Int32)) - (iushr x39 (7 : Int32)) / (123 : Int32) * (123 : Int32))) - (1 : Int32))) (fun r_112 x_113 a_114 x_115 a_116 a_117 a_118 a_119 g_120 x_121 x_122 => kk r_112 xe xf on x_113 op os sc sd sp sw gc a_114 gr x_115 a_116 a_117 a_118 a_119 ql qg fc fg fs fm x_121 x_122 g_120 0 tp ts tn))) (sf_b ((x38 - x38 / (9 : Int32) * (9 : Int32)) = (2 : Int32)) (sf_c1 (f_X11_minute on) (fun r_123 => sf_c11 (f_L_book on ot op os sc sd sp sw gc gp gr bc bg bs bt be ql qg fc fg fs fm yv yn yc (x39 - x39 / (11 : Int32) * (11 : Int32)) ((iushr x39 (4 : Int32)) - (iushr x39 (4 : Int32)) / (5 : Int32) * (5 : Int32)) ((r_123 + ((iushr x39 (7 : Int32)) - (iushr x39 (7 : Int32)) / (123 : Int32) * (123 : Int32))) - (1 : Int32))) (fun r_124 x_125 a_126 x_127 a_128 a_129 a_130 a_131 g_132 x_133 x_134 => kk r_124 xe xf on x_125 op os sc sd sp sw gc a_126 gr x_127 a_128 a_129 a_130 a_131 ql qg fc fg fs fm x_133 x_134 g_132 0 tp ts tn))) (sf_b ((x38 - x38 / (9 : Int32) * (9 : Int32)) = (3 : Int32)) (sf_c12 (f_L_cancel on ot op os sc sd sp sw gc gp gr bc bg bs bt be ql qg fc fg fs fm yv yn yc (x39 - x39 / (14 : Int32) * (14 : Int32))) (fun r_135 x_136 x_137 a_138 x_139 a_140 a_141 a_142 a_143 g_144 x_145 x_146 => kk r_135 xe xf on x_136 x_137 os sc sd sp sw gc a_138 gr x_139 a_140 a_141 a_142 a_143 ql qg fc fg fs fm x_145 x_146 g_144 0 tp ts tn)) (sf_b ((x38 - x38 / (9 : Int32) * (9 : Int32)) = (4 : Int32)) (sf_c6 (f_L_join on ot op os sc sd sp sw gc gp gr bc bg bs bt be ql qg fc fg fs fm yv yn yc (x39 - x39 / (11 : Int32) * (11 : Int32)) ((iushr x39 (4 : Int32)) - (iushr x39 (4 : Int32)) / (5 : Int32) * (5 : Int32))) (fun r_147 a_148 a_149 g_150 x_151 x_152 => kk r_147 xe xf on ot op os sc sd sp sw gc gp gr bc bg bs bt be a_148 a_149 fc fg fs fm x_151 x_152 g_150 0 tp ts tn)) (sf_b ((x38 - x38 / (9 : Int32) * (9 : Int32)) = (5 : Int32)) (sf_c6 (f_L_join on ot op os sc sd sp sw gc gp gr bc bg bs bt be ql qg fc fg fs fm yv yn yc (x39 - x39 / (11 : Int32) * (11 : Int32)) ((iushr x39 (4 : Int32)) - (iushr x39 (4 : Int32)) / (5 : Int32) * (5 : Int32))) (fun r_153 a_154 a_155 g_156 x_157 x_158 => kk r_153 xe xf on ot op os sc sd sp sw gc gp gr bc bg bs bt be a_154 a_155 fc fg fs fm x_157 x_158 g_156 0 tp ts tn)) (sf_b ((x38 - x38 / (9 : Int32) * (9 : Int32)) = (6 : Int32)) (sf_c6 (f_L_leave on ot op os sc sd sp sw gc gp gr bc bg bs bt be ql qg fc fg fs fm yv yn yc (x39 - x39 / (11 : Int32) * (11 : Int32))) (fun r_159 a_160 a_161 g_162 x_163 x_164 => kk r_159 xe xf on ot op os sc sd sp sw gc gp gr bc bg bs bt be a_160 a_161 fc fg fs fm x_163 x_164 g_162 0 tp ts tn)) (sf_b ((x38 - x38 / (9 : Int32) * (9 : Int32)) = (7 : Int32)) (sf_c22 (f_L_pass on ot op os sc sd sp sw gc gp gr bc bg bs bt be ql qg fc fg fs fm yv yn yc (x39 - x39 / (62 : Int32) * (62 : Int32))) (fun r_165 x_166 x_167 x_168 x_169 a_170 a_171 a_172 x_173 a_174 a_175 a_176 a_177 a_178 a_179 x_180 a_181 a_182 a_183 g_184 x_185 x_186 => kk r_165 xe xf x_166 x_167 x_168 x_169 sc sd sp a_170 gc a_171 a_172 x_173 a_174 a_175 a_176 a_177 a_178 a_179 x_180 a_181 a_182 a_183 x_185 x_186 g_184 0 tp ts tn)) (sf_c3 (f_J4_append_15ec4_s (fun _ => 0) 16 0 13) (fun a_189 d_190 x_191 => sf_n (sbN d_190 (x_191 + ((f_J6_stringSize_0f7a4 (x39 - x39 / (9 : Int32) * (9 : Int32))).getD 0))) (fun d_193 => sf_g (sbOk d_193 = true) (sf_c2 (f_J4_append_bf812 a_189 d_190 x_191 (x39 - x39 / (9 : Int32) * (9 : Int32))) (fun a_194 x_195 => sf_c3 (f_J4_append_15ec4_s a_194 d_193 x_195 7) (fun a_197 d_198 x_199 => sf_n (sbN d_198 (x_199 + ((f_J6_stringSize_0f7a4 ((iushr x39 (4 : Int32)) - (iushr x39 (4 : Int32)) / (4 : Int32) * (4 : Int32))).getD 0))) (fun d_201 => sf_g (sbOk d_201 = true) (sf_c2 (f_J4_append_bf812 a_197 d_198 x_199 ((iushr x39 (4 : Int32)) - (iushr x39 (4 : Int32)) / (4 : Int32) * (4 : Int32))) (fun a_202 x_203 => sf_c3 (f_J4_append_15ec4_s a_202 d_201 x_203 14) (fun a_205 d_206 x_207 => sf_n (sbN d_206 (x_207 + ((f_J6_stringSize_0f7a4 ((iushr x39 (6 : Int32)) - (iushr x39 (6 : Int32)) / (9 : Int32) * (9 : Int32))).getD 0))) (fun d_209 => sf_g (sbOk d_209 = true) (sf_c2 (f_J4_append_bf812 a_205 d_206 x_207 ((iushr x39 (6 : Int32)) - (iushr x39 (6 : Int32)) / (9 : Int32) * (9 : Int32))) (fun a_210 x_211 => sf_c3 (f_J4_append_15ec4_s a_210 d_209 x_211 15) (fun a_213 d_214 x_215 => sf_n (sbN d_214 (x_215 + ((f_J6_stringSize_0f7a4 ((iushr x39 (9 : Int32)) - (iushr x39 (9 : Int32)) / (9 : Int32) * (9 : Int32))).getD 0))) (fun d_217 => sf_g (sbOk d_217 = true) (sf_c2 (f_J4_append_bf812 a_213 d_214 x_215 ((iushr x39 (9 : Int32)) - (iushr x39 (9 : Int32)) / (9 : Int32) * (9 : Int32))) (fun a_218 x_219 => sf_c2 (f_J4_toString a_218 d_217 x_219) (fun d_221 a_222 => sf_g (sbOk d_221 = true) (sf_c32 (f_L_run on ot op os sc sd sp sw gc gp gr bc bg bs bt be ql qg fc fg fs fm yv yn yc ts 0 tp tn xe xf a_222 d_221) (fun r_225 x_226 x_227 x_228 x_229 x_230 a_231 a_232 a_233 x_234 a_235 a_236 x_237 a_238 a_239 a_240 a_241 a_242 a_243 x_244 a_245 a_246 a_247 g_248 x_249 x_250 a_251 x_252 x_253 a_254 x_255 x_256 => kk r_225 x_255 x_256 x_226 x_227 x_228 x_229 x_230 a_231 a_232 a_233 x_234 a_235 a_236 x_237 a_238 a_239 a_240 a_241 a_242 a_243 x_244 a_245 a_246 a_247 x_249 x_250 g_248 x_252 x_253 a_251 a_254))))))))))))))))))))))))))) = kk is xe' xf' on' ot' op' os' sc' sd' sp' sw' gc' gp' gr' bc' bg' bs' bt' be' ql' qg' fc' fg' fs' fm' yn' yc' yv' 0 tp' ts' tn') ∧ ((is < 0 ∧ RO M on' ot' op' os' sc' sd' sp' sw' gc' gp' gr' bc' bg' bs' bt' be' ql' qg' fc' fg' fs' fm' ∧ HZ U yv' yn' yc' H c) ∨ (0 ≤ is ∧ ∃ M', VW M' (U + 3600) ∧ RO M' on' ot' op' os' sc' sd' sp' sw' gc' gp' gr' bc' bg' bs' bt' be' ql' qg' fc' fg' fs' fm' ∧ HZ (U + 3600) yv' yn' yc' (zpu M H) (zc8 c))) := by
  by_cases c0 : (x38 - x38 / (9 : Int32) * (9 : Int32)) = (0 : Int32)
  · by_cases e0 : (x39 - x39 / (2 : Int32) * (2 : Int32)) = (0 : Int32)
    · skip
      obtain ⟨is, sc', sd', sp', sw', yv', yn', yc', g1, g2⟩ := st_build hV hr (by omega) hz _ _
      refine ⟨is, xe, xf, on, ot, op, os, sc', sd', sp', sw', gc, gp, gr, bc, bg, bs, bt, be, ql, qg, fc, fg, fs, fm, yn', yc', yv', tp, ts, tn, fun kk => sfb_t c0 (sfj_t11 is sc' sd' sp' sw' gc gp gr yn' yc' yv' (fun k => sfb_t e0 (sfc8_i g1 rfl)) rfl), ?_⟩
      rcases g2 with ⟨h1, h2, h3⟩ | ⟨h1, M', h2, h3, h4⟩
      · exact Or.inl ⟨h1, h2, h3⟩
      · exact Or.inr ⟨h1, M', VW_up h2 (by omega) (by omega), h3, HZ_up h4 (by omega) (by omega)⟩
    · skip
      obtain ⟨is, gc', gp', gr', yv', yn', yc', g1, g2⟩ := st_addGuest hV hr (by omega) hz
      refine ⟨is, xe, xf, on, ot, op, os, sc, sd, sp, sw, gc', gp', gr', bc, bg, bs, bt, be, ql, qg, fc, fg, fs, fm, yn', yc', yv', tp, ts, tn, fun kk => sfb_t c0 (sfj_t11 is sc sd sp sw gc' gp' gr' yn' yc' yv' (fun k => sfb_f e0 (sfc7_i g1 rfl)) rfl), ?_⟩
      rcases g2 with ⟨h1, h2, h3⟩ | ⟨h1, M', h2, h3, h4⟩
      · exact Or.inl ⟨h1, h2, h3⟩
      · exact Or.inr ⟨h1, M', VW_up h2 (by omega) (by omega), h3, HZ_up h4 (by omega) (by omega)⟩
  by_cases c1 : (x38 - x38 / (9 : Int32) * (9 : Int32)) = (1 : Int32)
  · skip
    obtain ⟨is, ot', gp', bc', bg', bs', bt', be', yv', yn', yc', g1, g2⟩ := st_book hV hr (by omega) hz _ _ _
    refine ⟨is, xe, xf, on, ot', op, os, sc, sd, sp, sw, gc, gp', gr, bc', bg', bs', bt', be', ql, qg, fc, fg, fs, fm, yn', yc', yv', tp, ts, tn, fun kk => sfb_f c0 (sfb_t c1 (sfc1_i (a := on) rfl (sfc11_i g1 rfl))), ?_⟩
    rcases g2 with ⟨h1, _, h2, h3⟩ | ⟨h1, M', h2, h3, h4⟩
    · exact Or.inl ⟨h1, h2, h3⟩
    · exact Or.inr ⟨h1, M', VW_up h2 (by omega) (by omega), h3, HZ_up h4 (by omega) (by omega)⟩
  by_cases c2 : (x38 - x38 / (9 : Int32) * (9 : Int32)) = (2 : Int32)
  · skip
    obtain ⟨is, ot', gp', bc', bg', bs', bt', be', yv', yn', yc', g1, g2⟩ := st_book hV hr (by omega) hz _ _ _
    refine ⟨is, xe, xf, on, ot', op, os, sc, sd, sp, sw, gc, gp', gr, bc', bg', bs', bt', be', ql, qg, fc, fg, fs, fm, yn', yc', yv', tp, ts, tn, fun kk => sfb_f c0 (sfb_f c1 (sfb_t c2 (sfc1_i (a := on) rfl (sfc11_i g1 rfl)))), ?_⟩
    rcases g2 with ⟨h1, _, h2, h3⟩ | ⟨h1, M', h2, h3, h4⟩
    · exact Or.inl ⟨h1, h2, h3⟩
    · exact Or.inr ⟨h1, M', VW_up h2 (by omega) (by omega), h3, HZ_up h4 (by omega) (by omega)⟩
  by_cases c3 : (x38 - x38 / (9 : Int32) * (9 : Int32)) = (3 : Int32)
  · skip
    obtain ⟨is, ot', op', gp', bc', bg', bs', bt', be', yv', yn', yc', g1, g2⟩ := st_cancel hV hr (by omega) hz _
    refine ⟨is, xe, xf, on, ot', op', os, sc, sd, sp, sw, gc, gp', gr, bc', bg', bs', bt', be', ql, qg, fc, fg, fs, fm, yn', yc', yv', tp, ts, tn, fun kk => sfb_f c0 (sfb_f c1 (sfb_f c2 (sfb_t c3 (sfc12_i g1 rfl)))), ?_⟩
    rcases g2 with ⟨h1, h2, h3⟩ | ⟨h1, M', h2, h3, h4⟩
    · exact Or.inl ⟨h1, h2, h3⟩
    · exact Or.inr ⟨h1, M', VW_up h2 (by omega) (by omega), h3, HZ_up h4 (by omega) (by omega)⟩
  by_cases c4 : (x38 - x38 / (9 : Int32) * (9 : Int32)) = (4 : Int32)
  · skip
    obtain ⟨is, ql', qg', yv', yn', yc', g1, g2⟩ := st_join hV hr (by omega) hz _ _
    refine ⟨is, xe, xf, on, ot, op, os, sc, sd, sp, sw, gc, gp, gr, bc, bg, bs, bt, be, ql', qg', fc, fg, fs, fm, yn', yc', yv', tp, ts, tn, fun kk => sfb_f c0 (sfb_f c1 (sfb_f c2 (sfb_f c3 (sfb_t c4 (sfc6_i g1 rfl))))), ?_⟩
    rcases g2 with ⟨h1, _, h2, h3⟩ | ⟨h1, M', h2, h3, h4⟩
    · exact Or.inl ⟨h1, h2, h3⟩
    · exact Or.inr ⟨h1, M', VW_up h2 (by omega) (by omega), h3, HZ_up h4 (by omega) (by omega)⟩
  by_cases c5 : (x38 - x38 / (9 : Int32) * (9 : Int32)) = (5 : Int32)
  · skip
    obtain ⟨is, ql', qg', yv', yn', yc', g1, g2⟩ := st_join hV hr (by omega) hz _ _
    refine ⟨is, xe, xf, on, ot, op, os, sc, sd, sp, sw, gc, gp, gr, bc, bg, bs, bt, be, ql', qg', fc, fg, fs, fm, yn', yc', yv', tp, ts, tn, fun kk => sfb_f c0 (sfb_f c1 (sfb_f c2 (sfb_f c3 (sfb_f c4 (sfb_t c5 (sfc6_i g1 rfl)))))), ?_⟩
    rcases g2 with ⟨h1, _, h2, h3⟩ | ⟨h1, M', h2, h3, h4⟩
    · exact Or.inl ⟨h1, h2, h3⟩
    · exact Or.inr ⟨h1, M', VW_up h2 (by omega) (by omega), h3, HZ_up h4 (by omega) (by omega)⟩
  by_cases c6 : (x38 - x38 / (9 : Int32) * (9 : Int32)) = (6 : Int32)
  · skip
    obtain ⟨is, ql', qg', yv', yn', yc', g1, g2⟩ := st_leave hV hr (by omega) hz _
    refine ⟨is, xe, xf, on, ot, op, os, sc, sd, sp, sw, gc, gp, gr, bc, bg, bs, bt, be, ql', qg', fc, fg, fs, fm, yn', yc', yv', tp, ts, tn, fun kk => sfb_f c0 (sfb_f c1 (sfb_f c2 (sfb_f c3 (sfb_f c4 (sfb_f c5 (sfb_t c6 (sfc6_i g1 rfl))))))), ?_⟩
    rcases g2 with ⟨h1, h2, h3⟩ | ⟨h1, M', h2, h3, h4⟩
    · exact Or.inl ⟨h1, h2, h3⟩
    · exact Or.inr ⟨h1, M', VW_up h2 (by omega) (by omega), h3, HZ_up h4 (by omega) (by omega)⟩
  by_cases c7 : (x38 - x38 / (9 : Int32) * (9 : Int32)) = (7 : Int32)
  · skip
    obtain ⟨is, on', ot', op', os', sw', gp', gr', bc', bg', bs', bt', be', ql', qg', fc', fg', fs', fm', yv', yn', yc', g1, g2⟩ := st_pass hV hr (by omega) hz _
    refine ⟨is, xe, xf, on', ot', op', os', sc, sd, sp, sw', gc, gp', gr', bc', bg', bs', bt', be', ql', qg', fc', fg', fs', fm', yn', yc', yv', tp, ts, tn, fun kk => sfb_f c0 (sfb_f c1 (sfb_f c2 (sfb_f c3 (sfb_f c4 (sfb_f c5 (sfb_f c6 (sfb_t c7 (sfc22_i g1 rfl)))))))), ?_⟩
    rcases g2 with ⟨h1, _, h2, h3⟩ | ⟨h1, M', h2, h3, h4⟩
    · exact Or.inl ⟨h1, h2, h3⟩
    · exact Or.inr ⟨h1, M', VW_up h2 (by omega) (by omega), h3, HZ_up h4 (by omega) (by omega)⟩
  obtain ⟨e, he, rfl⟩ := hx
  obtain ⟨e4, h4, y4⟩ := ius_n (nI e) 4 (by simp)
  obtain ⟨e6, h6, y6⟩ := ius_n (nI e) 6 (by simp)
  obtain ⟨e9, h9, y9⟩ := ius_n (nI e) 9 (by simp)
  have a0 : nI e - nI e / (9 : Int32) * (9 : Int32) = nI (e % 9) := rem_n (b := 9) he (by omega) (by omega)
  have a4 : nI e4 - nI e4 / (4 : Int32) * (4 : Int32) = nI (e4 % 4) := rem_n (b := 4) h4 (by omega) (by omega)
  have a6 : nI e6 - nI e6 / (9 : Int32) * (9 : Int32) = nI (e6 % 9) := rem_n (b := 9) h6 (by omega) (by omega)
  have a9 : nI e9 - nI e9 / (9 : Int32) * (9 : Int32) = nI (e9 % 9) := rem_n (b := 9) h9 (by omega) (by omega)
  rw [y4, y6, y9, a0, a4, a6, a9]
  have z0 := znd_1 (v := e % 9) (by omega)
  have z4 := znd_1 (v := e4 % 4) (by omega)
  have z6 := znd_1 (v := e6 % 9) (by omega)
  have z9 := znd_1 (v := e9 % 9) (by omega)
  obtain ⟨K1, sv1, p1, p2, p3⟩ := jt_s GB_0 (L := 0) rfl cs_13 (by decide)
  obtain ⟨K2, sv2, q1, q2, q3, q4, q5⟩ := jt_nr p2 p3 (v := e % 9) (by decide) (by omega)
  rw [z0] at q3 q5
  obtain ⟨K3, sv3, r1, r2, r3⟩ := jt_s q4 q5 cs_7 (by decide)
  obtain ⟨K4, sv4, t1, t2, t3, t4, t5⟩ := jt_nr r2 r3 (v := e4 % 4) (by decide) (by omega)
  rw [z4] at t3 t5
  obtain ⟨K5, sv5, u1, u2, u3⟩ := jt_s t4 t5 cs_14 (by decide)
  obtain ⟨K6, sv6, w1, w2, w3, w4, w5⟩ := jt_nr u2 u3 (v := e6 % 9) (by decide) (by omega)
  rw [z6] at w3 w5
  obtain ⟨K7, sv7, k1, k2, k3⟩ := jt_s w4 w5 cs_15 (by decide)
  obtain ⟨K8, sv8, l1, l2, l3, l4, l5⟩ := jt_nr k2 k3 (v := e9 % 9) (by decide) (by omega)
  rw [z9] at l3 l5
  obtain ⟨tv9, m1, m2, m3⟩ := jt_o l4 l5 (by decide)
  obtain ⟨is, on', ot', op', os', sc', sd', sp', sw', gc', gp', gr', bc', bg', bs', bt', be', ql', qg', fc', fg', fs', fm', yv', yn', yc', ts', tp', tn', xe', xf', g1, g2⟩ := st_run hV hr hU hz m2 (by rw [l5]; decide) ts tp tn xe xf
  refine ⟨is, xe', xf', on', ot', op', os', sc', sd', sp', sw', gc', gp', gr', bc', bg', bs', bt', be', ql', qg', fc', fg', fs', fm', yn', yc', yv', tp', ts', tn', fun kk => sfb_f c0 (sfb_f c1 (sfb_f c2 (sfb_f c3 (sfb_f c4 (sfb_f c5 (sfb_f c6 (sfb_f c7 (?_)))))))), g2⟩
  exact sfc3_i p1 (sfn_r q1 (sfg_i q2 (sfc2_i q3 (sfc3_i r1 (sfn_r t1 (sfg_i t2 (sfc2_i t3 (sfc3_i u1 (sfn_r w1 (sfg_i w2 (sfc2_i w3 (sfc3_i k1 (sfn_r l1 (sfg_i l2 (sfc2_i l3 (sfc2_i m1 (sfg_i m3 (sfc32_i g1 rfl))))))))))))))))))
theorem lu10 {cA : Nat → Nat} (hL : cA 201 ≤ 260) : ∀ m (i d : Nat) (M : Nat → Nat) (U : Nat) (on : Int32) (ot : Int32) (op : Int32) (os : Int32) (sc : Int32) (sd : Nat → Int32) (sp : Nat → Int32) (sw : Nat → Int32) (gc : Int32) (gp : Nat → Int32) (gr : Nat → Int32) (bc : Int32) (bg : Nat → Int32) (bs : Nat → Int32) (bt : Nat → Int32) (be : Nat → Int32) (ql : Nat → Int32) (qg : Nat → Int32) (fc : Int32) (fg : Nat → Int32) (fs : Nat → Int32) (fm : Nat → Int32) (yv : Nat → OffT) (yn yc : Int32) (H : Nat → Nat → Nat) (c : Nat) (xe xf tp : Int32) (ts tn : Nat → Int32) (q : Nat → Int64), i ≤ 7 → 7 - i < m → d ≤ i → d ≤ c → VW M U → U + 3600 * (7 - i) ≤ 4000000 → RO M on ot op os sc sd sp sw gc gp gr bc bg bs bt be ql qg fc fg fs fm → HZ U yv yn yc H c → (∀ j, j < d → q j = zsm (H (d - 1 - j))) → ∃ (d' : Nat) (M' : Nat → Nat) (U' : Nat) (on' : Int32) (ot' : Int32) (op' : Int32) (os' : Int32) (sc' : Int32) (sd' : Nat → Int32) (sp' : Nat → Int32) (sw' : Nat → Int32) (gc' : Int32) (gp' : Nat → Int32) (gr' : Nat → Int32) (bc' : Int32) (bg' : Nat → Int32) (bs' : Nat → Int32) (bt' : Nat → Int32) (be' : Nat → Int32) (ql' : Nat → Int32) (qg' : Nat → Int32) (fc' : Int32) (fg' : Nat → Int32) (fs' : Nat → Int32) (fm' : Nat → Int32) (yv' : Nat → OffT) (yn' yc' : Int32) (H' : Nat → Nat → Nat) (c' : Nat) (xe' xf' tp' : Int32) (ts' tn' : Nat → Int32) (q' : Nat → Int64), (∀ kk, f_L_undone_L10 cA kk m (nI i) (nI d) xe xf on ot op os sc sd sp sw gc gp gr bc bg bs bt be ql qg fc fg fs fm yn yc yv 0 tp ts tn q = kk (nI d') xe' xf' on' ot' op' os' sc' sd' sp' sw' gc' gp' gr' bc' bg' bs' bt' be' ql' qg' fc' fg' fs' fm' yn' yc' yv' 0 tp' ts' tn' q') ∧ d' ≤ 7 ∧ d' ≤ c' ∧ VW M' U' ∧ RO M' on' ot' op' os' sc' sd' sp' sw' gc' gp' gr' bc' bg' bs' bt' be' ql' qg' fc' fg' fs' fm' ∧ HZ U' yv' yn' yc' H' c' ∧ (∀ j, j < d' → q' j = zsm (H' (d' - 1 - j))) := by
  intro m
  induction m with
  | zero => intro i d M U on ot op os sc sd sp sw gc gp gr bc bg bs bt be ql qg fc fg fs fm yv yn yc H c xe xf tp ts tn q hi hm; omega
  | succ m ih =>
    intro i d M U on ot op os sc sd sp sw gc gp gr bc bg bs bt be ql qg fc fg fs fm yv yn yc H c xe xf tp ts tn q hi hm hd hdc hV hU hr hz hq
    rcases Nat.lt_or_ge i 7 with z | z
    · obtain ⟨r, hcell⟩ := a_cell hL (a := 19 + i) (by omega)
      have hcell2 : f_L_cell cA ((19 : Int32) + nI i) = some r := by rw [show (19 : Int32) = nI 19 from rfl, nI_add]; exact hcell
      obtain ⟨e38, b38, i38⟩ := ius_n r 1 (by simp)
      obtain ⟨e39, b39, i39⟩ := ius_n (iushr r 1) 4 (by simp)
      obtain ⟨is, xe', xf', on', ot', op', os', sc', sd', sp', sw', gc', gp', gr', bc', bg', bs', bt', be', ql', qg', fc', fg', fs', fm', yn', yc', yv', tp', ts', tn', hsw, hcase⟩ := sw_un (ρ := Int32 × Int32 × Int32 × Int32 × Int32 × Int32 × (Nat → Int32) × (Nat → Int32) × (Nat → Int32) × Int32 × (Nat → Int32) × (Nat → Int32) × Int32 × (Nat → Int32) × (Nat → Int32) × (Nat → Int32) × (Nat → Int32) × (Nat → Int32) × (Nat → Int32) × Int32 × (Nat → Int32) × (Nat → Int32) × (Nat → Int32) × (Nat → OffT) × Int32 × Int32 × (Nat → Int32) × Int32 × Int32 × (Nat → Int32) × Int32 × Int32) hV hr (by omega) hz (iushr r 1) (iushr (iushr r 1) 4) ⟨e39, b39, i39⟩ xe xf tp ts tn
      have hin : sf_in (nI d) 9 = true := of_eq_true (nI_inT (by omega) (by omega))
      have hcl : (nI d).toNatClampNeg = d := nI_clamp (by omega)
      have hsm := lz_sum hV hr
      have hqd : vp_updL q (nI d).toNatClampNeg (zsm M) d = zsm M := by rw [hcl]; exact if_pos rfl
      have hqo : ∀ j, j < d → vp_updL q (nI d).toNatClampNeg (zsm M) j = q j := fun j hj => by rw [hcl]; exact if_neg (by omega)
      rcases hcase with ⟨h1, h2, h3⟩ | ⟨h1, M', h2, h3, h4⟩
      · have hn : ¬ (0 : Int32) ≤ is := by
          rw [Int32.le_iff_toInt_le]
          rw [Int32.lt_iff_toInt_lt] at h1
          omega
        obtain ⟨d2, M2, U2, on2, ot2, op2, os2, sc2, sd2, sp2, sw2, gc2, gp2, gr2, bc2, bg2, bs2, bt2, be2, ql2, qg2, fc2, fg2, fs2, fm2, yv2, yn2, yc2, H2, c2, xe2, xf2, tp2, ts2, tn2, q2, f1, f2⟩ := ih (i + 1) d M U on' ot' op' os' sc' sd' sp' sw' gc' gp' gr' bc' bg' bs' bt' be' ql' qg' fc' fg' fs' fm' yv' yn' yc' H c xe' xf' tp' ts' tn' (vp_updL q (nI d).toNatClampNeg (zsm M)) (by omega) (by omega) (by omega) hdc hV (by omega) h2 h3 (fun j hj => by rw [hqo j hj]; exact hq j hj)
        refine ⟨d2, M2, U2, on2, ot2, op2, os2, sc2, sd2, sp2, sw2, gc2, gp2, gr2, bc2, bg2, bs2, bt2, be2, ql2, qg2, fc2, fg2, fs2, fm2, yv2, yn2, yc2, H2, c2, xe2, xf2, tp2, ts2, tn2, q2, fun kk => ?_, f2⟩
        rw [f_L_undone_L10]
        refine sfb_f (by rw [show (7 : Int32) = nI 7 from rfl, nI_leP (by omega) (by omega)]; omega) (sfc1_i hcell2 (sfn_r rfl (sfn_r rfl (sfc1_i hsm (sfg_i hin (sfn_r rfl ?_))))))
        refine sfj_t32 is xe' xf' on' ot' op' os' sc' sd' sp' sw' gc' gp' gr' bc' bg' bs' bt' be' ql' qg' fc' fg' fs' fm' yn' yc' yv' 0 tp' ts' tn' hsw ?_
        have hsm2 := lz_sum hV h2
        refine sfb_f hn (sfc1_i hsm2 (sfg_i hin (sfb_t (by rw [hcl]; rw [hcl] at hqd; rw [hqd, lgc]; trivial) ?_)))
        exact sfj_t 0 (fun k => sfb_f hn rfl) (sfn_r (nI_add d 0) (sfn_r (nI_1 i) (f1 kk)))
      · have h8 : d + 1 ≤ zc8 c := by unfold zc8; split <;> omega
        obtain ⟨d2, M2, U2, on2, ot2, op2, os2, sc2, sd2, sp2, sw2, gc2, gp2, gr2, bc2, bg2, bs2, bt2, be2, ql2, qg2, fc2, fg2, fs2, fm2, yv2, yn2, yc2, H2, c2, xe2, xf2, tp2, ts2, tn2, q2, f1, f2⟩ := ih (i + 1) (d + 1) M' (U + 3600) on' ot' op' os' sc' sd' sp' sw' gc' gp' gr' bc' bg' bs' bt' be' ql' qg' fc' fg' fs' fm' yv' yn' yc' (zpu M H) (zc8 c) xe' xf' tp' ts' tn' (vp_updL q (nI d).toNatClampNeg (zsm M)) (by omega) (by omega) (by omega) h8 h2 (by omega) h3 h4 (fun j hj => by
          rcases Nat.decEq j d with y | y
          · rw [hqo j (by omega), hq j (by omega), zpu, if_neg (by omega), show d + 1 - 1 - j - 1 = d - 1 - j by omega]
          · rw [y, hqd, zpu, if_pos (by omega)])
        refine ⟨d2, M2, U2, on2, ot2, op2, os2, sc2, sd2, sp2, sw2, gc2, gp2, gr2, bc2, bg2, bs2, bt2, be2, ql2, qg2, fc2, fg2, fs2, fm2, yv2, yn2, yc2, H2, c2, xe2, xf2, tp2, ts2, tn2, q2, fun kk => ?_, f2⟩
        rw [f_L_undone_L10]
        refine sfb_f (by rw [show (7 : Int32) = nI 7 from rfl, nI_leP (by omega) (by omega)]; omega) (sfc1_i hcell2 (sfn_r rfl (sfn_r rfl (sfc1_i hsm (sfg_i hin (sfn_r rfl ?_))))))
        refine sfj_t32 is xe' xf' on' ot' op' os' sc' sd' sp' sw' gc' gp' gr' bc' bg' bs' bt' be' ql' qg' fc' fg' fs' fm' yn' yc' yv' 0 tp' ts' tn' hsw ?_
        exact sfb_t h1 (sfj_t 1 (fun k => sfb_t h1 rfl) (sfn_r (nI_1 d) (sfn_r (nI_1 i) (f1 kk))))
    · have e : i = 7 := by omega
      subst e
      refine ⟨d, M, U, on, ot, op, os, sc, sd, sp, sw, gc, gp, gr, bc, bg, bs, bt, be, ql, qg, fc, fg, fs, fm, yv, yn, yc, H, c, xe, xf, tp, ts, tn, q, fun kk => ?_, hd, hdc, hV, hr, hz, hq⟩
      rw [f_L_undone_L10]
      exact sfb_t (by decide) rfl
theorem lu357 {yv : Nat → OffT} {y1 y2 y3 y4 : Int32} {z1 z2 : Nat → Int32} {q : Nat → Int64} : ∀ m (d : Nat) (M : Nat → Nat) (U : Nat) (on : Int32) (ot : Int32) (op : Int32) (os : Int32) (sc : Int32) (sd : Nat → Int32) (sp : Nat → Int32) (sw : Nat → Int32) (gc : Int32) (gp : Nat → Int32) (gr : Nat → Int32) (bc : Int32) (bg : Nat → Int32) (bs : Nat → Int32) (bt : Nat → Int32) (be : Nat → Int32) (ql : Nat → Int32) (qg : Nat → Int32) (fc : Int32) (fg : Nat → Int32) (fs : Nat → Int32) (fm : Nat → Int32) (yn yc : Int32) (H : Nat → Nat → Nat) (c : Nat) (p : Int32), d < m → d ≤ 8 → d ≤ c → VW M U → RO M on ot op os sc sd sp sw gc gp gr bc bg bs bt be ql qg fc fg fs fm → HZ U yv yn yc H c → (∀ j, j < d → q j = zsm (H (d - 1 - j))) → p.toInt = (d : Int) - 1 → ∃ (on' : Int32) (ot' : Int32) (op' : Int32) (os' : Int32) (sc' : Int32) (sd' : Nat → Int32) (sp' : Nat → Int32) (sw' : Nat → Int32) (gc' : Int32) (gp' : Nat → Int32) (gr' : Nat → Int32) (bc' : Int32) (bg' : Nat → Int32) (bs' : Nat → Int32) (bt' : Nat → Int32) (be' : Nat → Int32) (ql' : Nat → Int32) (qg' : Nat → Int32) (fc' : Int32) (fg' : Nat → Int32) (fs' : Nat → Int32) (fm' : Nat → Int32) (yn' yc' : Int32), ∀ kk, f_L_undone_L357 y1 y2 yv y3 y4 z1 z2 q kk m p (nI c) on ot op os sc sd sp sw gc gp gr bc bg bs bt be ql qg fc fg fs fm yn yc = kk on' ot' op' os' sc' sd' sp' sw' gc' gp' gr' bc' bg' bs' bt' be' ql' qg' fc' fg' fs' fm' yn' yc' := by
  intro m
  induction m with
  | zero => intro d M U on ot op os sc sd sp sw gc gp gr bc bg bs bt be ql qg fc fg fs fm yn yc H c p hd; omega
  | succ m ih =>
    intro d M U on ot op os sc sd sp sw gc gp gr bc bg bs bt be ql qg fc fg fs fm yn yc H c p hd hd8 hdc hV hr hz hq hp
    cases d with
    | zero =>
      refine ⟨on, ot, op, os, sc, sd, sp, sw, gc, gp, gr, bc, bg, bs, bt, be, ql, qg, fc, fg, fs, fm, yn, yc, fun kk => ?_⟩
      rw [f_L_undone_L357]
      exact sfb_t (by rw [Int32.lt_iff_toInt_lt, hp]; decide) rfl
    | succ d =>
      have ep : p = nI d := Int32.toInt_inj.mp (by rw [hp, nI_toInt (by omega)]; omega)
      subst ep
      have hc8 : c ≤ 8 := by obtain ⟨n, _, x2, _⟩ := hz; exact x2
      obtain ⟨on', ot', op', os', sc', sd', sp', sw', gc', gp', gr', bc', bg', bs', bt', be', ql', qg', fc', fg', fs', fm', yn', g1, g2, g3, g4⟩ := st_undo hz (by omega : 0 < c)
      have ep2 : (nI d + (-1 : Int32)).toInt = (d : Int) - 1 := by
        cases d with
        | zero => decide
        | succ t => rw [show (-1 : Int32) = -nI 1 from rfl, nI_addneg (by omega), nI_toInt (by omega)]; omega
      have hcl : (nI d).toNatClampNeg = d := nI_clamp (by omega)
      have hqd := hq d (by omega)
      rw [show d + 1 - 1 - d = 0 by omega] at hqd
      obtain ⟨on2, ot2, op2, os2, sc2, sd2, sp2, sw2, gc2, gp2, gr2, bc2, bg2, bs2, bt2, be2, ql2, qg2, fc2, fg2, fs2, fm2, yn2, yc2, f1⟩ := ih d (H 0) U on' ot' op' os' sc' sd' sp' sw' gc' gp' gr' bc' bg' bs' bt' be' ql' qg' fc' fg' fs' fm' yn' (nI (c - 1)) (fun j => H (j + 1)) (c - 1) _ (by omega) (by omega) (by omega) g2 g3 g4 (fun j hj => (hq j (by omega)).trans (congrArg (fun k => zsm (H k)) (show d + 1 - 1 - j = d - 1 - j + 1 by omega))) ep2
      refine ⟨on2, ot2, op2, os2, sc2, sd2, sp2, sw2, gc2, gp2, gr2, bc2, bg2, bs2, bt2, be2, ql2, qg2, fc2, fg2, fs2, fm2, yn2, yc2, fun kk => ?_⟩
      rw [f_L_undone_L357]
      refine sfb_f (nn_0 (by omega)) (sfn_r (y := nI (c - 1)) (by rw [show (-1 : Int32) = -nI 1 from rfl, nI_addneg (by omega)]) (sfc25_i g1 (sfb_t rfl (sfc1_i (lz_sum g2 g3) (sfg_i (of_eq_true (nI_inT (by omega) (by omega))) (sfb_t ?_ (sfn_r rfl (f1 kk))))))))
      rw [hcl, hqd, lgc]; trivial
theorem l_undone {cA : Nat → Nat} (hL : cA 201 ≤ 260) (hV : VW M U) (hr : RO M on ot op os sc sd sp sw gc gp gr bc bg bs bt be ql qg fc fg fs fm) (hU : U + 25200 ≤ 4000000) (hz : HZ U yv yn yc H c) (ts : Nat → Int32) (tp : Int32) (tn : Nat → Int32) (xe xf : Int32) : ∃ (on' : Int32) (ot' : Int32) (op' : Int32) (os' : Int32) (sc' : Int32) (sd' : Nat → Int32) (sp' : Nat → Int32) (sw' : Nat → Int32) (gc' : Int32) (gp' : Nat → Int32) (gr' : Nat → Int32) (bc' : Int32) (bg' : Nat → Int32) (bs' : Nat → Int32) (bt' : Nat → Int32) (be' : Nat → Int32) (ql' : Nat → Int32) (qg' : Nat → Int32) (fc' : Int32) (fg' : Nat → Int32) (fs' : Nat → Int32) (fm' : Nat → Int32) (yv' : Nat → OffT) (yn' yc' : Int32) (ts' : Nat → Int32) (tl' tp' : Int32) (tn' : Nat → Int32) (xe' xf' : Int32), f_L_undone cA on ot op os sc sd sp sw gc gp gr bc bg bs bt be ql qg fc fg fs fm yv yn yc ts 0 tp tn xe xf = some (1, on', ot', op', os', sc', sd', sp', sw', gc', gp', gr', bc', bg', bs', bt', be', ql', qg', fc', fg', fs', fm', yv', yn', yc', ts', tl', tp', tn', xe', xf') := by
  obtain ⟨d1, M1, U1, on1, ot1, op1, os1, sc1, sd1, sp1, sw1, gc1, gp1, gr1, bc1, bg1, bs1, bt1, be1, ql1, qg1, fc1, fg1, fs1, fm1, yv1, yn1, yc1, H1, c1, xe1, xf1, tp1, ts1, tn1, q1, f1, f2, f3, f4, f5, f6, f7⟩ := lu10 hL 9 0 0 M U on ot op os sc sd sp sw gc gp gr bc bg bs bt be ql qg fc fg fs fm yv yn yc H c xe xf tp ts tn (fun _ => 0) (by omega) (by omega) (Nat.le_refl _) (Nat.zero_le _) hV (by omega) hr hz (fun j hj => absurd hj (Nat.not_lt_zero j))
  have hyc : yc1 = nI c1 := by obtain ⟨n, _, _, _, x4, _⟩ := f6; exact x4
  obtain ⟨on2, ot2, op2, os2, sc2, sd2, sp2, sw2, gc2, gp2, gr2, bc2, bg2, bs2, bt2, be2, ql2, qg2, fc2, fg2, fs2, fm2, yn2, yc2, g1⟩ := lu357 (yv := yv1) (y1 := xe1) (y2 := xf1) (y3 := 0) (y4 := tp1) (z1 := ts1) (z2 := tn1) (q := q1) 9 d1 M1 U1 on1 ot1 op1 os1 sc1 sd1 sp1 sw1 gc1 gp1 gr1 bc1 bg1 bs1 bt1 be1 ql1 qg1 fc1 fg1 fs1 fm1 yn1 yc1 H1 c1 (nI d1 - 1) (by omega) (by omega) f3 f4 f5 f6 f7 (by rw [il_1, nI_stoInt (by omega) (by omega)]; rfl)
  refine ⟨on2, ot2, op2, os2, sc2, sd2, sp2, sw2, gc2, gp2, gr2, bc2, bg2, bs2, bt2, be2, ql2, qg2, fc2, fg2, fs2, fm2, yv1, yn2, yc2, ts1, 0, tp1, tn1, xe1, xf1, ?_⟩
  rw [f_L_undone]
  refine (f1 _).trans (sfc1_i (a := yc1) rfl (sfn_r rfl ?_))
  rw [hyc] at g1 ⊢
  exact g1 _
end UND
