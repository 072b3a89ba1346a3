section ST31
variable {G : aw_G} {J : aw_J} {d kc ks : Nat} {Q : aw_O → aw_J → Prop} {x1 b o : Nat} {ad : Nat → Nat} {s : mo_S} {f : Nat → Int64}
abbrev mW_law : aw_M := (x, code, 7, ret, [])
theorem ai_sld {M : aw_M} {pc : Nat} {L : List (Option Value)} {st : List Value} {i : Int} (hd : decode M.2.1 pc = .ok (.iaload, 1)) (h0 : 0 ≤ i) (h1 : i < (G.2.2.2.2.2.1 : Int)) (h2 : G.2.2.2.2.2.1 ≤ 3584) (k : aw_W G M d Q (pc + 1) L (.int (iI (lw_s G i)) :: st) J kc ks) : aw_W G M d Q pc L (.int (iI i) :: .ref G.2.2.2.2.1 :: st) J kc ks := by
  refine aw_sld hd (iI_in h0 h1 (by omega)) ?_
  rw [iI_cl (by omega), iI_of (G.2.2.2.2.2.2 i.toNat)]
  exact k
theorem lk_file {i : Int} {l5 l6 : Option Value} (htg : aw_tg G) (hkc : 40 ≤ kc) (hks : 400 ≤ ks) (hi : 0 ≤ i ∧ i + 7 ≤ (G.2.2.2.2.2.1 : Int)) (hN : G.2.2.2.2.2.1 ≤ 3584) (h : LM G x1 b o ad J s s f) (hn : ∀ s' f' J' m5 m6 kc' ks', kc - 40 ≤ kc' → ks - 400 ≤ ks' → LM G x1 b o ad J' s' s' f' → aw_W G mW_law (d + 31) Q 1201 [some (.ref G.2.2.2.2.1), some (.ref x1), some (.ref b), some (.ref o), some (.int (iI i)), m5, m6] [] J' kc' ks') : aw_W G mW_law (d + 31) Q 116 [some (.ref G.2.2.2.2.1), some (.ref x1), some (.ref b), some (.ref o), some (.int (iI i)), l5, l6] [] J kc ks := by
  first | refine aw_aload_n dW_law_116 rfl ?_ | refine aw_aload_nQ dW_law_116 rfl ?_ | refine aw_aload_nN dW_law_116 rfl ?_
  first | refine aw_aload_n dW_law_117 rfl ?_ | refine aw_aload_nQ dW_law_117 rfl ?_ | refine aw_aload_nN dW_law_117 rfl ?_
  refine aw_iload dW_law_118 rfl ?_
  refine ai_iconst dW_law_120 ?_
  refine ai_iadd dW_law_121 ?_
  refine ai_sld dW_law_122 (by omega) (by omega) hN ?_
  first | refine aw_aload_n dW_law_123 rfl ?_ | refine aw_aload_nQ dW_law_123 rfl ?_ | refine aw_aload_nN dW_law_123 rfl ?_
  refine aw_iload dW_law_124 rfl ?_
  refine ai_iconst dW_law_126 ?_
  refine ai_iadd dW_law_127 ?_
  refine ai_sld dW_law_128 (by omega) (by omega) hN ?_
  first | refine aw_aload_n dW_law_129 rfl ?_ | refine aw_aload_nQ dW_law_129 rfl ?_ | refine aw_aload_nN dW_law_129 rfl ?_
  refine aw_iload dW_law_130 rfl ?_
  refine ai_iconst dW_law_132 ?_
  refine ai_iadd dW_law_133 ?_
  refine ai_sld dW_law_134 (by omega) (by omega) hN ?_
  first | refine aw_aload_n dW_law_135 rfl ?_ | refine aw_aload_nQ dW_law_135 rfl ?_ | refine aw_aload_nN dW_law_135 rfl ?_
  refine aw_iload dW_law_136 rfl ?_
  refine ai_iconst dW_law_138 ?_
  refine ai_iadd dW_law_139 ?_
  refine ai_sld dW_law_140 (by omega) (by omega) hN ?_
  first | refine aw_aload_n dW_law_141 rfl ?_ | refine aw_aload_nQ dW_law_141 rfl ?_ | refine aw_aload_nN dW_law_141 rfl ?_
  refine aw_callSW (vs := [.ref x1, .int (iI (lw_s G (i + 1))), .int (iI (lw_s G (i + 2))), .int (iI (lw_s G (i + 3))), .int (iI (lw_s G (i + 4))), .ref o]) (st := []) (mc' := 40) (ms' := 400) (kc' := kc - 40) (ks' := ks - 400) dW_law_142 cW_72 rfl (Nat.le_of_ble_eq_true rfl) (Nat.le_of_ble_eq_true rfl) (by omega) (by omega) ?_
  refine lc_file (d := d) htg (Nat.le_refl _) (Nat.le_refl _) h (lw_sb _ _) (lw_sb _ _) (lw_sb _ _) (lw_sb _ _) (fun c r s1 J1 f1 hr h1 hf => ?_)
  refine aw_istore dW_law_145 (by decide) rfl ?_
  first | refine aw_aload_n dW_law_147 rfl ?_ | refine aw_aload_nQ dW_law_147 rfl ?_ | refine aw_aload_nN dW_law_147 rfl ?_
  first | refine aw_aload_n dW_law_148 rfl ?_ | refine aw_aload_nQ dW_law_148 rfl ?_ | refine aw_aload_nN dW_law_148 rfl ?_
  refine aw_iload dW_law_149 rfl ?_
  refine ai_iconst dW_law_151 ?_
  refine ai_iadd dW_law_152 ?_
  refine ai_sld dW_law_153 (by omega) (by omega) hN ?_
  first | refine aw_aload_n dW_law_154 rfl ?_ | refine aw_aload_nQ dW_law_154 rfl ?_ | refine aw_aload_nN dW_law_154 rfl ?_
  refine aw_iload dW_law_155 rfl ?_
  refine ai_iconst dW_law_157 ?_
  refine ai_iadd dW_law_158 ?_
  refine ai_sld dW_law_159 (by omega) (by omega) hN ?_
  first | refine aw_aload_n dW_law_160 rfl ?_ | refine aw_aload_nQ dW_law_160 rfl ?_ | refine aw_aload_nN dW_law_160 rfl ?_
  refine aw_iload dW_law_161 rfl ?_
  refine ai_iconst dW_law_163 ?_
  refine ai_iadd dW_law_164 ?_
  refine ai_sld dW_law_165 (by omega) (by omega) hN ?_
  first | refine aw_aload_n dW_law_166 rfl ?_ | refine aw_aload_nQ dW_law_166 rfl ?_ | refine aw_aload_nN dW_law_166 rfl ?_
  refine aw_iload dW_law_167 rfl ?_
  refine ai_iconst dW_law_169 ?_
  refine ai_iadd dW_law_170 ?_
  refine ai_sld dW_law_171 (by omega) (by omega) hN ?_
  obtain ⟨fsb, hjb⟩ := h1.jb
  refine aw_callV4 (mc' := 0) (ms' := 0) (kc' := kc - 40) (ks' := ks - 400) dW_law_172 cW_77 hjb (Nat.le_of_ble_eq_true rfl) (Nat.le_of_ble_eq_true rfl) (by omega) (by omega) rfl ?_
  refine lm_file (d := d) htg h1 h.1 (lw_sb _ _) (lw_sb _ _) (lw_sb _ _) (lw_sb _ _) hr (fun r' s2 J2 h2 ht he => ?_)
  have hcb : iB c := by rw [← ht]; exact h2.b0
  refine aw_istore dW_law_175 (by decide) rfl ?_
  first | refine aw_aload_n dW_law_177 rfl ?_ | refine aw_aload_nQ dW_law_177 rfl ?_ | refine aw_aload_nN dW_law_177 rfl ?_
  obtain ⟨fsc, hjc⟩ := h2.jb
  refine aw_callV0 (mc' := 0) (ms' := 0) (kc' := kc - 40) (ks' := ks - 400) dW_law_178 cW_78 hjc (Nat.le_of_ble_eq_true rfl) (Nat.le_of_ble_eq_true rfl) (by omega) (by omega) rfl ?_
  refine lm_thrown htg h2 (fun J3 h3 => ?_)
  rw [ht]
  refine aw_iload dW_law_181 rfl ?_
  refine ai_icmp_eq (tgt := 188) dW_law_183 (by decide) hcb hcb (fun _ => ?_) (fun z => absurd rfl z)
  refine aw_iload dW_law_188 rfl ?_
  refine ai_if_ne (tgt := 205) dW_law_190 (by decide) hcb (fun hb190 => ?_) (fun hb190 => ?_)
  · refine aw_goto (tgt := 1201) dW_law_205 (by decide) ?_
    exact hn s2 f1 J3 _ _ _ _ (Nat.le_refl _) (Nat.le_refl _) h3
  · first | refine aw_aload_n dW_law_193 rfl ?_ | refine aw_aload_nQ dW_law_193 rfl ?_ | refine aw_aload_nN dW_law_193 rfl ?_
    refine ai_iconst dW_law_194 ?_
    refine aw_lald dW_law_195 h3.out (iI_in (by decide) (by decide) (by decide)) ?_
    refine aw_iload dW_law_196 rfl ?_
    refine aw_i2l dW_law_198 ?_
    refine aw_lcmp dW_law_199 ?_
    refine aw_if_eq (tgt := 205) dW_law_200 (by decide) (fun _ => ?_) (fun z => absurd ((mo_lcmp _ _).mpr (by rw [iI_cl (by decide), he hb190]; exact hf hb190)) z)
    refine aw_goto (tgt := 1201) dW_law_205 (by decide) ?_
    exact hn s2 f1 J3 _ _ _ _ (Nat.le_refl _) (Nat.le_refl _) h3

theorem lk_descriptor {i : Int} {l5 l6 : Option Value} (htg : aw_tg G) (hkc : 40 ≤ kc) (hks : 400 ≤ ks) (hi : 0 ≤ i ∧ i + 7 ≤ (G.2.2.2.2.2.1 : Int)) (hN : G.2.2.2.2.2.1 ≤ 3584) (h : LM G x1 b o ad J s s f) (hn : ∀ s' f' J' m5 m6 kc' ks', kc - 40 ≤ kc' → ks - 400 ≤ ks' → LM G x1 b o ad J' s' s' f' → aw_W G mW_law (d + 31) Q 1201 [some (.ref G.2.2.2.2.1), some (.ref x1), some (.ref b), some (.ref o), some (.int (iI i)), m5, m6] [] J' kc' ks') : aw_W G mW_law (d + 31) Q 208 [some (.ref G.2.2.2.2.1), some (.ref x1), some (.ref b), some (.ref o), some (.int (iI i)), l5, l6] [] J kc ks := by
  first | refine aw_aload_n dW_law_208 rfl ?_ | refine aw_aload_nQ dW_law_208 rfl ?_ | refine aw_aload_nN dW_law_208 rfl ?_
  first | refine aw_aload_n dW_law_209 rfl ?_ | refine aw_aload_nQ dW_law_209 rfl ?_ | refine aw_aload_nN dW_law_209 rfl ?_
  refine aw_iload dW_law_210 rfl ?_
  refine ai_iconst dW_law_212 ?_
  refine ai_iadd dW_law_213 ?_
  refine ai_sld dW_law_214 (by omega) (by omega) hN ?_
  first | refine aw_aload_n dW_law_215 rfl ?_ | refine aw_aload_nQ dW_law_215 rfl ?_ | refine aw_aload_nN dW_law_215 rfl ?_
  refine aw_iload dW_law_216 rfl ?_
  refine ai_iconst dW_law_218 ?_
  refine ai_iadd dW_law_219 ?_
  refine ai_sld dW_law_220 (by omega) (by omega) hN ?_
  first | refine aw_aload_n dW_law_221 rfl ?_ | refine aw_aload_nQ dW_law_221 rfl ?_ | refine aw_aload_nN dW_law_221 rfl ?_
  refine aw_iload dW_law_222 rfl ?_
  refine ai_iconst dW_law_224 ?_
  refine ai_iadd dW_law_225 ?_
  refine ai_sld dW_law_226 (by omega) (by omega) hN ?_
  first | refine aw_aload_n dW_law_227 rfl ?_ | refine aw_aload_nQ dW_law_227 rfl ?_ | refine aw_aload_nN dW_law_227 rfl ?_
  refine aw_callSW (vs := [.ref x1, .int (iI (lw_s G (i + 1))), .int (iI (lw_s G (i + 2))), .int (iI (lw_s G (i + 3))), .ref o]) (st := []) (mc' := 40) (ms' := 400) (kc' := kc - 40) (ks' := ks - 400) dW_law_228 cW_82 rfl (Nat.le_of_ble_eq_true rfl) (Nat.le_of_ble_eq_true rfl) (by omega) (by omega) ?_
  refine lc_descriptor (d := d) htg (Nat.le_refl _) (Nat.le_refl _) h (lw_sb _ _) (lw_sb _ _) (lw_sb _ _) (fun c r s1 J1 f1 hr h1 hf => ?_)
  refine aw_istore dW_law_231 (by decide) rfl ?_
  first | refine aw_aload_n dW_law_233 rfl ?_ | refine aw_aload_nQ dW_law_233 rfl ?_ | refine aw_aload_nN dW_law_233 rfl ?_
  first | refine aw_aload_n dW_law_234 rfl ?_ | refine aw_aload_nQ dW_law_234 rfl ?_ | refine aw_aload_nN dW_law_234 rfl ?_
  refine aw_iload dW_law_235 rfl ?_
  refine ai_iconst dW_law_237 ?_
  refine ai_iadd dW_law_238 ?_
  refine ai_sld dW_law_239 (by omega) (by omega) hN ?_
  first | refine aw_aload_n dW_law_240 rfl ?_ | refine aw_aload_nQ dW_law_240 rfl ?_ | refine aw_aload_nN dW_law_240 rfl ?_
  refine aw_iload dW_law_241 rfl ?_
  refine ai_iconst dW_law_243 ?_
  refine ai_iadd dW_law_244 ?_
  refine ai_sld dW_law_245 (by omega) (by omega) hN ?_
  first | refine aw_aload_n dW_law_246 rfl ?_ | refine aw_aload_nQ dW_law_246 rfl ?_ | refine aw_aload_nN dW_law_246 rfl ?_
  refine aw_iload dW_law_247 rfl ?_
  refine ai_iconst dW_law_249 ?_
  refine ai_iadd dW_law_250 ?_
  refine ai_sld dW_law_251 (by omega) (by omega) hN ?_
  obtain ⟨fsb, hjb⟩ := h1.jb
  refine aw_callV3 (mc' := 0) (ms' := 0) (kc' := kc - 40) (ks' := ks - 400) dW_law_252 cW_85 hjb (Nat.le_of_ble_eq_true rfl) (Nat.le_of_ble_eq_true rfl) (by omega) (by omega) rfl ?_
  refine lm_descriptor (d := d) htg h1 h.1 (lw_sb _ _) (lw_sb _ _) (lw_sb _ _) hr (fun r' s2 J2 h2 ht he => ?_)
  have hcb : iB c := by rw [← ht]; exact h2.b0
  refine aw_istore dW_law_255 (by decide) rfl ?_
  first | refine aw_aload_n dW_law_257 rfl ?_ | refine aw_aload_nQ dW_law_257 rfl ?_ | refine aw_aload_nN dW_law_257 rfl ?_
  obtain ⟨fsc, hjc⟩ := h2.jb
  refine aw_callV0 (mc' := 0) (ms' := 0) (kc' := kc - 40) (ks' := ks - 400) dW_law_258 cW_78 hjc (Nat.le_of_ble_eq_true rfl) (Nat.le_of_ble_eq_true rfl) (by omega) (by omega) rfl ?_
  refine lm_thrown htg h2 (fun J3 h3 => ?_)
  rw [ht]
  refine aw_iload dW_law_261 rfl ?_
  refine ai_icmp_eq (tgt := 268) dW_law_263 (by decide) hcb hcb (fun _ => ?_) (fun z => absurd rfl z)
  refine aw_iload dW_law_268 rfl ?_
  refine ai_if_ne (tgt := 285) dW_law_270 (by decide) hcb (fun hb270 => ?_) (fun hb270 => ?_)
  · refine aw_goto (tgt := 1201) dW_law_285 (by decide) ?_
    exact hn s2 f1 J3 _ _ _ _ (Nat.le_refl _) (Nat.le_refl _) h3
  · first | refine aw_aload_n dW_law_273 rfl ?_ | refine aw_aload_nQ dW_law_273 rfl ?_ | refine aw_aload_nN dW_law_273 rfl ?_
    refine ai_iconst dW_law_274 ?_
    refine aw_lald dW_law_275 h3.out (iI_in (by decide) (by decide) (by decide)) ?_
    refine aw_iload dW_law_276 rfl ?_
    refine aw_i2l dW_law_278 ?_
    refine aw_lcmp dW_law_279 ?_
    refine aw_if_eq (tgt := 285) dW_law_280 (by decide) (fun _ => ?_) (fun z => absurd ((mo_lcmp _ _).mpr (by rw [iI_cl (by decide), he hb270]; exact hf hb270)) z)
    refine aw_goto (tgt := 1201) dW_law_285 (by decide) ?_
    exact hn s2 f1 J3 _ _ _ _ (Nat.le_refl _) (Nat.le_refl _) h3

theorem lk_wipe {i : Int} {l5 l6 : Option Value} (htg : aw_tg G) (hkc : 40 ≤ kc) (hks : 400 ≤ ks) (hi : 0 ≤ i ∧ i + 7 ≤ (G.2.2.2.2.2.1 : Int)) (hN : G.2.2.2.2.2.1 ≤ 3584) (h : LM G x1 b o ad J s s f) (hn : ∀ s' f' J' m5 m6 kc' ks', kc - 40 ≤ kc' → ks - 400 ≤ ks' → LM G x1 b o ad J' s' s' f' → aw_W G mW_law (d + 31) Q 1201 [some (.ref G.2.2.2.2.1), some (.ref x1), some (.ref b), some (.ref o), some (.int (iI i)), m5, m6] [] J' kc' ks') : aw_W G mW_law (d + 31) Q 288 [some (.ref G.2.2.2.2.1), some (.ref x1), some (.ref b), some (.ref o), some (.int (iI i)), l5, l6] [] J kc ks := by
  first | refine aw_aload_n dW_law_288 rfl ?_ | refine aw_aload_nQ dW_law_288 rfl ?_ | refine aw_aload_nN dW_law_288 rfl ?_
  first | refine aw_aload_n dW_law_289 rfl ?_ | refine aw_aload_nQ dW_law_289 rfl ?_ | refine aw_aload_nN dW_law_289 rfl ?_
  refine aw_iload dW_law_290 rfl ?_
  refine ai_iconst dW_law_292 ?_
  refine ai_iadd dW_law_293 ?_
  refine ai_sld dW_law_294 (by omega) (by omega) hN ?_
  refine aw_callSW (vs := [.ref x1, .int (iI (lw_s G (i + 1)))]) (st := []) (mc' := 40) (ms' := 400) (kc' := kc - 40) (ks' := ks - 400) dW_law_295 cW_86 rfl (Nat.le_of_ble_eq_true rfl) (Nat.le_of_ble_eq_true rfl) (by omega) (by omega) ?_
  refine lc_wipe (d := d) htg (Nat.le_refl _) (Nat.le_refl _) h (lw_sb _ _) (fun c s1 J1 hr h1 => ?_)
  refine aw_istore dW_law_298 (by decide) rfl ?_
  first | refine aw_aload_n dW_law_300 rfl ?_ | refine aw_aload_nQ dW_law_300 rfl ?_ | refine aw_aload_nN dW_law_300 rfl ?_
  first | refine aw_aload_n dW_law_301 rfl ?_ | refine aw_aload_nQ dW_law_301 rfl ?_ | refine aw_aload_nN dW_law_301 rfl ?_
  refine aw_iload dW_law_302 rfl ?_
  refine ai_iconst dW_law_304 ?_
  refine ai_iadd dW_law_305 ?_
  refine ai_sld dW_law_306 (by omega) (by omega) hN ?_
  obtain ⟨fsb, hjb⟩ := h1.jb
  refine aw_callV1 (mc' := 0) (ms' := 0) (kc' := kc - 40) (ks' := ks - 400) dW_law_307 cW_89 hjb (Nat.le_of_ble_eq_true rfl) (Nat.le_of_ble_eq_true rfl) (by omega) (by omega) rfl ?_
  refine lm_wipe (d := d) htg h1 (lw_sb _ _) hr (fun s2 J2 h2 ht => ?_)
  have hcb : iB c := by rw [← ht]; exact h2.b0
  first | refine aw_aload_n dW_law_310 rfl ?_ | refine aw_aload_nQ dW_law_310 rfl ?_ | refine aw_aload_nN dW_law_310 rfl ?_
  obtain ⟨fsc, hjc⟩ := h2.jb
  refine aw_callV0 (mc' := 0) (ms' := 0) (kc' := kc - 40) (ks' := ks - 400) dW_law_311 cW_78 hjc (Nat.le_of_ble_eq_true rfl) (Nat.le_of_ble_eq_true rfl) (by omega) (by omega) rfl ?_
  refine lm_thrown htg h2 (fun J3 h3 => ?_)
  rw [ht]
  refine aw_iload dW_law_314 rfl ?_
  refine ai_icmp_eq (tgt := 321) dW_law_316 (by decide) hcb hcb (fun _ => ?_) (fun z => absurd rfl z)
  refine aw_goto (tgt := 1201) dW_law_321 (by decide) ?_
  exact hn s2 f J3 _ _ _ _ (Nat.le_refl _) (Nat.le_refl _) h3

theorem lk_child {i : Int} {l5 l6 : Option Value} (htg : aw_tg G) (hkc : 40 ≤ kc) (hks : 400 ≤ ks) (hi : 0 ≤ i ∧ i + 7 ≤ (G.2.2.2.2.2.1 : Int)) (hN : G.2.2.2.2.2.1 ≤ 3584) (h : LM G x1 b o ad J s s f) (hn : ∀ s' f' J' m5 m6 kc' ks', kc - 40 ≤ kc' → ks - 400 ≤ ks' → LM G x1 b o ad J' s' s' f' → aw_W G mW_law (d + 31) Q 1201 [some (.ref G.2.2.2.2.1), some (.ref x1), some (.ref b), some (.ref o), some (.int (iI i)), m5, m6] [] J' kc' ks') : aw_W G mW_law (d + 31) Q 324 [some (.ref G.2.2.2.2.1), some (.ref x1), some (.ref b), some (.ref o), some (.int (iI i)), l5, l6] [] J kc ks := by
  first | refine aw_aload_n dW_law_324 rfl ?_ | refine aw_aload_nQ dW_law_324 rfl ?_ | refine aw_aload_nN dW_law_324 rfl ?_
  first | refine aw_aload_n dW_law_325 rfl ?_ | refine aw_aload_nQ dW_law_325 rfl ?_ | refine aw_aload_nN dW_law_325 rfl ?_
  refine aw_iload dW_law_326 rfl ?_
  refine ai_iconst dW_law_328 ?_
  refine ai_iadd dW_law_329 ?_
  refine ai_sld dW_law_330 (by omega) (by omega) hN ?_
  first | refine aw_aload_n dW_law_331 rfl ?_ | refine aw_aload_nQ dW_law_331 rfl ?_ | refine aw_aload_nN dW_law_331 rfl ?_
  refine aw_callSW (vs := [.ref x1, .int (iI (lw_s G (i + 1))), .ref o]) (st := []) (mc' := 40) (ms' := 400) (kc' := kc - 40) (ks' := ks - 400) dW_law_332 cW_90 rfl (Nat.le_of_ble_eq_true rfl) (Nat.le_of_ble_eq_true rfl) (by omega) (by omega) ?_
  refine lc_child (d := d) htg (Nat.le_refl _) (Nat.le_refl _) h (lw_sb _ _) (fun c r s1 J1 f1 hr h1 hf => ?_)
  refine aw_istore dW_law_335 (by decide) rfl ?_
  first | refine aw_aload_n dW_law_337 rfl ?_ | refine aw_aload_nQ dW_law_337 rfl ?_ | refine aw_aload_nN dW_law_337 rfl ?_
  first | refine aw_aload_n dW_law_338 rfl ?_ | refine aw_aload_nQ dW_law_338 rfl ?_ | refine aw_aload_nN dW_law_338 rfl ?_
  refine aw_iload dW_law_339 rfl ?_
  refine ai_iconst dW_law_341 ?_
  refine ai_iadd dW_law_342 ?_
  refine ai_sld dW_law_343 (by omega) (by omega) hN ?_
  obtain ⟨fsb, hjb⟩ := h1.jb
  refine aw_callV1 (mc' := 0) (ms' := 0) (kc' := kc - 40) (ks' := ks - 400) dW_law_344 cW_93 hjb (Nat.le_of_ble_eq_true rfl) (Nat.le_of_ble_eq_true rfl) (by omega) (by omega) rfl ?_
  refine lm_child (d := d) htg h1 h.1 (lw_sb _ _) hr (fun r' s2 J2 h2 ht he => ?_)
  have hcb : iB c := by rw [← ht]; exact h2.b0
  refine aw_istore dW_law_347 (by decide) rfl ?_
  first | refine aw_aload_n dW_law_349 rfl ?_ | refine aw_aload_nQ dW_law_349 rfl ?_ | refine aw_aload_nN dW_law_349 rfl ?_
  obtain ⟨fsc, hjc⟩ := h2.jb
  refine aw_callV0 (mc' := 0) (ms' := 0) (kc' := kc - 40) (ks' := ks - 400) dW_law_350 cW_78 hjc (Nat.le_of_ble_eq_true rfl) (Nat.le_of_ble_eq_true rfl) (by omega) (by omega) rfl ?_
  refine lm_thrown htg h2 (fun J3 h3 => ?_)
  rw [ht]
  refine aw_iload dW_law_353 rfl ?_
  refine ai_icmp_eq (tgt := 360) dW_law_355 (by decide) hcb hcb (fun _ => ?_) (fun z => absurd rfl z)
  refine aw_iload dW_law_360 rfl ?_
  refine ai_if_ne (tgt := 377) dW_law_362 (by decide) hcb (fun hb362 => ?_) (fun hb362 => ?_)
  · refine aw_goto (tgt := 1201) dW_law_377 (by decide) ?_
    exact hn s2 f1 J3 _ _ _ _ (Nat.le_refl _) (Nat.le_refl _) h3
  · first | refine aw_aload_n dW_law_365 rfl ?_ | refine aw_aload_nQ dW_law_365 rfl ?_ | refine aw_aload_nN dW_law_365 rfl ?_
    refine ai_iconst dW_law_366 ?_
    refine aw_lald dW_law_367 h3.out (iI_in (by decide) (by decide) (by decide)) ?_
    refine aw_iload dW_law_368 rfl ?_
    refine aw_i2l dW_law_370 ?_
    refine aw_lcmp dW_law_371 ?_
    refine aw_if_eq (tgt := 377) dW_law_372 (by decide) (fun _ => ?_) (fun z => absurd ((mo_lcmp _ _).mpr (by rw [iI_cl (by decide), he hb362]; exact hf hb362)) z)
    refine aw_goto (tgt := 1201) dW_law_377 (by decide) ?_
    exact hn s2 f1 J3 _ _ _ _ (Nat.le_refl _) (Nat.le_refl _) h3

theorem lk_add {i : Int} {l5 l6 : Option Value} (htg : aw_tg G) (hkc : 40 ≤ kc) (hks : 400 ≤ ks) (hi : 0 ≤ i ∧ i + 7 ≤ (G.2.2.2.2.2.1 : Int)) (hN : G.2.2.2.2.2.1 ≤ 3584) (h : LM G x1 b o ad J s s f) (hn : ∀ s' f' J' m5 m6 kc' ks', kc - 40 ≤ kc' → ks - 400 ≤ ks' → LM G x1 b o ad J' s' s' f' → aw_W G mW_law (d + 31) Q 1201 [some (.ref G.2.2.2.2.1), some (.ref x1), some (.ref b), some (.ref o), some (.int (iI i)), m5, m6] [] J' kc' ks') : aw_W G mW_law (d + 31) Q 380 [some (.ref G.2.2.2.2.1), some (.ref x1), some (.ref b), some (.ref o), some (.int (iI i)), l5, l6] [] J kc ks := by
  by_cases hz0 : lw_s G (i + 3) = 0
  · first | refine aw_aload_n dW_law_380 rfl ?_ | refine aw_aload_nQ dW_law_380 rfl ?_ | refine aw_aload_nN dW_law_380 rfl ?_
    first | refine aw_aload_n dW_law_381 rfl ?_ | refine aw_aload_nQ dW_law_381 rfl ?_ | refine aw_aload_nN dW_law_381 rfl ?_
    refine aw_iload dW_law_382 rfl ?_
    refine ai_iconst dW_law_384 ?_
    refine ai_iadd dW_law_385 ?_
    refine ai_sld dW_law_386 (by omega) (by omega) hN ?_
    first | refine aw_aload_n dW_law_387 rfl ?_ | refine aw_aload_nQ dW_law_387 rfl ?_ | refine aw_aload_nN dW_law_387 rfl ?_
    refine aw_iload dW_law_388 rfl ?_
    refine ai_iconst dW_law_390 ?_
    refine ai_iadd dW_law_391 ?_
    refine ai_sld dW_law_392 (by omega) (by omega) hN ?_
    first | refine aw_aload_n dW_law_393 rfl ?_ | refine aw_aload_nQ dW_law_393 rfl ?_ | refine aw_aload_nN dW_law_393 rfl ?_
    refine aw_iload dW_law_394 rfl ?_
    refine ai_iconst dW_law_396 ?_
    refine ai_iadd dW_law_397 ?_
    refine ai_sld dW_law_398 (by omega) (by omega) hN ?_
    refine ai_if_eq (tgt := 406) dW_law_399 (by decide) (lw_sb _ _) (fun _ => ?_) (fun z => absurd hz0 z)
    refine ai_iconst dW_law_406 ?_
    first | refine aw_aload_n dW_law_407 rfl ?_ | refine aw_aload_nQ dW_law_407 rfl ?_ | refine aw_aload_nN dW_law_407 rfl ?_
    refine aw_callSW (vs := [.ref x1, .int (iI (lw_s G (i + 1))), .int (iI (lw_s G (i + 2))), .int (iI 0), .ref o]) (st := []) (mc' := 40) (ms' := 400) (kc' := kc - 40) (ks' := ks - 400) dW_law_408 cW_94 rfl (Nat.le_of_ble_eq_true rfl) (Nat.le_of_ble_eq_true rfl) (by omega) (by omega) ?_
    refine lc_add (d := d) htg (Nat.le_refl _) (Nat.le_refl _) h (lw_sb _ _) (lw_sb _ _) (Or.inl rfl) (fun c r s1 J1 f1 hr h1 hf => ?_)
    refine aw_istore dW_law_411 (by decide) rfl ?_
    first | refine aw_aload_n dW_law_413 rfl ?_ | refine aw_aload_nQ dW_law_413 rfl ?_ | refine aw_aload_nN dW_law_413 rfl ?_
    first | refine aw_aload_n dW_law_414 rfl ?_ | refine aw_aload_nQ dW_law_414 rfl ?_ | refine aw_aload_nN dW_law_414 rfl ?_
    refine aw_iload dW_law_415 rfl ?_
    refine ai_iconst dW_law_417 ?_
    refine ai_iadd dW_law_418 ?_
    refine ai_sld dW_law_419 (by omega) (by omega) hN ?_
    first | refine aw_aload_n dW_law_420 rfl ?_ | refine aw_aload_nQ dW_law_420 rfl ?_ | refine aw_aload_nN dW_law_420 rfl ?_
    refine aw_iload dW_law_421 rfl ?_
    refine ai_iconst dW_law_423 ?_
    refine ai_iadd dW_law_424 ?_
    refine ai_sld dW_law_425 (by omega) (by omega) hN ?_
    first | refine aw_aload_n dW_law_426 rfl ?_ | refine aw_aload_nQ dW_law_426 rfl ?_ | refine aw_aload_nN dW_law_426 rfl ?_
    refine aw_iload dW_law_427 rfl ?_
    refine ai_iconst dW_law_429 ?_
    refine ai_iadd dW_law_430 ?_
    refine ai_sld dW_law_431 (by omega) (by omega) hN ?_
    refine ai_if_eq (tgt := 439) dW_law_432 (by decide) (lw_sb _ _) (fun _ => ?_) (fun z => absurd hz0 z)
    refine ai_iconst dW_law_439 ?_
    obtain ⟨fsb, hjb⟩ := h1.jb
    refine aw_callV3 (mc' := 0) (ms' := 0) (kc' := kc - 40) (ks' := ks - 400) dW_law_440 cW_97 hjb (Nat.le_of_ble_eq_true rfl) (Nat.le_of_ble_eq_true rfl) (by omega) (by omega) rfl ?_
    refine lm_add (d := d) htg h1 h.1 (lw_sb _ _) (lw_sb _ _) (Or.inl rfl) hr (fun r' s2 J2 h2 ht he hz => ?_)
    have hcb : iB c := by rw [← ht]; exact h2.b0
    refine aw_istore dW_law_443 (by decide) rfl ?_
    first | refine aw_aload_n dW_law_445 rfl ?_ | refine aw_aload_nQ dW_law_445 rfl ?_ | refine aw_aload_nN dW_law_445 rfl ?_
    obtain ⟨fsc, hjc⟩ := h2.jb
    refine aw_callV0 (mc' := 0) (ms' := 0) (kc' := kc - 40) (ks' := ks - 400) dW_law_446 cW_78 hjc (Nat.le_of_ble_eq_true rfl) (Nat.le_of_ble_eq_true rfl) (by omega) (by omega) rfl ?_
    refine lm_thrown htg h2 (fun J3 h3 => ?_)
    rw [ht]
    refine aw_iload dW_law_449 rfl ?_
    refine ai_icmp_eq (tgt := 456) dW_law_451 (by decide) hcb hcb (fun _ => ?_) (fun z => absurd rfl z)
    refine aw_iload dW_law_456 rfl ?_
    refine ai_if_ne (tgt := 480) dW_law_458 (by decide) hcb (fun hb458 => ?_) (fun hb458 => ?_)
    · refine aw_goto (tgt := 1201) dW_law_480 (by decide) ?_
      exact hn s2 f1 J3 _ _ _ _ (Nat.le_refl _) (Nat.le_refl _) h3
    · first | refine aw_aload_n dW_law_461 rfl ?_ | refine aw_aload_nQ dW_law_461 rfl ?_ | refine aw_aload_nN dW_law_461 rfl ?_
      refine ai_iconst dW_law_462 ?_
      refine aw_lald dW_law_463 h3.out (iI_in (by decide) (by decide) (by decide)) ?_
      refine aw_iload dW_law_464 rfl ?_
      refine ai_if_eq (tgt := 473) dW_law_466 (by decide) (by omega) (fun hb466 => ?_) (fun hb466 => ?_)
      · refine aw_lconst (v := 0) dW_law_473 (by decide) ?_
        refine aw_lcmp dW_law_474 ?_
        refine aw_if_eq (tgt := 480) dW_law_475 (by decide) (fun _ => ?_) (fun z => absurd ((mo_lcmp _ _).mpr (by rw [iI_cl (by decide)]; have q := (hf hb458).2; rw [← he hb458] at q; first | (rw [if_pos hb466] at q; exact q) | (rw [if_neg hb466] at q; exact q))) z)
        refine aw_goto (tgt := 1201) dW_law_480 (by decide) ?_
        exact hn s2 f1 J3 _ _ _ _ (Nat.le_refl _) (Nat.le_refl _) h3
      · refine aw_lconst (v := 1) dW_law_469 (by decide) ?_
        refine aw_goto (tgt := 474) dW_law_470 (by decide) ?_
        refine aw_lcmp dW_law_474 ?_
        refine aw_if_eq (tgt := 480) dW_law_475 (by decide) (fun _ => ?_) (fun z => absurd ((mo_lcmp _ _).mpr (by rw [iI_cl (by decide)]; have q := (hf hb458).2; rw [← he hb458] at q; first | (rw [if_pos hb466] at q; exact q) | (rw [if_neg hb466] at q; exact q))) z)
        refine aw_goto (tgt := 1201) dW_law_480 (by decide) ?_
        exact hn s2 f1 J3 _ _ _ _ (Nat.le_refl _) (Nat.le_refl _) h3
  · first | refine aw_aload_n dW_law_380 rfl ?_ | refine aw_aload_nQ dW_law_380 rfl ?_ | refine aw_aload_nN dW_law_380 rfl ?_
    first | refine aw_aload_n dW_law_381 rfl ?_ | refine aw_aload_nQ dW_law_381 rfl ?_ | refine aw_aload_nN dW_law_381 rfl ?_
    refine aw_iload dW_law_382 rfl ?_
    refine ai_iconst dW_law_384 ?_
    refine ai_iadd dW_law_385 ?_
    refine ai_sld dW_law_386 (by omega) (by omega) hN ?_
    first | refine aw_aload_n dW_law_387 rfl ?_ | refine aw_aload_nQ dW_law_387 rfl ?_ | refine aw_aload_nN dW_law_387 rfl ?_
    refine aw_iload dW_law_388 rfl ?_
    refine ai_iconst dW_law_390 ?_
    refine ai_iadd dW_law_391 ?_
    refine ai_sld dW_law_392 (by omega) (by omega) hN ?_
    first | refine aw_aload_n dW_law_393 rfl ?_ | refine aw_aload_nQ dW_law_393 rfl ?_ | refine aw_aload_nN dW_law_393 rfl ?_
    refine aw_iload dW_law_394 rfl ?_
    refine ai_iconst dW_law_396 ?_
    refine ai_iadd dW_law_397 ?_
    refine ai_sld dW_law_398 (by omega) (by omega) hN ?_
    refine ai_if_eq (tgt := 406) dW_law_399 (by decide) (lw_sb _ _) (fun z => absurd z hz0) (fun _ => ?_)
    refine ai_iconst dW_law_402 ?_
    refine aw_goto (tgt := 407) dW_law_403 (by decide) ?_
    first | refine aw_aload_n dW_law_407 rfl ?_ | refine aw_aload_nQ dW_law_407 rfl ?_ | refine aw_aload_nN dW_law_407 rfl ?_
    refine aw_callSW (vs := [.ref x1, .int (iI (lw_s G (i + 1))), .int (iI (lw_s G (i + 2))), .int (iI 1), .ref o]) (st := []) (mc' := 40) (ms' := 400) (kc' := kc - 40) (ks' := ks - 400) dW_law_408 cW_94 rfl (Nat.le_of_ble_eq_true rfl) (Nat.le_of_ble_eq_true rfl) (by omega) (by omega) ?_
    refine lc_add (d := d) htg (Nat.le_refl _) (Nat.le_refl _) h (lw_sb _ _) (lw_sb _ _) (Or.inr rfl) (fun c r s1 J1 f1 hr h1 hf => ?_)
    refine aw_istore dW_law_411 (by decide) rfl ?_
    first | refine aw_aload_n dW_law_413 rfl ?_ | refine aw_aload_nQ dW_law_413 rfl ?_ | refine aw_aload_nN dW_law_413 rfl ?_
    first | refine aw_aload_n dW_law_414 rfl ?_ | refine aw_aload_nQ dW_law_414 rfl ?_ | refine aw_aload_nN dW_law_414 rfl ?_
    refine aw_iload dW_law_415 rfl ?_
    refine ai_iconst dW_law_417 ?_
    refine ai_iadd dW_law_418 ?_
    refine ai_sld dW_law_419 (by omega) (by omega) hN ?_
    first | refine aw_aload_n dW_law_420 rfl ?_ | refine aw_aload_nQ dW_law_420 rfl ?_ | refine aw_aload_nN dW_law_420 rfl ?_
    refine aw_iload dW_law_421 rfl ?_
    refine ai_iconst dW_law_423 ?_
    refine ai_iadd dW_law_424 ?_
    refine ai_sld dW_law_425 (by omega) (by omega) hN ?_
    first | refine aw_aload_n dW_law_426 rfl ?_ | refine aw_aload_nQ dW_law_426 rfl ?_ | refine aw_aload_nN dW_law_426 rfl ?_
    refine aw_iload dW_law_427 rfl ?_
    refine ai_iconst dW_law_429 ?_
    refine ai_iadd dW_law_430 ?_
    refine ai_sld dW_law_431 (by omega) (by omega) hN ?_
    refine ai_if_eq (tgt := 439) dW_law_432 (by decide) (lw_sb _ _) (fun z => absurd z hz0) (fun _ => ?_)
    refine ai_iconst dW_law_435 ?_
    refine aw_goto (tgt := 440) dW_law_436 (by decide) ?_
    obtain ⟨fsb, hjb⟩ := h1.jb
    refine aw_callV3 (mc' := 0) (ms' := 0) (kc' := kc - 40) (ks' := ks - 400) dW_law_440 cW_97 hjb (Nat.le_of_ble_eq_true rfl) (Nat.le_of_ble_eq_true rfl) (by omega) (by omega) rfl ?_
    refine lm_add (d := d) htg h1 h.1 (lw_sb _ _) (lw_sb _ _) (Or.inr rfl) hr (fun r' s2 J2 h2 ht he hz => ?_)
    have hcb : iB c := by rw [← ht]; exact h2.b0
    refine aw_istore dW_law_443 (by decide) rfl ?_
    first | refine aw_aload_n dW_law_445 rfl ?_ | refine aw_aload_nQ dW_law_445 rfl ?_ | refine aw_aload_nN dW_law_445 rfl ?_
    obtain ⟨fsc, hjc⟩ := h2.jb
    refine aw_callV0 (mc' := 0) (ms' := 0) (kc' := kc - 40) (ks' := ks - 400) dW_law_446 cW_78 hjc (Nat.le_of_ble_eq_true rfl) (Nat.le_of_ble_eq_true rfl) (by omega) (by omega) rfl ?_
    refine lm_thrown htg h2 (fun J3 h3 => ?_)
    rw [ht]
    refine aw_iload dW_law_449 rfl ?_
    refine ai_icmp_eq (tgt := 456) dW_law_451 (by decide) hcb hcb (fun _ => ?_) (fun z => absurd rfl z)
    refine aw_iload dW_law_456 rfl ?_
    refine ai_if_ne (tgt := 480) dW_law_458 (by decide) hcb (fun hb458 => ?_) (fun hb458 => ?_)
    · refine aw_goto (tgt := 1201) dW_law_480 (by decide) ?_
      exact hn s2 f1 J3 _ _ _ _ (Nat.le_refl _) (Nat.le_refl _) h3
    · first | refine aw_aload_n dW_law_461 rfl ?_ | refine aw_aload_nQ dW_law_461 rfl ?_ | refine aw_aload_nN dW_law_461 rfl ?_
      refine ai_iconst dW_law_462 ?_
      refine aw_lald dW_law_463 h3.out (iI_in (by decide) (by decide) (by decide)) ?_
      refine aw_iload dW_law_464 rfl ?_
      refine ai_if_eq (tgt := 473) dW_law_466 (by decide) (by omega) (fun hb466 => ?_) (fun hb466 => ?_)
      · refine aw_lconst (v := 0) dW_law_473 (by decide) ?_
        refine aw_lcmp dW_law_474 ?_
        refine aw_if_eq (tgt := 480) dW_law_475 (by decide) (fun _ => ?_) (fun z => absurd ((mo_lcmp _ _).mpr (by rw [iI_cl (by decide)]; have q := (hf hb458).2; rw [← he hb458] at q; first | (rw [if_pos hb466] at q; exact q) | (rw [if_neg hb466] at q; exact q))) z)
        refine aw_goto (tgt := 1201) dW_law_480 (by decide) ?_
        exact hn s2 f1 J3 _ _ _ _ (Nat.le_refl _) (Nat.le_refl _) h3
      · refine aw_lconst (v := 1) dW_law_469 (by decide) ?_
        refine aw_goto (tgt := 474) dW_law_470 (by decide) ?_
        refine aw_lcmp dW_law_474 ?_
        refine aw_if_eq (tgt := 480) dW_law_475 (by decide) (fun _ => ?_) (fun z => absurd ((mo_lcmp _ _).mpr (by rw [iI_cl (by decide)]; have q := (hf hb458).2; rw [← he hb458] at q; first | (rw [if_pos hb466] at q; exact q) | (rw [if_neg hb466] at q; exact q))) z)
        refine aw_goto (tgt := 1201) dW_law_480 (by decide) ?_
        exact hn s2 f1 J3 _ _ _ _ (Nat.le_refl _) (Nat.le_refl _) h3

theorem lk_filter {i : Int} {l5 l6 : Option Value} (htg : aw_tg G) (hkc : 40 ≤ kc) (hks : 400 ≤ ks) (hi : 0 ≤ i ∧ i + 7 ≤ (G.2.2.2.2.2.1 : Int)) (hN : G.2.2.2.2.2.1 ≤ 3584) (h : LM G x1 b o ad J s s f) (hn : ∀ s' f' J' m5 m6 kc' ks', kc - 40 ≤ kc' → ks - 400 ≤ ks' → LM G x1 b o ad J' s' s' f' → aw_W G mW_law (d + 31) Q 1201 [some (.ref G.2.2.2.2.1), some (.ref x1), some (.ref b), some (.ref o), some (.int (iI i)), m5, m6] [] J' kc' ks') : aw_W G mW_law (d + 31) Q 483 [some (.ref G.2.2.2.2.1), some (.ref x1), some (.ref b), some (.ref o), some (.int (iI i)), l5, l6] [] J kc ks := by
  first | refine aw_aload_n dW_law_483 rfl ?_ | refine aw_aload_nQ dW_law_483 rfl ?_ | refine aw_aload_nN dW_law_483 rfl ?_
  first | refine aw_aload_n dW_law_484 rfl ?_ | refine aw_aload_nQ dW_law_484 rfl ?_ | refine aw_aload_nN dW_law_484 rfl ?_
  refine aw_iload dW_law_485 rfl ?_
  refine ai_iconst dW_law_487 ?_
  refine ai_iadd dW_law_488 ?_
  refine ai_sld dW_law_489 (by omega) (by omega) hN ?_
  first | refine aw_aload_n dW_law_490 rfl ?_ | refine aw_aload_nQ dW_law_490 rfl ?_ | refine aw_aload_nN dW_law_490 rfl ?_
  refine aw_iload dW_law_491 rfl ?_
  refine ai_iconst dW_law_493 ?_
  refine ai_iadd dW_law_494 ?_
  refine ai_sld dW_law_495 (by omega) (by omega) hN ?_
  first | refine aw_aload_n dW_law_496 rfl ?_ | refine aw_aload_nQ dW_law_496 rfl ?_ | refine aw_aload_nN dW_law_496 rfl ?_
  refine aw_iload dW_law_497 rfl ?_
  refine ai_iconst dW_law_499 ?_
  refine ai_iadd dW_law_500 ?_
  refine ai_sld dW_law_501 (by omega) (by omega) hN ?_
  refine aw_i2l dW_law_502 ?_
  refine ai_bipush dW_law_503 (by decide +kernel) ?_
  refine aw_lshl dW_law_505 ?_
  first | refine aw_aload_n dW_law_506 rfl ?_ | refine aw_aload_nQ dW_law_506 rfl ?_ | refine aw_aload_nN dW_law_506 rfl ?_
  refine aw_iload dW_law_507 rfl ?_
  refine ai_iconst dW_law_509 ?_
  refine ai_iadd dW_law_510 ?_
  refine ai_sld dW_law_511 (by omega) (by omega) hN ?_
  refine aw_i2l dW_law_512 ?_
  refine aw_ldc2 dW_law_513 wT_4_215 ?_
  refine aw_land dW_law_516 ?_
  refine aw_lor dW_law_517 ?_
  first | refine aw_aload_n dW_law_518 rfl ?_ | refine aw_aload_nQ dW_law_518 rfl ?_ | refine aw_aload_nN dW_law_518 rfl ?_
  refine aw_iload dW_law_519 rfl ?_
  refine ai_iconst dW_law_521 ?_
  refine ai_iadd dW_law_522 ?_
  refine ai_sld dW_law_523 (by omega) (by omega) hN ?_
  refine aw_i2l dW_law_524 ?_
  refine ai_bipush dW_law_525 (by decide +kernel) ?_
  refine aw_lshl dW_law_527 ?_
  first | refine aw_aload_n dW_law_528 rfl ?_ | refine aw_aload_nQ dW_law_528 rfl ?_ | refine aw_aload_nN dW_law_528 rfl ?_
  refine aw_iload dW_law_529 rfl ?_
  refine ai_bipush dW_law_531 (by decide +kernel) ?_
  refine ai_iadd dW_law_533 ?_
  refine ai_sld dW_law_534 (by omega) (by omega) hN ?_
  refine aw_i2l dW_law_535 ?_
  refine aw_ldc2 dW_law_536 wT_4_215 ?_
  refine aw_land dW_law_539 ?_
  refine aw_lor dW_law_540 ?_
  refine aw_callSW (vs := [.ref x1, .int (iI (lw_s G (i + 1))), .int (iI (lw_s G (i + 2))), .long _, .long _]) (st := []) (mc' := 40) (ms' := 400) (kc' := kc - 40) (ks' := ks - 400) dW_law_541 cW_100 rfl (Nat.le_of_ble_eq_true rfl) (Nat.le_of_ble_eq_true rfl) (by omega) (by omega) ?_
  refine lc_filter (d := d) htg (Nat.le_refl _) (Nat.le_refl _) h (lw_sb _ _) (lw_sb _ _) (fun c s1 J1 hr h1 => ?_)
  refine aw_istore dW_law_544 (by decide) rfl ?_
  first | refine aw_aload_n dW_law_546 rfl ?_ | refine aw_aload_nQ dW_law_546 rfl ?_ | refine aw_aload_nN dW_law_546 rfl ?_
  first | refine aw_aload_n dW_law_547 rfl ?_ | refine aw_aload_nQ dW_law_547 rfl ?_ | refine aw_aload_nN dW_law_547 rfl ?_
  refine aw_iload dW_law_548 rfl ?_
  refine ai_iconst dW_law_550 ?_
  refine ai_iadd dW_law_551 ?_
  refine ai_sld dW_law_552 (by omega) (by omega) hN ?_
  first | refine aw_aload_n dW_law_553 rfl ?_ | refine aw_aload_nQ dW_law_553 rfl ?_ | refine aw_aload_nN dW_law_553 rfl ?_
  refine aw_iload dW_law_554 rfl ?_
  refine ai_iconst dW_law_556 ?_
  refine ai_iadd dW_law_557 ?_
  refine ai_sld dW_law_558 (by omega) (by omega) hN ?_
  first | refine aw_aload_n dW_law_559 rfl ?_ | refine aw_aload_nQ dW_law_559 rfl ?_ | refine aw_aload_nN dW_law_559 rfl ?_
  refine aw_iload dW_law_560 rfl ?_
  refine ai_iconst dW_law_562 ?_
  refine ai_iadd dW_law_563 ?_
  refine ai_sld dW_law_564 (by omega) (by omega) hN ?_
  refine aw_i2l dW_law_565 ?_
  refine ai_bipush dW_law_566 (by decide +kernel) ?_
  refine aw_lshl dW_law_568 ?_
  first | refine aw_aload_n dW_law_569 rfl ?_ | refine aw_aload_nQ dW_law_569 rfl ?_ | refine aw_aload_nN dW_law_569 rfl ?_
  refine aw_iload dW_law_570 rfl ?_
  refine ai_iconst dW_law_572 ?_
  refine ai_iadd dW_law_573 ?_
  refine ai_sld dW_law_574 (by omega) (by omega) hN ?_
  refine aw_i2l dW_law_575 ?_
  refine aw_ldc2 dW_law_576 wT_4_215 ?_
  refine aw_land dW_law_579 ?_
  refine aw_lor dW_law_580 ?_
  first | refine aw_aload_n dW_law_581 rfl ?_ | refine aw_aload_nQ dW_law_581 rfl ?_ | refine aw_aload_nN dW_law_581 rfl ?_
  refine aw_iload dW_law_582 rfl ?_
  refine ai_iconst dW_law_584 ?_
  refine ai_iadd dW_law_585 ?_
  refine ai_sld dW_law_586 (by omega) (by omega) hN ?_
  refine aw_i2l dW_law_587 ?_
  refine ai_bipush dW_law_588 (by decide +kernel) ?_
  refine aw_lshl dW_law_590 ?_
  first | refine aw_aload_n dW_law_591 rfl ?_ | refine aw_aload_nQ dW_law_591 rfl ?_ | refine aw_aload_nN dW_law_591 rfl ?_
  refine aw_iload dW_law_592 rfl ?_
  refine ai_bipush dW_law_594 (by decide +kernel) ?_
  refine ai_iadd dW_law_596 ?_
  refine ai_sld dW_law_597 (by omega) (by omega) hN ?_
  refine aw_i2l dW_law_598 ?_
  refine aw_ldc2 dW_law_599 wT_4_215 ?_
  refine aw_land dW_law_602 ?_
  refine aw_lor dW_law_603 ?_
  obtain ⟨fsb, hjb⟩ := h1.jb
  refine aw_callV4 (mc' := 0) (ms' := 0) (kc' := kc - 40) (ks' := ks - 400) dW_law_604 cW_103 hjb (Nat.le_of_ble_eq_true rfl) (Nat.le_of_ble_eq_true rfl) (by omega) (by omega) rfl ?_
  refine lm_filter (d := d) htg h1 h.1 (lw_sb _ _) (lw_sb _ _) hr (fun s2 J2 h2 ht => ?_)
  have hcb : iB c := by rw [← ht]; exact h2.b0
  first | refine aw_aload_n dW_law_607 rfl ?_ | refine aw_aload_nQ dW_law_607 rfl ?_ | refine aw_aload_nN dW_law_607 rfl ?_
  obtain ⟨fsc, hjc⟩ := h2.jb
  refine aw_callV0 (mc' := 0) (ms' := 0) (kc' := kc - 40) (ks' := ks - 400) dW_law_608 cW_78 hjc (Nat.le_of_ble_eq_true rfl) (Nat.le_of_ble_eq_true rfl) (by omega) (by omega) rfl ?_
  refine lm_thrown htg h2 (fun J3 h3 => ?_)
  rw [ht]
  refine aw_iload dW_law_611 rfl ?_
  refine ai_icmp_eq (tgt := 618) dW_law_613 (by decide) hcb hcb (fun _ => ?_) (fun z => absurd rfl z)
  refine aw_goto (tgt := 1201) dW_law_618 (by decide) ?_
  exact hn s2 f J3 _ _ _ _ (Nat.le_refl _) (Nat.le_refl _) h3

theorem lk_lock {i : Int} {l5 l6 : Option Value} (htg : aw_tg G) (hkc : 40 ≤ kc) (hks : 400 ≤ ks) (hi : 0 ≤ i ∧ i + 7 ≤ (G.2.2.2.2.2.1 : Int)) (hN : G.2.2.2.2.2.1 ≤ 3584) (h : LM G x1 b o ad J s s f) (hn : ∀ s' f' J' m5 m6 kc' ks', kc - 40 ≤ kc' → ks - 400 ≤ ks' → LM G x1 b o ad J' s' s' f' → aw_W G mW_law (d + 31) Q 1201 [some (.ref G.2.2.2.2.1), some (.ref x1), some (.ref b), some (.ref o), some (.int (iI i)), m5, m6] [] J' kc' ks') : aw_W G mW_law (d + 31) Q 621 [some (.ref G.2.2.2.2.1), some (.ref x1), some (.ref b), some (.ref o), some (.int (iI i)), l5, l6] [] J kc ks := by
  first | refine aw_aload_n dW_law_621 rfl ?_ | refine aw_aload_nQ dW_law_621 rfl ?_ | refine aw_aload_nN dW_law_621 rfl ?_
  first | refine aw_aload_n dW_law_622 rfl ?_ | refine aw_aload_nQ dW_law_622 rfl ?_ | refine aw_aload_nN dW_law_622 rfl ?_
  refine aw_iload dW_law_623 rfl ?_
  refine ai_iconst dW_law_625 ?_
  refine ai_iadd dW_law_626 ?_
  refine ai_sld dW_law_627 (by omega) (by omega) hN ?_
  first | refine aw_aload_n dW_law_628 rfl ?_ | refine aw_aload_nQ dW_law_628 rfl ?_ | refine aw_aload_nN dW_law_628 rfl ?_
  refine aw_callSW (vs := [.ref x1, .int (iI (lw_s G (i + 1))), .ref o]) (st := []) (mc' := 40) (ms' := 400) (kc' := kc - 40) (ks' := ks - 400) dW_law_629 cW_104 rfl (Nat.le_of_ble_eq_true rfl) (Nat.le_of_ble_eq_true rfl) (by omega) (by omega) ?_
  refine lc_lock (d := d) htg (Nat.le_refl _) (Nat.le_refl _) h (lw_sb _ _) (fun c r s1 J1 f1 hr h1 hf => ?_)
  refine aw_istore dW_law_632 (by decide) rfl ?_
  first | refine aw_aload_n dW_law_634 rfl ?_ | refine aw_aload_nQ dW_law_634 rfl ?_ | refine aw_aload_nN dW_law_634 rfl ?_
  first | refine aw_aload_n dW_law_635 rfl ?_ | refine aw_aload_nQ dW_law_635 rfl ?_ | refine aw_aload_nN dW_law_635 rfl ?_
  refine aw_iload dW_law_636 rfl ?_
  refine ai_iconst dW_law_638 ?_
  refine ai_iadd dW_law_639 ?_
  refine ai_sld dW_law_640 (by omega) (by omega) hN ?_
  obtain ⟨fsb, hjb⟩ := h1.jb
  refine aw_callV1 (mc' := 0) (ms' := 0) (kc' := kc - 40) (ks' := ks - 400) dW_law_641 cW_106 hjb (Nat.le_of_ble_eq_true rfl) (Nat.le_of_ble_eq_true rfl) (by omega) (by omega) rfl ?_
  refine lm_lock (d := d) htg h1 h.1 (lw_sb _ _) hr (fun r' s2 J2 h2 ht he => ?_)
  have hcb : iB c := by rw [← ht]; exact h2.b0
  refine aw_istore dW_law_644 (by decide) rfl ?_
  first | refine aw_aload_n dW_law_646 rfl ?_ | refine aw_aload_nQ dW_law_646 rfl ?_ | refine aw_aload_nN dW_law_646 rfl ?_
  obtain ⟨fsc, hjc⟩ := h2.jb
  refine aw_callV0 (mc' := 0) (ms' := 0) (kc' := kc - 40) (ks' := ks - 400) dW_law_647 cW_78 hjc (Nat.le_of_ble_eq_true rfl) (Nat.le_of_ble_eq_true rfl) (by omega) (by omega) rfl ?_
  refine lm_thrown htg h2 (fun J3 h3 => ?_)
  rw [ht]
  refine aw_iload dW_law_650 rfl ?_
  refine ai_icmp_eq (tgt := 657) dW_law_652 (by decide) hcb hcb (fun _ => ?_) (fun z => absurd rfl z)
  refine aw_iload dW_law_657 rfl ?_
  refine ai_if_ne (tgt := 674) dW_law_659 (by decide) hcb (fun hb659 => ?_) (fun hb659 => ?_)
  · refine aw_goto (tgt := 1201) dW_law_674 (by decide) ?_
    exact hn s2 f1 J3 _ _ _ _ (Nat.le_refl _) (Nat.le_refl _) h3
  · first | refine aw_aload_n dW_law_662 rfl ?_ | refine aw_aload_nQ dW_law_662 rfl ?_ | refine aw_aload_nN dW_law_662 rfl ?_
    refine ai_iconst dW_law_663 ?_
    refine aw_lald dW_law_664 h3.out (iI_in (by decide) (by decide) (by decide)) ?_
    refine aw_iload dW_law_665 rfl ?_
    refine aw_i2l dW_law_667 ?_
    refine aw_lcmp dW_law_668 ?_
    refine aw_if_eq (tgt := 674) dW_law_669 (by decide) (fun _ => ?_) (fun z => absurd ((mo_lcmp _ _).mpr (by rw [iI_cl (by decide), he hb659]; exact hf hb659)) z)
    refine aw_goto (tgt := 1201) dW_law_674 (by decide) ?_
    exact hn s2 f1 J3 _ _ _ _ (Nat.le_refl _) (Nat.le_refl _) h3

theorem lk_release {i : Int} {l5 l6 : Option Value} (htg : aw_tg G) (hkc : 40 ≤ kc) (hks : 400 ≤ ks) (hi : 0 ≤ i ∧ i + 7 ≤ (G.2.2.2.2.2.1 : Int)) (hN : G.2.2.2.2.2.1 ≤ 3584) (h : LM G x1 b o ad J s s f) (hn : ∀ s' f' J' m5 m6 kc' ks', kc - 40 ≤ kc' → ks - 400 ≤ ks' → LM G x1 b o ad J' s' s' f' → aw_W G mW_law (d + 31) Q 1201 [some (.ref G.2.2.2.2.1), some (.ref x1), some (.ref b), some (.ref o), some (.int (iI i)), m5, m6] [] J' kc' ks') : aw_W G mW_law (d + 31) Q 677 [some (.ref G.2.2.2.2.1), some (.ref x1), some (.ref b), some (.ref o), some (.int (iI i)), l5, l6] [] J kc ks := by
  first | refine aw_aload_n dW_law_677 rfl ?_ | refine aw_aload_nQ dW_law_677 rfl ?_ | refine aw_aload_nN dW_law_677 rfl ?_
  first | refine aw_aload_n dW_law_678 rfl ?_ | refine aw_aload_nQ dW_law_678 rfl ?_ | refine aw_aload_nN dW_law_678 rfl ?_
  refine aw_iload dW_law_679 rfl ?_
  refine ai_iconst dW_law_681 ?_
  refine ai_iadd dW_law_682 ?_
  refine ai_sld dW_law_683 (by omega) (by omega) hN ?_
  first | refine aw_aload_n dW_law_684 rfl ?_ | refine aw_aload_nQ dW_law_684 rfl ?_ | refine aw_aload_nN dW_law_684 rfl ?_
  refine aw_callSW (vs := [.ref x1, .int (iI (lw_s G (i + 1))), .ref o]) (st := []) (mc' := 40) (ms' := 400) (kc' := kc - 40) (ks' := ks - 400) dW_law_685 cW_107 rfl (Nat.le_of_ble_eq_true rfl) (Nat.le_of_ble_eq_true rfl) (by omega) (by omega) ?_
  refine lc_release (d := d) htg (Nat.le_refl _) (Nat.le_refl _) h (lw_sb _ _) (fun c r s1 J1 f1 hr h1 hf => ?_)
  refine aw_istore dW_law_688 (by decide) rfl ?_
  first | refine aw_aload_n dW_law_690 rfl ?_ | refine aw_aload_nQ dW_law_690 rfl ?_ | refine aw_aload_nN dW_law_690 rfl ?_
  first | refine aw_aload_n dW_law_691 rfl ?_ | refine aw_aload_nQ dW_law_691 rfl ?_ | refine aw_aload_nN dW_law_691 rfl ?_
  refine aw_iload dW_law_692 rfl ?_
  refine ai_iconst dW_law_694 ?_
  refine ai_iadd dW_law_695 ?_
  refine ai_sld dW_law_696 (by omega) (by omega) hN ?_
  obtain ⟨fsb, hjb⟩ := h1.jb
  refine aw_callV1 (mc' := 0) (ms' := 0) (kc' := kc - 40) (ks' := ks - 400) dW_law_697 cW_109 hjb (Nat.le_of_ble_eq_true rfl) (Nat.le_of_ble_eq_true rfl) (by omega) (by omega) rfl ?_
  refine lm_release (d := d) htg h1 h.1 (lw_sb _ _) hr (fun r' s2 J2 h2 ht he => ?_)
  have hcb : iB c := by rw [← ht]; exact h2.b0
  refine aw_istore dW_law_700 (by decide) rfl ?_
  first | refine aw_aload_n dW_law_702 rfl ?_ | refine aw_aload_nQ dW_law_702 rfl ?_ | refine aw_aload_nN dW_law_702 rfl ?_
  obtain ⟨fsc, hjc⟩ := h2.jb
  refine aw_callV0 (mc' := 0) (ms' := 0) (kc' := kc - 40) (ks' := ks - 400) dW_law_703 cW_78 hjc (Nat.le_of_ble_eq_true rfl) (Nat.le_of_ble_eq_true rfl) (by omega) (by omega) rfl ?_
  refine lm_thrown htg h2 (fun J3 h3 => ?_)
  rw [ht]
  refine aw_iload dW_law_706 rfl ?_
  refine ai_icmp_eq (tgt := 713) dW_law_708 (by decide) hcb hcb (fun _ => ?_) (fun z => absurd rfl z)
  refine aw_iload dW_law_713 rfl ?_
  refine ai_if_ne (tgt := 730) dW_law_715 (by decide) hcb (fun hb715 => ?_) (fun hb715 => ?_)
  · refine aw_goto (tgt := 1201) dW_law_730 (by decide) ?_
    exact hn s2 f1 J3 _ _ _ _ (Nat.le_refl _) (Nat.le_refl _) h3
  · first | refine aw_aload_n dW_law_718 rfl ?_ | refine aw_aload_nQ dW_law_718 rfl ?_ | refine aw_aload_nN dW_law_718 rfl ?_
    refine ai_iconst dW_law_719 ?_
    refine aw_lald dW_law_720 h3.out (iI_in (by decide) (by decide) (by decide)) ?_
    refine aw_iload dW_law_721 rfl ?_
    refine aw_i2l dW_law_723 ?_
    refine aw_lcmp dW_law_724 ?_
    refine aw_if_eq (tgt := 730) dW_law_725 (by decide) (fun _ => ?_) (fun z => absurd ((mo_lcmp _ _).mpr (by rw [iI_cl (by decide), he hb715]; exact hf hb715)) z)
    refine aw_goto (tgt := 1201) dW_law_730 (by decide) ?_
    exact hn s2 f1 J3 _ _ _ _ (Nat.le_refl _) (Nat.le_refl _) h3

theorem lk_loader {i : Int} {l5 l6 : Option Value} (htg : aw_tg G) (hkc : 40 ≤ kc) (hks : 400 ≤ ks) (hi : 0 ≤ i ∧ i + 7 ≤ (G.2.2.2.2.2.1 : Int)) (hN : G.2.2.2.2.2.1 ≤ 3584) (h : LM G x1 b o ad J s s f) (hn : ∀ s' f' J' m5 m6 kc' ks', kc - 40 ≤ kc' → ks - 400 ≤ ks' → LM G x1 b o ad J' s' s' f' → aw_W G mW_law (d + 31) Q 1201 [some (.ref G.2.2.2.2.1), some (.ref x1), some (.ref b), some (.ref o), some (.int (iI i)), m5, m6] [] J' kc' ks') : aw_W G mW_law (d + 31) Q 733 [some (.ref G.2.2.2.2.1), some (.ref x1), some (.ref b), some (.ref o), some (.int (iI i)), l5, l6] [] J kc ks := by
  by_cases hz0 : lw_s G (i + 2) = 0
  · first | refine aw_aload_n dW_law_733 rfl ?_ | refine aw_aload_nQ dW_law_733 rfl ?_ | refine aw_aload_nN dW_law_733 rfl ?_
    first | refine aw_aload_n dW_law_734 rfl ?_ | refine aw_aload_nQ dW_law_734 rfl ?_ | refine aw_aload_nN dW_law_734 rfl ?_
    refine aw_iload dW_law_735 rfl ?_
    refine ai_iconst dW_law_737 ?_
    refine ai_iadd dW_law_738 ?_
    refine ai_sld dW_law_739 (by omega) (by omega) hN ?_
    first | refine aw_aload_n dW_law_740 rfl ?_ | refine aw_aload_nQ dW_law_740 rfl ?_ | refine aw_aload_nN dW_law_740 rfl ?_
    refine aw_iload dW_law_741 rfl ?_
    refine ai_iconst dW_law_743 ?_
    refine ai_iadd dW_law_744 ?_
    refine ai_sld dW_law_745 (by omega) (by omega) hN ?_
    refine ai_if_eq (tgt := 753) dW_law_746 (by decide) (lw_sb _ _) (fun _ => ?_) (fun z => absurd hz0 z)
    refine ai_iconst dW_law_753 ?_
    first | refine aw_aload_n dW_law_754 rfl ?_ | refine aw_aload_nQ dW_law_754 rfl ?_ | refine aw_aload_nN dW_law_754 rfl ?_
    refine aw_callSW (vs := [.ref x1, .int (iI (lw_s G (i + 1))), .int (iI 0), .ref o]) (st := []) (mc' := 40) (ms' := 400) (kc' := kc - 40) (ks' := ks - 400) dW_law_755 cW_110 rfl (Nat.le_of_ble_eq_true rfl) (Nat.le_of_ble_eq_true rfl) (by omega) (by omega) ?_
    refine lc_loader (d := d) htg (Nat.le_refl _) (Nat.le_refl _) h (lw_sb _ _) (Or.inl rfl) (fun c r J1 f1 hr h1 hf => ?_)
    refine aw_istore dW_law_758 (by decide) rfl ?_
    first | refine aw_aload_n dW_law_760 rfl ?_ | refine aw_aload_nQ dW_law_760 rfl ?_ | refine aw_aload_nN dW_law_760 rfl ?_
    first | refine aw_aload_n dW_law_761 rfl ?_ | refine aw_aload_nQ dW_law_761 rfl ?_ | refine aw_aload_nN dW_law_761 rfl ?_
    refine aw_iload dW_law_762 rfl ?_
    refine ai_iconst dW_law_764 ?_
    refine ai_iadd dW_law_765 ?_
    refine ai_sld dW_law_766 (by omega) (by omega) hN ?_
    first | refine aw_aload_n dW_law_767 rfl ?_ | refine aw_aload_nQ dW_law_767 rfl ?_ | refine aw_aload_nN dW_law_767 rfl ?_
    refine aw_iload dW_law_768 rfl ?_
    refine ai_iconst dW_law_770 ?_
    refine ai_iadd dW_law_771 ?_
    refine ai_sld dW_law_772 (by omega) (by omega) hN ?_
    refine ai_if_eq (tgt := 780) dW_law_773 (by decide) (lw_sb _ _) (fun _ => ?_) (fun z => absurd hz0 z)
    refine ai_iconst dW_law_780 ?_
    obtain ⟨fsb, hjb⟩ := h1.jb
    refine aw_callV2 (mc' := 0) (ms' := 0) (kc' := kc - 40) (ks' := ks - 400) dW_law_781 cW_113 hjb (Nat.le_of_ble_eq_true rfl) (Nat.le_of_ble_eq_true rfl) (by omega) (by omega) rfl ?_
    refine lm_loader (d := d) htg h1 (lw_sb _ _) (Or.inl rfl) hr (fun r' s2 J2 h2 ht he => ?_)
    have hcb : iB c := by rw [← ht]; exact h2.b0
    refine aw_istore dW_law_784 (by decide) rfl ?_
    first | refine aw_aload_n dW_law_786 rfl ?_ | refine aw_aload_nQ dW_law_786 rfl ?_ | refine aw_aload_nN dW_law_786 rfl ?_
    obtain ⟨fsc, hjc⟩ := h2.jb
    refine aw_callV0 (mc' := 0) (ms' := 0) (kc' := kc - 40) (ks' := ks - 400) dW_law_787 cW_78 hjc (Nat.le_of_ble_eq_true rfl) (Nat.le_of_ble_eq_true rfl) (by omega) (by omega) rfl ?_
    refine lm_thrown htg h2 (fun J3 h3 => ?_)
    rw [ht]
    refine aw_iload dW_law_790 rfl ?_
    refine ai_icmp_eq (tgt := 797) dW_law_792 (by decide) hcb hcb (fun _ => ?_) (fun z => absurd rfl z)
    refine aw_iload dW_law_797 rfl ?_
    refine ai_if_ne (tgt := 814) dW_law_799 (by decide) hcb (fun hb799 => ?_) (fun hb799 => ?_)
    · refine aw_goto (tgt := 1201) dW_law_814 (by decide) ?_
      exact hn s2 f1 J3 _ _ _ _ (Nat.le_refl _) (Nat.le_refl _) h3
    · first | refine aw_aload_n dW_law_802 rfl ?_ | refine aw_aload_nQ dW_law_802 rfl ?_ | refine aw_aload_nN dW_law_802 rfl ?_
      refine ai_iconst dW_law_803 ?_
      refine aw_lald dW_law_804 h3.out (iI_in (by decide) (by decide) (by decide)) ?_
      refine aw_iload dW_law_805 rfl ?_
      refine aw_i2l dW_law_807 ?_
      refine aw_lcmp dW_law_808 ?_
      refine aw_if_eq (tgt := 814) dW_law_809 (by decide) (fun _ => ?_) (fun z => absurd ((mo_lcmp _ _).mpr (by rw [iI_cl (by decide), he hb799]; exact hf hb799)) z)
      refine aw_goto (tgt := 1201) dW_law_814 (by decide) ?_
      exact hn s2 f1 J3 _ _ _ _ (Nat.le_refl _) (Nat.le_refl _) h3
  · first | refine aw_aload_n dW_law_733 rfl ?_ | refine aw_aload_nQ dW_law_733 rfl ?_ | refine aw_aload_nN dW_law_733 rfl ?_
    first | refine aw_aload_n dW_law_734 rfl ?_ | refine aw_aload_nQ dW_law_734 rfl ?_ | refine aw_aload_nN dW_law_734 rfl ?_
    refine aw_iload dW_law_735 rfl ?_
    refine ai_iconst dW_law_737 ?_
    refine ai_iadd dW_law_738 ?_
    refine ai_sld dW_law_739 (by omega) (by omega) hN ?_
    first | refine aw_aload_n dW_law_740 rfl ?_ | refine aw_aload_nQ dW_law_740 rfl ?_ | refine aw_aload_nN dW_law_740 rfl ?_
    refine aw_iload dW_law_741 rfl ?_
    refine ai_iconst dW_law_743 ?_
    refine ai_iadd dW_law_744 ?_
    refine ai_sld dW_law_745 (by omega) (by omega) hN ?_
    refine ai_if_eq (tgt := 753) dW_law_746 (by decide) (lw_sb _ _) (fun z => absurd z hz0) (fun _ => ?_)
    refine ai_iconst dW_law_749 ?_
    refine aw_goto (tgt := 754) dW_law_750 (by decide) ?_
    first | refine aw_aload_n dW_law_754 rfl ?_ | refine aw_aload_nQ dW_law_754 rfl ?_ | refine aw_aload_nN dW_law_754 rfl ?_
    refine aw_callSW (vs := [.ref x1, .int (iI (lw_s G (i + 1))), .int (iI 1), .ref o]) (st := []) (mc' := 40) (ms' := 400) (kc' := kc - 40) (ks' := ks - 400) dW_law_755 cW_110 rfl (Nat.le_of_ble_eq_true rfl) (Nat.le_of_ble_eq_true rfl) (by omega) (by omega) ?_
    refine lc_loader (d := d) htg (Nat.le_refl _) (Nat.le_refl _) h (lw_sb _ _) (Or.inr rfl) (fun c r J1 f1 hr h1 hf => ?_)
    refine aw_istore dW_law_758 (by decide) rfl ?_
    first | refine aw_aload_n dW_law_760 rfl ?_ | refine aw_aload_nQ dW_law_760 rfl ?_ | refine aw_aload_nN dW_law_760 rfl ?_
    first | refine aw_aload_n dW_law_761 rfl ?_ | refine aw_aload_nQ dW_law_761 rfl ?_ | refine aw_aload_nN dW_law_761 rfl ?_
    refine aw_iload dW_law_762 rfl ?_
    refine ai_iconst dW_law_764 ?_
    refine ai_iadd dW_law_765 ?_
    refine ai_sld dW_law_766 (by omega) (by omega) hN ?_
    first | refine aw_aload_n dW_law_767 rfl ?_ | refine aw_aload_nQ dW_law_767 rfl ?_ | refine aw_aload_nN dW_law_767 rfl ?_
    refine aw_iload dW_law_768 rfl ?_
    refine ai_iconst dW_law_770 ?_
    refine ai_iadd dW_law_771 ?_
    refine ai_sld dW_law_772 (by omega) (by omega) hN ?_
    refine ai_if_eq (tgt := 780) dW_law_773 (by decide) (lw_sb _ _) (fun z => absurd z hz0) (fun _ => ?_)
    refine ai_iconst dW_law_776 ?_
    refine aw_goto (tgt := 781) dW_law_777 (by decide) ?_
    obtain ⟨fsb, hjb⟩ := h1.jb
    refine aw_callV2 (mc' := 0) (ms' := 0) (kc' := kc - 40) (ks' := ks - 400) dW_law_781 cW_113 hjb (Nat.le_of_ble_eq_true rfl) (Nat.le_of_ble_eq_true rfl) (by omega) (by omega) rfl ?_
    refine lm_loader (d := d) htg h1 (lw_sb _ _) (Or.inr rfl) hr (fun r' s2 J2 h2 ht he => ?_)
    have hcb : iB c := by rw [← ht]; exact h2.b0
    refine aw_istore dW_law_784 (by decide) rfl ?_
    first | refine aw_aload_n dW_law_786 rfl ?_ | refine aw_aload_nQ dW_law_786 rfl ?_ | refine aw_aload_nN dW_law_786 rfl ?_
    obtain ⟨fsc, hjc⟩ := h2.jb
    refine aw_callV0 (mc' := 0) (ms' := 0) (kc' := kc - 40) (ks' := ks - 400) dW_law_787 cW_78 hjc (Nat.le_of_ble_eq_true rfl) (Nat.le_of_ble_eq_true rfl) (by omega) (by omega) rfl ?_
    refine lm_thrown htg h2 (fun J3 h3 => ?_)
    rw [ht]
    refine aw_iload dW_law_790 rfl ?_
    refine ai_icmp_eq (tgt := 797) dW_law_792 (by decide) hcb hcb (fun _ => ?_) (fun z => absurd rfl z)
    refine aw_iload dW_law_797 rfl ?_
    refine ai_if_ne (tgt := 814) dW_law_799 (by decide) hcb (fun hb799 => ?_) (fun hb799 => ?_)
    · refine aw_goto (tgt := 1201) dW_law_814 (by decide) ?_
      exact hn s2 f1 J3 _ _ _ _ (Nat.le_refl _) (Nat.le_refl _) h3
    · first | refine aw_aload_n dW_law_802 rfl ?_ | refine aw_aload_nQ dW_law_802 rfl ?_ | refine aw_aload_nN dW_law_802 rfl ?_
      refine ai_iconst dW_law_803 ?_
      refine aw_lald dW_law_804 h3.out (iI_in (by decide) (by decide) (by decide)) ?_
      refine aw_iload dW_law_805 rfl ?_
      refine aw_i2l dW_law_807 ?_
      refine aw_lcmp dW_law_808 ?_
      refine aw_if_eq (tgt := 814) dW_law_809 (by decide) (fun _ => ?_) (fun z => absurd ((mo_lcmp _ _).mpr (by rw [iI_cl (by decide), he hb799]; exact hf hb799)) z)
      refine aw_goto (tgt := 1201) dW_law_814 (by decide) ?_
      exact hn s2 f1 J3 _ _ _ _ (Nat.le_refl _) (Nat.le_refl _) h3

theorem lk_look {i : Int} {l5 l6 : Option Value} (htg : aw_tg G) (hkc : 40 ≤ kc) (hks : 400 ≤ ks) (hi : 0 ≤ i ∧ i + 7 ≤ (G.2.2.2.2.2.1 : Int)) (hN : G.2.2.2.2.2.1 ≤ 3584) (h : LM G x1 b o ad J s s f) (hn : ∀ s' f' J' m5 m6 kc' ks', kc - 40 ≤ kc' → ks - 400 ≤ ks' → LM G x1 b o ad J' s' s' f' → aw_W G mW_law (d + 31) Q 1201 [some (.ref G.2.2.2.2.1), some (.ref x1), some (.ref b), some (.ref o), some (.int (iI i)), m5, m6] [] J' kc' ks') : aw_W G mW_law (d + 31) Q 817 [some (.ref G.2.2.2.2.1), some (.ref x1), some (.ref b), some (.ref o), some (.int (iI i)), l5, l6] [] J kc ks := by
  first | refine aw_aload_n dW_law_817 rfl ?_ | refine aw_aload_nQ dW_law_817 rfl ?_ | refine aw_aload_nN dW_law_817 rfl ?_
  first | refine aw_aload_n dW_law_818 rfl ?_ | refine aw_aload_nQ dW_law_818 rfl ?_ | refine aw_aload_nN dW_law_818 rfl ?_
  refine aw_iload dW_law_819 rfl ?_
  refine ai_iconst dW_law_821 ?_
  refine ai_iadd dW_law_822 ?_
  refine ai_sld dW_law_823 (by omega) (by omega) hN ?_
  first | refine aw_aload_n dW_law_824 rfl ?_ | refine aw_aload_nQ dW_law_824 rfl ?_ | refine aw_aload_nN dW_law_824 rfl ?_
  refine aw_iload dW_law_825 rfl ?_
  refine ai_iconst dW_law_827 ?_
  refine ai_iadd dW_law_828 ?_
  refine ai_sld dW_law_829 (by omega) (by omega) hN ?_
  obtain ⟨fsx, hjx⟩ := h.jx
  refine aw_callV2 (mc' := 0) (ms' := 0) (kc' := kc - 40) (ks' := ks - 400) dW_law_830 cW_114 hjx (Nat.le_of_ble_eq_true rfl) (Nat.le_of_ble_eq_true rfl) (by omega) (by omega) rfl ?_
  refine lc_look (d := d) h (lw_sb _ _) (lw_sb _ _) (fun r hr => ?_)
  first | refine aw_aload_n dW_law_833 rfl ?_ | refine aw_aload_nQ dW_law_833 rfl ?_ | refine aw_aload_nN dW_law_833 rfl ?_
  first | refine aw_aload_n dW_law_834 rfl ?_ | refine aw_aload_nQ dW_law_834 rfl ?_ | refine aw_aload_nN dW_law_834 rfl ?_
  refine aw_iload dW_law_835 rfl ?_
  refine ai_iconst dW_law_837 ?_
  refine ai_iadd dW_law_838 ?_
  refine ai_sld dW_law_839 (by omega) (by omega) hN ?_
  first | refine aw_aload_n dW_law_840 rfl ?_ | refine aw_aload_nQ dW_law_840 rfl ?_ | refine aw_aload_nN dW_law_840 rfl ?_
  refine aw_iload dW_law_841 rfl ?_
  refine ai_iconst dW_law_843 ?_
  refine ai_iadd dW_law_844 ?_
  refine ai_sld dW_law_845 (by omega) (by omega) hN ?_
  obtain ⟨fsb, hjb⟩ := h.jb
  refine aw_callV2 (mc' := 0) (ms' := 0) (kc' := kc - 40) (ks' := ks - 400) dW_law_846 cW_117 hjb (Nat.le_of_ble_eq_true rfl) (Nat.le_of_ble_eq_true rfl) (by omega) (by omega) rfl ?_
  refine lm_look (d := d) htg h (lw_sb _ _) (lw_sb _ _) hr (fun s2 J2 h2 => ?_)
  refine aw_icmp_eq (tgt := 1201) dW_law_849 (by decide) (fun _ => ?_) (fun z => absurd rfl z)
  exact hn s2 f J2 _ _ _ _ (Nat.le_refl _) (Nat.le_refl _) h2

theorem lk_load {i : Int} {l5 l6 : Option Value} (htg : aw_tg G) (hkc : 40 ≤ kc) (hks : 400 ≤ ks) (hi : 0 ≤ i ∧ i + 7 ≤ (G.2.2.2.2.2.1 : Int)) (hN : G.2.2.2.2.2.1 ≤ 3584) (h : LM G x1 b o ad J s s f) (hn : ∀ s' f' J' m5 m6 kc' ks', kc - 40 ≤ kc' → ks - 400 ≤ ks' → LM G x1 b o ad J' s' s' f' → aw_W G mW_law (d + 31) Q 1201 [some (.ref G.2.2.2.2.1), some (.ref x1), some (.ref b), some (.ref o), some (.int (iI i)), m5, m6] [] J' kc' ks') : aw_W G mW_law (d + 31) Q 854 [some (.ref G.2.2.2.2.1), some (.ref x1), some (.ref b), some (.ref o), some (.int (iI i)), l5, l6] [] J kc ks := by
  first | refine aw_aload_n dW_law_854 rfl ?_ | refine aw_aload_nQ dW_law_854 rfl ?_ | refine aw_aload_nN dW_law_854 rfl ?_
  first | refine aw_aload_n dW_law_855 rfl ?_ | refine aw_aload_nQ dW_law_855 rfl ?_ | refine aw_aload_nN dW_law_855 rfl ?_
  refine aw_iload dW_law_856 rfl ?_
  refine ai_iconst dW_law_858 ?_
  refine ai_iadd dW_law_859 ?_
  refine ai_sld dW_law_860 (by omega) (by omega) hN ?_
  first | refine aw_aload_n dW_law_861 rfl ?_ | refine aw_aload_nQ dW_law_861 rfl ?_ | refine aw_aload_nN dW_law_861 rfl ?_
  refine aw_iload dW_law_862 rfl ?_
  refine ai_iconst dW_law_864 ?_
  refine ai_iadd dW_law_865 ?_
  refine ai_sld dW_law_866 (by omega) (by omega) hN ?_
  first | refine aw_aload_n dW_law_867 rfl ?_ | refine aw_aload_nQ dW_law_867 rfl ?_ | refine aw_aload_nN dW_law_867 rfl ?_
  refine aw_callSW (vs := [.ref x1, .int (iI (lw_s G (i + 1))), .int (iI (lw_s G (i + 2))), .ref o]) (st := []) (mc' := 40) (ms' := 400) (kc' := kc - 40) (ks' := ks - 400) dW_law_868 cW_118 rfl (Nat.le_of_ble_eq_true rfl) (Nat.le_of_ble_eq_true rfl) (by omega) (by omega) ?_
  refine lc_load (d := d) htg (Nat.le_refl _) (Nat.le_refl _) h (lw_sb _ _) (lw_sb _ _) (fun c r s1 J1 f1 hr h1 hf => ?_)
  refine aw_istore dW_law_871 (by decide) rfl ?_
  first | refine aw_aload_n dW_law_873 rfl ?_ | refine aw_aload_nQ dW_law_873 rfl ?_ | refine aw_aload_nN dW_law_873 rfl ?_
  first | refine aw_aload_n dW_law_874 rfl ?_ | refine aw_aload_nQ dW_law_874 rfl ?_ | refine aw_aload_nN dW_law_874 rfl ?_
  refine aw_iload dW_law_875 rfl ?_
  refine ai_iconst dW_law_877 ?_
  refine ai_iadd dW_law_878 ?_
  refine ai_sld dW_law_879 (by omega) (by omega) hN ?_
  first | refine aw_aload_n dW_law_880 rfl ?_ | refine aw_aload_nQ dW_law_880 rfl ?_ | refine aw_aload_nN dW_law_880 rfl ?_
  refine aw_iload dW_law_881 rfl ?_
  refine ai_iconst dW_law_883 ?_
  refine ai_iadd dW_law_884 ?_
  refine ai_sld dW_law_885 (by omega) (by omega) hN ?_
  obtain ⟨fsb, hjb⟩ := h1.jb
  refine aw_callV2 (mc' := 0) (ms' := 0) (kc' := kc - 40) (ks' := ks - 400) dW_law_886 cW_121 hjb (Nat.le_of_ble_eq_true rfl) (Nat.le_of_ble_eq_true rfl) (by omega) (by omega) rfl ?_
  refine lm_load (d := d) htg h1 h.1 (lw_sb _ _) (lw_sb _ _) hr (fun r' s2 J2 h2 ht he => ?_)
  have hcb : iB c := by rw [← ht]; exact h2.b0
  refine aw_istore dW_law_889 (by decide) rfl ?_
  first | refine aw_aload_n dW_law_891 rfl ?_ | refine aw_aload_nQ dW_law_891 rfl ?_ | refine aw_aload_nN dW_law_891 rfl ?_
  obtain ⟨fsc, hjc⟩ := h2.jb
  refine aw_callV0 (mc' := 0) (ms' := 0) (kc' := kc - 40) (ks' := ks - 400) dW_law_892 cW_78 hjc (Nat.le_of_ble_eq_true rfl) (Nat.le_of_ble_eq_true rfl) (by omega) (by omega) rfl ?_
  refine lm_thrown htg h2 (fun J3 h3 => ?_)
  rw [ht]
  refine aw_iload dW_law_895 rfl ?_
  refine ai_icmp_eq (tgt := 902) dW_law_897 (by decide) hcb hcb (fun _ => ?_) (fun z => absurd rfl z)
  refine aw_iload dW_law_902 rfl ?_
  refine ai_if_ne (tgt := 919) dW_law_904 (by decide) hcb (fun hb904 => ?_) (fun hb904 => ?_)
  · refine aw_goto (tgt := 1201) dW_law_919 (by decide) ?_
    exact hn s2 f1 J3 _ _ _ _ (Nat.le_refl _) (Nat.le_refl _) h3
  · first | refine aw_aload_n dW_law_907 rfl ?_ | refine aw_aload_nQ dW_law_907 rfl ?_ | refine aw_aload_nN dW_law_907 rfl ?_
    refine ai_iconst dW_law_908 ?_
    refine aw_lald dW_law_909 h3.out (iI_in (by decide) (by decide) (by decide)) ?_
    refine aw_iload dW_law_910 rfl ?_
    refine aw_i2l dW_law_912 ?_
    refine aw_lcmp dW_law_913 ?_
    refine aw_if_eq (tgt := 919) dW_law_914 (by decide) (fun _ => ?_) (fun z => absurd ((mo_lcmp _ _).mpr (by rw [iI_cl (by decide), he hb904]; exact hf hb904)) z)
    refine aw_goto (tgt := 1201) dW_law_919 (by decide) ?_
    exact hn s2 f1 J3 _ _ _ _ (Nat.le_refl _) (Nat.le_refl _) h3

theorem lk_info {i : Int} {l5 l6 : Option Value} (htg : aw_tg G) (hkc : 40 ≤ kc) (hks : 400 ≤ ks) (hi : 0 ≤ i ∧ i + 7 ≤ (G.2.2.2.2.2.1 : Int)) (hN : G.2.2.2.2.2.1 ≤ 3584) (h : LM G x1 b o ad J s s f) (hn : ∀ s' f' J' m5 m6 kc' ks', kc - 40 ≤ kc' → ks - 400 ≤ ks' → LM G x1 b o ad J' s' s' f' → aw_W G mW_law (d + 31) Q 1201 [some (.ref G.2.2.2.2.1), some (.ref x1), some (.ref b), some (.ref o), some (.int (iI i)), m5, m6] [] J' kc' ks') : aw_W G mW_law (d + 31) Q 922 [some (.ref G.2.2.2.2.1), some (.ref x1), some (.ref b), some (.ref o), some (.int (iI i)), l5, l6] [] J kc ks := by
  first | refine aw_aload_n dW_law_922 rfl ?_ | refine aw_aload_nQ dW_law_922 rfl ?_ | refine aw_aload_nN dW_law_922 rfl ?_
  first | refine aw_aload_n dW_law_923 rfl ?_ | refine aw_aload_nQ dW_law_923 rfl ?_ | refine aw_aload_nN dW_law_923 rfl ?_
  refine aw_iload dW_law_924 rfl ?_
  refine ai_iconst dW_law_926 ?_
  refine ai_iadd dW_law_927 ?_
  refine ai_sld dW_law_928 (by omega) (by omega) hN ?_
  first | refine aw_aload_n dW_law_929 rfl ?_ | refine aw_aload_nQ dW_law_929 rfl ?_ | refine aw_aload_nN dW_law_929 rfl ?_
  refine aw_iload dW_law_930 rfl ?_
  refine ai_iconst dW_law_932 ?_
  refine ai_iadd dW_law_933 ?_
  refine ai_sld dW_law_934 (by omega) (by omega) hN ?_
  first | refine aw_aload_n dW_law_935 rfl ?_ | refine aw_aload_nQ dW_law_935 rfl ?_ | refine aw_aload_nN dW_law_935 rfl ?_
  refine aw_callSW (vs := [.ref x1, .int (iI (lw_s G (i + 1))), .int (iI (lw_s G (i + 2))), .ref o]) (st := []) (mc' := 40) (ms' := 400) (kc' := kc - 40) (ks' := ks - 400) dW_law_936 cW_122 rfl (Nat.le_of_ble_eq_true rfl) (Nat.le_of_ble_eq_true rfl) (by omega) (by omega) ?_
  refine lc_info (d := d) htg (Nat.le_refl _) (Nat.le_refl _) h (lw_sb _ _) (lw_sb _ _) (fun c r J1 f1 hr h1 hf => ?_)
  refine aw_istore dW_law_939 (by decide) rfl ?_
  first | refine aw_aload_n dW_law_941 rfl ?_ | refine aw_aload_nQ dW_law_941 rfl ?_ | refine aw_aload_nN dW_law_941 rfl ?_
  first | refine aw_aload_n dW_law_942 rfl ?_ | refine aw_aload_nQ dW_law_942 rfl ?_ | refine aw_aload_nN dW_law_942 rfl ?_
  refine aw_iload dW_law_943 rfl ?_
  refine ai_iconst dW_law_945 ?_
  refine ai_iadd dW_law_946 ?_
  refine ai_sld dW_law_947 (by omega) (by omega) hN ?_
  first | refine aw_aload_n dW_law_948 rfl ?_ | refine aw_aload_nQ dW_law_948 rfl ?_ | refine aw_aload_nN dW_law_948 rfl ?_
  refine aw_iload dW_law_949 rfl ?_
  refine ai_iconst dW_law_951 ?_
  refine ai_iadd dW_law_952 ?_
  refine ai_sld dW_law_953 (by omega) (by omega) hN ?_
  obtain ⟨fsb, hjb⟩ := h1.jb
  refine aw_callV2 (mc' := 0) (ms' := 0) (kc' := kc - 40) (ks' := ks - 400) dW_law_954 cW_124 hjb (Nat.le_of_ble_eq_true rfl) (Nat.le_of_ble_eq_true rfl) (by omega) (by omega) rfl ?_
  refine lm_info (d := d) htg h1 (lw_sb _ _) (lw_sb _ _) hr (fun r' s2 J2 h2 ht he => ?_)
  have hcb : iB c := by rw [← ht]; exact h2.b0
  refine aw_istore dW_law_957 (by decide) rfl ?_
  first | refine aw_aload_n dW_law_959 rfl ?_ | refine aw_aload_nQ dW_law_959 rfl ?_ | refine aw_aload_nN dW_law_959 rfl ?_
  obtain ⟨fsc, hjc⟩ := h2.jb
  refine aw_callV0 (mc' := 0) (ms' := 0) (kc' := kc - 40) (ks' := ks - 400) dW_law_960 cW_78 hjc (Nat.le_of_ble_eq_true rfl) (Nat.le_of_ble_eq_true rfl) (by omega) (by omega) rfl ?_
  refine lm_thrown htg h2 (fun J3 h3 => ?_)
  rw [ht]
  refine aw_iload dW_law_963 rfl ?_
  refine ai_icmp_eq (tgt := 970) dW_law_965 (by decide) hcb hcb (fun _ => ?_) (fun z => absurd rfl z)
  refine aw_iload dW_law_970 rfl ?_
  refine ai_if_ne (tgt := 987) dW_law_972 (by decide) hcb (fun hb972 => ?_) (fun hb972 => ?_)
  · refine aw_goto (tgt := 1201) dW_law_987 (by decide) ?_
    exact hn s2 f1 J3 _ _ _ _ (Nat.le_refl _) (Nat.le_refl _) h3
  · first | refine aw_aload_n dW_law_975 rfl ?_ | refine aw_aload_nQ dW_law_975 rfl ?_ | refine aw_aload_nN dW_law_975 rfl ?_
    refine ai_iconst dW_law_976 ?_
    refine aw_lald dW_law_977 h3.out (iI_in (by decide) (by decide) (by decide)) ?_
    refine aw_iload dW_law_978 rfl ?_
    refine aw_i2l dW_law_980 ?_
    refine aw_lcmp dW_law_981 ?_
    refine aw_if_eq (tgt := 987) dW_law_982 (by decide) (fun _ => ?_) (fun z => absurd ((mo_lcmp _ _).mpr (by rw [iI_cl (by decide), he hb972]; exact hf hb972)) z)
    refine aw_goto (tgt := 1201) dW_law_987 (by decide) ?_
    exact hn s2 f1 J3 _ _ _ _ (Nat.le_refl _) (Nat.le_refl _) h3

theorem lk_isA {i : Int} {l5 l6 : Option Value} (htg : aw_tg G) (hkc : 40 ≤ kc) (hks : 400 ≤ ks) (hi : 0 ≤ i ∧ i + 7 ≤ (G.2.2.2.2.2.1 : Int)) (hN : G.2.2.2.2.2.1 ≤ 3584) (h : LM G x1 b o ad J s s f) (hn : ∀ s' f' J' m5 m6 kc' ks', kc - 40 ≤ kc' → ks - 400 ≤ ks' → LM G x1 b o ad J' s' s' f' → aw_W G mW_law (d + 31) Q 1201 [some (.ref G.2.2.2.2.1), some (.ref x1), some (.ref b), some (.ref o), some (.int (iI i)), m5, m6] [] J' kc' ks') : aw_W G mW_law (d + 31) Q 990 [some (.ref G.2.2.2.2.1), some (.ref x1), some (.ref b), some (.ref o), some (.int (iI i)), l5, l6] [] J kc ks := by
  first | refine aw_aload_n dW_law_990 rfl ?_ | refine aw_aload_nQ dW_law_990 rfl ?_ | refine aw_aload_nN dW_law_990 rfl ?_
  first | refine aw_aload_n dW_law_991 rfl ?_ | refine aw_aload_nQ dW_law_991 rfl ?_ | refine aw_aload_nN dW_law_991 rfl ?_
  refine aw_iload dW_law_992 rfl ?_
  refine ai_iconst dW_law_994 ?_
  refine ai_iadd dW_law_995 ?_
  refine ai_sld dW_law_996 (by omega) (by omega) hN ?_
  first | refine aw_aload_n dW_law_997 rfl ?_ | refine aw_aload_nQ dW_law_997 rfl ?_ | refine aw_aload_nN dW_law_997 rfl ?_
  refine aw_iload dW_law_998 rfl ?_
  refine ai_iconst dW_law_1000 ?_
  refine ai_iadd dW_law_1001 ?_
  refine ai_sld dW_law_1002 (by omega) (by omega) hN ?_
  first | refine aw_aload_n dW_law_1003 rfl ?_ | refine aw_aload_nQ dW_law_1003 rfl ?_ | refine aw_aload_nN dW_law_1003 rfl ?_
  refine aw_callSW (vs := [.ref x1, .int (iI (lw_s G (i + 1))), .int (iI (lw_s G (i + 2))), .ref o]) (st := []) (mc' := 40) (ms' := 400) (kc' := kc - 40) (ks' := ks - 400) dW_law_1004 cW_125 rfl (Nat.le_of_ble_eq_true rfl) (Nat.le_of_ble_eq_true rfl) (by omega) (by omega) ?_
  refine lc_isA (d := d) htg (Nat.le_refl _) (Nat.le_refl _) h (lw_sb _ _) (lw_sb _ _) (fun c r J1 f1 hr h1 hf => ?_)
  refine aw_istore dW_law_1007 (by decide) rfl ?_
  first | refine aw_aload_n dW_law_1009 rfl ?_ | refine aw_aload_nQ dW_law_1009 rfl ?_ | refine aw_aload_nN dW_law_1009 rfl ?_
  first | refine aw_aload_n dW_law_1010 rfl ?_ | refine aw_aload_nQ dW_law_1010 rfl ?_ | refine aw_aload_nN dW_law_1010 rfl ?_
  refine aw_iload dW_law_1011 rfl ?_
  refine ai_iconst dW_law_1013 ?_
  refine ai_iadd dW_law_1014 ?_
  refine ai_sld dW_law_1015 (by omega) (by omega) hN ?_
  first | refine aw_aload_n dW_law_1016 rfl ?_ | refine aw_aload_nQ dW_law_1016 rfl ?_ | refine aw_aload_nN dW_law_1016 rfl ?_
  refine aw_iload dW_law_1017 rfl ?_
  refine ai_iconst dW_law_1019 ?_
  refine ai_iadd dW_law_1020 ?_
  refine ai_sld dW_law_1021 (by omega) (by omega) hN ?_
  obtain ⟨fsb, hjb⟩ := h1.jb
  refine aw_callV2 (mc' := 0) (ms' := 0) (kc' := kc - 40) (ks' := ks - 400) dW_law_1022 cW_127 hjb (Nat.le_of_ble_eq_true rfl) (Nat.le_of_ble_eq_true rfl) (by omega) (by omega) rfl ?_
  refine lm_isA (d := d) htg h1 (lw_sb _ _) (lw_sb _ _) hr (fun r' s2 J2 h2 ht he hz => ?_)
  have hcb : iB c := by rw [← ht]; exact h2.b0
  refine aw_istore dW_law_1025 (by decide) rfl ?_
  first | refine aw_aload_n dW_law_1027 rfl ?_ | refine aw_aload_nQ dW_law_1027 rfl ?_ | refine aw_aload_nN dW_law_1027 rfl ?_
  obtain ⟨fsc, hjc⟩ := h2.jb
  refine aw_callV0 (mc' := 0) (ms' := 0) (kc' := kc - 40) (ks' := ks - 400) dW_law_1028 cW_78 hjc (Nat.le_of_ble_eq_true rfl) (Nat.le_of_ble_eq_true rfl) (by omega) (by omega) rfl ?_
  refine lm_thrown htg h2 (fun J3 h3 => ?_)
  rw [ht]
  refine aw_iload dW_law_1031 rfl ?_
  refine ai_icmp_eq (tgt := 1038) dW_law_1033 (by decide) hcb hcb (fun _ => ?_) (fun z => absurd rfl z)
  refine aw_iload dW_law_1038 rfl ?_
  refine ai_if_ne (tgt := 1062) dW_law_1040 (by decide) hcb (fun hb1040 => ?_) (fun hb1040 => ?_)
  · refine aw_goto (tgt := 1201) dW_law_1062 (by decide) ?_
    exact hn s2 f1 J3 _ _ _ _ (Nat.le_refl _) (Nat.le_refl _) h3
  · first | refine aw_aload_n dW_law_1043 rfl ?_ | refine aw_aload_nQ dW_law_1043 rfl ?_ | refine aw_aload_nN dW_law_1043 rfl ?_
    refine ai_iconst dW_law_1044 ?_
    refine aw_lald dW_law_1045 h3.out (iI_in (by decide) (by decide) (by decide)) ?_
    refine aw_iload dW_law_1046 rfl ?_
    refine ai_if_eq (tgt := 1055) dW_law_1048 (by decide) (by omega) (fun hb1048 => ?_) (fun hb1048 => ?_)
    · refine aw_lconst (v := 0) dW_law_1055 (by decide) ?_
      refine aw_lcmp dW_law_1056 ?_
      refine aw_if_eq (tgt := 1062) dW_law_1057 (by decide) (fun _ => ?_) (fun z => absurd ((mo_lcmp _ _).mpr (by rw [iI_cl (by decide)]; have q := (hf hb1040).2; rw [← he hb1040] at q; first | (rw [if_pos hb1048] at q; exact q) | (rw [if_neg hb1048] at q; exact q))) z)
      refine aw_goto (tgt := 1201) dW_law_1062 (by decide) ?_
      exact hn s2 f1 J3 _ _ _ _ (Nat.le_refl _) (Nat.le_refl _) h3
    · refine aw_lconst (v := 1) dW_law_1051 (by decide) ?_
      refine aw_goto (tgt := 1056) dW_law_1052 (by decide) ?_
      refine aw_lcmp dW_law_1056 ?_
      refine aw_if_eq (tgt := 1062) dW_law_1057 (by decide) (fun _ => ?_) (fun z => absurd ((mo_lcmp _ _).mpr (by rw [iI_cl (by decide)]; have q := (hf hb1040).2; rw [← he hb1040] at q; first | (rw [if_pos hb1048] at q; exact q) | (rw [if_neg hb1048] at q; exact q))) z)
      refine aw_goto (tgt := 1201) dW_law_1062 (by decide) ?_
      exact hn s2 f1 J3 _ _ _ _ (Nat.le_refl _) (Nat.le_refl _) h3

theorem lk_apply {i : Int} {l5 l6 : Option Value} (htg : aw_tg G) (hkc : 40 ≤ kc) (hks : 400 ≤ ks) (hi : 0 ≤ i ∧ i + 7 ≤ (G.2.2.2.2.2.1 : Int)) (hN : G.2.2.2.2.2.1 ≤ 3584) (h : LM G x1 b o ad J s s f) (hn : ∀ s' f' J' m5 m6 kc' ks', kc - 40 ≤ kc' → ks - 400 ≤ ks' → LM G x1 b o ad J' s' s' f' → aw_W G mW_law (d + 31) Q 1201 [some (.ref G.2.2.2.2.1), some (.ref x1), some (.ref b), some (.ref o), some (.int (iI i)), m5, m6] [] J' kc' ks') : aw_W G mW_law (d + 31) Q 1065 [some (.ref G.2.2.2.2.1), some (.ref x1), some (.ref b), some (.ref o), some (.int (iI i)), l5, l6] [] J kc ks := by
  first | refine aw_aload_n dW_law_1065 rfl ?_ | refine aw_aload_nQ dW_law_1065 rfl ?_ | refine aw_aload_nN dW_law_1065 rfl ?_
  first | refine aw_aload_n dW_law_1066 rfl ?_ | refine aw_aload_nQ dW_law_1066 rfl ?_ | refine aw_aload_nN dW_law_1066 rfl ?_
  refine aw_iload dW_law_1067 rfl ?_
  refine ai_iconst dW_law_1069 ?_
  refine ai_iadd dW_law_1070 ?_
  refine ai_sld dW_law_1071 (by omega) (by omega) hN ?_
  first | refine aw_aload_n dW_law_1072 rfl ?_ | refine aw_aload_nQ dW_law_1072 rfl ?_ | refine aw_aload_nN dW_law_1072 rfl ?_
  refine aw_iload dW_law_1073 rfl ?_
  refine ai_iconst dW_law_1075 ?_
  refine ai_iadd dW_law_1076 ?_
  refine ai_sld dW_law_1077 (by omega) (by omega) hN ?_
  first | refine aw_aload_n dW_law_1078 rfl ?_ | refine aw_aload_nQ dW_law_1078 rfl ?_ | refine aw_aload_nN dW_law_1078 rfl ?_
  refine aw_callSW (vs := [.ref x1, .int (iI (lw_s G (i + 1))), .int (iI (lw_s G (i + 2))), .ref o]) (st := []) (mc' := 40) (ms' := 400) (kc' := kc - 40) (ks' := ks - 400) dW_law_1079 cW_128 rfl (Nat.le_of_ble_eq_true rfl) (Nat.le_of_ble_eq_true rfl) (by omega) (by omega) ?_
  refine lc_apply (d := d) htg (Nat.le_refl _) (Nat.le_refl _) h (lw_sb _ _) (lw_sb _ _) (fun c r s1 J1 f1 hr h1 hf => ?_)
  refine aw_istore dW_law_1082 (by decide) rfl ?_
  first | refine aw_aload_n dW_law_1084 rfl ?_ | refine aw_aload_nQ dW_law_1084 rfl ?_ | refine aw_aload_nN dW_law_1084 rfl ?_
  first | refine aw_aload_n dW_law_1085 rfl ?_ | refine aw_aload_nQ dW_law_1085 rfl ?_ | refine aw_aload_nN dW_law_1085 rfl ?_
  refine aw_iload dW_law_1086 rfl ?_
  refine ai_iconst dW_law_1088 ?_
  refine ai_iadd dW_law_1089 ?_
  refine ai_sld dW_law_1090 (by omega) (by omega) hN ?_
  first | refine aw_aload_n dW_law_1091 rfl ?_ | refine aw_aload_nQ dW_law_1091 rfl ?_ | refine aw_aload_nN dW_law_1091 rfl ?_
  refine aw_iload dW_law_1092 rfl ?_
  refine ai_iconst dW_law_1094 ?_
  refine ai_iadd dW_law_1095 ?_
  refine ai_sld dW_law_1096 (by omega) (by omega) hN ?_
  obtain ⟨fsb, hjb⟩ := h1.jb
  refine aw_callV2 (mc' := 0) (ms' := 0) (kc' := kc - 40) (ks' := ks - 400) dW_law_1097 cW_130 hjb (Nat.le_of_ble_eq_true rfl) (Nat.le_of_ble_eq_true rfl) (by omega) (by omega) rfl ?_
  refine lm_apply (d := d) htg h1 h.1 (lw_sb _ _) (lw_sb _ _) hr (fun r' s2 J2 h2 ht he => ?_)
  have hcb : iB c := by rw [← ht]; exact h2.b0
  refine aw_istore dW_law_1100 (by decide) rfl ?_
  first | refine aw_aload_n dW_law_1102 rfl ?_ | refine aw_aload_nQ dW_law_1102 rfl ?_ | refine aw_aload_nN dW_law_1102 rfl ?_
  obtain ⟨fsc, hjc⟩ := h2.jb
  refine aw_callV0 (mc' := 0) (ms' := 0) (kc' := kc - 40) (ks' := ks - 400) dW_law_1103 cW_78 hjc (Nat.le_of_ble_eq_true rfl) (Nat.le_of_ble_eq_true rfl) (by omega) (by omega) rfl ?_
  refine lm_thrown htg h2 (fun J3 h3 => ?_)
  rw [ht]
  refine aw_iload dW_law_1106 rfl ?_
  refine ai_icmp_eq (tgt := 1113) dW_law_1108 (by decide) hcb hcb (fun _ => ?_) (fun z => absurd rfl z)
  refine aw_iload dW_law_1113 rfl ?_
  refine ai_if_ne (tgt := 1130) dW_law_1115 (by decide) hcb (fun hb1115 => ?_) (fun hb1115 => ?_)
  · refine aw_goto (tgt := 1201) dW_law_1130 (by decide) ?_
    exact hn s2 f1 J3 _ _ _ _ (Nat.le_refl _) (Nat.le_refl _) h3
  · first | refine aw_aload_n dW_law_1118 rfl ?_ | refine aw_aload_nQ dW_law_1118 rfl ?_ | refine aw_aload_nN dW_law_1118 rfl ?_
    refine ai_iconst dW_law_1119 ?_
    refine aw_lald dW_law_1120 h3.out (iI_in (by decide) (by decide) (by decide)) ?_
    refine aw_iload dW_law_1121 rfl ?_
    refine aw_i2l dW_law_1123 ?_
    refine aw_lcmp dW_law_1124 ?_
    refine aw_if_eq (tgt := 1130) dW_law_1125 (by decide) (fun _ => ?_) (fun z => absurd ((mo_lcmp _ _).mpr (by rw [iI_cl (by decide), he hb1115]; exact hf hb1115)) z)
    refine aw_goto (tgt := 1201) dW_law_1130 (by decide) ?_
    exact hn s2 f1 J3 _ _ _ _ (Nat.le_refl _) (Nat.le_refl _) h3

theorem lk_applied {i : Int} {l5 l6 : Option Value} (htg : aw_tg G) (hkc : 40 ≤ kc) (hks : 400 ≤ ks) (hi : 0 ≤ i ∧ i + 7 ≤ (G.2.2.2.2.2.1 : Int)) (hN : G.2.2.2.2.2.1 ≤ 3584) (h : LM G x1 b o ad J s s f) (hn : ∀ s' f' J' m5 m6 kc' ks', kc - 40 ≤ kc' → ks - 400 ≤ ks' → LM G x1 b o ad J' s' s' f' → aw_W G mW_law (d + 31) Q 1201 [some (.ref G.2.2.2.2.1), some (.ref x1), some (.ref b), some (.ref o), some (.int (iI i)), m5, m6] [] J' kc' ks') : aw_W G mW_law (d + 31) Q 1133 [some (.ref G.2.2.2.2.1), some (.ref x1), some (.ref b), some (.ref o), some (.int (iI i)), l5, l6] [] J kc ks := by
  first | refine aw_aload_n dW_law_1133 rfl ?_ | refine aw_aload_nQ dW_law_1133 rfl ?_ | refine aw_aload_nN dW_law_1133 rfl ?_
  first | refine aw_aload_n dW_law_1134 rfl ?_ | refine aw_aload_nQ dW_law_1134 rfl ?_ | refine aw_aload_nN dW_law_1134 rfl ?_
  refine aw_iload dW_law_1135 rfl ?_
  refine ai_iconst dW_law_1137 ?_
  refine ai_iadd dW_law_1138 ?_
  refine ai_sld dW_law_1139 (by omega) (by omega) hN ?_
  first | refine aw_aload_n dW_law_1140 rfl ?_ | refine aw_aload_nQ dW_law_1140 rfl ?_ | refine aw_aload_nN dW_law_1140 rfl ?_
  refine aw_iload dW_law_1141 rfl ?_
  refine ai_iconst dW_law_1143 ?_
  refine ai_iadd dW_law_1144 ?_
  refine ai_sld dW_law_1145 (by omega) (by omega) hN ?_
  first | refine aw_aload_n dW_law_1146 rfl ?_ | refine aw_aload_nQ dW_law_1146 rfl ?_ | refine aw_aload_nN dW_law_1146 rfl ?_
  refine aw_callSW (vs := [.ref x1, .int (iI (lw_s G (i + 1))), .int (iI (lw_s G (i + 2))), .ref o]) (st := []) (mc' := 40) (ms' := 400) (kc' := kc - 40) (ks' := ks - 400) dW_law_1147 cW_131 rfl (Nat.le_of_ble_eq_true rfl) (Nat.le_of_ble_eq_true rfl) (by omega) (by omega) ?_
  refine lc_applied (d := d) htg (Nat.le_refl _) (Nat.le_refl _) h (lw_sb _ _) (lw_sb _ _) (fun c r J1 f1 hr h1 hf => ?_)
  refine aw_istore dW_law_1150 (by decide) rfl ?_
  first | refine aw_aload_n dW_law_1152 rfl ?_ | refine aw_aload_nQ dW_law_1152 rfl ?_ | refine aw_aload_nN dW_law_1152 rfl ?_
  first | refine aw_aload_n dW_law_1153 rfl ?_ | refine aw_aload_nQ dW_law_1153 rfl ?_ | refine aw_aload_nN dW_law_1153 rfl ?_
  refine aw_iload dW_law_1154 rfl ?_
  refine ai_iconst dW_law_1156 ?_
  refine ai_iadd dW_law_1157 ?_
  refine ai_sld dW_law_1158 (by omega) (by omega) hN ?_
  first | refine aw_aload_n dW_law_1159 rfl ?_ | refine aw_aload_nQ dW_law_1159 rfl ?_ | refine aw_aload_nN dW_law_1159 rfl ?_
  refine aw_iload dW_law_1160 rfl ?_
  refine ai_iconst dW_law_1162 ?_
  refine ai_iadd dW_law_1163 ?_
  refine ai_sld dW_law_1164 (by omega) (by omega) hN ?_
  obtain ⟨fsb, hjb⟩ := h1.jb
  refine aw_callV2 (mc' := 0) (ms' := 0) (kc' := kc - 40) (ks' := ks - 400) dW_law_1165 cW_133 hjb (Nat.le_of_ble_eq_true rfl) (Nat.le_of_ble_eq_true rfl) (by omega) (by omega) rfl ?_
  refine lm_applied (d := d) htg h1 (lw_sb _ _) (lw_sb _ _) hr (fun r' s2 J2 h2 ht he => ?_)
  have hcb : iB c := by rw [← ht]; exact h2.b0
  refine aw_istore dW_law_1168 (by decide) rfl ?_
  first | refine aw_aload_n dW_law_1170 rfl ?_ | refine aw_aload_nQ dW_law_1170 rfl ?_ | refine aw_aload_nN dW_law_1170 rfl ?_
  obtain ⟨fsc, hjc⟩ := h2.jb
  refine aw_callV0 (mc' := 0) (ms' := 0) (kc' := kc - 40) (ks' := ks - 400) dW_law_1171 cW_78 hjc (Nat.le_of_ble_eq_true rfl) (Nat.le_of_ble_eq_true rfl) (by omega) (by omega) rfl ?_
  refine lm_thrown htg h2 (fun J3 h3 => ?_)
  rw [ht]
  refine aw_iload dW_law_1174 rfl ?_
  refine ai_icmp_eq (tgt := 1181) dW_law_1176 (by decide) hcb hcb (fun _ => ?_) (fun z => absurd rfl z)
  refine aw_iload dW_law_1181 rfl ?_
  refine ai_if_ne (tgt := 1198) dW_law_1183 (by decide) hcb (fun hb1183 => ?_) (fun hb1183 => ?_)
  · refine aw_goto (tgt := 1201) dW_law_1198 (by decide) ?_
    exact hn s2 f1 J3 _ _ _ _ (Nat.le_refl _) (Nat.le_refl _) h3
  · first | refine aw_aload_n dW_law_1186 rfl ?_ | refine aw_aload_nQ dW_law_1186 rfl ?_ | refine aw_aload_nN dW_law_1186 rfl ?_
    refine ai_iconst dW_law_1187 ?_
    refine aw_lald dW_law_1188 h3.out (iI_in (by decide) (by decide) (by decide)) ?_
    refine aw_iload dW_law_1189 rfl ?_
    refine aw_i2l dW_law_1191 ?_
    refine aw_lcmp dW_law_1192 ?_
    refine aw_if_eq (tgt := 1198) dW_law_1193 (by decide) (fun _ => ?_) (fun z => absurd ((mo_lcmp _ _).mpr (by rw [iI_cl (by decide), he hb1183]; exact hf hb1183)) z)
    refine aw_goto (tgt := 1201) dW_law_1198 (by decide) ?_
    exact hn s2 f1 J3 _ _ _ _ (Nat.le_refl _) (Nat.le_refl _) h3

theorem lk_step {i : Int} {l5 l6 : Option Value} (htg : aw_tg G) (hkc : 40 ≤ kc) (hks : 400 ≤ ks) (hi : 0 ≤ i ∧ i + 7 ≤ (G.2.2.2.2.2.1 : Int)) (hN : G.2.2.2.2.2.1 ≤ 3584) (h : LM G x1 b o ad J s s f) (hn : ∀ s' f' J' m5 m6 kc' ks', kc - 40 ≤ kc' → ks - 400 ≤ ks' → LM G x1 b o ad J' s' s' f' → aw_W G mW_law (d + 31) Q 1201 [some (.ref G.2.2.2.2.1), some (.ref x1), some (.ref b), some (.ref o), some (.int (iI i)), m5, m6] [] J' kc' ks') : aw_W G mW_law (d + 31) Q 33 [some (.ref G.2.2.2.2.1), some (.ref x1), some (.ref b), some (.ref o), some (.int (iI i)), l5, l6] [] J kc ks := by
  refine aw_aload_n dW_law_33 rfl ?_
  refine aw_iload dW_law_34 rfl ?_
  refine ai_sld dW_law_36 (by omega) (by omega) hN ?_
  refine ai_bipush dW_law_37 (by decide +kernel) ?_
  refine aw_iand dW_law_39 ?_
  have h15 := lw_15 (iI (lw_s G i))
  have hc : (iI (lw_s G i) &&& iI 15).toInt = 0 ∨ (iI (lw_s G i) &&& iI 15).toInt = 1 ∨ (iI (lw_s G i) &&& iI 15).toInt = 2 ∨ (iI (lw_s G i) &&& iI 15).toInt = 3 ∨ (iI (lw_s G i) &&& iI 15).toInt = 4 ∨ (iI (lw_s G i) &&& iI 15).toInt = 5 ∨ (iI (lw_s G i) &&& iI 15).toInt = 6 ∨ (iI (lw_s G i) &&& iI 15).toInt = 7 ∨ (iI (lw_s G i) &&& iI 15).toInt = 8 ∨ (iI (lw_s G i) &&& iI 15).toInt = 9 ∨ (iI (lw_s G i) &&& iI 15).toInt = 10 ∨ (iI (lw_s G i) &&& iI 15).toInt = 11 ∨ (iI (lw_s G i) &&& iI 15).toInt = 12 ∨ (iI (lw_s G i) &&& iI 15).toInt = 13 ∨ (iI (lw_s G i) &&& iI 15).toInt = 14 ∨ (iI (lw_s G i) &&& iI 15).toInt = 15 := by omega
  rcases hc with e | e | e | e | e | e | e | e | e | e | e | e | e | e | e | e
  · refine aw_tableIn (off := 76) (tgt := 116) dW_law_40 (by omega) (by omega) (by rw [e]; rfl) (by decide) ?_
    exact lk_file htg hkc hks hi hN h hn
  · refine aw_tableIn (off := 168) (tgt := 208) dW_law_40 (by omega) (by omega) (by rw [e]; rfl) (by decide) ?_
    exact lk_descriptor htg hkc hks hi hN h hn
  · refine aw_tableIn (off := 248) (tgt := 288) dW_law_40 (by omega) (by omega) (by rw [e]; rfl) (by decide) ?_
    exact lk_wipe htg hkc hks hi hN h hn
  · refine aw_tableIn (off := 284) (tgt := 324) dW_law_40 (by omega) (by omega) (by rw [e]; rfl) (by decide) ?_
    exact lk_child htg hkc hks hi hN h hn
  · refine aw_tableIn (off := 340) (tgt := 380) dW_law_40 (by omega) (by omega) (by rw [e]; rfl) (by decide) ?_
    exact lk_add htg hkc hks hi hN h hn
  · refine aw_tableIn (off := 443) (tgt := 483) dW_law_40 (by omega) (by omega) (by rw [e]; rfl) (by decide) ?_
    exact lk_filter htg hkc hks hi hN h hn
  · refine aw_tableIn (off := 581) (tgt := 621) dW_law_40 (by omega) (by omega) (by rw [e]; rfl) (by decide) ?_
    exact lk_lock htg hkc hks hi hN h hn
  · refine aw_tableIn (off := 637) (tgt := 677) dW_law_40 (by omega) (by omega) (by rw [e]; rfl) (by decide) ?_
    exact lk_release htg hkc hks hi hN h hn
  · refine aw_tableIn (off := 693) (tgt := 733) dW_law_40 (by omega) (by omega) (by rw [e]; rfl) (by decide) ?_
    exact lk_loader htg hkc hks hi hN h hn
  · refine aw_tableIn (off := 777) (tgt := 817) dW_law_40 (by omega) (by omega) (by rw [e]; rfl) (by decide) ?_
    exact lk_look htg hkc hks hi hN h hn
  · refine aw_tableIn (off := 814) (tgt := 854) dW_law_40 (by omega) (by omega) (by rw [e]; rfl) (by decide) ?_
    exact lk_load htg hkc hks hi hN h hn
  · refine aw_tableIn (off := 882) (tgt := 922) dW_law_40 (by omega) (by omega) (by rw [e]; rfl) (by decide) ?_
    exact lk_info htg hkc hks hi hN h hn
  · refine aw_tableIn (off := 950) (tgt := 990) dW_law_40 (by omega) (by omega) (by rw [e]; rfl) (by decide) ?_
    exact lk_isA htg hkc hks hi hN h hn
  · refine aw_tableIn (off := 1025) (tgt := 1065) dW_law_40 (by omega) (by omega) (by rw [e]; rfl) (by decide) ?_
    exact lk_apply htg hkc hks hi hN h hn
  · refine aw_tableIn (off := 1093) (tgt := 1133) dW_law_40 (by omega) (by omega) (by rw [e]; rfl) (by decide) ?_
    exact lk_applied htg hkc hks hi hN h hn
  · refine aw_tableOut (tgt := 1201) dW_law_40 (by omega) (by decide) ?_
    exact hn s f J l5 l6 _ _ (Nat.sub_le _ _) (Nat.sub_le _ _) h

theorem lk_loop (htg : aw_tg G) (hN : G.2.2.2.2.2.1 ≤ 3584) (hq : ∀ J, Q (.inl (some (.int 1))) J) : ∀ (n : Nat) (i : Int) (l5 l6 : Option Value) (kc ks : Nat) (J : aw_J) (s : mo_S) (f : Nat → Int64), 0 ≤ i ∧ i ≤ 3584 → (G.2.2.2.2.2.1 : Int) ≤ i + 7 * n + 6 → 40 * n ≤ kc → 400 * n ≤ ks → LM G x1 b o ad J s s f → aw_W G mW_law (d + 31) Q 23 [some (.ref G.2.2.2.2.1), some (.ref x1), some (.ref b), some (.ref o), some (.int (iI i)), l5, l6] [] J kc ks := by
  intro n
  induction n with
  | zero =>
    intro i l5 l6 kc ks J s f hi hn hkc hks h
    refine aw_iload dW_law_23 rfl ?_
    refine aw_aload_n dW_law_25 rfl ?_
    refine aw_slen dW_law_26 ?_
    rw [iI_ofNat]
    refine ai_bipush dW_law_27 (by decide +kernel) ?_
    refine ai_isub dW_law_29 ?_
    refine ai_icmp_gt (tgt := 1207) dW_law_30 (by decide) (by omega) (by omega) (fun _ => ?_) (fun z => absurd z (by omega))
    refine ai_iconst dW_law_1207 ?_
    refine aw_zret dW_law_1208 rfl (by decide +kernel) ?_
    rw [show (iI 1 : Int32) = 1 from by decide +kernel]
    exact hq J
  | succ n ih =>
    intro i l5 l6 kc ks J s f hi hn hkc hks h
    refine aw_iload dW_law_23 rfl ?_
    refine aw_aload_n dW_law_25 rfl ?_
    refine aw_slen dW_law_26 ?_
    rw [iI_ofNat]
    refine ai_bipush dW_law_27 (by decide +kernel) ?_
    refine ai_isub dW_law_29 ?_
    refine ai_icmp_gt (tgt := 1207) dW_law_30 (by decide) (by omega) (by omega) (fun _ => ?_) (fun z => ?_)
    · refine ai_iconst dW_law_1207 ?_
      refine aw_zret dW_law_1208 rfl (by decide +kernel) ?_
      rw [show (iI 1 : Int32) = 1 from by decide +kernel]
      exact hq J
    · refine lk_step htg (by omega) (by omega) ⟨hi.1, by omega⟩ hN h (fun s' f' J' m5 m6 kc' ks' q1 q2 h' => ?_)
      refine ai_iinc dW_law_1201 rfl (by decide) rfl ?_
      refine aw_goto (tgt := 23) dW_law_1204 (by decide) ?_
      exact ih (i + 7) m5 m6 _ _ J' s' f' ⟨by omega, by omega⟩ (by omega) (by omega) (by omega) h'

theorem lk_run (hkc : 21000 ≤ kc) (hks : 213000 ≤ ks) (hN : G.2.2.2.2.2.1 ≤ 3584) (hq : ∀ J, Q (.inl (some (.int 1))) J) : aw_W G mW_law 100 Q 0 [some (.ref G.2.2.2.2.1), none, none, none, none, none, none] [] (fun _ => none) kc ks := by
  refine aw_tags (fun htg => ?_)
  refine aw_new (kc' := kc - 1) (ks' := ks - 8) dW_law_0 nW_8 (by omega) (by omega) (fun qx hqx => ?_)
  refine aw_dup dW_law_3 rfl ?_
  refine aw_callI0 (mc' := 60) (ms' := 500) (kc' := kc - 61) (ks' := ks - 508) dW_law_4 cW_68 (Nat.le_of_ble_eq_true rfl) (Nat.le_of_ble_eq_true rfl) (by omega) (by omega) ?_
  refine sp_Tinit (d := 97) (by decide) (by decide) aw_up_s (fun y z H hCR hkp hz => ?_)
  refine aw_astore_n dW_law_7 (by decide) rfl ?_
  refine aw_new (kc' := kc - 62) (ks' := ks - 541) dW_law_8 nW_69 (by omega) (by omega) (fun qb hqb => ?_)
  refine aw_dup dW_law_11 rfl ?_
  refine aw_callI0 (mc' := 28) (ms' := 7035) (kc' := kc - 90) (ks' := ks - 7576) dW_law_12 cW_71 (Nat.le_of_ble_eq_true rfl) (Nat.le_of_ble_eq_true rfl) (by omega) (by omega) ?_
  refine mo_init (by decide) (by decide) aw_up_s (fun ad J' hP hA hk => ?_)
  refine aw_astore_n dW_law_15 (by decide) rfl ?_
  refine ai_iconst dW_law_16 ?_
  refine aw_newJ (N := 1) (kc' := kc - 91) (ks' := ks - 7577) dW_law_17 wP_J (by decide) (by decide) (by decide) (by omega) (by omega) (fun qo hqo => ?_)
  refine aw_astore_n dW_law_19 (by decide) rfl ?_
  refine ai_iconst dW_law_20 ?_
  refine aw_istore dW_law_21 (by decide) rfl ?_
  exact lk_loop (d := 69) htg hN hq 512 0 none none _ _ _ _ _ (by decide) (by omega) (by omega) (by omega) (LM.st htg hCR hqb hP hA hk hqo)

end ST31
