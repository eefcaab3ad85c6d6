/-! the model: read -/
theorem ct_158d {X : zz_X} {d n : Nat} {h : zz_H} {c : Int} (hc : -2147483648 ≤ c ∧ c < 2147483648) : zz_Ct X mm_158 d 0 0 [zv c] n h (zp (some (zv (sp_dig c))) n h) := ct_158 hc
/-- the buffer holds characters -/
def md_B (V : Nat → Int) (B : Nat → Int → Int) : Prop := (0 ≤ V 29 ∧ V 29 ≤ 40) ∧ ∀ i, 0 ≤ i → i < V 29 → 33 ≤ B 21 i ∧ B 21 i ≤ 126
theorem ch_ok.zW {g : Int → Int} : ∀ (l : List Int) (i : Int), ch_ok g → (∀ c ∈ l, 0 ≤ c ∧ c < 65536) → ch_ok (zW g i l)
  | [], _, h, _ => h
  | c :: l, i, h, hl => ch_ok.zW l (i + 1) (h.up (hl c List.mem_cons_self)) (fun x hx => hl x (List.mem_cons_of_mem _ hx))
theorem sp_dec_ok {f : Int → Int} {q : Int} (hf : ∀ i, 0 ≤ i → i < q → 0 ≤ f i ∧ f i < 65536) : ∀ (k : Nat) (i : Int) (l : List Int), 0 ≤ i → sp_dec f q k i = some l → (∀ c ∈ l, 0 ≤ c ∧ c < 65536) ∧ (i ≤ q → (l.length : Int) ≤ q - i)
  | 0, i, l, _, h => by cases h; exact ⟨fun c hc => absurd hc List.not_mem_nil, fun _ => by simp; omega⟩
  | k + 1, i, l, hi, h => by
    unfold sp_dec at h
    by_cases h1 : q ≤ i
    · rw [if_pos h1] at h; cases h; exact ⟨fun c hc => absurd hc List.not_mem_nil, fun _ => by simp; omega⟩
    rw [if_neg h1] at h
    by_cases h2 : f i = 59
    · rw [if_pos h2] at h; cases h; exact ⟨fun c hc => absurd hc List.not_mem_nil, fun _ => by simp; omega⟩
    rw [if_neg h2] at h
    by_cases h3 : f i = 37
    · rw [if_pos h3] at h
      by_cases h4 : i + 2 < q
      · rw [if_pos h4] at h
        by_cases h5 : sp_code (f (i + 1)) (f (i + 2)) = -1
        · rw [if_pos h5] at h; cases h
        · rw [if_neg h5, Option.map_eq_some_iff] at h
          obtain ⟨l', hl', rfl⟩ := h
          obtain ⟨a1, a2⟩ := sp_dec_ok hf k (i + 3) l' (by omega) hl'
          have hc := sp_code_rg (f (i + 1)) (f (i + 2))
          refine ⟨fun c hc' => ?_, fun _ => by have := a2 (by omega); simp; omega⟩
          rcases List.mem_cons.mp hc' with rfl | hc'
          · omega
          · exact a1 c hc'
      · rw [if_neg h4] at h; cases h
    · rw [if_neg h3, Option.map_eq_some_iff] at h
      obtain ⟨l', hl', rfl⟩ := h
      obtain ⟨a1, a2⟩ := sp_dec_ok hf k (i + 1) l' (by omega) hl'
      refine ⟨fun c hc' => ?_, fun _ => by have := a2 (by omega); simp; omega⟩
      rcases List.mem_cons.mp hc' with rfl | hc'
      · exact hf i hi (by omega)
      · exact a1 c hc' 
theorem lp_157i {X : zz_X} {d n : Nat} (hd : 1 ≤ d) {m : Nat} {V : Nat → Int} {h0 : zz_H} {many p q : Int} (hp : 1 ≤ p) (hq40 : q ≤ V 29) (hqp : p ≤ q) {Q : Option Value → Nat → zz_H → Prop} (hV : 0 ≤ V 29 ∧ V 29 ≤ 40) : ∀ (fu : Nat) (i nn : Int) (B : Nat → Int → Int) (x7 x8 x9 : Option Value), q ≤ i + fu → (p ≤ i ∧ i ≤ 100) → (0 ≤ nn ∧ nn ≤ i - 1) → (∀ B', ax [22] B B' → ch_ok (B' 22) → sp_dec (B 21) q fu i = none → Q (some (zv 0)) n (md_H m V B' h0)) → (∀ l cut k x7 x8 x9, sp_dec (B 21) q fu i = some l → zz_Z X mm_157 d Q 0 0 271 [some (.ref m), some (zv many), some (zv (nn + (l.length : Int))), some (zv p), some (zv q), some (zv cut), some (zv k), x7, x8, x9] [] n (md_H m V (va_up B 22 (zW (B 22) nn l)) h0)) → md_B V B → ch_ok (B 22) →
    zz_Z X mm_157 d Q 0 0 106 [some (.ref m), some (zv many), some (zv nn), some (zv p), some (zv q), some (zv 0), some (zv i), x7, x8, x9] [] n (md_H m V B h0) := by
  intro fu
  induction fu with
  | zero =>
    intro i nn B x7 x8 x9 hfu hpi hnn hN hY hB hch
    have hq : q ≤ i := by omega
    have hq0 : -100 ≤ q ∨ q < -100 := by omega
    rcases hq0 with hq0 | hq0
    · refine zj_iload dk_157_106 rfl ?_
      refine zj_iload dk_157_108 rfl ?_
      refine zj_icmp_ge (t := 271) dk_157_110 rfl (by omega) (fun c110 => ?_) (fun c110 => ?_)
      · skip
        have h9 := hY [] 0 i x7 x8 x9 rfl
        rw [show nn + (([] : List Int).length : Int) = nn from by simp, show va_up B 22 (zW (B 22) nn []) = B from va_up_id _ _] at h9
        exact h9
      · omega
    · exact absurd hqp (by omega)
  | succ fu ih =>
    intro i nn B x7 x8 x9 hfu hpi hnn hN hY hB hch
    by_cases hq : q ≤ i
    · refine zj_iload dk_157_106 rfl ?_
      refine zj_iload dk_157_108 rfl ?_
      refine zj_icmp_ge (t := 271) dk_157_110 rfl (by omega) (fun c110 => ?_) (fun c110 => ?_)
      · skip
        have h9 := hY [] 0 i x7 x8 x9 (by unfold sp_dec; rw [if_pos hq])
        rw [show nn + (([] : List Int).length : Int) = nn from by simp, show va_up B 22 (zW (B 22) nn []) = B from va_up_id _ _] at h9
        exact h9
      · omega
    have hc := hB.2 i (by omega) (by omega)
    by_cases h59 : B 21 i = 59
    · refine zj_iload dk_157_106 rfl ?_
      refine zj_iload dk_157_108 rfl ?_
      refine zj_icmp_ge (t := 271) dk_157_110 rfl (by omega) (fun c110 => ?_) (fun c110 => ?_)
      · omega
      · skip
        refine zj_iload dk_157_113 rfl ?_
        refine zj_if_ne (t := 271) dk_157_115 rfl (by omega) (fun c115 => ?_) (fun c115 => ?_)
        · omega
        · skip
          refine zi_aload_n dk_157_118 rfl rfl ?_
          refine zi_getf dk_157_119 fl_13_71 md_0 rfl ?_
          refine zj_iload dk_157_122 rfl ?_
          refine md_iald (k := 21) (N := 40) dk_157_124 (by decide) rfl rfl (by omega) ?_
          refine zj_istore dk_157_125 rfl ?_
          refine zj_iload dk_157_127 rfl ?_
          refine zj_bipush dk_157_129 (by decide) ?_
          refine zj_icmp_ne (t := 138) dk_157_131 rfl (by omega) (fun c131 => ?_) (fun c131 => ?_)
          · omega
          · skip
            refine zj_iconst dk_157_134 ?_
            refine zi_goto (t := 139) dk_157_135 rfl ?_
            refine zj_istore dk_157_139 rfl ?_
            refine zj_iload dk_157_141 rfl ?_
            refine zj_bipush dk_157_143 (by decide) ?_
            refine zj_icmp_ne (t := 249) dk_157_145 rfl (by omega) (fun c145 => ?_) (fun c145 => ?_)
            · skip
              refine zj_iload dk_157_249 rfl ?_
              refine zj_if_ne (t := 265) dk_157_251 rfl (by omega) (fun c251 => ?_) (fun c251 => ?_)
              · skip
                refine zj_iinc dk_157_265 rfl rfl ?_
                refine zi_goto (t := 106) dk_157_268 rfl ?_
                have h9 := fun k7 k8 => hY [] 1 (i + 1) k7 k8 x9 (by unfold sp_dec; rw [if_neg hq, if_pos h59])
                rw [show nn + (([] : List Int).length : Int) = nn from by simp, show va_up B 22 (zW (B 22) nn []) = B from va_up_id _ _] at h9
                refine zj_iload dk_157_106 rfl ?_
                refine zj_iload dk_157_108 rfl ?_
                refine zj_icmp_ge (t := 271) dk_157_110 rfl (by omega) (fun c110 => ?_) (fun c110 => ?_)
                · skip
                  exact h9 _ _
                · skip
                  refine zj_iload dk_157_113 rfl ?_
                  refine zj_if_ne (t := 271) dk_157_115 rfl (by omega) (fun c115 => ?_) (fun c115 => ?_)
                  · skip
                    exact h9 _ _
                  · omega
              · omega
            · omega
    by_cases h37 : B 21 i = 37
    · have g1 := sp_dig_rg (B 21 (i + 1))
      have g2 := sp_dig_rg (B 21 (i + 2))
      by_cases h2 : i + 2 < q
      · refine zj_iload dk_157_106 rfl ?_
        refine zj_iload dk_157_108 rfl ?_
        refine zj_icmp_ge (t := 271) dk_157_110 rfl (by omega) (fun c110 => ?_) (fun c110 => ?_)
        · omega
        · skip
          refine zj_iload dk_157_113 rfl ?_
          refine zj_if_ne (t := 271) dk_157_115 rfl (by omega) (fun c115 => ?_) (fun c115 => ?_)
          · omega
          · skip
            refine zi_aload_n dk_157_118 rfl rfl ?_
            refine zi_getf dk_157_119 fl_13_71 md_0 rfl ?_
            refine zj_iload dk_157_122 rfl ?_
            refine md_iald (k := 21) (N := 40) dk_157_124 (by decide) rfl rfl (by omega) ?_
            refine zj_istore dk_157_125 rfl ?_
            refine zj_iload dk_157_127 rfl ?_
            refine zj_bipush dk_157_129 (by decide) ?_
            refine zj_icmp_ne (t := 138) dk_157_131 rfl (by omega) (fun c131 => ?_) (fun c131 => ?_)
            · skip
              refine zj_iconst dk_157_138 ?_
              refine zj_istore dk_157_139 rfl ?_
              refine zj_iload dk_157_141 rfl ?_
              refine zj_bipush dk_157_143 (by decide) ?_
              refine zj_icmp_ne (t := 249) dk_157_145 rfl (by omega) (fun c145 => ?_) (fun c145 => ?_)
              · omega
              · skip
                refine zj_iload dk_157_148 rfl ?_
                refine zj_iconst dk_157_150 ?_
                refine zj_iadd dk_157_151 ?_
                refine zj_iload dk_157_152 rfl ?_
                refine zj_icmp_ge (t := 172) dk_157_154 rfl (by omega) (fun c154 => ?_) (fun c154 => ?_)
                · omega
                · skip
                  refine zi_aload_n dk_157_157 rfl rfl ?_
                  refine zi_getf dk_157_158 fl_13_71 md_0 rfl ?_
                  refine zj_iload dk_157_161 rfl ?_
                  refine zj_iconst dk_157_163 ?_
                  refine zj_iadd dk_157_164 ?_
                  refine md_iald (k := 21) (N := 40) dk_157_165 (by decide) rfl rfl (by omega) ?_
                  have k1 := hB.2 (i + 1) (by omega) (by omega)
                  refine zi_invS dk_157_166 ml_13_132 is_158 (ct_158d (d := d - 1) (by omega)) rfl rfl (Nat.le_of_ble_eq_true rfl) (by omega) rfl rfl (fun r n' h' hq => ?_)
                  obtain ⟨rfl, rfl, rfl⟩ := hq
                  refine zi_goto (t := 173) dk_157_169 rfl ?_
                  refine zj_istore dk_157_173 rfl ?_
                  refine zj_iload dk_157_175 rfl ?_
                  refine zj_iconst dk_157_177 ?_
                  refine zj_iadd dk_157_178 ?_
                  refine zj_iload dk_157_179 rfl ?_
                  refine zj_icmp_ge (t := 199) dk_157_181 rfl (by omega) (fun c181 => ?_) (fun c181 => ?_)
                  · omega
                  · skip
                    refine zi_aload_n dk_157_184 rfl rfl ?_
                    refine zi_getf dk_157_185 fl_13_71 md_0 rfl ?_
                    refine zj_iload dk_157_188 rfl ?_
                    refine zj_iconst dk_157_190 ?_
                    refine zj_iadd dk_157_191 ?_
                    refine md_iald (k := 21) (N := 40) dk_157_192 (by decide) rfl rfl (by omega) ?_
                    have k2 := hB.2 (i + 2) (by omega) (by omega)
                    refine zi_invS dk_157_193 ml_13_132 is_158 (ct_158d (d := d - 1) (by omega)) rfl rfl (Nat.le_of_ble_eq_true rfl) (by omega) rfl rfl (fun r n' h' hq => ?_)
                    obtain ⟨rfl, rfl, rfl⟩ := hq
                    refine zi_goto (t := 200) dk_157_196 rfl ?_
                    refine zj_istore dk_157_200 rfl ?_
                    refine zj_bipush dk_157_202 (by decide) ?_
                    refine zj_iload dk_157_204 rfl ?_
                    refine zj_imul dk_157_206 ?_
                    refine zj_iload dk_157_207 rfl ?_
                    refine zj_iadd dk_157_209 ?_
                    refine zj_istore dk_157_210 rfl ?_
                    refine zj_iload dk_157_212 rfl ?_
                    refine zj_if_lt (t := 244) dk_157_214 rfl (by omega) (fun c214 => ?_) (fun c214 => ?_)
                    · skip
                      refine zj_iconst dk_157_244 ?_
                      refine zj_zreturn dk_157_245 rfl (by omega) (hN B ax.rf hch (by unfold sp_dec; rw [if_neg hq, if_neg h59, if_pos h37, if_pos h2, if_pos (by unfold sp_code; (repeat' split) <;> first | omega | (split at c241 <;> omega))]))
                    · skip
                      refine zj_iload dk_157_217 rfl ?_
                      refine zj_if_lt (t := 244) dk_157_219 rfl (by omega) (fun c219 => ?_) (fun c219 => ?_)
                      · skip
                        refine zj_iconst dk_157_244 ?_
                        refine zj_zreturn dk_157_245 rfl (by omega) (hN B ax.rf hch (by unfold sp_dec; rw [if_neg hq, if_neg h59, if_pos h37, if_pos h2, if_pos (by unfold sp_code; (repeat' split) <;> first | omega | (split at c241 <;> omega))]))
                      · skip
                        refine zj_iload dk_157_222 rfl ?_
                        refine zj_bipush dk_157_224 (by decide) ?_
                        refine zj_icmp_lt (t := 244) dk_157_226 rfl (by omega) (fun c226 => ?_) (fun c226 => ?_)
                        · skip
                          refine zj_iconst dk_157_244 ?_
                          refine zj_zreturn dk_157_245 rfl (by omega) (hN B ax.rf hch (by unfold sp_dec; rw [if_neg hq, if_neg h59, if_pos h37, if_pos h2, if_pos (by unfold sp_code; (repeat' split) <;> first | omega | (split at c241 <;> omega))]))
                        · skip
                          refine zj_iload dk_157_229 rfl ?_
                          refine zj_bipush dk_157_231 (by decide) ?_
                          refine zj_icmp_gt (t := 244) dk_157_233 rfl (by omega) (fun c233 => ?_) (fun c233 => ?_)
                          · skip
                            refine zj_iconst dk_157_244 ?_
                            refine zj_zreturn dk_157_245 rfl (by omega) (hN B ax.rf hch (by unfold sp_dec; rw [if_neg hq, if_neg h59, if_pos h37, if_pos h2, if_pos (by unfold sp_code; (repeat' split) <;> first | omega | (split at c241 <;> omega))]))
                          · skip
                            refine zj_iload dk_157_236 rfl ?_
                            refine zi_invS dk_157_238 ml_13_136 is_135 (ct_135 (d := d - 1) (by omega)) rfl rfl (Nat.le_of_ble_eq_true rfl) (by omega) rfl rfl (fun r n' h' hq => ?_)
                            obtain ⟨rfl, rfl, rfl⟩ := hq
                            refine zj_if_eq (t := 246) dk_157_241 rfl (by split <;> omega) (fun c241 => ?_) (fun c241 => ?_)
                            · skip
                              have hcd : sp_code (B 21 (i + 1)) (B 21 (i + 2)) = (16 * sp_dig (B 21 (i + 1)) + sp_dig (B 21 (i + 2))) := by unfold sp_code; rw [if_neg (by omega), if_pos (by split at c241 <;> omega)]
                              have hcd1 : ¬ sp_code (B 21 (i + 1)) (B 21 (i + 2)) = -1 := by omega
                              refine zj_iinc dk_157_246 rfl rfl ?_
                              refine zj_iload dk_157_249 rfl ?_
                              refine zj_if_ne (t := 265) dk_157_251 rfl (by omega) (fun c251 => ?_) (fun c251 => ?_)
                              · omega
                              · skip
                                refine zi_aload_n dk_157_254 rfl rfl ?_
                                refine zi_getf dk_157_255 fl_13_74 md_0 rfl ?_
                                refine zj_iload_n dk_157_258 rfl ?_
                                refine zj_iload dk_157_259 rfl ?_
                                refine md_iast (k := 22) (N := 40) dk_157_261 (by decide) rfl rfl (by omega) ?_
                                refine zj_iinc dk_157_262 rfl rfl ?_
                                refine zj_iinc dk_157_265 rfl rfl ?_
                                refine zi_goto (t := 106) dk_157_268 rfl ?_
                                rw [show i + 2 + 1 = i + 3 by omega]
                                refine ih (i + 3) (nn + 1) (va_up B 22 (zU (B 22) nn (16 * sp_dig (B 21 (i + 1)) + sp_dig (B 21 (i + 2))))) _ _ _ (by omega) (by omega) (by omega) (fun B' g1 g0 g2 => hN B' (ax.tr (ax.rf.up (by decide)) g1 (fun _ hh => hh)) g0 (by unfold sp_dec; rw [if_neg hq, if_neg h59, if_pos h37, if_pos h2, if_neg hcd1, hcd, show sp_dec (B 21) q fu (i + 3) = _ from g2]; rfl)) (fun l cut k x7 x8 x9 g2 => ?_) hB (hch.up (by omega))
                                have h9 := hY ((16 * sp_dig (B 21 (i + 1)) + sp_dig (B 21 (i + 2))) :: l) cut k x7 x8 x9 (by unfold sp_dec; rw [if_neg hq, if_neg h59, if_pos h37, if_pos h2, if_neg hcd1, hcd, show sp_dec (B 21) q fu (i + 3) = _ from g2]; rfl)
                                rw [show va_up (va_up B 22 (zU (B 22) nn (16 * sp_dig (B 21 (i + 1)) + sp_dig (B 21 (i + 2))))) 22 (zW (va_up B 22 (zU (B 22) nn (16 * sp_dig (B 21 (i + 1)) + sp_dig (B 21 (i + 2)))) 22) (nn + 1) l) = va_up B 22 (zW (B 22) nn ((16 * sp_dig (B 21 (i + 1)) + sp_dig (B 21 (i + 2))) :: l)) from va_up_up _ _ _ _, show nn + 1 + (l.length : Int) = nn + ((((16 * sp_dig (B 21 (i + 1)) + sp_dig (B 21 (i + 2))) :: l).length : Nat) : Int) by simp; omega]
                                exact h9
                            · skip
                              refine zj_iconst dk_157_244 ?_
                              refine zj_zreturn dk_157_245 rfl (by omega) (hN B ax.rf hch (by unfold sp_dec; rw [if_neg hq, if_neg h59, if_pos h37, if_pos h2, if_pos (by unfold sp_code; (repeat' split) <;> first | omega | (split at c241 <;> omega))]))
            · omega
      · refine zj_iload dk_157_106 rfl ?_
        refine zj_iload dk_157_108 rfl ?_
        refine zj_icmp_ge (t := 271) dk_157_110 rfl (by omega) (fun c110 => ?_) (fun c110 => ?_)
        · omega
        · skip
          refine zj_iload dk_157_113 rfl ?_
          refine zj_if_ne (t := 271) dk_157_115 rfl (by omega) (fun c115 => ?_) (fun c115 => ?_)
          · omega
          · skip
            refine zi_aload_n dk_157_118 rfl rfl ?_
            refine zi_getf dk_157_119 fl_13_71 md_0 rfl ?_
            refine zj_iload dk_157_122 rfl ?_
            refine md_iald (k := 21) (N := 40) dk_157_124 (by decide) rfl rfl (by omega) ?_
            refine zj_istore dk_157_125 rfl ?_
            refine zj_iload dk_157_127 rfl ?_
            refine zj_bipush dk_157_129 (by decide) ?_
            refine zj_icmp_ne (t := 138) dk_157_131 rfl (by omega) (fun c131 => ?_) (fun c131 => ?_)
            · skip
              refine zj_iconst dk_157_138 ?_
              refine zj_istore dk_157_139 rfl ?_
              refine zj_iload dk_157_141 rfl ?_
              refine zj_bipush dk_157_143 (by decide) ?_
              refine zj_icmp_ne (t := 249) dk_157_145 rfl (by omega) (fun c145 => ?_) (fun c145 => ?_)
              · omega
              · skip
                refine zj_iload dk_157_148 rfl ?_
                refine zj_iconst dk_157_150 ?_
                refine zj_iadd dk_157_151 ?_
                refine zj_iload dk_157_152 rfl ?_
                refine zj_icmp_ge (t := 172) dk_157_154 rfl (by omega) (fun c154 => ?_) (fun c154 => ?_)
                · skip
                  refine zj_iconst dk_157_172 ?_
                  refine zj_istore dk_157_173 rfl ?_
                  refine zj_iload dk_157_175 rfl ?_
                  refine zj_iconst dk_157_177 ?_
                  refine zj_iadd dk_157_178 ?_
                  refine zj_iload dk_157_179 rfl ?_
                  refine zj_icmp_ge (t := 199) dk_157_181 rfl (by omega) (fun c181 => ?_) (fun c181 => ?_)
                  · skip
                    refine zj_iconst dk_157_199 ?_
                    refine zj_istore dk_157_200 rfl ?_
                    refine zj_bipush dk_157_202 (by decide) ?_
                    refine zj_iload dk_157_204 rfl ?_
                    refine zj_imul dk_157_206 ?_
                    refine zj_iload dk_157_207 rfl ?_
                    refine zj_iadd dk_157_209 ?_
                    refine zj_istore dk_157_210 rfl ?_
                    refine zj_iload dk_157_212 rfl ?_
                    refine zj_if_lt (t := 244) dk_157_214 rfl (by omega) (fun c214 => ?_) (fun c214 => ?_)
                    · skip
                      refine zj_iconst dk_157_244 ?_
                      refine zj_zreturn dk_157_245 rfl (by omega) (hN B ax.rf hch (by unfold sp_dec; rw [if_neg hq, if_neg h59, if_pos h37, if_neg h2]))
                    · omega
                  · omega
                · omega
            · omega
    · refine zj_iload dk_157_106 rfl ?_
      refine zj_iload dk_157_108 rfl ?_
      refine zj_icmp_ge (t := 271) dk_157_110 rfl (by omega) (fun c110 => ?_) (fun c110 => ?_)
      · omega
      · skip
        refine zj_iload dk_157_113 rfl ?_
        refine zj_if_ne (t := 271) dk_157_115 rfl (by omega) (fun c115 => ?_) (fun c115 => ?_)
        · omega
        · skip
          refine zi_aload_n dk_157_118 rfl rfl ?_
          refine zi_getf dk_157_119 fl_13_71 md_0 rfl ?_
          refine zj_iload dk_157_122 rfl ?_
          refine md_iald (k := 21) (N := 40) dk_157_124 (by decide) rfl rfl (by omega) ?_
          refine zj_istore dk_157_125 rfl ?_
          refine zj_iload dk_157_127 rfl ?_
          refine zj_bipush dk_157_129 (by decide) ?_
          refine zj_icmp_ne (t := 138) dk_157_131 rfl (by omega) (fun c131 => ?_) (fun c131 => ?_)
          · skip
            refine zj_iconst dk_157_138 ?_
            refine zj_istore dk_157_139 rfl ?_
            refine zj_iload dk_157_141 rfl ?_
            refine zj_bipush dk_157_143 (by decide) ?_
            refine zj_icmp_ne (t := 249) dk_157_145 rfl (by omega) (fun c145 => ?_) (fun c145 => ?_)
            · skip
              refine zj_iload dk_157_249 rfl ?_
              refine zj_if_ne (t := 265) dk_157_251 rfl (by omega) (fun c251 => ?_) (fun c251 => ?_)
              · omega
              · skip
                refine zi_aload_n dk_157_254 rfl rfl ?_
                refine zi_getf dk_157_255 fl_13_74 md_0 rfl ?_
                refine zj_iload_n dk_157_258 rfl ?_
                refine zj_iload dk_157_259 rfl ?_
                refine md_iast (k := 22) (N := 40) dk_157_261 (by decide) rfl rfl (by omega) ?_
                refine zj_iinc dk_157_262 rfl rfl ?_
                refine zj_iinc dk_157_265 rfl rfl ?_
                refine zi_goto (t := 106) dk_157_268 rfl ?_
                refine ih (i + 1) (nn + 1) (va_up B 22 (zU (B 22) nn (B 21 i))) _ _ _ (by omega) (by omega) (by omega) (fun B' g1 g0 g2 => hN B' (ax.tr (ax.rf.up (by decide)) g1 (fun _ hh => hh)) g0 (by unfold sp_dec; rw [if_neg hq, if_neg h59, if_neg h37, show sp_dec (B 21) q fu (i + 1) = _ from g2]; rfl)) (fun l cut k x7 x8 x9 g2 => ?_) hB (hch.up (by omega))
                have h9 := hY ((B 21 i) :: l) cut k x7 x8 x9 (by unfold sp_dec; rw [if_neg hq, if_neg h59, if_neg h37, show sp_dec (B 21) q fu (i + 1) = _ from g2]; rfl)
                rw [show va_up (va_up B 22 (zU (B 22) nn (B 21 i))) 22 (zW (va_up B 22 (zU (B 22) nn (B 21 i)) 22) (nn + 1) l) = va_up B 22 (zW (B 22) nn ((B 21 i) :: l)) from va_up_up _ _ _ _, show nn + 1 + (l.length : Int) = nn + ((((B 21 i) :: l).length : Nat) : Int) by simp; omega]
                exact h9
            · omega
          · omega

