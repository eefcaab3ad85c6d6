/-! the law's loop -/
section SC
variable {X : zz_X} {M : zz_M} {d kc ks pc q n : Nat} {Q : Option Value → Nat → zz_H → Prop} {ls : List (Option Value)} {st : List Value} {h : zz_H}
theorem zi_slen (hc : M.1.cls = "RequestGateLaw") (hd : zz_d M pc .arraylength 1 q) (k : zz_Z X M d Q kc ks q ls (.int (Int32.ofNat (zz_sl X)) :: st) n h) : zz_Z X M d Q kc ks pc ls (.ref (zz_sb X) :: st) n h := by
  obtain ⟨hd, rfl⟩ := hd
  intro p e R s m args below meth c Qf H locs cells slots A C Re T S L hc' hs
  obtain ⟨h1, h2, h3⟩ := C.sc hc
  exact va_slen C.x C.b h1 h2 h3 S hd (k p e R s m args below meth c Qf H locs cells slots A C Re T S L hc' hs)
theorem zj_slen (hc : M.1.cls = "RequestGateLaw") (hd : zz_d M pc .arraylength 1 q) (k : zz_Z X M d Q kc ks q ls (zv (zz_sl X : Int) :: st) n h) : zz_Z X M d Q kc ks pc ls (.ref (zz_sb X) :: st) n h := zi_slen hc hd k
theorem zi_sld {i : Int32} (hc : M.1.cls = "RequestGateLaw") (hd : zz_d M pc .iaload 1 q) (hin : vp_in i (zz_sl X)) (k : zz_Z X M d Q kc ks q ls (.int (zz_sx X i.toNatClampNeg) :: st) n h) : zz_Z X M d Q kc ks pc ls (.int i :: .ref (zz_sb X) :: st) n h := by
  obtain ⟨hd, rfl⟩ := hd
  intro p e R s m args below meth c Qf H locs cells slots A C Re T S L hc' hs
  obtain ⟨h1, h2, h3⟩ := C.sc hc
  exact va_sld C.x C.b h1 h2 h3 S hin hd (k p e R s m args below meth c Qf H locs cells slots A C Re T S L hc' hs)
theorem zj_sld {i : Int} (hc : M.1.cls = "RequestGateLaw") (hd : zz_d M pc .iaload 1 q) (hi : (0 ≤ i ∧ i < (zz_sl X : Int)) ∧ zz_sl X < 2147483648) (k : zz_Z X M d Q kc ks q ls (zv (zz_sx X i.toNat).toInt :: st) n h) : zz_Z X M d Q kc ks pc ls (zv i :: .ref (zz_sb X) :: st) n h := by
  have hr : -2147483648 ≤ i ∧ i < 2147483648 := by omega
  have e := zn_to hr
  have en : (Int32.ofInt i).toNatClampNeg = i.toNat := by
    show (Int32.ofInt i).toInt.toNat = _
    rw [e]
  refine zi_sld hc hd ?_ ?_
  · rintro (hh | hh)
    · have := Int32.lt_iff_toInt_lt.mp hh
      rw [e] at this
      have h0 : (0 : Int32).toInt = 0 := rfl
      omega
    · rw [en] at hh
      omega
  · rw [en]
    have ez : zv (zz_sx X i.toNat).toInt = .int (zz_sx X i.toNat) := by
      show Value.int (Int32.ofInt (zz_sx X i.toNat).toInt) = _
      rw [Int32.ofInt_toInt]
    rw [ez] at k
    exact k
theorem zb_and31 (x : Int) : 0 ≤ zb_and x 31 ∧ zb_and x 31 ≤ 31 := by
  unfold zb_and
  show 0 ≤ (Int32.ofInt x &&& Int32.ofInt 31).toBitVec.toInt ∧ (Int32.ofInt x &&& Int32.ofInt 31).toBitVec.toInt ≤ 31
  rw [Int32.toBitVec_and]
  have h31 : (Int32.ofInt 31).toBitVec = 31#32 := rfl
  rw [h31]
  have hle : ((Int32.ofInt x).toBitVec &&& 31#32).toNat ≤ 31 := by
    rw [BitVec.toNat_and]
    exact Nat.and_le_right
  rw [BitVec.toInt_eq_toNat_of_lt (by omega)]
  omega
end SC
theorem GI.new {X : zz_X} {b : Nat} {h : zz_H} {e : va_E} {V : Nat → Int} {B : Nat → Int → Int} {S : Nat → Int} {A : Nat → Int → Int} {E : Nat → Nat} (hlt : ∀ a e, h a = some e → a < b + 25) (G : GI X b h S A E [] [] [] [] []) : GI X b (md_H (b + 25) V B (zz_up h (b + 25) e)) S A E [] [] [] [] [] := by
  obtain ⟨g1, g2, g3⟩ := G
  have he := g3.1.2
  have k : ∀ a, (a < b + 25 ∨ b + 64 ≤ a) → md_H (b + 25) V B (zz_up h (b + 25) e) a = h a := fun a ha => by
    rw [md_o (by omega), zz_up_ne (by omega)]
  refine ⟨fun j hj => ?_, g2, ?_⟩
  · rw [k _ (by omega)]
    exact g1 j hj
  · refine g3.fr (fun a ci vs ha => ⟨vs, ?_⟩) (fun a ha => k a (by omega))
    have := hlt a _ ha
    rw [k a (by omega)]
    exact ha
theorem LI.cb {X : zz_X} {b n t : Nat} {h : zz_H} (L : LI X b n h t) : ∃ fs, h b = some (.inr (0, fs)) := by
  obtain ⟨-, V, B, S, A, E, RL, UL, SL, T1, T2, G, -⟩ := L
  exact ⟨_, G.1 0 (by decide)⟩
theorem LI.up {X : zz_X} {b n t : Nat} {h : zz_H} (L : LI X b n h t) : LI X b n h (t + 1) := by
  obtain ⟨hn, V, B, S, A, E, RL, UL, SL, T1, T2, G, hM, R, l2, l3⟩ := L
  exact LI.mk0 hn G hM R l2 l3
abbrev lwQ : Option Value → Nat → zz_H → Prop := fun r _ _ => r = some (zv 1)

theorem la_0 {X : zz_X} {b d k : Nat} (hd : 12 ≤ d) (hsl : zz_sl X ≤ 3600) (ih : ∀ (t : Nat) (i : Int) (kc ks n : Nat) (h : zz_H), i = 6 * t → t ≤ 601 → zz_sl X ≤ 6 * (t + k) → 6 * k ≤ kc → 104 * k ≤ ks → LI X b n h t → zz_Z X mm_law d lwQ kc ks 18 [some (.ref (zz_sb X)), some (.ref b), some (.ref (b + 25)), some (zv i)] [] n h) {t kc ks n : Nat} {i : Int} {h : zz_H} (hi : i = 6 * t) (hlen : zz_sl X ≤ 6 * (t + (k + 1))) (hkc : 6 * (k + 1) ≤ kc) (hks : 104 * (k + 1) ≤ ks) (hLI : LI X b n h t) (hin : i + 6 ≤ (zz_sl X : Int)) : zz_Z X mm_law d lwQ kc ks 128 [some (.ref (zz_sb X)), some (.ref b), some (.ref (b + 25)), some (zv i)] [] n h := by
  obtain ⟨fs, hb⟩ := hLI.cb
  have ht : t ≤ 600 := by omega
  refine zi_aload_n dk_law_128 rfl rfl ?_
  refine zi_aload_n dk_law_129 rfl rfl ?_
  refine zj_iload_n dk_law_130 rfl ?_
  refine zj_iconst dk_law_131 ?_
  refine zj_iadd dk_law_132 ?_
  refine zj_sld rfl dk_law_133 (by omega) ?_
  refine zi_invV dk_law_134 ml_RequestGateLaw_13 iv_12 (cm_type (d := d - 1) (by omega) ht hLI (zn_rg _)) hb rfl rfl rfl (Nat.le_of_ble_eq_true rfl) (by omega) (kc' := kc - 0) (ks' := ks - 0) (by omega) (by omega) (fun r n' h' hq => ?_)
  obtain ⟨z, rfl, ⟨fs2, hfs2⟩, c2⟩ := hq
  refine zi_aload_n dk_law_137 rfl rfl ?_
  refine zi_aload_n dk_law_138 rfl rfl ?_
  refine zj_iload_n dk_law_139 rfl ?_
  refine zj_iconst dk_law_140 ?_
  refine zj_iadd dk_law_141 ?_
  refine zj_sld rfl dk_law_142 (by omega) ?_
  refine zi_invV dk_law_143 ml_RequestGateLaw_17 iv_127 c2 hfs2 rfl rfl rfl (Nat.le_of_ble_eq_true rfl) (by omega) (kc' := kc - 0) (ks' := ks - 0) rfl rfl (fun r n'' h'' hq => ?_)
  obtain ⟨rfl, hL2⟩ := hq
  refine zi_icmp_eq (t := 802) dk_law_146 rfl (fun _ => ?_) (fun hne => absurd rfl hne)
  refine zj_iinc dk_law_802 rfl rfl ?_
  refine zi_goto (t := 18) dk_law_805 rfl ?_
  exact ih (t + 1) (i + 6) _ _ _ _ (by omega) (by omega) (by omega) (by omega) (by omega) hL2

theorem la_1 {X : zz_X} {b d k : Nat} (hd : 12 ≤ d) (hsl : zz_sl X ≤ 3600) (ih : ∀ (t : Nat) (i : Int) (kc ks n : Nat) (h : zz_H), i = 6 * t → t ≤ 601 → zz_sl X ≤ 6 * (t + k) → 6 * k ≤ kc → 104 * k ≤ ks → LI X b n h t → zz_Z X mm_law d lwQ kc ks 18 [some (.ref (zz_sb X)), some (.ref b), some (.ref (b + 25)), some (zv i)] [] n h) {t kc ks n : Nat} {i : Int} {h : zz_H} (hi : i = 6 * t) (hlen : zz_sl X ≤ 6 * (t + (k + 1))) (hkc : 6 * (k + 1) ≤ kc) (hks : 104 * (k + 1) ≤ ks) (hLI : LI X b n h t) (hin : i + 6 ≤ (zz_sl X : Int)) : zz_Z X mm_law d lwQ kc ks 151 [some (.ref (zz_sb X)), some (.ref b), some (.ref (b + 25)), some (zv i)] [] n h := by
  obtain ⟨fs, hb⟩ := hLI.cb
  have ht : t ≤ 600 := by omega
  refine zi_aload_n dk_law_151 rfl rfl ?_
  refine zi_invV dk_law_152 ml_RequestGateLaw_18 iv_15 (cm_clear (d := d - 1) (by omega) ht hLI ) hb rfl rfl rfl (Nat.le_of_ble_eq_true rfl) (by omega) (kc' := kc - 0) (ks' := ks - 0) (by omega) (by omega) (fun r n' h' hq => ?_)
  obtain ⟨rfl, ⟨fs2, hfs2⟩, c2⟩ := hq
  refine zi_aload_n dk_law_155 rfl rfl ?_
  refine zi_invV dk_law_156 ml_RequestGateLaw_21 iv_128 c2 hfs2 rfl rfl rfl (Nat.le_of_ble_eq_true rfl) (by omega) (kc' := kc - 0) (ks' := ks - 0) rfl rfl (fun r n'' h'' hq => ?_)
  obtain ⟨rfl, hL2⟩ := hq
  refine zi_goto (t := 802) dk_law_159 rfl ?_
  refine zj_iinc dk_law_802 rfl rfl ?_
  refine zi_goto (t := 18) dk_law_805 rfl ?_
  exact ih (t + 1) (i + 6) _ _ _ _ (by omega) (by omega) (by omega) (by omega) (by omega) hL2

theorem la_2 {X : zz_X} {b d k : Nat} (hd : 12 ≤ d) (hsl : zz_sl X ≤ 3600) (ih : ∀ (t : Nat) (i : Int) (kc ks n : Nat) (h : zz_H), i = 6 * t → t ≤ 601 → zz_sl X ≤ 6 * (t + k) → 6 * k ≤ kc → 104 * k ≤ ks → LI X b n h t → zz_Z X mm_law d lwQ kc ks 18 [some (.ref (zz_sb X)), some (.ref b), some (.ref (b + 25)), some (zv i)] [] n h) {t kc ks n : Nat} {i : Int} {h : zz_H} (hi : i = 6 * t) (hlen : zz_sl X ≤ 6 * (t + (k + 1))) (hkc : 6 * (k + 1) ≤ kc) (hks : 104 * (k + 1) ≤ ks) (hLI : LI X b n h t) (hin : i + 6 ≤ (zz_sl X : Int)) : zz_Z X mm_law d lwQ kc ks 162 [some (.ref (zz_sb X)), some (.ref b), some (.ref (b + 25)), some (zv i)] [] n h := by
  obtain ⟨fs, hb⟩ := hLI.cb
  have ht : t ≤ 600 := by omega
  refine zi_aload_n dk_law_162 rfl rfl ?_
  refine zi_aload_n dk_law_163 rfl rfl ?_
  refine zj_iload_n dk_law_164 rfl ?_
  refine zj_iconst dk_law_165 ?_
  refine zj_iadd dk_law_166 ?_
  refine zj_sld rfl dk_law_167 (by omega) ?_
  refine zi_aload_n dk_law_168 rfl rfl ?_
  refine zj_iload_n dk_law_169 rfl ?_
  refine zj_iconst dk_law_170 ?_
  refine zj_iadd dk_law_171 ?_
  refine zj_sld rfl dk_law_172 (by omega) ?_
  refine zi_aload_n dk_law_173 rfl rfl ?_
  refine zj_iload_n dk_law_174 rfl ?_
  refine zj_iconst dk_law_175 ?_
  refine zj_iadd dk_law_176 ?_
  refine zj_sld rfl dk_law_177 (by omega) ?_
  refine zi_invV dk_law_178 ml_RequestGateLaw_22 iv_17 (cm_expr (d := d - 1) (by omega) ht hLI (zn_rg _) (zn_rg _) (zn_rg _)) hb rfl rfl rfl (Nat.le_of_ble_eq_true rfl) (by omega) (kc' := kc - 0) (ks' := ks - 0) (by omega) (by omega) (fun r n' h' hq => ?_)
  obtain ⟨z, rfl, ⟨fs2, hfs2⟩, c2⟩ := hq
  refine zi_aload_n dk_law_181 rfl rfl ?_
  refine zi_aload_n dk_law_182 rfl rfl ?_
  refine zj_iload_n dk_law_183 rfl ?_
  refine zj_iconst dk_law_184 ?_
  refine zj_iadd dk_law_185 ?_
  refine zj_sld rfl dk_law_186 (by omega) ?_
  refine zi_aload_n dk_law_187 rfl rfl ?_
  refine zj_iload_n dk_law_188 rfl ?_
  refine zj_iconst dk_law_189 ?_
  refine zj_iadd dk_law_190 ?_
  refine zj_sld rfl dk_law_191 (by omega) ?_
  refine zi_aload_n dk_law_192 rfl rfl ?_
  refine zj_iload_n dk_law_193 rfl ?_
  refine zj_iconst dk_law_194 ?_
  refine zj_iadd dk_law_195 ?_
  refine zj_sld rfl dk_law_196 (by omega) ?_
  refine zi_invV dk_law_197 ml_RequestGateLaw_26 iv_129 c2 hfs2 rfl rfl rfl (Nat.le_of_ble_eq_true rfl) (by omega) (kc' := kc - 0) (ks' := ks - 0) rfl rfl (fun r n'' h'' hq => ?_)
  obtain ⟨rfl, hL2⟩ := hq
  refine zi_icmp_eq (t := 802) dk_law_200 rfl (fun _ => ?_) (fun hne => absurd rfl hne)
  refine zj_iinc dk_law_802 rfl rfl ?_
  refine zi_goto (t := 18) dk_law_805 rfl ?_
  exact ih (t + 1) (i + 6) _ _ _ _ (by omega) (by omega) (by omega) (by omega) (by omega) hL2

theorem la_3 {X : zz_X} {b d k : Nat} (hd : 12 ≤ d) (hsl : zz_sl X ≤ 3600) (ih : ∀ (t : Nat) (i : Int) (kc ks n : Nat) (h : zz_H), i = 6 * t → t ≤ 601 → zz_sl X ≤ 6 * (t + k) → 6 * k ≤ kc → 104 * k ≤ ks → LI X b n h t → zz_Z X mm_law d lwQ kc ks 18 [some (.ref (zz_sb X)), some (.ref b), some (.ref (b + 25)), some (zv i)] [] n h) {t kc ks n : Nat} {i : Int} {h : zz_H} (hi : i = 6 * t) (hlen : zz_sl X ≤ 6 * (t + (k + 1))) (hkc : 6 * (k + 1) ≤ kc) (hks : 104 * (k + 1) ≤ ks) (hLI : LI X b n h t) (hin : i + 6 ≤ (zz_sl X : Int)) : zz_Z X mm_law d lwQ kc ks 205 [some (.ref (zz_sb X)), some (.ref b), some (.ref (b + 25)), some (zv i)] [] n h := by
  obtain ⟨fs, hb⟩ := hLI.cb
  have ht : t ≤ 600 := by omega
  refine zi_aload_n dk_law_205 rfl rfl ?_
  refine zi_aload_n dk_law_206 rfl rfl ?_
  refine zj_iload_n dk_law_207 rfl ?_
  refine zj_iconst dk_law_208 ?_
  refine zj_iadd dk_law_209 ?_
  refine zj_sld rfl dk_law_210 (by omega) ?_
  refine zi_aload_n dk_law_211 rfl rfl ?_
  refine zj_iload_n dk_law_212 rfl ?_
  refine zj_iconst dk_law_213 ?_
  refine zj_iadd dk_law_214 ?_
  refine zj_sld rfl dk_law_215 (by omega) ?_
  refine zi_invV dk_law_216 ml_RequestGateLaw_27 iv_22 (cm_rule (d := d - 1) (by omega) ht hLI (zn_rg _) (zn_rg _)) hb rfl rfl rfl (Nat.le_of_ble_eq_true rfl) (by omega) (kc' := kc - 6) (ks' := ks - 104) (by omega) (by omega) (fun r n' h' hq => ?_)
  obtain ⟨z, rfl, ⟨fs2, hfs2⟩, c2⟩ := hq
  refine zi_aload_n dk_law_219 rfl rfl ?_
  refine zi_aload_n dk_law_220 rfl rfl ?_
  refine zj_iload_n dk_law_221 rfl ?_
  refine zj_iconst dk_law_222 ?_
  refine zj_iadd dk_law_223 ?_
  refine zj_sld rfl dk_law_224 (by omega) ?_
  refine zi_aload_n dk_law_225 rfl rfl ?_
  refine zj_iload_n dk_law_226 rfl ?_
  refine zj_iconst dk_law_227 ?_
  refine zj_iadd dk_law_228 ?_
  refine zj_sld rfl dk_law_229 (by omega) ?_
  refine zi_invV dk_law_230 ml_RequestGateLaw_31 iv_133 c2 hfs2 rfl rfl rfl (Nat.le_of_ble_eq_true rfl) (by omega) (kc' := kc - 6) (ks' := ks - 104) rfl rfl (fun r n'' h'' hq => ?_)
  obtain ⟨rfl, hL2⟩ := hq
  refine zi_icmp_eq (t := 802) dk_law_233 rfl (fun _ => ?_) (fun hne => absurd rfl hne)
  refine zj_iinc dk_law_802 rfl rfl ?_
  refine zi_goto (t := 18) dk_law_805 rfl ?_
  exact ih (t + 1) (i + 6) _ _ _ _ (by omega) (by omega) (by omega) (by omega) (by omega) hL2

theorem la_4 {X : zz_X} {b d k : Nat} (hd : 12 ≤ d) (hsl : zz_sl X ≤ 3600) (ih : ∀ (t : Nat) (i : Int) (kc ks n : Nat) (h : zz_H), i = 6 * t → t ≤ 601 → zz_sl X ≤ 6 * (t + k) → 6 * k ≤ kc → 104 * k ≤ ks → LI X b n h t → zz_Z X mm_law d lwQ kc ks 18 [some (.ref (zz_sb X)), some (.ref b), some (.ref (b + 25)), some (zv i)] [] n h) {t kc ks n : Nat} {i : Int} {h : zz_H} (hi : i = 6 * t) (hlen : zz_sl X ≤ 6 * (t + (k + 1))) (hkc : 6 * (k + 1) ≤ kc) (hks : 104 * (k + 1) ≤ ks) (hLI : LI X b n h t) (hin : i + 6 ≤ (zz_sl X : Int)) : zz_Z X mm_law d lwQ kc ks 238 [some (.ref (zz_sb X)), some (.ref b), some (.ref (b + 25)), some (zv i)] [] n h := by
  obtain ⟨fs, hb⟩ := hLI.cb
  have ht : t ≤ 600 := by omega
  refine zi_aload_n dk_law_238 rfl rfl ?_
  refine zi_aload_n dk_law_239 rfl rfl ?_
  refine zj_iload_n dk_law_240 rfl ?_
  refine zj_iconst dk_law_241 ?_
  refine zj_iadd dk_law_242 ?_
  refine zj_sld rfl dk_law_243 (by omega) ?_
  refine zi_aload_n dk_law_244 rfl rfl ?_
  refine zj_iload_n dk_law_245 rfl ?_
  refine zj_iconst dk_law_246 ?_
  refine zj_iadd dk_law_247 ?_
  refine zj_sld rfl dk_law_248 (by omega) ?_
  refine zi_invV dk_law_249 ml_RequestGateLaw_32 iv_43 (cm_role (d := d - 1) (by omega) ht hLI (zn_rg _) (zn_rg _)) hb rfl rfl rfl (Nat.le_of_ble_eq_true rfl) (by omega) (kc' := kc - 0) (ks' := ks - 0) (by omega) (by omega) (fun r n' h' hq => ?_)
  obtain ⟨z, rfl, ⟨fs2, hfs2⟩, c2⟩ := hq
  refine zi_aload_n dk_law_252 rfl rfl ?_
  refine zi_aload_n dk_law_253 rfl rfl ?_
  refine zj_iload_n dk_law_254 rfl ?_
  refine zj_iconst dk_law_255 ?_
  refine zj_iadd dk_law_256 ?_
  refine zj_sld rfl dk_law_257 (by omega) ?_
  refine zi_aload_n dk_law_258 rfl rfl ?_
  refine zj_iload_n dk_law_259 rfl ?_
  refine zj_iconst dk_law_260 ?_
  refine zj_iadd dk_law_261 ?_
  refine zj_sld rfl dk_law_262 (by omega) ?_
  refine zi_invV dk_law_263 ml_RequestGateLaw_36 iv_131 c2 hfs2 rfl rfl rfl (Nat.le_of_ble_eq_true rfl) (by omega) (kc' := kc - 0) (ks' := ks - 0) rfl rfl (fun r n'' h'' hq => ?_)
  obtain ⟨rfl, hL2⟩ := hq
  refine zi_icmp_eq (t := 802) dk_law_266 rfl (fun _ => ?_) (fun hne => absurd rfl hne)
  refine zj_iinc dk_law_802 rfl rfl ?_
  refine zi_goto (t := 18) dk_law_805 rfl ?_
  exact ih (t + 1) (i + 6) _ _ _ _ (by omega) (by omega) (by omega) (by omega) (by omega) hL2

theorem la_5 {X : zz_X} {b d k : Nat} (hd : 12 ≤ d) (hsl : zz_sl X ≤ 3600) (ih : ∀ (t : Nat) (i : Int) (kc ks n : Nat) (h : zz_H), i = 6 * t → t ≤ 601 → zz_sl X ≤ 6 * (t + k) → 6 * k ≤ kc → 104 * k ≤ ks → LI X b n h t → zz_Z X mm_law d lwQ kc ks 18 [some (.ref (zz_sb X)), some (.ref b), some (.ref (b + 25)), some (zv i)] [] n h) {t kc ks n : Nat} {i : Int} {h : zz_H} (hi : i = 6 * t) (hlen : zz_sl X ≤ 6 * (t + (k + 1))) (hkc : 6 * (k + 1) ≤ kc) (hks : 104 * (k + 1) ≤ ks) (hLI : LI X b n h t) (hin : i + 6 ≤ (zz_sl X : Int)) : zz_Z X mm_law d lwQ kc ks 271 [some (.ref (zz_sb X)), some (.ref b), some (.ref (b + 25)), some (zv i)] [] n h := by
  obtain ⟨fs, hb⟩ := hLI.cb
  have ht : t ≤ 600 := by omega
  refine zi_aload_n dk_law_271 rfl rfl ?_
  refine zi_aload_n dk_law_272 rfl rfl ?_
  refine zj_iload_n dk_law_273 rfl ?_
  refine zj_iconst dk_law_274 ?_
  refine zj_iadd dk_law_275 ?_
  refine zj_sld rfl dk_law_276 (by omega) ?_
  refine zi_aload_n dk_law_277 rfl rfl ?_
  refine zj_iload_n dk_law_278 rfl ?_
  refine zj_iconst dk_law_279 ?_
  refine zj_iadd dk_law_280 ?_
  refine zj_sld rfl dk_law_281 (by omega) ?_
  refine zi_aload_n dk_law_282 rfl rfl ?_
  refine zj_iload_n dk_law_283 rfl ?_
  refine zj_iconst dk_law_284 ?_
  refine zj_iadd dk_law_285 ?_
  refine zj_sld rfl dk_law_286 (by omega) ?_
  refine zi_invV dk_law_287 ml_RequestGateLaw_37 iv_46 (cm_user (d := d - 1) (by omega) ht hLI (zn_rg _) (zn_rg _) (zn_rg _)) hb rfl rfl rfl (Nat.le_of_ble_eq_true rfl) (by omega) (kc' := kc - 2) (ks' := ks - 21) (by omega) (by omega) (fun r n' h' hq => ?_)
  obtain ⟨z, rfl, ⟨fs2, hfs2⟩, c2⟩ := hq
  refine zi_aload_n dk_law_290 rfl rfl ?_
  refine zi_aload_n dk_law_291 rfl rfl ?_
  refine zj_iload_n dk_law_292 rfl ?_
  refine zj_iconst dk_law_293 ?_
  refine zj_iadd dk_law_294 ?_
  refine zj_sld rfl dk_law_295 (by omega) ?_
  refine zi_aload_n dk_law_296 rfl rfl ?_
  refine zj_iload_n dk_law_297 rfl ?_
  refine zj_iconst dk_law_298 ?_
  refine zj_iadd dk_law_299 ?_
  refine zj_sld rfl dk_law_300 (by omega) ?_
  refine zi_aload_n dk_law_301 rfl rfl ?_
  refine zj_iload_n dk_law_302 rfl ?_
  refine zj_iconst dk_law_303 ?_
  refine zj_iadd dk_law_304 ?_
  refine zj_sld rfl dk_law_305 (by omega) ?_
  refine zi_invV dk_law_306 ml_RequestGateLaw_40 iv_136 c2 hfs2 rfl rfl rfl (Nat.le_of_ble_eq_true rfl) (by omega) (kc' := kc - 2) (ks' := ks - 21) rfl rfl (fun r n'' h'' hq => ?_)
  obtain ⟨rfl, hL2⟩ := hq
  refine zi_icmp_eq (t := 802) dk_law_309 rfl (fun _ => ?_) (fun hne => absurd rfl hne)
  refine zj_iinc dk_law_802 rfl rfl ?_
  refine zi_goto (t := 18) dk_law_805 rfl ?_
  exact ih (t + 1) (i + 6) _ _ _ _ (by omega) (by omega) (by omega) (by omega) (by omega) hL2

theorem la_6 {X : zz_X} {b d k : Nat} (hd : 12 ≤ d) (hsl : zz_sl X ≤ 3600) (ih : ∀ (t : Nat) (i : Int) (kc ks n : Nat) (h : zz_H), i = 6 * t → t ≤ 601 → zz_sl X ≤ 6 * (t + k) → 6 * k ≤ kc → 104 * k ≤ ks → LI X b n h t → zz_Z X mm_law d lwQ kc ks 18 [some (.ref (zz_sb X)), some (.ref b), some (.ref (b + 25)), some (zv i)] [] n h) {t kc ks n : Nat} {i : Int} {h : zz_H} (hi : i = 6 * t) (hlen : zz_sl X ≤ 6 * (t + (k + 1))) (hkc : 6 * (k + 1) ≤ kc) (hks : 104 * (k + 1) ≤ ks) (hLI : LI X b n h t) (hin : i + 6 ≤ (zz_sl X : Int)) : zz_Z X mm_law d lwQ kc ks 314 [some (.ref (zz_sb X)), some (.ref b), some (.ref (b + 25)), some (zv i)] [] n h := by
  obtain ⟨fs, hb⟩ := hLI.cb
  have ht : t ≤ 600 := by omega
  refine zi_aload_n dk_law_314 rfl rfl ?_
  refine zi_aload_n dk_law_315 rfl rfl ?_
  refine zj_iload_n dk_law_316 rfl ?_
  refine zj_iconst dk_law_317 ?_
  refine zj_iadd dk_law_318 ?_
  refine zj_sld rfl dk_law_319 (by omega) ?_
  refine zi_aload_n dk_law_320 rfl rfl ?_
  refine zj_iload_n dk_law_321 rfl ?_
  refine zj_iconst dk_law_322 ?_
  refine zj_iadd dk_law_323 ?_
  refine zj_sld rfl dk_law_324 (by omega) ?_
  refine zi_aload_n dk_law_325 rfl rfl ?_
  refine zj_iload_n dk_law_326 rfl ?_
  refine zj_iconst dk_law_327 ?_
  refine zj_iadd dk_law_328 ?_
  refine zj_sld rfl dk_law_329 (by omega) ?_
  refine zi_invV dk_law_330 ml_RequestGateLaw_41 iv_50 (cm_serv (d := d - 1) (by omega) ht hLI (zn_rg _) (zn_rg _) (zn_rg _)) hb rfl rfl rfl (Nat.le_of_ble_eq_true rfl) (by omega) (kc' := kc - 4) (ks' := ks - 28) (by omega) (by omega) (fun r n' h' hq => ?_)
  obtain ⟨z, rfl, ⟨fs2, hfs2⟩, c2⟩ := hq
  refine zi_aload_n dk_law_333 rfl rfl ?_
  refine zi_aload_n dk_law_334 rfl rfl ?_
  refine zj_iload_n dk_law_335 rfl ?_
  refine zj_iconst dk_law_336 ?_
  refine zj_iadd dk_law_337 ?_
  refine zj_sld rfl dk_law_338 (by omega) ?_
  refine zi_aload_n dk_law_339 rfl rfl ?_
  refine zj_iload_n dk_law_340 rfl ?_
  refine zj_iconst dk_law_341 ?_
  refine zj_iadd dk_law_342 ?_
  refine zj_sld rfl dk_law_343 (by omega) ?_
  refine zi_aload_n dk_law_344 rfl rfl ?_
  refine zj_iload_n dk_law_345 rfl ?_
  refine zj_iconst dk_law_346 ?_
  refine zj_iadd dk_law_347 ?_
  refine zj_sld rfl dk_law_348 (by omega) ?_
  refine zi_invV dk_law_349 ml_RequestGateLaw_44 iv_148 c2 hfs2 rfl rfl rfl (Nat.le_of_ble_eq_true rfl) (by omega) (kc' := kc - 4) (ks' := ks - 28) rfl rfl (fun r n'' h'' hq => ?_)
  obtain ⟨rfl, hL2⟩ := hq
  refine zi_icmp_eq (t := 802) dk_law_352 rfl (fun _ => ?_) (fun hne => absurd rfl hne)
  refine zj_iinc dk_law_802 rfl rfl ?_
  refine zi_goto (t := 18) dk_law_805 rfl ?_
  exact ih (t + 1) (i + 6) _ _ _ _ (by omega) (by omega) (by omega) (by omega) (by omega) hL2

theorem la_7 {X : zz_X} {b d k : Nat} (hd : 12 ≤ d) (hsl : zz_sl X ≤ 3600) (ih : ∀ (t : Nat) (i : Int) (kc ks n : Nat) (h : zz_H), i = 6 * t → t ≤ 601 → zz_sl X ≤ 6 * (t + k) → 6 * k ≤ kc → 104 * k ≤ ks → LI X b n h t → zz_Z X mm_law d lwQ kc ks 18 [some (.ref (zz_sb X)), some (.ref b), some (.ref (b + 25)), some (zv i)] [] n h) {t kc ks n : Nat} {i : Int} {h : zz_H} (hi : i = 6 * t) (hlen : zz_sl X ≤ 6 * (t + (k + 1))) (hkc : 6 * (k + 1) ≤ kc) (hks : 104 * (k + 1) ≤ ks) (hLI : LI X b n h t) (hin : i + 6 ≤ (zz_sl X : Int)) : zz_Z X mm_law d lwQ kc ks 357 [some (.ref (zz_sb X)), some (.ref b), some (.ref (b + 25)), some (zv i)] [] n h := by
  obtain ⟨fs, hb⟩ := hLI.cb
  have ht : t ≤ 600 := by omega
  refine zi_aload_n dk_law_357 rfl rfl ?_
  refine zi_aload_n dk_law_358 rfl rfl ?_
  refine zj_iload_n dk_law_359 rfl ?_
  refine zj_iconst dk_law_360 ?_
  refine zj_iadd dk_law_361 ?_
  refine zj_sld rfl dk_law_362 (by omega) ?_
  refine zi_aload_n dk_law_363 rfl rfl ?_
  refine zj_iload_n dk_law_364 rfl ?_
  refine zj_iconst dk_law_365 ?_
  refine zj_iadd dk_law_366 ?_
  refine zj_sld rfl dk_law_367 (by omega) ?_
  refine zi_aload_n dk_law_368 rfl rfl ?_
  refine zj_iload_n dk_law_369 rfl ?_
  refine zj_iconst dk_law_370 ?_
  refine zj_iadd dk_law_371 ?_
  refine zj_sld rfl dk_law_372 (by omega) ?_
  refine zi_invV dk_law_373 ml_RequestGateLaw_45 iv_55 (cm_decl (d := d - 1) (by omega) ht hLI (zn_rg _) (zn_rg _) (zn_rg _)) hb rfl rfl rfl (Nat.le_of_ble_eq_true rfl) (by omega) (kc' := kc - 0) (ks' := ks - 0) (by omega) (by omega) (fun r n' h' hq => ?_)
  obtain ⟨z, rfl, ⟨fs2, hfs2⟩, c2⟩ := hq
  refine zi_aload_n dk_law_376 rfl rfl ?_
  refine zi_aload_n dk_law_377 rfl rfl ?_
  refine zj_iload_n dk_law_378 rfl ?_
  refine zj_iconst dk_law_379 ?_
  refine zj_iadd dk_law_380 ?_
  refine zj_sld rfl dk_law_381 (by omega) ?_
  refine zi_aload_n dk_law_382 rfl rfl ?_
  refine zj_iload_n dk_law_383 rfl ?_
  refine zj_iconst dk_law_384 ?_
  refine zj_iadd dk_law_385 ?_
  refine zj_sld rfl dk_law_386 (by omega) ?_
  refine zi_aload_n dk_law_387 rfl rfl ?_
  refine zj_iload_n dk_law_388 rfl ?_
  refine zj_iconst dk_law_389 ?_
  refine zj_iadd dk_law_390 ?_
  refine zj_sld rfl dk_law_391 (by omega) ?_
  refine zi_invV dk_law_392 ml_RequestGateLaw_49 iv_150 c2 hfs2 rfl rfl rfl (Nat.le_of_ble_eq_true rfl) (by omega) (kc' := kc - 0) (ks' := ks - 0) rfl rfl (fun r n'' h'' hq => ?_)
  obtain ⟨rfl, hL2⟩ := hq
  refine zi_icmp_eq (t := 802) dk_law_395 rfl (fun _ => ?_) (fun hne => absurd rfl hne)
  refine zj_iinc dk_law_802 rfl rfl ?_
  refine zi_goto (t := 18) dk_law_805 rfl ?_
  exact ih (t + 1) (i + 6) _ _ _ _ (by omega) (by omega) (by omega) (by omega) (by omega) hL2

theorem la_8 {X : zz_X} {b d k : Nat} (hd : 12 ≤ d) (hsl : zz_sl X ≤ 3600) (ih : ∀ (t : Nat) (i : Int) (kc ks n : Nat) (h : zz_H), i = 6 * t → t ≤ 601 → zz_sl X ≤ 6 * (t + k) → 6 * k ≤ kc → 104 * k ≤ ks → LI X b n h t → zz_Z X mm_law d lwQ kc ks 18 [some (.ref (zz_sb X)), some (.ref b), some (.ref (b + 25)), some (zv i)] [] n h) {t kc ks n : Nat} {i : Int} {h : zz_H} (hi : i = 6 * t) (hlen : zz_sl X ≤ 6 * (t + (k + 1))) (hkc : 6 * (k + 1) ≤ kc) (hks : 104 * (k + 1) ≤ ks) (hLI : LI X b n h t) (hin : i + 6 ≤ (zz_sl X : Int)) : zz_Z X mm_law d lwQ kc ks 400 [some (.ref (zz_sb X)), some (.ref b), some (.ref (b + 25)), some (zv i)] [] n h := by
  obtain ⟨fs, hb⟩ := hLI.cb
  have ht : t ≤ 600 := by omega
  refine zi_aload_n dk_law_400 rfl rfl ?_
  refine zi_aload_n dk_law_401 rfl rfl ?_
  refine zj_iload_n dk_law_402 rfl ?_
  refine zj_iconst dk_law_403 ?_
  refine zj_iadd dk_law_404 ?_
  refine zj_sld rfl dk_law_405 (by omega) ?_
  refine zi_invV dk_law_406 ml_RequestGateLaw_50 iv_62 (cm_tick (d := d - 1) (by omega) ht hLI (zn_rg _)) hb rfl rfl rfl (Nat.le_of_ble_eq_true rfl) (by omega) (kc' := kc - 0) (ks' := ks - 0) (by omega) (by omega) (fun r n' h' hq => ?_)
  obtain ⟨z, rfl, ⟨fs2, hfs2⟩, c2⟩ := hq
  refine zi_aload_n dk_law_409 rfl rfl ?_
  refine zi_aload_n dk_law_410 rfl rfl ?_
  refine zj_iload_n dk_law_411 rfl ?_
  refine zj_iconst dk_law_412 ?_
  refine zj_iadd dk_law_413 ?_
  refine zj_sld rfl dk_law_414 (by omega) ?_
  refine zi_invV dk_law_415 ml_RequestGateLaw_53 iv_147 c2 hfs2 rfl rfl rfl (Nat.le_of_ble_eq_true rfl) (by omega) (kc' := kc - 0) (ks' := ks - 0) rfl rfl (fun r n'' h'' hq => ?_)
  obtain ⟨rfl, hL2⟩ := hq
  refine zi_icmp_eq (t := 802) dk_law_418 rfl (fun _ => ?_) (fun hne => absurd rfl hne)
  refine zj_iinc dk_law_802 rfl rfl ?_
  refine zi_goto (t := 18) dk_law_805 rfl ?_
  exact ih (t + 1) (i + 6) _ _ _ _ (by omega) (by omega) (by omega) (by omega) (by omega) hL2

theorem la_9 {X : zz_X} {b d k : Nat} (hd : 12 ≤ d) (hsl : zz_sl X ≤ 3600) (ih : ∀ (t : Nat) (i : Int) (kc ks n : Nat) (h : zz_H), i = 6 * t → t ≤ 601 → zz_sl X ≤ 6 * (t + k) → 6 * k ≤ kc → 104 * k ≤ ks → LI X b n h t → zz_Z X mm_law d lwQ kc ks 18 [some (.ref (zz_sb X)), some (.ref b), some (.ref (b + 25)), some (zv i)] [] n h) {t kc ks n : Nat} {i : Int} {h : zz_H} (hi : i = 6 * t) (hlen : zz_sl X ≤ 6 * (t + (k + 1))) (hkc : 6 * (k + 1) ≤ kc) (hks : 104 * (k + 1) ≤ ks) (hLI : LI X b n h t) (hin : i + 6 ≤ (zz_sl X : Int)) : zz_Z X mm_law d lwQ kc ks 423 [some (.ref (zz_sb X)), some (.ref b), some (.ref (b + 25)), some (zv i)] [] n h := by
  obtain ⟨fs, hb⟩ := hLI.cb
  have ht : t ≤ 600 := by omega
  refine zi_aload_n dk_law_423 rfl rfl ?_
  refine zi_aload_n dk_law_424 rfl rfl ?_
  refine zj_iload_n dk_law_425 rfl ?_
  refine zj_iconst dk_law_426 ?_
  refine zj_iadd dk_law_427 ?_
  refine zj_sld rfl dk_law_428 (by omega) ?_
  refine zi_aload_n dk_law_429 rfl rfl ?_
  refine zj_iload_n dk_law_430 rfl ?_
  refine zj_iconst dk_law_431 ?_
  refine zj_iadd dk_law_432 ?_
  refine zj_sld rfl dk_law_433 (by omega) ?_
  refine zi_aload_n dk_law_434 rfl rfl ?_
  refine zj_iload_n dk_law_435 rfl ?_
  refine zj_iconst dk_law_436 ?_
  refine zj_iadd dk_law_437 ?_
  refine zj_sld rfl dk_law_438 (by omega) ?_
  refine zi_aload_n dk_law_439 rfl rfl ?_
  refine zj_iload_n dk_law_440 rfl ?_
  refine zj_iconst dk_law_441 ?_
  refine zj_iadd dk_law_442 ?_
  refine zj_sld rfl dk_law_443 (by omega) ?_
  refine zj_if_eq (t := 451) dk_law_444 rfl (zn_rg _) (fun c444 => ?_) (fun c444 => ?_)
  · skip
    refine zj_iconst dk_law_451 ?_
    refine zi_invV dk_law_452 ml_RequestGateLaw_54 iv_67 (cm_login (d := d - 1) (by omega) ht hLI (zn_rg _) (zn_rg _) (zn_rg _) (rm := 0) (by decide)) hb rfl rfl rfl (Nat.le_of_ble_eq_true rfl) (by omega) (kc' := kc - 4) (ks' := ks - 42) (by omega) (by omega) (fun r n' h' hq => ?_)
    obtain ⟨z, rfl, ⟨fs2, hfs2⟩, c2⟩ := hq
    refine zi_aload_n dk_law_455 rfl rfl ?_
    refine zi_aload_n dk_law_456 rfl rfl ?_
    refine zj_iload_n dk_law_457 rfl ?_
    refine zj_iconst dk_law_458 ?_
    refine zj_iadd dk_law_459 ?_
    refine zj_sld rfl dk_law_460 (by omega) ?_
    refine zi_aload_n dk_law_461 rfl rfl ?_
    refine zj_iload_n dk_law_462 rfl ?_
    refine zj_iconst dk_law_463 ?_
    refine zj_iadd dk_law_464 ?_
    refine zj_sld rfl dk_law_465 (by omega) ?_
    refine zi_aload_n dk_law_466 rfl rfl ?_
    refine zj_iload_n dk_law_467 rfl ?_
    refine zj_iconst dk_law_468 ?_
    refine zj_iadd dk_law_469 ?_
    refine zj_sld rfl dk_law_470 (by omega) ?_
    refine zi_aload_n dk_law_471 rfl rfl ?_
    refine zj_iload_n dk_law_472 rfl ?_
    refine zj_iconst dk_law_473 ?_
    refine zj_iadd dk_law_474 ?_
    refine zj_sld rfl dk_law_475 (by omega) ?_
    refine zj_if_eq (t := 483) dk_law_476 rfl (zn_rg _) (fun c476 => ?_) (fun c476 => ?_)
    · skip
      refine zj_iconst dk_law_483 ?_
      refine zi_invV dk_law_484 ml_RequestGateLaw_58 iv_139 c2 hfs2 rfl rfl rfl (Nat.le_of_ble_eq_true rfl) (by omega) (kc' := kc - 4) (ks' := ks - 42) rfl rfl (fun r n'' h'' hq => ?_)
      obtain ⟨rfl, hL2⟩ := hq
      refine zi_icmp_eq (t := 802) dk_law_487 rfl (fun _ => ?_) (fun hne => absurd rfl hne)
      refine zj_iinc dk_law_802 rfl rfl ?_
      refine zi_goto (t := 18) dk_law_805 rfl ?_
      exact ih (t + 1) (i + 6) _ _ _ _ (by omega) (by omega) (by omega) (by omega) (by omega) hL2
    · omega
  · skip
    refine zj_iconst dk_law_447 ?_
    refine zi_goto (t := 452) dk_law_448 rfl ?_
    refine zi_invV dk_law_452 ml_RequestGateLaw_54 iv_67 (cm_login (d := d - 1) (by omega) ht hLI (zn_rg _) (zn_rg _) (zn_rg _) (rm := 1) (by decide)) hb rfl rfl rfl (Nat.le_of_ble_eq_true rfl) (by omega) (kc' := kc - 4) (ks' := ks - 42) (by omega) (by omega) (fun r n' h' hq => ?_)
    obtain ⟨z, rfl, ⟨fs2, hfs2⟩, c2⟩ := hq
    refine zi_aload_n dk_law_455 rfl rfl ?_
    refine zi_aload_n dk_law_456 rfl rfl ?_
    refine zj_iload_n dk_law_457 rfl ?_
    refine zj_iconst dk_law_458 ?_
    refine zj_iadd dk_law_459 ?_
    refine zj_sld rfl dk_law_460 (by omega) ?_
    refine zi_aload_n dk_law_461 rfl rfl ?_
    refine zj_iload_n dk_law_462 rfl ?_
    refine zj_iconst dk_law_463 ?_
    refine zj_iadd dk_law_464 ?_
    refine zj_sld rfl dk_law_465 (by omega) ?_
    refine zi_aload_n dk_law_466 rfl rfl ?_
    refine zj_iload_n dk_law_467 rfl ?_
    refine zj_iconst dk_law_468 ?_
    refine zj_iadd dk_law_469 ?_
    refine zj_sld rfl dk_law_470 (by omega) ?_
    refine zi_aload_n dk_law_471 rfl rfl ?_
    refine zj_iload_n dk_law_472 rfl ?_
    refine zj_iconst dk_law_473 ?_
    refine zj_iadd dk_law_474 ?_
    refine zj_sld rfl dk_law_475 (by omega) ?_
    refine zj_if_eq (t := 483) dk_law_476 rfl (zn_rg _) (fun c476 => ?_) (fun c476 => ?_)
    · omega
    · skip
      refine zj_iconst dk_law_479 ?_
      refine zi_goto (t := 484) dk_law_480 rfl ?_
      refine zi_invV dk_law_484 ml_RequestGateLaw_58 iv_139 c2 hfs2 rfl rfl rfl (Nat.le_of_ble_eq_true rfl) (by omega) (kc' := kc - 4) (ks' := ks - 42) rfl rfl (fun r n'' h'' hq => ?_)
      obtain ⟨rfl, hL2⟩ := hq
      refine zi_icmp_eq (t := 802) dk_law_487 rfl (fun _ => ?_) (fun hne => absurd rfl hne)
      refine zj_iinc dk_law_802 rfl rfl ?_
      refine zi_goto (t := 18) dk_law_805 rfl ?_
      exact ih (t + 1) (i + 6) _ _ _ _ (by omega) (by omega) (by omega) (by omega) (by omega) hL2

theorem la_10 {X : zz_X} {b d k : Nat} (hd : 12 ≤ d) (hsl : zz_sl X ≤ 3600) (ih : ∀ (t : Nat) (i : Int) (kc ks n : Nat) (h : zz_H), i = 6 * t → t ≤ 601 → zz_sl X ≤ 6 * (t + k) → 6 * k ≤ kc → 104 * k ≤ ks → LI X b n h t → zz_Z X mm_law d lwQ kc ks 18 [some (.ref (zz_sb X)), some (.ref b), some (.ref (b + 25)), some (zv i)] [] n h) {t kc ks n : Nat} {i : Int} {h : zz_H} (hi : i = 6 * t) (hlen : zz_sl X ≤ 6 * (t + (k + 1))) (hkc : 6 * (k + 1) ≤ kc) (hks : 104 * (k + 1) ≤ ks) (hLI : LI X b n h t) (hin : i + 6 ≤ (zz_sl X : Int)) : zz_Z X mm_law d lwQ kc ks 492 [some (.ref (zz_sb X)), some (.ref b), some (.ref (b + 25)), some (zv i)] [] n h := by
  obtain ⟨fs, hb⟩ := hLI.cb
  have ht : t ≤ 600 := by omega
  refine zi_aload_n dk_law_492 rfl rfl ?_
  refine zi_aload_n dk_law_493 rfl rfl ?_
  refine zj_iload_n dk_law_494 rfl ?_
  refine zj_iconst dk_law_495 ?_
  refine zj_iadd dk_law_496 ?_
  refine zj_sld rfl dk_law_497 (by omega) ?_
  refine zi_invV dk_law_498 ml_RequestGateLaw_59 iv_80 (cm_logout (d := d - 1) (by omega) ht hLI (zn_rg _)) hb rfl rfl rfl (Nat.le_of_ble_eq_true rfl) (by omega) (kc' := kc - 0) (ks' := ks - 0) (by omega) (by omega) (fun r n' h' hq => ?_)
  obtain ⟨z, rfl, ⟨fs2, hfs2⟩, c2⟩ := hq
  refine zi_aload_n dk_law_501 rfl rfl ?_
  refine zi_aload_n dk_law_502 rfl rfl ?_
  refine zj_iload_n dk_law_503 rfl ?_
  refine zj_iconst dk_law_504 ?_
  refine zj_iadd dk_law_505 ?_
  refine zj_sld rfl dk_law_506 (by omega) ?_
  refine zi_invV dk_law_507 ml_RequestGateLaw_62 iv_145 c2 hfs2 rfl rfl rfl (Nat.le_of_ble_eq_true rfl) (by omega) (kc' := kc - 0) (ks' := ks - 0) rfl rfl (fun r n'' h'' hq => ?_)
  obtain ⟨rfl, hL2⟩ := hq
  refine zi_icmp_eq (t := 802) dk_law_510 rfl (fun _ => ?_) (fun hne => absurd rfl hne)
  refine zj_iinc dk_law_802 rfl rfl ?_
  refine zi_goto (t := 18) dk_law_805 rfl ?_
  exact ih (t + 1) (i + 6) _ _ _ _ (by omega) (by omega) (by omega) (by omega) (by omega) hL2

theorem la_11 {X : zz_X} {b d k : Nat} (hd : 12 ≤ d) (hsl : zz_sl X ≤ 3600) (ih : ∀ (t : Nat) (i : Int) (kc ks n : Nat) (h : zz_H), i = 6 * t → t ≤ 601 → zz_sl X ≤ 6 * (t + k) → 6 * k ≤ kc → 104 * k ≤ ks → LI X b n h t → zz_Z X mm_law d lwQ kc ks 18 [some (.ref (zz_sb X)), some (.ref b), some (.ref (b + 25)), some (zv i)] [] n h) {t kc ks n : Nat} {i : Int} {h : zz_H} (hi : i = 6 * t) (hlen : zz_sl X ≤ 6 * (t + (k + 1))) (hkc : 6 * (k + 1) ≤ kc) (hks : 104 * (k + 1) ≤ ks) (hLI : LI X b n h t) (hin : i + 6 ≤ (zz_sl X : Int)) : zz_Z X mm_law d lwQ kc ks 515 [some (.ref (zz_sb X)), some (.ref b), some (.ref (b + 25)), some (zv i)] [] n h := by
  obtain ⟨fs, hb⟩ := hLI.cb
  have ht : t ≤ 600 := by omega
  refine zi_aload_n dk_law_515 rfl rfl ?_
  refine zi_aload_n dk_law_516 rfl rfl ?_
  refine zj_iload_n dk_law_517 rfl ?_
  refine zj_iconst dk_law_518 ?_
  refine zj_iadd dk_law_519 ?_
  refine zj_sld rfl dk_law_520 (by omega) ?_
  refine zi_aload_n dk_law_521 rfl rfl ?_
  refine zj_iload_n dk_law_522 rfl ?_
  refine zj_iconst dk_law_523 ?_
  refine zj_iadd dk_law_524 ?_
  refine zj_sld rfl dk_law_525 (by omega) ?_
  refine zi_aload_n dk_law_526 rfl rfl ?_
  refine zj_iload_n dk_law_527 rfl ?_
  refine zj_iconst dk_law_528 ?_
  refine zj_iadd dk_law_529 ?_
  refine zj_sld rfl dk_law_530 (by omega) ?_
  refine zi_aload_n dk_law_531 rfl rfl ?_
  refine zj_iload_n dk_law_532 rfl ?_
  refine zj_iconst dk_law_533 ?_
  refine zj_iadd dk_law_534 ?_
  refine zj_sld rfl dk_law_535 (by omega) ?_
  refine zi_aload_n dk_law_536 rfl rfl ?_
  refine zj_iload_n dk_law_537 rfl ?_
  refine zj_iconst dk_law_538 ?_
  refine zj_iadd dk_law_539 ?_
  refine zj_sld rfl dk_law_540 (by omega) ?_
  refine zi_invV dk_law_541 ml_RequestGateLaw_63 iv_83 (cm_open (d := d - 1) (by omega) ht hLI (zn_rg _) (zn_rg _) (zn_rg _) (zn_rg _) (zn_rg _)) hb rfl rfl rfl (Nat.le_of_ble_eq_true rfl) (by omega) (kc' := kc - 2) (ks' := ks - 21) (by omega) (by omega) (fun r n' h' hq => ?_)
  obtain ⟨z, rfl, ⟨fs2, hfs2⟩, c2⟩ := hq
  refine zi_aload_n dk_law_544 rfl rfl ?_
  refine zi_aload_n dk_law_545 rfl rfl ?_
  refine zj_iload_n dk_law_546 rfl ?_
  refine zj_iconst dk_law_547 ?_
  refine zj_iadd dk_law_548 ?_
  refine zj_sld rfl dk_law_549 (by omega) ?_
  refine zi_aload_n dk_law_550 rfl rfl ?_
  refine zj_iload_n dk_law_551 rfl ?_
  refine zj_iconst dk_law_552 ?_
  refine zj_iadd dk_law_553 ?_
  refine zj_sld rfl dk_law_554 (by omega) ?_
  refine zi_aload_n dk_law_555 rfl rfl ?_
  refine zj_iload_n dk_law_556 rfl ?_
  refine zj_iconst dk_law_557 ?_
  refine zj_iadd dk_law_558 ?_
  refine zj_sld rfl dk_law_559 (by omega) ?_
  refine zi_aload_n dk_law_560 rfl rfl ?_
  refine zj_iload_n dk_law_561 rfl ?_
  refine zj_iconst dk_law_562 ?_
  refine zj_iadd dk_law_563 ?_
  refine zj_sld rfl dk_law_564 (by omega) ?_
  refine zi_aload_n dk_law_565 rfl rfl ?_
  refine zj_iload_n dk_law_566 rfl ?_
  refine zj_iconst dk_law_567 ?_
  refine zj_iadd dk_law_568 ?_
  refine zj_sld rfl dk_law_569 (by omega) ?_
  refine zi_invV dk_law_570 ml_RequestGateLaw_67 iv_156 c2 hfs2 rfl rfl rfl (Nat.le_of_ble_eq_true rfl) (by omega) (kc' := kc - 2) (ks' := ks - 21) rfl rfl (fun r n'' h'' hq => ?_)
  obtain ⟨rfl, hL2⟩ := hq
  refine zi_icmp_eq (t := 802) dk_law_573 rfl (fun _ => ?_) (fun hne => absurd rfl hne)
  refine zj_iinc dk_law_802 rfl rfl ?_
  refine zi_goto (t := 18) dk_law_805 rfl ?_
  exact ih (t + 1) (i + 6) _ _ _ _ (by omega) (by omega) (by omega) (by omega) (by omega) hL2

theorem la_12 {X : zz_X} {b d k : Nat} (hd : 12 ≤ d) (hsl : zz_sl X ≤ 3600) (ih : ∀ (t : Nat) (i : Int) (kc ks n : Nat) (h : zz_H), i = 6 * t → t ≤ 601 → zz_sl X ≤ 6 * (t + k) → 6 * k ≤ kc → 104 * k ≤ ks → LI X b n h t → zz_Z X mm_law d lwQ kc ks 18 [some (.ref (zz_sb X)), some (.ref b), some (.ref (b + 25)), some (zv i)] [] n h) {t kc ks n : Nat} {i : Int} {h : zz_H} (hi : i = 6 * t) (hlen : zz_sl X ≤ 6 * (t + (k + 1))) (hkc : 6 * (k + 1) ≤ kc) (hks : 104 * (k + 1) ≤ ks) (hLI : LI X b n h t) (hin : i + 6 ≤ (zz_sl X : Int)) : zz_Z X mm_law d lwQ kc ks 578 [some (.ref (zz_sb X)), some (.ref b), some (.ref (b + 25)), some (zv i)] [] n h := by
  obtain ⟨fs, hb⟩ := hLI.cb
  have ht : t ≤ 600 := by omega
  refine zi_aload_n dk_law_578 rfl rfl ?_
  refine zi_aload_n dk_law_579 rfl rfl ?_
  refine zj_iload_n dk_law_580 rfl ?_
  refine zj_iconst dk_law_581 ?_
  refine zj_iadd dk_law_582 ?_
  refine zj_sld rfl dk_law_583 (by omega) ?_
  refine zi_aload_n dk_law_584 rfl rfl ?_
  refine zj_iload_n dk_law_585 rfl ?_
  refine zj_iconst dk_law_586 ?_
  refine zj_iadd dk_law_587 ?_
  refine zj_sld rfl dk_law_588 (by omega) ?_
  refine zi_aload_n dk_law_589 rfl rfl ?_
  refine zj_iload_n dk_law_590 rfl ?_
  refine zj_iconst dk_law_591 ?_
  refine zj_iadd dk_law_592 ?_
  refine zj_sld rfl dk_law_593 (by omega) ?_
  refine zi_invV dk_law_594 ml_RequestGateLaw_68 iv_113 (cm_call (d := d - 1) (by omega) ht hLI (zn_rg _) (zn_rg _) (zn_rg _)) hb rfl rfl rfl (Nat.le_of_ble_eq_true rfl) (by omega) (kc' := kc - 0) (ks' := ks - 0) (by omega) (by omega) (fun r n' h' hq => ?_)
  obtain ⟨z, rfl, ⟨fs2, hfs2⟩, c2⟩ := hq
  refine zi_aload_n dk_law_597 rfl rfl ?_
  refine zi_aload_n dk_law_598 rfl rfl ?_
  refine zj_iload_n dk_law_599 rfl ?_
  refine zj_iconst dk_law_600 ?_
  refine zj_iadd dk_law_601 ?_
  refine zj_sld rfl dk_law_602 (by omega) ?_
  refine zi_aload_n dk_law_603 rfl rfl ?_
  refine zj_iload_n dk_law_604 rfl ?_
  refine zj_iconst dk_law_605 ?_
  refine zj_iadd dk_law_606 ?_
  refine zj_sld rfl dk_law_607 (by omega) ?_
  refine zi_aload_n dk_law_608 rfl rfl ?_
  refine zj_iload_n dk_law_609 rfl ?_
  refine zj_iconst dk_law_610 ?_
  refine zj_iadd dk_law_611 ?_
  refine zj_sld rfl dk_law_612 (by omega) ?_
  refine zi_invV dk_law_613 ml_RequestGateLaw_71 iv_151 c2 hfs2 rfl rfl rfl (Nat.le_of_ble_eq_true rfl) (by omega) (kc' := kc - 0) (ks' := ks - 0) rfl rfl (fun r n'' h'' hq => ?_)
  obtain ⟨rfl, hL2⟩ := hq
  refine zi_icmp_eq (t := 802) dk_law_616 rfl (fun _ => ?_) (fun hne => absurd rfl hne)
  refine zj_iinc dk_law_802 rfl rfl ?_
  refine zi_goto (t := 18) dk_law_805 rfl ?_
  exact ih (t + 1) (i + 6) _ _ _ _ (by omega) (by omega) (by omega) (by omega) (by omega) hL2

theorem la_13 {X : zz_X} {b d k : Nat} (hd : 12 ≤ d) (hsl : zz_sl X ≤ 3600) (ih : ∀ (t : Nat) (i : Int) (kc ks n : Nat) (h : zz_H), i = 6 * t → t ≤ 601 → zz_sl X ≤ 6 * (t + k) → 6 * k ≤ kc → 104 * k ≤ ks → LI X b n h t → zz_Z X mm_law d lwQ kc ks 18 [some (.ref (zz_sb X)), some (.ref b), some (.ref (b + 25)), some (zv i)] [] n h) {t kc ks n : Nat} {i : Int} {h : zz_H} (hi : i = 6 * t) (hlen : zz_sl X ≤ 6 * (t + (k + 1))) (hkc : 6 * (k + 1) ≤ kc) (hks : 104 * (k + 1) ≤ ks) (hLI : LI X b n h t) (hin : i + 6 ≤ (zz_sl X : Int)) : zz_Z X mm_law d lwQ kc ks 621 [some (.ref (zz_sb X)), some (.ref b), some (.ref (b + 25)), some (zv i)] [] n h := by
  obtain ⟨fs, hb⟩ := hLI.cb
  have ht : t ≤ 600 := by omega
  refine zi_aload_n dk_law_621 rfl rfl ?_
  refine zi_invV dk_law_622 ml_RequestGateLaw_72 iv_119 (cm_close (d := d - 1) (by omega) ht hLI ) hb rfl rfl rfl (Nat.le_of_ble_eq_true rfl) (by omega) (kc' := kc - 0) (ks' := ks - 0) (by omega) (by omega) (fun r n' h' hq => ?_)
  obtain ⟨z, rfl, ⟨fs2, hfs2⟩, c2⟩ := hq
  refine zi_aload_n dk_law_625 rfl rfl ?_
  refine zi_invV dk_law_626 ml_RequestGateLaw_76 iv_165 c2 hfs2 rfl rfl rfl (Nat.le_of_ble_eq_true rfl) (by omega) (kc' := kc - 0) (ks' := ks - 0) rfl rfl (fun r n'' h'' hq => ?_)
  obtain ⟨rfl, hL2⟩ := hq
  refine zi_icmp_eq (t := 802) dk_law_629 rfl (fun _ => ?_) (fun hne => absurd rfl hne)
  refine zj_iinc dk_law_802 rfl rfl ?_
  refine zi_goto (t := 18) dk_law_805 rfl ?_
  exact ih (t + 1) (i + 6) _ _ _ _ (by omega) (by omega) (by omega) (by omega) (by omega) hL2

theorem la_14 {X : zz_X} {b d k : Nat} (hd : 12 ≤ d) (hsl : zz_sl X ≤ 3600) (ih : ∀ (t : Nat) (i : Int) (kc ks n : Nat) (h : zz_H), i = 6 * t → t ≤ 601 → zz_sl X ≤ 6 * (t + k) → 6 * k ≤ kc → 104 * k ≤ ks → LI X b n h t → zz_Z X mm_law d lwQ kc ks 18 [some (.ref (zz_sb X)), some (.ref b), some (.ref (b + 25)), some (zv i)] [] n h) {t kc ks n : Nat} {i : Int} {h : zz_H} (hi : i = 6 * t) (hlen : zz_sl X ≤ 6 * (t + (k + 1))) (hkc : 6 * (k + 1) ≤ kc) (hks : 104 * (k + 1) ≤ ks) (hLI : LI X b n h t) (hin : i + 6 ≤ (zz_sl X : Int)) : zz_Z X mm_law d lwQ kc ks 634 [some (.ref (zz_sb X)), some (.ref b), some (.ref (b + 25)), some (zv i)] [] n h := by
  obtain ⟨fs, hb⟩ := hLI.cb
  have ht : t ≤ 600 := by omega
  refine zi_aload_n dk_law_634 rfl rfl ?_
  refine zi_invV dk_law_635 ml_RequestGateLaw_77 iv_120 (cm_who (d := d - 1) (by omega) ht hLI ) hb rfl rfl rfl (Nat.le_of_ble_eq_true rfl) (by omega) (kc' := kc - 0) (ks' := ks - 0) (by omega) (by omega) (fun r n' h' hq => ?_)
  obtain ⟨z, rfl, ⟨fs2, hfs2⟩, c2⟩ := hq
  refine zi_aload_n dk_law_638 rfl rfl ?_
  refine zi_invV dk_law_639 ml_RequestGateLaw_81 iv_166 c2 hfs2 rfl rfl rfl (Nat.le_of_ble_eq_true rfl) (by omega) (kc' := kc - 0) (ks' := ks - 0) rfl rfl (fun r n'' h'' hq => ?_)
  obtain ⟨rfl, hL2⟩ := hq
  refine zi_icmp_eq (t := 802) dk_law_642 rfl (fun _ => ?_) (fun hne => absurd rfl hne)
  refine zj_iinc dk_law_802 rfl rfl ?_
  refine zi_goto (t := 18) dk_law_805 rfl ?_
  exact ih (t + 1) (i + 6) _ _ _ _ (by omega) (by omega) (by omega) (by omega) (by omega) hL2

theorem la_15 {X : zz_X} {b d k : Nat} (hd : 12 ≤ d) (hsl : zz_sl X ≤ 3600) (ih : ∀ (t : Nat) (i : Int) (kc ks n : Nat) (h : zz_H), i = 6 * t → t ≤ 601 → zz_sl X ≤ 6 * (t + k) → 6 * k ≤ kc → 104 * k ≤ ks → LI X b n h t → zz_Z X mm_law d lwQ kc ks 18 [some (.ref (zz_sb X)), some (.ref b), some (.ref (b + 25)), some (zv i)] [] n h) {t kc ks n : Nat} {i : Int} {h : zz_H} (hi : i = 6 * t) (hlen : zz_sl X ≤ 6 * (t + (k + 1))) (hkc : 6 * (k + 1) ≤ kc) (hks : 104 * (k + 1) ≤ ks) (hLI : LI X b n h t) (hin : i + 6 ≤ (zz_sl X : Int)) : zz_Z X mm_law d lwQ kc ks 647 [some (.ref (zz_sb X)), some (.ref b), some (.ref (b + 25)), some (zv i)] [] n h := by
  obtain ⟨fs, hb⟩ := hLI.cb
  have ht : t ≤ 600 := by omega
  refine zi_aload_n dk_law_647 rfl rfl ?_
  refine zi_aload_n dk_law_648 rfl rfl ?_
  refine zj_iload_n dk_law_649 rfl ?_
  refine zj_iconst dk_law_650 ?_
  refine zj_iadd dk_law_651 ?_
  refine zj_sld rfl dk_law_652 (by omega) ?_
  refine zi_invV dk_law_653 ml_RequestGateLaw_82 iv_121 (cm_fits (d := d - 1) (by omega) ht hLI (zn_rg _)) hb rfl rfl rfl (Nat.le_of_ble_eq_true rfl) (by omega) (kc' := kc - 0) (ks' := ks - 0) (by omega) (by omega) (fun r n' h' hq => ?_)
  obtain ⟨z, rfl, ⟨fs2, hfs2⟩, c2⟩ := hq
  refine zi_aload_n dk_law_656 rfl rfl ?_
  refine zi_aload_n dk_law_657 rfl rfl ?_
  refine zj_iload_n dk_law_658 rfl ?_
  refine zj_iconst dk_law_659 ?_
  refine zj_iadd dk_law_660 ?_
  refine zj_sld rfl dk_law_661 (by omega) ?_
  refine zi_invV dk_law_662 ml_RequestGateLaw_86 iv_167 c2 hfs2 rfl rfl rfl (Nat.le_of_ble_eq_true rfl) (by omega) (kc' := kc - 0) (ks' := ks - 0) rfl rfl (fun r n'' h'' hq => ?_)
  obtain ⟨rfl, hL2⟩ := hq
  refine zi_icmp_eq (t := 802) dk_law_665 rfl (fun _ => ?_) (fun hne => absurd rfl hne)
  refine zj_iinc dk_law_802 rfl rfl ?_
  refine zi_goto (t := 18) dk_law_805 rfl ?_
  exact ih (t + 1) (i + 6) _ _ _ _ (by omega) (by omega) (by omega) (by omega) (by omega) hL2

theorem la_16 {X : zz_X} {b d k : Nat} (hd : 12 ≤ d) (hsl : zz_sl X ≤ 3600) (ih : ∀ (t : Nat) (i : Int) (kc ks n : Nat) (h : zz_H), i = 6 * t → t ≤ 601 → zz_sl X ≤ 6 * (t + k) → 6 * k ≤ kc → 104 * k ≤ ks → LI X b n h t → zz_Z X mm_law d lwQ kc ks 18 [some (.ref (zz_sb X)), some (.ref b), some (.ref (b + 25)), some (zv i)] [] n h) {t kc ks n : Nat} {i : Int} {h : zz_H} (hi : i = 6 * t) (hlen : zz_sl X ≤ 6 * (t + (k + 1))) (hkc : 6 * (k + 1) ≤ kc) (hks : 104 * (k + 1) ≤ ks) (hLI : LI X b n h t) (hin : i + 6 ≤ (zz_sl X : Int)) : zz_Z X mm_law d lwQ kc ks 670 [some (.ref (zz_sb X)), some (.ref b), some (.ref (b + 25)), some (zv i)] [] n h := by
  obtain ⟨fs, hb⟩ := hLI.cb
  have ht : t ≤ 600 := by omega
  refine zi_aload_n dk_law_670 rfl rfl ?_
  refine zi_aload_n dk_law_671 rfl rfl ?_
  refine zj_iload_n dk_law_672 rfl ?_
  refine zj_iconst dk_law_673 ?_
  refine zj_iadd dk_law_674 ?_
  refine zj_sld rfl dk_law_675 (by omega) ?_
  refine zi_aload_n dk_law_676 rfl rfl ?_
  refine zj_iload_n dk_law_677 rfl ?_
  refine zj_iconst dk_law_678 ?_
  refine zj_iadd dk_law_679 ?_
  refine zj_sld rfl dk_law_680 (by omega) ?_
  refine zi_aload_n dk_law_681 rfl rfl ?_
  refine zj_iload_n dk_law_682 rfl ?_
  refine zj_iconst dk_law_683 ?_
  refine zj_iadd dk_law_684 ?_
  refine zj_sld rfl dk_law_685 (by omega) ?_
  refine zi_invV dk_law_686 ml_RequestGateLaw_87 iv_122 (cm_ses (d := d - 1) (by omega) ht hLI (zn_rg _) (zn_rg _) (zn_rg _)) hb rfl rfl rfl (Nat.le_of_ble_eq_true rfl) (by omega) (kc' := kc - 0) (ks' := ks - 0) (by omega) (by omega) (fun r n' h' hq => ?_)
  obtain ⟨z, rfl, ⟨fs2, hfs2⟩, c2⟩ := hq
  refine zi_aload_n dk_law_689 rfl rfl ?_
  refine zi_aload_n dk_law_690 rfl rfl ?_
  refine zj_iload_n dk_law_691 rfl ?_
  refine zj_iconst dk_law_692 ?_
  refine zj_iadd dk_law_693 ?_
  refine zj_sld rfl dk_law_694 (by omega) ?_
  refine zi_aload_n dk_law_695 rfl rfl ?_
  refine zj_iload_n dk_law_696 rfl ?_
  refine zj_iconst dk_law_697 ?_
  refine zj_iadd dk_law_698 ?_
  refine zj_sld rfl dk_law_699 (by omega) ?_
  refine zi_aload_n dk_law_700 rfl rfl ?_
  refine zj_iload_n dk_law_701 rfl ?_
  refine zj_iconst dk_law_702 ?_
  refine zj_iadd dk_law_703 ?_
  refine zj_sld rfl dk_law_704 (by omega) ?_
  refine zi_invV dk_law_705 ml_RequestGateLaw_90 iv_168 c2 hfs2 rfl rfl rfl (Nat.le_of_ble_eq_true rfl) (by omega) (kc' := kc - 0) (ks' := ks - 0) rfl rfl (fun r n'' h'' hq => ?_)
  obtain ⟨rfl, hL2⟩ := hq
  refine zi_icmp_eq (t := 802) dk_law_708 rfl (fun _ => ?_) (fun hne => absurd rfl hne)
  refine zj_iinc dk_law_802 rfl rfl ?_
  refine zi_goto (t := 18) dk_law_805 rfl ?_
  exact ih (t + 1) (i + 6) _ _ _ _ (by omega) (by omega) (by omega) (by omega) (by omega) hL2

theorem la_17 {X : zz_X} {b d k : Nat} (hd : 12 ≤ d) (hsl : zz_sl X ≤ 3600) (ih : ∀ (t : Nat) (i : Int) (kc ks n : Nat) (h : zz_H), i = 6 * t → t ≤ 601 → zz_sl X ≤ 6 * (t + k) → 6 * k ≤ kc → 104 * k ≤ ks → LI X b n h t → zz_Z X mm_law d lwQ kc ks 18 [some (.ref (zz_sb X)), some (.ref b), some (.ref (b + 25)), some (zv i)] [] n h) {t kc ks n : Nat} {i : Int} {h : zz_H} (hi : i = 6 * t) (hlen : zz_sl X ≤ 6 * (t + (k + 1))) (hkc : 6 * (k + 1) ≤ kc) (hks : 104 * (k + 1) ≤ ks) (hLI : LI X b n h t) (hin : i + 6 ≤ (zz_sl X : Int)) : zz_Z X mm_law d lwQ kc ks 713 [some (.ref (zz_sb X)), some (.ref b), some (.ref (b + 25)), some (zv i)] [] n h := by
  obtain ⟨fs, hb⟩ := hLI.cb
  have ht : t ≤ 600 := by omega
  refine zi_aload_n dk_law_713 rfl rfl ?_
  refine zi_aload_n dk_law_714 rfl rfl ?_
  refine zj_iload_n dk_law_715 rfl ?_
  refine zj_iconst dk_law_716 ?_
  refine zj_iadd dk_law_717 ?_
  refine zj_sld rfl dk_law_718 (by omega) ?_
  refine zi_aload_n dk_law_719 rfl rfl ?_
  refine zj_iload_n dk_law_720 rfl ?_
  refine zj_iconst dk_law_721 ?_
  refine zj_iadd dk_law_722 ?_
  refine zj_sld rfl dk_law_723 (by omega) ?_
  refine zi_aload_n dk_law_724 rfl rfl ?_
  refine zj_iload_n dk_law_725 rfl ?_
  refine zj_iconst dk_law_726 ?_
  refine zj_iadd dk_law_727 ?_
  refine zj_sld rfl dk_law_728 (by omega) ?_
  refine zi_invV dk_law_729 ml_RequestGateLaw_91 iv_123 (cm_ser (d := d - 1) (by omega) ht hLI (zn_rg _) (zn_rg _) (zn_rg _)) hb rfl rfl rfl (Nat.le_of_ble_eq_true rfl) (by omega) (kc' := kc - 0) (ks' := ks - 0) (by omega) (by omega) (fun r n' h' hq => ?_)
  obtain ⟨z, rfl, ⟨fs2, hfs2⟩, c2⟩ := hq
  refine zi_aload_n dk_law_732 rfl rfl ?_
  refine zi_aload_n dk_law_733 rfl rfl ?_
  refine zj_iload_n dk_law_734 rfl ?_
  refine zj_iconst dk_law_735 ?_
  refine zj_iadd dk_law_736 ?_
  refine zj_sld rfl dk_law_737 (by omega) ?_
  refine zi_aload_n dk_law_738 rfl rfl ?_
  refine zj_iload_n dk_law_739 rfl ?_
  refine zj_iconst dk_law_740 ?_
  refine zj_iadd dk_law_741 ?_
  refine zj_sld rfl dk_law_742 (by omega) ?_
  refine zi_aload_n dk_law_743 rfl rfl ?_
  refine zj_iload_n dk_law_744 rfl ?_
  refine zj_iconst dk_law_745 ?_
  refine zj_iadd dk_law_746 ?_
  refine zj_sld rfl dk_law_747 (by omega) ?_
  refine zi_invV dk_law_748 ml_RequestGateLaw_94 iv_169 c2 hfs2 rfl rfl rfl (Nat.le_of_ble_eq_true rfl) (by omega) (kc' := kc - 0) (ks' := ks - 0) rfl rfl (fun r n'' h'' hq => ?_)
  obtain ⟨rfl, hL2⟩ := hq
  refine zi_icmp_eq (t := 802) dk_law_751 rfl (fun _ => ?_) (fun hne => absurd rfl hne)
  refine zj_iinc dk_law_802 rfl rfl ?_
  refine zi_goto (t := 18) dk_law_805 rfl ?_
  exact ih (t + 1) (i + 6) _ _ _ _ (by omega) (by omega) (by omega) (by omega) (by omega) hL2

theorem la_18 {X : zz_X} {b d k : Nat} (hd : 12 ≤ d) (hsl : zz_sl X ≤ 3600) (ih : ∀ (t : Nat) (i : Int) (kc ks n : Nat) (h : zz_H), i = 6 * t → t ≤ 601 → zz_sl X ≤ 6 * (t + k) → 6 * k ≤ kc → 104 * k ≤ ks → LI X b n h t → zz_Z X mm_law d lwQ kc ks 18 [some (.ref (zz_sb X)), some (.ref b), some (.ref (b + 25)), some (zv i)] [] n h) {t kc ks n : Nat} {i : Int} {h : zz_H} (hi : i = 6 * t) (hlen : zz_sl X ≤ 6 * (t + (k + 1))) (hkc : 6 * (k + 1) ≤ kc) (hks : 104 * (k + 1) ≤ ks) (hLI : LI X b n h t) (hin : i + 6 ≤ (zz_sl X : Int)) : zz_Z X mm_law d lwQ kc ks 756 [some (.ref (zz_sb X)), some (.ref b), some (.ref (b + 25)), some (zv i)] [] n h := by
  obtain ⟨fs, hb⟩ := hLI.cb
  have ht : t ≤ 600 := by omega
  refine zi_aload_n dk_law_756 rfl rfl ?_
  refine zi_aload_n dk_law_757 rfl rfl ?_
  refine zj_iload_n dk_law_758 rfl ?_
  refine zj_iconst dk_law_759 ?_
  refine zj_iadd dk_law_760 ?_
  refine zj_sld rfl dk_law_761 (by omega) ?_
  refine zi_invV dk_law_762 ml_RequestGateLaw_95 iv_124 (cm_hash (d := d - 1) (by omega) ht hLI (zn_rg _)) hb rfl rfl rfl (Nat.le_of_ble_eq_true rfl) (by omega) (kc' := kc - 0) (ks' := ks - 0) (by omega) (by omega) (fun r n' h' hq => ?_)
  obtain ⟨z, rfl, ⟨fs2, hfs2⟩, c2⟩ := hq
  refine zi_aload_n dk_law_765 rfl rfl ?_
  refine zi_aload_n dk_law_766 rfl rfl ?_
  refine zj_iload_n dk_law_767 rfl ?_
  refine zj_iconst dk_law_768 ?_
  refine zj_iadd dk_law_769 ?_
  refine zj_sld rfl dk_law_770 (by omega) ?_
  refine zi_invV dk_law_771 ml_RequestGateLaw_98 iv_170 c2 hfs2 rfl rfl rfl (Nat.le_of_ble_eq_true rfl) (by omega) (kc' := kc - 0) (ks' := ks - 0) rfl rfl (fun r n'' h'' hq => ?_)
  obtain ⟨rfl, hL2⟩ := hq
  refine zi_icmp_eq (t := 802) dk_law_774 rfl (fun _ => ?_) (fun hne => absurd rfl hne)
  refine zj_iinc dk_law_802 rfl rfl ?_
  refine zi_goto (t := 18) dk_law_805 rfl ?_
  exact ih (t + 1) (i + 6) _ _ _ _ (by omega) (by omega) (by omega) (by omega) (by omega) hL2

theorem la_19 {X : zz_X} {b d k : Nat} (hd : 12 ≤ d) (hsl : zz_sl X ≤ 3600) (ih : ∀ (t : Nat) (i : Int) (kc ks n : Nat) (h : zz_H), i = 6 * t → t ≤ 601 → zz_sl X ≤ 6 * (t + k) → 6 * k ≤ kc → 104 * k ≤ ks → LI X b n h t → zz_Z X mm_law d lwQ kc ks 18 [some (.ref (zz_sb X)), some (.ref b), some (.ref (b + 25)), some (zv i)] [] n h) {t kc ks n : Nat} {i : Int} {h : zz_H} (hi : i = 6 * t) (hlen : zz_sl X ≤ 6 * (t + (k + 1))) (hkc : 6 * (k + 1) ≤ kc) (hks : 104 * (k + 1) ≤ ks) (hLI : LI X b n h t) (hin : i + 6 ≤ (zz_sl X : Int)) : zz_Z X mm_law d lwQ kc ks 779 [some (.ref (zz_sb X)), some (.ref b), some (.ref (b + 25)), some (zv i)] [] n h := by
  obtain ⟨fs, hb⟩ := hLI.cb
  have ht : t ≤ 600 := by omega
  refine zi_aload_n dk_law_779 rfl rfl ?_
  refine zi_aload_n dk_law_780 rfl rfl ?_
  refine zj_iload_n dk_law_781 rfl ?_
  refine zj_iconst dk_law_782 ?_
  refine zj_iadd dk_law_783 ?_
  refine zj_sld rfl dk_law_784 (by omega) ?_
  refine zi_invV dk_law_785 ml_RequestGateLaw_99 iv_125 (cm_count (d := d - 1) (by omega) ht hLI (zn_rg _)) hb rfl rfl rfl (Nat.le_of_ble_eq_true rfl) (by omega) (kc' := kc - 0) (ks' := ks - 0) (by omega) (by omega) (fun r n' h' hq => ?_)
  obtain ⟨z, rfl, ⟨fs2, hfs2⟩, c2⟩ := hq
  refine zi_aload_n dk_law_788 rfl rfl ?_
  refine zi_aload_n dk_law_789 rfl rfl ?_
  refine zj_iload_n dk_law_790 rfl ?_
  refine zj_iconst dk_law_791 ?_
  refine zj_iadd dk_law_792 ?_
  refine zj_sld rfl dk_law_793 (by omega) ?_
  refine zi_invV dk_law_794 ml_RequestGateLaw_102 iv_171 c2 hfs2 rfl rfl rfl (Nat.le_of_ble_eq_true rfl) (by omega) (kc' := kc - 0) (ks' := ks - 0) rfl rfl (fun r n'' h'' hq => ?_)
  obtain ⟨rfl, hL2⟩ := hq
  refine zi_icmp_eq (t := 802) dk_law_797 rfl (fun _ => ?_) (fun hne => absurd rfl hne)
  refine zj_iinc dk_law_802 rfl rfl ?_
  refine zi_goto (t := 18) dk_law_805 rfl ?_
  exact ih (t + 1) (i + 6) _ _ _ _ (by omega) (by omega) (by omega) (by omega) (by omega) hL2

theorem la_20 {X : zz_X} {b d k : Nat} (hd : 12 ≤ d) (hsl : zz_sl X ≤ 3600) (ih : ∀ (t : Nat) (i : Int) (kc ks n : Nat) (h : zz_H), i = 6 * t → t ≤ 601 → zz_sl X ≤ 6 * (t + k) → 6 * k ≤ kc → 104 * k ≤ ks → LI X b n h t → zz_Z X mm_law d lwQ kc ks 18 [some (.ref (zz_sb X)), some (.ref b), some (.ref (b + 25)), some (zv i)] [] n h) {t kc ks n : Nat} {i : Int} {h : zz_H} (hi : i = 6 * t) (hlen : zz_sl X ≤ 6 * (t + (k + 1))) (hkc : 6 * (k + 1) ≤ kc) (hks : 104 * (k + 1) ≤ ks) (hLI : LI X b n h t) (hin : i + 6 ≤ (zz_sl X : Int)) : zz_Z X mm_law d lwQ kc ks 802 [some (.ref (zz_sb X)), some (.ref b), some (.ref (b + 25)), some (zv i)] [] n h := by
  have hL2 : LI X b n h (t + 1) := hLI.up
  refine zj_iinc dk_law_802 rfl rfl ?_
  refine zi_goto (t := 18) dk_law_805 rfl ?_
  exact ih (t + 1) (i + 6) _ _ _ _ (by omega) (by omega) (by omega) (by omega) (by omega) hL2

theorem lw_loop {X : zz_X} {b d : Nat} (hd : 12 ≤ d) (hsl : zz_sl X ≤ 3600) : ∀ (k t : Nat) (i : Int) (kc ks n : Nat) (h : zz_H), i = 6 * t → t ≤ 601 → zz_sl X ≤ 6 * (t + k) → 6 * k ≤ kc → 104 * k ≤ ks → LI X b n h t → zz_Z X mm_law d lwQ kc ks 18 [some (.ref (zz_sb X)), some (.ref b), some (.ref (b + 25)), some (zv i)] [] n h := by
  intro k
  induction k with
  | zero =>
    intro t i kc ks n h hi ht6 hlen hkc hks hLI
    refine zj_iload_n dk_law_18 rfl ?_
    refine zi_aload_n dk_law_19 rfl rfl ?_
    refine zj_slen rfl dk_law_20 ?_
    refine zj_bipush dk_law_21 (by decide) ?_
    refine zj_isub dk_law_23 ?_
    refine zj_icmp_gt (t := 808) dk_law_24 rfl (by omega) (fun c24 => ?_) (fun c24 => ?_)
    · refine zj_iconst dk_law_808 ?_
      exact zj_zreturn dk_law_809 rfl (by omega) rfl
    · omega
  | succ k ih =>
    intro t i kc ks n h hi ht6 hlen hkc hks hLI
    refine zj_iload_n dk_law_18 rfl ?_
    refine zi_aload_n dk_law_19 rfl rfl ?_
    refine zj_slen rfl dk_law_20 ?_
    refine zj_bipush dk_law_21 (by decide) ?_
    refine zj_isub dk_law_23 ?_
    refine zj_icmp_gt (t := 808) dk_law_24 rfl (by omega) (fun c24 => ?_) (fun c24 => ?_)
    · refine zj_iconst dk_law_808 ?_
      exact zj_zreturn dk_law_809 rfl (by omega) rfl
    · refine zi_aload_n dk_law_27 rfl rfl ?_
      refine zj_iload_n dk_law_28 rfl ?_
      refine zj_sld rfl dk_law_29 (by omega) ?_
      refine zj_bipush dk_law_30 (by decide) ?_
      refine zj_iand dk_law_32 ?_
      have hx31 := zb_and31 (zz_sx X i.toNat).toInt
      have hcase : zb_and (zz_sx X i.toNat).toInt 31 = 0 ∨ zb_and (zz_sx X i.toNat).toInt 31 = 1 ∨ zb_and (zz_sx X i.toNat).toInt 31 = 2 ∨ zb_and (zz_sx X i.toNat).toInt 31 = 3 ∨ zb_and (zz_sx X i.toNat).toInt 31 = 4 ∨ zb_and (zz_sx X i.toNat).toInt 31 = 5 ∨ zb_and (zz_sx X i.toNat).toInt 31 = 6 ∨ zb_and (zz_sx X i.toNat).toInt 31 = 7 ∨ zb_and (zz_sx X i.toNat).toInt 31 = 8 ∨ zb_and (zz_sx X i.toNat).toInt 31 = 9 ∨ zb_and (zz_sx X i.toNat).toInt 31 = 10 ∨ zb_and (zz_sx X i.toNat).toInt 31 = 11 ∨ zb_and (zz_sx X i.toNat).toInt 31 = 12 ∨ zb_and (zz_sx X i.toNat).toInt 31 = 13 ∨ zb_and (zz_sx X i.toNat).toInt 31 = 14 ∨ zb_and (zz_sx X i.toNat).toInt 31 = 15 ∨ zb_and (zz_sx X i.toNat).toInt 31 = 16 ∨ zb_and (zz_sx X i.toNat).toInt 31 = 17 ∨ zb_and (zz_sx X i.toNat).toInt 31 = 18 ∨ zb_and (zz_sx X i.toNat).toInt 31 = 19 ∨ 19 < zb_and (zz_sx X i.toNat).toInt 31 := by omega
      rcases hcase with hx | hx | hx | hx | hx | hx | hx | hx | hx | hx | hx | hx | hx | hx | hx | hx | hx | hx | hx | hx | hx
      · rw [hx]
        exact zj_tabIn (t := 128) dk_law_33 (by decide) rfl rfl (la_0 hd hsl ih hi (by omega) (by omega) (by omega) hLI (by omega))
      · rw [hx]
        exact zj_tabIn (t := 151) dk_law_33 (by decide) rfl rfl (la_1 hd hsl ih hi (by omega) (by omega) (by omega) hLI (by omega))
      · rw [hx]
        exact zj_tabIn (t := 162) dk_law_33 (by decide) rfl rfl (la_2 hd hsl ih hi (by omega) (by omega) (by omega) hLI (by omega))
      · rw [hx]
        exact zj_tabIn (t := 205) dk_law_33 (by decide) rfl rfl (la_3 hd hsl ih hi (by omega) (by omega) (by omega) hLI (by omega))
      · rw [hx]
        exact zj_tabIn (t := 238) dk_law_33 (by decide) rfl rfl (la_4 hd hsl ih hi (by omega) (by omega) (by omega) hLI (by omega))
      · rw [hx]
        exact zj_tabIn (t := 271) dk_law_33 (by decide) rfl rfl (la_5 hd hsl ih hi (by omega) (by omega) (by omega) hLI (by omega))
      · rw [hx]
        exact zj_tabIn (t := 314) dk_law_33 (by decide) rfl rfl (la_6 hd hsl ih hi (by omega) (by omega) (by omega) hLI (by omega))
      · rw [hx]
        exact zj_tabIn (t := 357) dk_law_33 (by decide) rfl rfl (la_7 hd hsl ih hi (by omega) (by omega) (by omega) hLI (by omega))
      · rw [hx]
        exact zj_tabIn (t := 400) dk_law_33 (by decide) rfl rfl (la_8 hd hsl ih hi (by omega) (by omega) (by omega) hLI (by omega))
      · rw [hx]
        exact zj_tabIn (t := 423) dk_law_33 (by decide) rfl rfl (la_9 hd hsl ih hi (by omega) (by omega) (by omega) hLI (by omega))
      · rw [hx]
        exact zj_tabIn (t := 492) dk_law_33 (by decide) rfl rfl (la_10 hd hsl ih hi (by omega) (by omega) (by omega) hLI (by omega))
      · rw [hx]
        exact zj_tabIn (t := 515) dk_law_33 (by decide) rfl rfl (la_11 hd hsl ih hi (by omega) (by omega) (by omega) hLI (by omega))
      · rw [hx]
        exact zj_tabIn (t := 578) dk_law_33 (by decide) rfl rfl (la_12 hd hsl ih hi (by omega) (by omega) (by omega) hLI (by omega))
      · rw [hx]
        exact zj_tabIn (t := 621) dk_law_33 (by decide) rfl rfl (la_13 hd hsl ih hi (by omega) (by omega) (by omega) hLI (by omega))
      · rw [hx]
        exact zj_tabIn (t := 634) dk_law_33 (by decide) rfl rfl (la_14 hd hsl ih hi (by omega) (by omega) (by omega) hLI (by omega))
      · rw [hx]
        exact zj_tabIn (t := 647) dk_law_33 (by decide) rfl rfl (la_15 hd hsl ih hi (by omega) (by omega) (by omega) hLI (by omega))
      · rw [hx]
        exact zj_tabIn (t := 670) dk_law_33 (by decide) rfl rfl (la_16 hd hsl ih hi (by omega) (by omega) (by omega) hLI (by omega))
      · rw [hx]
        exact zj_tabIn (t := 713) dk_law_33 (by decide) rfl rfl (la_17 hd hsl ih hi (by omega) (by omega) (by omega) hLI (by omega))
      · rw [hx]
        exact zj_tabIn (t := 756) dk_law_33 (by decide) rfl rfl (la_18 hd hsl ih hi (by omega) (by omega) (by omega) hLI (by omega))
      · rw [hx]
        exact zj_tabIn (t := 779) dk_law_33 (by decide) rfl rfl (la_19 hd hsl ih hi (by omega) (by omega) (by omega) hLI (by omega))
      · exact zj_tabOut (t := 802) dk_law_33 (by omega) rfl (la_20 hd hsl ih hi (by omega) (by omega) (by omega) hLI (by omega))

theorem lw_body {X : zz_X} {b d kc ks : Nat} (hd : 13 ≤ d) (hsl : zz_sl X ≤ 3600) {h : zz_H} {fe : Nat → Option Nat} (he : h (zz_e X) = some (zQ 4 0 fe)) (hfe : ∀ i, fe i = none) (he2 : zz_e X < b) (hkc : 4000 ≤ kc) (hks : 80000 ≤ ks) : zz_Z X mm_law d lwQ kc ks 0 [some (.ref (zz_sb X)), none, none, none] [] b h := by
  refine zi_new dk_law_0 nw_RequestGateLaw_7 (kc' := kc - 1) (ks' := ks - 19) (by omega) (by omega) ?_
  refine zi_dup dk_law_3 rfl ?_
  refine zi_invI dk_law_4 ml_RequestGateLaw_9 ii_0 (gm_0 (d := d - 1) (by omega) rfl (zz_up_eq _ _ _) (show zz_up h b _ (zz_e X) = _ from (zz_up_ne (by omega)).trans he) hfe he2) rfl rfl (Nat.le_of_ble_eq_true rfl) (by omega) (kc' := kc - 1 - 24) (ks' := ks - 19 - 288) (by omega) (by omega) (fun r n' h' hq => ?_)
  obtain ⟨rfl, rfl, g, hg, hlow, G⟩ := hq
  refine zz_Z.lt (fun hlt => ?_)
  refine zi_astore_n dk_law_7 rfl rfl ?_
  refine zi_new dk_law_8 nw_RequestGateLaw_10 (kc' := kc - 1 - 24 - 1) (ks' := ks - 19 - 288 - 56) (by omega) (by omega) ?_
  refine zi_dup dk_law_11 rfl ?_
  refine zi_invI dk_law_12 ml_RequestGateLaw_12 ii_126 (ct_126 (d := d - 1) (by omega) rfl (zz_up_eq _ _ _)) rfl rfl (Nat.le_of_ble_eq_true rfl) (by omega) (kc' := kc - 1 - 24 - 1 - 38) (ks' := ks - 19 - 288 - 56 - 997) (by omega) (by omega) (fun r n' h2 hq => ?_)
  obtain ⟨rfl, rfl, rfl⟩ := hq
  refine zi_astore_n dk_law_15 rfl rfl ?_
  refine zj_iconst dk_law_16 ?_
  refine zj_istore_n dk_law_17 rfl ?_
  refine lw_loop (by omega) hsl 600 0 0 _ _ _ _ (by omega) (by omega) (by omega) (by omega) (by omega) ?_
  exact ⟨by omega, (fun i => if i = 52 then -1 else 0), (fun _ _ => 0), (fun i => if i = 0 then -1 else 0), va_up (fun _ _ => 0) 17 g, (fun _ => zz_e X), [], [], [], [], [], GI.new hlt G, md_md, RX.ini hg, (by show (0 : Int) ≤ 100 * ((0 : Nat) : Int); omega), (by show (0 : Int) ≤ 6 * ((0 : Nat) : Int); omega)⟩

