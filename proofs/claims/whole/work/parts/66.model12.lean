/-! the model: fits, open, and its start -/
theorem RP.get {RL : List (Nat × rd)} {sz : Int} {b30 b31 b32 b33 : Int → Int} (P : RP RL sz b30 b31 b32 b33) {r : Int} (hr : 0 ≤ r ∧ r < (RL.length : Int)) : r < 8 ∧ ∃ p f len, RL[r.toNat]? = some p ∧ p.2.1 = sp_pcs f len ∧ sp_pat f len = true ∧ b31 r = len ∧ (1 ≤ len ∧ len ≤ 40) ∧ (∀ j, 0 ≤ j → j < len → b30 (40 * r + j) = f j ∧ 33 ≤ f j ∧ f j ≤ 126) ∧ p.2.2.1 = b32 r ∧ p.2.2.2 = b33 r ∧ (0 ≤ b32 r ∧ b32 r < sz) ∧ (1 ≤ b33 r ∧ b33 r ≤ 15) := by
  have hl : r.toNat < RL.length := by omega
  have h8 := P.2
  obtain ⟨f, len, a1, a2, a3, a4, a5, a6, a7, a8, a9⟩ := P.1 r.toNat _ (List.getElem?_eq_getElem hl)
  rw [Int.toNat_of_nonneg hr.1] at a3 a5 a6 a7 a8 a9
  exact ⟨by omega, _, f, len, List.getElem?_eq_getElem hl, a1, a2, a3, a4, a5, a6, a7, a8, a9⟩
theorem ct_167 {X : zz_X} {d n : Nat}  (hd : 3 ≤ d) {m : Nat} {V : Nat → Int} {B : Nat → Int → Int} {h0 : zz_H} {RL : List (Nat × rd)} (P : RP RL (V 24) (B 30) (B 31) (B 32) (B 33)) (hRL : V 40 = (RL.length : Int)) (hB : md_B V B) (hch : ch_ok (B 22)) {r0 : Int} (hr0 : -2147483648 ≤ r0 ∧ r0 < 2147483648) : zz_Ct X mm_167 d 0 0 [.ref m, zv r0] n (md_H m V B h0) (fun r n' h' => n' = n ∧ ((¬ (0 ≤ r0 ∧ r0 < (RL.length : Int)) ∧ r = some (zv (-1)) ∧ h' = md_H m V B h0) ∨ ((0 ≤ r0 ∧ r0 < (RL.length : Int)) ∧ ∃ x B', ax [22, 23, 24, 25, 26, 27, 28, 29] B B' ∧ ch_ok (B' 22) ∧ h' = md_H m (va_up V 35 x) B' h0 ∧ ((sp_read (B 21) (V 29) = none ∧ r = some (zv (-2))) ∨ ∃ L p, sp_read (B 21) (V 29) = some L ∧ RL[r0.toNat]? = some p ∧ r = some (zv (bz (sp_fits p.2.1 L))))))) := by
  refine zz_start (by decide) (ls := [some (.ref m), some (zv r0)]) rfl ?_
  have hP8 := P.2
  refine zj_iload_n dk_167_0 rfl ?_
  refine zj_if_lt (t := 12) dk_167_1 rfl (by omega) (fun c1 => ?_) (fun c1 => ?_)
  · skip
    refine zj_iconst dk_167_12 ?_
    refine zj_ireturn dk_167_13 rfl ⟨rfl, Or.inl ⟨by omega, rfl, rfl⟩⟩
  · skip
    refine zj_iload_n dk_167_4 rfl ?_
    refine zi_aload_n dk_167_5 rfl rfl ?_
    refine zi_getf dk_167_6 fl_13_171 md_0 rfl ?_
    refine zj_icmp_lt (t := 14) dk_167_9 rfl (by omega) (fun c9 => ?_) (fun c9 => ?_)
    · skip
      refine zi_aload_n dk_167_14 rfl rfl ?_
      refine zi_invV dk_167_15 ml_13_255 iv_157 (ct_157 (d := d - 1) (by omega) hB hch) md_0 rfl rfl rfl (Nat.le_of_ble_eq_true rfl) (by omega) rfl rfl (fun r n' h' hq => ?_)
      obtain ⟨e1, x, B1, rfl, g1, g2, g3⟩ := hq
      have e1 := e1.symm
      subst e1
      have hin : 0 ≤ r0 ∧ r0 < (RL.length : Int) := by omega
      rcases g3 with ⟨g4, rfl⟩ | ⟨L, D, g4, rfl, g5, g6⟩
      · skip
        refine zj_if_ne (t := 24) dk_167_18 rfl (by omega) (fun c18 => ?_) (fun c18 => ?_)
        · omega
        · skip
          refine zj_bipush dk_167_21 (by decide) ?_
          refine zj_ireturn dk_167_23 rfl ⟨rfl, Or.inr ⟨hin, x, B1, g1.wk (by decide), g2, rfl, Or.inl ⟨g4, rfl⟩⟩⟩
      · skip
        refine zj_if_ne (t := 24) dk_167_18 rfl (by omega) (fun c18 => ?_) (fun c18 => ?_)
        · skip
          refine zi_aload_n dk_167_24 rfl rfl ?_
          refine zj_iload_n dk_167_25 rfl ?_
          obtain ⟨h8, p, f, len, p0, p1, p2, p3, p4, p5, p6⟩ := P.get hin
          refine zi_invV dk_167_26 ml_13_261 iv_163 (ct_163 (d := d - 1) (V := va_up V 35 x) (B := B1) (by omega) ⟨hin.1, h8⟩ p4 (fun j j1 j2 => by rw [g1 30 (by decide)]; exact p5 j j1 j2) g5 g6 (by rw [g1 31 (by decide)]; exact p3) p2) md_0 rfl rfl rfl (Nat.le_of_ble_eq_true rfl) (by omega) rfl rfl (fun r n' h' hq => ?_)
          obtain ⟨e1, B2, g7, rfl, rfl⟩ := hq
          have e1 := e1.symm
          subst e1
          have hbf := bz_rg (sp_fits (sp_pcs f len) L)
          refine zj_if_eq (t := 36) dk_167_29 rfl (by omega) (fun c29 => ?_) (fun c29 => ?_)
          · skip
            refine zj_iconst dk_167_36 ?_
            refine zj_ireturn dk_167_37 rfl ⟨rfl, Or.inr ⟨hin, x, B2, ((g1.wk (by decide)).tr g7 (by decide)), by rw [g7 22 (by decide)]; exact g2, rfl, Or.inr ⟨L, p, g4, p0, by rw [p1]; congr 2; omega⟩⟩⟩
          · skip
            refine zj_iconst dk_167_32 ?_
            refine zi_goto (t := 37) dk_167_33 rfl ?_
            refine zj_ireturn dk_167_37 rfl ⟨rfl, Or.inr ⟨hin, x, B2, ((g1.wk (by decide)).tr g7 (by decide)), by rw [g7 22 (by decide)]; exact g2, rfl, Or.inr ⟨L, p, g4, p0, by rw [p1]; congr 2; omega⟩⟩⟩
        · omega
    · skip
      refine zj_iconst dk_167_12 ?_
      refine zj_ireturn dk_167_13 rfl ⟨rfl, Or.inl ⟨by omega, rfl, rfl⟩⟩

theorem lp_156 {X : zz_X} {d n m : Nat} (hd : 2 ≤ d) {V : Nat → Int} {B0 : Nat → Int → Int} {h0 : zz_H} {RL : List (Nat × rd)} (P : RP RL (V 24) (B0 30) (B0 31) (B0 32) (B0 33)) (hRL : V 40 = (RL.length : Int)) {D L : List (List Int)} (hD : pr_D B0 D) (hL : sg_P B0 D (V 35) L) {me sid sec ser tok : Int} (hme : 0 ≤ me ∧ me < 4) {x6 x7 : Option Value} {Q : Option Value → Nat → zz_H → Prop} : ∀ (t k : Nat) (B : Nat → Int → Int), k + t = RL.length → ax [26, 27, 28, 29] B0 B → (∀ (k' : Nat) (B' : Nat → Int → Int), ax [26, 27, 28, 29] B0 B' → ((fr_of L me (RL.drop k) (k : Int) = -1 ∧ k' = RL.length) ∨ (fr_of L me (RL.drop k) (k : Int) = (k' : Int) ∧ k' < RL.length)) → zz_Z X mm_156 d Q 0 0 115 [some (.ref m), some (zv me), some (zv sid), some (zv sec), some (zv ser), some (zv tok), x6, x7, some (zv (k' : Int))] [] n (md_H m V B' h0)) →
    zz_Z X mm_156 d Q 0 0 77 [some (.ref m), some (zv me), some (zv sid), some (zv sec), some (zv ser), some (zv tok), x6, x7, some (zv (k : Int))] [] n (md_H m V B h0) := by
  have hP8 := P.2
  intro t
  induction t with
  | zero =>
    intro k B hk hax hQ
    refine zj_iload dk_156_77 rfl ?_
    refine zi_aload_n dk_156_79 rfl rfl ?_
    refine zi_getf dk_156_80 fl_13_171 md_0 rfl ?_
    refine zj_icmp_ge (t := 115) dk_156_83 rfl (by omega) (fun c83 => ?_) (fun c83 => ?_)
    · skip
      exact hQ k B hax (Or.inl ⟨by rw [List.drop_eq_nil_iff.mpr (by omega)]; rfl, by omega⟩)
    · omega
  | succ t ih =>
    intro k B hk hax hQ
    have hkl : k < RL.length := by omega
    obtain ⟨h8, p, f, len, p0, p1, p2, p3, p4, p5, p6, p7, p8, p9⟩ := P.get (r := (k : Int)) (by omega)
    rw [Int.toNat_natCast, List.getElem?_eq_getElem hkl] at p0
    injection p0 with p0
    have e33 : B 33 (k : Int) = p.2.2.2 := by rw [hax 33 (by decide), p7]
    have h01 := zb_m01 (m := B 33 (k : Int)) (r := me) (by rw [hax 33 (by decide)]; exact p9) hme
    rw [List.drop_eq_getElem_cons hkl, p0] at hQ
    unfold fr_of at hQ
    refine zj_iload dk_156_77 rfl ?_
    refine zi_aload_n dk_156_79 rfl rfl ?_
    refine zi_getf dk_156_80 fl_13_171 md_0 rfl ?_
    refine zj_icmp_ge (t := 115) dk_156_83 rfl (by omega) (fun c83 => ?_) (fun c83 => ?_)
    · omega
    · skip
      refine zi_aload_n dk_156_86 rfl rfl ?_
      refine zi_getf dk_156_87 fl_13_107 md_0 rfl ?_
      refine zj_iload dk_156_90 rfl ?_
      refine md_iald (k := 33) (N := 8) dk_156_92 (by decide) rfl rfl (by omega) ?_
      refine zj_iload_n dk_156_93 rfl ?_
      refine zj_ishr dk_156_94 ?_
      refine zj_iconst dk_156_95 ?_
      refine zj_iand dk_156_96 ?_
      refine zj_if_eq (t := 109) dk_156_97 rfl (by omega) (fun c97 => ?_) (fun c97 => ?_)
      · skip
        refine zj_iinc dk_156_109 rfl rfl ?_
        refine zi_goto (t := 77) dk_156_112 rfl ?_
        first
          | (refine ih (k + 1) B2 (by omega) (hax.tr g7 (by decide)) (fun k' B' a1 a2 => hQ k' B' a1 ?_)
             rw [if_neg (fun hh => by rw [p1, bz_eq0.mp c106] at hh; exact absurd hh.2 (by decide))]
             exact a2)
          | (refine ih (k + 1) B (by omega) hax (fun k' B' a1 a2 => hQ k' B' a1 ?_)
             rw [if_neg (fun hh => by rw [← e33] at hh; exact zb_bit_f (by omega) hh.1)]
             exact a2)
      · skip
        refine zi_aload_n dk_156_100 rfl rfl ?_
        refine zj_iload dk_156_101 rfl ?_
        refine zi_invV dk_156_103 ml_13_261 iv_163 (ct_163 (d := d - 1) (V := V) (B := B) (by omega) ⟨by omega, h8⟩ p4 (fun j j1 j2 => by rw [hax 30 (by decide)]; exact p5 j j1 j2) (show pr_D B D by unfold pr_D; rw [hax 22 (by decide), hax 23 (by decide), hax 24 (by decide)]; exact hD) (show sg_P B D (V 35) L by unfold sg_P; rw [hax 25 (by decide)]; exact hL) (by rw [hax 31 (by decide)]; exact p3) p2) md_0 rfl rfl rfl (Nat.le_of_ble_eq_true rfl) (by omega) rfl rfl (fun r n' h' hq => ?_)
        obtain ⟨e1, B2, g7, rfl, rfl⟩ := hq
        have e1 := e1.symm
        subst e1
        have hbf := bz_rg (sp_fits (sp_pcs f len) L)
        refine zj_if_ne (t := 115) dk_156_106 rfl (by omega) (fun c106 => ?_) (fun c106 => ?_)
        · skip
          refine hQ k B2 (hax.tr g7 (by decide)) (Or.inr ⟨?_, hkl⟩)
          rw [if_pos ⟨by rw [← e33]; exact zb_bit_t (by omega), by rw [p1]; exact bz_ne0.mp c106⟩]
        · skip
          refine zj_iinc dk_156_109 rfl rfl ?_
          refine zi_goto (t := 77) dk_156_112 rfl ?_
          first
            | (refine ih (k + 1) B2 (by omega) (hax.tr g7 (by decide)) (fun k' B' a1 a2 => hQ k' B' a1 ?_)
               rw [if_neg (fun hh => by rw [p1, bz_eq0.mp c106] at hh; exact absurd hh.2 (by decide))]
               exact a2)
            | (refine ih (k + 1) B (by omega) hax (fun k' B' a1 a2 => hQ k' B' a1 ?_)
               rw [if_neg (fun hh => by rw [← e33] at hh; exact zb_bit_f (by omega) hh.1)]
               exact a2)

theorem ex_156 {X : zz_X} {d n m : Nat} (hd : 3 ≤ d) {V : Nat → Int} {B : Nat → Int → Int} {h0 : zz_H} {RL : List (Nat × rd)} (P : RP RL (V 24) (B 30) (B 31) (B 32) (B 33)) (hRL : V 40 = (RL.length : Int)) {D L : List (List Int)} (hD : pr_D B D) (hL : sg_P B D (V 35) L) {me sid sec ser tok s : Int} (hme : 0 ≤ me ∧ me < 4) (hsec : -2147483648 ≤ sec ∧ sec < 2147483648) (hs : -1 ≤ s ∧ s < 12) (h10 : 0 ≤ s → 0 ≤ B 10 s ∧ B 10 s ≤ 1000000) (h54 : -1 ≤ V 54 ∧ V 54 ≤ 5) (h55 : V 55 = 0 ∨ V 55 = 1) (hw : ex_W (B 17) (B 18) (B 19) (V 24)) (hv : ex_V (B 20)) (hs2 : 0 ≤ V 24 ∧ V 24 ≤ 16) {x6 x8 : Option Value} :
    zz_Z X mm_156 d (fun r n' h' => n' = n ∧ ∃ r' V' B', dec_M V B RL L me sec s V' r' ∧ r = some (zv r') ∧ ax [20, 26, 27, 28, 29] B B' ∧ ex_V (B' 20) ∧ h' = md_H m V' B' h0) 0 0 49 [some (.ref m), some (zv me), some (zv sid), some (zv sec), some (zv ser), some (zv tok), x6, some (zv s), x8] [] n (md_H m V B h0) := by
  have hP8 := P.2
  have hL2 := hL.2.1
  have key : ¬ (2 ≤ me ∧ (s < 0 ∨ B 10 s ≠ sec)) → ∀ x8, zz_Z X mm_156 d (fun r n' h' => n' = n ∧ ∃ r' V' B', dec_M V B RL L me sec s V' r' ∧ r = some (zv r') ∧ ax [20, 26, 27, 28, 29] B B' ∧ ex_V (B' 20) ∧ h' = md_H m V' B' h0) 0 0 74 [some (.ref m), some (zv me), some (zv sid), some (zv sec), some (zv ser), some (zv tok), x6, some (zv s), x8] [] n (md_H m V B h0) := by
    intro hno x8
    refine zj_iconst dk_156_74 ?_
    refine zj_istore dk_156_75 rfl ?_
    refine lp_156 (by omega) P hRL hD hL hme RL.length 0 B (by omega) ax.rf (fun k' B' a1 a2 => ?_)
    rw [List.drop_zero] at a2
    have a2 : (fr_of L me RL 0 = -1 ∧ k' = RL.length) ∨ (fr_of L me RL 0 = (k' : Int) ∧ k' < RL.length) := a2
    refine zj_iload dk_156_115 rfl ?_
    refine zi_aload_n dk_156_117 rfl rfl ?_
    refine zi_getf dk_156_118 fl_13_171 md_0 rfl ?_
    refine zj_icmp_ne (t := 128) dk_156_121 rfl (by omega) (fun c121 => ?_) (fun c121 => ?_)
    · skip
      have f1 : fr_of L me RL 0 = (k' : Int) := by omega
      have f2 : k' < RL.length := by omega
      obtain ⟨h8, p, f, len, p0, p1, p2, p3, p4, p5, p6, p7, p8, p9⟩ := P.get (r := (k' : Int)) (by omega)
      have e32 : B' 32 (k' : Int) = p.2.2.1 := by rw [a1 32 (by decide), p6]
      have ehd : hd_m B' (V 54) = hd_m B (V 54) := by unfold hd_m; rw [a1 1 (by decide), a1 2 (by decide)]
      refine zi_aload_n dk_156_128 rfl rfl ?_
      refine zi_aload_n dk_156_129 rfl rfl ?_
      refine zi_getf dk_156_130 fl_13_104 md_0 rfl ?_
      refine zj_iload dk_156_133 rfl ?_
      refine md_iald (k := 32) (N := 8) dk_156_135 (by decide) rfl rfl (by omega) ?_
      refine zi_aload_n dk_156_136 rfl rfl ?_
      refine zi_getf dk_156_137 fl_13_240 md_0 rfl ?_
      refine zi_aload_n dk_156_140 rfl rfl ?_
      refine zi_getf dk_156_141 fl_13_243 md_0 rfl ?_
      refine zi_aload_n dk_156_144 rfl rfl ?_
      refine zi_getf dk_156_145 fl_13_143 md_0 rfl ?_
      rw [e32, hL.1]
      refine zi_invV dk_156_148 ml_13_231 iv_153 (ct_153 (d := d - 1) (V := V) (B := B') (by omega) (sz := V 24) (by omega) (by rw [a1 17 (by decide), a1 18 (by decide), a1 19 (by decide)]; exact hw) (by rw [a1 20 (by decide)]; exact hv) (by rw [p6]; exact p8) h54 h55 (by omega)) md_0 rfl rfl rfl (Nat.le_of_ble_eq_true rfl) (by omega) rfl rfl (fun r n' h' hq => ?_)
      obtain ⟨e1, rfl, v1, B2, g1, g2, rfl⟩ := hq
      have e1 := e1.symm
      subst e1
      rw [a1 17 (by decide), a1 18 (by decide), a1 19 (by decide), ehd] at v1 ⊢
      have hax2 : ax [20, 26, 27, 28, 29] B B2 := (a1.wk (by decide)).tr g1 (by decide)
      refine zj_iconst dk_156_151 ?_
      refine zj_icmp_eq (t := 172) dk_156_152 rfl (by omega) (fun c152 => ?_) (fun c152 => ?_)
      · skip
        refine zi_aload_n dk_156_172 rfl rfl ?_
        refine zj_iconst dk_156_173 ?_
        refine md_putZ dk_156_174 fp_156_252 (by omega) md_s51 ?_
        refine zi_aload_n dk_156_177 rfl rfl ?_
        refine zi_aload_n dk_156_178 rfl rfl ?_
        refine zi_getf dk_156_179 fl_13_240 md_0 rfl ?_
        refine md_putI dk_156_182 fp_156_125 md_s52 ?_
        refine zi_aload_n dk_156_185 rfl rfl ?_
        refine zi_aload_n dk_156_186 rfl rfl ?_
        refine zi_getf dk_156_187 fl_13_243 md_0 rfl ?_
        refine md_putZ dk_156_190 fp_156_227 h55 md_s53 ?_
        refine zi_aload_n dk_156_193 rfl rfl ?_
        refine zi_dup dk_156_194 rfl ?_
        refine zi_getf dk_156_195 fl_13_264 md_0 rfl ?_
        refine zj_iconst dk_156_198 ?_
        refine zj_iadd dk_156_199 ?_
        refine md_putI dk_156_200 fp_156_264 md_s2 ?_
        refine zj_sipush dk_156_203 (by decide) ?_
        refine zj_iload dk_156_206 rfl ?_
        refine zj_iadd dk_156_208 ?_
        refine zj_ireturn dk_156_209 rfl ⟨rfl, _, _, B2, Or.inr ⟨hno, Or.inr ⟨p, by omega, by rw [f1]; exact p0, Or.inl ⟨c152, rfl, rfl⟩⟩⟩, by rw [f1], hax2, g2, rfl⟩
      · skip
        refine zi_aload_n dk_156_155 rfl rfl ?_
        refine zi_getf dk_156_156 fl_13_240 md_0 rfl ?_
        refine zj_if_ge (t := 168) dk_156_159 rfl (by omega) (fun c159 => ?_) (fun c159 => ?_)
        · skip
          refine zj_sipush dk_156_168 (by decide) ?_
          refine zj_ireturn dk_156_171 rfl ⟨rfl, _, _, B2, Or.inr ⟨hno, Or.inr ⟨p, by omega, by rw [f1]; exact p0, Or.inr ⟨c152, rfl, rfl⟩⟩⟩, by first | rw [if_pos (show V 54 < 0 by omega)] | rw [if_neg (show ¬ V 54 < 0 by omega)], hax2, g2, rfl⟩
        · skip
          refine zj_sipush dk_156_162 (by decide) ?_
          refine zi_goto (t := 171) dk_156_165 rfl ?_
          refine zj_ireturn dk_156_171 rfl ⟨rfl, _, _, B2, Or.inr ⟨hno, Or.inr ⟨p, by omega, by rw [f1]; exact p0, Or.inr ⟨c152, rfl, rfl⟩⟩⟩, by first | rw [if_pos (show V 54 < 0 by omega)] | rw [if_neg (show ¬ V 54 < 0 by omega)], hax2, g2, rfl⟩
    · skip
      refine zj_sipush dk_156_124 (by decide) ?_
      refine zj_ireturn dk_156_127 rfl ⟨rfl, 403, V, B', Or.inr ⟨hno, Or.inl ⟨by omega, rfl, rfl⟩⟩, rfl, a1.wk (by decide), by rw [a1 20 (by decide)]; exact hv, rfl⟩
  refine zj_iload_n dk_156_49 rfl ?_
  refine zj_iconst dk_156_50 ?_
  refine zj_icmp_lt (t := 74) dk_156_51 rfl (by omega) (fun c51 => ?_) (fun c51 => ?_)
  · skip
    exact key (by omega) _
  · skip
    refine zj_iload dk_156_54 rfl ?_
    refine zj_if_lt (t := 70) dk_156_56 rfl (by omega) (fun c56 => ?_) (fun c56 => ?_)
    · skip
      refine zj_sipush dk_156_70 (by decide) ?_
      refine zj_ireturn dk_156_73 rfl ⟨rfl, 419, V, B, Or.inl ⟨by omega, rfl, rfl⟩, rfl, ax.rf, hv, rfl⟩
    · skip
      refine zi_aload_n dk_156_59 rfl rfl ?_
      refine zi_getf dk_156_60 fl_13_38 md_0 rfl ?_
      refine zj_iload dk_156_63 rfl ?_
      refine md_iald (k := 10) (N := 12) dk_156_65 (by decide) rfl rfl (by omega) ?_
      refine zj_iload_n dk_156_66 rfl ?_
      have h10s := h10 (by omega)
      refine zj_icmp_eq (t := 74) dk_156_67 rfl (by omega) (fun c67 => ?_) (fun c67 => ?_)
      · skip
        exact key (by omega) _
      · skip
        refine zj_sipush dk_156_70 (by decide) ?_
        refine zj_ireturn dk_156_73 rfl ⟨rfl, 419, V, B, Or.inl ⟨by omega, rfl, rfl⟩, rfl, ax.rf, hv, rfl⟩

theorem ct_156 {X : zz_X} {d n : Nat}  (hd : 4 ≤ d) {m : Nat} {V : Nat → Int} {B : Nat → Int → Int} {h0 : zz_H} {RL : List (Nat × rd)} (P : RP RL (V 24) (B 30) (B 31) (B 32) (B 33)) (hRL : V 40 = (RL.length : Int)) (hB : md_B V B) (hch : ch_ok (B 22)) (R : md_R V B) (hw : ex_W (B 17) (B 18) (B 19) (V 24)) (hv : ex_V (B 20)) (hs2 : 0 ≤ V 24 ∧ V 24 ≤ 16) (h3 : 0 ≤ V 0 ∧ V 0 ≤ 700000) (hop : V 51 = 0 ∨ V 51 = 1) {me sid sec ser tok : Int} (hme : -2147483648 ≤ me ∧ me < 2147483648) (hsid : -2147483648 ≤ sid ∧ sid < 2147483648) (hsec : -2147483648 ≤ sec ∧ sec < 2147483648) (hser : -2147483648 ≤ ser ∧ ser < 2147483648) (htok : -2147483648 ≤ tok ∧ tok < 2147483648) : zz_Ct X mm_156 d 0 0 [.ref m, zv me, zv sid, zv sec, zv ser, zv tok] n (md_H m V B h0) (fun r n' h' => n' = n ∧ ((¬ ((0 ≤ me ∧ me < 4) ∧ V 51 = 0) ∧ r = some (zv (-1)) ∧ h' = md_H m V B h0) ∨ (((0 ≤ me ∧ me < 4) ∧ V 51 = 0) ∧ ∃ x BR, ax [22, 23, 24, 25] B BR ∧ ch_ok (BR 22) ∧ ((sp_read (B 21) (V 29) = none ∧ r = some (zv 400) ∧ h' = md_H m (va_up (va_up V 35 x) 29 0) BR h0) ∨ ∃ L s V1 B1 r' V' B', sp_read (B 21) (V 29) = some L ∧ ask_M (va_up (va_up V 35 x) 29 0) BR sid ser tok s V1 B1 ∧ dec_M V1 B1 RL L me sec s V' r' ∧ r = some (zv r') ∧ ax [20, 26, 27, 28, 29] B1 B' ∧ ex_V (B' 20) ∧ h' = md_H m V' B' h0)))) := by
  refine zz_start (by decide) (ls := [some (.ref m), some (zv me), some (zv sid), some (zv sec), some (zv ser), some (zv tok), none, none, none]) rfl ?_
  refine zj_iload_n dk_156_0 rfl ?_
  refine zj_if_lt (t := 16) dk_156_1 rfl (by omega) (fun c1 => ?_) (fun c1 => ?_)
  · skip
    refine zj_iconst dk_156_16 ?_
    refine zj_ireturn dk_156_17 rfl ⟨rfl, Or.inl ⟨by omega, rfl, rfl⟩⟩
  · skip
    refine zj_iload_n dk_156_4 rfl ?_
    refine zj_iconst dk_156_5 ?_
    refine zj_icmp_gt (t := 16) dk_156_6 rfl (by omega) (fun c6 => ?_) (fun c6 => ?_)
    · skip
      refine zj_iconst dk_156_16 ?_
      refine zj_ireturn dk_156_17 rfl ⟨rfl, Or.inl ⟨by omega, rfl, rfl⟩⟩
    · skip
      refine zi_aload_n dk_156_9 rfl rfl ?_
      refine zi_getf dk_156_10 fl_13_252 md_0 rfl ?_
      refine zj_if_eq (t := 18) dk_156_13 rfl (by omega) (fun c13 => ?_) (fun c13 => ?_)
      · skip
        refine zi_aload_n dk_156_18 rfl rfl ?_
        refine zi_invV dk_156_19 ml_13_255 iv_157 (ct_157 (d := d - 1) (by omega) hB hch) md_0 rfl rfl rfl (Nat.le_of_ble_eq_true rfl) (by omega) rfl rfl (fun r n' h' hq => ?_)
        obtain ⟨e1, x, B1, rfl, g1, g2, g3⟩ := hq
        have e1 := e1.symm
        subst e1
        have hin : (0 ≤ me ∧ me < 4) ∧ V 51 = 0 := by omega
        rcases g3 with ⟨g4, rfl⟩ | ⟨L, D, g4, rfl, g5, g6⟩
        · skip
          refine zj_istore dk_156_22 rfl ?_
          refine zi_aload_n dk_156_24 rfl rfl ?_
          refine zj_iconst dk_156_25 ?_
          refine md_putI dk_156_26 fp_156_129 md_s29 ?_
          refine zj_iload dk_156_29 rfl ?_
          refine zj_if_ne (t := 38) dk_156_31 rfl (by omega) (fun c31 => ?_) (fun c31 => ?_)
          · omega
          · skip
            refine zj_sipush dk_156_34 (by decide) ?_
            refine zj_ireturn dk_156_37 rfl ⟨rfl, Or.inr ⟨hin, x, B1, g1, g2, Or.inl ⟨g4, rfl, rfl⟩⟩⟩
        · skip
          refine zj_istore dk_156_22 rfl ?_
          refine zi_aload_n dk_156_24 rfl rfl ?_
          refine zj_iconst dk_156_25 ?_
          refine md_putI dk_156_26 fp_156_129 md_s29 ?_
          refine zj_iload dk_156_29 rfl ?_
          refine zj_if_ne (t := 38) dk_156_31 rfl (by omega) (fun c31 => ?_) (fun c31 => ?_)
          · skip
            refine zi_aload_n dk_156_38 rfl rfl ?_
            refine zj_iload_n dk_156_39 rfl ?_
            refine zj_iload dk_156_40 rfl ?_
            refine zj_iload dk_156_42 rfl ?_
            have R1 : md_R (va_up (va_up V 35 x) 29 0) B1 := R.cg rfl (g1.wk (by decide))
            refine zi_invV dk_156_44 ml_13_258 iv_161 (ct_161 (d := d - 1) (V := (va_up (va_up V 35 x) 29 0)) (B := B1) (by omega) R1 hsid hser htok h3) md_0 rfl rfl rfl (Nat.le_of_ble_eq_true rfl) (by omega) rfl rfl (fun r n' h' hq => ?_)
            obtain ⟨e1, hk⟩ := hq
            have e1 := e1.symm
            subst e1
            have hk2 : ∃ s V2 B2, r = some (zv s) ∧ ask_M (va_up (va_up V 35 x) 29 0) B1 sid ser tok s V2 B2 ∧ h' = md_H m V2 B2 h0 := by
              rcases hk with ⟨k1, k2, k3⟩ | ⟨k1, k2, k3, k4⟩ | ⟨k1, k2, k3, k4, k5⟩ | ⟨k1, k2, k3, k4, k5⟩
              · exact ⟨_, _, _, k2, Or.inl ⟨k1, rfl, rfl, rfl⟩, k3⟩
              · exact ⟨_, _, _, k3, Or.inr (Or.inl ⟨k1, k2, rfl, rfl, rfl⟩), k4⟩
              · exact ⟨_, _, _, k4, Or.inr (Or.inr (Or.inl ⟨k1, k2, k3, rfl, rfl, rfl⟩)), k5⟩
              · exact ⟨_, _, _, k4, Or.inr (Or.inr (Or.inr ⟨k1, k2, k3, rfl, rfl, rfl⟩)), k5⟩
            clear hk
            obtain ⟨s, V2, B2, rfl, hk, rfl⟩ := hk2
            have hF := ask_F R1 hk
            refine zj_istore dk_156_47 rfl ?_
            obtain ⟨f1, f2, f3, f4, ⟨f5, f6, f7, f8⟩, f9⟩ := hF
            have f5 : V2 24 = V 24 := f5
            have f6 : V2 35 = x := f6
            have f7 : V2 40 = V 40 := f7
            refine (ex_156 (by omega) (V := V2) (B := B2) (RL := RL) (by rw [f5, f9 30 (by decide), f9 31 (by decide), f9 32 (by decide), f9 33 (by decide), g1 30 (by decide), g1 31 (by decide), g1 32 (by decide), g1 33 (by decide)]; exact P) (f7.trans hRL) (show pr_D B2 D by unfold pr_D; rw [f9 22 (by decide), f9 23 (by decide), f9 24 (by decide)]; exact g5) (show sg_P B2 D (V2 35) L by unfold sg_P; rw [f6, f9 25 (by decide)]; exact g6) hin.1 hsec f1 f2 f3 f4 (by rw [f5, f9 17 (by decide), f9 18 (by decide), f9 19 (by decide), g1 17 (by decide), g1 18 (by decide), g1 19 (by decide)]; exact hw) (by rw [f9 20 (by decide), g1 20 (by decide)]; exact hv) (by rw [f5]; exact hs2)).post (fun r n' h' hq => ?_)
            obtain ⟨q1, r', V', B', q2, q3, q4, q5, q6⟩ := hq
            exact ⟨q1, Or.inr ⟨hin, x, B1, g1, g2, Or.inr ⟨L, s, V2, B2, r', V', B', g4, hk, q2, q3, q4, q5, q6⟩⟩⟩
          · omega
      · skip
        refine zj_iconst dk_156_16 ?_
        refine zj_ireturn dk_156_17 rfl ⟨rfl, Or.inl ⟨by omega, rfl, rfl⟩⟩

