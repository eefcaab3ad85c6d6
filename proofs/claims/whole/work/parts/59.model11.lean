/-! the model: pieces laid on segments, rules laid on paths -/
theorem lp_164 {X : zz_X} {d n m N : Nat} {V : Nat → Int} {B0 : Nat → Int → Int} {h0 : zz_H} (hch : ch_ok (B0 22)) {p q s : Int} (hp : 0 ≤ p ∧ q ≤ 320) (hs : 0 ≤ s ∧ s < 41) (hN : 0 ≤ B0 23 s ∧ B0 23 s + N ≤ 40) (hc : ∀ j, p ≤ j → j < q → 0 ≤ B0 30 j ∧ B0 30 j < 65536) : ∀ (t i : Nat) (k : Int) (B : Nat → Int → Int) (x6 x7 x8 : Option Value), k = p + i → k + t = q → ax [28, 29] B0 B → (∀ x : Nat, x ≤ N → B 28 x = bz (sp_cv (fun x : Nat => B0 30 (p + (x : Int))) (fun x : Nat => B0 22 (B0 23 s + (x : Int))) i x)) →
    zz_Z X mm_164 d (fun r n' h' => n' = n ∧ ∃ B', ax [28, 29] B0 B' ∧ r = some (zv (bz (sp_cv (fun x : Nat => B0 30 (p + (x : Int))) (fun x : Nat => B0 22 (B0 23 s + (x : Int))) (q - p).toNat N))) ∧ h' = md_H m V B' h0) 0 0 51 [some (.ref m), some (zv p), some (zv q), some (zv s), some (zv (N : Int)), some (zv k), x6, x7, x8] [] n (md_H m V B h0) := by
  intro t
  induction t with
  | zero =>
    intro i k B x6 x7 x8 hk ht hax h1
    have hb := bz_rg (sp_cv (fun x : Nat => B0 30 (p + (x : Int))) (fun x : Nat => B0 22 (B0 23 s + (x : Int))) i N)
    rw [← h1 N (Nat.le_refl _)] at hb
    refine zj_iload dk_164_51 rfl ?_
    refine zj_iload_n dk_164_53 rfl ?_
    refine zj_icmp_ge (t := 222) dk_164_54 rfl (by omega) (fun c54 => ?_) (fun c54 => ?_)
    · skip
      refine zi_aload_n dk_164_222 rfl rfl ?_
      refine zi_getf dk_164_223 fl_13_92 md_0 rfl ?_
      refine zj_iload dk_164_226 rfl ?_
      refine md_zald (k := 28) (N := 42) dk_164_228 (by decide) rfl rfl (by omega) ?_
      refine zj_zreturn dk_164_229 rfl (by omega) ⟨rfl, B, hax, by rw [h1 N (Nat.le_refl _), show (q - p).toNat = i by omega], rfl⟩
    · omega
  | succ t ih =>
    intro i k B x6 x7 x8 hk ht hax h1
    refine zj_iload dk_164_51 rfl ?_
    refine zj_iload_n dk_164_53 rfl ?_
    refine zj_icmp_ge (t := 222) dk_164_54 rfl (by omega) (fun c54 => ?_) (fun c54 => ?_)
    · omega
    · skip
      refine zj_iconst dk_164_57 ?_
      refine zj_istore dk_164_58 rfl ?_
      refine zj_iconst dk_164_60 ?_
      refine zj_istore dk_164_61 rfl ?_
      refine lp_164b (R := sp_cv (fun x : Nat => B0 30 (p + (x : Int))) (fun x : Nat => B0 22 (B0 23 s + (x : Int))) i) h1 (by rw [hax 22 (by decide)]; exact hch) (by omega) hs (by rw [hax 23 (by decide)]; exact hN) (by rw [hax 30 (by decide)]; exact hc k (by omega) (by omega)) (N + 1) 0 B 0 _ (by omega) ax.rf (fun x hx => by omega) rfl (fun B' y z w g1 g2 => ?_)
      refine zj_iconst dk_164_186 ?_
      refine zj_istore dk_164_187 rfl ?_
      refine lp_164c (by omega) g2 (N + 1) 0 B' (by omega) ax.rf (fun x hx => by omega) (fun B'' y2 g3 g4 => ?_)
      refine zj_iinc dk_164_216 rfl rfl ?_
      refine zi_goto (t := 51) dk_164_219 rfl ?_
      refine ih (i + 1) (k + 1) B'' _ _ _ (by omega) (by omega) ((hax.tr g1 (by decide)).tr g3 (by decide)) (fun x hx => ?_)
      rw [g4 x hx, hax 30 (by decide), hax 22 (by decide), hax 23 (by decide), hk, sp_cv_row]

theorem ct_164 {X : zz_X} {d n : Nat}  {m : Nat} {V : Nat → Int} {B : Nat → Int → Int} {h0 : zz_H} {p q s : Int} {N : Nat} (hch : ch_ok (B 22)) (hp : 0 ≤ p ∧ p ≤ q ∧ q ≤ 320) (hs : 0 ≤ s ∧ s < 41) (hN : 0 ≤ B 23 s ∧ B 24 s = B 23 s + N ∧ B 24 s ≤ 40) (hc : ∀ j, p ≤ j → j < q → 0 ≤ B 30 j ∧ B 30 j < 65536) : zz_Ct X mm_164 d 0 0 [.ref m, zv p, zv q, zv s] n (md_H m V B h0) (fun r n' h' => n' = n ∧ ∃ B', ax [28, 29] B B' ∧ r = some (zv (bz (sp_cv (fun x : Nat => B 30 (p + (x : Int))) (fun x : Nat => B 22 (B 23 s + (x : Int))) (q - p).toNat N))) ∧ h' = md_H m V B' h0) := by
  refine zz_start (by decide) (ls := [some (.ref m), some (zv p), some (zv q), some (zv s), none, none, none, none, none]) rfl ?_
  refine zi_aload_n dk_164_0 rfl rfl ?_
  refine zi_getf dk_164_1 fl_13_80 md_0 rfl ?_
  refine zj_iload_n dk_164_4 rfl ?_
  refine md_iald (k := 24) (N := 41) dk_164_5 (by decide) rfl rfl (by omega) ?_
  refine zi_aload_n dk_164_6 rfl rfl ?_
  refine zi_getf dk_164_7 fl_13_77 md_0 rfl ?_
  refine zj_iload_n dk_164_10 rfl ?_
  refine md_iald (k := 23) (N := 41) dk_164_11 (by decide) rfl rfl (by omega) ?_
  refine zj_isub dk_164_12 ?_
  refine zj_istore dk_164_13 rfl ?_
  refine zj_iconst dk_164_15 ?_
  refine zj_istore dk_164_16 rfl ?_
  rw [show B 24 s - B 23 s = (N : Int) by omega]
  refine lp_164a (by omega) (N + 1) 0 B (by omega) ax.rf (fun x hx => by omega) (fun B' y g1 g2 => ?_)
  refine zj_iload_n dk_164_48 rfl ?_
  refine zj_istore dk_164_49 rfl ?_
  exact lp_164 hch (by omega) hs (by omega) hc (q - p).toNat 0 p B' _ _ _ (by omega) (by omega) (ax.rf.tr g1 (by decide)) (fun x hx => g2 x hx)

def ly_row (al : Bool) (P R : Nat → Bool) : Nat → Bool := fun n => if al = true then sp_any R n else sh_row P R n
theorem sp_ly_row (P S : List (List Int)) (p : Nat) : sp_ly P S (p + 1) = ly_row (decide (P.getD p [] = [42, 42])) (fun n => sp_cov (P.getD p []) (S.getD n [])) (sp_ly P S p) := by
  funext n
  unfold ly_row
  by_cases h : P.getD p [] = [42, 42]
  · rw [if_pos (decide_eq_true h)]
    conv => lhs; unfold sp_ly
    rw [if_pos h]
  · rw [if_neg (by simpa using h)]
    conv => lhs; unfold sp_ly
    rw [if_neg h]
    cases n <;> rfl
theorem ptl_pos {f : Int → Int} {len i : Int} {k : Nat} (h : sp_ptl f len (k + 1) i = true) (hi : i ≤ len) : i < sp_nx f len i ∧ sp_nx f len i ≤ len ∧ (sp_nx f len i ≠ len → sp_ptl f len k (sp_nx f len i + 1) = true) := by
  have hg := sp_find_ge f 47 (len - i).toNat i
  unfold sp_ptl at h
  split at h
  · rename_i h1
    refine ⟨?_, by unfold sp_nx; omega, fun hne => ?_⟩
    · unfold sp_isp at h1
      split at h1
      · omega
      · rw [Bool.and_eq_true] at h1
        exact of_decide_eq_true h1.2
    · rw [if_neg hne] at h
      exact h
  · exact absurd h (by decide)
theorem cov_eq {f b22 b30 : Int → Int} {p i a : Int} {c N : Nat} {w : List Int} (h1 : ∀ x : Nat, x < c → b30 (p + x) = f (i + x)) (h2 : zS b22 N a = w) : sp_cv (fun x : Nat => b30 (p + (x : Int))) (fun x : Nat => b22 (a + (x : Int))) c N = sp_cov (zS f c i) w := by
  unfold sp_cov
  have hl : w.length = N := by rw [← h2, zS_len]
  rw [zS_len, hl]
  refine sp_cv_congr (fun j hj => ?_) (fun j hj => ?_)
  · rw [zS_get f c i j hj, h1 j hj]
  · rw [← h2, zS_get b22 N a j hj]
theorem zS_two {f : Int → Int} {c : Nat} {i : Int} : zS f c i = [42, 42] ↔ c = 2 ∧ f i = 42 ∧ f (i + 1) = 42 := by
  constructor
  · intro h
    have hl : c = 2 := by have := zS_len f c i; rw [h] at this; simpa using this.symm
    subst hl
    simp [zS] at h
    exact ⟨rfl, h⟩
  · rintro ⟨rfl, h1, h2⟩
    simp [zS, h1, h2]
theorem lp_163a {X : zz_X} {d n m N : Nat} {V : Nat → Int} {B0 : Nat → Int → Int} {h0 : zz_H} (hN : N ≤ 41 ∧ V 35 = (N : Int)) {r e : Int} {Q : Option Value → Nat → zz_H → Prop} : ∀ (t j : Nat) (B : Nat → Int → Int), j + t = N + 1 → ax [26] B0 B → (∀ x : Nat, x < j → B 26 x = bz (x == 0)) → (∀ B' y, ax [26] B0 B' → (∀ x : Nat, x ≤ N → B' 26 x = bz (x == 0)) → zz_Z X mm_163 d Q 0 0 43 [some (.ref m), some (zv r), some (zv e), some (zv y), none, none, none, none] [] n (md_H m V B' h0)) →
    zz_Z X mm_163 d Q 0 0 14 [some (.ref m), some (zv r), some (zv e), some (zv (j : Int)), none, none, none, none] [] n (md_H m V B h0) := by
  intro t
  induction t with
  | zero =>
    intro j B hj hax h1 hQ
    refine zj_iload_n dk_163_14 rfl ?_
    refine zi_aload_n dk_163_15 rfl rfl ?_
    refine zi_getf dk_163_16 fl_13_143 md_0 rfl ?_
    refine zj_icmp_gt (t := 43) dk_163_19 rfl (by omega) (fun c19 => ?_) (fun c19 => ?_)
    · skip
      exact hQ B _ hax (fun x hx => h1 x (by omega))
    · omega
  | succ t ih =>
    intro j B hj hax h1 hQ
    refine zj_iload_n dk_163_14 rfl ?_
    refine zi_aload_n dk_163_15 rfl rfl ?_
    refine zi_getf dk_163_16 fl_13_143 md_0 rfl ?_
    refine zj_icmp_gt (t := 43) dk_163_19 rfl (by omega) (fun c19 => ?_) (fun c19 => ?_)
    · omega
    · skip
      refine zi_aload_n dk_163_22 rfl rfl ?_
      refine zi_getf dk_163_23 fl_13_86 md_0 rfl ?_
      refine zj_iload_n dk_163_26 rfl ?_
      refine zj_iload_n dk_163_27 rfl ?_
      refine zj_if_ne (t := 35) dk_163_28 rfl (by omega) (fun c28 => ?_) (fun c28 => ?_)
      · skip
        refine zj_iconst dk_163_35 ?_
        refine md_zast (k := 26) (N := 42) dk_163_36 (by decide) rfl rfl (by omega) (by omega) ?_
        refine zj_iinc dk_163_37 rfl rfl ?_
        refine zi_goto (t := 14) dk_163_40 rfl ?_
        refine ih (j + 1) _ (by omega) (hax.up (by decide)) (fun x hx => ?_) hQ
        show zU (B 26) (j : Int) _ (x : Int) = _
        by_cases hxj : x = j
        · subst hxj
          rw [zU_eq]
          by_cases h0x : x = 0
          · subst h0x; first | rfl | omega
          · rw [show (x == 0) = false from by simp [h0x]]; first | rfl | omega
        · rw [zU_ne (by omega)]
          exact h1 x (by omega)
      · skip
        refine zj_iconst dk_163_31 ?_
        refine zi_goto (t := 36) dk_163_32 rfl ?_
        refine md_zast (k := 26) (N := 42) dk_163_36 (by decide) rfl rfl (by omega) (by omega) ?_
        refine zj_iinc dk_163_37 rfl rfl ?_
        refine zi_goto (t := 14) dk_163_40 rfl ?_
        refine ih (j + 1) _ (by omega) (hax.up (by decide)) (fun x hx => ?_) hQ
        show zU (B 26) (j : Int) _ (x : Int) = _
        by_cases hxj : x = j
        · subst hxj
          rw [zU_eq]
          by_cases h0x : x = 0
          · subst h0x; first | rfl | omega
          · rw [show (x == 0) = false from by simp [h0x]]; first | rfl | omega
        · rw [zU_ne (by omega)]
          exact h1 x (by omega)

theorem lp_163c {X : zz_X} {d n m N : Nat} {V : Nat → Int} {B0 : Nat → Int → Int} {h0 : zz_H} (hN : N ≤ 41 ∧ V 35 = (N : Int)) {R : Nat → Bool} (hR : ∀ x : Nat, x ≤ N → B0 27 x = bz (R x)) {r e p q : Int} {x5 x6 : Option Value} {Q : Option Value → Nat → zz_H → Prop} : ∀ (t j : Nat) (B : Nat → Int → Int), j + t = N + 1 → ax [26] B0 B → (∀ x : Nat, x < j → B 26 x = bz (R x)) → (∀ B' y, ax [26] B0 B' → (∀ x : Nat, x ≤ N → B' 26 x = bz (R x)) → zz_Z X mm_163 d Q 0 0 254 [some (.ref m), some (zv r), some (zv e), some (zv p), some (zv q), x5, x6, some (zv y)] [] n (md_H m V B' h0)) →
    zz_Z X mm_163 d Q 0 0 225 [some (.ref m), some (zv r), some (zv e), some (zv p), some (zv q), x5, x6, some (zv (j : Int))] [] n (md_H m V B h0) := by
  intro t
  induction t with
  | zero =>
    intro j B hj hax h1 hQ
    refine zj_iload dk_163_225 rfl ?_
    refine zi_aload_n dk_163_227 rfl rfl ?_
    refine zi_getf dk_163_228 fl_13_143 md_0 rfl ?_
    refine zj_icmp_gt (t := 254) dk_163_231 rfl (by omega) (fun c231 => ?_) (fun c231 => ?_)
    · skip
      exact hQ B _ hax (fun x hx => h1 x (by omega))
    · omega
  | succ t ih =>
    intro j B hj hax h1 hQ
    have hb : B 27 (j : Int) = bz (R j) := by rw [hax 27 (by decide)]; exact hR j (by omega)
    have hb2 := bz_rg (R j)
    refine zj_iload dk_163_225 rfl ?_
    refine zi_aload_n dk_163_227 rfl rfl ?_
    refine zi_getf dk_163_228 fl_13_143 md_0 rfl ?_
    refine zj_icmp_gt (t := 254) dk_163_231 rfl (by omega) (fun c231 => ?_) (fun c231 => ?_)
    · omega
    · skip
      refine zi_aload_n dk_163_234 rfl rfl ?_
      refine zi_getf dk_163_235 fl_13_86 md_0 rfl ?_
      refine zj_iload dk_163_238 rfl ?_
      refine zi_aload_n dk_163_240 rfl rfl ?_
      refine zi_getf dk_163_241 fl_13_89 md_0 rfl ?_
      refine zj_iload dk_163_244 rfl ?_
      refine md_zald (k := 27) (N := 42) dk_163_246 (by decide) rfl rfl (by omega) ?_
      refine md_zast (k := 26) (N := 42) dk_163_247 (by decide) rfl rfl (by omega) (by omega) ?_
      refine zj_iinc dk_163_248 rfl rfl ?_
      refine zi_goto (t := 225) dk_163_251 rfl ?_
      refine ih (j + 1) _ (by omega) (hax.up (by decide)) (fun x hx => ?_) hQ
      show zU (B 26) (j : Int) _ (x : Int) = _
      by_cases hxj : x = j
      · subst hxj
        rw [zU_eq]; exact hb
      · rw [zU_ne (by omega)]
        exact h1 x (by omega)

theorem lp_163q {X : zz_X} {d n m : Nat} {V : Nat → Int} {B : Nat → Int → Int} {h0 : zz_H} {f : Int → Int} {r len : Int} (hr : 0 ≤ r ∧ r < 8) (hl : 1 ≤ len ∧ len ≤ 40) (ht : ∀ j, 0 ≤ j → j < len → B 30 (40 * r + j) = f j ∧ 33 ≤ f j ∧ f j ≤ 126) {p : Int} {x5 x6 x7 : Option Value} {Q : Option Value → Nat → zz_H → Prop} : ∀ (t : Nat) (i q : Int), q = 40 * r + i → 0 ≤ i → i + t = len → (∀ q', q' = 40 * r + sp_find f 47 t i → zz_Z X mm_163 d Q 0 0 82 [some (.ref m), some (zv r), some (zv (40 * r + len)), some (zv p), some (zv q'), x5, x6, x7] [] n (md_H m V B h0)) →
    zz_Z X mm_163 d Q 0 0 58 [some (.ref m), some (zv r), some (zv (40 * r + len)), some (zv p), some (zv q), x5, x6, x7] [] n (md_H m V B h0) := by
  intro t
  induction t with
  | zero =>
    intro i q hq h1 h2 hQ
    refine zj_iload dk_163_58 rfl ?_
    refine zj_iload_n dk_163_60 rfl ?_
    refine zj_icmp_ge (t := 82) dk_163_61 rfl (by omega) (fun c61 => ?_) (fun c61 => ?_)
    · skip
      exact hQ q (by unfold sp_find; omega)
    · omega
  | succ t ih =>
    intro i q hq h1 h2 hQ
    have hti := ht i h1 (by omega)
    rw [← hq] at hti
    refine zj_iload dk_163_58 rfl ?_
    refine zj_iload_n dk_163_60 rfl ?_
    refine zj_icmp_ge (t := 82) dk_163_61 rfl (by omega) (fun c61 => ?_) (fun c61 => ?_)
    · omega
    · skip
      refine zi_aload_n dk_163_64 rfl rfl ?_
      refine zi_getf dk_163_65 fl_13_98 md_0 rfl ?_
      refine zj_iload dk_163_68 rfl ?_
      refine md_iald (k := 30) (N := 320) dk_163_70 (by decide) rfl rfl (by omega) ?_
      refine zj_bipush dk_163_71 (by decide) ?_
      refine zj_icmp_eq (t := 82) dk_163_73 rfl (by omega) (fun c73 => ?_) (fun c73 => ?_)
      · skip
        exact hQ q (by unfold sp_find; rw [if_pos (by omega)]; omega)
      · skip
        refine zj_iinc dk_163_76 rfl rfl ?_
        refine zi_goto (t := 58) dk_163_79 rfl ?_
        refine ih (i + 1) (q + 1) (by omega) (by omega) (by omega) (fun q' hq' => hQ q' ?_)
        unfold sp_find
        rw [if_neg (by omega)]
        exact hq'

theorem lp_163b {X : zz_X} {d n m N : Nat} (hd : 1 ≤ d) {V : Nat → Int} {B0 : Nat → Int → Int} {h0 : zz_H} (hN : N ≤ 41 ∧ V 35 = (N : Int)) {al : Bool} {Pf R : Nat → Bool} (hR : ∀ x : Nat, x ≤ N → B0 26 x = bz (R x)) (hch : ch_ok (B0 22)) {r e p q : Int} (hp : 0 ≤ p ∧ p ≤ q ∧ q ≤ 320) (hc : ∀ j, p ≤ j → j < q → 0 ≤ B0 30 j ∧ B0 30 j < 65536) (hsg : ∀ x : Nat, x < N → ∃ Nx : Nat, (0 ≤ B0 25 x ∧ B0 25 x < 41) ∧ (0 ≤ B0 23 (B0 25 x) ∧ B0 24 (B0 25 x) = B0 23 (B0 25 x) + Nx ∧ B0 24 (B0 25 x) ≤ 40) ∧ sp_cv (fun y : Nat => B0 30 (p + (y : Int))) (fun y : Nat => B0 22 (B0 23 (B0 25 x) + (y : Int))) (q - p).toNat Nx = Pf x) {Q : Option Value → Nat → zz_H → Prop} : ∀ (t j : Nat) (B : Nat → Int → Int) (any : Int), j + t = N + 1 → ax [27, 28, 29] B0 B → (∀ x : Nat, x < j → B 27 x = bz (ly_row al Pf R x)) → any = bz (any_lt R j) → (∀ B' y z, ax [27, 28, 29] B0 B' → (∀ x : Nat, x ≤ N → B' 27 x = bz (ly_row al Pf R x)) → zz_Z X mm_163 d Q 0 0 222 [some (.ref m), some (zv r), some (zv e), some (zv p), some (zv q), some (zv (bz al)), some (zv y), some (zv z)] [] n (md_H m V B' h0)) →
    zz_Z X mm_163 d Q 0 0 127 [some (.ref m), some (zv r), some (zv e), some (zv p), some (zv q), some (zv (bz al)), some (zv any), some (zv (j : Int))] [] n (md_H m V B h0) := by
  intro t
  induction t with
  | zero =>
    intro j B any hj hax h1 hany hQ
    refine zj_iload dk_163_127 rfl ?_
    refine zi_aload_n dk_163_129 rfl rfl ?_
    refine zi_getf dk_163_130 fl_13_143 md_0 rfl ?_
    refine zj_icmp_gt (t := 222) dk_163_133 rfl (by omega) (fun c133 => ?_) (fun c133 => ?_)
    · skip
      exact hQ B _ _ hax (fun x hx => h1 x (by omega))
    · omega
  | succ t ih =>
    intro j B any hj hax h1 hany hQ
    have hal := bz_rg al
    have hmj : B 26 (j : Int) = bz (R j) := by rw [hax 26 (by decide)]; exact hR j (by omega)
    have hbj := bz_rg (R j)
    have hba := bz_rg (any_lt R j)
    have key : ∀ z (B2 : Nat → Int → Int), z = bz (ly_row al Pf R j) → ax [27, 28, 29] B0 B2 → (∀ x : Nat, x < j → B2 27 x = bz (ly_row al Pf R x)) → zz_Z X mm_163 d Q 0 0 215 [some (.ref m), some (zv r), some (zv e), some (zv p), some (zv q), some (zv (bz al)), some (zv (bz (any_lt R (j + 1)))), some (zv (j : Int))] [zv z, zv (j : Int), .ref (m + 27)] n (md_H m V B2 h0) := by
      intro z B2 hz hax2 h12
      have hzr := bz_rg (ly_row al Pf R j)
      rw [← hz] at hzr
      refine md_zast (k := 27) (N := 42) dk_163_215 (by decide) rfl rfl (by omega) (by omega) ?_
      refine zj_iinc dk_163_216 rfl rfl ?_
      refine zi_goto (t := 127) dk_163_219 rfl ?_
      refine ih (j + 1) _ _ (by omega) (hax2.up (by decide)) (fun x hx => ?_) rfl hQ
      show zU (B2 27) (j : Int) _ (x : Int) = _
      by_cases hxj : x = j
      · subst hxj
        rw [zU_eq]; exact hz
      · rw [zU_ne (by omega)]
        exact h12 x (by omega)
    have key1 : ∀ an, an = bz (any_lt R (j + 1)) → zz_Z X mm_163 d Q 0 0 158 [some (.ref m), some (zv r), some (zv e), some (zv p), some (zv q), some (zv (bz al)), some (zv an), some (zv (j : Int))] [] n (md_H m V B h0) := by
      intro an han
      subst han
      cases j with
      | zero =>
        refine zi_aload_n dk_163_158 rfl rfl ?_
        refine zi_getf dk_163_159 fl_13_89 md_0 rfl ?_
        refine zj_iload dk_163_162 rfl ?_
        refine zj_iload dk_163_164 rfl ?_
        refine zj_if_eq (t := 174) dk_163_166 rfl (by omega) (fun c166 => ?_) (fun c166 => ?_)
        · skip
          refine zj_iload dk_163_174 rfl ?_
          refine zj_if_le (t := 214) dk_163_176 rfl (by omega) (fun c176 => ?_) (fun c176 => ?_)
          · skip
            refine zj_iconst dk_163_214 ?_
            first
              | exact key _ B (by rw [bz_ne0.mp c166]; rfl) hax h1
              | exact key _ B (by rw [bz_eq0.mp c166]; rfl) hax h1
          · omega
        · skip
          refine zj_iload dk_163_169 rfl ?_
          refine zi_goto (t := 215) dk_163_171 rfl ?_
          first
            | exact key _ B (by rw [bz_ne0.mp c166]; rfl) hax h1
            | exact key _ B (by rw [bz_eq0.mp c166]; rfl) hax h1
      | succ x =>
        have hmx : B 26 (((x + 1 : Nat) : Int) - 1) = bz (R x) := by rw [show ((x + 1 : Nat) : Int) - 1 = (x : Int) by omega, hax 26 (by decide)]; exact hR x (by omega)
        have hbx := bz_rg (R x)
        obtain ⟨Nx, s1, s2, s3⟩ := hsg x (by omega)
        have hix : B 25 (((x + 1 : Nat) : Int) - 1) = B0 25 (x : Int) := by rw [show ((x + 1 : Nat) : Int) - 1 = (x : Int) by omega, hax 25 (by decide)]
        have hbp := bz_rg (Pf x)
        refine zi_aload_n dk_163_158 rfl rfl ?_
        refine zi_getf dk_163_159 fl_13_89 md_0 rfl ?_
        refine zj_iload dk_163_162 rfl ?_
        refine zj_iload dk_163_164 rfl ?_
        refine zj_if_eq (t := 174) dk_163_166 rfl (by omega) (fun c166 => ?_) (fun c166 => ?_)
        · skip
          refine zj_iload dk_163_174 rfl ?_
          refine zj_if_le (t := 214) dk_163_176 rfl (by omega) (fun c176 => ?_) (fun c176 => ?_)
          · omega
          · skip
            refine zi_aload_n dk_163_179 rfl rfl ?_
            refine zi_getf dk_163_180 fl_13_86 md_0 rfl ?_
            refine zj_iload dk_163_183 rfl ?_
            refine zj_iconst dk_163_185 ?_
            refine zj_isub dk_163_186 ?_
            refine md_zald (k := 26) (N := 42) dk_163_187 (by decide) rfl rfl (by omega) ?_
            refine zj_if_eq (t := 214) dk_163_188 rfl (by omega) (fun c188 => ?_) (fun c188 => ?_)
            · skip
              refine zj_iconst dk_163_214 ?_
              first
                | exact key _ B (by rw [bz_ne0.mp c166]; rfl) hax h1
                | exact key _ B (by
                    rw [bz_eq0.mp c166]
                    show _ = bz (R x && Pf x)
                    rw [bz_and]
                    (repeat' split) <;> omega) hax h1
                | exact key _ B2 (by
                    rw [bz_eq0.mp c166]
                    show _ = bz (R x && Pf x)
                    rw [bz_and]
                    (repeat' split) <;> omega) (hax.tr g1 (by decide)) (fun y hy => by rw [g1 27 (by decide)]; exact h1 y hy)
            · skip
              refine zi_aload_n dk_163_191 rfl rfl ?_
              refine zj_iload_n dk_163_192 rfl ?_
              refine zj_iload dk_163_193 rfl ?_
              refine zi_aload_n dk_163_195 rfl rfl ?_
              refine zi_getf dk_163_196 fl_13_83 md_0 rfl ?_
              refine zj_iload dk_163_199 rfl ?_
              refine zj_iconst dk_163_201 ?_
              refine zj_isub dk_163_202 ?_
              refine md_iald (k := 25) (N := 41) dk_163_203 (by decide) rfl rfl (by omega) ?_
              rw [hix]
              refine zi_invV dk_163_204 ml_13_150 iv_164 (ct_164 (d := d - 1) (N := Nx) (by rw [hax 22 (by decide)]; exact hch) (by omega) s1 (by rw [hax 23 (by decide), hax 24 (by decide)]; exact s2) (fun y y1 y2 => by rw [hax 30 (by decide)]; exact hc y y1 y2)) md_0 rfl rfl rfl (Nat.le_of_ble_eq_true rfl) (by omega) rfl rfl (fun r n' h' hq => ?_)
              obtain ⟨e1, B2, g1, rfl, rfl⟩ := hq
              have e1 := e1.symm
              subst e1
              rw [hax 22 (by decide), hax 23 (by decide), hax 30 (by decide), s3]
              refine zj_if_eq (t := 214) dk_163_207 rfl (by omega) (fun c207 => ?_) (fun c207 => ?_)
              · skip
                refine zj_iconst dk_163_214 ?_
                first
                  | exact key _ B (by rw [bz_ne0.mp c166]; rfl) hax h1
                  | exact key _ B (by
                      rw [bz_eq0.mp c166]
                      show _ = bz (R x && Pf x)
                      rw [bz_and]
                      (repeat' split) <;> omega) hax h1
                  | exact key _ B2 (by
                      rw [bz_eq0.mp c166]
                      show _ = bz (R x && Pf x)
                      rw [bz_and]
                      (repeat' split) <;> omega) (hax.tr g1 (by decide)) (fun y hy => by rw [g1 27 (by decide)]; exact h1 y hy)
              · skip
                refine zj_iconst dk_163_210 ?_
                refine zi_goto (t := 215) dk_163_211 rfl ?_
                first
                  | exact key _ B (by rw [bz_ne0.mp c166]; rfl) hax h1
                  | exact key _ B (by
                      rw [bz_eq0.mp c166]
                      show _ = bz (R x && Pf x)
                      rw [bz_and]
                      (repeat' split) <;> omega) hax h1
                  | exact key _ B2 (by
                      rw [bz_eq0.mp c166]
                      show _ = bz (R x && Pf x)
                      rw [bz_and]
                      (repeat' split) <;> omega) (hax.tr g1 (by decide)) (fun y hy => by rw [g1 27 (by decide)]; exact h1 y hy)
        · skip
          refine zj_iload dk_163_169 rfl ?_
          refine zi_goto (t := 215) dk_163_171 rfl ?_
          first
            | exact key _ B (by rw [bz_ne0.mp c166]; rfl) hax h1
            | exact key _ B (by
                rw [bz_eq0.mp c166]
                show _ = bz (R x && Pf x)
                rw [bz_and]
                (repeat' split) <;> omega) hax h1
            | exact key _ B2 (by
                rw [bz_eq0.mp c166]
                show _ = bz (R x && Pf x)
                rw [bz_and]
                (repeat' split) <;> omega) (hax.tr g1 (by decide)) (fun y hy => by rw [g1 27 (by decide)]; exact h1 y hy)
    refine zj_iload dk_163_127 rfl ?_
    refine zi_aload_n dk_163_129 rfl rfl ?_
    refine zi_getf dk_163_130 fl_13_143 md_0 rfl ?_
    refine zj_icmp_gt (t := 222) dk_163_133 rfl (by omega) (fun c133 => ?_) (fun c133 => ?_)
    · omega
    · skip
      refine zj_iload dk_163_136 rfl ?_
      refine zj_if_ne (t := 151) dk_163_138 rfl (by omega) (fun c138 => ?_) (fun c138 => ?_)
      · skip
        refine zj_iconst dk_163_151 ?_
        refine zi_goto (t := 156) dk_163_152 rfl ?_
        refine zj_istore dk_163_156 rfl ?_
        exact key1 _ (by rw [any_lt_s, bz_or]; (repeat' split) <;> omega)
      · skip
        refine zi_aload_n dk_163_141 rfl rfl ?_
        refine zi_getf dk_163_142 fl_13_86 md_0 rfl ?_
        refine zj_iload dk_163_145 rfl ?_
        refine md_zald (k := 26) (N := 42) dk_163_147 (by decide) rfl rfl (by omega) ?_
        refine zj_if_eq (t := 155) dk_163_148 rfl (by omega) (fun c148 => ?_) (fun c148 => ?_)
        · skip
          refine zj_iconst dk_163_155 ?_
          refine zj_istore dk_163_156 rfl ?_
          exact key1 _ (by rw [any_lt_s, bz_or]; (repeat' split) <;> omega)
        · skip
          refine zj_iconst dk_163_151 ?_
          refine zi_goto (t := 156) dk_163_152 rfl ?_
          refine zj_istore dk_163_156 rfl ?_
          exact key1 _ (by rw [any_lt_s, bz_or]; (repeat' split) <;> omega)

theorem ex_163 {X : zz_X} {d n m : Nat} {V : Nat → Int} {B0 : Nat → Int → Int} {h0 : zz_H} {f : Int → Int} {r len : Int} (hr : 0 ≤ r ∧ r < 8) (hl : 1 ≤ len ∧ len ≤ 40) (ht : ∀ j, 0 ≤ j → j < len → B0 30 (40 * r + j) = f j ∧ 33 ≤ f j ∧ f j ≤ 126) {D L : List (List Int)} (hD : pr_D B0 D) (hL : sg_P B0 D (V 35) L) : ∀ (dn : Nat) (B3 : Nat → Int → Int) (x3 x4 x5 x6 x7 : Option Value), dn = (sp_pcs f len).length → ax [26, 27, 28, 29] B0 B3 → (∀ x : Nat, x ≤ L.length → B3 26 x = bz (sp_ly (sp_pcs f len) L dn x)) → zz_Z X mm_163 d (fun r' n' h' => n' = n ∧ ∃ B', ax [26, 27, 28, 29] B0 B' ∧ r' = some (zv (bz (sp_fits (sp_pcs f len) L))) ∧ h' = md_H m V B' h0) 0 0 262 [some (.ref m), some (zv r), some (zv (40 * r + len)), x3, x4, x5, x6, x7] [] n (md_H m V B3 h0) := by
  intro dn B3 x3 x4 x5 x6 x7 hdn hax3 hrow3
  have hVN := hL.1
  have hL2 := hL.2.1
  refine zi_aload_n dk_163_262 rfl rfl ?_
  refine zi_getf dk_163_263 fl_13_86 md_0 rfl ?_
  refine zi_aload_n dk_163_266 rfl rfl ?_
  refine zi_getf dk_163_267 fl_13_143 md_0 rfl ?_
  refine md_zald (k := 26) (N := 42) dk_163_270 (by decide) rfl rfl (by omega) ?_
  refine zj_zreturn dk_163_271 rfl (by rw [hVN, hrow3 L.length (Nat.le_refl _)]; exact bz_rg _) ⟨rfl, B3, hax3, by rw [hVN, hrow3 L.length (Nat.le_refl _), hdn]; rfl, rfl⟩

theorem lp_163 {X : zz_X} {d n m : Nat} (hd : 1 ≤ d) {V : Nat → Int} {B0 : Nat → Int → Int} {h0 : zz_H} {f : Int → Int} {r len : Int} (hr : 0 ≤ r ∧ r < 8) (hl : 1 ≤ len ∧ len ≤ 40) (ht : ∀ j, 0 ≤ j → j < len → B0 30 (40 * r + j) = f j ∧ 33 ≤ f j ∧ f j ≤ 126) {D L : List (List Int)} (hD : pr_D B0 D) (hL : sg_P B0 D (V 35) L) : ∀ (k : Nat) (i p : Int) (dn : Nat) (B : Nat → Int → Int) (x4 x5 x6 x7 : Option Value), p = 40 * r + i → 1 ≤ i → i < len → len < i + k → sp_ptl f len k i = true → (sp_pcs f len).drop dn = sp_sp f len k i → ax [26, 27, 28, 29] B0 B → (∀ x : Nat, x ≤ L.length → B 26 x = bz (sp_ly (sp_pcs f len) L dn x)) →
    zz_Z X mm_163 d (fun r' n' h' => n' = n ∧ ∃ B', ax [26, 27, 28, 29] B0 B' ∧ r' = some (zv (bz (sp_fits (sp_pcs f len) L))) ∧ h' = md_H m V B' h0) 0 0 50 [some (.ref m), some (zv r), some (zv (40 * r + len)), some (zv p), x4, x5, x6, x7] [] n (md_H m V B h0) := by
  intro k
  induction k with
  | zero => intro i p dn B x4 x5 x6 x7 hp h1 h2 h3; omega
  | succ k ih =>
    intro i p dn B x4 x5 x6 x7 hp h1 h2 h3 hpt hdrop hax hrow
    have hpos := ptl_pos hpt (by omega)
    unfold sp_sp at hdrop
    have hdl0 : dn < (sp_pcs f len).length := by
      rcases Nat.lt_or_ge dn (sp_pcs f len).length with h | h
      · exact h
      · rw [List.drop_eq_nil_iff.mpr h] at hdrop
        exact absurd hdrop (by simp)
    have hw : (sp_pcs f len).getD dn [] = (zS f (sp_nx f len i - i).toNat i) := by
      rw [List.drop_eq_getElem_cons hdl0] at hdrop
      injection hdrop with e1 e2
      rw [List.getD_eq_getElem?_getD, List.getElem?_eq_getElem hdl0]
      exact e1
    have hdrop2 : (sp_pcs f len).drop (dn + 1) = (if sp_nx f len i = len then [] else sp_sp f len k (sp_nx f len i + 1)) := by
      rw [List.drop_eq_getElem_cons hdl0] at hdrop
      injection hdrop with e1 e2
    refine zj_iload_n dk_163_50 rfl ?_
    refine zj_iload_n dk_163_51 rfl ?_
    refine zj_icmp_ge (t := 262) dk_163_52 rfl (by omega) (fun c52 => ?_) (fun c52 => ?_)
    · omega
    · skip
      refine zj_iload_n dk_163_55 rfl ?_
      refine zj_istore dk_163_56 rfl ?_
      refine lp_163q hr hl (fun j j1 j2 => by rw [hax 30 (by decide)]; exact ht j j1 j2) (len - i).toNat i p hp (by omega) (by omega) (fun q hq => ?_)
      have hq : q = 40 * r + sp_nx f len i := hq
      have key5 : ∀ z, z = bz (decide ((zS f (sp_nx f len i - i).toNat i) = [42, 42])) → zz_Z X mm_163 d (fun r' n' h' => n' = n ∧ ∃ B', ax [26, 27, 28, 29] B0 B' ∧ r' = some (zv (bz (sp_fits (sp_pcs f len) L))) ∧ h' = md_H m V B' h0) 0 0 119 [some (.ref m), some (zv r), some (zv (40 * r + len)), some (zv p), some (zv q), x5, x6, x7] [zv z] n (md_H m V B h0) := by
        intro z hz
        subst hz
        refine zj_istore dk_163_119 rfl ?_
        refine zj_iconst dk_163_121 ?_
        refine zj_istore dk_163_122 rfl ?_
        refine zj_iconst dk_163_124 ?_
        refine zj_istore dk_163_125 rfl ?_
        refine lp_163b hd ⟨hL.2.1, hL.1⟩ (al := decide ((zS f (sp_nx f len i - i).toNat i) = [42, 42])) (Pf := fun x => sp_cov (zS f (sp_nx f len i - i).toNat i) (L.getD x [])) (R := sp_ly (sp_pcs f len) L dn) (B0 := B) hrow (by rw [hax 22 (by decide)]; exact hD.2.2) (by omega) (fun j j1 j2 => ?_) (fun x hx => ?_) (L.length + 1) 0 B 0 (by omega) ax.rf (fun x hx => by omega) rfl (fun B' y z g1 g2 => ?_)
        · have hj := ht (j - 40 * r) (by omega) (by omega)
          rw [show 40 * r + (j - 40 * r) = j by omega] at hj
          rw [hax 30 (by decide)]
          omega
        · obtain ⟨jj, e1, e2⟩ := hL.2.2 x L[x] (List.getElem?_eq_getElem hx)
          obtain ⟨w1, w2, w3, w4⟩ := hD.1 jj _ e2
          have hjl : jj < D.length := (List.getElem?_eq_some_iff.mp e2).1
          have hD41 := hD.2.1
          rw [hax 25 (by decide), hax 23 (by decide), hax 24 (by decide), hax 22 (by decide), hax 30 (by decide), e1]
          refine ⟨(L[x]).length, by omega, ⟨w1, w2, w3⟩, ?_⟩
          rw [show L.getD x [] = L[x] from by rw [List.getD_eq_getElem?_getD, List.getElem?_eq_getElem hx]; rfl, show (q - p).toNat = (sp_nx f len i - i).toNat by omega]
          refine cov_eq (fun y hy => ?_) w4
          have hj := ht (i + y) (by omega) (by omega)
          rw [← hj.1, hp, Int.add_assoc]
        · refine zj_iconst dk_163_222 ?_
          refine zj_istore dk_163_223 rfl ?_
          refine lp_163c ⟨hL.2.1, hL.1⟩ g2 (L.length + 1) 0 B' (by omega) ax.rf (fun x hx => by omega) (fun B'' y2 g3 g4 => ?_)
          refine zj_iload dk_163_254 rfl ?_
          refine zj_iconst dk_163_256 ?_
          refine zj_iadd dk_163_257 ?_
          refine zj_istore_n dk_163_258 rfl ?_
          refine zi_goto (t := 50) dk_163_259 rfl ?_
          have hax2 : ax [26, 27, 28, 29] B0 B'' := (hax.tr g1 (by decide)).tr g3 (by decide)
          have hrow2 : ∀ x : Nat, x ≤ L.length → B'' 26 x = bz (sp_ly (sp_pcs f len) L (dn + 1) x) := fun x hx => by
            rw [g4 x hx, sp_ly_row, hw]
          by_cases hend : sp_nx f len i = len
          · rw [if_pos hend] at hdrop2
            have hdl : dn + 1 = (sp_pcs f len).length := by
              have h1 := List.drop_eq_nil_iff.mp hdrop2
              omega
            refine zj_iload_n dk_163_50 rfl ?_
            refine zj_iload_n dk_163_51 rfl ?_
            refine zj_icmp_ge (t := 262) dk_163_52 rfl (by omega) (fun c52 => ?_) (fun c52 => ?_)
            · skip
              exact ex_163 hr hl ht hD hL (dn + 1) B'' _ _ _ _ _ hdl hax2 hrow2
            · omega
          · rw [if_neg hend] at hdrop2
            have hpt := hpos.2.2 hend
            have hk0 : k ≠ 0 := by omega
            obtain ⟨k', rfl⟩ := Nat.exists_eq_succ_of_ne_zero hk0
            have hp2 := ptl_pos hpt (by omega)
            exact ih (sp_nx f len i + 1) (q + 1) (dn + 1) B'' _ _ _ _ (by omega) (by omega) (by omega) (by omega) hpt hdrop2 hax2 hrow2
      refine zj_iload dk_163_82 rfl ?_
      refine zj_iload_n dk_163_84 rfl ?_
      refine zj_isub dk_163_85 ?_
      refine zj_iconst dk_163_86 ?_
      refine zj_icmp_ne (t := 118) dk_163_87 rfl (by omega) (fun c87 => ?_) (fun c87 => ?_)
      · skip
        refine zj_iconst dk_163_118 ?_
        first
          | exact key5 1 (by rw [decide_eq_true (zS_two.mpr ⟨by omega, by omega, by omega⟩)]; rfl)
          | exact key5 0 (by rw [decide_eq_false (fun hh => by have h3 := zS_two.mp hh; omega)]; rfl)
      · skip
        refine zi_aload_n dk_163_90 rfl rfl ?_
        refine zi_getf dk_163_91 fl_13_98 md_0 rfl ?_
        refine zj_iload_n dk_163_94 rfl ?_
        refine md_iald (k := 30) (N := 320) dk_163_95 (by decide) rfl rfl (by omega) ?_
        refine zj_bipush dk_163_96 (by decide) ?_
        have ht0 := ht i (by omega) (by omega)
        rw [← hax 30 (by decide), ← hp] at ht0
        refine zj_icmp_ne (t := 118) dk_163_98 rfl (by omega) (fun c98 => ?_) (fun c98 => ?_)
        · skip
          refine zj_iconst dk_163_118 ?_
          first
            | exact key5 1 (by rw [decide_eq_true (zS_two.mpr ⟨by omega, by omega, by omega⟩)]; rfl)
            | exact key5 0 (by rw [decide_eq_false (fun hh => by have h3 := zS_two.mp hh; omega)]; rfl)
        · skip
          refine zi_aload_n dk_163_101 rfl rfl ?_
          refine zi_getf dk_163_102 fl_13_98 md_0 rfl ?_
          refine zj_iload_n dk_163_105 rfl ?_
          refine zj_iconst dk_163_106 ?_
          refine zj_iadd dk_163_107 ?_
          refine md_iald (k := 30) (N := 320) dk_163_108 (by decide) rfl rfl (by omega) ?_
          refine zj_bipush dk_163_109 (by decide) ?_
          have ht1 := ht (i + 1) (by omega) (by omega)
          rw [← hax 30 (by decide), show 40 * r + (i + 1) = p + 1 by omega] at ht1
          refine zj_icmp_ne (t := 118) dk_163_111 rfl (by omega) (fun c111 => ?_) (fun c111 => ?_)
          · skip
            refine zj_iconst dk_163_118 ?_
            first
              | exact key5 1 (by rw [decide_eq_true (zS_two.mpr ⟨by omega, by omega, by omega⟩)]; rfl)
              | exact key5 0 (by rw [decide_eq_false (fun hh => by have h3 := zS_two.mp hh; omega)]; rfl)
          · skip
            refine zj_iconst dk_163_114 ?_
            refine zi_goto (t := 119) dk_163_115 rfl ?_
            first
              | exact key5 1 (by rw [decide_eq_true (zS_two.mpr ⟨by omega, by omega, by omega⟩)]; rfl)
              | exact key5 0 (by rw [decide_eq_false (fun hh => by have h3 := zS_two.mp hh; omega)]; rfl)

theorem ct_163 {X : zz_X} {d n : Nat}  (hd : 1 ≤ d) {m : Nat} {V : Nat → Int} {B : Nat → Int → Int} {h0 : zz_H} {f : Int → Int} {r len : Int} (hr : 0 ≤ r ∧ r < 8) (hl : 1 ≤ len ∧ len ≤ 40) (ht : ∀ j, 0 ≤ j → j < len → B 30 (40 * r + j) = f j ∧ 33 ≤ f j ∧ f j ≤ 126) {D L : List (List Int)} (hD : pr_D B D) (hL : sg_P B D (V 35) L) (hlen : B 31 r = len) (hpat : sp_pat f len = true) : zz_Ct X mm_163 d 0 0 [.ref m, zv r] n (md_H m V B h0) (fun r' n' h' => n' = n ∧ ∃ B', ax [26, 27, 28, 29] B B' ∧ r' = some (zv (bz (sp_fits (sp_pcs f len) L))) ∧ h' = md_H m V B' h0) := by
  refine zz_start (by decide) (ls := [some (.ref m), some (zv r), none, none, none, none, none, none]) rfl ?_
  refine zj_bipush dk_163_0 (by decide) ?_
  refine zj_iload_n dk_163_2 rfl ?_
  refine zj_imul dk_163_3 ?_
  refine zi_aload_n dk_163_4 rfl rfl ?_
  refine zi_getf dk_163_5 fl_13_101 md_0 rfl ?_
  refine zj_iload_n dk_163_8 rfl ?_
  refine md_iald (k := 31) (N := 8) dk_163_9 (by decide) rfl rfl (by omega) ?_
  refine zj_iadd dk_163_10 ?_
  refine zj_istore_n dk_163_11 rfl ?_
  refine zj_iconst dk_163_12 ?_
  refine zj_istore_n dk_163_13 rfl ?_
  rw [hlen]
  have hL2 := hL.2.1
  refine lp_163a ⟨hL.2.1, hL.1⟩ (L.length + 1) 0 B (by omega) ax.rf (fun x hx => by omega) (fun B' y g1 g2 => ?_)
  refine zj_bipush dk_163_43 (by decide) ?_
  refine zj_iload_n dk_163_45 rfl ?_
  refine zj_imul dk_163_46 ?_
  refine zj_iconst dk_163_47 ?_
  refine zj_iadd dk_163_48 ?_
  refine zj_istore_n dk_163_49 rfl ?_
  have hax' : ax [26, 27, 28, 29] B B' := ax.rf.tr g1 (by decide)
  have hrow' : ∀ x : Nat, x ≤ L.length → B' 26 x = bz (sp_ly (sp_pcs f len) L 0 x) := fun x hx => g2 x hx
  rcases ((sp_pat_iff (by omega)).mp hpat).2.2 with h1 | h1
  · have hP : 0 = (sp_pcs f len).length := by unfold sp_pcs; rw [if_pos (by omega)]; rfl
    refine zj_iload_n dk_163_50 rfl ?_
    refine zj_iload_n dk_163_51 rfl ?_
    refine zj_icmp_ge (t := 262) dk_163_52 rfl (by omega) (fun c52 => ?_) (fun c52 => ?_)
    · skip
      exact ex_163 hr hl ht hD hL 0 B' _ _ _ _ _ hP hax' hrow'
    · omega
  · have hne : ¬ len = 1 := fun e => by
      have := ptl_pos h1 (by omega)
      omega
    exact lp_163 hd hr hl ht hD hL 41 1 _ 0 B' _ _ _ _ rfl (by omega) (by omega) (by omega) h1 (by rw [List.drop_zero]; unfold sp_pcs; rw [if_neg (by omega)]) hax' hrow'

