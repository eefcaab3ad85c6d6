/-! the model: read, the outer loops -/
theorem lp_157q {X : zz_X} {d n : Nat} {m : Nat} {V : Nat → Int} {B : Nat → Int → Int} {h0 : zz_H} (hB : md_B V B) {many nn p : Int} {x5 x6 x7 x8 x9 : Option Value} {Q : Option Value → Nat → zz_H → Prop} : ∀ (k : Nat) (q : Int), q + k = V 29 → 0 ≤ q → zz_Z X mm_157 d Q 0 0 93 [some (.ref m), some (zv many), some (zv nn), some (zv p), some (zv (sp_find (B 21) 47 k q)), x5, x6, x7, x8, x9] [] n (md_H m V B h0) →
    zz_Z X mm_157 d Q 0 0 66 [some (.ref m), some (zv many), some (zv nn), some (zv p), some (zv q), x5, x6, x7, x8, x9] [] n (md_H m V B h0) := by
  have hV := hB.1
  intro k
  induction k with
  | zero =>
    intro q hk hq hQ
    refine zj_iload dk_157_66 rfl ?_
    refine zi_aload_n dk_157_68 rfl rfl ?_
    refine zi_getf dk_157_69 fl_13_129 md_0 rfl ?_
    refine zj_icmp_ge (t := 93) dk_157_72 rfl (by omega) (fun c72 => ?_) (fun c72 => ?_)
    · skip
      exact hQ
    · omega
  | succ k ih =>
    intro q hk hq hQ
    have hc := hB.2 q hq (by omega)
    unfold sp_find at hQ
    refine zj_iload dk_157_66 rfl ?_
    refine zi_aload_n dk_157_68 rfl rfl ?_
    refine zi_getf dk_157_69 fl_13_129 md_0 rfl ?_
    refine zj_icmp_ge (t := 93) dk_157_72 rfl (by omega) (fun c72 => ?_) (fun c72 => ?_)
    · omega
    · skip
      refine zi_aload_n dk_157_75 rfl rfl ?_
      refine zi_getf dk_157_76 fl_13_71 md_0 rfl ?_
      refine zj_iload dk_157_79 rfl ?_
      refine md_iald (k := 21) (N := 40) dk_157_81 (by decide) rfl rfl (by omega) ?_
      refine zj_bipush dk_157_82 (by decide) ?_
      refine zj_icmp_eq (t := 93) dk_157_84 rfl (by omega) (fun c84 => ?_) (fun c84 => ?_)
      · skip
        rw [if_pos c84] at hQ
        exact hQ
      · skip
        refine zj_iinc dk_157_87 rfl rfl ?_
        refine zi_goto (t := 66) dk_157_90 rfl ?_
        exact ih _ (by omega) (by omega) (by rw [if_neg c84] at hQ; exact hQ)

theorem lp_157b {X : zz_X} {d n : Nat} {m : Nat} {V : Nat → Int} {B : Nat → Int → Int} {h0 : zz_H} (hB : md_B V B) {x2 x3 x4 x5 x6 x7 x8 x9 : Option Value} {Q : Option Value → Nat → zz_H → Prop} : ∀ (k : Nat) (i : Int), i + k = V 29 → 0 ≤ i → (sp_find (B 21) 92 k i < V 29 → Q (some (zv 0)) n (md_H m V B h0)) → (¬ sp_find (B 21) 92 k i < V 29 → ∀ y, zz_Z X mm_157 d Q 0 0 49 [some (.ref m), some (zv y), x2, x3, x4, x5, x6, x7, x8, x9] [] n (md_H m V B h0)) →
    zz_Z X mm_157 d Q 0 0 22 [some (.ref m), some (zv i), x2, x3, x4, x5, x6, x7, x8, x9] [] n (md_H m V B h0) := by
  have hV := hB.1
  intro k
  induction k with
  | zero =>
    intro i hk hi hY hN
    refine zj_iload_n dk_157_22 rfl ?_
    refine zi_aload_n dk_157_23 rfl rfl ?_
    refine zi_getf dk_157_24 fl_13_129 md_0 rfl ?_
    refine zj_icmp_ge (t := 49) dk_157_27 rfl (by omega) (fun c27 => ?_) (fun c27 => ?_)
    · skip
      exact hN (by unfold sp_find; omega) _
    · omega
  | succ k ih =>
    intro i hk hi hY hN
    have hc := hB.2 i hi (by omega)
    unfold sp_find at hY hN
    refine zj_iload_n dk_157_22 rfl ?_
    refine zi_aload_n dk_157_23 rfl rfl ?_
    refine zi_getf dk_157_24 fl_13_129 md_0 rfl ?_
    refine zj_icmp_ge (t := 49) dk_157_27 rfl (by omega) (fun c27 => ?_) (fun c27 => ?_)
    · omega
    · skip
      refine zi_aload_n dk_157_30 rfl rfl ?_
      refine zi_getf dk_157_31 fl_13_71 md_0 rfl ?_
      refine zj_iload_n dk_157_34 rfl ?_
      refine md_iald (k := 21) (N := 40) dk_157_35 (by decide) rfl rfl (by omega) ?_
      refine zj_bipush dk_157_36 (by decide) ?_
      refine zj_icmp_ne (t := 43) dk_157_38 rfl (by omega) (fun c38 => ?_) (fun c38 => ?_)
      · skip
        refine zj_iinc dk_157_43 rfl rfl ?_
        refine zi_goto (t := 22) dk_157_46 rfl ?_
        rw [if_neg c38] at hY hN
        exact ih _ (by omega) (by omega) hY hN
      · skip
        refine zj_iconst dk_157_41 ?_
        refine zj_zreturn dk_157_42 rfl (by omega) (hY (by rw [if_pos c38]; omega))

theorem lp_157o {X : zz_X} {d n : Nat} (hd : 1 ≤ d) {m : Nat} {V : Nat → Int} {h0 : zz_H} {Q : Option Value → Nat → zz_H → Prop} : ∀ (k : Nat) (p nn : Int) (B : Nat → Int → Int) (acc : List (List Int)) (x4 x5 x6 x7 x8 x9 : Option Value), md_B V B → p ≤ V 29 → V 29 < p + k → 1 ≤ p → (0 ≤ nn ∧ nn ≤ p - 1) → (acc.length : Int) ≤ p - 1 → pr_R (B 22) (B 23) (B 24) nn acc → ch_ok (B 22) → (∀ B', ax [22, 23, 24] B B' → ch_ok (B' 22) → sp_ds (B 21) (V 29) k p = none → Q (some (zv 0)) n (md_H m V B' h0)) → (∀ B' D x2 x3 x4 x5 x6 x7 x8 x9, ax [22, 23, 24] B B' → sp_ds (B 21) (V 29) k p = some D → pr_D B' (acc ++ D) → zz_Z X mm_157 d Q 0 0 289 [some (.ref m), some (zv ((acc ++ D).length : Int)), x2, x3, x4, x5, x6, x7, x8, x9] [] n (md_H m V B' h0)) →
    zz_Z X mm_157 d Q 0 0 55 [some (.ref m), some (zv (acc.length : Int)), some (zv nn), some (zv p), x4, x5, x6, x7, x8, x9] [] n (md_H m V B h0) := by
  intro k
  induction k with
  | zero =>
    intro p nn B acc x4 x5 x6 x7 x8 x9 hB hp hk
    omega
  | succ k ih =>
    intro p nn B acc x4 x5 x6 x7 x8 x9 hB hp hk h1 hnn hacc hR hch hN hY
    have hV := hB.1
    unfold sp_ds at hN hY
    refine zj_iload_n dk_157_55 rfl ?_
    refine zi_aload_n dk_157_56 rfl rfl ?_
    refine zi_getf dk_157_57 fl_13_129 md_0 rfl ?_
    refine zj_icmp_gt (t := 289) dk_157_60 rfl (by omega) (fun c60 => ?_) (fun c60 => ?_)
    · omega
    · skip
      refine zj_iload_n dk_157_63 rfl ?_
      refine zj_istore dk_157_64 rfl ?_
      refine lp_157q hB (V 29 - p).toNat p (by omega) (by omega) ?_
      have hge := sp_find_ge (B 21) 47 (V 29 - p).toNat p
      have hnx : sp_find (B 21) 47 (V 29 - p).toNat p = sp_nx (B 21) (V 29) p := rfl
      rw [hnx] at hge ⊢
      generalize sp_nx (B 21) (V 29) p = q at hge hN hY ⊢
      refine zi_aload_n dk_157_93 rfl rfl ?_
      refine zi_getf dk_157_94 fl_13_77 md_0 rfl ?_
      refine zj_iload_n dk_157_97 rfl ?_
      refine zj_iload_n dk_157_98 rfl ?_
      refine md_iast (k := 23) (N := 41) dk_157_99 (by decide) rfl rfl (by omega) ?_
      refine zj_iconst dk_157_100 ?_
      refine zj_istore dk_157_101 rfl ?_
      refine zj_iload_n dk_157_103 rfl ?_
      refine zj_istore dk_157_104 rfl ?_
      refine lp_157i hd (by omega) (by omega) (by omega) hV 41 p nn (va_up B 23 (zU (B 23) (acc.length : Int) nn)) _ _ _ (by omega) (by omega) (by omega) (fun B' g1 g0 g2 => hN B' (ax.tr (ax.rf.up (by decide)) (fun j hj => g1 j (fun hh => hj (by revert hh; simp; omega))) (fun _ hh => hh)) g0 (by rw [show sp_dec (B 21) q 41 p = none from g2])) (fun l cut kx y7 y8 y9 g2 => ?_) hB hch
      have g2 : sp_dec (B 21) q 41 p = some l := g2
      have gl := sp_dec_ok (f := B 21) (q := q) (fun i h1 h2 => by have := hB.2 i h1 (by omega); omega) 41 p l (by omega) g2
      have gl2 := gl.2 (by omega)
      rw [g2] at hN hY
      dsimp only at hN hY
      refine zi_aload_n dk_157_271 rfl rfl ?_
      refine zi_getf dk_157_272 fl_13_80 md_0 rfl ?_
      refine zj_iload_n dk_157_275 rfl ?_
      refine zj_iload_n dk_157_276 rfl ?_
      refine md_iast (k := 24) (N := 41) dk_157_277 (by decide) rfl rfl (by omega) ?_
      refine zj_iinc dk_157_278 rfl rfl ?_
      refine zj_iload dk_157_281 rfl ?_
      refine zj_iconst dk_157_283 ?_
      refine zj_iadd dk_157_284 ?_
      refine zj_istore_n dk_157_285 rfl ?_
      refine zi_goto (t := 55) dk_157_286 rfl ?_
      have hR2 : pr_R (zW (B 22) nn l) (zU (B 23) (acc.length : Int) nn) (zU (B 24) (acc.length : Int) (nn + (l.length : Int))) (nn + (l.length : Int)) (acc ++ [l]) := (hR.write (Int.le_refl _) l).keep hnn.1 rfl (zW_zS l (B 22) nn)
      have hc2 : ch_ok (zW (B 22) nn l) := hch.zW l nn gl.1
      have hlen2 : (acc ++ [l]).length = acc.length + 1 := by simp
      rw [show (acc.length : Int) + 1 = ((acc ++ [l]).length : Int) by omega]
      have hax2 : ax [22, 23, 24] B (va_up (va_up (va_up B 23 (zU (B 23) (acc.length : Int) nn)) 22 (zW (B 22) nn l)) 24 (zU (B 24) (acc.length : Int) (nn + (l.length : Int)))) := ((ax.rf.up (by decide)).up (by decide)).up (by decide)
      by_cases hql : q = V 29
      · rw [if_pos hql] at hN hY
        refine zj_iload_n dk_157_55 rfl ?_
        refine zi_aload_n dk_157_56 rfl rfl ?_
        refine zi_getf dk_157_57 fl_13_129 md_0 rfl ?_
        refine zj_icmp_gt (t := 289) dk_157_60 rfl (by omega) (fun c60 => ?_) (fun c60 => ?_)
        · skip
          exact hY (va_up (va_up (va_up B 23 (zU (B 23) (acc.length : Int) nn)) 22 (zW (B 22) nn l)) 24 (zU (B 24) (acc.length : Int) (nn + (l.length : Int)))) [l] _ _ _ _ _ _ _ _ hax2 rfl ⟨hR2.mono (by omega), by omega, hc2⟩
        · omega
      · rw [if_neg hql] at hN hY
        refine ih (q + 1) (nn + (l.length : Int)) (va_up (va_up (va_up B 23 (zU (B 23) (acc.length : Int) nn)) 22 (zW (B 22) nn l)) 24 (zU (B 24) (acc.length : Int) (nn + (l.length : Int)))) (acc ++ [l]) _ _ _ _ _ _ hB (by omega) (by omega) (by omega) (by omega) (by omega) hR2 hc2 (fun B' g3 g4 g5 => hN B' (hax2.tr g3 (fun _ hh => hh)) g4 (by rw [show sp_ds (B 21) (V 29) k (q + 1) = none from g5]; rfl)) (fun B' D y2 y3 y4 y5 y6 y7 y8 y9 g3 g5 g6 => ?_)
        have h9 := hY B' (l :: D) y2 y3 y4 y5 y6 y7 y8 y9 (hax2.tr g3 (fun _ hh => hh)) (by rw [show sp_ds (B 21) (V 29) k (q + 1) = some D from g5]; rfl) (by rw [List.append_assoc] at g6; exact g6)
        rw [List.append_assoc]
        exact h9

theorem ct_157 {X : zz_X} {d n : Nat}  (hd : 2 ≤ d) {m : Nat} {V : Nat → Int} {B : Nat → Int → Int} {h0 : zz_H} (hB : md_B V B) (hch : ch_ok (B 22)) : zz_Ct X mm_157 d 0 0 [.ref m] n (md_H m V B h0) (fun r n' h' => n' = n ∧ ∃ x B', h' = md_H m (va_up V 35 x) B' h0 ∧ ax [22, 23, 24, 25] B B' ∧ ch_ok (B' 22) ∧ ((sp_read (B 21) (V 29) = none ∧ r = some (zv 0)) ∨ ∃ L D, sp_read (B 21) (V 29) = some L ∧ r = some (zv 1) ∧ pr_D B' D ∧ sg_P B' D x L)) := by
  refine zz_start (by decide) (ls := [some (.ref m), none, none, none, none, none, none, none, none, none]) rfl ?_
  have hV := hB.1
  refine zi_aload_n dk_157_0 rfl rfl ?_
  refine zi_getf dk_157_1 fl_13_129 md_0 rfl ?_
  refine zj_if_eq (t := 18) dk_157_4 rfl (by omega) (fun c4 => ?_) (fun c4 => ?_)
  · skip
    refine zj_iconst dk_157_18 ?_
    refine zj_zreturn dk_157_19 rfl (by omega) ⟨rfl, V 35, B, by rw [va_up_id], ax.rf, hch, Or.inl ⟨by unfold sp_read; rw [if_pos (by omega)], rfl⟩⟩
  · skip
    have hc0 := hB.2 0 (by omega) (by omega)
    refine zi_aload_n dk_157_7 rfl rfl ?_
    refine zi_getf dk_157_8 fl_13_71 md_0 rfl ?_
    refine zj_iconst dk_157_11 ?_
    refine md_iald (k := 21) (N := 40) dk_157_12 (by decide) rfl rfl (by omega) ?_
    refine zj_bipush dk_157_13 (by decide) ?_
    refine zj_icmp_eq (t := 20) dk_157_15 rfl (by omega) (fun c15 => ?_) (fun c15 => ?_)
    · skip
      refine zj_iconst dk_157_20 ?_
      refine zj_istore_n dk_157_21 rfl ?_
      refine lp_157b hB (V 29).toNat 0 (by omega) (by omega) (fun hb => ⟨rfl, V 35, B, by rw [va_up_id], ax.rf, hch, Or.inl ⟨by unfold sp_read; rw [if_neg (by omega), if_pos hb], rfl⟩⟩) (fun hb y => ?_)
      have hrd0 : sp_read (B 21) (V 29) = (sp_ds (B 21) (V 29) 41 1).bind (fun D => sp_fold D []) := by unfold sp_read; rw [if_neg (by omega), if_neg hb]; exact sp_rd_ds (B 21) (V 29) 41 1 [] (by omega) (by omega)
      refine zj_iconst dk_157_49 ?_
      refine zj_istore_n dk_157_50 rfl ?_
      refine zj_iconst dk_157_51 ?_
      refine zj_istore_n dk_157_52 rfl ?_
      refine zj_iconst dk_157_53 ?_
      refine zj_istore_n dk_157_54 rfl ?_
      refine lp_157o (by omega) 41 1 0 B [] _ _ _ _ _ _ hB (by omega) (by omega) (by omega) (by omega) (by simp) pr_R.nil hch (fun B' g1 g2 g3 => ⟨rfl, V 35, B', by rw [va_up_id], fun j hj => g1 j (fun hh => hj (by revert hh; simp; omega)), g2, Or.inl ⟨by rw [hrd0, g3]; rfl, rfl⟩⟩) (fun B' D y2 y3 y4 y5 y6 y7 y8 y9 hax hds hPD => ?_)
      have hPD : pr_D B' D := hPD
      have hrd : sp_read (B 21) (V 29) = sp_fold D [] := by rw [hrd0, hds]; rfl
      show zz_Z _ _ _ _ _ _ _ [some (.ref m), some (zv (D.length : Int)), y2, y3, y4, y5, y6, y7, y8, y9] _ _ _
      refine zi_aload_n dk_157_289 rfl rfl ?_
      refine zj_iload_n dk_157_290 rfl ?_
      refine zi_invV dk_157_291 ml_13_140 iv_159 (ct_159 (d := d - 1) (by omega) hPD (sp_ds_ne _ _ _ _ _ hds)) md_0 rfl rfl rfl (Nat.le_of_ble_eq_true rfl) (by omega) rfl rfl (fun r n' h' hq => ?_)
      obtain ⟨rfl, x, g, rfl, ⟨hf, rfl⟩ | ⟨L, hf, rfl, hsg⟩⟩ := hq
      · exact zj_zreturn dk_157_294 rfl (by omega) ⟨rfl, x, _, rfl, (ax.tr (ks := [22, 23, 24, 25]) (fun j hj => hax j (fun hh => hj (by revert hh; simp; omega))) (ax.rf.up (k := 25) (by decide)) (fun _ hh => hh)), hPD.2.2, Or.inl ⟨hrd.trans hf, rfl⟩⟩
      · exact zj_zreturn dk_157_294 rfl (by omega) ⟨rfl, x, _, rfl, (ax.tr (ks := [22, 23, 24, 25]) (fun j hj => hax j (fun hh => hj (by revert hh; simp; omega))) (ax.rf.up (k := 25) (by decide)) (fun _ hh => hh)), hPD.2.2, Or.inr ⟨L, D, hrd.trans hf, rfl, hPD, hsg⟩⟩
    · skip
      refine zj_iconst dk_157_18 ?_
      refine zj_zreturn dk_157_19 rfl (by omega) ⟨rfl, V 35, B, by rw [va_up_id], ax.rf, hch, Or.inl ⟨by unfold sp_read; rw [if_pos (by omega)], rfl⟩⟩

