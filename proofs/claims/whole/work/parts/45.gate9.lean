/-! login, open -/
theorem gm_67 {X : zz_X} {d n : Nat} {h : zz_H} (hd : 10 ≤ d) {b : Nat} {S : Nat → Int} {A : Nat → Int → Int} {E : Nat → Nat} {RL : List (Nat × rd)} {UL : List (Nat × ud)} {SL : List (Nat × sd)} {T1 T2 : List (Nat × td)} (G : GI X b h S A E RL UL SL T1 T2) (hn : b + 64 ≤ n) {u pw sid rm : Int} (hu0 : -2147483648 ≤ u ∧ u < 2147483648) (hpw : -2147483648 ≤ pw ∧ pw < 2147483648) (hsid : -2147483648 ≤ sid ∧ sid < 2147483648) (hrm : rm = 0 ∨ rm = 1) (h3 : S 3 ≤ 80000) : zz_Ct X mm_67 d 4 42 [.ref b, zv u, zv pw, zv sid, zv rm] n h (fun r n' h' => n ≤ n' ∧ ((¬ (0 ≤ u ∧ u < S 16) ∧ r = some (zv (-1)) ∧ h' = h) ∨ ∃ p, (0 ≤ u ∧ u < S 16) ∧ UL[u.toNat]? = some p ∧ ((S 2 < p.2.2.2.2.2.2 ∧ r = some (zv (-2)) ∧ h' = h) ∨ (¬ S 2 < p.2.2.2.2.2.2 ∧ hs_of pw p.2.2.1 p.2.2.2.1 ≠ p.2.2.2.2.1 ∧ p.2.2.2.2.2.1 < 2 ∧ r = some (zv (-3)) ∧ GI X b h' S A E RL (UL.set u.toNat (p.1, (p.2.1, p.2.2.1, p.2.2.2.1, p.2.2.2.2.1, p.2.2.2.2.2.1 + 1, p.2.2.2.2.2.2))) SL T1 T2 ∧ mf b h h') ∨ (¬ S 2 < p.2.2.2.2.2.2 ∧ hs_of pw p.2.2.1 p.2.2.2.1 ≠ p.2.2.2.2.1 ∧ p.2.2.2.2.2.1 = 2 ∧ r = some (zv (-3)) ∧ GI X b h' (va_up S 8 (S 8 + 1)) A E RL (UL.set u.toNat (p.1, (p.2.1, p.2.2.1, p.2.2.2.1, p.2.2.2.2.1, 0, S 2 + 10))) SL T1 T2 ∧ mf b h h') ∨ (¬ S 2 < p.2.2.2.2.2.2 ∧ hs_of pw p.2.2.1 p.2.2.2.1 = p.2.2.2.2.1 ∧ ∃ D x v S' E', ((p.2.2.1 = 0 ∧ D = S 3 + 1 ∧ x = (p.2.1, 1, S 3 + 1, hs_of pw 1 (S 3 + 1), 0, p.2.2.2.2.2.2)) ∨ (p.2.2.1 ≠ 0 ∧ D = S 3 ∧ x = (p.2.1, p.2.2.1, p.2.2.2.1, p.2.2.2.2.1, 0, p.2.2.2.2.2.2))) ∧ r = some (zv (D + 1)) ∧ (∀ i, i < 14 → i ≠ 3 → S' i = S i) ∧ mf b h h' ∧ ((rm = 0 ∧ S' 3 = D + 2 ∧ GI X b h' S' A E' RL (UL.set u.toNat (p.1, x)) SL (tk_end (T1.filter (fun p => decide (¬ (p.2.2.1 = sid)))) u ++ [(v, (u, D + 1, D + 2, 0, S 2, S 2))]) T2) ∨ (rm = 1 ∧ S' 3 = D + 4 ∧ ∃ w, GI X b h' S' A E' RL (UL.set u.toNat (p.1, x)) SL (tk_end (T1.filter (fun p => decide (¬ (p.2.2.1 = sid)))) u ++ [(v, (u, D + 1, D + 2, 0, S 2, S 2))]) (tk_end T2 u ++ [(w, (u, D + 3, D + 4, 0, S 2, S 2))]))))))) := by
  refine zz_start (by decide) (ls := [some (.ref b), some (zv u), some (zv pw), some (zv sid), some (zv rm), none, none]) rfl ?_
  have hsz := G.sz
  have hr := G.rg
  have hlU := G.2.1.2.2.2.2.2.2.2.1.2.1
  by_cases hu : 0 ≤ u ∧ u < S 16
  · obtain ⟨p, m1, m2, m3, m4⟩ := G.us hu
    have v1 := m4.2.1
    have v2 := m4.2.2.1
    have v3 := m4.2.2.2.1
    have v4 := m4.2.2.2.2.1
    have v5 := m4.2.2.2.2.2
    have key : ¬ S 2 < p.2.2.2.2.2.2 → hs_of pw p.2.2.1 p.2.2.2.1 = p.2.2.2.2.1 → ∀ (h0 : zz_H) (S0 : Nat → Int) (x : ud) (D : Int), GI X b h0 S0 A E RL (UL.set u.toNat (p.1, x)) SL T1 T2 → mf b h h0 → S0 3 = D → (∀ i, i < 14 → i ≠ 3 → S0 i = S i) → ((p.2.2.1 = 0 ∧ D = S 3 + 1 ∧ x = (p.2.1, 1, S 3 + 1, hs_of pw 1 (S 3 + 1), 0, p.2.2.2.2.2.2)) ∨ (p.2.2.1 ≠ 0 ∧ D = S 3 ∧ x = (p.2.1, p.2.2.1, p.2.2.2.1, p.2.2.2.2.1, 0, p.2.2.2.2.2.2))) → zz_Z X mm_67 d (fun r n' h' => n ≤ n' ∧ ((¬ (0 ≤ u ∧ u < S 16) ∧ r = some (zv (-1)) ∧ h' = h) ∨ ∃ p, (0 ≤ u ∧ u < S 16) ∧ UL[u.toNat]? = some p ∧ ((S 2 < p.2.2.2.2.2.2 ∧ r = some (zv (-2)) ∧ h' = h) ∨ (¬ S 2 < p.2.2.2.2.2.2 ∧ hs_of pw p.2.2.1 p.2.2.2.1 ≠ p.2.2.2.2.1 ∧ p.2.2.2.2.2.1 < 2 ∧ r = some (zv (-3)) ∧ GI X b h' S A E RL (UL.set u.toNat (p.1, (p.2.1, p.2.2.1, p.2.2.2.1, p.2.2.2.2.1, p.2.2.2.2.2.1 + 1, p.2.2.2.2.2.2))) SL T1 T2 ∧ mf b h h') ∨ (¬ S 2 < p.2.2.2.2.2.2 ∧ hs_of pw p.2.2.1 p.2.2.2.1 ≠ p.2.2.2.2.1 ∧ p.2.2.2.2.2.1 = 2 ∧ r = some (zv (-3)) ∧ GI X b h' (va_up S 8 (S 8 + 1)) A E RL (UL.set u.toNat (p.1, (p.2.1, p.2.2.1, p.2.2.2.1, p.2.2.2.2.1, 0, S 2 + 10))) SL T1 T2 ∧ mf b h h') ∨ (¬ S 2 < p.2.2.2.2.2.2 ∧ hs_of pw p.2.2.1 p.2.2.2.1 = p.2.2.2.2.1 ∧ ∃ D x v S' E', ((p.2.2.1 = 0 ∧ D = S 3 + 1 ∧ x = (p.2.1, 1, S 3 + 1, hs_of pw 1 (S 3 + 1), 0, p.2.2.2.2.2.2)) ∨ (p.2.2.1 ≠ 0 ∧ D = S 3 ∧ x = (p.2.1, p.2.2.1, p.2.2.2.1, p.2.2.2.2.1, 0, p.2.2.2.2.2.2))) ∧ r = some (zv (D + 1)) ∧ (∀ i, i < 14 → i ≠ 3 → S' i = S i) ∧ mf b h h' ∧ ((rm = 0 ∧ S' 3 = D + 2 ∧ GI X b h' S' A E' RL (UL.set u.toNat (p.1, x)) SL (tk_end (T1.filter (fun p => decide (¬ (p.2.2.1 = sid)))) u ++ [(v, (u, D + 1, D + 2, 0, S 2, S 2))]) T2) ∨ (rm = 1 ∧ S' 3 = D + 4 ∧ ∃ w, GI X b h' S' A E' RL (UL.set u.toNat (p.1, x)) SL (tk_end (T1.filter (fun p => decide (¬ (p.2.2.1 = sid)))) u ++ [(v, (u, D + 1, D + 2, 0, S 2, S 2))]) (tk_end T2 u ++ [(w, (u, D + 3, D + 4, 0, S 2, S 2))]))))))) 4 42 95 [some (.ref b), some (zv u), some (zv pw), some (zv sid), some (zv rm), some (.ref p.1), none] [] n h0 := by
      intro hlk hpwd h0 S0 x D G hm0 hD hSi hdj
      have hD2 : 0 ≤ D ∧ D ≤ 90000 := by rcases hdj with ⟨-, h1, -⟩ | ⟨-, h1, -⟩ <;> omega
      refine zz_Z.lt (fun hlt => ?_)
      refine zi_aload_n dk_67_95 rfl rfl ?_
      refine zi_getf dk_67_96 fl_0_60 (by first | exact G.1 0 (by decide) | exact G.1 _ (by decide)) rfl ?_
      refine zj_iload_n dk_67_99 rfl ?_
      refine zi_invV dk_67_100 ml_0_167 iv_75 (g3_75 (d := d - 1) (by omega) G hlt hn hsid) (G.1 21 (by decide)) rfl rfl rfl (Nat.le_of_ble_eq_true rfl) (by omega) rfl rfl (fun r n' h' hq => ?_)
      rename zz_H => h5
      obtain ⟨rfl, rfl, S1, hS1, G, hm1, -⟩ := hq
      have e3 := hS1 3 (by decide)
      refine zi_aload_n dk_67_103 rfl rfl ?_
      refine zi_aload_n dk_67_104 rfl rfl ?_
      refine zi_getf dk_67_105 fl_0_60 (by first | exact G.1 0 (by decide) | exact G.1 _ (by decide)) rfl ?_
      refine zj_iload_n dk_67_108 rfl ?_
      refine zj_iconst dk_67_109 ?_
      refine zi_invV dk_67_110 ml_0_170 iv_76 (g3_76 (d := d - 1) (by omega) G hn (by omega) (Or.inl rfl) (by omega)) (by first | exact G.1 0 (by decide) | exact G.1 _ (by decide)) rfl rfl rfl (Nat.le_of_ble_eq_true rfl) (by omega) (kc' := 2) (ks' := 21) rfl rfl (fun r n' h' hq => ?_)
      rename zz_H => h6
      obtain ⟨rfl, hn2, S2, E2, h32, hS2, G, hm2⟩ := hq
      rw [e3, hD, hS1 2 (by decide), hSi 2 (by decide) (by decide), show D + 1 + 1 = D + 2 by omega] at G
      rw [e3, hD]
      have hS3 : ∀ i, i < 14 → i ≠ 3 → S2 i = S i := fun i hi hne => ((hS2 i hi hne).trans (hS1 i hi)).trans (hSi i hi hne)
      have h33 : S2 3 = D + 2 := by omega
      refine zj_istore dk_67_113 rfl ?_
      refine zj_iload dk_67_115 rfl ?_
      refine zj_if_eq (t := 131) dk_67_117 rfl (by omega) (fun c117 => ?_) (fun c117 => ?_)
      · skip
        refine zj_iload dk_67_131 rfl ?_
        refine zj_ireturn dk_67_133 rfl ⟨by omega, Or.inr ⟨p, hu, m1, Or.inr (Or.inr (Or.inr ⟨hlk, hpwd, D, x, _, S2, E2, hdj, rfl, hS3, (hm0.tr hm1).tr hm2, Or.inl ⟨by omega, h33, G⟩⟩))⟩⟩
      · skip
        refine zi_aload_n dk_67_120 rfl rfl ?_
        refine zi_aload_n dk_67_121 rfl rfl ?_
        refine zi_getf dk_67_122 fl_0_64 (by first | exact G.1 0 (by decide) | exact G.1 _ (by decide)) rfl ?_
        refine zj_iload_n dk_67_125 rfl ?_
        refine zj_iconst dk_67_126 ?_
        refine zi_invV dk_67_127 ml_0_170 iv_76 (g4_76 (d := d - 1) (by omega) G (by omega) (by omega) (Or.inl rfl) (by omega)) (by first | exact G.1 0 (by decide) | exact G.1 _ (by decide)) rfl rfl rfl (Nat.le_of_ble_eq_true rfl) (by omega) (kc' := 0) (ks' := 0) rfl rfl (fun r n' h' hq => ?_)
        rename zz_H => h7
        obtain ⟨rfl, hn3, S4, E4, h34, hS4, G, hm3⟩ := hq
        rw [h33, hS3 2 (by decide) (by decide), show D + 2 + 1 + 1 = D + 4 by omega, show D + 2 + 1 = D + 3 by omega] at G
        refine zi_pop dk_67_130 rfl ?_
        refine zj_iload dk_67_131 rfl ?_
        refine zj_ireturn dk_67_133 rfl ⟨by omega, Or.inr ⟨p, hu, m1, Or.inr (Or.inr (Or.inr ⟨hlk, hpwd, D, x, _, S4, E4, hdj, rfl, fun i hi hne => (hS4 i hi hne).trans (hS3 i hi hne), ((hm0.tr hm1).tr hm2).tr hm3, Or.inr ⟨by omega, by omega, _, G⟩⟩))⟩⟩
    refine zi_aload_n dk_67_0 rfl rfl ?_
    refine zj_iload_n dk_67_1 rfl ?_
    refine zi_invV dk_67_2 ml_0_141 iv_68 (G.cv (ct_68 (d := d - 1) (by omega) (by omega) hu0)) (by first | exact G.1 0 (by decide) | exact G.1 _ (by decide)) rfl rfl rfl (Nat.le_of_ble_eq_true rfl) (by omega) rfl rfl (fun r n' h' hq => ?_)
    obtain ⟨rfl, e1, e2⟩ := hq
    rw [cl_id G.1] at e2
    have e1 := e1.symm
    have e2 := e2.symm
    subst e1
    subst e2
    rw [if_pos hu]
    refine zj_if_ne (t := 10) dk_67_5 rfl (by omega) (fun c5 => ?_) (fun c5 => ?_)
    · skip
      refine zi_aload_n dk_67_10 rfl rfl ?_
      refine zi_getf dk_67_11 fl_0_51 (by first | exact G.1 0 (by decide) | exact G.1 _ (by decide)) rfl ?_
      refine zj_iload_n dk_67_14 rfl ?_
      refine zi_invV dk_67_15 ml_0_129 iv_57 (gt_get (d := d - 1) (by omega) (G.1 19 (by decide)) G.2.2.2.2.1.1 (by rw [List.length_map]; exact G.2.1.2.2.2.2.2.2.2.1.2.1) (by omega) m2) (by first | exact G.1 0 (by decide) | exact G.1 _ (by decide)) rfl rfl rfl (Nat.le_of_ble_eq_true rfl) (by omega) rfl rfl (fun r n' h' hq => ?_)
      obtain ⟨rfl, e1, e2⟩ := hq
      have e1 := e1.symm
      have e2 := e2.symm
      subst e1
      subst e2
      refine zi_castS dk_67_18 zw_404 m3 rfl ?_
      refine zi_astore dk_67_21 rfl rfl ?_
      refine zi_aload dk_67_23 rfl rfl ?_
      refine zi_aload_n dk_67_25 rfl rfl ?_
      refine zi_getf dk_67_26 fl_0_134 (by first | exact G.1 0 (by decide) | exact G.1 _ (by decide)) rfl ?_
      refine zi_invV dk_67_29 ml_0_144 iv_69 (ct_69 (d := d - 1) m3 (by omega)) m3 rfl rfl rfl (Nat.le_of_ble_eq_true rfl) (by omega) rfl rfl (fun r n' h' hq => ?_)
      obtain ⟨rfl, e1, e2⟩ := hq
      have e1 := e1.symm
      have e2 := e2.symm
      subst e1
      subst e2
      refine zj_if_eq (t := 38) dk_67_32 rfl (by split <;> omega) (fun c32 => ?_) (fun c32 => ?_)
      · skip
        have hlk : ¬ S 2 < p.2.2.2.2.2.2 := fun hh => by rw [if_pos hh] at c32; omega
        refine zi_aload dk_67_38 rfl rfl ?_
        refine zj_iload_n dk_67_40 rfl ?_
        refine zi_invV dk_67_41 ml_0_147 iv_70 (ct_70 (d := d - 1) (by omega) m3 (by omega)) m3 rfl rfl rfl (Nat.le_of_ble_eq_true rfl) (by omega) rfl rfl (fun r n' h' hq => ?_)
        obtain ⟨rfl, e1, e2⟩ := hq
        have e1 := e1.symm
        have e2 := e2.symm
        subst e1
        subst e2
        refine zj_if_ne (t := 72) dk_67_44 rfl (by split <;> omega) (fun c44 => ?_) (fun c44 => ?_)
        · skip
          have hpwd : hs_of pw p.2.2.1 p.2.2.2.1 = p.2.2.2.2.1 := by split at c44 <;> omega
          have G2 := G.usu m1 (x := (p.2.1, p.2.2.1, p.2.2.2.1, p.2.2.2.2.1, 0, p.2.2.2.2.2.2)) ⟨m4.1, m4.2.1, m4.2.2.1, m4.2.2.2.1, by dsimp only; omega, v5⟩
          refine zi_aload dk_67_72 rfl rfl ?_
          refine zi_invV dk_67_74 ml_0_156 iv_72 (ct_72 (d := d - 1) m3) m3 rfl rfl rfl (Nat.le_of_ble_eq_true rfl) (by omega) rfl rfl (fun r n' h' hq => ?_)
          rename zz_H => h5
          obtain ⟨rfl, rfl, rfl⟩ := hq
          obtain ⟨G2, hm0, -⟩ := G2
          have m5 := (zz_up_eq h p.1 (us_c (p.2.1, p.2.2.1, p.2.2.2.1, p.2.2.2.2.1, 0, p.2.2.2.2.2.2)))
          refine zi_aload dk_67_77 rfl rfl ?_
          refine zi_invV dk_67_79 ml_0_159 iv_73 (ct_73 (d := d - 1) m5 (by dsimp only; omega)) m5 rfl rfl rfl (Nat.le_of_ble_eq_true rfl) (by omega) rfl rfl (fun r n' h' hq => ?_)
          obtain ⟨rfl, e1, e2⟩ := hq
          have e1 := e1.symm
          have e2 := e2.symm
          subst e1
          subst e2
          dsimp only
          refine zj_if_eq (t := 95) dk_67_82 rfl (by split <;> omega) (fun c82 => ?_) (fun c82 => ?_)
          · skip
            exact key hlk hpwd _ _ _ (S 3) G2 hm0 rfl (fun _ _ _ => rfl) (Or.inr ⟨fun hh => by rw [if_pos hh] at c82; omega, rfl, rfl⟩)
          · skip
            have hsc0 : p.2.2.1 = 0 := by split at c82 <;> omega
            refine zi_aload dk_67_85 rfl rfl ?_
            refine zj_iload_n dk_67_87 rfl ?_
            refine zi_aload_n dk_67_88 rfl rfl ?_
            refine zi_invV dk_67_89 ml_0_106 iv_47 (G2.cv (ct_47 (d := d - 1))) (G2.1 0 (by decide)) rfl rfl rfl (Nat.le_of_ble_eq_true rfl) (by omega) rfl rfl (fun r n' h' hq => ?_)
            rename zz_H => h6
            obtain ⟨rfl, rfl, rfl⟩ := hq
            have lp := G.2.2.2.2.2.2.2.2.2.2.1.2.1 p (List.mem_of_getElem? m1)
            have G3 := G2.st (G2.2.1.s3 (x := S 3 + 1) (by omega))
            obtain ⟨G3, hm3, -⟩ := G3
            have m6 := (cl_o (b := b) (S := va_up S 3 (S 3 + 1)) (A := A) (E := E) (h0 := zz_up h p.1 (us_c (p.2.1, p.2.2.1, p.2.2.2.1, p.2.2.2.2.1, 0, p.2.2.2.2.2.2))) (a := p.1) (Or.inr (by omega))).trans m5
            have G4 := G3.usu (set_self m1) (x := (p.2.1, 1, S 3 + 1, hs_of pw 1 (S 3 + 1), 0, p.2.2.2.2.2.2)) ⟨m4.1, Or.inr rfl, by dsimp only; omega, hs_of_rg _ _ _ (by omega), by dsimp only; omega, v5⟩
            rw [List.set_set] at G4
            refine zi_invV dk_67_92 ml_0_163 iv_74 (ct_74 (d := d - 1) (by omega) m6) m6 rfl rfl rfl (Nat.le_of_ble_eq_true rfl) (by omega) rfl rfl (fun r n' h' hq => ?_)
            rename zz_H => h7
            obtain ⟨rfl, rfl, rfl⟩ := hq
            exact key hlk hpwd _ _ _ (S 3 + 1) G4.1 ((hm0.tr hm3).tr G4.2.1) (va_up_self _ _ _) (fun i hi hne => va_up_ne _ _ hne) (Or.inl ⟨hsc0, rfl, rfl⟩)
        · skip
          have hpwd : hs_of pw p.2.2.1 p.2.2.2.1 ≠ p.2.2.2.2.1 := fun hh => by rw [if_pos hh] at c44; omega
          refine zi_aload dk_67_47 rfl rfl ?_
          refine zi_aload_n dk_67_49 rfl rfl ?_
          refine zi_getf dk_67_50 fl_0_134 (by first | exact G.1 0 (by decide) | exact G.1 _ (by decide)) rfl ?_
          refine zi_invV dk_67_53 ml_0_150 iv_71 (ct_71 (d := d - 1) (by omega) m3 (by omega)) m3 rfl rfl rfl (Nat.le_of_ble_eq_true rfl) (by omega) rfl rfl (fun r n' h' hq => ?_)
          rename zz_H => h5
          obtain ⟨rfl, ⟨hw, rfl, rfl⟩ | ⟨hw, rfl, rfl⟩⟩ := hq
          · have G2 := G.usu m1 (x := (p.2.1, p.2.2.1, p.2.2.2.1, p.2.2.2.2.1, p.2.2.2.2.2.1 + 1, p.2.2.2.2.2.2)) ⟨m4.1, m4.2.1, m4.2.2.1, m4.2.2.2.1, by dsimp only; omega, v5⟩
            refine zj_if_eq (t := 69) dk_67_56 rfl (by omega) (fun c56 => ?_) (fun c56 => ?_)
            · skip
              refine zj_bipush dk_67_69 (by decide) ?_
              refine zj_ireturn dk_67_71 rfl ⟨Nat.le_refl _, Or.inr ⟨p, hu, m1, Or.inr (Or.inl ⟨hlk, hpwd, hw, rfl, G2.1, G2.2.1⟩)⟩⟩
            · omega
          · have G2 := G.usu m1 (x := (p.2.1, p.2.2.1, p.2.2.2.1, p.2.2.2.2.1, 0, S 2 + 10)) ⟨m4.1, m4.2.1, m4.2.2.1, m4.2.2.2.1, by dsimp only; omega, by dsimp only; omega⟩
            refine zj_if_eq (t := 69) dk_67_56 rfl (by omega) (fun c56 => ?_) (fun c56 => ?_)
            · omega
            · skip
              refine zi_aload_n dk_67_59 rfl rfl ?_
              refine zi_dup dk_67_60 rfl ?_
              refine zi_getf dk_67_61 fl_0_153 (G2.1.1 0 (by decide)) rfl ?_
              refine zj_iconst dk_67_64 ?_
              refine zj_iadd dk_67_65 ?_
              have G3 := G2.1.g8 (x := S 8 + 1) (G2.1.2.1.s48 (by decide))
              refine zj_putI dk_67_66 fp_67_153 (G2.1.1 0 (by decide)) rfl ?_
              refine zj_bipush dk_67_69 (by decide) ?_
              refine zj_ireturn dk_67_71 rfl ⟨Nat.le_refl _, Or.inr ⟨p, hu, m1, Or.inr (Or.inr (Or.inl ⟨hlk, hpwd, hw, rfl, G3.1, G2.2.1.tr G3.2.1⟩))⟩⟩
      · skip
        refine zj_bipush dk_67_35 (by decide) ?_
        refine zj_ireturn dk_67_37 rfl ⟨Nat.le_refl _, Or.inr ⟨p, hu, m1, Or.inl ⟨by split at c32 <;> omega, rfl, rfl⟩⟩⟩
    · omega
  · refine zi_aload_n dk_67_0 rfl rfl ?_
    refine zj_iload_n dk_67_1 rfl ?_
    refine zi_invV dk_67_2 ml_0_141 iv_68 (G.cv (ct_68 (d := d - 1) (by omega) (by omega) hu0)) (by first | exact G.1 0 (by decide) | exact G.1 _ (by decide)) rfl rfl rfl (Nat.le_of_ble_eq_true rfl) (by omega) rfl rfl (fun r n' h' hq => ?_)
    obtain ⟨rfl, e1, e2⟩ := hq
    rw [cl_id G.1] at e2
    have e1 := e1.symm
    have e2 := e2.symm
    subst e1
    subst e2
    rw [if_neg hu]
    refine zj_if_ne (t := 10) dk_67_5 rfl (by omega) (fun c5 => ?_) (fun c5 => ?_)
    · omega
    · skip
      refine zj_iconst dk_67_8 ?_
      refine zj_ireturn dk_67_9 rfl ⟨Nat.le_refl _, Or.inl ⟨hu, rfl, rfl⟩⟩

