/-! Conditions.isTrueFor; Roles -/
theorem ex_V.up {v : Int → Int} (h : ex_V v) {i x : Int} (hx : 0 ≤ x ∧ x ≤ 2) : ex_V (zU v i x) := by
  intro j h1 h2
  unfold zU
  split
  · exact hx
  · exact h j h1 h2
theorem lp_109 {X : zz_X} {d n : Nat} {h : zz_H} (hd : 2 ≤ d) {co : Nat} {o a b : Int → Int} {sz : Int} (g0 : h co = some (.inr (7, [.ref (co + 1), .ref (co + 2), .ref (co + 3), .ref (co + 4), zv sz]))) (g1 : h (co + 1) = some (zA 0 16 o)) (g2 : h (co + 2) = some (zA 0 16 a)) (g3 : h (co + 3) = some (zA 0 16 b)) (hz : 0 ≤ sz ∧ sz ≤ 16) (hw : ex_W o a b sz) {m ask held arg : Int} (hm : 0 ≤ m ∧ m < sz) (ha : -2147483648 ≤ ask ∧ ask < 2147483648) (hg : -2147483648 ≤ arg ∧ arg < 2147483648) {Q : Option Value → Nat → zz_H → Prop} : ∀ (k : Nat) (i : Int) (v : Int → Int) (x6 : Option Value), i + k = m + 1 → 0 ≤ i → ex_V v → (∀ v', ex_V v' → v' m = ex_run o a b ask held arg k i v m → Q (some (zv (bz (decide (v' m = 1))))) n (zz_up h (co + 4) (zA 0 16 v'))) →
    zz_Z X mm_109 d Q 0 0 13 [some (.ref co), some (zv m), some (zv ask), some (zv held), some (zv arg), some (zv i), x6] [] n (zz_up h (co + 4) (zA 0 16 v)) := by
  intro k
  induction k with
  | zero =>
    intro i v x6 hk hi hv hQ
    have hvm := hv m hm.1 (by omega)
    have hQ := hQ v hv rfl
    rw [bz_dec] at hQ
    refine zj_iload dk_109_13 rfl ?_
    refine zj_iload_n dk_109_15 rfl ?_
    refine zj_icmp_gt (t := 97) dk_109_16 rfl (by omega) (fun c16 => ?_) (fun c16 => ?_)
    · skip
      refine zi_aload_n dk_109_97 rfl rfl ?_
      refine zi_getf dk_109_98 fl_7_21 (by first | exact zz_up_eq _ _ _ | exact (zz_up_ne (by omega)).trans g0 | exact (zz_up_ne (by omega)).trans g1 | exact (zz_up_ne (by omega)).trans g2 | exact (zz_up_ne (by omega)).trans g3) rfl ?_
      refine zj_iload_n dk_109_101 rfl ?_
      refine zj_iald dk_109_102 (by first | exact zz_up_eq _ _ _ | exact (zz_up_ne (by omega)).trans g0 | exact (zz_up_ne (by omega)).trans g1 | exact (zz_up_ne (by omega)).trans g2 | exact (zz_up_ne (by omega)).trans g3) (by omega) ?_
      refine zj_iconst dk_109_103 ?_
      refine zj_icmp_ne (t := 111) dk_109_104 rfl (by omega) (fun c104 => ?_) (fun c104 => ?_)
      · skip
        refine zj_iconst dk_109_111 ?_
        refine zj_zreturn dk_109_112 rfl (by omega) (by first | (rw [if_pos (by omega)] at hQ; exact hQ) | (rw [if_neg (by omega)] at hQ; exact hQ))
      · skip
        refine zj_iconst dk_109_107 ?_
        refine zi_goto (t := 112) dk_109_108 rfl ?_
        refine zj_zreturn dk_109_112 rfl (by omega) (by first | (rw [if_pos (by omega)] at hQ; exact hQ) | (rw [if_neg (by omega)] at hQ; exact hQ))
    · omega
  | succ k ih =>
    intro i v x6 hk hi hv hQ
    obtain ⟨w1, w2, w3, w4, w5, w6⟩ := hw i hi (by omega)
    have key : ∀ (z : Int) (y6 : Option Value), z = ex_step o a b ask held arg v i → 0 ≤ z ∧ z ≤ 2 → zz_Z X mm_109 d Q 0 0 13 [some (.ref co), some (zv m), some (zv ask), some (zv held), some (zv arg), some (zv (i + 1)), y6] [] n (zz_up h (co + 4) (zA 0 16 (zU v i z))) := by
      intro z y6 hz1 hz2
      refine ih (i + 1) _ y6 (by omega) (by omega) (hv.up hz2) (fun v' hv' he => hQ v' hv' ?_)
      rw [he, hz1]
      rfl
    refine zj_iload dk_109_13 rfl ?_
    refine zj_iload_n dk_109_15 rfl ?_
    refine zj_icmp_gt (t := 97) dk_109_16 rfl (by omega) (fun c16 => ?_) (fun c16 => ?_)
    · omega
    · skip
      refine zi_aload_n dk_109_19 rfl rfl ?_
      refine zi_getf dk_109_20 fl_7_9 (by first | exact zz_up_eq _ _ _ | exact (zz_up_ne (by omega)).trans g0 | exact (zz_up_ne (by omega)).trans g1 | exact (zz_up_ne (by omega)).trans g2 | exact (zz_up_ne (by omega)).trans g3) rfl ?_
      refine zj_iload dk_109_23 rfl ?_
      refine zj_iald dk_109_25 (by first | exact zz_up_eq _ _ _ | exact (zz_up_ne (by omega)).trans g0 | exact (zz_up_ne (by omega)).trans g1 | exact (zz_up_ne (by omega)).trans g2 | exact (zz_up_ne (by omega)).trans g3) (by omega) ?_
      refine zj_iconst dk_109_26 ?_
      refine zj_icmp_eq (t := 53) dk_109_27 rfl (by omega) (fun c27 => ?_) (fun c27 => ?_)
      · skip
        refine zj_iconst dk_109_53 ?_
        refine zi_goto (t := 58) dk_109_54 rfl ?_
        refine zj_istore dk_109_58 rfl ?_
        refine zi_aload_n dk_109_60 rfl rfl ?_
        refine zi_getf dk_109_61 fl_7_21 (by first | exact zz_up_eq _ _ _ | exact (zz_up_ne (by omega)).trans g0 | exact (zz_up_ne (by omega)).trans g1 | exact (zz_up_ne (by omega)).trans g2 | exact (zz_up_ne (by omega)).trans g3) rfl ?_
        refine zj_iload dk_109_64 rfl ?_
        refine zj_iload dk_109_66 rfl ?_
        refine zj_if_eq (t := 80) dk_109_68 rfl (by omega) (fun c68 => ?_) (fun c68 => ?_)
        · skip
          refine zi_aload_n dk_109_80 rfl rfl ?_
          refine zj_iload dk_109_81 rfl ?_
          refine zj_iload_n dk_109_83 rfl ?_
          refine zj_iload_n dk_109_84 rfl ?_
          refine zj_iload dk_109_85 rfl ?_
          have vj : 0 ≤ ex_step o a b ask held arg v i ∧ ex_step o a b ask held arg v i ≤ 2 := by
            unfold ex_step
            rw [if_neg (by omega)]
            exact ex_sv_rg _ _ _ _ _ _
          refine zi_invV dk_109_87 ml_7_45 iv_112 (ct_112 (d := d - 1) (by omega) ((zz_up_ne (by omega)).trans g0) ((zz_up_ne (by omega)).trans g1) ((zz_up_ne (by omega)).trans g2) ((zz_up_ne (by omega)).trans g3) (zz_up_eq _ _ _) hz hw (by omega) ha hg) (by first | exact zz_up_eq _ _ _ | exact (zz_up_ne (by omega)).trans g0 | exact (zz_up_ne (by omega)).trans g1 | exact (zz_up_ne (by omega)).trans g2 | exact (zz_up_ne (by omega)).trans g3) rfl rfl rfl (Nat.le_of_ble_eq_true rfl) (by omega) rfl rfl (fun r n' h' hq => ?_)
          obtain ⟨rfl, rfl, rfl⟩ := hq
          refine zj_iast dk_109_90 (by first | exact zz_up_eq _ _ _ | exact (zz_up_ne (by omega)).trans g0 | exact (zz_up_ne (by omega)).trans g1 | exact (zz_up_ne (by omega)).trans g2 | exact (zz_up_ne (by omega)).trans g3) (by omega) ?_
          rw [zz_up_up]
          refine zj_iinc dk_109_91 rfl rfl ?_
          refine zi_goto (t := 13) dk_109_94 rfl ?_
          have hstep : ex_sv (o i) (a i) (b i) ask held arg = ex_step o a b ask held arg v i := by unfold ex_step; rw [if_neg (by omega)]
          rw [hstep]
          exact key _ _ rfl vj
        · skip
          refine zi_aload_n dk_109_71 rfl rfl ?_
          refine zj_iload dk_109_72 rfl ?_
          have w5 := w5 (by omega)
          have vj : 0 ≤ ex_step o a b ask held arg v i ∧ ex_step o a b ask held arg v i ≤ 2 := by
            unfold ex_step
            rw [if_pos (by omega)]
            by_cases h56 : 5 ≤ o i
            · have w6 := w6 (by omega)
              exact ex_jv_rg (hv _ w5.1 (by omega)) (hv _ w6.1 (by omega))
            · have h4 : o i = 4 := by omega
              have := hv _ w5.1 (by omega)
              unfold ex_jv
              rw [h4]
              (repeat' split) <;> omega
          refine zi_invV dk_109_74 ml_7_41 iv_110 (ct_110 (d := d - 1) (by omega) ((zz_up_ne (by omega)).trans g0) ((zz_up_ne (by omega)).trans g1) ((zz_up_ne (by omega)).trans g2) ((zz_up_ne (by omega)).trans g3) (zz_up_eq _ _ _) hz hw hv (by omega) (by omega)) (by first | exact zz_up_eq _ _ _ | exact (zz_up_ne (by omega)).trans g0 | exact (zz_up_ne (by omega)).trans g1 | exact (zz_up_ne (by omega)).trans g2 | exact (zz_up_ne (by omega)).trans g3) rfl rfl rfl (Nat.le_of_ble_eq_true rfl) (by omega) rfl rfl (fun r n' h' hq => ?_)
          obtain ⟨rfl, rfl, rfl⟩ := hq
          refine zi_goto (t := 90) dk_109_77 rfl ?_
          refine zj_iast dk_109_90 (by first | exact zz_up_eq _ _ _ | exact (zz_up_ne (by omega)).trans g0 | exact (zz_up_ne (by omega)).trans g1 | exact (zz_up_ne (by omega)).trans g2 | exact (zz_up_ne (by omega)).trans g3) (by omega) ?_
          rw [zz_up_up]
          refine zj_iinc dk_109_91 rfl rfl ?_
          refine zi_goto (t := 13) dk_109_94 rfl ?_
          have hstep : ex_jv (o i) (v (a i)) (v (b i)) = ex_step o a b ask held arg v i := by unfold ex_step; rw [if_pos (by omega)]
          rw [hstep]
          exact key _ _ rfl vj
      · skip
        refine zi_aload_n dk_109_30 rfl rfl ?_
        refine zi_getf dk_109_31 fl_7_9 (by first | exact zz_up_eq _ _ _ | exact (zz_up_ne (by omega)).trans g0 | exact (zz_up_ne (by omega)).trans g1 | exact (zz_up_ne (by omega)).trans g2 | exact (zz_up_ne (by omega)).trans g3) rfl ?_
        refine zj_iload dk_109_34 rfl ?_
        refine zj_iald dk_109_36 (by first | exact zz_up_eq _ _ _ | exact (zz_up_ne (by omega)).trans g0 | exact (zz_up_ne (by omega)).trans g1 | exact (zz_up_ne (by omega)).trans g2 | exact (zz_up_ne (by omega)).trans g3) (by omega) ?_
        refine zj_iconst dk_109_37 ?_
        refine zj_icmp_eq (t := 53) dk_109_38 rfl (by omega) (fun c38 => ?_) (fun c38 => ?_)
        · skip
          refine zj_iconst dk_109_53 ?_
          refine zi_goto (t := 58) dk_109_54 rfl ?_
          refine zj_istore dk_109_58 rfl ?_
          refine zi_aload_n dk_109_60 rfl rfl ?_
          refine zi_getf dk_109_61 fl_7_21 (by first | exact zz_up_eq _ _ _ | exact (zz_up_ne (by omega)).trans g0 | exact (zz_up_ne (by omega)).trans g1 | exact (zz_up_ne (by omega)).trans g2 | exact (zz_up_ne (by omega)).trans g3) rfl ?_
          refine zj_iload dk_109_64 rfl ?_
          refine zj_iload dk_109_66 rfl ?_
          refine zj_if_eq (t := 80) dk_109_68 rfl (by omega) (fun c68 => ?_) (fun c68 => ?_)
          · skip
            refine zi_aload_n dk_109_80 rfl rfl ?_
            refine zj_iload dk_109_81 rfl ?_
            refine zj_iload_n dk_109_83 rfl ?_
            refine zj_iload_n dk_109_84 rfl ?_
            refine zj_iload dk_109_85 rfl ?_
            have vj : 0 ≤ ex_step o a b ask held arg v i ∧ ex_step o a b ask held arg v i ≤ 2 := by
              unfold ex_step
              rw [if_neg (by omega)]
              exact ex_sv_rg _ _ _ _ _ _
            refine zi_invV dk_109_87 ml_7_45 iv_112 (ct_112 (d := d - 1) (by omega) ((zz_up_ne (by omega)).trans g0) ((zz_up_ne (by omega)).trans g1) ((zz_up_ne (by omega)).trans g2) ((zz_up_ne (by omega)).trans g3) (zz_up_eq _ _ _) hz hw (by omega) ha hg) (by first | exact zz_up_eq _ _ _ | exact (zz_up_ne (by omega)).trans g0 | exact (zz_up_ne (by omega)).trans g1 | exact (zz_up_ne (by omega)).trans g2 | exact (zz_up_ne (by omega)).trans g3) rfl rfl rfl (Nat.le_of_ble_eq_true rfl) (by omega) rfl rfl (fun r n' h' hq => ?_)
            obtain ⟨rfl, rfl, rfl⟩ := hq
            refine zj_iast dk_109_90 (by first | exact zz_up_eq _ _ _ | exact (zz_up_ne (by omega)).trans g0 | exact (zz_up_ne (by omega)).trans g1 | exact (zz_up_ne (by omega)).trans g2 | exact (zz_up_ne (by omega)).trans g3) (by omega) ?_
            rw [zz_up_up]
            refine zj_iinc dk_109_91 rfl rfl ?_
            refine zi_goto (t := 13) dk_109_94 rfl ?_
            have hstep : ex_sv (o i) (a i) (b i) ask held arg = ex_step o a b ask held arg v i := by unfold ex_step; rw [if_neg (by omega)]
            rw [hstep]
            exact key _ _ rfl vj
          · skip
            refine zi_aload_n dk_109_71 rfl rfl ?_
            refine zj_iload dk_109_72 rfl ?_
            have w5 := w5 (by omega)
            have vj : 0 ≤ ex_step o a b ask held arg v i ∧ ex_step o a b ask held arg v i ≤ 2 := by
              unfold ex_step
              rw [if_pos (by omega)]
              by_cases h56 : 5 ≤ o i
              · have w6 := w6 (by omega)
                exact ex_jv_rg (hv _ w5.1 (by omega)) (hv _ w6.1 (by omega))
              · have h4 : o i = 4 := by omega
                have := hv _ w5.1 (by omega)
                unfold ex_jv
                rw [h4]
                (repeat' split) <;> omega
            refine zi_invV dk_109_74 ml_7_41 iv_110 (ct_110 (d := d - 1) (by omega) ((zz_up_ne (by omega)).trans g0) ((zz_up_ne (by omega)).trans g1) ((zz_up_ne (by omega)).trans g2) ((zz_up_ne (by omega)).trans g3) (zz_up_eq _ _ _) hz hw hv (by omega) (by omega)) (by first | exact zz_up_eq _ _ _ | exact (zz_up_ne (by omega)).trans g0 | exact (zz_up_ne (by omega)).trans g1 | exact (zz_up_ne (by omega)).trans g2 | exact (zz_up_ne (by omega)).trans g3) rfl rfl rfl (Nat.le_of_ble_eq_true rfl) (by omega) rfl rfl (fun r n' h' hq => ?_)
            obtain ⟨rfl, rfl, rfl⟩ := hq
            refine zi_goto (t := 90) dk_109_77 rfl ?_
            refine zj_iast dk_109_90 (by first | exact zz_up_eq _ _ _ | exact (zz_up_ne (by omega)).trans g0 | exact (zz_up_ne (by omega)).trans g1 | exact (zz_up_ne (by omega)).trans g2 | exact (zz_up_ne (by omega)).trans g3) (by omega) ?_
            rw [zz_up_up]
            refine zj_iinc dk_109_91 rfl rfl ?_
            refine zi_goto (t := 13) dk_109_94 rfl ?_
            have hstep : ex_jv (o i) (v (a i)) (v (b i)) = ex_step o a b ask held arg v i := by unfold ex_step; rw [if_pos (by omega)]
            rw [hstep]
            exact key _ _ rfl vj
        · skip
          refine zi_aload_n dk_109_41 rfl rfl ?_
          refine zi_getf dk_109_42 fl_7_9 (by first | exact zz_up_eq _ _ _ | exact (zz_up_ne (by omega)).trans g0 | exact (zz_up_ne (by omega)).trans g1 | exact (zz_up_ne (by omega)).trans g2 | exact (zz_up_ne (by omega)).trans g3) rfl ?_
          refine zj_iload dk_109_45 rfl ?_
          refine zj_iald dk_109_47 (by first | exact zz_up_eq _ _ _ | exact (zz_up_ne (by omega)).trans g0 | exact (zz_up_ne (by omega)).trans g1 | exact (zz_up_ne (by omega)).trans g2 | exact (zz_up_ne (by omega)).trans g3) (by omega) ?_
          refine zj_bipush dk_109_48 (by decide) ?_
          refine zj_icmp_ne (t := 57) dk_109_50 rfl (by omega) (fun c50 => ?_) (fun c50 => ?_)
          · skip
            refine zj_iconst dk_109_57 ?_
            refine zj_istore dk_109_58 rfl ?_
            refine zi_aload_n dk_109_60 rfl rfl ?_
            refine zi_getf dk_109_61 fl_7_21 (by first | exact zz_up_eq _ _ _ | exact (zz_up_ne (by omega)).trans g0 | exact (zz_up_ne (by omega)).trans g1 | exact (zz_up_ne (by omega)).trans g2 | exact (zz_up_ne (by omega)).trans g3) rfl ?_
            refine zj_iload dk_109_64 rfl ?_
            refine zj_iload dk_109_66 rfl ?_
            refine zj_if_eq (t := 80) dk_109_68 rfl (by omega) (fun c68 => ?_) (fun c68 => ?_)
            · skip
              refine zi_aload_n dk_109_80 rfl rfl ?_
              refine zj_iload dk_109_81 rfl ?_
              refine zj_iload_n dk_109_83 rfl ?_
              refine zj_iload_n dk_109_84 rfl ?_
              refine zj_iload dk_109_85 rfl ?_
              have vj : 0 ≤ ex_step o a b ask held arg v i ∧ ex_step o a b ask held arg v i ≤ 2 := by
                unfold ex_step
                rw [if_neg (by omega)]
                exact ex_sv_rg _ _ _ _ _ _
              refine zi_invV dk_109_87 ml_7_45 iv_112 (ct_112 (d := d - 1) (by omega) ((zz_up_ne (by omega)).trans g0) ((zz_up_ne (by omega)).trans g1) ((zz_up_ne (by omega)).trans g2) ((zz_up_ne (by omega)).trans g3) (zz_up_eq _ _ _) hz hw (by omega) ha hg) (by first | exact zz_up_eq _ _ _ | exact (zz_up_ne (by omega)).trans g0 | exact (zz_up_ne (by omega)).trans g1 | exact (zz_up_ne (by omega)).trans g2 | exact (zz_up_ne (by omega)).trans g3) rfl rfl rfl (Nat.le_of_ble_eq_true rfl) (by omega) rfl rfl (fun r n' h' hq => ?_)
              obtain ⟨rfl, rfl, rfl⟩ := hq
              refine zj_iast dk_109_90 (by first | exact zz_up_eq _ _ _ | exact (zz_up_ne (by omega)).trans g0 | exact (zz_up_ne (by omega)).trans g1 | exact (zz_up_ne (by omega)).trans g2 | exact (zz_up_ne (by omega)).trans g3) (by omega) ?_
              rw [zz_up_up]
              refine zj_iinc dk_109_91 rfl rfl ?_
              refine zi_goto (t := 13) dk_109_94 rfl ?_
              have hstep : ex_sv (o i) (a i) (b i) ask held arg = ex_step o a b ask held arg v i := by unfold ex_step; rw [if_neg (by omega)]
              rw [hstep]
              exact key _ _ rfl vj
            · skip
              refine zi_aload_n dk_109_71 rfl rfl ?_
              refine zj_iload dk_109_72 rfl ?_
              have w5 := w5 (by omega)
              have vj : 0 ≤ ex_step o a b ask held arg v i ∧ ex_step o a b ask held arg v i ≤ 2 := by
                unfold ex_step
                rw [if_pos (by omega)]
                by_cases h56 : 5 ≤ o i
                · have w6 := w6 (by omega)
                  exact ex_jv_rg (hv _ w5.1 (by omega)) (hv _ w6.1 (by omega))
                · have h4 : o i = 4 := by omega
                  have := hv _ w5.1 (by omega)
                  unfold ex_jv
                  rw [h4]
                  (repeat' split) <;> omega
              refine zi_invV dk_109_74 ml_7_41 iv_110 (ct_110 (d := d - 1) (by omega) ((zz_up_ne (by omega)).trans g0) ((zz_up_ne (by omega)).trans g1) ((zz_up_ne (by omega)).trans g2) ((zz_up_ne (by omega)).trans g3) (zz_up_eq _ _ _) hz hw hv (by omega) (by omega)) (by first | exact zz_up_eq _ _ _ | exact (zz_up_ne (by omega)).trans g0 | exact (zz_up_ne (by omega)).trans g1 | exact (zz_up_ne (by omega)).trans g2 | exact (zz_up_ne (by omega)).trans g3) rfl rfl rfl (Nat.le_of_ble_eq_true rfl) (by omega) rfl rfl (fun r n' h' hq => ?_)
              obtain ⟨rfl, rfl, rfl⟩ := hq
              refine zi_goto (t := 90) dk_109_77 rfl ?_
              refine zj_iast dk_109_90 (by first | exact zz_up_eq _ _ _ | exact (zz_up_ne (by omega)).trans g0 | exact (zz_up_ne (by omega)).trans g1 | exact (zz_up_ne (by omega)).trans g2 | exact (zz_up_ne (by omega)).trans g3) (by omega) ?_
              rw [zz_up_up]
              refine zj_iinc dk_109_91 rfl rfl ?_
              refine zi_goto (t := 13) dk_109_94 rfl ?_
              have hstep : ex_jv (o i) (v (a i)) (v (b i)) = ex_step o a b ask held arg v i := by unfold ex_step; rw [if_pos (by omega)]
              rw [hstep]
              exact key _ _ rfl vj
          · skip
            refine zj_iconst dk_109_53 ?_
            refine zi_goto (t := 58) dk_109_54 rfl ?_
            refine zj_istore dk_109_58 rfl ?_
            refine zi_aload_n dk_109_60 rfl rfl ?_
            refine zi_getf dk_109_61 fl_7_21 (by first | exact zz_up_eq _ _ _ | exact (zz_up_ne (by omega)).trans g0 | exact (zz_up_ne (by omega)).trans g1 | exact (zz_up_ne (by omega)).trans g2 | exact (zz_up_ne (by omega)).trans g3) rfl ?_
            refine zj_iload dk_109_64 rfl ?_
            refine zj_iload dk_109_66 rfl ?_
            refine zj_if_eq (t := 80) dk_109_68 rfl (by omega) (fun c68 => ?_) (fun c68 => ?_)
            · skip
              refine zi_aload_n dk_109_80 rfl rfl ?_
              refine zj_iload dk_109_81 rfl ?_
              refine zj_iload_n dk_109_83 rfl ?_
              refine zj_iload_n dk_109_84 rfl ?_
              refine zj_iload dk_109_85 rfl ?_
              have vj : 0 ≤ ex_step o a b ask held arg v i ∧ ex_step o a b ask held arg v i ≤ 2 := by
                unfold ex_step
                rw [if_neg (by omega)]
                exact ex_sv_rg _ _ _ _ _ _
              refine zi_invV dk_109_87 ml_7_45 iv_112 (ct_112 (d := d - 1) (by omega) ((zz_up_ne (by omega)).trans g0) ((zz_up_ne (by omega)).trans g1) ((zz_up_ne (by omega)).trans g2) ((zz_up_ne (by omega)).trans g3) (zz_up_eq _ _ _) hz hw (by omega) ha hg) (by first | exact zz_up_eq _ _ _ | exact (zz_up_ne (by omega)).trans g0 | exact (zz_up_ne (by omega)).trans g1 | exact (zz_up_ne (by omega)).trans g2 | exact (zz_up_ne (by omega)).trans g3) rfl rfl rfl (Nat.le_of_ble_eq_true rfl) (by omega) rfl rfl (fun r n' h' hq => ?_)
              obtain ⟨rfl, rfl, rfl⟩ := hq
              refine zj_iast dk_109_90 (by first | exact zz_up_eq _ _ _ | exact (zz_up_ne (by omega)).trans g0 | exact (zz_up_ne (by omega)).trans g1 | exact (zz_up_ne (by omega)).trans g2 | exact (zz_up_ne (by omega)).trans g3) (by omega) ?_
              rw [zz_up_up]
              refine zj_iinc dk_109_91 rfl rfl ?_
              refine zi_goto (t := 13) dk_109_94 rfl ?_
              have hstep : ex_sv (o i) (a i) (b i) ask held arg = ex_step o a b ask held arg v i := by unfold ex_step; rw [if_neg (by omega)]
              rw [hstep]
              exact key _ _ rfl vj
            · skip
              refine zi_aload_n dk_109_71 rfl rfl ?_
              refine zj_iload dk_109_72 rfl ?_
              have w5 := w5 (by omega)
              have vj : 0 ≤ ex_step o a b ask held arg v i ∧ ex_step o a b ask held arg v i ≤ 2 := by
                unfold ex_step
                rw [if_pos (by omega)]
                by_cases h56 : 5 ≤ o i
                · have w6 := w6 (by omega)
                  exact ex_jv_rg (hv _ w5.1 (by omega)) (hv _ w6.1 (by omega))
                · have h4 : o i = 4 := by omega
                  have := hv _ w5.1 (by omega)
                  unfold ex_jv
                  rw [h4]
                  (repeat' split) <;> omega
              refine zi_invV dk_109_74 ml_7_41 iv_110 (ct_110 (d := d - 1) (by omega) ((zz_up_ne (by omega)).trans g0) ((zz_up_ne (by omega)).trans g1) ((zz_up_ne (by omega)).trans g2) ((zz_up_ne (by omega)).trans g3) (zz_up_eq _ _ _) hz hw hv (by omega) (by omega)) (by first | exact zz_up_eq _ _ _ | exact (zz_up_ne (by omega)).trans g0 | exact (zz_up_ne (by omega)).trans g1 | exact (zz_up_ne (by omega)).trans g2 | exact (zz_up_ne (by omega)).trans g3) rfl rfl rfl (Nat.le_of_ble_eq_true rfl) (by omega) rfl rfl (fun r n' h' hq => ?_)
              obtain ⟨rfl, rfl, rfl⟩ := hq
              refine zi_goto (t := 90) dk_109_77 rfl ?_
              refine zj_iast dk_109_90 (by first | exact zz_up_eq _ _ _ | exact (zz_up_ne (by omega)).trans g0 | exact (zz_up_ne (by omega)).trans g1 | exact (zz_up_ne (by omega)).trans g2 | exact (zz_up_ne (by omega)).trans g3) (by omega) ?_
              rw [zz_up_up]
              refine zj_iinc dk_109_91 rfl rfl ?_
              refine zi_goto (t := 13) dk_109_94 rfl ?_
              have hstep : ex_jv (o i) (v (a i)) (v (b i)) = ex_step o a b ask held arg v i := by unfold ex_step; rw [if_pos (by omega)]
              rw [hstep]
              exact key _ _ rfl vj

theorem ct_109 {X : zz_X} {d n : Nat} {h : zz_H} (hd : 3 ≤ d) {co : Nat} {o a b v : Int → Int} {sz : Int} (g0 : h co = some (.inr (7, [.ref (co + 1), .ref (co + 2), .ref (co + 3), .ref (co + 4), zv sz]))) (g1 : h (co + 1) = some (zA 0 16 o)) (g2 : h (co + 2) = some (zA 0 16 a)) (g3 : h (co + 3) = some (zA 0 16 b)) (g4 : h (co + 4) = some (zA 0 16 v)) (hz : 0 ≤ sz ∧ sz ≤ 16) (hw : ex_W o a b sz) (hv : ex_V v) {m ask held arg : Int} (hm : -2147483648 ≤ m ∧ m < 2147483648) (ha : -2147483648 ≤ ask ∧ ask < 2147483648) (hg : -2147483648 ≤ arg ∧ arg < 2147483648) : zz_Ct X mm_109 d 0 0 [.ref co, zv m, zv ask, zv held, zv arg] n h (fun r n' h' => n' = n ∧ ((¬ (0 ≤ m ∧ m < sz) ∧ r = some (zv 0) ∧ h' = h) ∨ ((0 ≤ m ∧ m < sz) ∧ r = some (zv (bz (decide (ex_run o a b ask held arg (m + 1).toNat 0 v m = 1)))) ∧ ∃ v', ex_V v' ∧ h' = zz_up h (co + 4) (zA 0 16 v')))) := by
  refine zz_start (by decide) (ls := [some (.ref co), some (zv m), some (zv ask), some (zv held), some (zv arg), none, none]) rfl ?_
  refine zi_aload_n dk_109_0 rfl rfl ?_
  refine zj_iload_n dk_109_1 rfl ?_
  refine zi_invV dk_109_2 ml_7_38 iv_21 (ct_21 (d := d - 1) g0 g1 g2 g3 g4 hz hw hm) (by first | assumption | exact zz_up_eq _ _ _ | omega | exact Ne.symm (by assumption) | (refine (zz_up_ne ?_).trans ?_ <;> first | assumption | exact zz_up_eq _ _ _ | omega | exact Ne.symm (by assumption) | (refine (zz_up_ne ?_).trans ?_ <;> first | assumption | exact zz_up_eq _ _ _ | omega | exact Ne.symm (by assumption) | (refine (zz_up_ne ?_).trans ?_ <;> first | assumption | exact zz_up_eq _ _ _ | omega | exact Ne.symm (by assumption))))) rfl rfl rfl (Nat.le_of_ble_eq_true rfl) (by omega) rfl rfl (fun r n' h' hq => ?_)
  obtain ⟨rfl, rfl, rfl⟩ := hq
  refine zj_if_ne (t := 10) dk_109_5 rfl (by split <;> omega) (fun c5 => ?_) (fun c5 => ?_)
  · skip
    refine zj_iconst dk_109_10 ?_
    refine zj_istore dk_109_11 rfl ?_
    have hms : 0 ≤ m ∧ m < sz := by split at c5 <;> omega
    have hg := lp_109 (X := X) (d := d) (n := n') (by omega) g0 g1 g2 g3 hz hw hms ha hg (Q := fun r n2 h2 => n2 = n' ∧ ((¬ (0 ≤ m ∧ m < sz) ∧ r = some (zv 0) ∧ h2 = h') ∨ ((0 ≤ m ∧ m < sz) ∧ r = some (zv (bz (decide (ex_run o a b ask held arg (m + 1).toNat 0 v m = 1)))) ∧ ∃ v', ex_V v' ∧ h2 = zz_up h' (co + 4) (zA 0 16 v')))) (m + 1).toNat 0 v none (by omega) (by omega) hv (fun v' hv' he => ⟨rfl, Or.inr ⟨hms, by rw [he], v', hv', rfl⟩⟩)
    rw [zz_up_same g4] at hg
    exact hg
  · skip
    refine zj_iconst dk_109_8 ?_
    refine zj_zreturn dk_109_9 rfl (by omega) ⟨rfl, Or.inl ⟨by split at c5 <;> omega, rfl, rfl⟩⟩

def rl_V (g : Int → Int) : Prop := ∀ i, 0 ≤ i → i < 8 → 0 ≤ g i ∧ g i < 256
def rl_add (g : Int → Int) (r s : Int) : Int → Int := fun i => if zb_bit (g i) r = true then zb_or (g i) (g s) else g i
def rl_inc (g : Int → Int) (gv : Int) : Nat → Int → Int → Int
  | 0, _, all => all
  | k + 1, r, all => rl_inc g gv k (r + 1) (if zb_bit gv r = true then zb_or all (g r) else all)
theorem rl_inc_rg (g : Int → Int) (gv : Int) : ∀ (k : Nat) (r all : Int), (-2147483648 ≤ all ∧ all < 2147483648) → -2147483648 ≤ rl_inc g gv k r all ∧ rl_inc g gv k r all < 2147483648
  | 0, _, _, h => h
  | k + 1, r, all, h => by
    unfold rl_inc
    refine rl_inc_rg g gv k (r + 1) _ ?_
    split
    · exact zb_or_rg _ _
    · exact h
theorem lp_108 {X : zz_X} {d n : Nat} {h : zz_H} (hd : 1 ≤ d) {ro : Nat} {g : Int → Int} (h1 : h ro = some (.inr (6, [.ref (ro + 1)]))) (h2 : h (ro + 1) = some (zA 0 8 g)) {gv : Int} {Q : Option Value → Nat → zz_H → Prop} : ∀ (k : Nat) (r all : Int), r + k = 8 → 0 ≤ r → Q (some (zv (rl_inc g gv k r all))) n h →
    zz_Z X mm_108 d Q 0 0 4 [some (.ref ro), some (zv gv), some (zv all), some (zv r)] [] n h := by
  intro k
  induction k with
  | zero =>
    intro r all hk hr hQ
    refine zj_iload_n dk_108_4 rfl ?_
    refine zj_bipush dk_108_5 (by decide) ?_
    refine zj_icmp_ge (t := 33) dk_108_7 rfl (by omega) (fun c7 => ?_) (fun c7 => ?_)
    · skip
      refine zj_iload_n dk_108_33 rfl ?_
      refine zj_ireturn dk_108_34 rfl hQ
    · omega
  | succ k ih =>
    intro r all hk hr hQ
    have q1 := bz_rg (zb_bit gv r)
    unfold rl_inc at hQ
    refine zj_iload_n dk_108_4 rfl ?_
    refine zj_bipush dk_108_5 (by decide) ?_
    refine zj_icmp_ge (t := 33) dk_108_7 rfl (by omega) (fun c7 => ?_) (fun c7 => ?_)
    · omega
    · skip
      refine zj_iload_n dk_108_10 rfl ?_
      refine zj_iload_n dk_108_11 rfl ?_
      refine zi_invS dk_108_12 ml_6_19 is_45 (ct_45 (d := d - 1)) rfl rfl (Nat.le_of_ble_eq_true rfl) (by omega) rfl rfl (fun r n' h' hq => ?_)
      obtain ⟨rfl, rfl, rfl⟩ := hq
      refine zj_if_eq (t := 27) dk_108_15 rfl (by omega) (fun c15 => ?_) (fun c15 => ?_)
      · skip
        refine zj_iinc dk_108_27 rfl rfl ?_
        refine zi_goto (t := 4) dk_108_30 rfl ?_
        exact ih (r + 1) _ (by omega) (by omega) (by first | (rw [if_pos (bz_ne0.mp c15)] at hQ; exact hQ) | (rw [if_neg (by rw [bz_eq0.mp c15]; decide)] at hQ; exact hQ))
      · skip
        refine zj_iload_n dk_108_18 rfl ?_
        refine zi_aload_n dk_108_19 rfl rfl ?_
        refine zi_getf dk_108_20 fl_6_9 (by first | assumption | exact zz_up_eq _ _ _ | omega | exact Ne.symm (by assumption) | (refine (zz_up_ne ?_).trans ?_ <;> first | assumption | exact zz_up_eq _ _ _ | omega | exact Ne.symm (by assumption) | (refine (zz_up_ne ?_).trans ?_ <;> first | assumption | exact zz_up_eq _ _ _ | omega | exact Ne.symm (by assumption) | (refine (zz_up_ne ?_).trans ?_ <;> first | assumption | exact zz_up_eq _ _ _ | omega | exact Ne.symm (by assumption))))) rfl ?_
        refine zj_iload_n dk_108_23 rfl ?_
        refine zj_iald dk_108_24 (by first | assumption | exact zz_up_eq _ _ _ | omega | exact Ne.symm (by assumption) | (refine (zz_up_ne ?_).trans ?_ <;> first | assumption | exact zz_up_eq _ _ _ | omega | exact Ne.symm (by assumption) | (refine (zz_up_ne ?_).trans ?_ <;> first | assumption | exact zz_up_eq _ _ _ | omega | exact Ne.symm (by assumption) | (refine (zz_up_ne ?_).trans ?_ <;> first | assumption | exact zz_up_eq _ _ _ | omega | exact Ne.symm (by assumption))))) (by omega) ?_
        refine zj_ior dk_108_25 ?_
        refine zj_istore_n dk_108_26 rfl ?_
        refine zj_iinc dk_108_27 rfl rfl ?_
        refine zi_goto (t := 4) dk_108_30 rfl ?_
        exact ih (r + 1) _ (by omega) (by omega) (by first | (rw [if_pos (bz_ne0.mp c15)] at hQ; exact hQ) | (rw [if_neg (by rw [bz_eq0.mp c15]; decide)] at hQ; exact hQ))

theorem ct_108 {X : zz_X} {d n : Nat} {h : zz_H} (hd : 1 ≤ d) {ro : Nat} {g : Int → Int} (h1 : h ro = some (.inr (6, [.ref (ro + 1)]))) (h2 : h (ro + 1) = some (zA 0 8 g)) {gv : Int} : zz_Ct X mm_108 d 0 0 [.ref ro, zv gv] n h (zp (some (zv (rl_inc g gv 8 0 0))) n h) := by
  refine zz_start (by decide) (ls := [some (.ref ro), some (zv gv), none, none]) rfl ?_
  refine zj_iconst dk_108_0 ?_
  refine zj_istore_n dk_108_1 rfl ?_
  refine zj_iconst dk_108_2 ?_
  refine zj_istore_n dk_108_3 rfl ?_
  exact lp_108 hd h1 h2 8 0 0 (by omega) (by omega) ⟨rfl, rfl, rfl⟩

theorem lp_44 {X : zz_X} {d n : Nat} {h : zz_H} (hd : 1 ≤ d) {ro : Nat} (h1 : h ro = some (.inr (6, [.ref (ro + 1)]))) {g0 : Int → Int} {r s : Int} (hr : 0 ≤ r ∧ r < 8) (hs : 0 ≤ s ∧ s < 8) (hg0 : rl_V g0) {Q : Option Value → Nat → zz_H → Prop} (hQ : ∀ g, (∀ j, 0 ≤ j → j < 8 → g j = rl_add g0 r s j) → Q (some (zv 1)) n (zz_up h (ro + 1) (zA 0 8 g))) : ∀ (k : Nat) (i : Int) (g : Int → Int), i + k = 8 → 0 ≤ i → (∀ j, 0 ≤ j → j < i → g j = rl_add g0 r s j) → (∀ j, i ≤ j → j < 8 → g j = g0 j) →
    zz_Z X mm_44 d Q 0 0 31 [some (.ref ro), some (zv r), some (zv s), some (zv i)] [] n (zz_up h (ro + 1) (zA 0 8 g)) := by
  have h1' : ∀ e, zz_up h (ro + 1) e ro = some (.inr (6, [.ref (ro + 1)])) := fun e => (zz_up_ne (by omega)).trans h1
  intro k
  induction k with
  | zero =>
    intro i g hk hi hA hB
    refine zj_iload_n dk_44_31 rfl ?_
    refine zj_bipush dk_44_32 (by decide) ?_
    refine zj_icmp_ge (t := 71) dk_44_34 rfl (by omega) (fun c34 => ?_) (fun c34 => ?_)
    · skip
      refine zj_iconst dk_44_71 ?_
      refine zj_zreturn dk_44_72 rfl (by omega) (hQ g (fun j hj1 hj2 => hA j hj1 (by omega)))
    · omega
  | succ k ih =>
    intro i g hk hi hA hB
    have e1 := hB i (by omega) (by omega)
    have q1 := bz_rg (zb_bit (g i) r)
    have es : g s = g0 s := by
      by_cases hsi : s < i
      · rw [hA s hs.1 hsi]
        unfold rl_add
        have := hg0 s hs.1 hs.2
        split
        · exact zb_or_self (by omega)
        · rfl
      · exact hB s (by omega) hs.2
    have key : ∀ g', (∀ j, j ≠ i → g' j = g j) → g' i = rl_add g0 r s i → zz_Z X mm_44 d Q 0 0 31 [some (.ref ro), some (zv r), some (zv s), some (zv (i + 1))] [] n (zz_up h (ro + 1) (zA 0 8 g')) := by
      intro g' k1 k2
      refine ih (i + 1) g' (by omega) (by omega) (fun j hj1 hj2 => ?_) (fun j hj1 hj2 => ?_)
      · by_cases hji : j = i
        · rw [hji]; exact k2
        · rw [k1 j hji]; exact hA j hj1 (by omega)
      · rw [k1 j (by omega)]; exact hB j (by omega) hj2
    refine zj_iload_n dk_44_31 rfl ?_
    refine zj_bipush dk_44_32 (by decide) ?_
    refine zj_icmp_ge (t := 71) dk_44_34 rfl (by omega) (fun c34 => ?_) (fun c34 => ?_)
    · omega
    · skip
      refine zi_aload_n dk_44_37 rfl rfl ?_
      refine zi_getf dk_44_38 fl_6_9 (by first | exact h1' _ | exact zz_up_eq _ _ _) rfl ?_
      refine zj_iload_n dk_44_41 rfl ?_
      refine zj_iald dk_44_42 (by first | exact h1' _ | exact zz_up_eq _ _ _) (by omega) ?_
      refine zj_iload_n dk_44_43 rfl ?_
      refine zi_invS dk_44_44 ml_6_19 is_45 (ct_45 (d := d - 1)) rfl rfl (Nat.le_of_ble_eq_true rfl) (by omega) rfl rfl (fun r n' h' hq => ?_)
      obtain ⟨rfl, rfl, rfl⟩ := hq
      refine zj_if_eq (t := 65) dk_44_47 rfl (by omega) (fun c47 => ?_) (fun c47 => ?_)
      · skip
        refine zj_iinc dk_44_65 rfl rfl ?_
        refine zi_goto (t := 31) dk_44_68 rfl ?_
        exact key g (fun j hj => rfl) (by rw [e1] at c47 ⊢; unfold rl_add; rw [if_neg (by rw [bz_eq0.mp c47]; decide)])
      · skip
        refine zi_aload_n dk_44_50 rfl rfl ?_
        refine zi_getf dk_44_51 fl_6_9 (by first | exact h1' _ | exact zz_up_eq _ _ _) rfl ?_
        refine zj_iload_n dk_44_54 rfl ?_
        refine zi_dup2 dk_44_55 rfl rfl ?_
        refine zj_iald dk_44_56 (by first | exact h1' _ | exact zz_up_eq _ _ _) (by omega) ?_
        refine zi_aload_n dk_44_57 rfl rfl ?_
        refine zi_getf dk_44_58 fl_6_9 (by first | exact h1' _ | exact zz_up_eq _ _ _) rfl ?_
        refine zj_iload_n dk_44_61 rfl ?_
        refine zj_iald dk_44_62 (by first | exact h1' _ | exact zz_up_eq _ _ _) (by omega) ?_
        refine zj_ior dk_44_63 ?_
        refine zj_iast dk_44_64 (by first | exact h1' _ | exact zz_up_eq _ _ _) (by omega) ?_
        rw [zz_up_up]
        refine zj_iinc dk_44_65 rfl rfl ?_
        refine zi_goto (t := 31) dk_44_68 rfl ?_
        exact key _ (fun j hj => zU_ne hj) (by rw [zU_eq, es]; rw [e1] at c47 ⊢; unfold rl_add; rw [if_pos (bz_ne0.mp c47)])

theorem ct_44 {X : zz_X} {d n : Nat} {h : zz_H} (hd : 2 ≤ d) {ro : Nat} {g : Int → Int} (h1 : h ro = some (.inr (6, [.ref (ro + 1)]))) (h2 : h (ro + 1) = some (zA 0 8 g)) {r s : Int} (hr : -2147483648 ≤ r ∧ r < 2147483648) (hs : -2147483648 ≤ s ∧ s < 2147483648) (hg : rl_V g) : zz_Ct X mm_44 d 0 0 [.ref ro, zv r, zv s] n h (fun r' n' h' => n' = n ∧ ((((0 ≤ r ∧ r < 8) ∧ (0 ≤ s ∧ s < 8) ∧ zb_bit (g r) s = false) ∧ r' = some (zv 1) ∧ ∃ g', (∀ j, 0 ≤ j → j < 8 → g' j = rl_add g r s j) ∧ h' = zz_up h (ro + 1) (zA 0 8 g')) ∨ (¬ ((0 ≤ r ∧ r < 8) ∧ (0 ≤ s ∧ s < 8) ∧ zb_bit (g r) s = false) ∧ r' = some (zv 0) ∧ h' = h))) := by
  refine zz_start (by decide) (ls := [some (.ref ro), some (zv r), some (zv s), none]) rfl ?_
  have q1 := bz_rg (zb_bit (g r) s)
  refine zj_iload_n dk_44_0 rfl ?_
  refine zi_invS dk_44_1 ml_6_15 is_20 (ct_20 (d := d - 1) hr) rfl rfl (Nat.le_of_ble_eq_true rfl) (by omega) rfl rfl (fun r n' h' hq => ?_)
  obtain ⟨rfl, rfl, rfl⟩ := hq
  refine zj_if_eq (t := 27) dk_44_4 rfl (by split <;> omega) (fun c4 => ?_) (fun c4 => ?_)
  · skip
    refine zj_iconst dk_44_27 ?_
    refine zj_zreturn dk_44_28 rfl (by omega) ⟨rfl, Or.inr ⟨fun hx => by split at c4 <;> omega, rfl, rfl⟩⟩
  · skip
    refine zj_iload_n dk_44_7 rfl ?_
    refine zi_invS dk_44_8 ml_6_15 is_20 (ct_20 (d := d - 1) hs) rfl rfl (Nat.le_of_ble_eq_true rfl) (by omega) rfl rfl (fun r n' h' hq => ?_)
    obtain ⟨rfl, rfl, rfl⟩ := hq
    refine zj_if_eq (t := 27) dk_44_11 rfl (by split <;> omega) (fun c11 => ?_) (fun c11 => ?_)
    · skip
      refine zj_iconst dk_44_27 ?_
      refine zj_zreturn dk_44_28 rfl (by omega) ⟨rfl, Or.inr ⟨fun hx => by split at c11 <;> omega, rfl, rfl⟩⟩
    · skip
      have r1 : 0 ≤ r ∧ r < 8 := by split at c4 <;> omega
      have r2 : 0 ≤ s ∧ s < 8 := by split at c11 <;> omega
      refine zi_aload_n dk_44_14 rfl rfl ?_
      refine zi_getf dk_44_15 fl_6_9 (by first | assumption | exact zz_up_eq _ _ _ | omega | exact Ne.symm (by assumption) | (refine (zz_up_ne ?_).trans ?_ <;> first | assumption | exact zz_up_eq _ _ _ | omega | exact Ne.symm (by assumption) | (refine (zz_up_ne ?_).trans ?_ <;> first | assumption | exact zz_up_eq _ _ _ | omega | exact Ne.symm (by assumption) | (refine (zz_up_ne ?_).trans ?_ <;> first | assumption | exact zz_up_eq _ _ _ | omega | exact Ne.symm (by assumption))))) rfl ?_
      refine zj_iload_n dk_44_18 rfl ?_
      refine zj_iald dk_44_19 (by first | assumption | exact zz_up_eq _ _ _ | omega | exact Ne.symm (by assumption) | (refine (zz_up_ne ?_).trans ?_ <;> first | assumption | exact zz_up_eq _ _ _ | omega | exact Ne.symm (by assumption) | (refine (zz_up_ne ?_).trans ?_ <;> first | assumption | exact zz_up_eq _ _ _ | omega | exact Ne.symm (by assumption) | (refine (zz_up_ne ?_).trans ?_ <;> first | assumption | exact zz_up_eq _ _ _ | omega | exact Ne.symm (by assumption))))) (by omega) ?_
      refine zj_iload_n dk_44_20 rfl ?_
      refine zi_invS dk_44_21 ml_6_19 is_45 (ct_45 (d := d - 1)) rfl rfl (Nat.le_of_ble_eq_true rfl) (by omega) rfl rfl (fun r n' h' hq => ?_)
      obtain ⟨rfl, rfl, rfl⟩ := hq
      refine zj_if_eq (t := 29) dk_44_24 rfl (by omega) (fun c24 => ?_) (fun c24 => ?_)
      · skip
        refine zj_iconst dk_44_29 ?_
        refine zj_istore_n dk_44_30 rfl ?_
        have hb := bz_eq0.mp c24
        have hgo := lp_44 (X := X) (d := d) (n := n') (by omega) h1 r1 r2 hg (Q := fun r' n2 h2 => n2 = n' ∧ ((((0 ≤ r ∧ r < 8) ∧ (0 ≤ s ∧ s < 8) ∧ zb_bit (g r) s = false) ∧ r' = some (zv 1) ∧ ∃ g', (∀ j, 0 ≤ j → j < 8 → g' j = rl_add g r s j) ∧ h2 = zz_up h' (ro + 1) (zA 0 8 g')) ∨ (¬ ((0 ≤ r ∧ r < 8) ∧ (0 ≤ s ∧ s < 8) ∧ zb_bit (g r) s = false) ∧ r' = some (zv 0) ∧ h2 = h'))) (fun g' hg' => ⟨rfl, Or.inl ⟨⟨r1, r2, hb⟩, rfl, g', hg', rfl⟩⟩) 8 0 g (by omega) (by omega) (fun j hj1 hj2 => by omega) (fun j hj1 hj2 => rfl)
        rw [zz_up_same h2] at hgo
        exact hgo
      · skip
        refine zj_iconst dk_44_27 ?_
        refine zj_zreturn dk_44_28 rfl (by omega) ⟨rfl, Or.inr ⟨fun hx => by rw [bz_ne0.mp c24] at hx; exact absurd hx.2.2 (by decide), rfl, rfl⟩⟩

theorem lp_7 {X : zz_X} {d n kc ks : Nat} {h : zz_H} {ro : Nat} (h1 : h ro = some (.inr (6, [.ref (ro + 1)]))) {Q : Option Value → Nat → zz_H → Prop} (hQ : ∀ g, (∀ j, 0 ≤ j → j < 8 → g j = zb_shl 1 j) → Q none n (zz_up h (ro + 1) (zA 0 8 g))) : ∀ (k : Nat) (i : Int) (g : Int → Int), i + k = 8 → 0 ≤ i → (∀ j, 0 ≤ j → j < i → g j = zb_shl 1 j) →
    zz_Z X mm_7 d Q kc ks 14 [some (.ref ro), some (zv i)] [] n (zz_up h (ro + 1) (zA 0 8 g)) := by
  have h1' : ∀ e, zz_up h (ro + 1) e ro = some (.inr (6, [.ref (ro + 1)])) := fun e => (zz_up_ne (by omega)).trans h1
  intro k
  induction k with
  | zero =>
    intro i g hk hi hA
    refine zj_iload_n dk_7_14 rfl ?_
    refine zj_bipush dk_7_15 (by decide) ?_
    refine zj_icmp_ge (t := 35) dk_7_17 rfl (by omega) (fun c17 => ?_) (fun c17 => ?_)
    · skip
      refine zi_return dk_7_35 rfl (hQ g (fun j hj1 hj2 => hA j hj1 (by omega)))
    · omega
  | succ k ih =>
    intro i g hk hi hA
    refine zj_iload_n dk_7_14 rfl ?_
    refine zj_bipush dk_7_15 (by decide) ?_
    refine zj_icmp_ge (t := 35) dk_7_17 rfl (by omega) (fun c17 => ?_) (fun c17 => ?_)
    · omega
    · skip
      refine zi_aload_n dk_7_20 rfl rfl ?_
      refine zi_getf dk_7_21 fl_6_9 (by first | exact h1' _ | exact zz_up_eq _ _ _) rfl ?_
      refine zj_iload_n dk_7_24 rfl ?_
      refine zj_iconst dk_7_25 ?_
      refine zj_iload_n dk_7_26 rfl ?_
      refine zj_ishl dk_7_27 ?_
      refine zj_iast dk_7_28 (by first | exact h1' _ | exact zz_up_eq _ _ _) (by omega) ?_
      rw [zz_up_up]
      refine zj_iinc dk_7_29 rfl rfl ?_
      refine zi_goto (t := 14) dk_7_32 rfl ?_
      refine ih (i + 1) _ (by omega) (by omega) (fun j hj1 hj2 => ?_)
      by_cases hji : j = i
      · subst hji; exact zU_eq _ _ _
      · rw [zU_ne hji]; exact hA j hj1 (by omega)

theorem ct_7 {X : zz_X} {d n : Nat} {h : zz_H} (hd : 1 ≤ d) {ro : Nat} (hn : n = ro + 1) (h1 : h ro = some (.inr (6, [.null]))) : zz_Ct X mm_7 d 1 8 [.ref ro] n h (fun r n' h' => r = none ∧ n' = ro + 2 ∧ ∃ g, (∀ j, 0 ≤ j → j < 8 → g j = zb_shl 1 j) ∧ h' = zz_up (zz_up h (ro + 1) (zA 0 8 g)) ro (.inr (6, [.ref (ro + 1)]))) := by
  refine zz_start (by decide) (ls := [some (.ref ro), none]) rfl ?_
  subst hn
  refine zi_aload_n dk_7_0 rfl rfl ?_
  refine zi_objI dk_7_1 zw_128 zo_i zo_c (Nat.le_of_ble_eq_true rfl) (by omega) ?_
  refine zi_aload_n dk_7_4 rfl rfl ?_
  refine zj_bipush dk_7_5 (by decide) ?_
  refine zj_newi (N := 8) dk_7_7 zw_ac_int rfl (by decide) rfl rfl ?_
  refine zj_putR dk_7_9 fp_7_9 (by first | assumption | exact zz_up_eq _ _ _ | omega | exact Ne.symm (by assumption) | (refine (zz_up_ne ?_).trans ?_ <;> first | assumption | exact zz_up_eq _ _ _ | omega | exact Ne.symm (by assumption) | (refine (zz_up_ne ?_).trans ?_ <;> first | assumption | exact zz_up_eq _ _ _ | omega | exact Ne.symm (by assumption) | (refine (zz_up_ne ?_).trans ?_ <;> first | assumption | exact zz_up_eq _ _ _ | omega | exact Ne.symm (by assumption))))) rfl ?_
  refine zj_iconst dk_7_12 ?_
  refine zj_istore_n dk_7_13 rfl ?_
  have hgo := lp_7 (X := X) (d := d) (n := ro + 1 + 1) (kc := 0) (ks := 0) (h := zz_up h ro (.inr (6, [.ref (ro + 1)]))) (zz_up_eq _ _ _) (Q := fun r n' h' => r = none ∧ n' = ro + 2 ∧ ∃ g, (∀ j, 0 ≤ j → j < 8 → g j = zb_shl 1 j) ∧ h' = zz_up (zz_up h (ro + 1) (zA 0 8 g)) ro (.inr (6, [.ref (ro + 1)]))) (fun g hg => ⟨rfl, rfl, g, hg, zz_up_cm _ _ _ (by omega)⟩) 8 0 (fun _ => 0) (by omega) (by omega) (fun j hj1 hj2 => by omega)
  rw [zz_up_cm _ _ _ (by omega)] at hgo
  exact hgo

