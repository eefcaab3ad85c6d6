/-! declare, user, service, rule -/
theorem up3 {h : zz_H} {s : Nat} {e0 e1 e2 e3 : va_E} : zz_up (zz_up (zz_up (zz_up h s e0) (s + 1) e1) (s + 2) e2) s e3 = zz_up (zz_up (zz_up h s e3) (s + 1) e1) (s + 2) e2 := by
  funext a
  by_cases h0 : a = s
  · subst h0
    rw [zz_up_eq, zz_up_ne (by omega), zz_up_ne (by omega), zz_up_eq]
  · rw [zz_up_ne h0]
    by_cases h2 : a = s + 2
    · subst h2; rw [zz_up_eq, zz_up_eq]
    · rw [zz_up_ne h2, zz_up_ne h2]
      by_cases h1 : a = s + 1
      · subst h1; rw [zz_up_eq, zz_up_eq]
      · rw [zz_up_ne h1, zz_up_ne h1, zz_up_ne h0, zz_up_ne h0]
theorem GI.f3 {X : zz_X} {b n : Nat} {h : zz_H} {S : Nat → Int} {A : Nat → Int → Int} {E : Nat → Nat} {RL : List (Nat × rd)} {UL : List (Nat × ud)} {SL : List (Nat × sd)} {T1 T2 : List (Nat × td)} (G : GI X b h S A E RL UL SL T1 T2) (hlt : ∀ a e, h a = some e → a < n) (hn : b + 64 ≤ n) (e0 e1 e2 : va_E) : GI X b (zz_up (zz_up (zz_up h n e0) (n + 1) e1) (n + 2) e2) S A E RL UL SL T1 T2 ∧ mf b h (zz_up (zz_up (zz_up h n e0) (n + 1) e1) (n + 2) e2) ∧ (∀ a e, zz_up (zz_up (zz_up h n e0) (n + 1) e1) (n + 2) e2 a = some e → a < n + 3) := by
  have G1 := G.fresh hlt hn e0
  have G2 := G1.1.fresh (up_lt hlt) (by omega) e1
  have G3 := G2.1.fresh (up_lt (up_lt hlt)) (by omega) e2
  exact ⟨G3.1, (G1.2.1.tr G2.2.1).tr G3.2.1, up_lt (up_lt (up_lt hlt))⟩
theorem gm_55 {X : zz_X} {d n : Nat} {h : zz_H} (hd : 3 ≤ d) {b : Nat} {S : Nat → Int} {A : Nat → Int → Int} {E : Nat → Nat} {RL : List (Nat × rd)} {UL : List (Nat × ud)} {SL : List (Nat × sd)} {T1 T2 : List (Nat × td)} (G : GI X b h S A E RL UL SL T1 T2) (hn : b + 64 ≤ n) {t op c : Int} (ht : -2147483648 ≤ t ∧ t < 2147483648) (hop : -2147483648 ≤ op ∧ op < 2147483648) (hc : -2147483648 ≤ c ∧ c < 2147483648) : zz_Ct X mm_55 d 0 0 [.ref b, zv t, zv op, zv c] n h (fun r n' h' => n' = n ∧ ((¬ ((0 ≤ t ∧ t < S 18) ∧ (0 ≤ op ∧ op < 4) ∧ (c = -1 ∨ (0 ≤ c ∧ c < S 13))) ∧ r = some (zv 0) ∧ h' = h) ∨ (((0 ≤ t ∧ t < S 18) ∧ (0 ≤ op ∧ op < 4) ∧ (c = -1 ∨ (0 ≤ c ∧ c < S 13))) ∧ ∃ p, SL[t.toNat]? = some p ∧ ((p.2.2.2.2.1 op ≠ 0 ∧ r = some (zv 0) ∧ h' = h) ∨ (p.2.2.2.2.1 op = 0 ∧ r = some (zv 1) ∧ GI X b h' S A E RL UL (SL.set t.toNat (p.1, (p.2.1, p.2.2.1, p.2.2.2.1, zU p.2.2.2.2.1 op 1, zU p.2.2.2.2.2 op c))) T1 T2 ∧ mf b h h'))))) := by
  refine zz_start (by decide) (ls := [some (.ref b), some (zv t), some (zv op), some (zv c)]) rfl ?_
  have hsz := G.sz
  have hz := G.2.1.2.2.1.1
  have hw := G.2.1.2.2.1.2
  refine zi_aload_n dk_55_0 rfl rfl ?_
  refine zj_iload_n dk_55_1 rfl ?_
  refine zi_invV dk_55_2 ml_0_123 iv_53 (G.cv (ct_53 (d := d - 1) (by omega) (by omega) ht)) (by first | exact G.1 0 (by decide) | exact G.1 _ (by decide)) rfl rfl rfl (Nat.le_of_ble_eq_true rfl) (by omega) rfl rfl (fun r n' h' hq => ?_)
  obtain ⟨rfl, e1, e2⟩ := hq
  rw [cl_id G.1] at e2
  have e1 := e1.symm
  have e2 := e2.symm
  subst e1
  subst e2
  refine zj_if_eq (t := 23) dk_55_5 rfl (by split <;> omega) (fun c5 => ?_) (fun c5 => ?_)
  · skip
    refine zj_iconst dk_55_23 ?_
    refine zj_zreturn dk_55_24 rfl (by omega) ⟨rfl, Or.inl ⟨fun hh => by rw [if_pos hh.1] at c5; omega, rfl, rfl⟩⟩
  · skip
    refine zj_iload_n dk_55_8 rfl ?_
    refine zi_invS dk_55_9 ml_0_126 is_56 (ct_56 (d := d - 1) hop) rfl rfl (Nat.le_of_ble_eq_true rfl) (by omega) rfl rfl (fun r n' h' hq => ?_)
    obtain ⟨rfl, e1, e2⟩ := hq
    have e1 := e1.symm
    have e2 := e2.symm
    subst e1
    subst e2
    refine zj_if_eq (t := 23) dk_55_12 rfl (by split <;> omega) (fun c12 => ?_) (fun c12 => ?_)
    · skip
      refine zj_iconst dk_55_23 ?_
      refine zj_zreturn dk_55_24 rfl (by omega) ⟨rfl, Or.inl ⟨fun hh => by rw [if_pos hh.2.1] at c12; omega, rfl, rfl⟩⟩
    · skip
      refine zi_aload_n dk_55_15 rfl rfl ?_
      refine zj_iload_n dk_55_16 rfl ?_
      refine zi_invV dk_55_17 ml_0_112 iv_51 (G.cv (ct_51 (d := d - 1) (by omega) hz hw hc)) (by first | exact G.1 0 (by decide) | exact G.1 _ (by decide)) rfl rfl rfl (Nat.le_of_ble_eq_true rfl) (by omega) rfl rfl (fun r n' h' hq => ?_)
      obtain ⟨rfl, e1, e2⟩ := hq
      rw [cl_id G.1] at e2
      have e1 := e1.symm
      have e2 := e2.symm
      subst e1
      subst e2
      refine zj_if_ne (t := 25) dk_55_20 rfl (by split <;> omega) (fun c20 => ?_) (fun c20 => ?_)
      · skip
        have hts : 0 ≤ t ∧ t < S 18 := by split at c5 <;> omega
        obtain ⟨p, m1, m2, m3, m4⟩ := G.sv hts
        have hok : ((0 ≤ t ∧ t < S 18) ∧ (0 ≤ op ∧ op < 4) ∧ (c = -1 ∨ (0 ≤ c ∧ c < S 13))) := ⟨hts, by split at c12 <;> omega, by split at c20 <;> omega⟩
        refine zi_aload_n dk_55_25 rfl rfl ?_
        refine zi_getf dk_55_26 fl_0_54 (by first | exact G.1 0 (by decide) | exact G.1 _ (by decide)) rfl ?_
        refine zj_iload_n dk_55_29 rfl ?_
        refine zi_invV dk_55_30 ml_0_129 iv_57 (gt_get (d := d - 1) (by omega) (G.1 20 (by decide)) G.2.2.2.2.2.1.1 (by rw [List.length_map]; exact G.2.1.2.2.2.2.2.2.2.1.2.2.1) (by omega) m2) (by first | exact G.1 0 (by decide) | exact G.1 _ (by decide)) rfl rfl rfl (Nat.le_of_ble_eq_true rfl) (by omega) rfl rfl (fun r n' h' hq => ?_)
        obtain ⟨rfl, e1, e2⟩ := hq
        have e1 := e1.symm
        have e2 := e2.symm
        subst e1
        subst e2
        refine zi_castS dk_55_33 zw_454 m3.1 rfl ?_
        refine zj_iload_n dk_55_36 rfl ?_
        refine zj_iload_n dk_55_37 rfl ?_
        refine zi_invV dk_55_38 ml_0_133 iv_61 (ct_61 (d := d - 1) (by omega) m3.1 m3.2.1 m3.2.2 m4.2.2.2.1 hop) m3.1 rfl rfl rfl (Nat.le_of_ble_eq_true rfl) (by omega) rfl rfl (fun r n' h' hq => ?_)
        obtain ⟨rfl, ⟨hc1, rfl, rfl⟩ | ⟨hc1, rfl, e1⟩⟩ := hq
        · have V' : sv_V (p.2.1, p.2.2.1, p.2.2.2.1, zU p.2.2.2.2.1 op 1, zU p.2.2.2.2.2 op c) := ⟨m4.1, m4.2.1, m4.2.2.1, fun i h1 h2 => by
            dsimp only
            by_cases hi : i = op
            · subst hi; rw [zU_eq]; omega
            · rw [zU_ne hi]; exact m4.2.2.2.1 i h1 h2, fun i h1 h2 => by
            dsimp only
            by_cases hi : i = op
            · subst hi; rw [zU_eq]; omega
            · rw [zU_ne hi]; exact m4.2.2.2.2 i h1 h2⟩
          have G2 := G.svu m1 V'
          exact zj_zreturn dk_55_41 rfl (by omega) ⟨rfl, Or.inr ⟨hok, p, m1, Or.inr ⟨hc1.2.2, rfl, G2.1, G2.2⟩⟩⟩
        · have e1 := e1.symm
          subst e1
          exact zj_zreturn dk_55_41 rfl (by omega) ⟨rfl, Or.inr ⟨hok, p, m1, Or.inl ⟨fun hh => hc1 ⟨hok.2.1.1, hok.2.1.2, hh⟩, rfl, rfl⟩⟩⟩
      · skip
        refine zj_iconst dk_55_23 ?_
        refine zj_zreturn dk_55_24 rfl (by omega) ⟨rfl, Or.inl ⟨fun hh => by rw [if_pos hh.2.2] at c20; omega, rfl, rfl⟩⟩

theorem gm_46 {X : zz_X} {d n : Nat} {h : zz_H} (hd : 8 ≤ d) {b : Nat} {S : Nat → Int} {A : Nat → Int → Int} {E : Nat → Nat} {RL : List (Nat × rd)} {UL : List (Nat × ud)} {SL : List (Nat × sd)} {T1 T2 : List (Nat × td)} (G : GI X b h S A E RL UL SL T1 T2) (hn : b + 64 ≤ n) {pw rl sc : Int} (hpw : -2147483648 ≤ pw ∧ pw < 2147483648) (hrl : -2147483648 ≤ rl ∧ rl < 2147483648) (hsc : -2147483648 ≤ sc ∧ sc < 2147483648) (h3 : S 3 ≤ 90000) : zz_Ct X mm_46 d 2 21 [.ref b, zv pw, zv rl, zv sc] n h (fun r n' h' => (¬ (UL.length < 6 ∧ (0 ≤ rl ∧ rl ≤ 255) ∧ (sc = 0 ∨ sc = 1)) ∧ r = some (zv (-1)) ∧ n' = n ∧ h' = h) ∨ ((UL.length < 6 ∧ (0 ≤ rl ∧ rl ≤ 255) ∧ (sc = 0 ∨ sc = 1)) ∧ r = some (zv (UL.length : Int)) ∧ n ≤ n' ∧ ∃ S' E', S' 3 = S 3 + 1 ∧ (∀ i, i < 14 → i ≠ 3 → S' i = S i) ∧ GI X b h' S' A E' RL (UL ++ [(n, (rl, sc, S 3 + 1, hs_of pw sc (S 3 + 1), 0, 0))]) SL T1 T2 ∧ mf b h h')) := by
  refine zz_start (by decide) (ls := [some (.ref b), some (zv pw), some (zv rl), some (zv sc)]) rfl ?_
  have hsz := G.sz
  have hr := G.rg
  have hlU := G.2.1.2.2.2.2.2.2.2.1.2.1
  refine zi_aload_n dk_46_0 rfl rfl ?_
  refine zi_getf dk_46_1 fl_0_51 (by first | exact G.1 0 (by decide) | exact G.1 _ (by decide)) rfl ?_
  refine zi_invV dk_46_4 ml_0_82 iv_23 (ct_23 (d := d - 1) (N := 0) (f := fun _ => none) (G.1 19 (by decide))) (by first | exact G.1 0 (by decide) | exact G.1 _ (by decide)) rfl rfl rfl (Nat.le_of_ble_eq_true rfl) (by omega) rfl rfl (fun r n' h' hq => ?_)
  obtain ⟨rfl, e1, e2⟩ := hq
  have e1 := e1.symm
  have e2 := e2.symm
  subst e1
  subst e2
  refine zj_bipush dk_46_7 (by decide) ?_
  refine zj_icmp_ge (t := 23) dk_46_9 rfl (by omega) (fun c9 => ?_) (fun c9 => ?_)
  · skip
    refine zj_iconst dk_46_23 ?_
    refine zj_ireturn dk_46_24 rfl (Or.inl ⟨by omega, rfl, rfl, rfl⟩)
  · skip
    refine zj_iload_n dk_46_12 rfl ?_
    refine zj_if_lt (t := 23) dk_46_13 rfl (by omega) (fun c13 => ?_) (fun c13 => ?_)
    · skip
      refine zj_iconst dk_46_23 ?_
      refine zj_ireturn dk_46_24 rfl (Or.inl ⟨by omega, rfl, rfl, rfl⟩)
    · skip
      refine zj_iload_n dk_46_16 rfl ?_
      refine zj_sipush dk_46_17 (by decide) ?_
      refine zj_icmp_le (t := 25) dk_46_20 rfl (by omega) (fun c20 => ?_) (fun c20 => ?_)
      · skip
        refine zj_iload_n dk_46_25 rfl ?_
        refine zj_if_eq (t := 36) dk_46_26 rfl (by omega) (fun c26 => ?_) (fun c26 => ?_)
        · skip
          have hok : (UL.length < 6 ∧ (0 ≤ rl ∧ rl ≤ 255) ∧ (sc = 0 ∨ sc = 1)) := by omega
          refine zz_Z.lt (fun hlt => ?_)
          have G1 := G.fresh hlt hn (.inr (8, [zv 0, zv 0, zv 0, zv 0, zv 0, zv 0]))
          have G2 := G.fresh hlt hn (us_c (rl, sc, S 3 + 1, hs_of pw sc (S 3 + 1), 0, 0))
          have G3 := G2.1.st (G.2.1.s3 (x := S 3 + 1) (by omega))
          have hh := hs_of_rg pw sc (S 3 + 1) (by omega)
          have hfv : n ∉ UL.map Prod.fst := fun hm => by
            obtain ⟨q, hq, e⟩ := List.mem_map.mp hm
            have := hlt _ _ (G.2.2.2.2.1.2 q hq).1
            omega
          refine zi_aload_n dk_46_36 rfl rfl ?_
          refine zi_getf dk_46_37 fl_0_51 (by first | exact G.1 0 (by decide) | exact G.1 _ (by decide)) rfl ?_
          refine zi_new dk_46_40 nw_0_104 (kc' := 1) (ks' := 15) rfl rfl ?_
          refine zi_dup dk_46_43 rfl ?_
          refine zj_iload_n dk_46_44 rfl ?_
          refine zj_iload_n dk_46_45 rfl ?_
          refine zj_iload_n dk_46_46 rfl ?_
          refine zi_aload_n dk_46_47 rfl rfl ?_
          refine zi_invV dk_46_48 ml_0_106 iv_47 (G1.1.cv (ct_47 (d := d - 1))) (G1.1.1 0 (by decide)) rfl rfl rfl (Nat.le_of_ble_eq_true rfl) (by omega) rfl rfl (fun r n' h' hq => ?_)
          obtain ⟨rfl, rfl, rfl⟩ := hq
          refine zi_invI dk_46_51 ml_0_109 ii_48 (ct_48 (d := d - 1) (by omega) ((cl_o (Or.inr (by omega))).trans (zz_up_eq _ _ _)) hsc) rfl rfl (Nat.le_of_ble_eq_true rfl) (by omega) rfl rfl (fun r n' h' hq => ?_)
          obtain ⟨rfl, rfl, rfl⟩ := hq
          rw [cl_dy (Or.inr (by omega)), zz_up_up]
          obtain ⟨G4, hm4, -⟩ := G3
          refine zz_Z.lt (fun hlt2 => ?_)
          refine zi_invV dk_46_54 ml_0_98 iv_33 (g1_33 (d := d - 1) (by omega) G4 hlt2 (by omega) ((cl_o (Or.inr (by omega))).trans (zz_up_eq _ _ _)) (x := (rl, sc, S 3 + 1, hs_of pw sc (S 3 + 1), 0, 0)) ⟨by dsimp only; omega, by dsimp only; omega, by dsimp only; omega, hh, by dsimp only; omega, by dsimp only; omega⟩ hn hfv hok.1) (G4.1 19 (by decide)) rfl rfl rfl (Nat.le_of_ble_eq_true rfl) (by omega) (kc' := 0) (ks' := 0) rfl rfl (fun r n' h' hq => ?_)
          obtain ⟨rfl, hn2, S', E', hS', G5, hm5⟩ := hq
          have hl5 := G5.2.1.2.2.2.2.2.2.2.1.2.1
          rw [List.length_append] at hl5
          refine zi_pop dk_46_57 rfl ?_
          refine zi_aload_n dk_46_58 rfl rfl ?_
          refine zi_getf dk_46_59 fl_0_51 (G5.1 0 (by decide)) rfl ?_
          refine zi_invV dk_46_62 ml_0_82 iv_23 (ct_23 (d := d - 1) (N := 0) (f := fun _ => none) (G5.1 19 (by decide))) (G5.1 19 (by decide)) rfl rfl rfl (Nat.le_of_ble_eq_true rfl) (by omega) rfl rfl (fun r n' h' hq => ?_)
          obtain ⟨rfl, rfl, rfl⟩ := hq
          refine zj_iconst dk_46_65 ?_
          refine zj_isub dk_46_66 ?_
          refine zj_ireturn dk_46_67 rfl (Or.inr ⟨hok, by congr 2; simp at hl5; omega, by omega, S', E', (hS' 3 (by decide)).trans (va_up_self _ _ _), fun i hi hne => (hS' i hi).trans (va_up_ne _ _ hne), G5, (G2.2.1.tr hm4).tr hm5⟩)
        · skip
          refine zj_iload_n dk_46_29 rfl ?_
          refine zj_iconst dk_46_30 ?_
          refine zj_icmp_eq (t := 36) dk_46_31 rfl (by omega) (fun c31 => ?_) (fun c31 => ?_)
          · skip
            have hok : (UL.length < 6 ∧ (0 ≤ rl ∧ rl ≤ 255) ∧ (sc = 0 ∨ sc = 1)) := by omega
            refine zz_Z.lt (fun hlt => ?_)
            have G1 := G.fresh hlt hn (.inr (8, [zv 0, zv 0, zv 0, zv 0, zv 0, zv 0]))
            have G2 := G.fresh hlt hn (us_c (rl, sc, S 3 + 1, hs_of pw sc (S 3 + 1), 0, 0))
            have G3 := G2.1.st (G.2.1.s3 (x := S 3 + 1) (by omega))
            have hh := hs_of_rg pw sc (S 3 + 1) (by omega)
            have hfv : n ∉ UL.map Prod.fst := fun hm => by
              obtain ⟨q, hq, e⟩ := List.mem_map.mp hm
              have := hlt _ _ (G.2.2.2.2.1.2 q hq).1
              omega
            refine zi_aload_n dk_46_36 rfl rfl ?_
            refine zi_getf dk_46_37 fl_0_51 (by first | exact G.1 0 (by decide) | exact G.1 _ (by decide)) rfl ?_
            refine zi_new dk_46_40 nw_0_104 (kc' := 1) (ks' := 15) rfl rfl ?_
            refine zi_dup dk_46_43 rfl ?_
            refine zj_iload_n dk_46_44 rfl ?_
            refine zj_iload_n dk_46_45 rfl ?_
            refine zj_iload_n dk_46_46 rfl ?_
            refine zi_aload_n dk_46_47 rfl rfl ?_
            refine zi_invV dk_46_48 ml_0_106 iv_47 (G1.1.cv (ct_47 (d := d - 1))) (G1.1.1 0 (by decide)) rfl rfl rfl (Nat.le_of_ble_eq_true rfl) (by omega) rfl rfl (fun r n' h' hq => ?_)
            obtain ⟨rfl, rfl, rfl⟩ := hq
            refine zi_invI dk_46_51 ml_0_109 ii_48 (ct_48 (d := d - 1) (by omega) ((cl_o (Or.inr (by omega))).trans (zz_up_eq _ _ _)) hsc) rfl rfl (Nat.le_of_ble_eq_true rfl) (by omega) rfl rfl (fun r n' h' hq => ?_)
            obtain ⟨rfl, rfl, rfl⟩ := hq
            rw [cl_dy (Or.inr (by omega)), zz_up_up]
            obtain ⟨G4, hm4, -⟩ := G3
            refine zz_Z.lt (fun hlt2 => ?_)
            refine zi_invV dk_46_54 ml_0_98 iv_33 (g1_33 (d := d - 1) (by omega) G4 hlt2 (by omega) ((cl_o (Or.inr (by omega))).trans (zz_up_eq _ _ _)) (x := (rl, sc, S 3 + 1, hs_of pw sc (S 3 + 1), 0, 0)) ⟨by dsimp only; omega, by dsimp only; omega, by dsimp only; omega, hh, by dsimp only; omega, by dsimp only; omega⟩ hn hfv hok.1) (G4.1 19 (by decide)) rfl rfl rfl (Nat.le_of_ble_eq_true rfl) (by omega) (kc' := 0) (ks' := 0) rfl rfl (fun r n' h' hq => ?_)
            obtain ⟨rfl, hn2, S', E', hS', G5, hm5⟩ := hq
            have hl5 := G5.2.1.2.2.2.2.2.2.2.1.2.1
            rw [List.length_append] at hl5
            refine zi_pop dk_46_57 rfl ?_
            refine zi_aload_n dk_46_58 rfl rfl ?_
            refine zi_getf dk_46_59 fl_0_51 (G5.1 0 (by decide)) rfl ?_
            refine zi_invV dk_46_62 ml_0_82 iv_23 (ct_23 (d := d - 1) (N := 0) (f := fun _ => none) (G5.1 19 (by decide))) (G5.1 19 (by decide)) rfl rfl rfl (Nat.le_of_ble_eq_true rfl) (by omega) rfl rfl (fun r n' h' hq => ?_)
            obtain ⟨rfl, rfl, rfl⟩ := hq
            refine zj_iconst dk_46_65 ?_
            refine zj_isub dk_46_66 ?_
            refine zj_ireturn dk_46_67 rfl (Or.inr ⟨hok, by congr 2; simp at hl5; omega, by omega, S', E', (hS' 3 (by decide)).trans (va_up_self _ _ _), fun i hi hne => (hS' i hi).trans (va_up_ne _ _ hne), G5, (G2.2.1.tr hm4).tr hm5⟩)
          · skip
            refine zj_iconst dk_46_34 ?_
            refine zj_ireturn dk_46_35 rfl (Or.inl ⟨by omega, rfl, rfl, rfl⟩)
      · skip
        refine zj_iconst dk_46_23 ?_
        refine zj_ireturn dk_46_24 rfl (Or.inl ⟨by omega, rfl, rfl, rfl⟩)

theorem gm_50 {X : zz_X} {d n : Nat} {h : zz_H} (hd : 8 ≤ d) {b : Nat} {S : Nat → Int} {A : Nat → Int → Int} {E : Nat → Nat} {RL : List (Nat × rd)} {UL : List (Nat × ud)} {SL : List (Nat × sd)} {T1 T2 : List (Nat × td)} (G : GI X b h S A E RL UL SL T1 T2) (hn : b + 64 ≤ n) {pa fa c : Int} (hpa : -2147483648 ≤ pa ∧ pa < 2147483648) (hfa : -2147483648 ≤ fa ∧ fa < 2147483648) (hc : -2147483648 ≤ c ∧ c < 2147483648) : zz_Ct X mm_50 d 4 28 [.ref b, zv pa, zv fa, zv c] n h (fun r n' h' => (¬ (SL.length < 6 ∧ (c = -1 ∨ (0 ≤ c ∧ c < S 13)) ∧ (pa = -1 ∨ (0 ≤ pa ∧ pa < S 18)) ∧ (fa = -1 ∨ (0 ≤ fa ∧ fa < S 18))) ∧ r = some (zv (-1)) ∧ n' = n ∧ h' = h) ∨ ((SL.length < 6 ∧ (c = -1 ∨ (0 ≤ c ∧ c < S 13)) ∧ (pa = -1 ∨ (0 ≤ pa ∧ pa < S 18)) ∧ (fa = -1 ∨ (0 ≤ fa ∧ fa < S 18))) ∧ r = some (zv (SL.length : Int)) ∧ n ≤ n' ∧ ∃ S' E', (∀ i, i < 14 → S' i = S i) ∧ GI X b h' S' A E' RL UL (SL ++ [(n, (pa, fa, c, (fun _ => 0), (fun _ => 0)))]) T1 T2 ∧ mf b h h')) := by
  refine zz_start (by decide) (ls := [some (.ref b), some (zv pa), some (zv fa), some (zv c)]) rfl ?_
  have hsz := G.sz
  have hlS := G.2.1.2.2.2.2.2.2.2.1.2.2.1
  have hz := G.2.1.2.2.1.1
  have hw := G.2.1.2.2.1.2
  refine zi_aload_n dk_50_0 rfl rfl ?_
  refine zi_getf dk_50_1 fl_0_54 (by first | exact G.1 0 (by decide) | exact G.1 _ (by decide)) rfl ?_
  refine zi_invV dk_50_4 ml_0_82 iv_23 (ct_23 (d := d - 1) (N := 0) (f := fun _ => none) (G.1 20 (by decide))) (by first | exact G.1 0 (by decide) | exact G.1 _ (by decide)) rfl rfl rfl (Nat.le_of_ble_eq_true rfl) (by omega) rfl rfl (fun r n' h' hq => ?_)
  obtain ⟨rfl, e1, e2⟩ := hq
  have e1 := e1.symm
  have e2 := e2.symm
  subst e1
  subst e2
  refine zj_bipush dk_50_7 (by decide) ?_
  refine zj_icmp_ge (t := 20) dk_50_9 rfl (by omega) (fun c9 => ?_) (fun c9 => ?_)
  · skip
    refine zj_iconst dk_50_20 ?_
    refine zj_ireturn dk_50_21 rfl (Or.inl ⟨fun hh => by omega, rfl, rfl, rfl⟩)
  · skip
    refine zi_aload_n dk_50_12 rfl rfl ?_
    refine zj_iload_n dk_50_13 rfl ?_
    refine zi_invV dk_50_14 ml_0_112 iv_51 (G.cv (ct_51 (d := d - 1) (by omega) hz hw hc)) (by first | exact G.1 0 (by decide) | exact G.1 _ (by decide)) rfl rfl rfl (Nat.le_of_ble_eq_true rfl) (by omega) rfl rfl (fun r n' h' hq => ?_)
    obtain ⟨rfl, e1, e2⟩ := hq
    rw [cl_id G.1] at e2
    have e1 := e1.symm
    have e2 := e2.symm
    subst e1
    subst e2
    refine zj_if_ne (t := 22) dk_50_17 rfl (by split <;> omega) (fun c17 => ?_) (fun c17 => ?_)
    · skip
      refine zi_aload_n dk_50_22 rfl rfl ?_
      refine zj_iload_n dk_50_23 rfl ?_
      refine zi_invV dk_50_24 ml_0_115 iv_52 (G.cv (ct_52 (d := d - 1) (by omega) (by omega) hpa)) (by first | exact G.1 0 (by decide) | exact G.1 _ (by decide)) rfl rfl rfl (Nat.le_of_ble_eq_true rfl) (by omega) rfl rfl (fun r n' h' hq => ?_)
      obtain ⟨rfl, e1, e2⟩ := hq
      rw [cl_id G.1] at e2
      have e1 := e1.symm
      have e2 := e2.symm
      subst e1
      subst e2
      refine zj_if_eq (t := 38) dk_50_27 rfl (by split <;> omega) (fun c27 => ?_) (fun c27 => ?_)
      · skip
        refine zj_iconst dk_50_38 ?_
        refine zj_ireturn dk_50_39 rfl (Or.inl ⟨fun hh => by rw [if_pos hh.2.2.1] at c27; omega, rfl, rfl, rfl⟩)
      · skip
        refine zi_aload_n dk_50_30 rfl rfl ?_
        refine zj_iload_n dk_50_31 rfl ?_
        refine zi_invV dk_50_32 ml_0_115 iv_52 (G.cv (ct_52 (d := d - 1) (by omega) (by omega) hfa)) (by first | exact G.1 0 (by decide) | exact G.1 _ (by decide)) rfl rfl rfl (Nat.le_of_ble_eq_true rfl) (by omega) rfl rfl (fun r n' h' hq => ?_)
        obtain ⟨rfl, e1, e2⟩ := hq
        rw [cl_id G.1] at e2
        have e1 := e1.symm
        have e2 := e2.symm
        subst e1
        subst e2
        refine zj_if_ne (t := 40) dk_50_35 rfl (by split <;> omega) (fun c35 => ?_) (fun c35 => ?_)
        · skip
          have hok : (SL.length < 6 ∧ (c = -1 ∨ (0 ≤ c ∧ c < S 13)) ∧ (pa = -1 ∨ (0 ≤ pa ∧ pa < S 18)) ∧ (fa = -1 ∨ (0 ≤ fa ∧ fa < S 18))) := ⟨by omega, by split at c17 <;> omega, by split at c27 <;> omega, by split at c35 <;> omega⟩
          refine zz_Z.lt (fun hlt => ?_)
          have G2 := G.f3 hlt hn (.inr (11, [zv pa, zv fa, zv c, .ref (n + 1), .ref (n + 2)])) (zA 2 4 (fun _ => 0)) (zA 0 4 (fun _ => 0))
          have hfv : n ∉ SL.map Prod.fst := fun hm => by
            obtain ⟨q, hq, e⟩ := List.mem_map.mp hm
            have := hlt _ _ (G.2.2.2.2.2.1.2 q hq).1.1
            omega
          refine zi_aload_n dk_50_40 rfl rfl ?_
          refine zi_getf dk_50_41 fl_0_54 (by first | exact G.1 0 (by decide) | exact G.1 _ (by decide)) rfl ?_
          refine zi_new dk_50_44 nw_0_118 (kc' := 3) (ks' := 23) rfl rfl ?_
          refine zi_dup dk_50_47 rfl ?_
          refine zj_iload_n dk_50_48 rfl ?_
          refine zj_iload_n dk_50_49 rfl ?_
          refine zj_iload_n dk_50_50 rfl ?_
          refine zi_invI dk_50_51 ml_0_120 ii_54 (ct_54 (d := d - 1) (by omega) rfl (zz_up_eq _ _ _)) rfl rfl (Nat.le_of_ble_eq_true rfl) (by omega) (kc' := 1) (ks' := 15) rfl rfl (fun r n' h' hq => ?_)
          obtain ⟨rfl, rfl, rfl⟩ := hq
          rw [up3]
          refine zi_invV dk_50_54 ml_0_98 iv_33 (g2_33 (d := d - 1) (by omega) G2.1 G2.2.2 (by omega) (v := n) (x := (pa, fa, c, (fun _ => 0), (fun _ => 0))) ⟨((zz_up_ne (by omega)).trans (zz_up_ne (by omega))).trans (zz_up_eq _ _ _), (zz_up_ne (by omega)).trans (zz_up_eq _ _ _), zz_up_eq _ _ _⟩ ⟨by dsimp only; omega, by dsimp only; omega, by dsimp only; omega, fun i _ _ => Or.inl rfl, fun i _ _ => by dsimp only; omega⟩ hn hfv hok.1) (G2.1.1 20 (by decide)) rfl rfl rfl (Nat.le_of_ble_eq_true rfl) (by omega) (kc' := 0) (ks' := 0) rfl rfl (fun r n' h' hq => ?_)
          obtain ⟨rfl, hn2, S', E', hS', G5, hm5⟩ := hq
          have hl5 := G5.2.1.2.2.2.2.2.2.2.1.2.2.1
          rw [List.length_append] at hl5
          refine zi_pop dk_50_57 rfl ?_
          refine zi_aload_n dk_50_58 rfl rfl ?_
          refine zi_getf dk_50_59 fl_0_54 (G5.1 0 (by decide)) rfl ?_
          refine zi_invV dk_50_62 ml_0_82 iv_23 (ct_23 (d := d - 1) (N := 0) (f := fun _ => none) (G5.1 20 (by decide))) (G5.1 20 (by decide)) rfl rfl rfl (Nat.le_of_ble_eq_true rfl) (by omega) rfl rfl (fun r n' h' hq => ?_)
          obtain ⟨rfl, rfl, rfl⟩ := hq
          refine zj_iconst dk_50_65 ?_
          refine zj_isub dk_50_66 ?_
          refine zj_ireturn dk_50_67 rfl (Or.inr ⟨hok, by congr 2; simp at hl5; omega, by omega, S', E', hS', G5, G2.2.1.tr hm5⟩)
        · skip
          refine zj_iconst dk_50_38 ?_
          refine zj_ireturn dk_50_39 rfl (Or.inl ⟨fun hh => by rw [if_pos hh.2.2.2] at c35; omega, rfl, rfl, rfl⟩)
    · skip
      refine zj_iconst dk_50_20 ?_
      refine zj_ireturn dk_50_21 rfl (Or.inl ⟨fun hh => by rw [if_pos hh.2.1] at c17; omega, rfl, rfl, rfl⟩)

