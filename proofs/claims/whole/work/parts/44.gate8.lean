/-! deciding, fits, who asks, login -/
theorem set_self {α : Type} {L : List α} {k : Nat} {p y : α} (hk : L[k]? = some p) : (L.set k y)[k]? = some y := by
  rw [List.getElem?_set, if_pos rfl, if_pos (List.getElem?_eq_some_iff.mp hk).1]
section GW
variable {X : zz_X} {b n : Nat} {h : zz_H} {S : Nat → Int} {A : Nat → Int → Int} {E : Nat → Nat} {RL : List (Nat × rd)} {UL : List (Nat × ud)} {SL : List (Nat × sd)} {T1 T2 : List (Nat × td)}
theorem gi_P.s1 {x : Int} (P : gi_P S A RL UL SL T1 T2) (hx : x = 0 ∨ x = 1) : gi_P (va_up S 1 x) A RL UL SL T1 T2 := by
  obtain ⟨p1, p2, p3, p4, p5, p6, ⟨p7, p8, p9⟩, p10⟩ := P
  exact ⟨p1, p2, p3, p4, p5, p6, ⟨hx, p8, p9⟩, p10⟩
theorem gi_P.s0 {x : Int} (P : gi_P S A RL UL SL T1 T2) (hx : -1 ≤ x ∧ x ≤ 13) : gi_P (va_up S 0 x) A RL UL SL T1 T2 := by
  obtain ⟨p1, p2, p3, p4, p5, p6, ⟨p7, p8, p9⟩, p10⟩ := P
  exact ⟨p1, p2, p3, p4, p5, p6, ⟨p7, hx, p9⟩, p10⟩
end GW
theorem gm_96 {X : zz_X} {d n : Nat} {h : zz_H} (hd : 6 ≤ d) {b : Nat} {S : Nat → Int} {A : Nat → Int → Int} {E : Nat → Nat} {RL : List (Nat × rd)} {UL : List (Nat × ud)} {SL : List (Nat × sd)} {T1 T2 : List (Nat × td)} (G : GI X b h S A E RL UL SL T1 T2) (hn : b + 64 ≤ n) {me ask : Int} {L : List (List Int)} (hL : pc_L (A 5) (A 6) (A 7) (S 12) L) (hask : -1 ≤ ask ∧ ask ≤ 13) : zz_Ct X mm_96 d 0 0 [.ref b, zv me, zv ask] n h (fun r n' h' => n' = n ∧ ∃ A', ax [9, 10, 15] A A' ∧ mf b h h' ∧ (((fr_of L me RL 0) = -1 ∧ r = some (zv 403) ∧ GI X b h' S A' E RL UL SL T1 T2) ∨ ∃ p, (fr_of L me RL 0) ≠ -1 ∧ RL[(fr_of L me RL 0).toNat]? = some p ∧ ((tr_of (A 12) (A 13) (A 14) (S 13) ask (hd_of (A 17) UL (if 8 ≤ ask then ask - 8 else ask)) (L.length : Int) p.2.2.1 = 1 ∧ r = some (zv (200 + (fr_of L me RL 0))) ∧ GI X b h' (va_up (va_up (va_up S 1 1) 0 ask) 4 (S 4 + 1)) A' E RL UL SL T1 T2) ∨ (tr_of (A 12) (A 13) (A 14) (S 13) ask (hd_of (A 17) UL (if 8 ≤ ask then ask - 8 else ask)) (L.length : Int) p.2.2.1 ≠ 1 ∧ r = some (zv (if ask = -1 then 401 else 403)) ∧ GI X b h' S A' E RL UL SL T1 T2)))) := by
  refine zz_start (by decide) (ls := [some (.ref b), some (zv me), some (zv ask), none]) rfl ?_
  have hsz := G.sz
  have hlR := G.2.1.2.2.2.2.2.2.2.1.1
  have hfr := fr_rg L me RL 0
  have hL1 : S 12 = (L.length : Int) := hL.1
  have hL2 := hL.2.2.2
  rw [← hL1]
  refine zi_aload_n dk_96_0 rfl rfl ?_
  refine zj_iload_n dk_96_1 rfl ?_
  refine zi_invV dk_96_2 ml_0_268 iv_97 (gm_97 (d := d - 1) (by omega) G hn hL) (by first | exact G.1 0 (by decide) | exact G.1 _ (by decide)) rfl rfl rfl (Nat.le_of_ble_eq_true rfl) (by omega) rfl rfl (fun r n' h' hq => ?_)
  rename zz_H => h5
  obtain ⟨rfl, rfl, A1, G, hx1, hm1, hk1⟩ := hq
  refine zj_istore_n dk_96_5 rfl ?_
  refine zj_iload_n dk_96_6 rfl ?_
  refine zj_iconst dk_96_7 ?_
  refine zj_icmp_ne (t := 15) dk_96_8 rfl (by omega) (fun c8 => ?_) (fun c8 => ?_)
  · skip
    have hfx : 0 ≤ fr_of L me RL 0 ∧ fr_of L me RL 0 < S 14 := by omega
    obtain ⟨p, m1, m2, m3, m4, m5⟩ := G.ru hfx
    have m41 := m4.1
    refine zi_aload_n dk_96_15 rfl rfl ?_
    refine zi_aload_n dk_96_16 rfl rfl ?_
    refine zi_getf dk_96_17 fl_0_47 (by first | exact G.1 0 (by decide) | exact G.1 _ (by decide)) rfl ?_
    refine zj_iload_n dk_96_20 rfl ?_
    refine zi_invV dk_96_21 ml_0_129 iv_57 (gt_get (d := d - 1) (by omega) (G.1 18 (by decide)) G.2.2.2.1.1 (by rw [List.length_map]; exact G.2.1.2.2.2.2.2.2.2.1.1) (by omega) m2) (by first | exact G.1 0 (by decide) | exact G.1 _ (by decide)) rfl rfl rfl (Nat.le_of_ble_eq_true rfl) (by omega) rfl rfl (fun r n' h' hq => ?_)
    obtain ⟨rfl, e1, e2⟩ := hq
    have e1 := e1.symm
    have e2 := e2.symm
    subst e1
    subst e2
    refine zi_castS dk_96_24 zw_299 m3.1 rfl ?_
    refine zi_getf dk_96_27 fl_0_272 m3.1 rfl ?_
    refine zj_iload_n dk_96_30 rfl ?_
    refine zi_aload_n dk_96_31 rfl rfl ?_
    refine zi_getf dk_96_32 fl_0_19 (by first | exact G.1 0 (by decide) | exact G.1 _ (by decide)) rfl ?_
    refine zi_getf dk_96_35 fl_0_230 (G.1 3 (by decide)) rfl ?_
    refine zi_getf dk_96_38 fl_0_275 (G.1 4 (by decide)) rfl ?_
    refine zi_invV dk_96_41 ml_0_216 iv_107 (gm_107 (d := d - 1) (by omega) G hn (by omega) hask (by omega)) (by first | exact G.1 0 (by decide) | exact G.1 _ (by decide)) rfl rfl rfl (Nat.le_of_ble_eq_true rfl) (by omega) rfl rfl (fun r n' h' hq => ?_)
    obtain ⟨rfl, rfl, v', G, hm2, hk2⟩ := hq
    rw [hx1 12 (by decide), hx1 13 (by decide), hx1 14 (by decide), hx1 17 (by decide)]
    have hx2 : ax [9, 10, 15] A (va_up A1 15 v') := (ax.up (fun j hj => hx1 j (fun hh => hj (by revert hh; simp; omega))) (by decide))
    have t01 := tr_01 (A 12) (A 13) (A 14) (S 13) ask (hd_of (A 17) UL (if 8 ≤ ask then ask - 8 else ask)) (S 12) p.2.2.1
    refine zj_if_ne (t := 62) dk_96_44 rfl (by omega) (fun c44 => ?_) (fun c44 => ?_)
    · skip
      refine zi_aload_n dk_96_62 rfl rfl ?_
      refine zj_iconst dk_96_63 ?_
      have G2 := G.g1 (x := 1) (G.2.1.s1 (Or.inr rfl))
      refine zj_putZ dk_96_64 fp_96_186 (by first | exact G.1 0 (by decide) | exact G.1 _ (by decide)) (by omega) rfl ?_
      obtain ⟨G, hm3, -⟩ := G2
      refine zi_aload_n dk_96_67 rfl rfl ?_
      refine zj_iload_n dk_96_68 rfl ?_
      have G2 := G.g0 (x := ask) (G.2.1.s0 hask)
      refine zj_putI dk_96_69 fp_96_67 (by first | exact G.1 0 (by decide) | exact G.1 _ (by decide)) rfl ?_
      obtain ⟨G, hm4, -⟩ := G2
      refine zi_aload_n dk_96_72 rfl rfl ?_
      refine zi_dup dk_96_73 rfl ?_
      refine zi_getf dk_96_74 fl_0_250 (by first | exact G.1 0 (by decide) | exact G.1 _ (by decide)) rfl ?_
      refine zj_iconst dk_96_77 ?_
      refine zj_iadd dk_96_78 ?_
      have G2 := G.g4 (x := S 4 + 1) (G.2.1.s48 (by decide))
      refine zj_putI dk_96_79 fp_96_250 (by first | exact G.1 0 (by decide) | exact G.1 _ (by decide)) rfl ?_
      obtain ⟨G, hm5, -⟩ := G2
      refine zj_sipush dk_96_82 (by decide) ?_
      refine zj_iload_n dk_96_85 rfl ?_
      refine zj_iadd dk_96_86 ?_
      refine zj_ireturn dk_96_87 rfl ⟨rfl, _, hx2, (((hm1.tr hm2).tr hm3).tr hm4).tr hm5, Or.inr ⟨p, by omega, m1, Or.inl ⟨by omega, rfl, G⟩⟩⟩
    · skip
      refine zj_iload_n dk_96_47 rfl ?_
      refine zj_iconst dk_96_48 ?_
      refine zj_icmp_ne (t := 58) dk_96_49 rfl (by omega) (fun c49 => ?_) (fun c49 => ?_)
      · skip
        refine zj_sipush dk_96_58 (by decide) ?_
        refine zj_ireturn dk_96_61 rfl ⟨rfl, _, hx2, hm1.tr hm2, Or.inr ⟨p, by omega, m1, Or.inr ⟨by omega, by first | rw [if_pos (by omega)] | rw [if_neg (by omega)], G⟩⟩⟩
      · skip
        refine zj_sipush dk_96_52 (by decide) ?_
        refine zi_goto (t := 61) dk_96_55 rfl ?_
        refine zj_ireturn dk_96_61 rfl ⟨rfl, _, hx2, hm1.tr hm2, Or.inr ⟨p, by omega, m1, Or.inr ⟨by omega, by first | rw [if_pos (by omega)] | rw [if_neg (by omega)], G⟩⟩⟩
  · skip
    refine zj_sipush dk_96_11 (by decide) ?_
    refine zj_ireturn dk_96_14 rfl ⟨rfl, A1, fun j hj => hx1 j (fun hh => hj (by revert hh; simp; omega)), hm1, Or.inl ⟨by omega, rfl, G⟩⟩

theorem gm_121 {X : zz_X} {d n : Nat} {h : zz_H} (hd : 6 ≤ d) {b : Nat} {S : Nat → Int} {A : Nat → Int → Int} {E : Nat → Nat} {RL : List (Nat × rd)} {UL : List (Nat × ud)} {SL : List (Nat × sd)} {T1 T2 : List (Nat × td)} (G : GI X b h S A E RL UL SL T1 T2) (hn : b + 64 ≤ n) {r0 : Int} (hr0 : -2147483648 ≤ r0 ∧ r0 < 2147483648) : zz_Ct X mm_121 d 0 0 [.ref b, zv r0] n h (fun r n' h' => n' = n ∧ ((¬ (0 ≤ r0 ∧ r0 < (RL.length : Int)) ∧ r = some (zv (-1)) ∧ h' = h) ∨ ((0 ≤ r0 ∧ r0 < (RL.length : Int)) ∧ ∃ S' A', (∀ i, i ≠ 10 → i ≠ 11 → i ≠ 12 → S' i = S i) ∧ ax [5, 6, 7, 9, 10] A A' ∧ GI X b h' S' A' E RL UL SL T1 T2 ∧ mf b h h' ∧ ((sp_read (A 2) (S 9) = none ∧ r = some (zv (-2))) ∨ ∃ L p, sp_read (A 2) (S 9) = some L ∧ RL[r0.toNat]? = some p ∧ r = some (zv (bz (sp_fits p.2.1 L))))))) := by
  refine zz_start (by decide) (ls := [some (.ref b), some (zv r0)]) rfl ?_
  have hsz := G.sz
  have hlR := G.2.1.2.2.2.2.2.2.2.1.1
  refine zj_iload_n dk_121_0 rfl ?_
  refine zj_if_lt (t := 15) dk_121_1 rfl (by omega) (fun c1 => ?_) (fun c1 => ?_)
  · skip
    refine zj_iconst dk_121_15 ?_
    refine zj_ireturn dk_121_16 rfl ⟨rfl, Or.inl ⟨by omega, rfl, rfl⟩⟩
  · skip
    refine zj_iload_n dk_121_4 rfl ?_
    refine zi_aload_n dk_121_5 rfl rfl ?_
    refine zi_getf dk_121_6 fl_0_47 (by first | exact G.1 0 (by decide) | exact G.1 _ (by decide)) rfl ?_
    refine zi_invV dk_121_9 ml_0_82 iv_23 (ct_23 (d := d - 1) (N := 0) (f := fun _ => none) (G.1 18 (by decide))) (by first | exact G.1 0 (by decide) | exact G.1 _ (by decide)) rfl rfl rfl (Nat.le_of_ble_eq_true rfl) (by omega) rfl rfl (fun r n' h' hq => ?_)
    obtain ⟨rfl, e1, e2⟩ := hq
    have e1 := e1.symm
    have e2 := e2.symm
    subst e1
    subst e2
    refine zj_icmp_lt (t := 17) dk_121_12 rfl (by omega) (fun c12 => ?_) (fun c12 => ?_)
    · skip
      refine zi_aload_n dk_121_17 rfl rfl ?_
      refine zi_getf dk_121_18 fl_0_19 (by first | exact G.1 0 (by decide) | exact G.1 _ (by decide)) rfl ?_
      refine zi_aload_n dk_121_21 rfl rfl ?_
      refine zi_getf dk_121_22 fl_0_12 (by first | exact G.1 0 (by decide) | exact G.1 _ (by decide)) rfl ?_
      refine zi_invV dk_121_25 ml_0_190 iv_84 (gm_84 (d := d - 1) (by omega) G) (G.1 3 (by decide)) rfl rfl rfl (Nat.le_of_ble_eq_true rfl) (by omega) rfl rfl (fun r n' h' hq => ?_)
      rename zz_H => h5
      obtain ⟨rfl, S', A1, hS', hA1, G, hm1, ⟨L, hL, rfl, hpl⟩ | ⟨hL, rfl⟩⟩ := hq
      all_goals have hA1' : ax [5, 6, 7, 9, 10] A A1 := fun j hj => hA1 j (fun e => hj (by rw [e]; decide)) (fun e => hj (by rw [e]; decide)) (fun e => hj (by rw [e]; decide))
      · skip
        refine zj_if_ne (t := 34) dk_121_28 rfl (by omega) (fun c28 => ?_) (fun c28 => ?_)
        · skip
          have e14 := hS' 14 (by decide) (by decide) (by decide)
          obtain ⟨p, m1, m2, m3, m4, m5⟩ := G.ru (i := r0) (by omega)
          have hp := List.mem_of_getElem? m1
          have hbz := bz_rg (sp_fits p.2.1 L)
          refine zi_aload_n dk_121_34 rfl rfl ?_
          refine zi_getf dk_121_35 fl_0_26 (by first | exact G.1 0 (by decide) | exact G.1 _ (by decide)) rfl ?_
          refine zi_aload_n dk_121_38 rfl rfl ?_
          refine zi_getf dk_121_39 fl_0_47 (by first | exact G.1 0 (by decide) | exact G.1 _ (by decide)) rfl ?_
          refine zj_iload_n dk_121_42 rfl ?_
          refine zi_invV dk_121_43 ml_0_129 iv_57 (gt_get (d := d - 1) (by omega) (G.1 18 (by decide)) G.2.2.2.1.1 (by rw [List.length_map]; exact G.2.1.2.2.2.2.2.2.2.1.1) (by omega) m2) (by first | exact G.1 0 (by decide) | exact G.1 _ (by decide)) rfl rfl rfl (Nat.le_of_ble_eq_true rfl) (by omega) rfl rfl (fun r n' h' hq => ?_)
          obtain ⟨rfl, e1, e2⟩ := hq
          have e1 := e1.symm
          have e2 := e2.symm
          subst e1
          subst e2
          refine zi_castS dk_121_46 zw_299 m3.1 rfl ?_
          refine zi_getf dk_121_49 fl_0_226 m3.1 rfl ?_
          refine zi_aload_n dk_121_52 rfl rfl ?_
          refine zi_getf dk_121_53 fl_0_19 (by first | exact G.1 0 (by decide) | exact G.1 _ (by decide)) rfl ?_
          refine zi_getf dk_121_56 fl_0_230 (G.1 3 (by decide)) rfl ?_
          refine zi_invV dk_121_59 ml_0_233 iv_99 (gm_99 (d := d - 1) (by omega) G hp hpl) (G.1 8 (by decide)) rfl rfl rfl (Nat.le_of_ble_eq_true rfl) (by omega) rfl rfl (fun r n' h' hq => ?_)
          obtain ⟨rfl, rfl, gl, gr, G2, hm2, hk2⟩ := hq
          refine zj_if_eq (t := 69) dk_121_62 rfl (by omega) (fun c62 => ?_) (fun c62 => ?_)
          · skip
            refine zj_iconst dk_121_69 ?_
            refine zj_ireturn dk_121_70 rfl ⟨rfl, Or.inr ⟨by omega, S', _, hS', (hA1'.up (by decide)).up (by decide), G2, hm1.tr hm2, Or.inr ⟨L, p, hL, m1, by congr 2; omega⟩⟩⟩
          · skip
            refine zj_iconst dk_121_65 ?_
            refine zi_goto (t := 70) dk_121_66 rfl ?_
            refine zj_ireturn dk_121_70 rfl ⟨rfl, Or.inr ⟨by omega, S', _, hS', (hA1'.up (by decide)).up (by decide), G2, hm1.tr hm2, Or.inr ⟨L, p, hL, m1, by congr 2; omega⟩⟩⟩
        · omega
      · skip
        refine zj_if_ne (t := 34) dk_121_28 rfl (by omega) (fun c28 => ?_) (fun c28 => ?_)
        · omega
        · skip
          refine zj_bipush dk_121_31 (by decide) ?_
          refine zj_ireturn dk_121_33 rfl ⟨rfl, Or.inr ⟨by omega, S', A1, hS', hA1', G, hm1, Or.inl ⟨hL, rfl⟩⟩⟩
    · skip
      refine zj_iconst dk_121_15 ?_
      refine zj_ireturn dk_121_16 rfl ⟨rfl, Or.inl ⟨by omega, rfl, rfl⟩⟩

theorem gm_94 {X : zz_X} {d n : Nat} {h : zz_H} {b : Nat} {S : Nat → Int} {A : Nat → Int → Int} {E : Nat → Nat} {RL : List (Nat × rd)} {UL : List (Nat × ud)} {SL : List (Nat × sd)} {T1 T2 : List (Nat × td)} (G : GI X b h S A E RL UL SL T1 T2) (hn : b + 64 ≤ n) {k : Nat} {q : Nat × td} (hk : T1[k]? = some q) : zz_Ct X mm_94 d 0 0 [.ref b, .ref q.1] n h (fun r n' h' => n' = n ∧ r = some (zv (if q.2.2.2.2.1 = 1 then q.2.1 + 8 else q.2.1)) ∧ GI X b h' S A E RL UL SL (T1.set k (q.1, (q.2.1, q.2.2.1, q.2.2.2.1, q.2.2.2.2.1, q.2.2.2.2.2.1, S 2))) T2 ∧ mf b h h') := by
  refine zz_start (by decide) (ls := [some (.ref b), some (.ref q.1)]) rfl ?_
  have mq := G.t1.mem (List.mem_of_getElem? hk)
  have V := mq.2
  have hrm := V.2.2.2.1
  have hr := G.rg
  have G2 := G.t1u hk (x := (q.2.1, q.2.2.1, q.2.2.2.1, q.2.2.2.2.1, q.2.2.2.2.2.1, S 2)) ⟨V.1, V.2.1, V.2.2.1, V.2.2.2.1, V.2.2.2.2.1, by dsimp only; omega⟩ rfl
  refine zi_aload_n dk_94_0 rfl rfl ?_
  refine zi_aload_n dk_94_1 rfl rfl ?_
  refine zi_getf dk_94_2 fl_0_134 (by first | exact G.1 0 (by decide) | exact G.1 _ (by decide)) rfl ?_
  refine zj_putI dk_94_5 fp_94_265 mq.1 rfl ?_
  obtain ⟨G, hm, -⟩ := G2
  have mq2 := G.t1.mem (List.mem_of_getElem? (set_self hk))
  change _ = some (Sum.inr (9, [zv q.2.1, zv q.2.2.1, zv q.2.2.2.1, zv q.2.2.2.2.1, zv q.2.2.2.2.2.1, zv (S 2)])) ∧ _ at mq2
  refine zi_aload_n dk_94_8 rfl rfl ?_
  refine zi_getf dk_94_9 fl_0_244 mq2.1 rfl ?_
  refine zj_if_eq (t := 25) dk_94_12 rfl (by omega) (fun c12 => ?_) (fun c12 => ?_)
  · skip
    refine zi_aload_n dk_94_25 rfl rfl ?_
    refine zi_getf dk_94_26 fl_0_178 mq2.1 rfl ?_
    refine zj_ireturn dk_94_29 rfl ⟨rfl, by first | rw [if_pos (by omega)] | rw [if_neg (by omega)], G, hm⟩
  · skip
    refine zi_aload_n dk_94_15 rfl rfl ?_
    refine zi_getf dk_94_16 fl_0_178 mq2.1 rfl ?_
    refine zj_bipush dk_94_19 (by decide) ?_
    refine zj_iadd dk_94_21 ?_
    refine zi_goto (t := 29) dk_94_22 rfl ?_
    refine zj_ireturn dk_94_29 rfl ⟨rfl, by first | rw [if_pos (by omega)] | rw [if_neg (by omega)], G, hm⟩

theorem gm_95 {X : zz_X} {d n : Nat} {h : zz_H} (hd : 10 ≤ d) {b : Nat} {S : Nat → Int} {A : Nat → Int → Int} {E : Nat → Nat} {RL : List (Nat × rd)} {UL : List (Nat × ud)} {SL : List (Nat × sd)} {T1 T2 : List (Nat × td)} (G : GI X b h S A E RL UL SL T1 T2) (hn : b + 64 ≤ n) {id tok : Int} (hid : -2147483648 ≤ id ∧ id < 2147483648) (htok : -2147483648 ≤ tok ∧ tok < 2147483648) (h3 : S 3 ≤ 80000) : zz_Ct X mm_95 d 2 21 [.ref b, zv id, zv tok] n h (fun r n' h' => n ≤ n' ∧ ((T2.find? (fun p => decide (p.2.2.1 = id)) = none ∧ r = some (zv (-1)) ∧ h' = h) ∨ ∃ k q, T2.find? (fun p => decide (p.2.2.1 = id)) = some q ∧ T2[k]? = some q ∧ ((q.2.2.2.1 ≠ tok ∧ r = some (zv (-1)) ∧ ∃ S', S' 7 = S 7 + 1 ∧ (∀ i, i < 14 → i ≠ 7 → S' i = S i) ∧ GI X b h' S' A E RL UL SL (T1.filter (fun p => decide (¬ (p.2.1 = q.2.1)))) (T2.filter (fun p => decide (¬ (p.2.1 = q.2.1)))) ∧ mf b h h') ∨ (q.2.2.2.1 = tok ∧ r = some (zv (q.2.1 + 8)) ∧ ∃ S' E', S' 3 = S 3 + 3 ∧ (∀ i, i < 14 → i ≠ 3 → S' i = S i) ∧ GI X b h' S' A E' RL UL SL (tk_end T1 q.2.1 ++ [(n, (q.2.1, S 3 + 2, S 3 + 3, 1, S 2, S 2))]) (T2.set k (q.1, (q.2.1, q.2.2.1, S 3 + 1, q.2.2.2.2.1, q.2.2.2.2.2.1, q.2.2.2.2.2.2))) ∧ mf b h h')))) := by
  refine zz_start (by decide) (ls := [some (.ref b), some (zv id), some (zv tok), none]) rfl ?_
  have hr := G.rg
  cases hf : T2.find? (fun p => decide (p.2.2.1 = id)) with
  | none =>
    refine zi_aload_n dk_95_0 rfl rfl ?_
    refine zi_getf dk_95_1 fl_0_64 (by first | exact G.1 0 (by decide) | exact G.1 _ (by decide)) rfl ?_
    refine zj_iload_n dk_95_4 rfl ?_
    refine zi_invV dk_95_5 ml_0_174 iv_81 (ct_81 (d := d - 1) (by omega) (G.1 23 (by decide)) G.t2 hid) (by first | exact G.1 0 (by decide) | exact G.1 _ (by decide)) rfl rfl rfl (Nat.le_of_ble_eq_true rfl) (by omega) rfl rfl (fun r n' h' hq => ?_)
    obtain ⟨rfl, e1, e2⟩ := hq
    have e1 := e1.symm
    have e2 := e2.symm
    subst e1
    subst e2
    rw [hf]
    refine zi_astore_n dk_95_8 rfl rfl ?_
    refine zi_aload_n dk_95_9 rfl rfl ?_
    refine zi_ifnonnullN (t := 15) dk_95_10 rfl ?_
    refine zj_iconst dk_95_13 ?_
    refine zj_ireturn dk_95_14 rfl ⟨Nat.le_refl _, Or.inl ⟨rfl, rfl, rfl⟩⟩
  | some q =>
    have hqm := List.mem_of_find?_eq_some hf
    have mq := G.t2.mem hqm
    obtain ⟨k, hk⟩ := List.getElem?_of_mem hqm
    have lq := G.2.2.2.2.2.2.2.2.2.2.1.2.2.2 q (List.mem_append_right _ hqm)
    have V := mq.2
    have uq := V.1
    have tq := V.2.2.1
    refine zi_aload_n dk_95_0 rfl rfl ?_
    refine zi_getf dk_95_1 fl_0_64 (by first | exact G.1 0 (by decide) | exact G.1 _ (by decide)) rfl ?_
    refine zj_iload_n dk_95_4 rfl ?_
    refine zi_invV dk_95_5 ml_0_174 iv_81 (ct_81 (d := d - 1) (by omega) (G.1 23 (by decide)) G.t2 hid) (by first | exact G.1 0 (by decide) | exact G.1 _ (by decide)) rfl rfl rfl (Nat.le_of_ble_eq_true rfl) (by omega) rfl rfl (fun r n' h' hq => ?_)
    obtain ⟨rfl, e1, e2⟩ := hq
    have e1 := e1.symm
    have e2 := e2.symm
    subst e1
    subst e2
    rw [hf]
    refine zi_astore_n dk_95_8 rfl rfl ?_
    refine zi_aload_n dk_95_9 rfl rfl ?_
    refine zi_ifnonnullR (t := 15) dk_95_10 rfl ?_
    refine zi_aload_n dk_95_15 rfl rfl ?_
    refine zi_getf dk_95_16 fl_0_201 mq.1 rfl ?_
    refine zj_iload_n dk_95_19 rfl ?_
    refine zj_icmp_eq (t := 57) dk_95_20 rfl (by omega) (fun c20 => ?_) (fun c20 => ?_)
    · skip
      refine zi_aload_n dk_95_57 rfl rfl ?_
      refine zi_aload_n dk_95_58 rfl rfl ?_
      refine zi_invV dk_95_59 ml_0_106 iv_47 (gd_47 (d := d - 1) G hn (by omega)) (by first | exact G.1 0 (by decide) | exact G.1 _ (by decide)) rfl rfl rfl (Nat.le_of_ble_eq_true rfl) (by omega) rfl rfl (fun r n' h' hq => ?_)
      rename zz_H => h5
      obtain ⟨rfl, rfl, G, hm1, hc1⟩ := hq
      have mq := G.t2.mem hqm
      have G2 := G.t2u hk (x := (q.2.1, q.2.2.1, S 3 + 1, q.2.2.2.2.1, q.2.2.2.2.2.1, q.2.2.2.2.2.2)) ⟨V.1, V.2.1, by dsimp only; omega, V.2.2.2.1, V.2.2.2.2.1, V.2.2.2.2.2⟩ rfl
      refine zj_putI dk_95_62 fp_95_201 mq.1 rfl ?_
      obtain ⟨G, hm2, -⟩ := G2
      have mq2 := G.t2.mem (List.mem_of_getElem? (set_self hk))
      change _ = some (Sum.inr (9, [zv q.2.1, zv q.2.2.1, zv (S 3 + 1), zv q.2.2.2.2.1, zv q.2.2.2.2.2.1, zv q.2.2.2.2.2.2])) ∧ _ at mq2
      refine zi_aload_n dk_95_65 rfl rfl ?_
      refine zi_aload_n dk_95_66 rfl rfl ?_
      refine zi_getf dk_95_67 fl_0_60 (by first | exact G.1 0 (by decide) | exact G.1 _ (by decide)) rfl ?_
      refine zi_aload_n dk_95_70 rfl rfl ?_
      refine zi_getf dk_95_71 fl_0_178 mq2.1 rfl ?_
      refine zj_iconst dk_95_74 ?_
      refine zi_invV dk_95_75 ml_0_170 iv_76 (g3_76 (d := d - 1) (by omega) G hn uq (Or.inr rfl) (by rw [va_up_self]; omega)) (by first | exact G.1 0 (by decide) | exact G.1 _ (by decide)) rfl rfl rfl (Nat.le_of_ble_eq_true rfl) (by omega) (kc' := 0) (ks' := 0) rfl rfl (fun r n' h' hq => ?_)
      rename zz_H => h6
      obtain ⟨rfl, hn2, S', E', h3', hS', G, hm3⟩ := hq
      have mq3 := G.t2.mem (List.mem_of_getElem? (set_self hk))
      change _ = some (Sum.inr (9, [zv q.2.1, zv q.2.2.1, zv (S 3 + 1), zv q.2.2.2.2.1, zv q.2.2.2.2.2.1, zv q.2.2.2.2.2.2])) ∧ _ at mq3
      rw [va_up_self, show S 3 + 1 + 1 + 1 = S 3 + 3 by omega, show S 3 + 1 + 1 = S 3 + 2 by omega] at G
      refine zi_pop dk_95_78 rfl ?_
      refine zi_aload_n dk_95_79 rfl rfl ?_
      refine zi_getf dk_95_80 fl_0_178 mq3.1 rfl ?_
      refine zj_bipush dk_95_83 (by decide) ?_
      refine zj_iadd dk_95_85 ?_
      refine zj_ireturn dk_95_86 rfl ⟨hn2, Or.inr ⟨k, q, rfl, hk, Or.inr ⟨by omega, rfl, S', E', by rw [h3', va_up_self]; omega, fun i hi hne => (hS' i hi hne).trans (va_up_ne _ _ hne), G, (hm1.tr hm2).tr hm3⟩⟩⟩
    · skip
      refine zi_aload_n dk_95_23 rfl rfl ?_
      refine zi_dup dk_95_24 rfl ?_
      refine zi_getf dk_95_25 fl_0_253 (by first | exact G.1 0 (by decide) | exact G.1 _ (by decide)) rfl ?_
      refine zj_iconst dk_95_28 ?_
      refine zj_iadd dk_95_29 ?_
      have G2 := G.g7 (x := S 7 + 1) (G.2.1.s48 (by decide))
      refine zj_putI dk_95_30 fp_95_253 (by first | exact G.1 0 (by decide) | exact G.1 _ (by decide)) rfl ?_
      obtain ⟨G, hm1, -⟩ := G2
      have mq := G.t2.mem hqm
      refine zz_Z.lt (fun hlt => ?_)
      refine zi_aload_n dk_95_33 rfl rfl ?_
      refine zi_getf dk_95_34 fl_0_64 (by first | exact G.1 0 (by decide) | exact G.1 _ (by decide)) rfl ?_
      refine zi_aload_n dk_95_37 rfl rfl ?_
      refine zi_getf dk_95_38 fl_0_178 mq.1 rfl ?_
      refine zi_invV dk_95_41 ml_0_183 iv_82 (g4_82 (d := d - 1) (by omega) G hlt hn (by omega)) (G.1 23 (by decide)) rfl rfl rfl (Nat.le_of_ble_eq_true rfl) (by omega) rfl rfl (fun r n' h' hq => ?_)
      rename zz_H => h5
      obtain ⟨rfl, rfl, S1, hS1, G, hm2, hk2⟩ := hq
      have mq1 := (hk2 _ _ mq.1 lq).trans mq.1
      refine zz_Z.lt (fun hlt2 => ?_)
      refine zi_aload_n dk_95_44 rfl rfl ?_
      refine zi_getf dk_95_45 fl_0_60 (by first | exact G.1 0 (by decide) | exact G.1 _ (by decide)) rfl ?_
      refine zi_aload_n dk_95_48 rfl rfl ?_
      refine zi_getf dk_95_49 fl_0_178 mq1 rfl ?_
      refine zi_invV dk_95_52 ml_0_183 iv_82 (g3_82 (d := d - 1) (by omega) G hlt2 hn (by omega)) (G.1 21 (by decide)) rfl rfl rfl (Nat.le_of_ble_eq_true rfl) (by omega) rfl rfl (fun r n' h' hq => ?_)
      rename zz_H => h6
      obtain ⟨rfl, rfl, S2, hS2, G, hm3, hk3⟩ := hq
      refine zj_iconst dk_95_55 ?_
      refine zj_ireturn dk_95_56 rfl ⟨Nat.le_refl _, Or.inr ⟨k, q, rfl, hk, Or.inl ⟨c20, rfl, S2, ((hS2 7 (by decide)).trans (hS1 7 (by decide))).trans (va_up_self _ _ _), fun i hi hne => ((hS2 i hi).trans (hS1 i hi)).trans (va_up_ne _ _ hne), G, (hm1.tr hm2).tr hm3⟩⟩⟩

