/-! rule, and what stays in the gate's own cells -/
section GR
variable {X : zz_X} {b n : Nat} {h : zz_H} {S : Nat → Int} {A : Nat → Int → Int} {E : Nat → Nat} {RL : List (Nat × rd)} {UL : List (Nat × ud)} {SL : List (Nat × sd)} {T1 T2 : List (Nat × td)}
theorem GI.tx (G : GI X b h S A E RL UL SL T1 T2) : ∀ i, 0 ≤ i → i < S 9 → 0 ≤ A 2 i ∧ A 2 i < 65536 := fun i h1 h2 => by
  have := G.2.1.2.1 i h1 h2
  omega
theorem GI.ru (G : GI X b h S A E RL UL SL T1 T2) {i : Int} (hi : 0 ≤ i ∧ i < S 14) : ∃ p, RL[i.toNat]? = some p ∧ (RL.map Prod.fst)[i.toNat]? = some p.1 ∧ ru_C h p.1 p.2 ∧ ru_V p.2 ∧ b + 64 ≤ p.1 := by
  have hl := G.2.1.2.2.2.2.2.2.2.1.1
  have hlt : i.toNat < RL.length := by omega
  have e : RL[i.toNat]? = some RL[i.toNat] := List.getElem?_eq_getElem hlt
  have hm := List.mem_of_getElem? e
  exact ⟨_, e, by rw [List.getElem?_map, e]; rfl, (G.2.2.2.1.2 _ hm).1, (G.2.2.2.1.2 _ hm).2, G.2.2.2.2.2.2.2.2.2.2.1.1 _ hm⟩
theorem gi_P.s9 (P : gi_P S A RL UL SL T1 T2) : gi_P (va_up S 9 0) A RL UL SL T1 T2 := by
  obtain ⟨p1, p2, p3⟩ := P
  exact ⟨by show (0:Int) ≤ 0 ∧ (0:Int) ≤ 40; omega, fun i h1 h2 => by have h2 : i < 0 := h2; omega, p3⟩
theorem gi_P.ty {c : Int} (P : gi_P S A RL UL SL T1 T2) (hc : 33 ≤ c ∧ c ≤ 126) (hl : S 9 < 40) : gi_P (va_up S 9 (S 9 + 1)) (va_up A 2 (zU (A 2) (S 9) c)) RL UL SL T1 T2 := by
  obtain ⟨p1, p2, p3⟩ := P
  refine ⟨by show (0:Int) ≤ S 9 + 1 ∧ S 9 + 1 ≤ 40; omega, fun i h1 h2 => ?_, p3⟩
  have h2 : i < S 9 + 1 := h2
  show 33 ≤ zU (A 2) (S 9) c i ∧ zU (A 2) (S 9) c i ≤ 126
  by_cases hi : i = S 9
  · subst hi; rw [zU_eq]; exact hc
  · rw [zU_ne hi]; exact p2 i h1 (by omega)
theorem gi_P.ex {op x y : Int} (P : gi_P S A RL UL SL T1 T2) (hx : -2147483648 ≤ x ∧ x < 2147483648) (hy : -2147483648 ≤ y ∧ y < 2147483648) (hok : S 13 < 16 ∧ (0 ≤ op ∧ op ≤ 9) ∧ ex_ct op x y (S 13) = 1) : gi_P (va_up S 13 (S 13 + 1)) (va_up (va_up (va_up A 12 (zU (A 12) (S 13) op)) 13 (zU (A 13) (S 13) x)) 14 (zU (A 14) (S 13) y)) RL UL SL T1 T2 := by
  obtain ⟨p1, p2, ⟨p3, p4⟩, p5⟩ := P
  refine ⟨p1, p2, ⟨by show (0:Int) ≤ S 13 + 1 ∧ S 13 + 1 ≤ 16; omega, fun i h1 h2 => ?_⟩, p5⟩
  have h2 : i < S 13 + 1 := h2
  show (0 ≤ zU (A 12) (S 13) op i ∧ zU (A 12) (S 13) op i ≤ 9) ∧ (-2147483648 ≤ zU (A 13) (S 13) x i ∧ zU (A 13) (S 13) x i < 2147483648) ∧ (-2147483648 ≤ zU (A 14) (S 13) y i ∧ zU (A 14) (S 13) y i < 2147483648) ∧ (zU (A 12) (S 13) op i = 3 → 0 ≤ zU (A 13) (S 13) x i ∧ zU (A 13) (S 13) x i ≤ 7) ∧ ((4 ≤ zU (A 12) (S 13) op i ∧ zU (A 12) (S 13) op i ≤ 6) → 0 ≤ zU (A 13) (S 13) x i ∧ zU (A 13) (S 13) x i < i) ∧ ((5 ≤ zU (A 12) (S 13) op i ∧ zU (A 12) (S 13) op i ≤ 6) → 0 ≤ zU (A 14) (S 13) y i ∧ zU (A 14) (S 13) y i < i)
  by_cases hi : i = S 13
  · subst hi
    rw [zU_eq, zU_eq, zU_eq]
    have hc := hok.2.2
    unfold ex_ct at hc
    refine ⟨hok.2.1, hx, hy, fun h3 => ?_, fun h4 => ?_, fun h5 => ?_⟩
    · rw [if_pos h3] at hc
      split at hc <;> omega
    · rw [if_neg (by omega)] at hc
      by_cases h6 : op = 4
      · rw [if_pos h6] at hc
        split at hc <;> omega
      · rw [if_neg h6, if_pos (by omega)] at hc
        split at hc <;> omega
    · rw [if_neg (by omega), if_neg (by omega), if_pos (by omega)] at hc
      split at hc <;> omega
  · rw [zU_ne hi, zU_ne hi, zU_ne hi]
    exact p4 i h1 (by omega)
theorem gi_P.ro {g : Int → Int} (P : gi_P S A RL UL SL T1 T2) (hg : rl_V g) : gi_P S (va_up A 17 g) RL UL SL T1 T2 := by
  obtain ⟨p1, p2, p3, p4, p5, p6⟩ := P
  exact ⟨p1, p2, p3, p4, hg, p6⟩
theorem gi_P.cl (P : gi_P S A RL UL SL T1 T2) : gi_P (va_up (va_up S 1 0) 0 (-1)) A RL UL SL T1 T2 := by
  obtain ⟨p1, p2, p3, p4, p5, p6, ⟨p7, p8, p9⟩, p10⟩ := P
  exact ⟨p1, p2, p3, p4, p5, p6, ⟨Or.inl rfl, by show (-1:Int) ≤ -1 ∧ (-1:Int) ≤ 13; omega, p9⟩, p10⟩
theorem up5 {h : zz_H} {s : Nat} {e0 e1 : va_E} {ch st en : Int → Int} {bg wr sz : Int} : pc_H (s + 1) ch st en bg wr sz (zz_up (zz_up h s e0) s e1) = zz_up (zz_up (zz_up (zz_up (zz_up h s e1) (s + 1) (pc_O (s + 1) bg wr sz)) (s + 2) (zA 1 40 ch)) (s + 3) (zA 0 20 st)) (s + 4) (zA 0 20 en) := by
  rw [zz_up_up]
  unfold pc_H
  funext a
  by_cases h1 : a = s + 1
  · subst h1
    rw [zz_up_eq, zz_up_ne (by omega), zz_up_ne (by omega), zz_up_ne (by omega), zz_up_eq]
  · rw [zz_up_ne h1]
    by_cases h4 : a = s + 4
    · subst h4; exact (zz_up_eq _ _ _).trans (zz_up_eq _ _ _).symm
    · rw [zz_up_ne (show a ≠ s + 1 + 3 by omega), zz_up_ne h4]
      by_cases h3 : a = s + 3
      · subst h3; exact (zz_up_eq _ _ _).trans (zz_up_eq _ _ _).symm
      · rw [zz_up_ne (show a ≠ s + 1 + 2 by omega), zz_up_ne h3]
        by_cases h2 : a = s + 2
        · subst h2; exact (zz_up_eq _ _ _).trans (zz_up_eq _ _ _).symm
        · rw [zz_up_ne (show a ≠ s + 1 + 1 by omega), zz_up_ne h2, zz_up_ne h1]
theorem GI.f5 (G : GI X b h S A E RL UL SL T1 T2) (hlt : ∀ a e, h a = some e → a < n) (hn : b + 64 ≤ n) (e0 e1 e2 e3 e4 : va_E) : GI X b (zz_up (zz_up (zz_up (zz_up (zz_up h n e0) (n + 1) e1) (n + 2) e2) (n + 3) e3) (n + 4) e4) S A E RL UL SL T1 T2 ∧ mf b h (zz_up (zz_up (zz_up (zz_up (zz_up h n e0) (n + 1) e1) (n + 2) e2) (n + 3) e3) (n + 4) e4) ∧ (∀ a e, zz_up (zz_up (zz_up (zz_up (zz_up h n e0) (n + 1) e1) (n + 2) e2) (n + 3) e3) (n + 4) e4 a = some e → a < n + 5) := by
  have G3 := G.f3 hlt hn e0 e1 e2
  have G4 := G3.1.fresh G3.2.2 (by omega) e3
  have G5 := G4.1.fresh (up_lt G3.2.2) (by omega) e4
  exact ⟨G5.1, (G3.2.1.tr G4.2.1).tr G5.2.1, up_lt (up_lt G3.2.2)⟩
theorem sp_pat_len {f : Int → Int} {len : Int} (h : sp_pat f len = true) : len ≠ 0 := fun e => by
  unfold sp_pat at h
  simp only [Bool.and_eq_true, decide_eq_true_eq] at h
  exact h.1.1.1.1 (Or.inl e)
end GR
theorem gm_22 {X : zz_X} {d n : Nat} {h : zz_H} (hd : 8 ≤ d) {b : Nat} {S : Nat → Int} {A : Nat → Int → Int} {E : Nat → Nat} {RL : List (Nat × rd)} {UL : List (Nat × ud)} {SL : List (Nat × sd)} {T1 T2 : List (Nat × td)} (G : GI X b h S A E RL UL SL T1 T2) (hn : b + 64 ≤ n) {ex ms : Int} (hex : -2147483648 ≤ ex ∧ ex < 2147483648) (hms : -2147483648 ≤ ms ∧ ms < 2147483648) : zz_Ct X mm_22 d 6 104 [.ref b, zv ex, zv ms] n h (fun r n' h' => (¬ (RL.length < 8 ∧ (0 ≤ ex ∧ ex < S 13) ∧ (1 ≤ ms ∧ ms ≤ 15) ∧ sp_pat (A 2) (S 9) = true) ∧ r = some (zv (-1)) ∧ n' = n ∧ h' = h) ∨ ((RL.length < 8 ∧ (0 ≤ ex ∧ ex < S 13) ∧ (1 ≤ ms ∧ ms ≤ 15) ∧ sp_pat (A 2) (S 9) = true) ∧ r = some (zv (RL.length : Int)) ∧ n ≤ n' ∧ ∃ S' E', S' 9 = 0 ∧ (∀ i, i < 14 → i ≠ 9 → S' i = S i) ∧ GI X b h' S' A E' (RL ++ [(n, (sp_pcs (A 2) (S 9), ex, ms))]) UL SL T1 T2 ∧ mf b h h')) := by
  refine zz_start (by decide) (ls := [some (.ref b), some (zv ex), some (zv ms)]) rfl ?_
  have hsz := G.sz
  have hlR := G.2.1.2.2.2.2.2.2.2.1.1
  have hz := G.2.1.2.2.1.1
  have hw := G.2.1.2.2.1.2
  have hbz := bz_rg (sp_pat (A 2) (S 9))
  have hl9 := G.2.1.1
  refine zi_aload_n dk_22_0 rfl rfl ?_
  refine zi_getf dk_22_1 fl_0_47 (by first | exact G.1 0 (by decide) | exact G.1 _ (by decide)) rfl ?_
  refine zi_invV dk_22_4 ml_0_82 iv_23 (ct_23 (d := d - 1) (N := 0) (f := fun _ => none) (G.1 18 (by decide))) (by first | exact G.1 0 (by decide) | exact G.1 _ (by decide)) rfl rfl rfl (Nat.le_of_ble_eq_true rfl) (by omega) rfl rfl (fun r n' h' hq => ?_)
  obtain ⟨rfl, e1, e2⟩ := hq
  have e1 := e1.symm
  have e2 := e2.symm
  subst e1
  subst e2
  refine zj_bipush dk_22_7 (by decide) ?_
  refine zj_icmp_ge (t := 23) dk_22_9 rfl (by omega) (fun c9 => ?_) (fun c9 => ?_)
  · skip
    refine zj_iconst dk_22_23 ?_
    refine zj_ireturn dk_22_24 rfl (Or.inl ⟨fun hh => by first | omega | (rw [if_pos hh.2.1] at c20; omega) | (rw [hh.2.2.2] at c43; exact absurd c43 (by decide)), rfl, rfl, rfl⟩)
  · skip
    refine zi_aload_n dk_22_12 rfl rfl ?_
    refine zi_getf dk_22_13 fl_0_33 (by first | exact G.1 0 (by decide) | exact G.1 _ (by decide)) rfl ?_
    refine zj_iload_n dk_22_16 rfl ?_
    refine zi_invV dk_22_17 ml_0_86 iv_21 (ct_21 (d := d - 1) (G.1 11 (by decide)) (G.1 12 (by decide)) (G.1 13 (by decide)) (G.1 14 (by decide)) (G.1 15 (by decide)) hz hw hex) (by first | exact G.1 0 (by decide) | exact G.1 _ (by decide)) rfl rfl rfl (Nat.le_of_ble_eq_true rfl) (by omega) rfl rfl (fun r n' h' hq => ?_)
    obtain ⟨rfl, e1, e2⟩ := hq
    have e1 := e1.symm
    have e2 := e2.symm
    subst e1
    subst e2
    refine zj_if_ne (t := 25) dk_22_20 rfl (by split <;> omega) (fun c20 => ?_) (fun c20 => ?_)
    · skip
      refine zj_iload_n dk_22_25 rfl ?_
      refine zj_iconst dk_22_26 ?_
      refine zj_icmp_lt (t := 46) dk_22_27 rfl (by omega) (fun c27 => ?_) (fun c27 => ?_)
      · skip
        refine zj_iconst dk_22_46 ?_
        refine zj_ireturn dk_22_47 rfl (Or.inl ⟨fun hh => by first | omega | (rw [if_pos hh.2.1] at c20; omega) | (rw [hh.2.2.2] at c43; exact absurd c43 (by decide)), rfl, rfl, rfl⟩)
      · skip
        refine zj_iload_n dk_22_30 rfl ?_
        refine zj_bipush dk_22_31 (by decide) ?_
        refine zj_icmp_gt (t := 46) dk_22_33 rfl (by omega) (fun c33 => ?_) (fun c33 => ?_)
        · skip
          refine zj_iconst dk_22_46 ?_
          refine zj_ireturn dk_22_47 rfl (Or.inl ⟨fun hh => by first | omega | (rw [if_pos hh.2.1] at c20; omega) | (rw [hh.2.2.2] at c43; exact absurd c43 (by decide)), rfl, rfl, rfl⟩)
        · skip
          refine zi_aload_n dk_22_36 rfl rfl ?_
          refine zi_getf dk_22_37 fl_0_12 (by first | exact G.1 0 (by decide) | exact G.1 _ (by decide)) rfl ?_
          refine zi_invS dk_22_40 ml_0_89 is_24 (ct_24 (d := d - 1) (by omega) (G.1 1 (by decide)) (G.1 2 (by decide)) G.2.1.1 G.tx) rfl rfl (Nat.le_of_ble_eq_true rfl) (by omega) rfl rfl (fun r n' h' hq => ?_)
          obtain ⟨rfl, e1, e2⟩ := hq
          have e1 := e1.symm
          have e2 := e2.symm
          subst e1
          subst e2
          refine zj_if_ne (t := 48) dk_22_43 rfl (by omega) (fun c43 => ?_) (fun c43 => ?_)
          · skip
            have hpt : sp_pat (A 2) (S 9) = true := by
              cases hx : sp_pat (A 2) (S 9) with
              | true => rfl
              | false => rw [hx] at c43; exact absurd rfl c43
            have hok : (RL.length < 8 ∧ (0 ≤ ex ∧ ex < S 13) ∧ (1 ≤ ms ∧ ms ≤ 15) ∧ sp_pat (A 2) (S 9) = true) := ⟨by omega, by split at c20 <;> omega, by omega, hpt⟩
            have hl0 := sp_pat_len hpt
            refine zz_Z.lt (fun hlt => ?_)
            have G1 := G.fresh hlt hn (.inr (5, [.null, zv 0, zv 0]))
            refine zi_aload_n dk_22_48 rfl rfl ?_
            refine zi_getf dk_22_49 fl_0_47 (by first | exact G.1 0 (by decide) | exact G.1 _ (by decide)) rfl ?_
            refine zi_new dk_22_52 nw_0_90 (kc' := 5) (ks' := 101) rfl rfl ?_
            refine zi_dup dk_22_55 rfl ?_
            refine zi_aload_n dk_22_56 rfl rfl ?_
            refine zi_getf dk_22_57 fl_0_12 (G1.1.1 0 (by decide)) rfl ?_
            refine zj_iload_n dk_22_60 rfl ?_
            refine zj_iload_n dk_22_61 rfl ?_
            refine zi_invI dk_22_62 ml_0_95 ii_30 (ct_30 (d := d - 1) (by omega) rfl (zz_up_eq _ _ _) (G1.1.1 1 (by decide)) (by omega) (G1.1.1 2 (by decide)) (by omega) (by omega) G.tx hpt) rfl rfl (Nat.le_of_ble_eq_true rfl) (by omega) (kc' := 1) (ks' := 15) rfl rfl (fun r n' h' hq => ?_)
            obtain ⟨rfl, rfl, ch, st, en, bg, wr, hch, hpr, hpl, rfl⟩ := hq
            rw [up5]
            have G2 := G.f5 hlt hn (.inr (5, [.ref (n + 1), zv ex, zv ms])) (pc_O (n + 1) bg wr (sp_pcs (A 2) (S 9)).length) (zA 1 40 ch) (zA 0 20 st) (zA 0 20 en)
            have hu0 : ∀ e : va_E, ∀ k, k < 5 → True := fun _ _ _ => trivial
            refine zi_invV dk_22_65 ml_0_98 iv_33 (g0_33 (d := d - 1) (by omega) G2.1 G2.2.2 (by omega) (v := n) (x := (sp_pcs (A 2) (S 9), ex, ms)) ⟨((zz_up_ne (by omega)).trans ((zz_up_ne (by omega)).trans ((zz_up_ne (by omega)).trans (zz_up_ne (by omega))))).trans (zz_up_eq _ _ _), ch, st, en, bg, wr, ⟨((zz_up_ne (by omega)).trans ((zz_up_ne (by omega)).trans (zz_up_ne (by omega)))).trans (zz_up_eq _ _ _), ((zz_up_ne (by omega)).trans (zz_up_ne (by omega))).trans (zz_up_eq _ _ _), (zz_up_ne (by omega)).trans (zz_up_eq _ _ _), zz_up_eq _ _ _⟩, rfl, hpr, hch, hpl⟩ ⟨hok.2.1.imp_right (by dsimp only; omega), hok.2.2.1⟩ hn hok.1) (G2.1.1 18 (by decide)) rfl rfl rfl (Nat.le_of_ble_eq_true rfl) (by omega) (kc' := 0) (ks' := 0) rfl rfl (fun r n' h' hq => ?_)
            rename zz_H => h5
            obtain ⟨rfl, hn2, S', E', hS', G5, hm5⟩ := hq
            have hl5 := G5.2.1.2.2.2.2.2.2.2.1.1
            rw [List.length_append] at hl5
            have G6 := G5.st G5.2.1.s9
            refine zi_pop dk_22_68 rfl ?_
            refine zi_aload_n dk_22_69 rfl rfl ?_
            refine zi_getf dk_22_70 fl_0_12 (G5.1 0 (by decide)) rfl ?_
            refine zi_invV dk_22_73 ml_0_75 iv_16 (ct_16 (d := d - 1) (G5.1 1 (by decide)) (G5.1 2 (by decide)) G5.2.1.1 G5.tx) (G5.1 1 (by decide)) rfl rfl rfl (Nat.le_of_ble_eq_true rfl) (by omega) rfl rfl (fun r n' h' hq => ?_)
            obtain ⟨rfl, rfl, e6⟩ := hq
            have e7 := (cl_t (b := b) (S := S') (A := A) (E := E') (h0 := h5) (x := 0))
            rw [cl_id G5.1] at e7
            have e8 := (e6.trans e7).symm
            subst e8
            refine zi_aload_n dk_22_76 rfl rfl ?_
            refine zi_getf dk_22_77 fl_0_47 (G6.1.1 0 (by decide)) rfl ?_
            refine zi_invV dk_22_80 ml_0_82 iv_23 (ct_23 (d := d - 1) (N := 0) (f := fun _ => none) (G6.1.1 18 (by decide))) (G6.1.1 18 (by decide)) rfl rfl rfl (Nat.le_of_ble_eq_true rfl) (by omega) rfl rfl (fun r n' h' hq => ?_)
            obtain ⟨rfl, rfl, rfl⟩ := hq
            refine zj_iconst dk_22_83 ?_
            refine zj_isub dk_22_84 ?_
            refine zj_ireturn dk_22_85 rfl (Or.inr ⟨hok, by congr 2; simp at hl5; show S' 14 - 1 = _; omega, by omega, _, E', va_up_self _ _ _, fun i hi hne => (va_up_ne _ _ hne).trans (hS' i hi), G6.1, (G2.2.1.tr hm5).tr G6.2.1⟩)
          · skip
            refine zj_iconst dk_22_46 ?_
            refine zj_ireturn dk_22_47 rfl (Or.inl ⟨fun hh => by first | omega | (rw [if_pos hh.2.1] at c20; omega) | (rw [hh.2.2.2] at c43; exact absurd c43 (by decide)), rfl, rfl, rfl⟩)
    · skip
      refine zj_iconst dk_22_23 ?_
      refine zj_ireturn dk_22_24 rfl (Or.inl ⟨fun hh => by first | omega | (rw [if_pos hh.2.1] at c20; omega) | (rw [hh.2.2.2] at c43; exact absurd c43 (by decide)), rfl, rfl, rfl⟩)

