/-! the model: patterns, rule -/
abbrev bar3 (c : Int) : Prop := c = 92 ∨ c = 37 ∨ c = 59
theorem sp_st_iff {g : Int → Int} {to : Int} : ∀ (k : Nat) (i : Int), to ≤ i + k + 1 → (sp_st g to k i = true ↔ ∀ j, i ≤ j → j + 1 < to → ¬ (g j = 42 ∧ g (j + 1) = 42))
  | 0, i, h => ⟨fun _ j h1 h2 => by omega, fun _ => rfl⟩
  | k + 1, i, h => by
    unfold sp_st
    by_cases h1 : i + 1 < to
    · rw [if_pos h1]
      by_cases h2 : g i = 42 ∧ g (i + 1) = 42
      · rw [if_pos h2]
        exact ⟨fun hh => Bool.noConfusion hh, fun hh => absurd h2 (hh i (Int.le_refl _) h1)⟩
      · rw [if_neg h2, sp_st_iff k (i + 1) (by omega)]
        constructor
        · intro hh j hj1 hj2
          by_cases hji : j = i
          · rw [hji]; exact h2
          · exact hh j (by omega) hj2
        · intro hh j hj1 hj2
          exact hh j (by omega) hj2
    · rw [if_neg h1]
      exact ⟨fun _ j h2 h3 => by omega, fun _ => rfl⟩
theorem sp_has_iff {f : Int → Int} {len c : Int} (hl : 0 ≤ len) : sp_has f len c = true ↔ ∃ j, 0 ≤ j ∧ j < len ∧ f j = c := by
  unfold sp_has
  rw [decide_eq_true_eq]
  have hge := sp_find_ge f c len.toNat 0
  constructor
  · intro h
    exact ⟨_, by omega, h, sp_find_at f c len.toNat 0 (by omega)⟩
  · rintro ⟨j, h1, h2, h3⟩
    by_cases hlt : sp_find f c len.toNat 0 < len
    · exact hlt
    · exact absurd h3 (sp_find_not f c len.toNat 0 j h1 (by omega))
theorem sp_pat_iff {f : Int → Int} {len : Int} (hl : 0 ≤ len) : sp_pat f len = true ↔ (len ≠ 0 ∧ f 0 = 47) ∧ (∀ j, 0 ≤ j → j < len → ¬ bar3 (f j)) ∧ (len = 1 ∨ sp_ptl f len 41 1 = true) := by
  have e : ∀ c, sp_has f len c = false ↔ ∀ j, 0 ≤ j → j < len → ¬ f j = c := fun c => by
    constructor
    · intro h j h1 h2 h3
      have := (sp_has_iff (c := c) hl).mpr ⟨j, h1, h2, h3⟩
      rw [h] at this
      cases this
    · intro h
      cases hx : sp_has f len c with
      | false => rfl
      | true =>
        obtain ⟨j, h1, h2, h3⟩ := (sp_has_iff hl).mp hx
        exact absurd h3 (h j h1 h2)
  unfold sp_pat
  simp only [Bool.and_eq_true, Bool.or_eq_true, decide_eq_true_eq, Bool.not_eq_true', e]
  constructor
  · rintro ⟨⟨⟨⟨h1, h2⟩, h3⟩, h4⟩, h5⟩
    refine ⟨⟨fun hh => h1 (Or.inl hh), ?_⟩, fun j a b hh => ?_, h5⟩
    · by_cases hf : f 0 = 47
      · exact hf
      · exact absurd (Or.inr hf) h1
    · rcases hh with hh | hh | hh
      · exact h2 j a b hh
      · exact h3 j a b hh
      · exact h4 j a b hh
  · rintro ⟨⟨h1, h2⟩, h3, h4⟩
    exact ⟨⟨⟨⟨fun hh => by rcases hh with hh | hh; exact h1 hh; exact hh h2, fun j a b hh => h3 j a b (Or.inl hh)⟩, fun j a b hh => h3 j a b (Or.inr (Or.inl hh))⟩, fun j a b hh => h3 j a b (Or.inr (Or.inr hh))⟩, h4⟩
theorem lp_134i {X : zz_X} {d n : Nat} (hd : 1 ≤ d) {m : Nat} {V : Nat → Int} {B : Nat → Int → Int} {h0 : zz_H} (hB : md_B V B) {p : Int} (hp : 1 ≤ p ∧ p ≤ 40) {Q : Option Value → Nat → zz_H → Prop} : ∀ (k : Nat) (q db : Int), q + k = V 29 → p ≤ q → (db = 0 ∨ db = 1) → ((∃ j, q ≤ j ∧ j < (sp_find (B 21) 47 k q) ∧ bar3 (B 21 j)) → Q (some (zv 0)) n (md_H m V B h0)) → ((∀ j, q ≤ j → j < (sp_find (B 21) 47 k q) → ¬ bar3 (B 21 j)) → ∀ y, (y = 0 ∨ y = 1) → (y = 1 ↔ (db = 1 ∨ ∃ j, q ≤ j ∧ j < (sp_find (B 21) 47 k q) ∧ p < j ∧ B 21 j = 42 ∧ B 21 (j - 1) = 42)) → zz_Z X mm_134 d Q 0 0 120 [some (.ref m), some (zv p), some (zv (sp_find (B 21) 47 k q)), some (zv y)] [] n (md_H m V B h0)) →
    zz_Z X mm_134 d Q 0 0 42 [some (.ref m), some (zv p), some (zv q), some (zv db)] [] n (md_H m V B h0) := by
  have hV := hB.1
  intro k
  induction k with
  | zero =>
    intro q db hk hq hdb hN hY
    have h9 := hY (fun j h1 h2 => by unfold sp_find at h2; omega) db hdb ⟨fun h => Or.inl h, fun h => by rcases h with h | ⟨j, h1, h2, -⟩; exact h; (unfold sp_find at h2; omega)⟩
    unfold sp_find at h9
    refine zj_iload_n dk_134_42 rfl ?_
    refine zi_aload_n dk_134_43 rfl rfl ?_
    refine zi_getf dk_134_44 fl_13_129 md_0 rfl ?_
    refine zj_icmp_ge (t := 120) dk_134_47 rfl (by omega) (fun c47 => ?_) (fun c47 => ?_)
    · skip
      exact h9
    · omega
  | succ k ih =>
    intro q db hk hq hdb hN hY
    have hc := hB.2 q (by omega) (by omega)
    unfold sp_find at hN hY
    by_cases h47 : B 21 q = 47
    · rw [if_pos h47] at hN hY
      have h9 := hY (fun j h1 h2 => by omega) db hdb ⟨fun h => Or.inl h, fun h => by rcases h with h | ⟨j, h1, h2, -⟩; exact h; omega⟩
      refine zj_iload_n dk_134_42 rfl ?_
      refine zi_aload_n dk_134_43 rfl rfl ?_
      refine zi_getf dk_134_44 fl_13_129 md_0 rfl ?_
      refine zj_icmp_ge (t := 120) dk_134_47 rfl (by omega) (fun c47 => ?_) (fun c47 => ?_)
      · omega
      · skip
        refine zi_aload_n dk_134_50 rfl rfl ?_
        refine zi_getf dk_134_51 fl_13_71 md_0 rfl ?_
        refine zj_iload_n dk_134_54 rfl ?_
        refine md_iald (k := 21) (N := 40) dk_134_55 (by decide) rfl rfl (by omega) ?_
        refine zj_bipush dk_134_56 (by decide) ?_
        refine zj_icmp_eq (t := 120) dk_134_58 rfl (by omega) (fun c58 => ?_) (fun c58 => ?_)
        · skip
          exact h9
        · omega
    rw [if_neg h47] at hN hY
    have hge := sp_find_ge (B 21) 47 k (q + 1)
    refine zj_iload_n dk_134_42 rfl ?_
    refine zi_aload_n dk_134_43 rfl rfl ?_
    refine zi_getf dk_134_44 fl_13_129 md_0 rfl ?_
    refine zj_icmp_ge (t := 120) dk_134_47 rfl (by omega) (fun c47 => ?_) (fun c47 => ?_)
    · omega
    · skip
      refine zi_aload_n dk_134_50 rfl rfl ?_
      refine zi_getf dk_134_51 fl_13_71 md_0 rfl ?_
      refine zj_iload_n dk_134_54 rfl ?_
      refine md_iald (k := 21) (N := 40) dk_134_55 (by decide) rfl rfl (by omega) ?_
      refine zj_bipush dk_134_56 (by decide) ?_
      refine zj_icmp_eq (t := 120) dk_134_58 rfl (by omega) (fun c58 => ?_) (fun c58 => ?_)
      · omega
      · skip
        refine zi_aload_n dk_134_61 rfl rfl ?_
        refine zi_getf dk_134_62 fl_13_71 md_0 rfl ?_
        refine zj_iload_n dk_134_65 rfl ?_
        refine md_iald (k := 21) (N := 40) dk_134_66 (by decide) rfl rfl (by omega) ?_
        refine zi_invS dk_134_67 ml_13_136 is_135 (ct_135 (d := d - 1) (by omega)) rfl rfl (Nat.le_of_ble_eq_true rfl) (by omega) rfl rfl (fun r n' h' hq => ?_)
        obtain ⟨rfl, e1, rfl⟩ := hq
        have e1 := e1.symm
        subst e1
        refine zj_if_eq (t := 75) dk_134_70 rfl (by split <;> omega) (fun c70 => ?_) (fun c70 => ?_)
        · skip
          have hnb : ¬ bar3 (B 21 q) := fun hh => by rw [if_pos (by omega)] at c70; omega
          have key : ∀ y, (y = 0 ∨ y = 1) → (y = 1 ↔ (db = 1 ∨ (p < q ∧ B 21 q = 42 ∧ B 21 (q - 1) = 42))) → zz_Z X mm_134 d Q 0 0 113 [some (.ref m), some (zv p), some (zv q), some (zv db)] [zv y] n (md_H m V B h0) := by
            intro y hy hyi
            refine zj_istore_n dk_134_113 rfl ?_
            refine zj_iinc dk_134_114 rfl rfl ?_
            refine zi_goto (t := 42) dk_134_117 rfl ?_
            refine ih (q + 1) y (by omega) (by omega) hy (fun ⟨j, a1, a2, a3⟩ => hN ⟨j, by omega, a2, a3⟩) (fun ha z hz hzi => hY (fun j a1 a2 => ?_) z hz (hzi.trans ?_))
            · by_cases hjq : j = q
              · rw [hjq]; exact hnb
              · exact ha j (by omega) a2
            · rw [hyi]
              constructor
              · rintro ((h1 | h1) | ⟨j, a1, a2, a3⟩)
                · exact Or.inl h1
                · exact Or.inr ⟨q, Int.le_refl _, by omega, h1.1, h1.2⟩
                · exact Or.inr ⟨j, by omega, a2, a3⟩
              · rintro (h1 | ⟨j, a1, a2, a3⟩)
                · exact Or.inl (Or.inl h1)
                · by_cases hjq : j = q
                  · rw [hjq] at a3; exact Or.inl (Or.inr a3)
                  · exact Or.inr ⟨j, by omega, a2, a3⟩
          refine zj_iload_n dk_134_75 rfl ?_
          refine zj_if_ne (t := 108) dk_134_76 rfl (by omega) (fun c76 => ?_) (fun c76 => ?_)
          · skip
            refine zj_iconst dk_134_108 ?_
            refine zi_goto (t := 113) dk_134_109 rfl ?_
            exact key _ (by omega) (by omega)
          · skip
            refine zj_iload_n dk_134_79 rfl ?_
            refine zj_iload_n dk_134_80 rfl ?_
            refine zj_icmp_le (t := 112) dk_134_81 rfl (by omega) (fun c81 => ?_) (fun c81 => ?_)
            · skip
              refine zj_iconst dk_134_112 ?_
              exact key _ (by omega) (by omega)
            · skip
              refine zi_aload_n dk_134_84 rfl rfl ?_
              refine zi_getf dk_134_85 fl_13_71 md_0 rfl ?_
              refine zj_iload_n dk_134_88 rfl ?_
              refine md_iald (k := 21) (N := 40) dk_134_89 (by decide) rfl rfl (by omega) ?_
              refine zj_bipush dk_134_90 (by decide) ?_
              refine zj_icmp_ne (t := 112) dk_134_92 rfl (by omega) (fun c92 => ?_) (fun c92 => ?_)
              · skip
                refine zj_iconst dk_134_112 ?_
                exact key _ (by omega) (by omega)
              · skip
                have hc1 := hB.2 (q - 1) (by omega) (by omega)
                refine zi_aload_n dk_134_95 rfl rfl ?_
                refine zi_getf dk_134_96 fl_13_71 md_0 rfl ?_
                refine zj_iload_n dk_134_99 rfl ?_
                refine zj_iconst dk_134_100 ?_
                refine zj_isub dk_134_101 ?_
                refine md_iald (k := 21) (N := 40) dk_134_102 (by decide) rfl rfl (by omega) ?_
                refine zj_bipush dk_134_103 (by decide) ?_
                refine zj_icmp_ne (t := 112) dk_134_105 rfl (by omega) (fun c105 => ?_) (fun c105 => ?_)
                · skip
                  refine zj_iconst dk_134_112 ?_
                  exact key _ (by omega) (by omega)
                · skip
                  refine zj_iconst dk_134_108 ?_
                  refine zi_goto (t := 113) dk_134_109 rfl ?_
                  exact key _ (by omega) (by omega)
        · skip
          refine zj_iconst dk_134_73 ?_
          refine zj_zreturn dk_134_74 rfl (by omega) (hN ⟨q, Int.le_refl _, by omega, by split at c70 <;> omega⟩)

theorem lp_134o {X : zz_X} {d n : Nat} (hd : 1 ≤ d) {m : Nat} {V : Nat → Int} {B : Nat → Int → Int} {h0 : zz_H} (hB : md_B V B) (h1 : 1 < V 29) {Q : Option Value → Nat → zz_H → Prop} : ∀ (k : Nat) (p : Int), p ≤ V 29 → V 29 < p + k → 1 ≤ p → ((∃ j, p ≤ j ∧ j < V 29 ∧ bar3 (B 21 j)) ∨ sp_ptl (B 21) (V 29) k p = false → Q (some (zv 0)) n (md_H m V B h0)) → ((∀ j, p ≤ j → j < V 29 → ¬ bar3 (B 21 j)) → sp_ptl (B 21) (V 29) k p = true → Q (some (zv 1)) n (md_H m V B h0)) →
    ∀ x2 x3 : Option Value, zz_Z X mm_134 d Q 0 0 22 [some (.ref m), some (zv p), x2, x3] [] n (md_H m V B h0) := by
  have hV := hB.1
  intro k
  induction k with
  | zero =>
    intro p hp hk
    omega
  | succ k ih =>
    intro p hp hk hp1 hN hY x2 x3
    unfold sp_ptl at hN hY
    refine zj_iload_n dk_134_22 rfl ?_
    refine zi_aload_n dk_134_23 rfl rfl ?_
    refine zi_getf dk_134_24 fl_13_129 md_0 rfl ?_
    refine zj_icmp_gt (t := 145) dk_134_27 rfl (by omega) (fun c27 => ?_) (fun c27 => ?_)
    · omega
    · skip
      refine zi_aload_n dk_134_30 rfl rfl ?_
      refine zi_getf dk_134_31 fl_13_129 md_0 rfl ?_
      refine zj_iconst dk_134_34 ?_
      refine zj_icmp_le (t := 145) dk_134_35 rfl (by omega) (fun c35 => ?_) (fun c35 => ?_)
      · omega
      · skip
        refine zj_iload_n dk_134_38 rfl ?_
        refine zj_istore_n dk_134_39 rfl ?_
        refine zj_iconst dk_134_40 ?_
        refine zj_istore_n dk_134_41 rfl ?_
        have hge := sp_find_ge (B 21) 47 (V 29 - p).toNat p
        refine lp_134i hd hB (by omega) (V 29 - p).toNat p 0 (by omega) (Int.le_refl _) (Or.inl rfl) (fun ⟨j, a1, a2, a3⟩ => hN (Or.inl ⟨j, a1, by omega, a3⟩)) (fun hno y hy hyi => ?_)
        have hqe : sp_find (B 21) 47 (V 29 - p).toNat p = sp_nx (B 21) (V 29) p := rfl
        rw [hqe] at hge hno hyi ⊢
        generalize sp_nx (B 21) (V 29) p = q at hge hno hyi hN hY hqe ⊢
        have hisp : sp_isp (B 21) p q = true ↔ (q ≠ p ∧ (y = 0 ∨ q - p = 2)) := by
          unfold sp_isp
          by_cases h2 : q - p = 2
          · rw [if_pos h2]; exact ⟨fun _ => by omega, fun _ => rfl⟩
          · rw [if_neg h2, Bool.and_eq_true, decide_eq_true_eq, sp_st_iff 41 p (by omega)]
            constructor
            · rintro ⟨h3, h4⟩
              refine ⟨by omega, Or.inl ?_⟩
              rcases hy with hy | hy
              · exact hy
              · rcases hyi.mp hy with h5 | ⟨j, a1, a2, a3, a4, a5⟩
                · exact absurd h5 (by decide)
                · exact absurd ⟨a5, by rw [show j - 1 + 1 = j by omega]; exact a4⟩ (h3 (j - 1) (by omega) (by omega))
            · rintro ⟨h3, h4⟩
              refine ⟨fun j a1 a2 a3 => ?_, by omega⟩
              have := hyi.mpr (Or.inr ⟨j + 1, by omega, by omega, by omega, a3.2, by rw [show j + 1 - 1 = j by omega]; exact a3.1⟩)
              omega
        refine zj_iload_n dk_134_120 rfl ?_
        refine zj_iload_n dk_134_121 rfl ?_
        refine zj_icmp_eq (t := 136) dk_134_122 rfl (by omega) (fun c122 => ?_) (fun c122 => ?_)
        · skip
          refine zj_iconst dk_134_136 ?_
          refine zj_zreturn dk_134_137 rfl (by omega) (hN (Or.inr (if_neg (fun hh => by rw [hisp] at hh; omega))))
        · skip
          refine zj_iload_n dk_134_125 rfl ?_
          refine zj_if_eq (t := 138) dk_134_126 rfl (by omega) (fun c126 => ?_) (fun c126 => ?_)
          · skip
            refine zj_iload_n dk_134_138 rfl ?_
            refine zj_iconst dk_134_139 ?_
            refine zj_iadd dk_134_140 ?_
            refine zj_istore_n dk_134_141 rfl ?_
            refine zi_goto (t := 22) dk_134_142 rfl ?_
            have hi1 : sp_isp (B 21) p q = true := hisp.mpr (by omega)
            rw [if_pos hi1] at hN hY
            by_cases hql : q = V 29
            · rw [if_pos hql] at hN hY
              refine zj_iload_n dk_134_22 rfl ?_
              refine zi_aload_n dk_134_23 rfl rfl ?_
              refine zi_getf dk_134_24 fl_13_129 md_0 rfl ?_
              refine zj_icmp_gt (t := 145) dk_134_27 rfl (by omega) (fun c27 => ?_) (fun c27 => ?_)
              · skip
                refine zj_iconst dk_134_145 ?_
                refine zj_zreturn dk_134_146 rfl (by omega) (hY (fun j a1 a2 => hno j a1 (by omega)) rfl)
              · omega
            · rw [if_neg hql] at hN hY
              have hs47 : B 21 q = 47 := by
                clear hyi hisp hN hY ih hno
                have h8 := sp_find_at (B 21) 47 (V 29 - p).toNat p (by rw [hqe]; omega)
                rw [hqe] at h8
                exact h8
              refine ih (q + 1) (by omega) (by omega) (by omega) (fun hh => hN ?_) (fun h1 h2 => hY (fun j a1 a2 => ?_) h2) _ _
              · rcases hh with ⟨j, a1, a2, a3⟩ | hh
                · exact Or.inl ⟨j, by omega, a2, a3⟩
                · exact Or.inr hh
              · by_cases hjq : j < q
                · exact hno j a1 hjq
                · by_cases hjq2 : j = q
                  · rw [hjq2, hs47]; omega
                  · exact h1 j (by omega) a2
          · skip
            refine zj_iload_n dk_134_129 rfl ?_
            refine zj_iload_n dk_134_130 rfl ?_
            refine zj_isub dk_134_131 ?_
            refine zj_iconst dk_134_132 ?_
            refine zj_icmp_eq (t := 138) dk_134_133 rfl (by omega) (fun c133 => ?_) (fun c133 => ?_)
            · skip
              refine zj_iload_n dk_134_138 rfl ?_
              refine zj_iconst dk_134_139 ?_
              refine zj_iadd dk_134_140 ?_
              refine zj_istore_n dk_134_141 rfl ?_
              refine zi_goto (t := 22) dk_134_142 rfl ?_
              have hi1 : sp_isp (B 21) p q = true := hisp.mpr (by omega)
              rw [if_pos hi1] at hN hY
              by_cases hql : q = V 29
              · rw [if_pos hql] at hN hY
                refine zj_iload_n dk_134_22 rfl ?_
                refine zi_aload_n dk_134_23 rfl rfl ?_
                refine zi_getf dk_134_24 fl_13_129 md_0 rfl ?_
                refine zj_icmp_gt (t := 145) dk_134_27 rfl (by omega) (fun c27 => ?_) (fun c27 => ?_)
                · skip
                  refine zj_iconst dk_134_145 ?_
                  refine zj_zreturn dk_134_146 rfl (by omega) (hY (fun j a1 a2 => hno j a1 (by omega)) rfl)
                · omega
              · rw [if_neg hql] at hN hY
                have hs47 : B 21 q = 47 := by
                  clear hyi hisp hN hY ih hno
                  have h8 := sp_find_at (B 21) 47 (V 29 - p).toNat p (by rw [hqe]; omega)
                  rw [hqe] at h8
                  exact h8
                refine ih (q + 1) (by omega) (by omega) (by omega) (fun hh => hN ?_) (fun h1 h2 => hY (fun j a1 a2 => ?_) h2) _ _
                · rcases hh with ⟨j, a1, a2, a3⟩ | hh
                  · exact Or.inl ⟨j, by omega, a2, a3⟩
                  · exact Or.inr hh
                · by_cases hjq : j < q
                  · exact hno j a1 hjq
                  · by_cases hjq2 : j = q
                    · rw [hjq2, hs47]; omega
                    · exact h1 j (by omega) a2
            · skip
              refine zj_iconst dk_134_136 ?_
              refine zj_zreturn dk_134_137 rfl (by omega) (hN (Or.inr (if_neg (fun hh => by rw [hisp] at hh; omega))))

theorem ct_134 {X : zz_X} {d n : Nat}  (hd : 1 ≤ d) {m : Nat} {V : Nat → Int} {B : Nat → Int → Int} {h0 : zz_H} (hB : md_B V B) : zz_Ct X mm_134 d 0 0 [.ref m] n (md_H m V B h0) (zp (some (zv (bz (sp_pat (B 21) (V 29))))) n (md_H m V B h0)) := by
  refine zz_start (by decide) (ls := [some (.ref m), none, none, none]) rfl ?_
  have hV := hB.1
  refine zi_aload_n dk_134_0 rfl rfl ?_
  refine zi_getf dk_134_1 fl_13_129 md_0 rfl ?_
  refine zj_if_eq (t := 18) dk_134_4 rfl (by omega) (fun c4 => ?_) (fun c4 => ?_)
  · skip
    refine zj_iconst dk_134_18 ?_
    refine zj_zreturn dk_134_19 rfl (by omega) ⟨by rw [show sp_pat (B 21) (V 29) = false from by cases hx : sp_pat (B 21) (V 29) with | false => rfl | true => (have := (sp_pat_iff hV.1).mp hx; exfalso; omega)]; rfl, rfl, rfl⟩
  · skip
    have hc0 := hB.2 0 (by omega) (by omega)
    refine zi_aload_n dk_134_7 rfl rfl ?_
    refine zi_getf dk_134_8 fl_13_71 md_0 rfl ?_
    refine zj_iconst dk_134_11 ?_
    refine md_iald (k := 21) (N := 40) dk_134_12 (by decide) rfl rfl (by omega) ?_
    refine zj_bipush dk_134_13 (by decide) ?_
    refine zj_icmp_eq (t := 20) dk_134_15 rfl (by omega) (fun c15 => ?_) (fun c15 => ?_)
    · skip
      refine zj_iconst dk_134_20 ?_
      refine zj_istore_n dk_134_21 rfl ?_
      by_cases h1 : V 29 = 1
      · have ht : sp_pat (B 21) (V 29) = true := (sp_pat_iff hV.1).mpr ⟨by omega, fun j a1 a2 => by rw [show j = 0 by omega]; omega, Or.inl h1⟩
        rw [ht]
        refine zj_iload_n dk_134_22 rfl ?_
        refine zi_aload_n dk_134_23 rfl rfl ?_
        refine zi_getf dk_134_24 fl_13_129 md_0 rfl ?_
        refine zj_icmp_gt (t := 145) dk_134_27 rfl (by omega) (fun c27 => ?_) (fun c27 => ?_)
        · omega
        · skip
          refine zi_aload_n dk_134_30 rfl rfl ?_
          refine zi_getf dk_134_31 fl_13_129 md_0 rfl ?_
          refine zj_iconst dk_134_34 ?_
          refine zj_icmp_le (t := 145) dk_134_35 rfl (by omega) (fun c35 => ?_) (fun c35 => ?_)
          · skip
            refine zj_iconst dk_134_145 ?_
            refine zj_zreturn dk_134_146 rfl (by omega) ⟨rfl, rfl, rfl⟩
          · omega
      · refine lp_134o hd hB (by omega) 41 1 (by omega) (by omega) (by omega) (fun hh => ?_) (fun g1 g2 => ?_) _ _
        · refine ⟨by rw [show sp_pat (B 21) (V 29) = false from by cases hx : sp_pat (B 21) (V 29) with | false => rfl | true => (have := (sp_pat_iff hV.1).mp hx; exfalso; obtain ⟨-, t2, t3⟩ := this; rcases hh with ⟨j, a1, a2, a3⟩ | hh; exact t2 j (by omega) a2 a3; (rcases t3 with t3 | t3; exact h1 t3; (rw [hh] at t3; cases t3)))]; rfl, rfl, rfl⟩
        · rw [show sp_pat (B 21) (V 29) = true from (sp_pat_iff hV.1).mpr ⟨by omega, fun j a1 a2 => by by_cases hj : j = 0; (rw [hj]; omega); exact g1 j (by omega) a2, Or.inr g2⟩]
          exact ⟨rfl, rfl, rfl⟩
    · skip
      refine zj_iconst dk_134_18 ?_
      refine zj_zreturn dk_134_19 rfl (by omega) ⟨by rw [show sp_pat (B 21) (V 29) = false from by cases hx : sp_pat (B 21) (V 29) with | false => rfl | true => (have := (sp_pat_iff hV.1).mp hx; exfalso; omega)]; rfl, rfl, rfl⟩

