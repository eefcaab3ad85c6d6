/-! Layer: rows of booleans -/
def bz (b : Bool) : Int := if b then 1 else 0
theorem bz_rg (b : Bool) : bz b = 0 ∨ bz b = 1 := by cases b <;> simp [bz]
theorem bz_t : bz true = 1 := rfl
theorem bz_f : bz false = 0 := rfl
theorem bz_eq0 {b : Bool} : bz b = 0 ↔ b = false := by cases b <;> simp [bz]
theorem bz_ne0 {b : Bool} : ¬ bz b = 0 ↔ b = true := by cases b <;> simp [bz]
def rw_R (g : Int → Int) (N : Nat) (R : Nat → Bool) : Prop := ∀ n : Nat, n < N → g n = bz (R n)
def rw_01 (g : Int → Int) (N : Nat) : Prop := ∀ n : Nat, n < N → g n = 0 ∨ g n = 1
theorem rw_R.o1 {g : Int → Int} {N : Nat} {R : Nat → Bool} (h : rw_R g N R) : rw_01 g N := fun n hn => by rw [h n hn]; exact bz_rg _
theorem rw_01.R {g : Int → Int} {N : Nat} (h : rw_01 g N) : rw_R g N (fun n => decide (g n = 1)) := fun n hn => by
  show g n = bz (decide (g n = 1))
  rcases h n hn with h1 | h1 <;> rw [h1] <;> rfl
theorem lp_100 {X : zz_X} {d n : Nat} {h : zz_H} {a N : Nat} (hN : N < 1000) {Q : Option Value → Nat → zz_H → Prop} (hQ : ∀ g, rw_R g N (fun m => m == 0) → Q none n (zz_up h a (zA 2 N g))) : ∀ (k i : Nat) (g : Int → Int), i + k = N → (∀ j : Nat, j < i → g j = bz (j == 0)) →
    zz_Z X mm_100 d Q 0 0 2 [some (.ref a), some (zv (i : Int))] [] n (zz_up h a (zA 2 N g)) := by
  intro k
  induction k with
  | zero =>
    intro i g hi hg
    refine zj_iload_n dk_100_2 rfl ?_
    refine zi_aload_n dk_100_3 rfl rfl ?_
    refine zj_alen dk_100_4 (by first | assumption | exact zz_up_eq _ _ _ | omega | exact Ne.symm (by assumption) | (refine (zz_up_ne ?_).trans ?_ <;> first | assumption | exact zz_up_eq _ _ _ | omega | exact Ne.symm (by assumption) | (refine (zz_up_ne ?_).trans ?_ <;> first | assumption | exact zz_up_eq _ _ _ | omega | exact Ne.symm (by assumption) | (refine (zz_up_ne ?_).trans ?_ <;> first | assumption | exact zz_up_eq _ _ _ | omega | exact Ne.symm (by assumption))))) rfl ?_
    refine zj_icmp_ge (t := 26) dk_100_5 rfl (by omega) (fun c5 => ?_) (fun c5 => ?_)
    · skip
      refine zi_return dk_100_26 rfl (hQ g (fun j hj => hg j (by omega)))
    · omega
  | succ k ih =>
    intro i g hi hg
    refine zj_iload_n dk_100_2 rfl ?_
    refine zi_aload_n dk_100_3 rfl rfl ?_
    refine zj_alen dk_100_4 (by first | assumption | exact zz_up_eq _ _ _ | omega | exact Ne.symm (by assumption) | (refine (zz_up_ne ?_).trans ?_ <;> first | assumption | exact zz_up_eq _ _ _ | omega | exact Ne.symm (by assumption) | (refine (zz_up_ne ?_).trans ?_ <;> first | assumption | exact zz_up_eq _ _ _ | omega | exact Ne.symm (by assumption) | (refine (zz_up_ne ?_).trans ?_ <;> first | assumption | exact zz_up_eq _ _ _ | omega | exact Ne.symm (by assumption))))) rfl ?_
    refine zj_icmp_ge (t := 26) dk_100_5 rfl (by omega) (fun c5 => ?_) (fun c5 => ?_)
    · omega
    · skip
      refine zi_aload_n dk_100_8 rfl rfl ?_
      refine zj_iload_n dk_100_9 rfl ?_
      refine zj_iload_n dk_100_10 rfl ?_
      refine zj_if_ne (t := 18) dk_100_11 rfl (by omega) (fun c11 => ?_) (fun c11 => ?_)
      · skip
        refine zj_iconst dk_100_18 ?_
        refine zj_zast dk_100_19 (by first | assumption | exact zz_up_eq _ _ _ | omega | exact Ne.symm (by assumption) | (refine (zz_up_ne ?_).trans ?_ <;> first | assumption | exact zz_up_eq _ _ _ | omega | exact Ne.symm (by assumption) | (refine (zz_up_ne ?_).trans ?_ <;> first | assumption | exact zz_up_eq _ _ _ | omega | exact Ne.symm (by assumption) | (refine (zz_up_ne ?_).trans ?_ <;> first | assumption | exact zz_up_eq _ _ _ | omega | exact Ne.symm (by assumption))))) (by omega) (by omega) ?_
        rw [zz_up_up]
        refine zj_iinc dk_100_20 rfl rfl ?_
        refine zi_goto (t := 2) dk_100_23 rfl ?_
        refine ih (i + 1) _ (by omega) (fun j hj => ?_)
        by_cases hji : j = i
        · subst hji
          rw [zU_eq]
          by_cases hj0 : j = 0
          · subst hj0; first | rfl | omega
          · rw [show (j == 0) = false by simp [hj0]]; first | rfl | omega
        · rw [zU_ne (by omega)]
          exact hg j (by omega)
      · skip
        refine zj_iconst dk_100_14 ?_
        refine zi_goto (t := 19) dk_100_15 rfl ?_
        refine zj_zast dk_100_19 (by first | assumption | exact zz_up_eq _ _ _ | omega | exact Ne.symm (by assumption) | (refine (zz_up_ne ?_).trans ?_ <;> first | assumption | exact zz_up_eq _ _ _ | omega | exact Ne.symm (by assumption) | (refine (zz_up_ne ?_).trans ?_ <;> first | assumption | exact zz_up_eq _ _ _ | omega | exact Ne.symm (by assumption) | (refine (zz_up_ne ?_).trans ?_ <;> first | assumption | exact zz_up_eq _ _ _ | omega | exact Ne.symm (by assumption))))) (by omega) (by omega) ?_
        rw [zz_up_up]
        refine zj_iinc dk_100_20 rfl rfl ?_
        refine zi_goto (t := 2) dk_100_23 rfl ?_
        refine ih (i + 1) _ (by omega) (fun j hj => ?_)
        by_cases hji : j = i
        · subst hji
          rw [zU_eq]
          by_cases hj0 : j = 0
          · subst hj0; first | rfl | omega
          · rw [show (j == 0) = false by simp [hj0]]; first | rfl | omega
        · rw [zU_ne (by omega)]
          exact hg j (by omega)

theorem ct_100 {X : zz_X} {d n : Nat} {h : zz_H} {a N : Nat} {g : Int → Int} (h2 : h a = some (zA 2 N g)) (hN : N < 1000) : zz_Ct X mm_100 d 0 0 [.ref a] n h (fun r n' h' => r = none ∧ n' = n ∧ ∃ g', rw_R g' N (fun m => m == 0) ∧ h' = zz_up h a (zA 2 N g')) := by
  refine zz_start (by decide) (ls := [some (.ref a), none]) rfl ?_
  refine zj_iconst dk_100_0 ?_
  refine zj_istore_n dk_100_1 rfl ?_
  have hg := lp_100 (X := X) (d := d) (n := n) (h := h) (a := a) hN (Q := fun r n' h' => r = none ∧ n' = n ∧ ∃ g', rw_R g' N (fun m => m == 0) ∧ h' = zz_up h a (zA 2 N g')) (fun g hg => ⟨rfl, rfl, g, hg, rfl⟩) N 0 g (by omega) (fun j hj => by omega)
  rw [zz_up_same h2] at hg
  exact hg

theorem lp_104 {X : zz_X} {d n : Nat} {h : zz_H} {a N : Nat} {R : Nat → Bool} (hN : N < 1000) {Q : Option Value → Nat → zz_H → Prop} (hQ : ∀ g, rw_R g N (sp_any R) → Q none n (zz_up h a (zA 2 N g))) : ∀ (k i : Nat) (g : Int → Int), i + k = N → 1 ≤ i → (∀ j : Nat, j < i → g j = bz (sp_any R j)) → (∀ j : Nat, i ≤ j → j < N → g j = bz (R j)) →
    zz_Z X mm_104 d Q 0 0 2 [some (.ref a), some (zv (i : Int))] [] n (zz_up h a (zA 2 N g)) := by
  intro k
  induction k with
  | zero =>
    intro i g hi h1 hg hg2
    refine zj_iload_n dk_104_2 rfl ?_
    refine zi_aload_n dk_104_3 rfl rfl ?_
    refine zj_alen dk_104_4 (by first | assumption | exact zz_up_eq _ _ _ | omega | exact Ne.symm (by assumption) | (refine (zz_up_ne ?_).trans ?_ <;> first | assumption | exact zz_up_eq _ _ _ | omega | exact Ne.symm (by assumption) | (refine (zz_up_ne ?_).trans ?_ <;> first | assumption | exact zz_up_eq _ _ _ | omega | exact Ne.symm (by assumption) | (refine (zz_up_ne ?_).trans ?_ <;> first | assumption | exact zz_up_eq _ _ _ | omega | exact Ne.symm (by assumption))))) rfl ?_
    refine zj_icmp_ge (t := 36) dk_104_5 rfl (by omega) (fun c5 => ?_) (fun c5 => ?_)
    · skip
      refine zi_return dk_104_36 rfl (hQ g (fun j hj => hg j (by omega)))
    · omega
  | succ k ih =>
    intro i g hi h1 hg hg2
    have r1 := hg2 i (by omega) (by omega)
    obtain ⟨i', rfl⟩ : ∃ i', i = i' + 1 := ⟨i - 1, by omega⟩
    have r2 := hg i' (by omega)
    have e1 : ((i' + 1 : Nat) : Int) - 1 = (i' : Int) := by omega
    have q1 := bz_rg (R (i' + 1))
    have q2 := bz_rg (sp_any R i')
    refine zj_iload_n dk_104_2 rfl ?_
    refine zi_aload_n dk_104_3 rfl rfl ?_
    refine zj_alen dk_104_4 (by first | assumption | exact zz_up_eq _ _ _ | omega | exact Ne.symm (by assumption) | (refine (zz_up_ne ?_).trans ?_ <;> first | assumption | exact zz_up_eq _ _ _ | omega | exact Ne.symm (by assumption) | (refine (zz_up_ne ?_).trans ?_ <;> first | assumption | exact zz_up_eq _ _ _ | omega | exact Ne.symm (by assumption) | (refine (zz_up_ne ?_).trans ?_ <;> first | assumption | exact zz_up_eq _ _ _ | omega | exact Ne.symm (by assumption))))) rfl ?_
    refine zj_icmp_ge (t := 36) dk_104_5 rfl (by omega) (fun c5 => ?_) (fun c5 => ?_)
    · omega
    · skip
      refine zi_aload_n dk_104_8 rfl rfl ?_
      refine zj_iload_n dk_104_9 rfl ?_
      refine zi_aload_n dk_104_10 rfl rfl ?_
      refine zj_iload_n dk_104_11 rfl ?_
      refine zj_zald dk_104_12 (by first | assumption | exact zz_up_eq _ _ _ | omega | exact Ne.symm (by assumption) | (refine (zz_up_ne ?_).trans ?_ <;> first | assumption | exact zz_up_eq _ _ _ | omega | exact Ne.symm (by assumption) | (refine (zz_up_ne ?_).trans ?_ <;> first | assumption | exact zz_up_eq _ _ _ | omega | exact Ne.symm (by assumption) | (refine (zz_up_ne ?_).trans ?_ <;> first | assumption | exact zz_up_eq _ _ _ | omega | exact Ne.symm (by assumption))))) (by omega) ?_
      refine zj_if_ne (t := 24) dk_104_13 rfl (by omega) (fun c13 => ?_) (fun c13 => ?_)
      · skip
        refine zj_iconst dk_104_24 ?_
        refine zi_goto (t := 29) dk_104_25 rfl ?_
        refine zj_zast dk_104_29 (by first | assumption | exact zz_up_eq _ _ _ | omega | exact Ne.symm (by assumption) | (refine (zz_up_ne ?_).trans ?_ <;> first | assumption | exact zz_up_eq _ _ _ | omega | exact Ne.symm (by assumption) | (refine (zz_up_ne ?_).trans ?_ <;> first | assumption | exact zz_up_eq _ _ _ | omega | exact Ne.symm (by assumption) | (refine (zz_up_ne ?_).trans ?_ <;> first | assumption | exact zz_up_eq _ _ _ | omega | exact Ne.symm (by assumption))))) (by omega) (by omega) ?_
        rw [zz_up_up]
        refine zj_iinc dk_104_30 rfl rfl ?_
        refine zi_goto (t := 2) dk_104_33 rfl ?_
        refine ih (i' + 1 + 1) _ (by omega) (by omega) (fun j hj => ?_) (fun j hj1 hj2 => ?_)
        · by_cases hji : j = i' + 1
          · subst hji
            rw [zU_eq]
            unfold sp_any
            (try rw [r1] at c13); (try rw [r2] at c21); cases hA : sp_any R i' <;> cases hB : R (i' + 1) <;> simp_all [bz]
          · rw [zU_ne (by omega)]
            exact hg j (by omega)
        · rw [zU_ne (by omega)]
          exact hg2 j (by omega) (by omega)
      · skip
        refine zi_aload_n dk_104_16 rfl rfl ?_
        refine zj_iload_n dk_104_17 rfl ?_
        refine zj_iconst dk_104_18 ?_
        refine zj_isub dk_104_19 ?_
        refine zj_zald dk_104_20 (by first | assumption | exact zz_up_eq _ _ _ | omega | exact Ne.symm (by assumption) | (refine (zz_up_ne ?_).trans ?_ <;> first | assumption | exact zz_up_eq _ _ _ | omega | exact Ne.symm (by assumption) | (refine (zz_up_ne ?_).trans ?_ <;> first | assumption | exact zz_up_eq _ _ _ | omega | exact Ne.symm (by assumption) | (refine (zz_up_ne ?_).trans ?_ <;> first | assumption | exact zz_up_eq _ _ _ | omega | exact Ne.symm (by assumption))))) (by omega) ?_
        rw [e1]
        refine zj_if_eq (t := 28) dk_104_21 rfl (by omega) (fun c21 => ?_) (fun c21 => ?_)
        · skip
          refine zj_iconst dk_104_28 ?_
          refine zj_zast dk_104_29 (by first | assumption | exact zz_up_eq _ _ _ | omega | exact Ne.symm (by assumption) | (refine (zz_up_ne ?_).trans ?_ <;> first | assumption | exact zz_up_eq _ _ _ | omega | exact Ne.symm (by assumption) | (refine (zz_up_ne ?_).trans ?_ <;> first | assumption | exact zz_up_eq _ _ _ | omega | exact Ne.symm (by assumption) | (refine (zz_up_ne ?_).trans ?_ <;> first | assumption | exact zz_up_eq _ _ _ | omega | exact Ne.symm (by assumption))))) (by omega) (by omega) ?_
          rw [zz_up_up]
          refine zj_iinc dk_104_30 rfl rfl ?_
          refine zi_goto (t := 2) dk_104_33 rfl ?_
          refine ih (i' + 1 + 1) _ (by omega) (by omega) (fun j hj => ?_) (fun j hj1 hj2 => ?_)
          · by_cases hji : j = i' + 1
            · subst hji
              rw [zU_eq]
              unfold sp_any
              (try rw [r1] at c13); (try rw [r2] at c21); cases hA : sp_any R i' <;> cases hB : R (i' + 1) <;> simp_all [bz]
            · rw [zU_ne (by omega)]
              exact hg j (by omega)
          · rw [zU_ne (by omega)]
            exact hg2 j (by omega) (by omega)
        · skip
          refine zj_iconst dk_104_24 ?_
          refine zi_goto (t := 29) dk_104_25 rfl ?_
          refine zj_zast dk_104_29 (by first | assumption | exact zz_up_eq _ _ _ | omega | exact Ne.symm (by assumption) | (refine (zz_up_ne ?_).trans ?_ <;> first | assumption | exact zz_up_eq _ _ _ | omega | exact Ne.symm (by assumption) | (refine (zz_up_ne ?_).trans ?_ <;> first | assumption | exact zz_up_eq _ _ _ | omega | exact Ne.symm (by assumption) | (refine (zz_up_ne ?_).trans ?_ <;> first | assumption | exact zz_up_eq _ _ _ | omega | exact Ne.symm (by assumption))))) (by omega) (by omega) ?_
          rw [zz_up_up]
          refine zj_iinc dk_104_30 rfl rfl ?_
          refine zi_goto (t := 2) dk_104_33 rfl ?_
          refine ih (i' + 1 + 1) _ (by omega) (by omega) (fun j hj => ?_) (fun j hj1 hj2 => ?_)
          · by_cases hji : j = i' + 1
            · subst hji
              rw [zU_eq]
              unfold sp_any
              (try rw [r1] at c13); (try rw [r2] at c21); cases hA : sp_any R i' <;> cases hB : R (i' + 1) <;> simp_all [bz]
            · rw [zU_ne (by omega)]
              exact hg j (by omega)
          · rw [zU_ne (by omega)]
            exact hg2 j (by omega) (by omega)

theorem ct_104 {X : zz_X} {d n : Nat} {h : zz_H} {a N : Nat} {g : Int → Int} {R : Nat → Bool} (h2 : h a = some (zA 2 N g)) (hN : 0 < N ∧ N < 1000) (hR : rw_R g N R) : zz_Ct X mm_104 d 0 0 [.ref a] n h (fun r n' h' => r = none ∧ n' = n ∧ ∃ g', rw_R g' N (sp_any R) ∧ h' = zz_up h a (zA 2 N g')) := by
  refine zz_start (by decide) (ls := [some (.ref a), none]) rfl ?_
  refine zj_iconst dk_104_0 ?_
  refine zj_istore_n dk_104_1 rfl ?_
  have hg := lp_104 (X := X) (d := d) (n := n) (h := h) (a := a) (R := R) hN.2 (Q := fun r n' h' => r = none ∧ n' = n ∧ ∃ g', rw_R g' N (sp_any R) ∧ h' = zz_up h a (zA 2 N g')) (fun g hg => ⟨rfl, rfl, g, hg, rfl⟩) (N - 1) 1 g (by omega) (by omega) (fun j hj => by (obtain rfl : j = 0 := (by omega)); exact hR 0 (by omega)) (fun j hj1 hj2 => hR j hj2)
  rw [zz_up_same h2] at hg
  exact hg

