/-! Text, and what it needs of the heap -/
abbrev zp (r0 : Option Value) (n0 : Nat) (h0 : zz_H) : Option Value → Nat → zz_H → Prop := fun r n h => r = r0 ∧ n = n0 ∧ h = h0
theorem zz_ne1 {h : zz_H} {a b kd N : Nat} {x : Nat × List Value} {g : Int → Int} (h1 : h a = some (.inr x)) (h2 : h b = some (zA kd N g)) : a ≠ b := fun e => by
  unfold zA at h2
  rw [e, h2] at h1
  cases h1
/-- the character at i of a text, or 0 -/
def tx_at (len : Int) (f : Int → Int) (i : Int) : Int := if 0 ≤ i ∧ i < len then f i else 0
theorem ct_14 {X : zz_X} {d n : Nat} {h : zz_H} {c : Int} (hc : -2147483648 ≤ c ∧ c < 2147483648) : zz_Ct X mm_14 d 0 0 [zv c] n h (zp (some (zv (if 33 ≤ c ∧ c ≤ 126 then 1 else 0))) n h) := by
  refine zz_start (by decide) (ls := [some (zv c)]) rfl ?_
  refine zj_iload_n dk_14_0 rfl ?_
  refine zj_bipush dk_14_1 (by decide) ?_
  refine zj_icmp_lt (t := 16) dk_14_3 rfl (by omega) (fun c3 => ?_) (fun c3 => ?_)
  · skip
    refine zj_iconst dk_14_16 ?_
    refine zj_zreturn dk_14_17 rfl (by omega) ⟨by first | rw [if_pos (by omega)] | rw [if_neg (by omega)], rfl, rfl⟩
  · skip
    refine zj_iload_n dk_14_6 rfl ?_
    refine zj_bipush dk_14_7 (by decide) ?_
    refine zj_icmp_gt (t := 16) dk_14_9 rfl (by omega) (fun c9 => ?_) (fun c9 => ?_)
    · skip
      refine zj_iconst dk_14_16 ?_
      refine zj_zreturn dk_14_17 rfl (by omega) ⟨by first | rw [if_pos (by omega)] | rw [if_neg (by omega)], rfl, rfl⟩
    · skip
      refine zj_iconst dk_14_12 ?_
      refine zi_goto (t := 17) dk_14_13 rfl ?_
      refine zj_zreturn dk_14_17 rfl (by omega) ⟨by first | rw [if_pos (by omega)] | rw [if_neg (by omega)], rfl, rfl⟩

theorem ct_25 {X : zz_X} {d n : Nat} {h : zz_H} {t ca : Nat} {len : Int} {f : Int → Int} (h1 : h t = some (.inr (1, [.ref ca, zv len]))) (h2 : h ca = some (zA 1 40 f)) (hl : 0 ≤ len ∧ len ≤ 40) (hf : ∀ i, 0 ≤ i → i < len → 0 ≤ f i ∧ f i < 65536) {i : Int} (hi : -2147483648 ≤ i ∧ i < 2147483648) : zz_Ct X mm_25 d 0 0 [.ref t, zv i] n h (zp (some (zv (tx_at len f i))) n h) := by
  refine zz_start (by decide) (ls := [some (.ref t), some (zv i)]) rfl ?_
  refine zj_iload_n dk_25_0 rfl ?_
  refine zj_if_lt (t := 21) dk_25_1 rfl (by omega) (fun c1 => ?_) (fun c1 => ?_)
  · skip
    refine zj_iconst dk_25_21 ?_
    refine zj_creturn dk_25_22 rfl (by omega) ⟨by unfold tx_at; first | rw [if_pos (by omega)] | rw [if_neg (by omega)], rfl, rfl⟩
  · skip
    refine zj_iload_n dk_25_4 rfl ?_
    refine zi_aload_n dk_25_5 rfl rfl ?_
    refine zi_getf dk_25_6 fl_1_19 (by first | assumption | exact zz_up_eq _ _ _ | omega | exact Ne.symm (by assumption) | (refine (zz_up_ne ?_).trans ?_ <;> first | assumption | exact zz_up_eq _ _ _ | omega | exact Ne.symm (by assumption) | (refine (zz_up_ne ?_).trans ?_ <;> first | assumption | exact zz_up_eq _ _ _ | omega | exact Ne.symm (by assumption) | (refine (zz_up_ne ?_).trans ?_ <;> first | assumption | exact zz_up_eq _ _ _ | omega | exact Ne.symm (by assumption))))) rfl ?_
    refine zj_icmp_ge (t := 21) dk_25_9 rfl (by omega) (fun c9 => ?_) (fun c9 => ?_)
    · skip
      refine zj_iconst dk_25_21 ?_
      refine zj_creturn dk_25_22 rfl (by omega) ⟨by unfold tx_at; first | rw [if_pos (by omega)] | rw [if_neg (by omega)], rfl, rfl⟩
    · skip
      refine zi_aload_n dk_25_12 rfl rfl ?_
      refine zi_getf dk_25_13 fl_1_9 (by first | assumption | exact zz_up_eq _ _ _ | omega | exact Ne.symm (by assumption) | (refine (zz_up_ne ?_).trans ?_ <;> first | assumption | exact zz_up_eq _ _ _ | omega | exact Ne.symm (by assumption) | (refine (zz_up_ne ?_).trans ?_ <;> first | assumption | exact zz_up_eq _ _ _ | omega | exact Ne.symm (by assumption) | (refine (zz_up_ne ?_).trans ?_ <;> first | assumption | exact zz_up_eq _ _ _ | omega | exact Ne.symm (by assumption))))) rfl ?_
      refine zj_iload_n dk_25_16 rfl ?_
      refine zj_cald dk_25_17 (by first | assumption | exact zz_up_eq _ _ _ | omega | exact Ne.symm (by assumption) | (refine (zz_up_ne ?_).trans ?_ <;> first | assumption | exact zz_up_eq _ _ _ | omega | exact Ne.symm (by assumption) | (refine (zz_up_ne ?_).trans ?_ <;> first | assumption | exact zz_up_eq _ _ _ | omega | exact Ne.symm (by assumption) | (refine (zz_up_ne ?_).trans ?_ <;> first | assumption | exact zz_up_eq _ _ _ | omega | exact Ne.symm (by assumption))))) (by omega) ?_
      have hfi := hf i (by omega) (by omega)
      refine zi_goto (t := 22) dk_25_18 rfl ?_
      refine zj_creturn dk_25_22 rfl (by omega) ⟨by unfold tx_at; first | rw [if_pos (by omega)] | rw [if_neg (by omega)], rfl, rfl⟩

theorem ct_16 {X : zz_X} {d n : Nat} {h : zz_H} {t ca : Nat} {len : Int} {f : Int → Int} (h1 : h t = some (.inr (1, [.ref ca, zv len]))) (h2 : h ca = some (zA 1 40 f)) (hl : 0 ≤ len ∧ len ≤ 40) (hf : ∀ i, 0 ≤ i → i < len → 0 ≤ f i ∧ f i < 65536) : zz_Ct X mm_16 d 0 0 [.ref t] n h (zp none n (zz_up h t (.inr (1, [.ref ca, zv 0])))) := by
  refine zz_start (by decide) (ls := [some (.ref t)]) rfl ?_
  refine zi_aload_n dk_16_0 rfl rfl ?_
  refine zj_iconst dk_16_1 ?_
  refine zj_putI dk_16_2 fp_16_19 (by first | assumption | exact zz_up_eq _ _ _ | omega | exact Ne.symm (by assumption) | (refine (zz_up_ne ?_).trans ?_ <;> first | assumption | exact zz_up_eq _ _ _ | omega | exact Ne.symm (by assumption) | (refine (zz_up_ne ?_).trans ?_ <;> first | assumption | exact zz_up_eq _ _ _ | omega | exact Ne.symm (by assumption) | (refine (zz_up_ne ?_).trans ?_ <;> first | assumption | exact zz_up_eq _ _ _ | omega | exact Ne.symm (by assumption))))) rfl ?_
  refine zi_return dk_16_5 rfl ⟨rfl, rfl, rfl⟩

theorem ct_13 {X : zz_X} {d n : Nat} {h : zz_H} (hd : 1 ≤ d) {t ca : Nat} {len : Int} {f : Int → Int} (h1 : h t = some (.inr (1, [.ref ca, zv len]))) (h2 : h ca = some (zA 1 40 f)) (hl : 0 ≤ len ∧ len ≤ 40) (hf : ∀ i, 0 ≤ i → i < len → 0 ≤ f i ∧ f i < 65536) {c : Int} (hc : -2147483648 ≤ c ∧ c < 2147483648) : zz_Ct X mm_13 d 0 0 [.ref t, zv c] n h (fun r n' h' => n' = n ∧ (((33 ≤ c ∧ c ≤ 126 ∧ len < 40) ∧ r = some (zv 1) ∧ h' = zz_up (zz_up h ca (zA 1 40 (zU f len c))) t (.inr (1, [.ref ca, zv (len + 1)]))) ∨ (¬ (33 ≤ c ∧ c ≤ 126 ∧ len < 40) ∧ r = some (zv 0) ∧ h' = h))) := by
  refine zz_start (by decide) (ls := [some (.ref t), some (zv c)]) rfl ?_
  have hne := zz_ne1 h1 h2
  refine zj_iload_n dk_13_0 rfl ?_
  refine zi_invS dk_13_1 ml_1_15 is_14 (ct_14 (d := d - 1) hc) rfl rfl (by decide) (by omega) rfl rfl (fun r n' h' hq => ?_)
  obtain ⟨rfl, rfl, rfl⟩ := hq
  show zz_Z _ _ _ _ _ _ _ _ [zv _] _ _
  refine zj_if_eq (t := 16) dk_13_4 rfl (by split <;> omega) (fun c4 => ?_) (fun c4 => ?_)
  · skip
    refine zj_iconst dk_13_16 ?_
    refine zj_zreturn dk_13_17 rfl (by omega) ⟨rfl, Or.inr ⟨by split at c4 <;> omega, rfl, rfl⟩⟩
  · skip
    refine zi_aload_n dk_13_7 rfl rfl ?_
    refine zi_getf dk_13_8 fl_1_19 (by first | assumption | exact zz_up_eq _ _ _ | omega | exact Ne.symm (by assumption) | (refine (zz_up_ne ?_).trans ?_ <;> first | assumption | exact zz_up_eq _ _ _ | omega | exact Ne.symm (by assumption) | (refine (zz_up_ne ?_).trans ?_ <;> first | assumption | exact zz_up_eq _ _ _ | omega | exact Ne.symm (by assumption) | (refine (zz_up_ne ?_).trans ?_ <;> first | assumption | exact zz_up_eq _ _ _ | omega | exact Ne.symm (by assumption))))) rfl ?_
    refine zj_bipush dk_13_11 (by decide) ?_
    refine zj_icmp_lt (t := 18) dk_13_13 rfl (by omega) (fun c13 => ?_) (fun c13 => ?_)
    · skip
      refine zi_aload_n dk_13_18 rfl rfl ?_
      refine zi_getf dk_13_19 fl_1_9 (by first | assumption | exact zz_up_eq _ _ _ | omega | exact Ne.symm (by assumption) | (refine (zz_up_ne ?_).trans ?_ <;> first | assumption | exact zz_up_eq _ _ _ | omega | exact Ne.symm (by assumption) | (refine (zz_up_ne ?_).trans ?_ <;> first | assumption | exact zz_up_eq _ _ _ | omega | exact Ne.symm (by assumption) | (refine (zz_up_ne ?_).trans ?_ <;> first | assumption | exact zz_up_eq _ _ _ | omega | exact Ne.symm (by assumption))))) rfl ?_
      refine zi_aload_n dk_13_22 rfl rfl ?_
      refine zi_getf dk_13_23 fl_1_19 (by first | assumption | exact zz_up_eq _ _ _ | omega | exact Ne.symm (by assumption) | (refine (zz_up_ne ?_).trans ?_ <;> first | assumption | exact zz_up_eq _ _ _ | omega | exact Ne.symm (by assumption) | (refine (zz_up_ne ?_).trans ?_ <;> first | assumption | exact zz_up_eq _ _ _ | omega | exact Ne.symm (by assumption) | (refine (zz_up_ne ?_).trans ?_ <;> first | assumption | exact zz_up_eq _ _ _ | omega | exact Ne.symm (by assumption))))) rfl ?_
      refine zj_iload_n dk_13_26 rfl ?_
      refine zj_i2c dk_13_27 (by split at c4 <;> omega) ?_
      refine zj_cast dk_13_28 (by first | assumption | exact zz_up_eq _ _ _ | omega | exact Ne.symm (by assumption) | (refine (zz_up_ne ?_).trans ?_ <;> first | assumption | exact zz_up_eq _ _ _ | omega | exact Ne.symm (by assumption) | (refine (zz_up_ne ?_).trans ?_ <;> first | assumption | exact zz_up_eq _ _ _ | omega | exact Ne.symm (by assumption) | (refine (zz_up_ne ?_).trans ?_ <;> first | assumption | exact zz_up_eq _ _ _ | omega | exact Ne.symm (by assumption))))) (by omega) (by split at c4 <;> omega) ?_
      refine zi_aload_n dk_13_29 rfl rfl ?_
      refine zi_dup dk_13_30 rfl ?_
      refine zi_getf dk_13_31 fl_1_19 (by first | assumption | exact zz_up_eq _ _ _ | omega | exact Ne.symm (by assumption) | (refine (zz_up_ne ?_).trans ?_ <;> first | assumption | exact zz_up_eq _ _ _ | omega | exact Ne.symm (by assumption) | (refine (zz_up_ne ?_).trans ?_ <;> first | assumption | exact zz_up_eq _ _ _ | omega | exact Ne.symm (by assumption) | (refine (zz_up_ne ?_).trans ?_ <;> first | assumption | exact zz_up_eq _ _ _ | omega | exact Ne.symm (by assumption))))) rfl ?_
      refine zj_iconst dk_13_34 ?_
      refine zj_iadd dk_13_35 ?_
      refine zj_putI dk_13_36 fp_13_19 (by first | assumption | exact zz_up_eq _ _ _ | omega | exact Ne.symm (by assumption) | (refine (zz_up_ne ?_).trans ?_ <;> first | assumption | exact zz_up_eq _ _ _ | omega | exact Ne.symm (by assumption) | (refine (zz_up_ne ?_).trans ?_ <;> first | assumption | exact zz_up_eq _ _ _ | omega | exact Ne.symm (by assumption) | (refine (zz_up_ne ?_).trans ?_ <;> first | assumption | exact zz_up_eq _ _ _ | omega | exact Ne.symm (by assumption))))) rfl ?_
      refine zj_iconst dk_13_39 ?_
      refine zj_zreturn dk_13_40 rfl (by omega) ⟨rfl, Or.inl ⟨by split at c4 <;> omega, rfl, rfl⟩⟩
    · skip
      refine zj_iconst dk_13_16 ?_
      refine zj_zreturn dk_13_17 rfl (by omega) ⟨rfl, Or.inr ⟨by split at c4 <;> omega, rfl, rfl⟩⟩

theorem lp_27 {X : zz_X} {d n : Nat} {h : zz_H} (hd : 1 ≤ d) {t ca : Nat} {len : Int} {f : Int → Int} (h1 : h t = some (.inr (1, [.ref ca, zv len]))) (h2 : h ca = some (zA 1 40 f)) (hl : 0 ≤ len ∧ len ≤ 40) (hf : ∀ i, 0 ≤ i → i < len → 0 ≤ f i ∧ f i < 65536) {c to : Int} (hc : 0 ≤ c ∧ c < 65536) (ht : to ≤ 40) {Q : Option Value → Nat → zz_H → Prop} (fr : Int) : ∀ (k : Nat) (i : Int), i + k = to → 0 ≤ i → Q (some (zv (sp_find (tx_at len f) c k i))) n h →
    zz_Z X mm_27 d Q 0 0 3 [some (.ref t), some (zv c), some (zv fr), some (zv to), some (zv i)] [] n h := by
  intro k
  induction k with
  | zero =>
    intro i hi h0 hQ
    have hg : sp_find (tx_at len f) c 0 i = to := by show i = to; omega
    rw [hg] at hQ
    refine zj_iload dk_27_3 rfl ?_
    refine zj_iload_n dk_27_5 rfl ?_
    refine zj_icmp_ge (t := 28) dk_27_6 rfl (by omega) (fun c6 => ?_) (fun c6 => ?_)
    · skip
      refine zj_iload_n dk_27_28 rfl ?_
      refine zj_ireturn dk_27_29 rfl hQ
    · omega
  | succ k ih =>
    intro i hi h0 hQ
    have hat : 0 ≤ tx_at len f i ∧ tx_at len f i < 65536 := by
      unfold tx_at
      split
      · exact hf i (by omega) (by omega)
      · omega
    unfold sp_find at hQ
    refine zj_iload dk_27_3 rfl ?_
    refine zj_iload_n dk_27_5 rfl ?_
    refine zj_icmp_ge (t := 28) dk_27_6 rfl (by omega) (fun c6 => ?_) (fun c6 => ?_)
    · omega
    · skip
      refine zi_aload_n dk_27_9 rfl rfl ?_
      refine zj_iload dk_27_10 rfl ?_
      refine zi_invV dk_27_12 ml_1_23 iv_25 (ct_25 (d := d - 1) h1 h2 hl hf (by omega)) (by first | assumption | exact zz_up_eq _ _ _ | omega | exact Ne.symm (by assumption) | (refine (zz_up_ne ?_).trans ?_ <;> first | assumption | exact zz_up_eq _ _ _ | omega | exact Ne.symm (by assumption) | (refine (zz_up_ne ?_).trans ?_ <;> first | assumption | exact zz_up_eq _ _ _ | omega | exact Ne.symm (by assumption) | (refine (zz_up_ne ?_).trans ?_ <;> first | assumption | exact zz_up_eq _ _ _ | omega | exact Ne.symm (by assumption))))) rfl rfl rfl (by decide) (by omega) rfl rfl (fun r n' h' hq => ?_)
      obtain ⟨rfl, rfl, rfl⟩ := hq
      refine zj_iload_n dk_27_15 rfl ?_
      refine zj_icmp_ne (t := 22) dk_27_16 rfl (by omega) (fun c16 => ?_) (fun c16 => ?_)
      · skip
        refine zj_iinc dk_27_22 rfl rfl ?_
        refine zi_goto (t := 3) dk_27_25 rfl ?_
        exact ih (i + 1) (by omega) (by omega) (by rw [if_neg c16] at hQ; exact hQ)
      · skip
        refine zj_iload dk_27_19 rfl ?_
        refine zj_ireturn dk_27_21 rfl (by rw [if_pos c16] at hQ; exact hQ)

