theorem ct_27 {X : zz_X} {d n : Nat} {h : zz_H} (hd : 1 ≤ d) {t ca : Nat} {len : Int} {f : Int → Int} (h1 : h t = some (.inr (1, [.ref ca, zv len]))) (h2 : h ca = some (zA 1 40 f)) (hl : 0 ≤ len ∧ len ≤ 40) (hf : ∀ i, 0 ≤ i → i < len → 0 ≤ f i ∧ f i < 65536) {c fr to : Int} (hc : 0 ≤ c ∧ c < 65536) (hfr : 0 ≤ fr ∧ fr ≤ to ∧ to ≤ 40) : zz_Ct X mm_27 d 0 0 [.ref t, zv c, zv fr, zv to] n h (zp (some (zv (sp_find (tx_at len f) c (to - fr).toNat fr))) n h) := by
  refine zz_start (by decide) (ls := [some (.ref t), some (zv c), some (zv fr), some (zv to), none]) rfl ?_
  refine zj_iload_n dk_27_0 rfl ?_
  refine zj_istore dk_27_1 rfl ?_
  exact lp_27 hd h1 h2 hl hf hc (by omega) fr (to - fr).toNat fr (by omega) (by omega) ⟨rfl, rfl, rfl⟩

theorem ct_26 {X : zz_X} {d n : Nat} {h : zz_H} (hd : 2 ≤ d) {t ca : Nat} {len : Int} {f : Int → Int} (h1 : h t = some (.inr (1, [.ref ca, zv len]))) (h2 : h ca = some (zA 1 40 f)) (hl : 0 ≤ len ∧ len ≤ 40) (hf : ∀ i, 0 ≤ i → i < len → 0 ≤ f i ∧ f i < 65536) {c : Int} (hc : 0 ≤ c ∧ c < 65536) : zz_Ct X mm_26 d 0 0 [.ref t, zv c] n h (zp (some (zv (if sp_find (tx_at len f) c len.toNat 0 < len then 1 else 0))) n h) := by
  refine zz_start (by decide) (ls := [some (.ref t), some (zv c)]) rfl ?_
  have hge := sp_find_ge (tx_at len f) c len.toNat 0
  have h0 : (len - 0).toNat = len.toNat := by omega
  refine zi_aload_n dk_26_0 rfl rfl ?_
  refine zj_iload_n dk_26_1 rfl ?_
  refine zj_iconst dk_26_2 ?_
  refine zi_aload_n dk_26_3 rfl rfl ?_
  refine zi_getf dk_26_4 fl_1_19 (by first | assumption | exact zz_up_eq _ _ _ | omega | exact Ne.symm (by assumption) | (refine (zz_up_ne ?_).trans ?_ <;> first | assumption | exact zz_up_eq _ _ _ | omega | exact Ne.symm (by assumption) | (refine (zz_up_ne ?_).trans ?_ <;> first | assumption | exact zz_up_eq _ _ _ | omega | exact Ne.symm (by assumption) | (refine (zz_up_ne ?_).trans ?_ <;> first | assumption | exact zz_up_eq _ _ _ | omega | exact Ne.symm (by assumption))))) rfl ?_
  refine zi_invV dk_26_7 ml_1_27 iv_27 (ct_27 (d := d - 1) (by omega) h1 h2 hl hf hc (by omega)) (by first | assumption | exact zz_up_eq _ _ _ | omega | exact Ne.symm (by assumption) | (refine (zz_up_ne ?_).trans ?_ <;> first | assumption | exact zz_up_eq _ _ _ | omega | exact Ne.symm (by assumption) | (refine (zz_up_ne ?_).trans ?_ <;> first | assumption | exact zz_up_eq _ _ _ | omega | exact Ne.symm (by assumption) | (refine (zz_up_ne ?_).trans ?_ <;> first | assumption | exact zz_up_eq _ _ _ | omega | exact Ne.symm (by assumption))))) rfl rfl rfl (Nat.le_of_ble_eq_true rfl) (by omega) rfl rfl (fun r n' h' hq => ?_)
  obtain ⟨rfl, rfl, rfl⟩ := hq
  rw [h0]
  refine zi_aload_n dk_26_10 rfl rfl ?_
  refine zi_getf dk_26_11 fl_1_19 (by first | assumption | exact zz_up_eq _ _ _ | omega | exact Ne.symm (by assumption) | (refine (zz_up_ne ?_).trans ?_ <;> first | assumption | exact zz_up_eq _ _ _ | omega | exact Ne.symm (by assumption) | (refine (zz_up_ne ?_).trans ?_ <;> first | assumption | exact zz_up_eq _ _ _ | omega | exact Ne.symm (by assumption) | (refine (zz_up_ne ?_).trans ?_ <;> first | assumption | exact zz_up_eq _ _ _ | omega | exact Ne.symm (by assumption))))) rfl ?_
  refine zj_icmp_ge (t := 21) dk_26_14 rfl (by omega) (fun c14 => ?_) (fun c14 => ?_)
  · skip
    refine zj_iconst dk_26_21 ?_
    refine zj_zreturn dk_26_22 rfl (by omega) ⟨by first | rw [if_pos (by omega)] | rw [if_neg (by omega)], rfl, rfl⟩
  · skip
    refine zj_iconst dk_26_17 ?_
    refine zi_goto (t := 22) dk_26_18 rfl ?_
    refine zj_zreturn dk_26_22 rfl (by omega) ⟨by first | rw [if_pos (by omega)] | rw [if_neg (by omega)], rfl, rfl⟩

theorem tx_rg {len : Int} {f : Int → Int} (hf : ∀ i, 0 ≤ i → i < len → 0 ≤ f i ∧ f i < 65536) (i : Int) : 0 ≤ tx_at len f i ∧ tx_at len f i < 65536 := by
  unfold tx_at
  split
  · exact hf i (by omega) (by omega)
  · omega
theorem ct_28 {X : zz_X} {d n : Nat} {h : zz_H} (hd : 1 ≤ d) {t ca : Nat} {len : Int} {f : Int → Int} (h1 : h t = some (.inr (1, [.ref ca, zv len]))) (h2 : h ca = some (zA 1 40 f)) (hl : 0 ≤ len ∧ len ≤ 40) (hf : ∀ i, 0 ≤ i → i < len → 0 ≤ f i ∧ f i < 65536) {i : Int} (hi : -2147483648 ≤ i ∧ i < 2147483648) : zz_Ct X mm_28 d 0 0 [.ref t, zv i] n h (zp (some (zv (if i = len ∨ tx_at len f i = 47 then 1 else 0))) n h) := by
  refine zz_start (by decide) (ls := [some (.ref t), some (zv i)]) rfl ?_
  have hat := tx_rg hf i
  refine zj_iload_n dk_28_0 rfl ?_
  refine zi_aload_n dk_28_1 rfl rfl ?_
  refine zi_getf dk_28_2 fl_1_19 (by first | assumption | exact zz_up_eq _ _ _ | omega | exact Ne.symm (by assumption) | (refine (zz_up_ne ?_).trans ?_ <;> first | assumption | exact zz_up_eq _ _ _ | omega | exact Ne.symm (by assumption) | (refine (zz_up_ne ?_).trans ?_ <;> first | assumption | exact zz_up_eq _ _ _ | omega | exact Ne.symm (by assumption) | (refine (zz_up_ne ?_).trans ?_ <;> first | assumption | exact zz_up_eq _ _ _ | omega | exact Ne.symm (by assumption))))) rfl ?_
  refine zj_icmp_eq (t := 18) dk_28_5 rfl (by omega) (fun c5 => ?_) (fun c5 => ?_)
  · skip
    refine zj_iconst dk_28_18 ?_
    refine zi_goto (t := 23) dk_28_19 rfl ?_
    refine zj_zreturn dk_28_23 rfl (by omega) ⟨by first | rw [if_pos (by omega)] | rw [if_neg (by omega)], rfl, rfl⟩
  · skip
    refine zi_aload_n dk_28_8 rfl rfl ?_
    refine zj_iload_n dk_28_9 rfl ?_
    refine zi_invV dk_28_10 ml_1_23 iv_25 (ct_25 (d := d - 1) h1 h2 hl hf (by omega)) (by first | assumption | exact zz_up_eq _ _ _ | omega | exact Ne.symm (by assumption) | (refine (zz_up_ne ?_).trans ?_ <;> first | assumption | exact zz_up_eq _ _ _ | omega | exact Ne.symm (by assumption) | (refine (zz_up_ne ?_).trans ?_ <;> first | assumption | exact zz_up_eq _ _ _ | omega | exact Ne.symm (by assumption) | (refine (zz_up_ne ?_).trans ?_ <;> first | assumption | exact zz_up_eq _ _ _ | omega | exact Ne.symm (by assumption))))) rfl rfl rfl (Nat.le_of_ble_eq_true rfl) (by omega) rfl rfl (fun r n' h' hq => ?_)
    obtain ⟨rfl, rfl, rfl⟩ := hq
    refine zj_bipush dk_28_13 (by decide) ?_
    refine zj_icmp_ne (t := 22) dk_28_15 rfl (by omega) (fun c15 => ?_) (fun c15 => ?_)
    · skip
      refine zj_iconst dk_28_22 ?_
      refine zj_zreturn dk_28_23 rfl (by omega) ⟨by first | rw [if_pos (by omega)] | rw [if_neg (by omega)], rfl, rfl⟩
    · skip
      refine zj_iconst dk_28_18 ?_
      refine zi_goto (t := 23) dk_28_19 rfl ?_
      refine zj_zreturn dk_28_23 rfl (by omega) ⟨by first | rw [if_pos (by omega)] | rw [if_neg (by omega)], rfl, rfl⟩

