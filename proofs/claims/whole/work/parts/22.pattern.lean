/-! Rule: patterns -/
/-- no two stars side by side from i on, before to -/
def sp_st (g : Int → Int) (to : Int) : Nat → Int → Bool
  | 0, _ => true
  | k + 1, i => if i + 1 < to then (if g i = 42 ∧ g (i + 1) = 42 then false else sp_st g to k (i + 1)) else true
def sp_isp (g : Int → Int) (fr to : Int) : Bool := if to - fr = 2 then true else (sp_st g to 41 fr && decide (fr < to))
def sp_ptl (f : Int → Int) (len : Int) : Nat → Int → Bool
  | 0, _ => true
  | k + 1, p => if sp_isp f p (sp_nx f len p) = true then (if sp_nx f len p = len then true else sp_ptl f len k (sp_nx f len p + 1)) else false
def sp_has (f : Int → Int) (len c : Int) : Bool := decide (sp_find f c len.toNat 0 < len)
def sp_pat (f : Int → Int) (len : Int) : Bool := decide (¬ (len = 0 ∨ f 0 ≠ 47)) && !(sp_has f len 92) && !(sp_has f len 37) && !(sp_has f len 59) && (decide (len = 1) || sp_ptl f len 41 1)
theorem sp_st_congr {g g' : Int → Int} {to : Int} : ∀ (k : Nat) (i : Int), (∀ x, i ≤ x → x < to → g x = g' x) → sp_st g to k i = sp_st g' to k i
  | 0, _, _ => rfl
  | k + 1, i, h => by
    unfold sp_st
    by_cases hi : i + 1 < to
    · rw [if_pos hi, if_pos hi, h i (by omega) (by omega), h (i + 1) (by omega) (by omega), sp_st_congr k (i + 1) (fun x h1 h2 => h x (by omega) h2)]
    · rw [if_neg hi, if_neg hi]
theorem sp_isp_congr {g g' : Int → Int} {fr to : Int} (h : ∀ x, fr ≤ x → x < to → g x = g' x) : sp_isp g fr to = sp_isp g' fr to := by
  unfold sp_isp
  rw [sp_st_congr 41 fr h]
theorem lp_29 {X : zz_X} {d n : Nat} {h : zz_H} (hd : 1 ≤ d) {t ca : Nat} {len : Int} {f : Int → Int} (h1 : h t = some (.inr (1, [.ref ca, zv len]))) (h2 : h ca = some (zA 1 40 f)) (hl : 0 ≤ len ∧ len ≤ 40) (hf : ∀ i, 0 ≤ i → i < len → 0 ≤ f i ∧ f i < 65536) {fr to : Int} (hr : 0 ≤ fr ∧ fr ≤ 41 ∧ to ≤ 40) (hto0 : -2147483648 ≤ to) {Q : Option Value → Nat → zz_H → Prop} : ∀ (k : Nat) (i : Int), to ≤ i + k + 1 → fr ≤ i → i ≤ 60 → Q (some (zv (bz (sp_st (tx_at len f) to k i && decide (fr < to))))) n h →
    zz_Z X mm_29 d Q 0 0 11 [some (.ref t), some (zv fr), some (zv to), some (zv i)] [] n h := by
  intro k
  induction k with
  | zero =>
    intro i hi hfi h60 hQ
    by_cases h0to : -2147483648 ≤ to
    · skip
      refine zj_iload_n dk_29_11 rfl ?_
      refine zj_iconst dk_29_12 ?_
      refine zj_iadd dk_29_13 ?_
      refine zj_iload_n dk_29_14 rfl ?_
      refine zj_icmp_ge (t := 48) dk_29_15 rfl (by omega) (fun c15 => ?_) (fun c15 => ?_)
      · skip
        refine zj_iload_n dk_29_48 rfl ?_
        refine zj_iload_n dk_29_49 rfl ?_
        refine zj_icmp_le (t := 57) dk_29_50 rfl (by omega) (fun c50 => ?_) (fun c50 => ?_)
        · skip
          refine zj_iconst dk_29_57 ?_
          refine zj_zreturn dk_29_58 rfl (by omega) (by unfold sp_st at hQ; first | (rw [decide_eq_true (by omega)] at hQ; exact hQ) | (rw [decide_eq_false (by omega)] at hQ; exact hQ))
        · skip
          refine zj_iconst dk_29_53 ?_
          refine zi_goto (t := 58) dk_29_54 rfl ?_
          refine zj_zreturn dk_29_58 rfl (by omega) (by unfold sp_st at hQ; first | (rw [decide_eq_true (by omega)] at hQ; exact hQ) | (rw [decide_eq_false (by omega)] at hQ; exact hQ))
      · omega
    · exact absurd hto0 h0to
  | succ k ih =>
    intro i hi hfi h60 hQ
    have hat := tx_rg hf i
    have hat2 := tx_rg hf (i + 1)
    unfold sp_st at hQ
    refine zj_iload_n dk_29_11 rfl ?_
    refine zj_iconst dk_29_12 ?_
    refine zj_iadd dk_29_13 ?_
    refine zj_iload_n dk_29_14 rfl ?_
    refine zj_icmp_ge (t := 48) dk_29_15 rfl (by omega) (fun c15 => ?_) (fun c15 => ?_)
    · skip
      refine zj_iload_n dk_29_48 rfl ?_
      refine zj_iload_n dk_29_49 rfl ?_
      refine zj_icmp_le (t := 57) dk_29_50 rfl (by omega) (fun c50 => ?_) (fun c50 => ?_)
      · skip
        refine zj_iconst dk_29_57 ?_
        refine zj_zreturn dk_29_58 rfl (by omega) (by rw [if_neg (by omega : ¬ i + 1 < to)] at hQ; first | (rw [decide_eq_true (by omega)] at hQ; exact hQ) | (rw [decide_eq_false (by omega)] at hQ; exact hQ))
      · skip
        refine zj_iconst dk_29_53 ?_
        refine zi_goto (t := 58) dk_29_54 rfl ?_
        refine zj_zreturn dk_29_58 rfl (by omega) (by rw [if_neg (by omega : ¬ i + 1 < to)] at hQ; first | (rw [decide_eq_true (by omega)] at hQ; exact hQ) | (rw [decide_eq_false (by omega)] at hQ; exact hQ))
    · skip
      refine zi_aload_n dk_29_18 rfl rfl ?_
      refine zj_iload_n dk_29_19 rfl ?_
      rw [if_pos (by omega : i + 1 < to)] at hQ
      refine zi_invV dk_29_20 ml_5_32 iv_25 (ct_25 (d := d - 1) h1 h2 hl hf (by omega)) (by first | assumption | exact zz_up_eq _ _ _ | omega | exact Ne.symm (by assumption) | (refine (zz_up_ne ?_).trans ?_ <;> first | assumption | exact zz_up_eq _ _ _ | omega | exact Ne.symm (by assumption) | (refine (zz_up_ne ?_).trans ?_ <;> first | assumption | exact zz_up_eq _ _ _ | omega | exact Ne.symm (by assumption) | (refine (zz_up_ne ?_).trans ?_ <;> first | assumption | exact zz_up_eq _ _ _ | omega | exact Ne.symm (by assumption))))) rfl rfl rfl (Nat.le_of_ble_eq_true rfl) (by omega) rfl rfl (fun r n' h' hq => ?_)
      obtain ⟨rfl, rfl, rfl⟩ := hq
      refine zj_bipush dk_29_23 (by decide) ?_
      refine zj_icmp_ne (t := 42) dk_29_25 rfl (by omega) (fun c25 => ?_) (fun c25 => ?_)
      · skip
        refine zj_iinc dk_29_42 rfl rfl ?_
        refine zi_goto (t := 11) dk_29_45 rfl ?_
        exact ih (i + 1) (by omega) (by omega) (by omega) (by rw [if_neg (by omega)] at hQ; exact hQ)
      · skip
        refine zi_aload_n dk_29_28 rfl rfl ?_
        refine zj_iload_n dk_29_29 rfl ?_
        refine zj_iconst dk_29_30 ?_
        refine zj_iadd dk_29_31 ?_
        refine zi_invV dk_29_32 ml_5_32 iv_25 (ct_25 (d := d - 1) h1 h2 hl hf (by omega)) (by first | assumption | exact zz_up_eq _ _ _ | omega | exact Ne.symm (by assumption) | (refine (zz_up_ne ?_).trans ?_ <;> first | assumption | exact zz_up_eq _ _ _ | omega | exact Ne.symm (by assumption) | (refine (zz_up_ne ?_).trans ?_ <;> first | assumption | exact zz_up_eq _ _ _ | omega | exact Ne.symm (by assumption) | (refine (zz_up_ne ?_).trans ?_ <;> first | assumption | exact zz_up_eq _ _ _ | omega | exact Ne.symm (by assumption))))) rfl rfl rfl (Nat.le_of_ble_eq_true rfl) (by omega) rfl rfl (fun r n' h' hq => ?_)
        obtain ⟨rfl, rfl, rfl⟩ := hq
        refine zj_bipush dk_29_35 (by decide) ?_
        refine zj_icmp_ne (t := 42) dk_29_37 rfl (by omega) (fun c37 => ?_) (fun c37 => ?_)
        · skip
          refine zj_iinc dk_29_42 rfl rfl ?_
          refine zi_goto (t := 11) dk_29_45 rfl ?_
          exact ih (i + 1) (by omega) (by omega) (by omega) (by rw [if_neg (by omega)] at hQ; exact hQ)
        · skip
          refine zj_iconst dk_29_40 ?_
          refine zj_zreturn dk_29_41 rfl (by omega) (by rw [if_pos ⟨c25, c37⟩] at hQ; exact hQ)

theorem ct_29 {X : zz_X} {d n : Nat} {h : zz_H} (hd : 1 ≤ d) {t ca : Nat} {len : Int} {f : Int → Int} (h1 : h t = some (.inr (1, [.ref ca, zv len]))) (h2 : h ca = some (zA 1 40 f)) (hl : 0 ≤ len ∧ len ≤ 40) (hf : ∀ i, 0 ≤ i → i < len → 0 ≤ f i ∧ f i < 65536) {fr to : Int} (hr : 0 ≤ fr ∧ fr ≤ 41 ∧ 0 ≤ to ∧ to ≤ 40) : zz_Ct X mm_29 d 0 0 [.ref t, zv fr, zv to] n h (zp (some (zv (bz (sp_isp (tx_at len f) fr to)))) n h) := by
  refine zz_start (by decide) (ls := [some (.ref t), some (zv fr), some (zv to), none]) rfl ?_
  refine zj_iload_n dk_29_0 rfl ?_
  refine zj_iload_n dk_29_1 rfl ?_
  refine zj_isub dk_29_2 ?_
  refine zj_iconst dk_29_3 ?_
  refine zj_icmp_ne (t := 9) dk_29_4 rfl (by omega) (fun c4 => ?_) (fun c4 => ?_)
  · skip
    refine zj_iload_n dk_29_9 rfl ?_
    refine zj_istore_n dk_29_10 rfl ?_
    refine lp_29 hd h1 h2 hl hf (by omega) (by omega) 41 fr (by omega) (by omega) (by omega) ⟨?_, rfl, rfl⟩
    unfold sp_isp
    rw [if_neg c4]
  · skip
    refine zj_iconst dk_29_7 ?_
    refine zj_zreturn dk_29_8 rfl (by omega) ⟨by unfold sp_isp; rw [if_pos c4]; rfl, rfl, rfl⟩

theorem lp_24 {X : zz_X} {d n : Nat} {h : zz_H} (hd : 2 ≤ d) {t ca : Nat} {len : Int} {f : Int → Int} (h1 : h t = some (.inr (1, [.ref ca, zv len]))) (h2 : h ca = some (zA 1 40 f)) (hl : 0 ≤ len ∧ len ≤ 40) (hf : ∀ i, 0 ≤ i → i < len → 0 ≤ f i ∧ f i < 65536) {Q : Option Value → Nat → zz_H → Prop} : ∀ (m : Nat) (i fr : Int) (K : Nat), i + m = len → 1 ≤ fr → fr ≤ i → len < fr + K → (∀ x, fr ≤ x → x < i → f x ≠ 47) → Q (some (zv (bz (sp_ptl f len K fr)))) n h →
    zz_Z X mm_24 d Q 0 0 53 [some (.ref t), some (zv fr), some (zv i)] [] n h := by
  intro m
  induction m with
  | zero =>
    intro i fr K hm h3 h4 hK hno hQ
    have hil : i = len := by omega
    obtain ⟨K', rfl⟩ : ∃ K', K = K' + 1 := ⟨K - 1, by omega⟩
    have e1 : sp_nx f len fr = i := sp_find_uniq f 47 _ fr i h4 (by omega) hno (fun _ => by omega)
    have e2 : sp_isp (tx_at len f) fr i = sp_isp f fr i := sp_isp_congr (fun x hx1 hx2 => if_pos (by omega))
    have q1 := bz_rg (sp_isp f fr i)
    unfold sp_ptl at hQ
    rw [e1] at hQ
    refine zj_iload_n dk_24_53 rfl ?_
    refine zi_aload_n dk_24_54 rfl rfl ?_
    refine zi_getf dk_24_55 fl_5_23 (by first | assumption | exact zz_up_eq _ _ _ | omega | exact Ne.symm (by assumption) | (refine (zz_up_ne ?_).trans ?_ <;> first | assumption | exact zz_up_eq _ _ _ | omega | exact Ne.symm (by assumption) | (refine (zz_up_ne ?_).trans ?_ <;> first | assumption | exact zz_up_eq _ _ _ | omega | exact Ne.symm (by assumption) | (refine (zz_up_ne ?_).trans ?_ <;> first | assumption | exact zz_up_eq _ _ _ | omega | exact Ne.symm (by assumption))))) rfl ?_
    refine zj_icmp_gt (t := 90) dk_24_58 rfl (by omega) (fun c58 => ?_) (fun c58 => ?_)
    · omega
    · skip
      refine zi_aload_n dk_24_61 rfl rfl ?_
      refine zj_iload_n dk_24_62 rfl ?_
      refine zi_invV dk_24_63 ml_5_28 iv_28 (ct_28 (d := d - 1) (by omega) h1 h2 hl hf (by omega)) (by first | assumption | exact zz_up_eq _ _ _ | omega | exact Ne.symm (by assumption) | (refine (zz_up_ne ?_).trans ?_ <;> first | assumption | exact zz_up_eq _ _ _ | omega | exact Ne.symm (by assumption) | (refine (zz_up_ne ?_).trans ?_ <;> first | assumption | exact zz_up_eq _ _ _ | omega | exact Ne.symm (by assumption) | (refine (zz_up_ne ?_).trans ?_ <;> first | assumption | exact zz_up_eq _ _ _ | omega | exact Ne.symm (by assumption))))) rfl rfl rfl (Nat.le_of_ble_eq_true rfl) (by omega) rfl rfl (fun r n' h' hq => ?_)
      obtain ⟨rfl, rfl, rfl⟩ := hq
      rw [if_pos (Or.inl hil)]
      refine zj_if_eq (t := 84) dk_24_66 rfl (by omega) (fun c66 => ?_) (fun c66 => ?_)
      · omega
      · skip
        refine zi_aload_n dk_24_69 rfl rfl ?_
        refine zj_iload_n dk_24_70 rfl ?_
        refine zj_iload_n dk_24_71 rfl ?_
        refine zi_invS dk_24_72 ml_5_47 is_29 (ct_29 (d := d - 1) (by omega) h1 h2 hl hf (by omega)) rfl rfl (Nat.le_of_ble_eq_true rfl) (by omega) rfl rfl (fun r n' h' hq => ?_)
        obtain ⟨rfl, rfl, rfl⟩ := hq
        rw [e2]
        refine zj_if_ne (t := 80) dk_24_75 rfl (by omega) (fun c75 => ?_) (fun c75 => ?_)
        · skip
          refine zj_iload_n dk_24_80 rfl ?_
          refine zj_iconst dk_24_81 ?_
          refine zj_iadd dk_24_82 ?_
          refine zj_istore_n dk_24_83 rfl ?_
          refine zj_iinc dk_24_84 rfl rfl ?_
          rw [if_pos (bz_ne0.mp c75), if_pos hil] at hQ
          refine zi_goto (t := 53) dk_24_87 rfl ?_
          refine zj_iload_n dk_24_53 rfl ?_
          refine zi_aload_n dk_24_54 rfl rfl ?_
          refine zi_getf dk_24_55 fl_5_23 h1 rfl ?_
          refine zj_icmp_gt (t := 90) dk_24_58 rfl (by omega) (fun c58 => ?_) (fun c58 => by omega)
          refine zj_iconst dk_24_90 ?_
          exact zj_zreturn dk_24_91 rfl (by omega) hQ
        · skip
          refine zj_iconst dk_24_78 ?_
          refine zj_zreturn dk_24_79 rfl (by omega) (by rw [if_neg (by rw [bz_eq0.mp c75]; decide)] at hQ; exact hQ)
  | succ m ih =>
    intro i fr K hm h3 h4 hK hno hQ
    have hil : ¬ i = len := by omega
    by_cases hsl : f i = 47
    · obtain ⟨K', rfl⟩ : ∃ K', K = K' + 1 := ⟨K - 1, by omega⟩
      have e1 : sp_nx f len fr = i := sp_find_uniq f 47 _ fr i h4 (by omega) hno (fun _ => hsl)
      have e2 : sp_isp (tx_at len f) fr i = sp_isp f fr i := sp_isp_congr (fun x hx1 hx2 => if_pos (by omega))
      have q1 := bz_rg (sp_isp f fr i)
      unfold sp_ptl at hQ
      rw [e1] at hQ
      refine zj_iload_n dk_24_53 rfl ?_
      refine zi_aload_n dk_24_54 rfl rfl ?_
      refine zi_getf dk_24_55 fl_5_23 (by first | assumption | exact zz_up_eq _ _ _ | omega | exact Ne.symm (by assumption) | (refine (zz_up_ne ?_).trans ?_ <;> first | assumption | exact zz_up_eq _ _ _ | omega | exact Ne.symm (by assumption) | (refine (zz_up_ne ?_).trans ?_ <;> first | assumption | exact zz_up_eq _ _ _ | omega | exact Ne.symm (by assumption) | (refine (zz_up_ne ?_).trans ?_ <;> first | assumption | exact zz_up_eq _ _ _ | omega | exact Ne.symm (by assumption))))) rfl ?_
      refine zj_icmp_gt (t := 90) dk_24_58 rfl (by omega) (fun c58 => ?_) (fun c58 => ?_)
      · omega
      · skip
        refine zi_aload_n dk_24_61 rfl rfl ?_
        refine zj_iload_n dk_24_62 rfl ?_
        refine zi_invV dk_24_63 ml_5_28 iv_28 (ct_28 (d := d - 1) (by omega) h1 h2 hl hf (by omega)) (by first | assumption | exact zz_up_eq _ _ _ | omega | exact Ne.symm (by assumption) | (refine (zz_up_ne ?_).trans ?_ <;> first | assumption | exact zz_up_eq _ _ _ | omega | exact Ne.symm (by assumption) | (refine (zz_up_ne ?_).trans ?_ <;> first | assumption | exact zz_up_eq _ _ _ | omega | exact Ne.symm (by assumption) | (refine (zz_up_ne ?_).trans ?_ <;> first | assumption | exact zz_up_eq _ _ _ | omega | exact Ne.symm (by assumption))))) rfl rfl rfl (Nat.le_of_ble_eq_true rfl) (by omega) rfl rfl (fun r n' h' hq => ?_)
        obtain ⟨rfl, rfl, rfl⟩ := hq
        rw [if_pos (Or.inr (by rw [tx_in (by omega) (by omega)]; exact hsl))]
        refine zj_if_eq (t := 84) dk_24_66 rfl (by omega) (fun c66 => ?_) (fun c66 => ?_)
        · omega
        · skip
          refine zi_aload_n dk_24_69 rfl rfl ?_
          refine zj_iload_n dk_24_70 rfl ?_
          refine zj_iload_n dk_24_71 rfl ?_
          refine zi_invS dk_24_72 ml_5_47 is_29 (ct_29 (d := d - 1) (by omega) h1 h2 hl hf (by omega)) rfl rfl (Nat.le_of_ble_eq_true rfl) (by omega) rfl rfl (fun r n' h' hq => ?_)
          obtain ⟨rfl, rfl, rfl⟩ := hq
          rw [e2]
          refine zj_if_ne (t := 80) dk_24_75 rfl (by omega) (fun c75 => ?_) (fun c75 => ?_)
          · skip
            refine zj_iload_n dk_24_80 rfl ?_
            refine zj_iconst dk_24_81 ?_
            refine zj_iadd dk_24_82 ?_
            refine zj_istore_n dk_24_83 rfl ?_
            refine zj_iinc dk_24_84 rfl rfl ?_
            rw [if_pos (bz_ne0.mp c75), if_neg hil] at hQ
            refine zi_goto (t := 53) dk_24_87 rfl ?_
            exact ih (i + 1) (i + 1) K' (by omega) (by omega) (by omega) (by omega) (fun x hx1 hx2 => by omega) hQ
          · skip
            refine zj_iconst dk_24_78 ?_
            refine zj_zreturn dk_24_79 rfl (by omega) (by rw [if_neg (by rw [bz_eq0.mp c75]; decide)] at hQ; exact hQ)
    · skip
      refine zj_iload_n dk_24_53 rfl ?_
      refine zi_aload_n dk_24_54 rfl rfl ?_
      refine zi_getf dk_24_55 fl_5_23 (by first | assumption | exact zz_up_eq _ _ _ | omega | exact Ne.symm (by assumption) | (refine (zz_up_ne ?_).trans ?_ <;> first | assumption | exact zz_up_eq _ _ _ | omega | exact Ne.symm (by assumption) | (refine (zz_up_ne ?_).trans ?_ <;> first | assumption | exact zz_up_eq _ _ _ | omega | exact Ne.symm (by assumption) | (refine (zz_up_ne ?_).trans ?_ <;> first | assumption | exact zz_up_eq _ _ _ | omega | exact Ne.symm (by assumption))))) rfl ?_
      refine zj_icmp_gt (t := 90) dk_24_58 rfl (by omega) (fun c58 => ?_) (fun c58 => ?_)
      · omega
      · skip
        refine zi_aload_n dk_24_61 rfl rfl ?_
        refine zj_iload_n dk_24_62 rfl ?_
        refine zi_invV dk_24_63 ml_5_28 iv_28 (ct_28 (d := d - 1) (by omega) h1 h2 hl hf (by omega)) (by first | assumption | exact zz_up_eq _ _ _ | omega | exact Ne.symm (by assumption) | (refine (zz_up_ne ?_).trans ?_ <;> first | assumption | exact zz_up_eq _ _ _ | omega | exact Ne.symm (by assumption) | (refine (zz_up_ne ?_).trans ?_ <;> first | assumption | exact zz_up_eq _ _ _ | omega | exact Ne.symm (by assumption) | (refine (zz_up_ne ?_).trans ?_ <;> first | assumption | exact zz_up_eq _ _ _ | omega | exact Ne.symm (by assumption))))) rfl rfl rfl (Nat.le_of_ble_eq_true rfl) (by omega) rfl rfl (fun r n' h' hq => ?_)
        obtain ⟨rfl, rfl, rfl⟩ := hq
        rw [if_neg (by rw [tx_in (by omega) (by omega)]; omega)]
        refine zj_if_eq (t := 84) dk_24_66 rfl (by omega) (fun c66 => ?_) (fun c66 => ?_)
        · skip
          refine zj_iinc dk_24_84 rfl rfl ?_
          refine zi_goto (t := 53) dk_24_87 rfl ?_
          exact ih (i + 1) fr K (by omega) h3 (by omega) hK (fun x hx1 hx2 => by by_cases hxi : x = i; (rw [hxi]; exact hsl); exact hno x hx1 (by omega)) hQ
        · omega

theorem ct_24 {X : zz_X} {d n : Nat} {h : zz_H} (hd : 3 ≤ d) {t ca : Nat} {len : Int} {f : Int → Int} (h1 : h t = some (.inr (1, [.ref ca, zv len]))) (h2 : h ca = some (zA 1 40 f)) (hl : 0 ≤ len ∧ len ≤ 40) (hf : ∀ i, 0 ≤ i → i < len → 0 ≤ f i ∧ f i < 65536) : zz_Ct X mm_24 d 0 0 [.ref t] n h (zp (some (zv (bz (sp_pat f len)))) n h) := by
  refine zz_start (by decide) (ls := [some (.ref t), none, none]) rfl ?_
  have hfe : ∀ c : Int, sp_find (tx_at len f) c len.toNat 0 = sp_find f c len.toNat 0 := fun c => sp_find_congr _ _ _ _ _ (fun x hx1 hx2 => tx_in hx1 (by omega))
  have hbh : ∀ c : Int, (if sp_find f c len.toNat 0 < len then (1 : Int) else 0) = bz (sp_has f len c) := fun c => by
    unfold sp_has
    by_cases hx : sp_find f c len.toNat 0 < len
    · rw [if_pos hx, decide_eq_true hx]; rfl
    · rw [if_neg hx, decide_eq_false hx]; rfl
  have q0 := tx_rg hf 0
  have q1 := bz_rg (sp_has f len 92)
  have q2 := bz_rg (sp_has f len 37)
  have q3 := bz_rg (sp_has f len 59)
  have h00 : tx_at len f 0 = 47 ↔ ¬ (len = 0 ∨ f 0 ≠ 47) := by
    by_cases hx : len = 0
    · unfold tx_at; rw [if_neg (by omega)]; omega
    · rw [tx_in (by omega) (by omega)]; omega
  refine zi_aload_n dk_24_0 rfl rfl ?_
  refine zj_iconst dk_24_1 ?_
  refine zi_invV dk_24_2 ml_5_32 iv_25 (ct_25 (d := d - 1) h1 h2 hl hf (by omega)) (by first | assumption | exact zz_up_eq _ _ _ | omega | exact Ne.symm (by assumption) | (refine (zz_up_ne ?_).trans ?_ <;> first | assumption | exact zz_up_eq _ _ _ | omega | exact Ne.symm (by assumption) | (refine (zz_up_ne ?_).trans ?_ <;> first | assumption | exact zz_up_eq _ _ _ | omega | exact Ne.symm (by assumption) | (refine (zz_up_ne ?_).trans ?_ <;> first | assumption | exact zz_up_eq _ _ _ | omega | exact Ne.symm (by assumption))))) rfl rfl rfl (Nat.le_of_ble_eq_true rfl) (by omega) rfl rfl (fun r n' h' hq => ?_)
  obtain ⟨rfl, rfl, rfl⟩ := hq
  refine zj_bipush dk_24_5 (by decide) ?_
  refine zj_icmp_ne (t := 37) dk_24_7 rfl (by omega) (fun c7 => ?_) (fun c7 => ?_)
  · skip
    refine zj_iconst dk_24_37 ?_
    refine zj_zreturn dk_24_38 rfl (by omega) ⟨by unfold sp_pat; rw [decide_eq_false (fun hx => c7 (h00.mpr hx))]; rfl, rfl, rfl⟩
  · skip
    refine zi_aload_n dk_24_10 rfl rfl ?_
    refine zj_bipush dk_24_11 (by decide) ?_
    refine zi_invV dk_24_13 ml_5_43 iv_26 (ct_26 (d := d - 1) (by omega) h1 h2 hl hf (by omega)) (by first | assumption | exact zz_up_eq _ _ _ | omega | exact Ne.symm (by assumption) | (refine (zz_up_ne ?_).trans ?_ <;> first | assumption | exact zz_up_eq _ _ _ | omega | exact Ne.symm (by assumption) | (refine (zz_up_ne ?_).trans ?_ <;> first | assumption | exact zz_up_eq _ _ _ | omega | exact Ne.symm (by assumption) | (refine (zz_up_ne ?_).trans ?_ <;> first | assumption | exact zz_up_eq _ _ _ | omega | exact Ne.symm (by assumption))))) rfl rfl rfl (Nat.le_of_ble_eq_true rfl) (by omega) rfl rfl (fun r n' h' hq => ?_)
    obtain ⟨rfl, rfl, rfl⟩ := hq
    rw [hfe, hbh]
    refine zj_if_ne (t := 37) dk_24_16 rfl (by omega) (fun c16 => ?_) (fun c16 => ?_)
    · skip
      refine zj_iconst dk_24_37 ?_
      refine zj_zreturn dk_24_38 rfl (by omega) ⟨by unfold sp_pat; rw [bz_ne0.mp c16]; simp [bz], rfl, rfl⟩
    · skip
      refine zi_aload_n dk_24_19 rfl rfl ?_
      refine zj_bipush dk_24_20 (by decide) ?_
      refine zi_invV dk_24_22 ml_5_43 iv_26 (ct_26 (d := d - 1) (by omega) h1 h2 hl hf (by omega)) (by first | assumption | exact zz_up_eq _ _ _ | omega | exact Ne.symm (by assumption) | (refine (zz_up_ne ?_).trans ?_ <;> first | assumption | exact zz_up_eq _ _ _ | omega | exact Ne.symm (by assumption) | (refine (zz_up_ne ?_).trans ?_ <;> first | assumption | exact zz_up_eq _ _ _ | omega | exact Ne.symm (by assumption) | (refine (zz_up_ne ?_).trans ?_ <;> first | assumption | exact zz_up_eq _ _ _ | omega | exact Ne.symm (by assumption))))) rfl rfl rfl (Nat.le_of_ble_eq_true rfl) (by omega) rfl rfl (fun r n' h' hq => ?_)
      obtain ⟨rfl, rfl, rfl⟩ := hq
      rw [hfe, hbh]
      refine zj_if_ne (t := 37) dk_24_25 rfl (by omega) (fun c25 => ?_) (fun c25 => ?_)
      · skip
        refine zj_iconst dk_24_37 ?_
        refine zj_zreturn dk_24_38 rfl (by omega) ⟨by unfold sp_pat; rw [bz_ne0.mp c25]; simp [bz], rfl, rfl⟩
      · skip
        refine zi_aload_n dk_24_28 rfl rfl ?_
        refine zj_bipush dk_24_29 (by decide) ?_
        refine zi_invV dk_24_31 ml_5_43 iv_26 (ct_26 (d := d - 1) (by omega) h1 h2 hl hf (by omega)) (by first | assumption | exact zz_up_eq _ _ _ | omega | exact Ne.symm (by assumption) | (refine (zz_up_ne ?_).trans ?_ <;> first | assumption | exact zz_up_eq _ _ _ | omega | exact Ne.symm (by assumption) | (refine (zz_up_ne ?_).trans ?_ <;> first | assumption | exact zz_up_eq _ _ _ | omega | exact Ne.symm (by assumption) | (refine (zz_up_ne ?_).trans ?_ <;> first | assumption | exact zz_up_eq _ _ _ | omega | exact Ne.symm (by assumption))))) rfl rfl rfl (Nat.le_of_ble_eq_true rfl) (by omega) rfl rfl (fun r n' h' hq => ?_)
        obtain ⟨rfl, rfl, rfl⟩ := hq
        rw [hfe, hbh]
        refine zj_if_eq (t := 39) dk_24_34 rfl (by omega) (fun c34 => ?_) (fun c34 => ?_)
        · skip
          refine zi_aload_n dk_24_39 rfl rfl ?_
          refine zi_getf dk_24_40 fl_5_23 (by first | assumption | exact zz_up_eq _ _ _ | omega | exact Ne.symm (by assumption) | (refine (zz_up_ne ?_).trans ?_ <;> first | assumption | exact zz_up_eq _ _ _ | omega | exact Ne.symm (by assumption) | (refine (zz_up_ne ?_).trans ?_ <;> first | assumption | exact zz_up_eq _ _ _ | omega | exact Ne.symm (by assumption) | (refine (zz_up_ne ?_).trans ?_ <;> first | assumption | exact zz_up_eq _ _ _ | omega | exact Ne.symm (by assumption))))) rfl ?_
          refine zj_iconst dk_24_43 ?_
          refine zj_icmp_ne (t := 49) dk_24_44 rfl (by omega) (fun c44 => ?_) (fun c44 => ?_)
          · skip
            refine zj_iconst dk_24_49 ?_
            refine zj_istore_n dk_24_50 rfl ?_
            refine zj_iconst dk_24_51 ?_
            refine zj_istore_n dk_24_52 rfl ?_
            refine lp_24 (by omega) h1 h2 hl hf (len - 1).toNat 1 1 41 (by omega) (by omega) (by omega) (by omega) (fun x hx1 hx2 => by omega) ⟨?_, rfl, rfl⟩
            unfold sp_pat
            rw [decide_eq_true (h00.mp c7), bz_eq0.mp c16, bz_eq0.mp c25, bz_eq0.mp c34, decide_eq_false c44]
            rfl
          · skip
            refine zj_iconst dk_24_47 ?_
            refine zj_zreturn dk_24_48 rfl (by omega) ⟨by unfold sp_pat; rw [decide_eq_true (h00.mp c7), bz_eq0.mp c16, bz_eq0.mp c25, bz_eq0.mp c34, decide_eq_true c44]; rfl, rfl, rfl⟩
        · skip
          refine zj_iconst dk_24_37 ?_
          refine zj_zreturn dk_24_38 rfl (by omega) ⟨by unfold sp_pat; rw [bz_ne0.mp c34]; simp [bz], rfl, rfl⟩

