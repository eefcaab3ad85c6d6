/-! constructors; Roles -/
theorem ct_4 {X : zz_X} {d n : Nat} {h : zz_H} (hd : 1 ≤ d) {p : Nat} (hn : n = p + 1) (h1 : h p = some (.inr (2, [.null, .null, .null, zv 0, zv 0, zv 0]))) : zz_Ct X mm_4 d 3 80 [.ref p] n h (zp none (p + 4) (pc_H p (fun _ => 0) (fun _ => 0) (fun _ => 0) 0 0 0 h)) := by
  refine zz_start (by decide) (ls := [some (.ref p)]) rfl ?_
  subst hn
  refine zi_aload_n dk_4_0 rfl rfl ?_
  refine zi_objI dk_4_1 zw_58 zo_i zo_c (Nat.le_of_ble_eq_true rfl) (by omega) ?_
  refine zi_aload_n dk_4_4 rfl rfl ?_
  refine zj_bipush dk_4_5 (by decide) ?_
  refine zj_newc (N := 40) dk_4_7 zw_ac_char rfl (by decide) rfl rfl ?_
  refine zj_putR dk_4_9 fp_4_9 (by first | assumption | exact zz_up_eq _ _ _ | omega | exact Ne.symm (by assumption) | (refine (zz_up_ne ?_).trans ?_ <;> first | assumption | exact zz_up_eq _ _ _ | omega | exact Ne.symm (by assumption) | (refine (zz_up_ne ?_).trans ?_ <;> first | assumption | exact zz_up_eq _ _ _ | omega | exact Ne.symm (by assumption) | (refine (zz_up_ne ?_).trans ?_ <;> first | assumption | exact zz_up_eq _ _ _ | omega | exact Ne.symm (by assumption))))) rfl ?_
  refine zi_aload_n dk_4_12 rfl rfl ?_
  refine zj_bipush dk_4_13 (by decide) ?_
  refine zj_newi (N := 20) dk_4_15 zw_ac_int rfl (by decide) rfl rfl ?_
  refine zj_putR dk_4_17 fp_4_15 (by first | assumption | exact zz_up_eq _ _ _ | omega | exact Ne.symm (by assumption) | (refine (zz_up_ne ?_).trans ?_ <;> first | assumption | exact zz_up_eq _ _ _ | omega | exact Ne.symm (by assumption) | (refine (zz_up_ne ?_).trans ?_ <;> first | assumption | exact zz_up_eq _ _ _ | omega | exact Ne.symm (by assumption) | (refine (zz_up_ne ?_).trans ?_ <;> first | assumption | exact zz_up_eq _ _ _ | omega | exact Ne.symm (by assumption))))) rfl ?_
  refine zi_aload_n dk_4_20 rfl rfl ?_
  refine zj_bipush dk_4_21 (by decide) ?_
  refine zj_newi (N := 20) dk_4_23 zw_ac_int rfl (by decide) rfl rfl ?_
  refine zj_putR dk_4_25 fp_4_19 (by first | assumption | exact zz_up_eq _ _ _ | omega | exact Ne.symm (by assumption) | (refine (zz_up_ne ?_).trans ?_ <;> first | assumption | exact zz_up_eq _ _ _ | omega | exact Ne.symm (by assumption) | (refine (zz_up_ne ?_).trans ?_ <;> first | assumption | exact zz_up_eq _ _ _ | omega | exact Ne.symm (by assumption) | (refine (zz_up_ne ?_).trans ?_ <;> first | assumption | exact zz_up_eq _ _ _ | omega | exact Ne.symm (by assumption))))) rfl ?_
  refine zi_return dk_4_28 rfl ⟨rfl, rfl, ?_⟩
  funext q
  simp only [pc_H, pc_O, zz_up]
  by_cases k0 : q = p
  · subst k0; first | (simp; done) | (simp [Nat.add_assoc]; done)
  · skip
    by_cases k1 : q = p + 1
    · subst k1; first | (simp; done) | (simp [Nat.add_assoc]; done)
    · skip
      by_cases k2 : q = p + 2
      · subst k2; first | (simp; done) | (simp [Nat.add_assoc]; done)
      · skip
        by_cases k3 : q = p + 3
        · subst k3; first | (simp; done) | (simp [Nat.add_assoc]; done)
        · skip
          simp [k0, k1, k2, k3]

theorem ct_2 {X : zz_X} {d n : Nat} {h : zz_H} (hd : 1 ≤ d) {t : Nat} (hn : n = t + 1) (h1 : h t = some (.inr (1, [.null, zv 0]))) : zz_Ct X mm_2 d 1 40 [.ref t] n h (zp none (t + 2) (zz_up (zz_up h (t + 1) (zA 1 40 (fun _ => 0))) t (.inr (1, [.ref (t + 1), zv 0])))) := by
  refine zz_start (by decide) (ls := [some (.ref t)]) rfl ?_
  subst hn
  refine zi_aload_n dk_2_0 rfl rfl ?_
  refine zi_objI dk_2_1 zw_36 zo_i zo_c (Nat.le_of_ble_eq_true rfl) (by omega) ?_
  refine zi_aload_n dk_2_4 rfl rfl ?_
  refine zj_bipush dk_2_5 (by decide) ?_
  refine zj_newc (N := 40) dk_2_7 zw_ac_char rfl (by decide) rfl rfl ?_
  refine zj_putR dk_2_9 fp_2_9 (by first | assumption | exact zz_up_eq _ _ _ | omega | exact Ne.symm (by assumption) | (refine (zz_up_ne ?_).trans ?_ <;> first | assumption | exact zz_up_eq _ _ _ | omega | exact Ne.symm (by assumption) | (refine (zz_up_ne ?_).trans ?_ <;> first | assumption | exact zz_up_eq _ _ _ | omega | exact Ne.symm (by assumption) | (refine (zz_up_ne ?_).trans ?_ <;> first | assumption | exact zz_up_eq _ _ _ | omega | exact Ne.symm (by assumption))))) rfl ?_
  refine zi_return dk_2_12 rfl ⟨rfl, rfl, rfl⟩

theorem ct_3 {X : zz_X} {d n : Nat} {h : zz_H} (hd : 2 ≤ d) {t : Nat} (hn : n = t + 1) (h1 : h t = some (.inr (3, [.null]))) : zz_Ct X mm_3 d 4 86 [.ref t] n h (zp none (t + 5) (pc_H (t + 1) (fun _ => 0) (fun _ => 0) (fun _ => 0) 0 0 0 (zz_up h t (.inr (3, [.ref (t + 1)]))))) := by
  refine zz_start (by decide) (ls := [some (.ref t)]) rfl ?_
  subst hn
  refine zi_aload_n dk_3_0 rfl rfl ?_
  refine zi_objI dk_3_1 zw_52 zo_i zo_c (Nat.le_of_ble_eq_true rfl) (by omega) ?_
  refine zi_aload_n dk_3_4 rfl rfl ?_
  refine zi_new dk_3_5 nw_3_9 rfl rfl ?_
  refine zi_dup dk_3_8 rfl ?_
  refine zi_invI dk_3_9 ml_3_11 ii_4 (ct_4 (d := d - 1) (by omega) rfl (zz_up_eq _ _ _)) rfl rfl (Nat.le_of_ble_eq_true rfl) (by omega) (kc' := 0) (ks' := 0) rfl rfl (fun r n' h' hq => ?_)
  obtain ⟨rfl, rfl, rfl⟩ := hq
  refine zj_putA dk_3_12 fp_3_12 ((pc_o (by omega)).trans ((zz_up_ne (by omega)).trans h1)) rfl ?_
  refine zi_return dk_3_15 rfl ⟨rfl, rfl, ?_⟩
  funext q
  simp only [pc_H, pc_O, zz_up]
  by_cases k0 : q = t
  · subst k0; first | (simp; done) | (simp [Nat.add_assoc]; done)
  · skip
    by_cases k1 : q = t + 1
    · subst k1; first | (simp; done) | (simp [Nat.add_assoc]; done)
    · skip
      by_cases k2 : q = t + 2
      · subst k2; first | (simp; done) | (simp [Nat.add_assoc]; done)
      · skip
        by_cases k3 : q = t + 3
        · subst k3; first | (simp; done) | (simp [Nat.add_assoc]; done)
        · skip
          by_cases k4 : q = t + 4
          · subst k4; first | (simp; done) | (simp [Nat.add_assoc]; done)
          · skip
            simp [k0, k1, k2, k3, k4]

theorem ct_5 {X : zz_X} {d n : Nat} {h : zz_H} (hd : 1 ≤ d) {t : Nat} (hn : n = t + 1) (h1 : h t = some (.inr (4, [.null, .null]))) : zz_Ct X mm_5 d 2 62 [.ref t] n h (zp none (t + 3) (zz_up (zz_up (zz_up h (t + 1) (zA 2 21 (fun _ => 0))) (t + 2) (zA 2 41 (fun _ => 0))) t (.inr (4, [.ref (t + 1), .ref (t + 2)])))) := by
  refine zz_start (by decide) (ls := [some (.ref t)]) rfl ?_
  subst hn
  refine zi_aload_n dk_5_0 rfl rfl ?_
  refine zi_objI dk_5_1 zw_92 zo_i zo_c (Nat.le_of_ble_eq_true rfl) (by omega) ?_
  refine zi_aload_n dk_5_4 rfl rfl ?_
  refine zj_bipush dk_5_5 (by decide) ?_
  refine zj_newz (N := 21) dk_5_7 zw_ac_boolean rfl (by decide) rfl rfl ?_
  refine zj_putR dk_5_9 fp_5_9 (by first | assumption | exact zz_up_eq _ _ _ | omega | exact Ne.symm (by assumption) | (refine (zz_up_ne ?_).trans ?_ <;> first | assumption | exact zz_up_eq _ _ _ | omega | exact Ne.symm (by assumption) | (refine (zz_up_ne ?_).trans ?_ <;> first | assumption | exact zz_up_eq _ _ _ | omega | exact Ne.symm (by assumption) | (refine (zz_up_ne ?_).trans ?_ <;> first | assumption | exact zz_up_eq _ _ _ | omega | exact Ne.symm (by assumption))))) rfl ?_
  refine zi_aload_n dk_5_12 rfl rfl ?_
  refine zj_bipush dk_5_13 (by decide) ?_
  refine zj_newz (N := 41) dk_5_15 zw_ac_boolean rfl (by decide) rfl rfl ?_
  refine zj_putR dk_5_17 fp_5_15 (by first | assumption | exact zz_up_eq _ _ _ | omega | exact Ne.symm (by assumption) | (refine (zz_up_ne ?_).trans ?_ <;> first | assumption | exact zz_up_eq _ _ _ | omega | exact Ne.symm (by assumption) | (refine (zz_up_ne ?_).trans ?_ <;> first | assumption | exact zz_up_eq _ _ _ | omega | exact Ne.symm (by assumption) | (refine (zz_up_ne ?_).trans ?_ <;> first | assumption | exact zz_up_eq _ _ _ | omega | exact Ne.symm (by assumption))))) rfl ?_
  refine zi_return dk_5_20 rfl ⟨rfl, rfl, ?_⟩
  funext q
  simp only [zz_up]
  by_cases k0 : q = t
  · subst k0; first | (simp; done) | (simp [Nat.add_assoc]; done)
  · skip
    by_cases k1 : q = t + 1
    · subst k1; first | (simp; done) | (simp [Nat.add_assoc]; done)
    · skip
      by_cases k2 : q = t + 2
      · subst k2; first | (simp; done) | (simp [Nat.add_assoc]; done)
      · skip
        simp [k0, k1, k2]

theorem ct_6 {X : zz_X} {d n : Nat} {h : zz_H} (hd : 1 ≤ d) {t : Nat} (hn : n = t + 1) (h1 : h t = some (.inr (7, [.null, .null, .null, .null, zv 0]))) : zz_Ct X mm_6 d 4 64 [.ref t] n h (zp none (t + 5) (zz_up (zz_up (zz_up (zz_up (zz_up h (t + 1) (zA 0 16 (fun _ => 0))) (t + 2) (zA 0 16 (fun _ => 0))) (t + 3) (zA 0 16 (fun _ => 0))) (t + 4) (zA 0 16 (fun _ => 0))) t (.inr (7, [.ref (t + 1), .ref (t + 2), .ref (t + 3), .ref (t + 4), zv 0])))) := by
  refine zz_start (by decide) (ls := [some (.ref t)]) rfl ?_
  subst hn
  refine zi_aload_n dk_6_0 rfl rfl ?_
  refine zi_objI dk_6_1 zw_106 zo_i zo_c (Nat.le_of_ble_eq_true rfl) (by omega) ?_
  refine zi_aload_n dk_6_4 rfl rfl ?_
  refine zj_bipush dk_6_5 (by decide) ?_
  refine zj_newi (N := 16) dk_6_7 zw_ac_int rfl (by decide) rfl rfl ?_
  refine zj_putR dk_6_9 fp_6_9 (by first | assumption | exact zz_up_eq _ _ _ | omega | exact Ne.symm (by assumption) | (refine (zz_up_ne ?_).trans ?_ <;> first | assumption | exact zz_up_eq _ _ _ | omega | exact Ne.symm (by assumption) | (refine (zz_up_ne ?_).trans ?_ <;> first | assumption | exact zz_up_eq _ _ _ | omega | exact Ne.symm (by assumption) | (refine (zz_up_ne ?_).trans ?_ <;> first | assumption | exact zz_up_eq _ _ _ | omega | exact Ne.symm (by assumption))))) rfl ?_
  refine zi_aload_n dk_6_12 rfl rfl ?_
  refine zj_bipush dk_6_13 (by decide) ?_
  refine zj_newi (N := 16) dk_6_15 zw_ac_int rfl (by decide) rfl rfl ?_
  refine zj_putR dk_6_17 fp_6_15 (by first | assumption | exact zz_up_eq _ _ _ | omega | exact Ne.symm (by assumption) | (refine (zz_up_ne ?_).trans ?_ <;> first | assumption | exact zz_up_eq _ _ _ | omega | exact Ne.symm (by assumption) | (refine (zz_up_ne ?_).trans ?_ <;> first | assumption | exact zz_up_eq _ _ _ | omega | exact Ne.symm (by assumption) | (refine (zz_up_ne ?_).trans ?_ <;> first | assumption | exact zz_up_eq _ _ _ | omega | exact Ne.symm (by assumption))))) rfl ?_
  refine zi_aload_n dk_6_20 rfl rfl ?_
  refine zj_bipush dk_6_21 (by decide) ?_
  refine zj_newi (N := 16) dk_6_23 zw_ac_int rfl (by decide) rfl rfl ?_
  refine zj_putR dk_6_25 fp_6_18 (by first | assumption | exact zz_up_eq _ _ _ | omega | exact Ne.symm (by assumption) | (refine (zz_up_ne ?_).trans ?_ <;> first | assumption | exact zz_up_eq _ _ _ | omega | exact Ne.symm (by assumption) | (refine (zz_up_ne ?_).trans ?_ <;> first | assumption | exact zz_up_eq _ _ _ | omega | exact Ne.symm (by assumption) | (refine (zz_up_ne ?_).trans ?_ <;> first | assumption | exact zz_up_eq _ _ _ | omega | exact Ne.symm (by assumption))))) rfl ?_
  refine zi_aload_n dk_6_28 rfl rfl ?_
  refine zj_bipush dk_6_29 (by decide) ?_
  refine zj_newi (N := 16) dk_6_31 zw_ac_int rfl (by decide) rfl rfl ?_
  refine zj_putR dk_6_33 fp_6_21 (by first | assumption | exact zz_up_eq _ _ _ | omega | exact Ne.symm (by assumption) | (refine (zz_up_ne ?_).trans ?_ <;> first | assumption | exact zz_up_eq _ _ _ | omega | exact Ne.symm (by assumption) | (refine (zz_up_ne ?_).trans ?_ <;> first | assumption | exact zz_up_eq _ _ _ | omega | exact Ne.symm (by assumption) | (refine (zz_up_ne ?_).trans ?_ <;> first | assumption | exact zz_up_eq _ _ _ | omega | exact Ne.symm (by assumption))))) rfl ?_
  refine zi_return dk_6_36 rfl ⟨rfl, rfl, ?_⟩
  funext q
  simp only [zz_up]
  by_cases k0 : q = t
  · subst k0; first | (simp; done) | (simp [Nat.add_assoc]; done)
  · skip
    by_cases k1 : q = t + 1
    · subst k1; first | (simp; done) | (simp [Nat.add_assoc]; done)
    · skip
      by_cases k2 : q = t + 2
      · subst k2; first | (simp; done) | (simp [Nat.add_assoc]; done)
      · skip
        by_cases k3 : q = t + 3
        · subst k3; first | (simp; done) | (simp [Nat.add_assoc]; done)
        · skip
          by_cases k4 : q = t + 4
          · subst k4; first | (simp; done) | (simp [Nat.add_assoc]; done)
          · skip
            simp [k0, k1, k2, k3, k4]

theorem ct_11 {X : zz_X} {d n : Nat} {h : zz_H} (hd : 4 ≤ d) {t : Nat} (hn : n = t + 1) (h1 : h t = some (.inr (10, [.null]))) : zz_Ct X mm_11 d 1 3 [.ref t] n h (zp none (t + 2) (zz_up (zz_up h (t + 1) (.inr (12, [.ref (zz_e X), zv 0, zv 0]))) t (.inr (10, [.ref (t + 1)])))) := by
  refine zz_start (by decide) (ls := [some (.ref t)]) rfl ?_
  subst hn
  refine zi_aload_n dk_11_0 rfl rfl ?_
  refine zi_objI dk_11_1 zw_164 zo_i zo_c (Nat.le_of_ble_eq_true rfl) (by omega) ?_
  refine zi_aload_n dk_11_4 rfl rfl ?_
  refine zi_new dk_11_5 nw_10_7 rfl rfl ?_
  refine zi_dup dk_11_8 rfl ?_
  refine zi_invI dk_11_9 ml_10_9 ii_8 (ct_8 (d := d - 1) (by omega) (zz_up_eq _ _ _)) rfl rfl (Nat.le_of_ble_eq_true rfl) (by omega) rfl rfl (fun r n' h' hq => ?_)
  obtain ⟨rfl, rfl, rfl⟩ := hq
  rw [zz_up_up]
  refine zj_putA dk_11_12 fp_11_10 (by first | assumption | exact zz_up_eq _ _ _ | omega | exact Ne.symm (by assumption) | (refine (zz_up_ne ?_).trans ?_ <;> first | assumption | exact zz_up_eq _ _ _ | omega | exact Ne.symm (by assumption) | (refine (zz_up_ne ?_).trans ?_ <;> first | assumption | exact zz_up_eq _ _ _ | omega | exact Ne.symm (by assumption) | (refine (zz_up_ne ?_).trans ?_ <;> first | assumption | exact zz_up_eq _ _ _ | omega | exact Ne.symm (by assumption))))) rfl ?_
  refine zi_return dk_11_15 rfl ⟨rfl, rfl, rfl⟩

def zb_bit (s r : Int) : Bool := decide (zb_and (zb_shr s r) 1 = 1)
theorem zb_and_rg (a b : Int) : -2147483648 ≤ zb_and a b ∧ zb_and a b < 2147483648 := zn_rg _
theorem zb_or_rg (a b : Int) : -2147483648 ≤ zb_or a b ∧ zb_or a b < 2147483648 := zn_rg _
theorem zb_or_self {a : Int} (ha : -2147483648 ≤ a ∧ a < 2147483648) : zb_or a a = a := by
  unfold zb_or
  rw [Int32.or_self, zn_to ha]
theorem bz_dec (p : Prop) [Decidable p] : bz (decide p) = if p then 1 else 0 := by
  by_cases hp : p
  · rw [decide_eq_true hp, if_pos hp]; rfl
  · rw [decide_eq_false hp, if_neg hp]; rfl
theorem ct_45 {X : zz_X} {d n : Nat} {h : zz_H} {s r : Int} : zz_Ct X mm_45 d 0 0 [zv s, zv r] n h (zp (some (zv (bz (zb_bit s r)))) n h) := by
  refine zz_start (by decide) (ls := [some (zv s), some (zv r)]) rfl ?_
  have q1 := zb_and_rg (zb_shr s r) 1
  refine zj_iload_n dk_45_0 rfl ?_
  refine zj_iload_n dk_45_1 rfl ?_
  refine zj_ishr dk_45_2 ?_
  refine zj_iconst dk_45_3 ?_
  refine zj_iand dk_45_4 ?_
  refine zj_iconst dk_45_5 ?_
  refine zj_icmp_ne (t := 13) dk_45_6 rfl (by omega) (fun c6 => ?_) (fun c6 => ?_)
  · skip
    refine zj_iconst dk_45_13 ?_
    refine zj_zreturn dk_45_14 rfl (by omega) ⟨by unfold zb_bit; rw [bz_dec]; first | rw [if_pos (by omega)] | rw [if_neg (by omega)], rfl, rfl⟩
  · skip
    refine zj_iconst dk_45_9 ?_
    refine zi_goto (t := 14) dk_45_10 rfl ?_
    refine zj_zreturn dk_45_14 rfl (by omega) ⟨by unfold zb_bit; rw [bz_dec]; first | rw [if_pos (by omega)] | rw [if_neg (by omega)], rfl, rfl⟩

theorem ct_98 {X : zz_X} {d n : Nat} {h : zz_H} {a : Nat} {v : Value} {ex ms m : Int} (h1 : h a = some (.inr (5, [v, zv ex, zv ms]))) : zz_Ct X mm_98 d 0 0 [.ref a, zv m] n h (zp (some (zv (bz (zb_bit ms m)))) n h) := by
  refine zz_start (by decide) (ls := [some (.ref a), some (zv m)]) rfl ?_
  have q1 := zb_and_rg (zb_shr ms m) 1
  refine zi_aload_n dk_98_0 rfl rfl ?_
  refine zi_getf dk_98_1 fl_5_20 (by first | assumption | exact zz_up_eq _ _ _ | omega | exact Ne.symm (by assumption) | (refine (zz_up_ne ?_).trans ?_ <;> first | assumption | exact zz_up_eq _ _ _ | omega | exact Ne.symm (by assumption) | (refine (zz_up_ne ?_).trans ?_ <;> first | assumption | exact zz_up_eq _ _ _ | omega | exact Ne.symm (by assumption) | (refine (zz_up_ne ?_).trans ?_ <;> first | assumption | exact zz_up_eq _ _ _ | omega | exact Ne.symm (by assumption))))) rfl ?_
  refine zj_iload_n dk_98_4 rfl ?_
  refine zj_ishr dk_98_5 ?_
  refine zj_iconst dk_98_6 ?_
  refine zj_iand dk_98_7 ?_
  refine zj_iconst dk_98_8 ?_
  refine zj_icmp_ne (t := 16) dk_98_9 rfl (by omega) (fun c9 => ?_) (fun c9 => ?_)
  · skip
    refine zj_iconst dk_98_16 ?_
    refine zj_zreturn dk_98_17 rfl (by omega) ⟨by unfold zb_bit; rw [bz_dec]; first | rw [if_pos (by omega)] | rw [if_neg (by omega)], rfl, rfl⟩
  · skip
    refine zj_iconst dk_98_12 ?_
    refine zi_goto (t := 17) dk_98_13 rfl ?_
    refine zj_zreturn dk_98_17 rfl (by omega) ⟨by unfold zb_bit; rw [bz_dec]; first | rw [if_pos (by omega)] | rw [if_neg (by omega)], rfl, rfl⟩

theorem ct_20 {X : zz_X} {d n : Nat} {h : zz_H} {r : Int} (hr : -2147483648 ≤ r ∧ r < 2147483648) : zz_Ct X mm_20 d 0 0 [zv r] n h (zp (some (zv (if 0 ≤ r ∧ r < 8 then 1 else 0))) n h) := by
  refine zz_start (by decide) (ls := [some (zv r)]) rfl ?_
  refine zj_iload_n dk_20_0 rfl ?_
  refine zj_if_lt (t := 14) dk_20_1 rfl (by omega) (fun c1 => ?_) (fun c1 => ?_)
  · skip
    refine zj_iconst dk_20_14 ?_
    refine zj_zreturn dk_20_15 rfl (by omega) ⟨by first | rw [if_pos (by omega)] | rw [if_neg (by omega)], rfl, rfl⟩
  · skip
    refine zj_iload_n dk_20_4 rfl ?_
    refine zj_bipush dk_20_5 (by decide) ?_
    refine zj_icmp_ge (t := 14) dk_20_7 rfl (by omega) (fun c7 => ?_) (fun c7 => ?_)
    · skip
      refine zj_iconst dk_20_14 ?_
      refine zj_zreturn dk_20_15 rfl (by omega) ⟨by first | rw [if_pos (by omega)] | rw [if_neg (by omega)], rfl, rfl⟩
    · skip
      refine zj_iconst dk_20_10 ?_
      refine zi_goto (t := 15) dk_20_11 rfl ?_
      refine zj_zreturn dk_20_15 rfl (by omega) ⟨by first | rw [if_pos (by omega)] | rw [if_neg (by omega)], rfl, rfl⟩

