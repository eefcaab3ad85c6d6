/-! User, Ticket, Service -/
theorem zb_xor_rg (a b : Int) : -2147483648 ≤ zb_xor a b ∧ zb_xor a b < 2147483648 := zn_rg _
def hs_run (pw : Int) : Nat → Int → Int
  | 0, x => x
  | k + 1, x => hs_run pw k (zb_xor (31 * x + pw) (zb_ushr x 9))
def hs_of (pw sch salt : Int) : Int := hs_run pw (if sch = 0 then 4 else 9) salt
theorem hs_run_rg (pw : Int) : ∀ (k : Nat) (x : Int), (-2147483648 ≤ x ∧ x < 2147483648) → -2147483648 ≤ hs_run pw k x ∧ hs_run pw k x < 2147483648
  | 0, _, h => h
  | k + 1, x, h => hs_run_rg pw k _ (zb_xor_rg _ _)
theorem hs_of_rg (pw sch salt : Int) (h : -2147483648 ≤ salt ∧ salt < 2147483648) : -2147483648 ≤ hs_of pw sch salt ∧ hs_of pw sch salt < 2147483648 := hs_run_rg _ _ _ h
theorem lp_49 {X : zz_X} {d n : Nat} {h : zz_H} {pw sch salt N : Int} (hN : 0 ≤ N ∧ N ≤ 9) {Q : Option Value → Nat → zz_H → Prop} : ∀ (k : Nat) (i x : Int), i + k = N → 0 ≤ i → Q (some (zv (hs_run pw k x))) n h →
    zz_Z X mm_49 d Q 0 0 17 [some (zv pw), some (zv sch), some (zv salt), some (zv N), some (zv x), some (zv i)] [] n h := by
  intro k
  induction k with
  | zero =>
    intro i x hk hi hQ
    refine zj_iload dk_49_17 rfl ?_
    refine zj_iload_n dk_49_19 rfl ?_
    refine zj_icmp_ge (t := 44) dk_49_20 rfl (by omega) (fun c20 => ?_) (fun c20 => ?_)
    · skip
      refine zj_iload dk_49_44 rfl ?_
      refine zj_ireturn dk_49_46 rfl hQ
    · omega
  | succ k ih =>
    intro i x hk hi hQ
    refine zj_iload dk_49_17 rfl ?_
    refine zj_iload_n dk_49_19 rfl ?_
    refine zj_icmp_ge (t := 44) dk_49_20 rfl (by omega) (fun c20 => ?_) (fun c20 => ?_)
    · omega
    · skip
      refine zj_bipush dk_49_23 (by decide) ?_
      refine zj_iload dk_49_25 rfl ?_
      refine zj_imul dk_49_27 ?_
      refine zj_iload_n dk_49_28 rfl ?_
      refine zj_iadd dk_49_29 ?_
      refine zj_iload dk_49_30 rfl ?_
      refine zj_bipush dk_49_32 (by decide) ?_
      refine zj_iushr dk_49_34 ?_
      refine zj_ixor dk_49_35 ?_
      refine zj_istore dk_49_36 rfl ?_
      refine zj_iinc dk_49_38 rfl rfl ?_
      refine zi_goto (t := 17) dk_49_41 rfl ?_
      exact ih (i + 1) _ (by omega) (by omega) hQ

theorem ct_49 {X : zz_X} {d n : Nat} {h : zz_H} {pw sch salt : Int} (hs : -2147483648 ≤ sch ∧ sch < 2147483648) : zz_Ct X mm_49 d 0 0 [zv pw, zv sch, zv salt] n h (zp (some (zv (hs_of pw sch salt))) n h) := by
  refine zz_start (by decide) (ls := [some (zv pw), some (zv sch), some (zv salt), none, none, none]) rfl ?_
  refine zj_iload_n dk_49_0 rfl ?_
  refine zj_if_ne (t := 8) dk_49_1 rfl (by omega) (fun c1 => ?_) (fun c1 => ?_)
  · skip
    refine zj_bipush dk_49_8 (by decide) ?_
    refine zj_istore_n dk_49_10 rfl ?_
    refine zj_iload_n dk_49_11 rfl ?_
    refine zj_istore dk_49_12 rfl ?_
    refine zj_iconst dk_49_14 ?_
    refine zj_istore dk_49_15 rfl ?_
    exact lp_49 (by omega) 9 0 salt (by omega) (by omega) ⟨by unfold hs_of; rw [if_neg c1], rfl, rfl⟩
  · skip
    refine zj_iconst dk_49_4 ?_
    refine zi_goto (t := 10) dk_49_5 rfl ?_
    refine zj_istore_n dk_49_10 rfl ?_
    refine zj_iload_n dk_49_11 rfl ?_
    refine zj_istore dk_49_12 rfl ?_
    refine zj_iconst dk_49_14 ?_
    refine zj_istore dk_49_15 rfl ?_
    exact lp_49 (by omega) 4 0 salt (by omega) (by omega) ⟨by unfold hs_of; rw [if_pos c1], rfl, rfl⟩

theorem ct_48 {X : zz_X} {d n : Nat} {h : zz_H} (hd : 1 ≤ d) {u : Nat} {pw gv sc sa : Int} (h1 : h u = some (.inr (8, [zv 0, zv 0, zv 0, zv 0, zv 0, zv 0]))) (hs : -2147483648 ≤ sc ∧ sc < 2147483648) : zz_Ct X mm_48 d 0 0 [.ref u, zv pw, zv gv, zv sc, zv sa] n h (zp none n (zz_up h u (.inr (8, [zv gv, zv sc, zv sa, zv (hs_of pw sc sa), zv 0, zv 0])))) := by
  refine zz_start (by decide) (ls := [some (.ref u), some (zv pw), some (zv gv), some (zv sc), some (zv sa)]) rfl ?_
  refine zi_aload_n dk_48_0 rfl rfl ?_
  refine zi_objI dk_48_1 zw_413 zo_i zo_c (Nat.le_of_ble_eq_true rfl) (by omega) ?_
  refine zi_aload_n dk_48_4 rfl rfl ?_
  refine zj_iload_n dk_48_5 rfl ?_
  refine zj_putI dk_48_6 fp_48_7 (by first | assumption | exact zz_up_eq _ _ _ | omega | exact Ne.symm (by assumption) | (refine (zz_up_ne ?_).trans ?_ <;> first | assumption | exact zz_up_eq _ _ _ | omega | exact Ne.symm (by assumption) | (refine (zz_up_ne ?_).trans ?_ <;> first | assumption | exact zz_up_eq _ _ _ | omega | exact Ne.symm (by assumption) | (refine (zz_up_ne ?_).trans ?_ <;> first | assumption | exact zz_up_eq _ _ _ | omega | exact Ne.symm (by assumption))))) rfl ?_
  refine zi_aload_n dk_48_9 rfl rfl ?_
  refine zj_iload_n dk_48_10 rfl ?_
  refine zj_putI dk_48_11 fp_48_13 (by first | assumption | exact zz_up_eq _ _ _ | omega | exact Ne.symm (by assumption) | (refine (zz_up_ne ?_).trans ?_ <;> first | assumption | exact zz_up_eq _ _ _ | omega | exact Ne.symm (by assumption) | (refine (zz_up_ne ?_).trans ?_ <;> first | assumption | exact zz_up_eq _ _ _ | omega | exact Ne.symm (by assumption) | (refine (zz_up_ne ?_).trans ?_ <;> first | assumption | exact zz_up_eq _ _ _ | omega | exact Ne.symm (by assumption))))) rfl ?_
  refine zi_aload_n dk_48_14 rfl rfl ?_
  refine zj_iload dk_48_15 rfl ?_
  refine zj_putI dk_48_17 fp_48_16 (by first | assumption | exact zz_up_eq _ _ _ | omega | exact Ne.symm (by assumption) | (refine (zz_up_ne ?_).trans ?_ <;> first | assumption | exact zz_up_eq _ _ _ | omega | exact Ne.symm (by assumption) | (refine (zz_up_ne ?_).trans ?_ <;> first | assumption | exact zz_up_eq _ _ _ | omega | exact Ne.symm (by assumption) | (refine (zz_up_ne ?_).trans ?_ <;> first | assumption | exact zz_up_eq _ _ _ | omega | exact Ne.symm (by assumption))))) rfl ?_
  refine zi_aload_n dk_48_20 rfl rfl ?_
  refine zj_iload_n dk_48_21 rfl ?_
  refine zj_iload_n dk_48_22 rfl ?_
  refine zj_iload dk_48_23 rfl ?_
  refine zi_invS dk_48_25 ml_8_19 is_49 (ct_49 (d := d - 1) hs) rfl rfl (Nat.le_of_ble_eq_true rfl) (by omega) rfl rfl (fun r n' h' hq => ?_)
  obtain ⟨rfl, rfl, rfl⟩ := hq
  refine zj_putI dk_48_28 fp_48_23 (by first | assumption | exact zz_up_eq _ _ _ | omega | exact Ne.symm (by assumption) | (refine (zz_up_ne ?_).trans ?_ <;> first | assumption | exact zz_up_eq _ _ _ | omega | exact Ne.symm (by assumption) | (refine (zz_up_ne ?_).trans ?_ <;> first | assumption | exact zz_up_eq _ _ _ | omega | exact Ne.symm (by assumption) | (refine (zz_up_ne ?_).trans ?_ <;> first | assumption | exact zz_up_eq _ _ _ | omega | exact Ne.symm (by assumption))))) rfl ?_
  refine zi_return dk_48_31 rfl ⟨rfl, rfl, by rw [zz_up_up, zz_up_up, zz_up_up]⟩

theorem ct_69 {X : zz_X} {d n : Nat} {h : zz_H} {u : Nat} {gv sc sa hs wt lk : Int} (h1 : h u = some (.inr (8, [zv gv, zv sc, zv sa, zv hs, zv wt, zv lk]))) {t : Int} (ht : (-2147483648 ≤ t ∧ t < 2147483648) ∧ -2147483648 ≤ lk ∧ lk < 2147483648) : zz_Ct X mm_69 d 0 0 [.ref u, zv t] n h (zp (some (zv (if t < lk then 1 else 0))) n h) := by
  refine zz_start (by decide) (ls := [some (.ref u), some (zv t)]) rfl ?_
  refine zj_iload_n dk_69_0 rfl ?_
  refine zi_aload_n dk_69_1 rfl rfl ?_
  refine zi_getf dk_69_2 fl_8_26 (by first | assumption | exact zz_up_eq _ _ _ | omega | exact Ne.symm (by assumption) | (refine (zz_up_ne ?_).trans ?_ <;> first | assumption | exact zz_up_eq _ _ _ | omega | exact Ne.symm (by assumption) | (refine (zz_up_ne ?_).trans ?_ <;> first | assumption | exact zz_up_eq _ _ _ | omega | exact Ne.symm (by assumption) | (refine (zz_up_ne ?_).trans ?_ <;> first | assumption | exact zz_up_eq _ _ _ | omega | exact Ne.symm (by assumption))))) rfl ?_
  refine zj_icmp_ge (t := 12) dk_69_5 rfl (by omega) (fun c5 => ?_) (fun c5 => ?_)
  · skip
    refine zj_iconst dk_69_12 ?_
    refine zj_zreturn dk_69_13 rfl (by omega) ⟨by first | rw [if_pos (by omega)] | rw [if_neg (by omega)], rfl, rfl⟩
  · skip
    refine zj_iconst dk_69_8 ?_
    refine zi_goto (t := 13) dk_69_9 rfl ?_
    refine zj_zreturn dk_69_13 rfl (by omega) ⟨by first | rw [if_pos (by omega)] | rw [if_neg (by omega)], rfl, rfl⟩

theorem ct_70 {X : zz_X} {d n : Nat} {h : zz_H} (hd : 1 ≤ d) {u : Nat} {gv sc sa hs wt lk : Int} (h1 : h u = some (.inr (8, [zv gv, zv sc, zv sa, zv hs, zv wt, zv lk]))) {pw : Int} (ht : (-2147483648 ≤ sc ∧ sc < 2147483648) ∧ (-2147483648 ≤ sa ∧ sa < 2147483648) ∧ -2147483648 ≤ hs ∧ hs < 2147483648) : zz_Ct X mm_70 d 0 0 [.ref u, zv pw] n h (zp (some (zv (if hs_of pw sc sa = hs then 1 else 0))) n h) := by
  refine zz_start (by decide) (ls := [some (.ref u), some (zv pw)]) rfl ?_
  have q1 := hs_of_rg pw sc sa ht.2.1
  refine zj_iload_n dk_70_0 rfl ?_
  refine zi_aload_n dk_70_1 rfl rfl ?_
  refine zi_getf dk_70_2 fl_8_13 (by first | assumption | exact zz_up_eq _ _ _ | omega | exact Ne.symm (by assumption) | (refine (zz_up_ne ?_).trans ?_ <;> first | assumption | exact zz_up_eq _ _ _ | omega | exact Ne.symm (by assumption) | (refine (zz_up_ne ?_).trans ?_ <;> first | assumption | exact zz_up_eq _ _ _ | omega | exact Ne.symm (by assumption) | (refine (zz_up_ne ?_).trans ?_ <;> first | assumption | exact zz_up_eq _ _ _ | omega | exact Ne.symm (by assumption))))) rfl ?_
  refine zi_aload_n dk_70_5 rfl rfl ?_
  refine zi_getf dk_70_6 fl_8_16 (by first | assumption | exact zz_up_eq _ _ _ | omega | exact Ne.symm (by assumption) | (refine (zz_up_ne ?_).trans ?_ <;> first | assumption | exact zz_up_eq _ _ _ | omega | exact Ne.symm (by assumption) | (refine (zz_up_ne ?_).trans ?_ <;> first | assumption | exact zz_up_eq _ _ _ | omega | exact Ne.symm (by assumption) | (refine (zz_up_ne ?_).trans ?_ <;> first | assumption | exact zz_up_eq _ _ _ | omega | exact Ne.symm (by assumption))))) rfl ?_
  refine zi_invS dk_70_9 ml_8_19 is_49 (ct_49 (d := d - 1) ht.1) rfl rfl (Nat.le_of_ble_eq_true rfl) (by omega) rfl rfl (fun r n' h' hq => ?_)
  obtain ⟨rfl, rfl, rfl⟩ := hq
  refine zi_aload_n dk_70_12 rfl rfl ?_
  refine zi_getf dk_70_13 fl_8_23 (by first | assumption | exact zz_up_eq _ _ _ | omega | exact Ne.symm (by assumption) | (refine (zz_up_ne ?_).trans ?_ <;> first | assumption | exact zz_up_eq _ _ _ | omega | exact Ne.symm (by assumption) | (refine (zz_up_ne ?_).trans ?_ <;> first | assumption | exact zz_up_eq _ _ _ | omega | exact Ne.symm (by assumption) | (refine (zz_up_ne ?_).trans ?_ <;> first | assumption | exact zz_up_eq _ _ _ | omega | exact Ne.symm (by assumption))))) rfl ?_
  refine zj_icmp_ne (t := 23) dk_70_16 rfl (by omega) (fun c16 => ?_) (fun c16 => ?_)
  · skip
    refine zj_iconst dk_70_23 ?_
    refine zj_zreturn dk_70_24 rfl (by omega) ⟨by first | rw [if_pos (by omega)] | rw [if_neg (by omega)], rfl, rfl⟩
  · skip
    refine zj_iconst dk_70_19 ?_
    refine zi_goto (t := 24) dk_70_20 rfl ?_
    refine zj_zreturn dk_70_24 rfl (by omega) ⟨by first | rw [if_pos (by omega)] | rw [if_neg (by omega)], rfl, rfl⟩

theorem ct_72 {X : zz_X} {d n : Nat} {h : zz_H} {u : Nat} {gv sc sa hs wt lk : Int} (h1 : h u = some (.inr (8, [zv gv, zv sc, zv sa, zv hs, zv wt, zv lk]))) : zz_Ct X mm_72 d 0 0 [.ref u] n h (zp none n (zz_up h u (.inr (8, [zv gv, zv sc, zv sa, zv hs, zv 0, zv lk])))) := by
  refine zz_start (by decide) (ls := [some (.ref u)]) rfl ?_
  refine zi_aload_n dk_72_0 rfl rfl ?_
  refine zj_iconst dk_72_1 ?_
  refine zj_putI dk_72_2 fp_72_29 (by first | assumption | exact zz_up_eq _ _ _ | omega | exact Ne.symm (by assumption) | (refine (zz_up_ne ?_).trans ?_ <;> first | assumption | exact zz_up_eq _ _ _ | omega | exact Ne.symm (by assumption) | (refine (zz_up_ne ?_).trans ?_ <;> first | assumption | exact zz_up_eq _ _ _ | omega | exact Ne.symm (by assumption) | (refine (zz_up_ne ?_).trans ?_ <;> first | assumption | exact zz_up_eq _ _ _ | omega | exact Ne.symm (by assumption))))) rfl ?_
  refine zi_return dk_72_5 rfl ⟨rfl, rfl, rfl⟩

theorem ct_71 {X : zz_X} {d n : Nat} {h : zz_H} (hd : 1 ≤ d) {u : Nat} {gv sc sa hs wt lk : Int} (h1 : h u = some (.inr (8, [zv gv, zv sc, zv sa, zv hs, zv wt, zv lk]))) {t : Int} (hw : 0 ≤ wt ∧ wt < 3) : zz_Ct X mm_71 d 0 0 [.ref u, zv t] n h (fun r n' h' => n' = n ∧ ((wt < 2 ∧ r = some (zv 0) ∧ h' = (zz_up h u (.inr (8, [zv gv, zv sc, zv sa, zv hs, zv (wt + 1), zv lk])))) ∨ (wt = 2 ∧ r = some (zv 1) ∧ h' = (zz_up h u (.inr (8, [zv gv, zv sc, zv sa, zv hs, zv 0, zv (t + 10)])))))) := by
  refine zz_start (by decide) (ls := [some (.ref u), some (zv t)]) rfl ?_
  refine zi_aload_n dk_71_0 rfl rfl ?_
  refine zi_dup dk_71_1 rfl ?_
  refine zi_getf dk_71_2 fl_8_29 (by first | assumption | exact zz_up_eq _ _ _ | omega | exact Ne.symm (by assumption) | (refine (zz_up_ne ?_).trans ?_ <;> first | assumption | exact zz_up_eq _ _ _ | omega | exact Ne.symm (by assumption) | (refine (zz_up_ne ?_).trans ?_ <;> first | assumption | exact zz_up_eq _ _ _ | omega | exact Ne.symm (by assumption) | (refine (zz_up_ne ?_).trans ?_ <;> first | assumption | exact zz_up_eq _ _ _ | omega | exact Ne.symm (by assumption))))) rfl ?_
  refine zj_iconst dk_71_5 ?_
  refine zj_iadd dk_71_6 ?_
  refine zj_putI dk_71_7 fp_71_29 (by first | assumption | exact zz_up_eq _ _ _ | omega | exact Ne.symm (by assumption) | (refine (zz_up_ne ?_).trans ?_ <;> first | assumption | exact zz_up_eq _ _ _ | omega | exact Ne.symm (by assumption) | (refine (zz_up_ne ?_).trans ?_ <;> first | assumption | exact zz_up_eq _ _ _ | omega | exact Ne.symm (by assumption) | (refine (zz_up_ne ?_).trans ?_ <;> first | assumption | exact zz_up_eq _ _ _ | omega | exact Ne.symm (by assumption))))) rfl ?_
  refine zi_aload_n dk_71_10 rfl rfl ?_
  refine zi_getf dk_71_11 fl_8_29 (by first | assumption | exact zz_up_eq _ _ _ | omega | exact Ne.symm (by assumption) | (refine (zz_up_ne ?_).trans ?_ <;> first | assumption | exact zz_up_eq _ _ _ | omega | exact Ne.symm (by assumption) | (refine (zz_up_ne ?_).trans ?_ <;> first | assumption | exact zz_up_eq _ _ _ | omega | exact Ne.symm (by assumption) | (refine (zz_up_ne ?_).trans ?_ <;> first | assumption | exact zz_up_eq _ _ _ | omega | exact Ne.symm (by assumption))))) rfl ?_
  refine zj_iconst dk_71_14 ?_
  refine zj_icmp_ge (t := 20) dk_71_15 rfl (by omega) (fun c15 => ?_) (fun c15 => ?_)
  · skip
    refine zi_aload_n dk_71_20 rfl rfl ?_
    refine zj_iload_n dk_71_21 rfl ?_
    refine zj_bipush dk_71_22 (by decide) ?_
    refine zj_iadd dk_71_24 ?_
    refine zj_putI dk_71_25 fp_71_26 (by first | assumption | exact zz_up_eq _ _ _ | omega | exact Ne.symm (by assumption) | (refine (zz_up_ne ?_).trans ?_ <;> first | assumption | exact zz_up_eq _ _ _ | omega | exact Ne.symm (by assumption) | (refine (zz_up_ne ?_).trans ?_ <;> first | assumption | exact zz_up_eq _ _ _ | omega | exact Ne.symm (by assumption) | (refine (zz_up_ne ?_).trans ?_ <;> first | assumption | exact zz_up_eq _ _ _ | omega | exact Ne.symm (by assumption))))) rfl ?_
    refine zi_aload_n dk_71_28 rfl rfl ?_
    refine zi_invV dk_71_29 ml_8_32 iv_72 (ct_72 (d := d - 1) (zz_up_eq _ _ _)) (by first | assumption | exact zz_up_eq _ _ _ | omega | exact Ne.symm (by assumption) | (refine (zz_up_ne ?_).trans ?_ <;> first | assumption | exact zz_up_eq _ _ _ | omega | exact Ne.symm (by assumption) | (refine (zz_up_ne ?_).trans ?_ <;> first | assumption | exact zz_up_eq _ _ _ | omega | exact Ne.symm (by assumption) | (refine (zz_up_ne ?_).trans ?_ <;> first | assumption | exact zz_up_eq _ _ _ | omega | exact Ne.symm (by assumption))))) rfl rfl rfl (Nat.le_of_ble_eq_true rfl) (by omega) rfl rfl (fun r n' h' hq => ?_)
    obtain ⟨rfl, rfl, rfl⟩ := hq
    refine zj_iconst dk_71_32 ?_
    refine zj_zreturn dk_71_33 rfl (by omega) ⟨rfl, Or.inr ⟨by omega, rfl, by rw [zz_up_up, zz_up_up]⟩⟩
  · skip
    refine zj_iconst dk_71_18 ?_
    refine zj_zreturn dk_71_19 rfl (by omega) ⟨rfl, Or.inl ⟨by omega, rfl, rfl⟩⟩

theorem ct_73 {X : zz_X} {d n : Nat} {h : zz_H} {u : Nat} {gv sc sa hs wt lk : Int} (h1 : h u = some (.inr (8, [zv gv, zv sc, zv sa, zv hs, zv wt, zv lk]))) (hs : -2147483648 ≤ sc ∧ sc < 2147483648) : zz_Ct X mm_73 d 0 0 [.ref u] n h (zp (some (zv (if sc = 0 then 1 else 0))) n h) := by
  refine zz_start (by decide) (ls := [some (.ref u)]) rfl ?_
  refine zi_aload_n dk_73_0 rfl rfl ?_
  refine zi_getf dk_73_1 fl_8_13 (by first | assumption | exact zz_up_eq _ _ _ | omega | exact Ne.symm (by assumption) | (refine (zz_up_ne ?_).trans ?_ <;> first | assumption | exact zz_up_eq _ _ _ | omega | exact Ne.symm (by assumption) | (refine (zz_up_ne ?_).trans ?_ <;> first | assumption | exact zz_up_eq _ _ _ | omega | exact Ne.symm (by assumption) | (refine (zz_up_ne ?_).trans ?_ <;> first | assumption | exact zz_up_eq _ _ _ | omega | exact Ne.symm (by assumption))))) rfl ?_
  refine zj_if_ne (t := 11) dk_73_4 rfl (by omega) (fun c4 => ?_) (fun c4 => ?_)
  · skip
    refine zj_iconst dk_73_11 ?_
    refine zj_zreturn dk_73_12 rfl (by omega) ⟨by first | rw [if_pos (by omega)] | rw [if_neg (by omega)], rfl, rfl⟩
  · skip
    refine zj_iconst dk_73_7 ?_
    refine zi_goto (t := 12) dk_73_8 rfl ?_
    refine zj_zreturn dk_73_12 rfl (by omega) ⟨by first | rw [if_pos (by omega)] | rw [if_neg (by omega)], rfl, rfl⟩

theorem ct_74 {X : zz_X} {d n : Nat} {h : zz_H} (hd : 1 ≤ d) {u : Nat} {gv sc sa hs wt lk : Int} (h1 : h u = some (.inr (8, [zv gv, zv sc, zv sa, zv hs, zv wt, zv lk]))) {pw ns : Int} : zz_Ct X mm_74 d 0 0 [.ref u, zv pw, zv ns] n h (zp none n (zz_up h u (.inr (8, [zv gv, zv 1, zv ns, zv (hs_of pw 1 ns), zv wt, zv lk])))) := by
  refine zz_start (by decide) (ls := [some (.ref u), some (zv pw), some (zv ns)]) rfl ?_
  refine zi_aload_n dk_74_0 rfl rfl ?_
  refine zj_iconst dk_74_1 ?_
  refine zj_putI dk_74_2 fp_74_13 (by first | assumption | exact zz_up_eq _ _ _ | omega | exact Ne.symm (by assumption) | (refine (zz_up_ne ?_).trans ?_ <;> first | assumption | exact zz_up_eq _ _ _ | omega | exact Ne.symm (by assumption) | (refine (zz_up_ne ?_).trans ?_ <;> first | assumption | exact zz_up_eq _ _ _ | omega | exact Ne.symm (by assumption) | (refine (zz_up_ne ?_).trans ?_ <;> first | assumption | exact zz_up_eq _ _ _ | omega | exact Ne.symm (by assumption))))) rfl ?_
  refine zi_aload_n dk_74_5 rfl rfl ?_
  refine zj_iload_n dk_74_6 rfl ?_
  refine zj_putI dk_74_7 fp_74_16 (by first | assumption | exact zz_up_eq _ _ _ | omega | exact Ne.symm (by assumption) | (refine (zz_up_ne ?_).trans ?_ <;> first | assumption | exact zz_up_eq _ _ _ | omega | exact Ne.symm (by assumption) | (refine (zz_up_ne ?_).trans ?_ <;> first | assumption | exact zz_up_eq _ _ _ | omega | exact Ne.symm (by assumption) | (refine (zz_up_ne ?_).trans ?_ <;> first | assumption | exact zz_up_eq _ _ _ | omega | exact Ne.symm (by assumption))))) rfl ?_
  refine zi_aload_n dk_74_10 rfl rfl ?_
  refine zj_iload_n dk_74_11 rfl ?_
  refine zi_aload_n dk_74_12 rfl rfl ?_
  refine zi_getf dk_74_13 fl_8_13 (by first | assumption | exact zz_up_eq _ _ _ | omega | exact Ne.symm (by assumption) | (refine (zz_up_ne ?_).trans ?_ <;> first | assumption | exact zz_up_eq _ _ _ | omega | exact Ne.symm (by assumption) | (refine (zz_up_ne ?_).trans ?_ <;> first | assumption | exact zz_up_eq _ _ _ | omega | exact Ne.symm (by assumption) | (refine (zz_up_ne ?_).trans ?_ <;> first | assumption | exact zz_up_eq _ _ _ | omega | exact Ne.symm (by assumption))))) rfl ?_
  refine zi_aload_n dk_74_16 rfl rfl ?_
  refine zi_getf dk_74_17 fl_8_16 (by first | assumption | exact zz_up_eq _ _ _ | omega | exact Ne.symm (by assumption) | (refine (zz_up_ne ?_).trans ?_ <;> first | assumption | exact zz_up_eq _ _ _ | omega | exact Ne.symm (by assumption) | (refine (zz_up_ne ?_).trans ?_ <;> first | assumption | exact zz_up_eq _ _ _ | omega | exact Ne.symm (by assumption) | (refine (zz_up_ne ?_).trans ?_ <;> first | assumption | exact zz_up_eq _ _ _ | omega | exact Ne.symm (by assumption))))) rfl ?_
  refine zi_invS dk_74_20 ml_8_19 is_49 (ct_49 (d := d - 1) (by omega)) rfl rfl (Nat.le_of_ble_eq_true rfl) (by omega) rfl rfl (fun r n' h' hq => ?_)
  obtain ⟨rfl, rfl, rfl⟩ := hq
  refine zj_putI dk_74_23 fp_74_23 (by first | assumption | exact zz_up_eq _ _ _ | omega | exact Ne.symm (by assumption) | (refine (zz_up_ne ?_).trans ?_ <;> first | assumption | exact zz_up_eq _ _ _ | omega | exact Ne.symm (by assumption) | (refine (zz_up_ne ?_).trans ?_ <;> first | assumption | exact zz_up_eq _ _ _ | omega | exact Ne.symm (by assumption) | (refine (zz_up_ne ?_).trans ?_ <;> first | assumption | exact zz_up_eq _ _ _ | omega | exact Ne.symm (by assumption))))) rfl ?_
  refine zi_return dk_74_26 rfl ⟨rfl, rfl, by rw [zz_up_up, zz_up_up]⟩

theorem ct_77 {X : zz_X} {d n : Nat} {h : zz_H} (hd : 1 ≤ d) {k : Nat} {us id tk re t : Int} (h1 : h k = some (.inr (9, [zv 0, zv 0, zv 0, zv 0, zv 0, zv 0]))) (hr : re = 0 ∨ re = 1) : zz_Ct X mm_77 d 0 0 [.ref k, zv us, zv id, zv tk, zv re, zv t] n h (zp none n (zz_up h k (.inr (9, [zv us, zv id, zv tk, zv re, zv t, zv t])))) := by
  refine zz_start (by decide) (ls := [some (.ref k), some (zv us), some (zv id), some (zv tk), some (zv re), some (zv t)]) rfl ?_
  refine zi_aload_n dk_77_0 rfl rfl ?_
  refine zi_objI dk_77_1 zw_574 zo_i zo_c (Nat.le_of_ble_eq_true rfl) (by omega) ?_
  refine zi_aload_n dk_77_4 rfl rfl ?_
  refine zj_iload_n dk_77_5 rfl ?_
  refine zj_putI dk_77_6 fp_77_7 (by first | assumption | exact zz_up_eq _ _ _ | omega | exact Ne.symm (by assumption) | (refine (zz_up_ne ?_).trans ?_ <;> first | assumption | exact zz_up_eq _ _ _ | omega | exact Ne.symm (by assumption) | (refine (zz_up_ne ?_).trans ?_ <;> first | assumption | exact zz_up_eq _ _ _ | omega | exact Ne.symm (by assumption) | (refine (zz_up_ne ?_).trans ?_ <;> first | assumption | exact zz_up_eq _ _ _ | omega | exact Ne.symm (by assumption))))) rfl ?_
  refine zi_aload_n dk_77_9 rfl rfl ?_
  refine zj_iload_n dk_77_10 rfl ?_
  refine zj_putI dk_77_11 fp_77_13 (by first | assumption | exact zz_up_eq _ _ _ | omega | exact Ne.symm (by assumption) | (refine (zz_up_ne ?_).trans ?_ <;> first | assumption | exact zz_up_eq _ _ _ | omega | exact Ne.symm (by assumption) | (refine (zz_up_ne ?_).trans ?_ <;> first | assumption | exact zz_up_eq _ _ _ | omega | exact Ne.symm (by assumption) | (refine (zz_up_ne ?_).trans ?_ <;> first | assumption | exact zz_up_eq _ _ _ | omega | exact Ne.symm (by assumption))))) rfl ?_
  refine zi_aload_n dk_77_14 rfl rfl ?_
  refine zj_iload_n dk_77_15 rfl ?_
  refine zj_putI dk_77_16 fp_77_16 (by first | assumption | exact zz_up_eq _ _ _ | omega | exact Ne.symm (by assumption) | (refine (zz_up_ne ?_).trans ?_ <;> first | assumption | exact zz_up_eq _ _ _ | omega | exact Ne.symm (by assumption) | (refine (zz_up_ne ?_).trans ?_ <;> first | assumption | exact zz_up_eq _ _ _ | omega | exact Ne.symm (by assumption) | (refine (zz_up_ne ?_).trans ?_ <;> first | assumption | exact zz_up_eq _ _ _ | omega | exact Ne.symm (by assumption))))) rfl ?_
  refine zi_aload_n dk_77_19 rfl rfl ?_
  refine zj_iload dk_77_20 rfl ?_
  refine zj_putZ dk_77_22 fp_77_19 (by first | assumption | exact zz_up_eq _ _ _ | omega | exact Ne.symm (by assumption) | (refine (zz_up_ne ?_).trans ?_ <;> first | assumption | exact zz_up_eq _ _ _ | omega | exact Ne.symm (by assumption) | (refine (zz_up_ne ?_).trans ?_ <;> first | assumption | exact zz_up_eq _ _ _ | omega | exact Ne.symm (by assumption) | (refine (zz_up_ne ?_).trans ?_ <;> first | assumption | exact zz_up_eq _ _ _ | omega | exact Ne.symm (by assumption))))) (by omega) rfl ?_
  refine zi_aload_n dk_77_25 rfl rfl ?_
  refine zj_iload dk_77_26 rfl ?_
  refine zj_putI dk_77_28 fp_77_23 (by first | assumption | exact zz_up_eq _ _ _ | omega | exact Ne.symm (by assumption) | (refine (zz_up_ne ?_).trans ?_ <;> first | assumption | exact zz_up_eq _ _ _ | omega | exact Ne.symm (by assumption) | (refine (zz_up_ne ?_).trans ?_ <;> first | assumption | exact zz_up_eq _ _ _ | omega | exact Ne.symm (by assumption) | (refine (zz_up_ne ?_).trans ?_ <;> first | assumption | exact zz_up_eq _ _ _ | omega | exact Ne.symm (by assumption))))) rfl ?_
  refine zi_aload_n dk_77_31 rfl rfl ?_
  refine zj_iload dk_77_32 rfl ?_
  refine zj_putI dk_77_34 fp_77_26 (by first | assumption | exact zz_up_eq _ _ _ | omega | exact Ne.symm (by assumption) | (refine (zz_up_ne ?_).trans ?_ <;> first | assumption | exact zz_up_eq _ _ _ | omega | exact Ne.symm (by assumption) | (refine (zz_up_ne ?_).trans ?_ <;> first | assumption | exact zz_up_eq _ _ _ | omega | exact Ne.symm (by assumption) | (refine (zz_up_ne ?_).trans ?_ <;> first | assumption | exact zz_up_eq _ _ _ | omega | exact Ne.symm (by assumption))))) rfl ?_
  refine zi_return dk_77_37 rfl ⟨rfl, rfl, by rw [zz_up_up, zz_up_up, zz_up_up, zz_up_up, zz_up_up]⟩

theorem ct_64 {X : zz_X} {d n : Nat} {h : zz_H} {k : Nat} {us id tk re md lu t : Int} (h1 : h k = some (.inr (9, [zv us, zv id, zv tk, zv re, zv md, zv lu]))) (hr : (0 ≤ md ∧ md ≤ 1000000) ∧ (0 ≤ lu ∧ lu ≤ 1000000) ∧ 0 ≤ t ∧ t ≤ 1000000) : zz_Ct X mm_64 d 0 0 [.ref k, zv t] n h (zp (some (zv (if 60 < t - md ∨ 20 < t - lu then 1 else 0))) n h) := by
  refine zz_start (by decide) (ls := [some (.ref k), some (zv t)]) rfl ?_
  refine zj_iload_n dk_64_0 rfl ?_
  refine zi_aload_n dk_64_1 rfl rfl ?_
  refine zi_getf dk_64_2 fl_9_23 (by first | assumption | exact zz_up_eq _ _ _ | omega | exact Ne.symm (by assumption) | (refine (zz_up_ne ?_).trans ?_ <;> first | assumption | exact zz_up_eq _ _ _ | omega | exact Ne.symm (by assumption) | (refine (zz_up_ne ?_).trans ?_ <;> first | assumption | exact zz_up_eq _ _ _ | omega | exact Ne.symm (by assumption) | (refine (zz_up_ne ?_).trans ?_ <;> first | assumption | exact zz_up_eq _ _ _ | omega | exact Ne.symm (by assumption))))) rfl ?_
  refine zj_isub dk_64_5 ?_
  refine zj_bipush dk_64_6 (by decide) ?_
  refine zj_icmp_gt (t := 22) dk_64_8 rfl (by omega) (fun c8 => ?_) (fun c8 => ?_)
  · skip
    refine zj_iconst dk_64_22 ?_
    refine zi_goto (t := 27) dk_64_23 rfl ?_
    refine zj_zreturn dk_64_27 rfl (by omega) ⟨by first | rw [if_pos (by omega)] | rw [if_neg (by omega)], rfl, rfl⟩
  · skip
    refine zj_iload_n dk_64_11 rfl ?_
    refine zi_aload_n dk_64_12 rfl rfl ?_
    refine zi_getf dk_64_13 fl_9_26 (by first | assumption | exact zz_up_eq _ _ _ | omega | exact Ne.symm (by assumption) | (refine (zz_up_ne ?_).trans ?_ <;> first | assumption | exact zz_up_eq _ _ _ | omega | exact Ne.symm (by assumption) | (refine (zz_up_ne ?_).trans ?_ <;> first | assumption | exact zz_up_eq _ _ _ | omega | exact Ne.symm (by assumption) | (refine (zz_up_ne ?_).trans ?_ <;> first | assumption | exact zz_up_eq _ _ _ | omega | exact Ne.symm (by assumption))))) rfl ?_
    refine zj_isub dk_64_16 ?_
    refine zj_bipush dk_64_17 (by decide) ?_
    refine zj_icmp_le (t := 26) dk_64_19 rfl (by omega) (fun c19 => ?_) (fun c19 => ?_)
    · skip
      refine zj_iconst dk_64_26 ?_
      refine zj_zreturn dk_64_27 rfl (by omega) ⟨by first | rw [if_pos (by omega)] | rw [if_neg (by omega)], rfl, rfl⟩
    · skip
      refine zj_iconst dk_64_22 ?_
      refine zi_goto (t := 27) dk_64_23 rfl ?_
      refine zj_zreturn dk_64_27 rfl (by omega) ⟨by first | rw [if_pos (by omega)] | rw [if_neg (by omega)], rfl, rfl⟩

theorem ct_56 {X : zz_X} {d n : Nat} {h : zz_H} {x : Int} (hx : -2147483648 ≤ x ∧ x < 2147483648) : zz_Ct X mm_56 d 0 0 [zv x] n h (zp (some (zv (if 0 ≤ x ∧ x < 4 then 1 else 0))) n h) := by
  refine zz_start (by decide) (ls := [some (zv x)]) rfl ?_
  refine zj_iload_n dk_56_0 rfl ?_
  refine zj_if_lt (t := 13) dk_56_1 rfl (by omega) (fun c1 => ?_) (fun c1 => ?_)
  · skip
    refine zj_iconst dk_56_13 ?_
    refine zj_zreturn dk_56_14 rfl (by omega) ⟨by first | rw [if_pos (by omega)] | rw [if_neg (by omega)], rfl, rfl⟩
  · skip
    refine zj_iload_n dk_56_4 rfl ?_
    refine zj_iconst dk_56_5 ?_
    refine zj_icmp_ge (t := 13) dk_56_6 rfl (by omega) (fun c6 => ?_) (fun c6 => ?_)
    · skip
      refine zj_iconst dk_56_13 ?_
      refine zj_zreturn dk_56_14 rfl (by omega) ⟨by first | rw [if_pos (by omega)] | rw [if_neg (by omega)], rfl, rfl⟩
    · skip
      refine zj_iconst dk_56_9 ?_
      refine zi_goto (t := 14) dk_56_10 rfl ?_
      refine zj_zreturn dk_56_14 rfl (by omega) ⟨by first | rw [if_pos (by omega)] | rw [if_neg (by omega)], rfl, rfl⟩

theorem ct_54 {X : zz_X} {d n : Nat} {h : zz_H} (hd : 1 ≤ d) {s : Nat} {pa fa co : Int} (hn : n = s + 1) (h1 : h s = some (.inr (11, [zv 0, zv 0, zv 0, .null, .null]))) : zz_Ct X mm_54 d 2 8 [.ref s, zv pa, zv fa, zv co] n h (zp none (s + 3) (zz_up (zz_up (zz_up h (s + 1) (zA 2 4 (fun _ => 0))) (s + 2) (zA 0 4 (fun _ => 0))) s (.inr (11, [zv pa, zv fa, zv co, .ref (s + 1), .ref (s + 2)])))) := by
  refine zz_start (by decide) (ls := [some (.ref s), some (zv pa), some (zv fa), some (zv co)]) rfl ?_
  subst hn
  refine zi_aload_n dk_54_0 rfl rfl ?_
  refine zi_objI dk_54_1 zw_459 zo_i zo_c (Nat.le_of_ble_eq_true rfl) (by omega) ?_
  refine zi_aload_n dk_54_4 rfl rfl ?_
  refine zj_iconst dk_54_5 ?_
  refine zj_newz (N := 4) dk_54_6 zw_ac_boolean rfl (by decide) rfl rfl ?_
  refine zj_putR dk_54_8 fp_54_9 (by first | assumption | exact zz_up_eq _ _ _ | omega | exact Ne.symm (by assumption) | (refine (zz_up_ne ?_).trans ?_ <;> first | assumption | exact zz_up_eq _ _ _ | omega | exact Ne.symm (by assumption) | (refine (zz_up_ne ?_).trans ?_ <;> first | assumption | exact zz_up_eq _ _ _ | omega | exact Ne.symm (by assumption) | (refine (zz_up_ne ?_).trans ?_ <;> first | assumption | exact zz_up_eq _ _ _ | omega | exact Ne.symm (by assumption))))) rfl ?_
  refine zi_aload_n dk_54_11 rfl rfl ?_
  refine zj_iconst dk_54_12 ?_
  refine zj_newi (N := 4) dk_54_13 zw_ac_int rfl (by decide) rfl rfl ?_
  refine zj_putR dk_54_15 fp_54_15 (by first | assumption | exact zz_up_eq _ _ _ | omega | exact Ne.symm (by assumption) | (refine (zz_up_ne ?_).trans ?_ <;> first | assumption | exact zz_up_eq _ _ _ | omega | exact Ne.symm (by assumption) | (refine (zz_up_ne ?_).trans ?_ <;> first | assumption | exact zz_up_eq _ _ _ | omega | exact Ne.symm (by assumption) | (refine (zz_up_ne ?_).trans ?_ <;> first | assumption | exact zz_up_eq _ _ _ | omega | exact Ne.symm (by assumption))))) rfl ?_
  refine zi_aload_n dk_54_18 rfl rfl ?_
  refine zj_iload_n dk_54_19 rfl ?_
  refine zj_putI dk_54_20 fp_54_19 (by first | assumption | exact zz_up_eq _ _ _ | omega | exact Ne.symm (by assumption) | (refine (zz_up_ne ?_).trans ?_ <;> first | assumption | exact zz_up_eq _ _ _ | omega | exact Ne.symm (by assumption) | (refine (zz_up_ne ?_).trans ?_ <;> first | assumption | exact zz_up_eq _ _ _ | omega | exact Ne.symm (by assumption) | (refine (zz_up_ne ?_).trans ?_ <;> first | assumption | exact zz_up_eq _ _ _ | omega | exact Ne.symm (by assumption))))) rfl ?_
  refine zi_aload_n dk_54_23 rfl rfl ?_
  refine zj_iload_n dk_54_24 rfl ?_
  refine zj_putI dk_54_25 fp_54_23 (by first | assumption | exact zz_up_eq _ _ _ | omega | exact Ne.symm (by assumption) | (refine (zz_up_ne ?_).trans ?_ <;> first | assumption | exact zz_up_eq _ _ _ | omega | exact Ne.symm (by assumption) | (refine (zz_up_ne ?_).trans ?_ <;> first | assumption | exact zz_up_eq _ _ _ | omega | exact Ne.symm (by assumption) | (refine (zz_up_ne ?_).trans ?_ <;> first | assumption | exact zz_up_eq _ _ _ | omega | exact Ne.symm (by assumption))))) rfl ?_
  refine zi_aload_n dk_54_28 rfl rfl ?_
  refine zj_iload_n dk_54_29 rfl ?_
  refine zj_putI dk_54_30 fp_54_26 (by first | assumption | exact zz_up_eq _ _ _ | omega | exact Ne.symm (by assumption) | (refine (zz_up_ne ?_).trans ?_ <;> first | assumption | exact zz_up_eq _ _ _ | omega | exact Ne.symm (by assumption) | (refine (zz_up_ne ?_).trans ?_ <;> first | assumption | exact zz_up_eq _ _ _ | omega | exact Ne.symm (by assumption) | (refine (zz_up_ne ?_).trans ?_ <;> first | assumption | exact zz_up_eq _ _ _ | omega | exact Ne.symm (by assumption))))) rfl ?_
  refine zi_return dk_54_33 rfl ⟨rfl, rfl, ?_⟩
  rw [zz_up_up, zz_up_up, zz_up_up]
  funext q
  simp only [zz_up]
  by_cases k0 : q = s
  · subst k0; simp
  · by_cases k1 : q = s + 1
    · subst k1; simp
    · by_cases k2 : q = s + 2
      · subst k2; simp
      · simp [k0, k1, k2]

theorem ct_61 {X : zz_X} {d n : Nat} {h : zz_H} (hd : 1 ≤ d) {s : Nat} {pa fa co : Int} {dc cn : Int → Int} (h1 : h s = some (.inr (11, [zv pa, zv fa, zv co, .ref (s + 1), .ref (s + 2)]))) (h2 : h (s + 1) = some (zA 2 4 dc)) (h3 : h (s + 2) = some (zA 0 4 cn)) (hd2 : ∀ i, 0 ≤ i → i < 4 → dc i = 0 ∨ dc i = 1) {op cd : Int} (ho : -2147483648 ≤ op ∧ op < 2147483648) : zz_Ct X mm_61 d 0 0 [.ref s, zv op, zv cd] n h (fun r n' h' => n' = n ∧ (((0 ≤ op ∧ op < 4 ∧ dc op = 0) ∧ r = some (zv 1) ∧ h' = zz_up (zz_up h (s + 1) (zA 2 4 (zU dc op 1))) (s + 2) (zA 0 4 (zU cn op cd))) ∨ (¬ (0 ≤ op ∧ op < 4 ∧ dc op = 0) ∧ r = some (zv 0) ∧ h' = h))) := by
  refine zz_start (by decide) (ls := [some (.ref s), some (zv op), some (zv cd)]) rfl ?_
  refine zj_iload_n dk_61_0 rfl ?_
  refine zi_invS dk_61_1 ml_11_29 is_56 (ct_56 (d := d - 1) ho) rfl rfl (Nat.le_of_ble_eq_true rfl) (by omega) rfl rfl (fun r n' h' hq => ?_)
  obtain ⟨rfl, rfl, rfl⟩ := hq
  refine zj_if_eq (t := 16) dk_61_4 rfl (by split <;> omega) (fun c4 => ?_) (fun c4 => ?_)
  · skip
    refine zj_iconst dk_61_16 ?_
    refine zj_zreturn dk_61_17 rfl (by omega) ⟨rfl, Or.inr ⟨by first | (split at c4 <;> omega) | omega, rfl, rfl⟩⟩
  · skip
    have o1 : 0 ≤ op ∧ op < 4 := by split at c4 <;> omega
    have o2 := hd2 op o1.1 o1.2
    refine zi_aload_n dk_61_7 rfl rfl ?_
    refine zi_getf dk_61_8 fl_11_9 (by first | assumption | exact zz_up_eq _ _ _ | omega | exact Ne.symm (by assumption) | (refine (zz_up_ne ?_).trans ?_ <;> first | assumption | exact zz_up_eq _ _ _ | omega | exact Ne.symm (by assumption) | (refine (zz_up_ne ?_).trans ?_ <;> first | assumption | exact zz_up_eq _ _ _ | omega | exact Ne.symm (by assumption) | (refine (zz_up_ne ?_).trans ?_ <;> first | assumption | exact zz_up_eq _ _ _ | omega | exact Ne.symm (by assumption))))) rfl ?_
    refine zj_iload_n dk_61_11 rfl ?_
    refine zj_zald dk_61_12 (by first | assumption | exact zz_up_eq _ _ _ | omega | exact Ne.symm (by assumption) | (refine (zz_up_ne ?_).trans ?_ <;> first | assumption | exact zz_up_eq _ _ _ | omega | exact Ne.symm (by assumption) | (refine (zz_up_ne ?_).trans ?_ <;> first | assumption | exact zz_up_eq _ _ _ | omega | exact Ne.symm (by assumption) | (refine (zz_up_ne ?_).trans ?_ <;> first | assumption | exact zz_up_eq _ _ _ | omega | exact Ne.symm (by assumption))))) (by omega) ?_
    refine zj_if_eq (t := 18) dk_61_13 rfl (by omega) (fun c13 => ?_) (fun c13 => ?_)
    · skip
      refine zi_aload_n dk_61_18 rfl rfl ?_
      refine zi_getf dk_61_19 fl_11_9 (by first | assumption | exact zz_up_eq _ _ _ | omega | exact Ne.symm (by assumption) | (refine (zz_up_ne ?_).trans ?_ <;> first | assumption | exact zz_up_eq _ _ _ | omega | exact Ne.symm (by assumption) | (refine (zz_up_ne ?_).trans ?_ <;> first | assumption | exact zz_up_eq _ _ _ | omega | exact Ne.symm (by assumption) | (refine (zz_up_ne ?_).trans ?_ <;> first | assumption | exact zz_up_eq _ _ _ | omega | exact Ne.symm (by assumption))))) rfl ?_
      refine zj_iload_n dk_61_22 rfl ?_
      refine zj_iconst dk_61_23 ?_
      refine zj_zast dk_61_24 (by first | assumption | exact zz_up_eq _ _ _ | omega | exact Ne.symm (by assumption) | (refine (zz_up_ne ?_).trans ?_ <;> first | assumption | exact zz_up_eq _ _ _ | omega | exact Ne.symm (by assumption) | (refine (zz_up_ne ?_).trans ?_ <;> first | assumption | exact zz_up_eq _ _ _ | omega | exact Ne.symm (by assumption) | (refine (zz_up_ne ?_).trans ?_ <;> first | assumption | exact zz_up_eq _ _ _ | omega | exact Ne.symm (by assumption))))) (by omega) (by omega) ?_
      refine zi_aload_n dk_61_25 rfl rfl ?_
      refine zi_getf dk_61_26 fl_11_15 (by first | assumption | exact zz_up_eq _ _ _ | omega | exact Ne.symm (by assumption) | (refine (zz_up_ne ?_).trans ?_ <;> first | assumption | exact zz_up_eq _ _ _ | omega | exact Ne.symm (by assumption) | (refine (zz_up_ne ?_).trans ?_ <;> first | assumption | exact zz_up_eq _ _ _ | omega | exact Ne.symm (by assumption) | (refine (zz_up_ne ?_).trans ?_ <;> first | assumption | exact zz_up_eq _ _ _ | omega | exact Ne.symm (by assumption))))) rfl ?_
      refine zj_iload_n dk_61_29 rfl ?_
      refine zj_iload_n dk_61_30 rfl ?_
      refine zj_iast dk_61_31 (by first | assumption | exact zz_up_eq _ _ _ | omega | exact Ne.symm (by assumption) | (refine (zz_up_ne ?_).trans ?_ <;> first | assumption | exact zz_up_eq _ _ _ | omega | exact Ne.symm (by assumption) | (refine (zz_up_ne ?_).trans ?_ <;> first | assumption | exact zz_up_eq _ _ _ | omega | exact Ne.symm (by assumption) | (refine (zz_up_ne ?_).trans ?_ <;> first | assumption | exact zz_up_eq _ _ _ | omega | exact Ne.symm (by assumption))))) (by omega) ?_
      refine zj_iconst dk_61_32 ?_
      refine zj_zreturn dk_61_33 rfl (by omega) ⟨rfl, Or.inl ⟨by omega, rfl, rfl⟩⟩
    · skip
      refine zj_iconst dk_61_16 ?_
      refine zj_zreturn dk_61_17 rfl (by omega) ⟨rfl, Or.inr ⟨by first | (split at c4 <;> omega) | omega, rfl, rfl⟩⟩

theorem ct_115 {X : zz_X} {d n : Nat} {h : zz_H} (hd : 1 ≤ d) {s : Nat} {pa fa co : Int} {dc cn : Int → Int} (h1 : h s = some (.inr (11, [zv pa, zv fa, zv co, .ref (s + 1), .ref (s + 2)]))) (h2 : h (s + 1) = some (zA 2 4 dc)) (h3 : h (s + 2) = some (zA 0 4 cn)) (hd2 : ∀ i, 0 ≤ i → i < 4 → dc i = 0 ∨ dc i = 1) {op : Int} (ho : -2147483648 ≤ op ∧ op < 2147483648) : zz_Ct X mm_115 d 0 0 [.ref s, zv op] n h (zp (some (zv (if 0 ≤ op ∧ op < 4 ∧ dc op = 1 then 1 else 0))) n h) := by
  refine zz_start (by decide) (ls := [some (.ref s), some (zv op)]) rfl ?_
  refine zj_iload_n dk_115_0 rfl ?_
  refine zi_invS dk_115_1 ml_11_29 is_56 (ct_56 (d := d - 1) ho) rfl rfl (Nat.le_of_ble_eq_true rfl) (by omega) rfl rfl (fun r n' h' hq => ?_)
  obtain ⟨rfl, rfl, rfl⟩ := hq
  refine zj_if_eq (t := 20) dk_115_4 rfl (by split <;> omega) (fun c4 => ?_) (fun c4 => ?_)
  · skip
    refine zj_iconst dk_115_20 ?_
    refine zj_zreturn dk_115_21 rfl (by omega) ⟨by first | rw [if_pos (by omega)] | rw [if_neg (by omega)] | (rw [if_neg (fun hx => by split at c4 <;> omega)]), rfl, rfl⟩
  · skip
    have o1 : 0 ≤ op ∧ op < 4 := by split at c4 <;> omega
    have o2 := hd2 op o1.1 o1.2
    refine zi_aload_n dk_115_7 rfl rfl ?_
    refine zi_getf dk_115_8 fl_11_9 (by first | assumption | exact zz_up_eq _ _ _ | omega | exact Ne.symm (by assumption) | (refine (zz_up_ne ?_).trans ?_ <;> first | assumption | exact zz_up_eq _ _ _ | omega | exact Ne.symm (by assumption) | (refine (zz_up_ne ?_).trans ?_ <;> first | assumption | exact zz_up_eq _ _ _ | omega | exact Ne.symm (by assumption) | (refine (zz_up_ne ?_).trans ?_ <;> first | assumption | exact zz_up_eq _ _ _ | omega | exact Ne.symm (by assumption))))) rfl ?_
    refine zj_iload_n dk_115_11 rfl ?_
    refine zj_zald dk_115_12 (by first | assumption | exact zz_up_eq _ _ _ | omega | exact Ne.symm (by assumption) | (refine (zz_up_ne ?_).trans ?_ <;> first | assumption | exact zz_up_eq _ _ _ | omega | exact Ne.symm (by assumption) | (refine (zz_up_ne ?_).trans ?_ <;> first | assumption | exact zz_up_eq _ _ _ | omega | exact Ne.symm (by assumption) | (refine (zz_up_ne ?_).trans ?_ <;> first | assumption | exact zz_up_eq _ _ _ | omega | exact Ne.symm (by assumption))))) (by omega) ?_
    refine zj_if_eq (t := 20) dk_115_13 rfl (by omega) (fun c13 => ?_) (fun c13 => ?_)
    · skip
      refine zj_iconst dk_115_20 ?_
      refine zj_zreturn dk_115_21 rfl (by omega) ⟨by first | rw [if_pos (by omega)] | rw [if_neg (by omega)] | (rw [if_neg (fun hx => by split at c4 <;> omega)]), rfl, rfl⟩
    · skip
      refine zj_iconst dk_115_16 ?_
      refine zi_goto (t := 21) dk_115_17 rfl ?_
      refine zj_zreturn dk_115_21 rfl (by omega) ⟨by first | rw [if_pos (by omega)] | rw [if_neg (by omega)] | (rw [if_neg (fun hx => by split at c4 <;> omega)]), rfl, rfl⟩

theorem ct_117 {X : zz_X} {d n : Nat} {h : zz_H} (hd : 2 ≤ d) {s : Nat} {pa fa co : Int} {dc cn : Int → Int} (h1 : h s = some (.inr (11, [zv pa, zv fa, zv co, .ref (s + 1), .ref (s + 2)]))) (h2 : h (s + 1) = some (zA 2 4 dc)) (h3 : h (s + 2) = some (zA 0 4 cn)) (hd2 : ∀ i, 0 ≤ i → i < 4 → dc i = 0 ∨ dc i = 1) {op : Int} (ho : -2147483648 ≤ op ∧ op < 2147483648) (hc : ∀ i, 0 ≤ i → i < 4 → -1 ≤ cn i ∧ cn i < 16) : zz_Ct X mm_117 d 0 0 [.ref s, zv op] n h (zp (some (zv (if 0 ≤ op ∧ op < 4 ∧ dc op = 1 then (if cn op ≠ -1 then cn op else co) else -1))) n h) := by
  refine zz_start (by decide) (ls := [some (.ref s), some (zv op)]) rfl ?_
  refine zi_aload_n dk_117_0 rfl rfl ?_
  refine zj_iload_n dk_117_1 rfl ?_
  refine zi_invV dk_117_2 ml_11_33 iv_115 (ct_115 (d := d - 1) (by omega) h1 h2 h3 hd2 ho) (by first | assumption | exact zz_up_eq _ _ _ | omega | exact Ne.symm (by assumption) | (refine (zz_up_ne ?_).trans ?_ <;> first | assumption | exact zz_up_eq _ _ _ | omega | exact Ne.symm (by assumption) | (refine (zz_up_ne ?_).trans ?_ <;> first | assumption | exact zz_up_eq _ _ _ | omega | exact Ne.symm (by assumption) | (refine (zz_up_ne ?_).trans ?_ <;> first | assumption | exact zz_up_eq _ _ _ | omega | exact Ne.symm (by assumption))))) rfl rfl rfl (Nat.le_of_ble_eq_true rfl) (by omega) rfl rfl (fun r n' h' hq => ?_)
  obtain ⟨rfl, rfl, rfl⟩ := hq
  refine zj_if_ne (t := 10) dk_117_5 rfl (by split <;> omega) (fun c5 => ?_) (fun c5 => ?_)
  · skip
    have hx : 0 ≤ op ∧ op < 4 ∧ dc op = 1 := by split at c5 <;> first | assumption | omega
    have hc1 := hc op hx.1 hx.2.1
    refine zi_aload_n dk_117_10 rfl rfl ?_
    refine zi_getf dk_117_11 fl_11_15 (by first | assumption | exact zz_up_eq _ _ _ | omega | exact Ne.symm (by assumption) | (refine (zz_up_ne ?_).trans ?_ <;> first | assumption | exact zz_up_eq _ _ _ | omega | exact Ne.symm (by assumption) | (refine (zz_up_ne ?_).trans ?_ <;> first | assumption | exact zz_up_eq _ _ _ | omega | exact Ne.symm (by assumption) | (refine (zz_up_ne ?_).trans ?_ <;> first | assumption | exact zz_up_eq _ _ _ | omega | exact Ne.symm (by assumption))))) rfl ?_
    refine zj_iload_n dk_117_14 rfl ?_
    refine zj_iald dk_117_15 (by first | assumption | exact zz_up_eq _ _ _ | omega | exact Ne.symm (by assumption) | (refine (zz_up_ne ?_).trans ?_ <;> first | assumption | exact zz_up_eq _ _ _ | omega | exact Ne.symm (by assumption) | (refine (zz_up_ne ?_).trans ?_ <;> first | assumption | exact zz_up_eq _ _ _ | omega | exact Ne.symm (by assumption) | (refine (zz_up_ne ?_).trans ?_ <;> first | assumption | exact zz_up_eq _ _ _ | omega | exact Ne.symm (by assumption))))) (by omega) ?_
    refine zj_iconst dk_117_16 ?_
    refine zj_icmp_eq (t := 29) dk_117_17 rfl (by omega) (fun c17 => ?_) (fun c17 => ?_)
    · skip
      refine zi_aload_n dk_117_29 rfl rfl ?_
      refine zi_getf dk_117_30 fl_11_26 (by first | assumption | exact zz_up_eq _ _ _ | omega | exact Ne.symm (by assumption) | (refine (zz_up_ne ?_).trans ?_ <;> first | assumption | exact zz_up_eq _ _ _ | omega | exact Ne.symm (by assumption) | (refine (zz_up_ne ?_).trans ?_ <;> first | assumption | exact zz_up_eq _ _ _ | omega | exact Ne.symm (by assumption) | (refine (zz_up_ne ?_).trans ?_ <;> first | assumption | exact zz_up_eq _ _ _ | omega | exact Ne.symm (by assumption))))) rfl ?_
      refine zj_ireturn dk_117_33 rfl ⟨by rw [if_pos hx]; first | rw [if_pos (by omega)] | rw [if_neg (by omega)], rfl, rfl⟩
    · skip
      refine zi_aload_n dk_117_20 rfl rfl ?_
      refine zi_getf dk_117_21 fl_11_15 (by first | assumption | exact zz_up_eq _ _ _ | omega | exact Ne.symm (by assumption) | (refine (zz_up_ne ?_).trans ?_ <;> first | assumption | exact zz_up_eq _ _ _ | omega | exact Ne.symm (by assumption) | (refine (zz_up_ne ?_).trans ?_ <;> first | assumption | exact zz_up_eq _ _ _ | omega | exact Ne.symm (by assumption) | (refine (zz_up_ne ?_).trans ?_ <;> first | assumption | exact zz_up_eq _ _ _ | omega | exact Ne.symm (by assumption))))) rfl ?_
      refine zj_iload_n dk_117_24 rfl ?_
      refine zj_iald dk_117_25 (by first | assumption | exact zz_up_eq _ _ _ | omega | exact Ne.symm (by assumption) | (refine (zz_up_ne ?_).trans ?_ <;> first | assumption | exact zz_up_eq _ _ _ | omega | exact Ne.symm (by assumption) | (refine (zz_up_ne ?_).trans ?_ <;> first | assumption | exact zz_up_eq _ _ _ | omega | exact Ne.symm (by assumption) | (refine (zz_up_ne ?_).trans ?_ <;> first | assumption | exact zz_up_eq _ _ _ | omega | exact Ne.symm (by assumption))))) (by omega) ?_
      refine zi_goto (t := 33) dk_117_26 rfl ?_
      refine zj_ireturn dk_117_33 rfl ⟨by rw [if_pos hx]; first | rw [if_pos (by omega)] | rw [if_neg (by omega)], rfl, rfl⟩
  · skip
    refine zj_iconst dk_117_8 ?_
    refine zj_ireturn dk_117_9 rfl ⟨by rw [if_neg (fun hx => by rw [if_pos hx] at c5; omega)], rfl, rfl⟩

