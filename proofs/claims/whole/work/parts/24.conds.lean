/-! Conditions -/
def ex_sv (op a b ask held arg : Int) : Int :=
  if op = 1 then (if ask ≠ -1 then 1 else 0) else if op = 2 then (if ask ≠ -1 ∧ ask < 8 then 1 else 0) else if op = 3 then (if ask ≠ -1 ∧ bz (zb_bit held a) = 1 then 1 else 0)
  else if op = 7 then (if ask ≠ -1 ∧ arg = (if 8 ≤ ask then ask - 8 else ask) then 1 else 0) else if op = 8 then (if arg < a then 1 else 0)
  else if op = 9 then (if arg = 0 then 2 else if a ≤ zb_div b arg then 1 else 0) else 1
def ex_jv (op x y : Int) : Int := if x = 2 then 2 else if op = 4 then (if x = 0 then 1 else 0) else (if x = (if op = 5 then 0 else 1) then x else y)
theorem ex_sv_rg (op a b ask held arg : Int) : 0 ≤ ex_sv op a b ask held arg ∧ ex_sv op a b ask held arg ≤ 2 := by
  unfold ex_sv
  (repeat' split) <;> omega
theorem ex_jv_rg {op x y : Int} (hx : 0 ≤ x ∧ x ≤ 2) (hy : 0 ≤ y ∧ y ≤ 2) : 0 ≤ ex_jv op x y ∧ ex_jv op x y ≤ 2 := by
  unfold ex_jv
  (repeat' split) <;> omega
/-- the expressions are sound: their parts come before them -/
def ex_W (o a b : Int → Int) (sz : Int) : Prop := ∀ i, 0 ≤ i → i < sz → (0 ≤ o i ∧ o i ≤ 9) ∧ (-2147483648 ≤ a i ∧ a i < 2147483648) ∧ (-2147483648 ≤ b i ∧ b i < 2147483648) ∧ (o i = 3 → 0 ≤ a i ∧ a i ≤ 7) ∧ ((4 ≤ o i ∧ o i ≤ 6) → 0 ≤ a i ∧ a i < i) ∧ ((5 ≤ o i ∧ o i ≤ 6) → 0 ≤ b i ∧ b i < i)
def ex_V (v : Int → Int) : Prop := ∀ i, 0 ≤ i → i < 16 → 0 ≤ v i ∧ v i ≤ 2
def ex_step (o a b : Int → Int) (ask held arg : Int) (v : Int → Int) (i : Int) : Int := if o i = 4 ∨ o i = 5 ∨ o i = 6 then ex_jv (o i) (v (a i)) (v (b i)) else ex_sv (o i) (a i) (b i) ask held arg
def ex_run (o a b : Int → Int) (ask held arg : Int) : Nat → Int → (Int → Int) → Int → Int
  | 0, _, v => v
  | k + 1, i, v => ex_run o a b ask held arg k (i + 1) (zU v i (ex_step o a b ask held arg v i))
def ex_ct (op x y sz : Int) : Int := if op = 3 then (if 0 ≤ x ∧ x < 8 then 1 else 0) else if op = 4 then (if 0 ≤ x ∧ x < sz then 1 else 0) else if op = 5 ∨ op = 6 then (if (0 ≤ x ∧ x < sz) ∧ 0 ≤ y ∧ y < sz then 1 else 0) else 1
theorem zb_div_rg (a b : Int) : -2147483648 ≤ zb_div a b ∧ zb_div a b < 2147483648 := zn_rg _
theorem ct_111 {X : zz_X} {d n : Nat} {h : zz_H} {z : Int} (hz : z = 0 ∨ z = 1) : zz_Ct X mm_111 d 0 0 [zv z] n h (zp (some (zv z)) n h) := by
  refine zz_start (by decide) (ls := [some (zv z)]) rfl ?_
  refine zj_iload_n dk_111_0 rfl ?_
  refine zj_if_eq (t := 8) dk_111_1 rfl (by omega) (fun c1 => ?_) (fun c1 => ?_)
  · skip
    refine zj_iconst dk_111_8 ?_
    refine zj_ireturn dk_111_9 rfl ⟨by congr 2; omega, rfl, rfl⟩
  · skip
    refine zj_iconst dk_111_4 ?_
    refine zi_goto (t := 9) dk_111_5 rfl ?_
    refine zj_ireturn dk_111_9 rfl ⟨by congr 2; omega, rfl, rfl⟩

theorem ct_21 {X : zz_X} {d n : Nat} {h : zz_H} {co : Nat} {o a b v : Int → Int} {sz : Int} (g0 : h co = some (.inr (7, [.ref (co + 1), .ref (co + 2), .ref (co + 3), .ref (co + 4), zv sz]))) (g1 : h (co + 1) = some (zA 0 16 o)) (g2 : h (co + 2) = some (zA 0 16 a)) (g3 : h (co + 3) = some (zA 0 16 b)) (g4 : h (co + 4) = some (zA 0 16 v)) (hz : 0 ≤ sz ∧ sz ≤ 16) (hw : ex_W o a b sz) {k : Int} (hk : -2147483648 ≤ k ∧ k < 2147483648) : zz_Ct X mm_21 d 0 0 [.ref co, zv k] n h (zp (some (zv (if 0 ≤ k ∧ k < sz then 1 else 0))) n h) := by
  refine zz_start (by decide) (ls := [some (.ref co), some (zv k)]) rfl ?_
  refine zj_iload_n dk_21_0 rfl ?_
  refine zj_if_lt (t := 16) dk_21_1 rfl (by omega) (fun c1 => ?_) (fun c1 => ?_)
  · skip
    refine zj_iconst dk_21_16 ?_
    refine zj_zreturn dk_21_17 rfl (by omega) ⟨by first | rw [if_pos (by omega)] | rw [if_neg (by omega)], rfl, rfl⟩
  · skip
    refine zj_iload_n dk_21_4 rfl ?_
    refine zi_aload_n dk_21_5 rfl rfl ?_
    refine zi_getf dk_21_6 fl_7_24 (by first | assumption | exact zz_up_eq _ _ _ | omega | exact Ne.symm (by assumption) | (refine (zz_up_ne ?_).trans ?_ <;> first | assumption | exact zz_up_eq _ _ _ | omega | exact Ne.symm (by assumption) | (refine (zz_up_ne ?_).trans ?_ <;> first | assumption | exact zz_up_eq _ _ _ | omega | exact Ne.symm (by assumption) | (refine (zz_up_ne ?_).trans ?_ <;> first | assumption | exact zz_up_eq _ _ _ | omega | exact Ne.symm (by assumption))))) rfl ?_
    refine zj_icmp_ge (t := 16) dk_21_9 rfl (by omega) (fun c9 => ?_) (fun c9 => ?_)
    · skip
      refine zj_iconst dk_21_16 ?_
      refine zj_zreturn dk_21_17 rfl (by omega) ⟨by first | rw [if_pos (by omega)] | rw [if_neg (by omega)], rfl, rfl⟩
    · skip
      refine zj_iconst dk_21_12 ?_
      refine zi_goto (t := 17) dk_21_13 rfl ?_
      refine zj_zreturn dk_21_17 rfl (by omega) ⟨by first | rw [if_pos (by omega)] | rw [if_neg (by omega)], rfl, rfl⟩

theorem ct_19 {X : zz_X} {d n : Nat} {h : zz_H} (hd : 1 ≤ d) {co : Nat} {o a b v : Int → Int} {sz : Int} (g0 : h co = some (.inr (7, [.ref (co + 1), .ref (co + 2), .ref (co + 3), .ref (co + 4), zv sz]))) (g1 : h (co + 1) = some (zA 0 16 o)) (g2 : h (co + 2) = some (zA 0 16 a)) (g3 : h (co + 3) = some (zA 0 16 b)) (g4 : h (co + 4) = some (zA 0 16 v)) (hz : 0 ≤ sz ∧ sz ≤ 16) (hw : ex_W o a b sz) {op x y : Int} (hop0 : 0 ≤ op ∧ op ≤ 9) (hx : -2147483648 ≤ x ∧ x < 2147483648) (hy : -2147483648 ≤ y ∧ y < 2147483648) : zz_Ct X mm_19 d 0 0 [.ref co, zv op, zv x, zv y] n h (zp (some (zv (ex_ct op x y sz))) n h) := by
  refine zz_start (by decide) (ls := [some (.ref co), some (zv op), some (zv x), some (zv y)]) rfl ?_
  have hop : op = 0 ∨ op = 1 ∨ op = 2 ∨ op = 3 ∨ op = 4 ∨ op = 5 ∨ op = 6 ∨ op = 7 ∨ op = 8 ∨ op = 9 := by omega
  rcases hop with rfl | rfl | rfl | rfl | rfl | rfl | rfl | rfl | rfl | rfl
  · refine zj_iload_n dk_19_0 rfl ?_
    refine zj_tabOut (t := 65) dk_19_1 (by decide) rfl ?_
    refine zj_iconst dk_19_65 ?_
    refine zj_zreturn dk_19_66 rfl (by omega) ⟨rfl, rfl, rfl⟩
  · refine zj_iload_n dk_19_0 rfl ?_
    refine zj_tabOut (t := 65) dk_19_1 (by decide) rfl ?_
    refine zj_iconst dk_19_65 ?_
    refine zj_zreturn dk_19_66 rfl (by omega) ⟨rfl, rfl, rfl⟩
  · refine zj_iload_n dk_19_0 rfl ?_
    refine zj_tabOut (t := 65) dk_19_1 (by decide) rfl ?_
    refine zj_iconst dk_19_65 ?_
    refine zj_zreturn dk_19_66 rfl (by omega) ⟨rfl, rfl, rfl⟩
  · refine zj_iload_n dk_19_0 rfl ?_
    refine zj_tabIn (t := 32) dk_19_1 (by decide) rfl rfl ?_
    refine zj_iload_n dk_19_32 rfl ?_
    refine zi_invS dk_19_33 ml_7_32 is_20 (ct_20 (d := d - 1) hx) rfl rfl (Nat.le_of_ble_eq_true rfl) (by omega) rfl rfl (fun r n' h' hq => ?_)
    obtain ⟨rfl, rfl, rfl⟩ := hq
    refine zj_zreturn dk_19_36 rfl (by split <;> omega) ⟨rfl, rfl, rfl⟩
  · refine zj_iload_n dk_19_0 rfl ?_
    refine zj_tabIn (t := 37) dk_19_1 (by decide) rfl rfl ?_
    refine zi_aload_n dk_19_37 rfl rfl ?_
    refine zj_iload_n dk_19_38 rfl ?_
    refine zi_invV dk_19_39 ml_7_38 iv_21 (ct_21 (d := d - 1) g0 g1 g2 g3 g4 hz hw hx) (by first | assumption | exact zz_up_eq _ _ _ | omega | exact Ne.symm (by assumption) | (refine (zz_up_ne ?_).trans ?_ <;> first | assumption | exact zz_up_eq _ _ _ | omega | exact Ne.symm (by assumption) | (refine (zz_up_ne ?_).trans ?_ <;> first | assumption | exact zz_up_eq _ _ _ | omega | exact Ne.symm (by assumption) | (refine (zz_up_ne ?_).trans ?_ <;> first | assumption | exact zz_up_eq _ _ _ | omega | exact Ne.symm (by assumption))))) rfl rfl rfl (Nat.le_of_ble_eq_true rfl) (by omega) rfl rfl (fun r n' h' hq => ?_)
    obtain ⟨rfl, rfl, rfl⟩ := hq
    refine zj_zreturn dk_19_42 rfl (by split <;> omega) ⟨rfl, rfl, rfl⟩
  · refine zj_iload_n dk_19_0 rfl ?_
    refine zj_tabIn (t := 43) dk_19_1 (by decide) rfl rfl ?_
    refine zi_aload_n dk_19_43 rfl rfl ?_
    refine zj_iload_n dk_19_44 rfl ?_
    refine zi_invV dk_19_45 ml_7_38 iv_21 (ct_21 (d := d - 1) g0 g1 g2 g3 g4 hz hw hx) (by first | assumption | exact zz_up_eq _ _ _ | omega | exact Ne.symm (by assumption) | (refine (zz_up_ne ?_).trans ?_ <;> first | assumption | exact zz_up_eq _ _ _ | omega | exact Ne.symm (by assumption) | (refine (zz_up_ne ?_).trans ?_ <;> first | assumption | exact zz_up_eq _ _ _ | omega | exact Ne.symm (by assumption) | (refine (zz_up_ne ?_).trans ?_ <;> first | assumption | exact zz_up_eq _ _ _ | omega | exact Ne.symm (by assumption))))) rfl rfl rfl (Nat.le_of_ble_eq_true rfl) (by omega) rfl rfl (fun r n' h' hq => ?_)
    obtain ⟨rfl, rfl, rfl⟩ := hq
    refine zj_if_eq (t := 63) dk_19_48 rfl (by split <;> omega) (fun c48 => ?_) (fun c48 => ?_)
    · skip
      refine zj_iconst dk_19_63 ?_
      refine zj_zreturn dk_19_64 rfl (by omega) ⟨by congr 2; unfold ex_ct; (try split at c48) <;> (try split at c56) <;> (repeat' split) <;> omega, rfl, rfl⟩
    · skip
      refine zi_aload_n dk_19_51 rfl rfl ?_
      refine zj_iload_n dk_19_52 rfl ?_
      refine zi_invV dk_19_53 ml_7_38 iv_21 (ct_21 (d := d - 1) g0 g1 g2 g3 g4 hz hw hy) (by first | assumption | exact zz_up_eq _ _ _ | omega | exact Ne.symm (by assumption) | (refine (zz_up_ne ?_).trans ?_ <;> first | assumption | exact zz_up_eq _ _ _ | omega | exact Ne.symm (by assumption) | (refine (zz_up_ne ?_).trans ?_ <;> first | assumption | exact zz_up_eq _ _ _ | omega | exact Ne.symm (by assumption) | (refine (zz_up_ne ?_).trans ?_ <;> first | assumption | exact zz_up_eq _ _ _ | omega | exact Ne.symm (by assumption))))) rfl rfl rfl (Nat.le_of_ble_eq_true rfl) (by omega) rfl rfl (fun r n' h' hq => ?_)
      obtain ⟨rfl, rfl, rfl⟩ := hq
      refine zj_if_eq (t := 63) dk_19_56 rfl (by split <;> omega) (fun c56 => ?_) (fun c56 => ?_)
      · skip
        refine zj_iconst dk_19_63 ?_
        refine zj_zreturn dk_19_64 rfl (by omega) ⟨by congr 2; unfold ex_ct; (try split at c48) <;> (try split at c56) <;> (repeat' split) <;> omega, rfl, rfl⟩
      · skip
        refine zj_iconst dk_19_59 ?_
        refine zi_goto (t := 64) dk_19_60 rfl ?_
        refine zj_zreturn dk_19_64 rfl (by omega) ⟨by congr 2; unfold ex_ct; (try split at c48) <;> (try split at c56) <;> (repeat' split) <;> omega, rfl, rfl⟩
  · refine zj_iload_n dk_19_0 rfl ?_
    refine zj_tabIn (t := 43) dk_19_1 (by decide) rfl rfl ?_
    refine zi_aload_n dk_19_43 rfl rfl ?_
    refine zj_iload_n dk_19_44 rfl ?_
    refine zi_invV dk_19_45 ml_7_38 iv_21 (ct_21 (d := d - 1) g0 g1 g2 g3 g4 hz hw hx) (by first | assumption | exact zz_up_eq _ _ _ | omega | exact Ne.symm (by assumption) | (refine (zz_up_ne ?_).trans ?_ <;> first | assumption | exact zz_up_eq _ _ _ | omega | exact Ne.symm (by assumption) | (refine (zz_up_ne ?_).trans ?_ <;> first | assumption | exact zz_up_eq _ _ _ | omega | exact Ne.symm (by assumption) | (refine (zz_up_ne ?_).trans ?_ <;> first | assumption | exact zz_up_eq _ _ _ | omega | exact Ne.symm (by assumption))))) rfl rfl rfl (Nat.le_of_ble_eq_true rfl) (by omega) rfl rfl (fun r n' h' hq => ?_)
    obtain ⟨rfl, rfl, rfl⟩ := hq
    refine zj_if_eq (t := 63) dk_19_48 rfl (by split <;> omega) (fun c48 => ?_) (fun c48 => ?_)
    · skip
      refine zj_iconst dk_19_63 ?_
      refine zj_zreturn dk_19_64 rfl (by omega) ⟨by congr 2; unfold ex_ct; (try split at c48) <;> (try split at c56) <;> (repeat' split) <;> omega, rfl, rfl⟩
    · skip
      refine zi_aload_n dk_19_51 rfl rfl ?_
      refine zj_iload_n dk_19_52 rfl ?_
      refine zi_invV dk_19_53 ml_7_38 iv_21 (ct_21 (d := d - 1) g0 g1 g2 g3 g4 hz hw hy) (by first | assumption | exact zz_up_eq _ _ _ | omega | exact Ne.symm (by assumption) | (refine (zz_up_ne ?_).trans ?_ <;> first | assumption | exact zz_up_eq _ _ _ | omega | exact Ne.symm (by assumption) | (refine (zz_up_ne ?_).trans ?_ <;> first | assumption | exact zz_up_eq _ _ _ | omega | exact Ne.symm (by assumption) | (refine (zz_up_ne ?_).trans ?_ <;> first | assumption | exact zz_up_eq _ _ _ | omega | exact Ne.symm (by assumption))))) rfl rfl rfl (Nat.le_of_ble_eq_true rfl) (by omega) rfl rfl (fun r n' h' hq => ?_)
      obtain ⟨rfl, rfl, rfl⟩ := hq
      refine zj_if_eq (t := 63) dk_19_56 rfl (by split <;> omega) (fun c56 => ?_) (fun c56 => ?_)
      · skip
        refine zj_iconst dk_19_63 ?_
        refine zj_zreturn dk_19_64 rfl (by omega) ⟨by congr 2; unfold ex_ct; (try split at c48) <;> (try split at c56) <;> (repeat' split) <;> omega, rfl, rfl⟩
      · skip
        refine zj_iconst dk_19_59 ?_
        refine zi_goto (t := 64) dk_19_60 rfl ?_
        refine zj_zreturn dk_19_64 rfl (by omega) ⟨by congr 2; unfold ex_ct; (try split at c48) <;> (try split at c56) <;> (repeat' split) <;> omega, rfl, rfl⟩
  · refine zj_iload_n dk_19_0 rfl ?_
    refine zj_tabOut (t := 65) dk_19_1 (by decide) rfl ?_
    refine zj_iconst dk_19_65 ?_
    refine zj_zreturn dk_19_66 rfl (by omega) ⟨rfl, rfl, rfl⟩
  · refine zj_iload_n dk_19_0 rfl ?_
    refine zj_tabOut (t := 65) dk_19_1 (by decide) rfl ?_
    refine zj_iconst dk_19_65 ?_
    refine zj_zreturn dk_19_66 rfl (by omega) ⟨rfl, rfl, rfl⟩
  · refine zj_iload_n dk_19_0 rfl ?_
    refine zj_tabOut (t := 65) dk_19_1 (by decide) rfl ?_
    refine zj_iconst dk_19_65 ?_
    refine zj_zreturn dk_19_66 rfl (by omega) ⟨rfl, rfl, rfl⟩

theorem ct_18 {X : zz_X} {d n : Nat} {h : zz_H} (hd : 2 ≤ d) {co : Nat} {o a b v : Int → Int} {sz : Int} (g0 : h co = some (.inr (7, [.ref (co + 1), .ref (co + 2), .ref (co + 3), .ref (co + 4), zv sz]))) (g1 : h (co + 1) = some (zA 0 16 o)) (g2 : h (co + 2) = some (zA 0 16 a)) (g3 : h (co + 3) = some (zA 0 16 b)) (g4 : h (co + 4) = some (zA 0 16 v)) (hz : 0 ≤ sz ∧ sz ≤ 16) (hw : ex_W o a b sz) {op x y : Int} (hop : -2147483648 ≤ op ∧ op < 2147483648) (hx : -2147483648 ≤ x ∧ x < 2147483648) (hy : -2147483648 ≤ y ∧ y < 2147483648) : zz_Ct X mm_18 d 0 0 [.ref co, zv op, zv x, zv y] n h (fun r n' h' => n' = n ∧ (((sz < 16 ∧ (0 ≤ op ∧ op ≤ 9) ∧ (ex_ct op x y sz) = 1) ∧ r = some (zv sz) ∧ h' = zz_up (zz_up (zz_up (zz_up h (co + 1) (zA 0 16 (zU o sz op))) (co + 2) (zA 0 16 (zU a sz x))) (co + 3) (zA 0 16 (zU b sz y))) co (.inr (7, [.ref (co + 1), .ref (co + 2), .ref (co + 3), .ref (co + 4), zv (sz + 1)]))) ∨ (¬ (sz < 16 ∧ (0 ≤ op ∧ op ≤ 9) ∧ (ex_ct op x y sz) = 1) ∧ r = some (zv (-1)) ∧ h' = h))) := by
  refine zz_start (by decide) (ls := [some (.ref co), some (zv op), some (zv x), some (zv y)]) rfl ?_
  have q1 : (ex_ct op x y sz) = 0 ∨ (ex_ct op x y sz) = 1 := by unfold ex_ct; (repeat' split) <;> omega
  generalize hct : (ex_ct op x y sz) = ctk at q1 ⊢
  refine zi_aload_n dk_18_0 rfl rfl ?_
  refine zi_getf dk_18_1 fl_7_24 (by first | assumption | exact zz_up_eq _ _ _ | omega | exact Ne.symm (by assumption) | (refine (zz_up_ne ?_).trans ?_ <;> first | assumption | exact zz_up_eq _ _ _ | omega | exact Ne.symm (by assumption) | (refine (zz_up_ne ?_).trans ?_ <;> first | assumption | exact zz_up_eq _ _ _ | omega | exact Ne.symm (by assumption) | (refine (zz_up_ne ?_).trans ?_ <;> first | assumption | exact zz_up_eq _ _ _ | omega | exact Ne.symm (by assumption))))) rfl ?_
  refine zj_bipush dk_18_4 (by decide) ?_
  refine zj_icmp_ge (t := 29) dk_18_6 rfl (by omega) (fun c6 => ?_) (fun c6 => ?_)
  · skip
    refine zj_iconst dk_18_29 ?_
    refine zj_ireturn dk_18_30 rfl ⟨rfl, Or.inr ⟨by omega, rfl, rfl⟩⟩
  · skip
    refine zj_iload_n dk_18_9 rfl ?_
    refine zj_if_lt (t := 29) dk_18_10 rfl (by omega) (fun c10 => ?_) (fun c10 => ?_)
    · skip
      refine zj_iconst dk_18_29 ?_
      refine zj_ireturn dk_18_30 rfl ⟨rfl, Or.inr ⟨by omega, rfl, rfl⟩⟩
    · skip
      refine zj_iload_n dk_18_13 rfl ?_
      refine zj_bipush dk_18_14 (by decide) ?_
      refine zj_icmp_gt (t := 29) dk_18_16 rfl (by omega) (fun c16 => ?_) (fun c16 => ?_)
      · skip
        refine zj_iconst dk_18_29 ?_
        refine zj_ireturn dk_18_30 rfl ⟨rfl, Or.inr ⟨by omega, rfl, rfl⟩⟩
      · skip
        refine zi_aload_n dk_18_19 rfl rfl ?_
        refine zj_iload_n dk_18_20 rfl ?_
        refine zj_iload_n dk_18_21 rfl ?_
        refine zj_iload_n dk_18_22 rfl ?_
        refine zi_invV dk_18_23 ml_7_28 iv_19 (ct_19 (d := d - 1) (by omega) g0 g1 g2 g3 g4 hz hw (by omega) hx hy) (by first | assumption | exact zz_up_eq _ _ _ | omega | exact Ne.symm (by assumption) | (refine (zz_up_ne ?_).trans ?_ <;> first | assumption | exact zz_up_eq _ _ _ | omega | exact Ne.symm (by assumption) | (refine (zz_up_ne ?_).trans ?_ <;> first | assumption | exact zz_up_eq _ _ _ | omega | exact Ne.symm (by assumption) | (refine (zz_up_ne ?_).trans ?_ <;> first | assumption | exact zz_up_eq _ _ _ | omega | exact Ne.symm (by assumption))))) rfl rfl rfl (Nat.le_of_ble_eq_true rfl) (by omega) rfl rfl (fun r n' h' hq => ?_)
        obtain ⟨rfl, rfl, rfl⟩ := hq
        try rw [hct]
        refine zj_if_ne (t := 31) dk_18_26 rfl (by omega) (fun c26 => ?_) (fun c26 => ?_)
        · skip
          refine zi_aload_n dk_18_31 rfl rfl ?_
          refine zi_getf dk_18_32 fl_7_9 (by first | assumption | exact zz_up_eq _ _ _ | omega | exact Ne.symm (by assumption) | (refine (zz_up_ne ?_).trans ?_ <;> first | assumption | exact zz_up_eq _ _ _ | omega | exact Ne.symm (by assumption) | (refine (zz_up_ne ?_).trans ?_ <;> first | assumption | exact zz_up_eq _ _ _ | omega | exact Ne.symm (by assumption) | (refine (zz_up_ne ?_).trans ?_ <;> first | assumption | exact zz_up_eq _ _ _ | omega | exact Ne.symm (by assumption))))) rfl ?_
          refine zi_aload_n dk_18_35 rfl rfl ?_
          refine zi_getf dk_18_36 fl_7_24 (by first | assumption | exact zz_up_eq _ _ _ | omega | exact Ne.symm (by assumption) | (refine (zz_up_ne ?_).trans ?_ <;> first | assumption | exact zz_up_eq _ _ _ | omega | exact Ne.symm (by assumption) | (refine (zz_up_ne ?_).trans ?_ <;> first | assumption | exact zz_up_eq _ _ _ | omega | exact Ne.symm (by assumption) | (refine (zz_up_ne ?_).trans ?_ <;> first | assumption | exact zz_up_eq _ _ _ | omega | exact Ne.symm (by assumption))))) rfl ?_
          refine zj_iload_n dk_18_39 rfl ?_
          refine zj_iast dk_18_40 (by first | assumption | exact zz_up_eq _ _ _ | omega | exact Ne.symm (by assumption) | (refine (zz_up_ne ?_).trans ?_ <;> first | assumption | exact zz_up_eq _ _ _ | omega | exact Ne.symm (by assumption) | (refine (zz_up_ne ?_).trans ?_ <;> first | assumption | exact zz_up_eq _ _ _ | omega | exact Ne.symm (by assumption) | (refine (zz_up_ne ?_).trans ?_ <;> first | assumption | exact zz_up_eq _ _ _ | omega | exact Ne.symm (by assumption))))) (by omega) ?_
          refine zi_aload_n dk_18_41 rfl rfl ?_
          refine zi_getf dk_18_42 fl_7_15 (by first | assumption | exact zz_up_eq _ _ _ | omega | exact Ne.symm (by assumption) | (refine (zz_up_ne ?_).trans ?_ <;> first | assumption | exact zz_up_eq _ _ _ | omega | exact Ne.symm (by assumption) | (refine (zz_up_ne ?_).trans ?_ <;> first | assumption | exact zz_up_eq _ _ _ | omega | exact Ne.symm (by assumption) | (refine (zz_up_ne ?_).trans ?_ <;> first | assumption | exact zz_up_eq _ _ _ | omega | exact Ne.symm (by assumption))))) rfl ?_
          refine zi_aload_n dk_18_45 rfl rfl ?_
          refine zi_getf dk_18_46 fl_7_24 (by first | assumption | exact zz_up_eq _ _ _ | omega | exact Ne.symm (by assumption) | (refine (zz_up_ne ?_).trans ?_ <;> first | assumption | exact zz_up_eq _ _ _ | omega | exact Ne.symm (by assumption) | (refine (zz_up_ne ?_).trans ?_ <;> first | assumption | exact zz_up_eq _ _ _ | omega | exact Ne.symm (by assumption) | (refine (zz_up_ne ?_).trans ?_ <;> first | assumption | exact zz_up_eq _ _ _ | omega | exact Ne.symm (by assumption))))) rfl ?_
          refine zj_iload_n dk_18_49 rfl ?_
          refine zj_iast dk_18_50 (by first | assumption | exact zz_up_eq _ _ _ | omega | exact Ne.symm (by assumption) | (refine (zz_up_ne ?_).trans ?_ <;> first | assumption | exact zz_up_eq _ _ _ | omega | exact Ne.symm (by assumption) | (refine (zz_up_ne ?_).trans ?_ <;> first | assumption | exact zz_up_eq _ _ _ | omega | exact Ne.symm (by assumption) | (refine (zz_up_ne ?_).trans ?_ <;> first | assumption | exact zz_up_eq _ _ _ | omega | exact Ne.symm (by assumption))))) (by omega) ?_
          refine zi_aload_n dk_18_51 rfl rfl ?_
          refine zi_getf dk_18_52 fl_7_18 (by first | assumption | exact zz_up_eq _ _ _ | omega | exact Ne.symm (by assumption) | (refine (zz_up_ne ?_).trans ?_ <;> first | assumption | exact zz_up_eq _ _ _ | omega | exact Ne.symm (by assumption) | (refine (zz_up_ne ?_).trans ?_ <;> first | assumption | exact zz_up_eq _ _ _ | omega | exact Ne.symm (by assumption) | (refine (zz_up_ne ?_).trans ?_ <;> first | assumption | exact zz_up_eq _ _ _ | omega | exact Ne.symm (by assumption))))) rfl ?_
          refine zi_aload_n dk_18_55 rfl rfl ?_
          refine zi_getf dk_18_56 fl_7_24 (by first | assumption | exact zz_up_eq _ _ _ | omega | exact Ne.symm (by assumption) | (refine (zz_up_ne ?_).trans ?_ <;> first | assumption | exact zz_up_eq _ _ _ | omega | exact Ne.symm (by assumption) | (refine (zz_up_ne ?_).trans ?_ <;> first | assumption | exact zz_up_eq _ _ _ | omega | exact Ne.symm (by assumption) | (refine (zz_up_ne ?_).trans ?_ <;> first | assumption | exact zz_up_eq _ _ _ | omega | exact Ne.symm (by assumption))))) rfl ?_
          refine zj_iload_n dk_18_59 rfl ?_
          refine zj_iast dk_18_60 (by first | assumption | exact zz_up_eq _ _ _ | omega | exact Ne.symm (by assumption) | (refine (zz_up_ne ?_).trans ?_ <;> first | assumption | exact zz_up_eq _ _ _ | omega | exact Ne.symm (by assumption) | (refine (zz_up_ne ?_).trans ?_ <;> first | assumption | exact zz_up_eq _ _ _ | omega | exact Ne.symm (by assumption) | (refine (zz_up_ne ?_).trans ?_ <;> first | assumption | exact zz_up_eq _ _ _ | omega | exact Ne.symm (by assumption))))) (by omega) ?_
          refine zi_aload_n dk_18_61 rfl rfl ?_
          refine zi_dup dk_18_62 rfl ?_
          refine zi_getf dk_18_63 fl_7_24 (by first | assumption | exact zz_up_eq _ _ _ | omega | exact Ne.symm (by assumption) | (refine (zz_up_ne ?_).trans ?_ <;> first | assumption | exact zz_up_eq _ _ _ | omega | exact Ne.symm (by assumption) | (refine (zz_up_ne ?_).trans ?_ <;> first | assumption | exact zz_up_eq _ _ _ | omega | exact Ne.symm (by assumption) | (refine (zz_up_ne ?_).trans ?_ <;> first | assumption | exact zz_up_eq _ _ _ | omega | exact Ne.symm (by assumption))))) rfl ?_
          refine zj_iconst dk_18_66 ?_
          refine zj_iadd dk_18_67 ?_
          refine zj_putI dk_18_68 fp_18_24 (by first | assumption | exact zz_up_eq _ _ _ | omega | exact Ne.symm (by assumption) | (refine (zz_up_ne ?_).trans ?_ <;> first | assumption | exact zz_up_eq _ _ _ | omega | exact Ne.symm (by assumption) | (refine (zz_up_ne ?_).trans ?_ <;> first | assumption | exact zz_up_eq _ _ _ | omega | exact Ne.symm (by assumption) | (refine (zz_up_ne ?_).trans ?_ <;> first | assumption | exact zz_up_eq _ _ _ | omega | exact Ne.symm (by assumption))))) rfl ?_
          refine zi_aload_n dk_18_71 rfl rfl ?_
          refine zi_getf dk_18_72 fl_7_24 (by first | assumption | exact zz_up_eq _ _ _ | omega | exact Ne.symm (by assumption) | (refine (zz_up_ne ?_).trans ?_ <;> first | assumption | exact zz_up_eq _ _ _ | omega | exact Ne.symm (by assumption) | (refine (zz_up_ne ?_).trans ?_ <;> first | assumption | exact zz_up_eq _ _ _ | omega | exact Ne.symm (by assumption) | (refine (zz_up_ne ?_).trans ?_ <;> first | assumption | exact zz_up_eq _ _ _ | omega | exact Ne.symm (by assumption))))) rfl ?_
          refine zj_iconst dk_18_75 ?_
          refine zj_isub dk_18_76 ?_
          refine zj_ireturn dk_18_77 rfl ⟨rfl, Or.inl ⟨by omega, by congr 2; omega, rfl⟩⟩
        · skip
          refine zj_iconst dk_18_29 ?_
          refine zj_ireturn dk_18_30 rfl ⟨rfl, Or.inr ⟨by omega, rfl, rfl⟩⟩

theorem ct_110 {X : zz_X} {d n : Nat} {h : zz_H} (hd : 1 ≤ d) {co : Nat} {o a b v : Int → Int} {sz : Int} (g0 : h co = some (.inr (7, [.ref (co + 1), .ref (co + 2), .ref (co + 3), .ref (co + 4), zv sz]))) (g1 : h (co + 1) = some (zA 0 16 o)) (g2 : h (co + 2) = some (zA 0 16 a)) (g3 : h (co + 3) = some (zA 0 16 b)) (g4 : h (co + 4) = some (zA 0 16 v)) (hz : 0 ≤ sz ∧ sz ≤ 16) (hw : ex_W o a b sz) (hv : ex_V v) {i : Int} (hi : 0 ≤ i ∧ i < sz) (hj : 4 ≤ o i ∧ o i ≤ 6) : zz_Ct X mm_110 d 0 0 [.ref co, zv i] n h (zp (some (zv (ex_jv (o i) (v (a i)) (v (b i))))) n h) := by
  refine zz_start (by decide) (ls := [some (.ref co), some (zv i), none, none]) rfl ?_
  obtain ⟨w1, w2, w3, w4, w5, w6⟩ := hw i hi.1 hi.2
  have w5 := w5 hj
  have v1 := hv (a i) w5.1 (by omega)
  refine zi_aload_n dk_110_0 rfl rfl ?_
  refine zi_getf dk_110_1 fl_7_21 (by first | assumption | exact zz_up_eq _ _ _ | omega | exact Ne.symm (by assumption) | (refine (zz_up_ne ?_).trans ?_ <;> first | assumption | exact zz_up_eq _ _ _ | omega | exact Ne.symm (by assumption) | (refine (zz_up_ne ?_).trans ?_ <;> first | assumption | exact zz_up_eq _ _ _ | omega | exact Ne.symm (by assumption) | (refine (zz_up_ne ?_).trans ?_ <;> first | assumption | exact zz_up_eq _ _ _ | omega | exact Ne.symm (by assumption))))) rfl ?_
  refine zi_aload_n dk_110_4 rfl rfl ?_
  refine zi_getf dk_110_5 fl_7_15 (by first | assumption | exact zz_up_eq _ _ _ | omega | exact Ne.symm (by assumption) | (refine (zz_up_ne ?_).trans ?_ <;> first | assumption | exact zz_up_eq _ _ _ | omega | exact Ne.symm (by assumption) | (refine (zz_up_ne ?_).trans ?_ <;> first | assumption | exact zz_up_eq _ _ _ | omega | exact Ne.symm (by assumption) | (refine (zz_up_ne ?_).trans ?_ <;> first | assumption | exact zz_up_eq _ _ _ | omega | exact Ne.symm (by assumption))))) rfl ?_
  refine zj_iload_n dk_110_8 rfl ?_
  refine zj_iald dk_110_9 (by first | assumption | exact zz_up_eq _ _ _ | omega | exact Ne.symm (by assumption) | (refine (zz_up_ne ?_).trans ?_ <;> first | assumption | exact zz_up_eq _ _ _ | omega | exact Ne.symm (by assumption) | (refine (zz_up_ne ?_).trans ?_ <;> first | assumption | exact zz_up_eq _ _ _ | omega | exact Ne.symm (by assumption) | (refine (zz_up_ne ?_).trans ?_ <;> first | assumption | exact zz_up_eq _ _ _ | omega | exact Ne.symm (by assumption))))) (by omega) ?_
  refine zj_iald dk_110_10 (by first | assumption | exact zz_up_eq _ _ _ | omega | exact Ne.symm (by assumption) | (refine (zz_up_ne ?_).trans ?_ <;> first | assumption | exact zz_up_eq _ _ _ | omega | exact Ne.symm (by assumption) | (refine (zz_up_ne ?_).trans ?_ <;> first | assumption | exact zz_up_eq _ _ _ | omega | exact Ne.symm (by assumption) | (refine (zz_up_ne ?_).trans ?_ <;> first | assumption | exact zz_up_eq _ _ _ | omega | exact Ne.symm (by assumption))))) (by omega) ?_
  refine zj_istore_n dk_110_11 rfl ?_
  refine zj_iload_n dk_110_12 rfl ?_
  refine zj_iconst dk_110_13 ?_
  refine zj_icmp_ne (t := 19) dk_110_14 rfl (by omega) (fun c14 => ?_) (fun c14 => ?_)
  · skip
    refine zi_aload_n dk_110_19 rfl rfl ?_
    refine zi_getf dk_110_20 fl_7_9 (by first | assumption | exact zz_up_eq _ _ _ | omega | exact Ne.symm (by assumption) | (refine (zz_up_ne ?_).trans ?_ <;> first | assumption | exact zz_up_eq _ _ _ | omega | exact Ne.symm (by assumption) | (refine (zz_up_ne ?_).trans ?_ <;> first | assumption | exact zz_up_eq _ _ _ | omega | exact Ne.symm (by assumption) | (refine (zz_up_ne ?_).trans ?_ <;> first | assumption | exact zz_up_eq _ _ _ | omega | exact Ne.symm (by assumption))))) rfl ?_
    refine zj_iload_n dk_110_23 rfl ?_
    refine zj_iald dk_110_24 (by first | assumption | exact zz_up_eq _ _ _ | omega | exact Ne.symm (by assumption) | (refine (zz_up_ne ?_).trans ?_ <;> first | assumption | exact zz_up_eq _ _ _ | omega | exact Ne.symm (by assumption) | (refine (zz_up_ne ?_).trans ?_ <;> first | assumption | exact zz_up_eq _ _ _ | omega | exact Ne.symm (by assumption) | (refine (zz_up_ne ?_).trans ?_ <;> first | assumption | exact zz_up_eq _ _ _ | omega | exact Ne.symm (by assumption))))) (by omega) ?_
    refine zj_iconst dk_110_25 ?_
    refine zj_icmp_ne (t := 42) dk_110_26 rfl (by omega) (fun c26 => ?_) (fun c26 => ?_)
    · skip
      refine zi_aload_n dk_110_42 rfl rfl ?_
      refine zi_getf dk_110_43 fl_7_9 (by first | assumption | exact zz_up_eq _ _ _ | omega | exact Ne.symm (by assumption) | (refine (zz_up_ne ?_).trans ?_ <;> first | assumption | exact zz_up_eq _ _ _ | omega | exact Ne.symm (by assumption) | (refine (zz_up_ne ?_).trans ?_ <;> first | assumption | exact zz_up_eq _ _ _ | omega | exact Ne.symm (by assumption) | (refine (zz_up_ne ?_).trans ?_ <;> first | assumption | exact zz_up_eq _ _ _ | omega | exact Ne.symm (by assumption))))) rfl ?_
      refine zj_iload_n dk_110_46 rfl ?_
      refine zj_iald dk_110_47 (by first | assumption | exact zz_up_eq _ _ _ | omega | exact Ne.symm (by assumption) | (refine (zz_up_ne ?_).trans ?_ <;> first | assumption | exact zz_up_eq _ _ _ | omega | exact Ne.symm (by assumption) | (refine (zz_up_ne ?_).trans ?_ <;> first | assumption | exact zz_up_eq _ _ _ | omega | exact Ne.symm (by assumption) | (refine (zz_up_ne ?_).trans ?_ <;> first | assumption | exact zz_up_eq _ _ _ | omega | exact Ne.symm (by assumption))))) (by omega) ?_
      refine zj_iconst dk_110_48 ?_
      refine zj_icmp_ne (t := 56) dk_110_49 rfl (by omega) (fun c49 => ?_) (fun c49 => ?_)
      · skip
        refine zj_iconst dk_110_56 ?_
        refine zj_istore_n dk_110_57 rfl ?_
        refine zj_iload_n dk_110_58 rfl ?_
        refine zj_iload_n dk_110_59 rfl ?_
        refine zj_icmp_ne (t := 67) dk_110_60 rfl (by omega) (fun c60 => ?_) (fun c60 => ?_)
        · skip
          refine zi_aload_n dk_110_67 rfl rfl ?_
          refine zi_getf dk_110_68 fl_7_21 (by first | assumption | exact zz_up_eq _ _ _ | omega | exact Ne.symm (by assumption) | (refine (zz_up_ne ?_).trans ?_ <;> first | assumption | exact zz_up_eq _ _ _ | omega | exact Ne.symm (by assumption) | (refine (zz_up_ne ?_).trans ?_ <;> first | assumption | exact zz_up_eq _ _ _ | omega | exact Ne.symm (by assumption) | (refine (zz_up_ne ?_).trans ?_ <;> first | assumption | exact zz_up_eq _ _ _ | omega | exact Ne.symm (by assumption))))) rfl ?_
          refine zi_aload_n dk_110_71 rfl rfl ?_
          refine zi_getf dk_110_72 fl_7_18 (by first | assumption | exact zz_up_eq _ _ _ | omega | exact Ne.symm (by assumption) | (refine (zz_up_ne ?_).trans ?_ <;> first | assumption | exact zz_up_eq _ _ _ | omega | exact Ne.symm (by assumption) | (refine (zz_up_ne ?_).trans ?_ <;> first | assumption | exact zz_up_eq _ _ _ | omega | exact Ne.symm (by assumption) | (refine (zz_up_ne ?_).trans ?_ <;> first | assumption | exact zz_up_eq _ _ _ | omega | exact Ne.symm (by assumption))))) rfl ?_
          refine zj_iload_n dk_110_75 rfl ?_
          refine zj_iald dk_110_76 (by first | assumption | exact zz_up_eq _ _ _ | omega | exact Ne.symm (by assumption) | (refine (zz_up_ne ?_).trans ?_ <;> first | assumption | exact zz_up_eq _ _ _ | omega | exact Ne.symm (by assumption) | (refine (zz_up_ne ?_).trans ?_ <;> first | assumption | exact zz_up_eq _ _ _ | omega | exact Ne.symm (by assumption) | (refine (zz_up_ne ?_).trans ?_ <;> first | assumption | exact zz_up_eq _ _ _ | omega | exact Ne.symm (by assumption))))) (by omega) ?_
          have w6 := w6 (by omega)
          have v2 := hv (b i) w6.1 (by omega)
          refine zj_iald dk_110_77 (by first | assumption | exact zz_up_eq _ _ _ | omega | exact Ne.symm (by assumption) | (refine (zz_up_ne ?_).trans ?_ <;> first | assumption | exact zz_up_eq _ _ _ | omega | exact Ne.symm (by assumption) | (refine (zz_up_ne ?_).trans ?_ <;> first | assumption | exact zz_up_eq _ _ _ | omega | exact Ne.symm (by assumption) | (refine (zz_up_ne ?_).trans ?_ <;> first | assumption | exact zz_up_eq _ _ _ | omega | exact Ne.symm (by assumption))))) (by omega) ?_
          refine zj_ireturn dk_110_78 rfl ⟨by congr 2; unfold ex_jv; (repeat' split) <;> omega, rfl, rfl⟩
        · skip
          refine zj_iload_n dk_110_63 rfl ?_
          refine zi_goto (t := 78) dk_110_64 rfl ?_
          refine zj_ireturn dk_110_78 rfl ⟨by congr 2; unfold ex_jv; (repeat' split) <;> omega, rfl, rfl⟩
      · skip
        refine zj_iconst dk_110_52 ?_
        refine zi_goto (t := 57) dk_110_53 rfl ?_
        refine zj_istore_n dk_110_57 rfl ?_
        refine zj_iload_n dk_110_58 rfl ?_
        refine zj_iload_n dk_110_59 rfl ?_
        refine zj_icmp_ne (t := 67) dk_110_60 rfl (by omega) (fun c60 => ?_) (fun c60 => ?_)
        · skip
          refine zi_aload_n dk_110_67 rfl rfl ?_
          refine zi_getf dk_110_68 fl_7_21 (by first | assumption | exact zz_up_eq _ _ _ | omega | exact Ne.symm (by assumption) | (refine (zz_up_ne ?_).trans ?_ <;> first | assumption | exact zz_up_eq _ _ _ | omega | exact Ne.symm (by assumption) | (refine (zz_up_ne ?_).trans ?_ <;> first | assumption | exact zz_up_eq _ _ _ | omega | exact Ne.symm (by assumption) | (refine (zz_up_ne ?_).trans ?_ <;> first | assumption | exact zz_up_eq _ _ _ | omega | exact Ne.symm (by assumption))))) rfl ?_
          refine zi_aload_n dk_110_71 rfl rfl ?_
          refine zi_getf dk_110_72 fl_7_18 (by first | assumption | exact zz_up_eq _ _ _ | omega | exact Ne.symm (by assumption) | (refine (zz_up_ne ?_).trans ?_ <;> first | assumption | exact zz_up_eq _ _ _ | omega | exact Ne.symm (by assumption) | (refine (zz_up_ne ?_).trans ?_ <;> first | assumption | exact zz_up_eq _ _ _ | omega | exact Ne.symm (by assumption) | (refine (zz_up_ne ?_).trans ?_ <;> first | assumption | exact zz_up_eq _ _ _ | omega | exact Ne.symm (by assumption))))) rfl ?_
          refine zj_iload_n dk_110_75 rfl ?_
          refine zj_iald dk_110_76 (by first | assumption | exact zz_up_eq _ _ _ | omega | exact Ne.symm (by assumption) | (refine (zz_up_ne ?_).trans ?_ <;> first | assumption | exact zz_up_eq _ _ _ | omega | exact Ne.symm (by assumption) | (refine (zz_up_ne ?_).trans ?_ <;> first | assumption | exact zz_up_eq _ _ _ | omega | exact Ne.symm (by assumption) | (refine (zz_up_ne ?_).trans ?_ <;> first | assumption | exact zz_up_eq _ _ _ | omega | exact Ne.symm (by assumption))))) (by omega) ?_
          have w6 := w6 (by omega)
          have v2 := hv (b i) w6.1 (by omega)
          refine zj_iald dk_110_77 (by first | assumption | exact zz_up_eq _ _ _ | omega | exact Ne.symm (by assumption) | (refine (zz_up_ne ?_).trans ?_ <;> first | assumption | exact zz_up_eq _ _ _ | omega | exact Ne.symm (by assumption) | (refine (zz_up_ne ?_).trans ?_ <;> first | assumption | exact zz_up_eq _ _ _ | omega | exact Ne.symm (by assumption) | (refine (zz_up_ne ?_).trans ?_ <;> first | assumption | exact zz_up_eq _ _ _ | omega | exact Ne.symm (by assumption))))) (by omega) ?_
          refine zj_ireturn dk_110_78 rfl ⟨by congr 2; unfold ex_jv; (repeat' split) <;> omega, rfl, rfl⟩
        · skip
          refine zj_iload_n dk_110_63 rfl ?_
          refine zi_goto (t := 78) dk_110_64 rfl ?_
          refine zj_ireturn dk_110_78 rfl ⟨by congr 2; unfold ex_jv; (repeat' split) <;> omega, rfl, rfl⟩
    · skip
      refine zj_iload_n dk_110_29 rfl ?_
      refine zj_if_ne (t := 37) dk_110_30 rfl (by omega) (fun c30 => ?_) (fun c30 => ?_)
      · skip
        refine zj_iconst dk_110_37 ?_
        refine zi_invS dk_110_38 ml_7_49 is_111 (ct_111 (d := d - 1) (by omega)) rfl rfl (Nat.le_of_ble_eq_true rfl) (by omega) rfl rfl (fun r n' h' hq => ?_)
        obtain ⟨rfl, rfl, rfl⟩ := hq
        refine zj_ireturn dk_110_41 rfl ⟨by congr 2; unfold ex_jv; (repeat' split) <;> omega, rfl, rfl⟩
      · skip
        refine zj_iconst dk_110_33 ?_
        refine zi_goto (t := 38) dk_110_34 rfl ?_
        refine zi_invS dk_110_38 ml_7_49 is_111 (ct_111 (d := d - 1) (by omega)) rfl rfl (Nat.le_of_ble_eq_true rfl) (by omega) rfl rfl (fun r n' h' hq => ?_)
        obtain ⟨rfl, rfl, rfl⟩ := hq
        refine zj_ireturn dk_110_41 rfl ⟨by congr 2; unfold ex_jv; (repeat' split) <;> omega, rfl, rfl⟩
  · skip
    refine zj_iconst dk_110_17 ?_
    refine zj_ireturn dk_110_18 rfl ⟨by congr 2; unfold ex_jv; (repeat' split) <;> omega, rfl, rfl⟩

theorem exs_0 (a b ask held arg : Int) : ex_sv 0 a b ask held arg = 1 := rfl
theorem exs_1 (a b ask held arg : Int) : ex_sv 1 a b ask held arg = (if ask ≠ -1 then 1 else 0) := rfl
theorem exs_2 (a b ask held arg : Int) : ex_sv 2 a b ask held arg = (if ask ≠ -1 ∧ ask < 8 then 1 else 0) := rfl
theorem exs_3 (a b ask held arg : Int) : ex_sv 3 a b ask held arg = (if ask ≠ -1 ∧ bz (zb_bit held a) = 1 then 1 else 0) := rfl
theorem exs_4 (a b ask held arg : Int) : ex_sv 4 a b ask held arg = 1 := rfl
theorem exs_5 (a b ask held arg : Int) : ex_sv 5 a b ask held arg = 1 := rfl
theorem exs_6 (a b ask held arg : Int) : ex_sv 6 a b ask held arg = 1 := rfl
theorem exs_7 (a b ask held arg : Int) : ex_sv 7 a b ask held arg = (if ask ≠ -1 ∧ arg = (if 8 ≤ ask then ask - 8 else ask) then 1 else 0) := rfl
theorem exs_8 (a b ask held arg : Int) : ex_sv 8 a b ask held arg = (if arg < a then 1 else 0) := rfl
theorem exs_9 (a b ask held arg : Int) : ex_sv 9 a b ask held arg = (if arg = 0 then 2 else if a ≤ zb_div b arg then 1 else 0) := rfl
theorem ct_112_0 {X : zz_X} {d n : Nat} {h : zz_H} (hd : 1 ≤ d) {co : Nat} {o a b v : Int → Int} {sz : Int} (g0 : h co = some (.inr (7, [.ref (co + 1), .ref (co + 2), .ref (co + 3), .ref (co + 4), zv sz]))) (g1 : h (co + 1) = some (zA 0 16 o)) (g2 : h (co + 2) = some (zA 0 16 a)) (g3 : h (co + 3) = some (zA 0 16 b)) (g4 : h (co + 4) = some (zA 0 16 v)) (hz : 0 ≤ sz ∧ sz ≤ 16) (hw : ex_W o a b sz) {i ask held arg : Int} (hi : 0 ≤ i ∧ i < sz) (ha : -2147483648 ≤ ask ∧ ask < 2147483648) (hg : -2147483648 ≤ arg ∧ arg < 2147483648) (hop : o i = 0) : zz_Ct X mm_112 d 0 0 [.ref co, zv i, zv ask, zv held, zv arg] n h (zp (some (zv (ex_sv (o i) (a i) (b i) ask held arg))) n h) := by
  refine zz_start (by decide) (ls := [some (.ref co), some (zv i), some (zv ask), some (zv held), some (zv arg), none, none]) rfl ?_
  obtain ⟨w1, w2, w3, w4, w5, w6⟩ := hw i hi.1 hi.2
  have q1 := bz_rg (zb_bit held (a i))
  have q2 := zb_div_rg (b i) arg
  refine zj_iload_n dk_112_0 rfl ?_
  refine zj_iconst dk_112_1 ?_
  refine zj_icmp_eq (t := 9) dk_112_2 rfl (by omega) (fun c2 => ?_) (fun c2 => ?_)
  · skip
    refine zj_iconst dk_112_9 ?_
    refine zj_istore dk_112_10 rfl ?_
    refine zj_iload_n dk_112_12 rfl ?_
    refine zj_bipush dk_112_13 (by decide) ?_
    refine zj_icmp_lt (t := 22) dk_112_15 rfl (by omega) (fun c15 => ?_) (fun c15 => ?_)
    · skip
      refine zj_iconst dk_112_22 ?_
      refine zj_istore dk_112_23 rfl ?_
      refine zi_aload_n dk_112_25 rfl rfl ?_
      refine zi_getf dk_112_26 fl_7_9 (by first | assumption | exact zz_up_eq _ _ _ | omega | exact Ne.symm (by assumption) | (refine (zz_up_ne ?_).trans ?_ <;> first | assumption | exact zz_up_eq _ _ _ | omega | exact Ne.symm (by assumption) | (refine (zz_up_ne ?_).trans ?_ <;> first | assumption | exact zz_up_eq _ _ _ | omega | exact Ne.symm (by assumption) | (refine (zz_up_ne ?_).trans ?_ <;> first | assumption | exact zz_up_eq _ _ _ | omega | exact Ne.symm (by assumption))))) rfl ?_
      refine zj_iload_n dk_112_29 rfl ?_
      refine zj_iald dk_112_30 (by first | assumption | exact zz_up_eq _ _ _ | omega | exact Ne.symm (by assumption) | (refine (zz_up_ne ?_).trans ?_ <;> first | assumption | exact zz_up_eq _ _ _ | omega | exact Ne.symm (by assumption) | (refine (zz_up_ne ?_).trans ?_ <;> first | assumption | exact zz_up_eq _ _ _ | omega | exact Ne.symm (by assumption) | (refine (zz_up_ne ?_).trans ?_ <;> first | assumption | exact zz_up_eq _ _ _ | omega | exact Ne.symm (by assumption))))) (by omega) ?_
      rw [hop]
      refine zj_tabOut (t := 220) dk_112_31 (by decide) rfl ?_
      refine zj_iconst dk_112_220 ?_
      refine zj_ireturn dk_112_221 rfl ⟨by rw [exs_0], rfl, rfl⟩
    · skip
      refine zj_iconst dk_112_18 ?_
      refine zi_goto (t := 23) dk_112_19 rfl ?_
      refine zj_istore dk_112_23 rfl ?_
      refine zi_aload_n dk_112_25 rfl rfl ?_
      refine zi_getf dk_112_26 fl_7_9 (by first | assumption | exact zz_up_eq _ _ _ | omega | exact Ne.symm (by assumption) | (refine (zz_up_ne ?_).trans ?_ <;> first | assumption | exact zz_up_eq _ _ _ | omega | exact Ne.symm (by assumption) | (refine (zz_up_ne ?_).trans ?_ <;> first | assumption | exact zz_up_eq _ _ _ | omega | exact Ne.symm (by assumption) | (refine (zz_up_ne ?_).trans ?_ <;> first | assumption | exact zz_up_eq _ _ _ | omega | exact Ne.symm (by assumption))))) rfl ?_
      refine zj_iload_n dk_112_29 rfl ?_
      refine zj_iald dk_112_30 (by first | assumption | exact zz_up_eq _ _ _ | omega | exact Ne.symm (by assumption) | (refine (zz_up_ne ?_).trans ?_ <;> first | assumption | exact zz_up_eq _ _ _ | omega | exact Ne.symm (by assumption) | (refine (zz_up_ne ?_).trans ?_ <;> first | assumption | exact zz_up_eq _ _ _ | omega | exact Ne.symm (by assumption) | (refine (zz_up_ne ?_).trans ?_ <;> first | assumption | exact zz_up_eq _ _ _ | omega | exact Ne.symm (by assumption))))) (by omega) ?_
      rw [hop]
      refine zj_tabOut (t := 220) dk_112_31 (by decide) rfl ?_
      refine zj_iconst dk_112_220 ?_
      refine zj_ireturn dk_112_221 rfl ⟨by rw [exs_0], rfl, rfl⟩
  · skip
    refine zj_iconst dk_112_5 ?_
    refine zi_goto (t := 10) dk_112_6 rfl ?_
    refine zj_istore dk_112_10 rfl ?_
    refine zj_iload_n dk_112_12 rfl ?_
    refine zj_bipush dk_112_13 (by decide) ?_
    refine zj_icmp_lt (t := 22) dk_112_15 rfl (by omega) (fun c15 => ?_) (fun c15 => ?_)
    · skip
      refine zj_iconst dk_112_22 ?_
      refine zj_istore dk_112_23 rfl ?_
      refine zi_aload_n dk_112_25 rfl rfl ?_
      refine zi_getf dk_112_26 fl_7_9 (by first | assumption | exact zz_up_eq _ _ _ | omega | exact Ne.symm (by assumption) | (refine (zz_up_ne ?_).trans ?_ <;> first | assumption | exact zz_up_eq _ _ _ | omega | exact Ne.symm (by assumption) | (refine (zz_up_ne ?_).trans ?_ <;> first | assumption | exact zz_up_eq _ _ _ | omega | exact Ne.symm (by assumption) | (refine (zz_up_ne ?_).trans ?_ <;> first | assumption | exact zz_up_eq _ _ _ | omega | exact Ne.symm (by assumption))))) rfl ?_
      refine zj_iload_n dk_112_29 rfl ?_
      refine zj_iald dk_112_30 (by first | assumption | exact zz_up_eq _ _ _ | omega | exact Ne.symm (by assumption) | (refine (zz_up_ne ?_).trans ?_ <;> first | assumption | exact zz_up_eq _ _ _ | omega | exact Ne.symm (by assumption) | (refine (zz_up_ne ?_).trans ?_ <;> first | assumption | exact zz_up_eq _ _ _ | omega | exact Ne.symm (by assumption) | (refine (zz_up_ne ?_).trans ?_ <;> first | assumption | exact zz_up_eq _ _ _ | omega | exact Ne.symm (by assumption))))) (by omega) ?_
      rw [hop]
      refine zj_tabOut (t := 220) dk_112_31 (by decide) rfl ?_
      refine zj_iconst dk_112_220 ?_
      refine zj_ireturn dk_112_221 rfl ⟨by rw [exs_0], rfl, rfl⟩
    · skip
      refine zj_iconst dk_112_18 ?_
      refine zi_goto (t := 23) dk_112_19 rfl ?_
      refine zj_istore dk_112_23 rfl ?_
      refine zi_aload_n dk_112_25 rfl rfl ?_
      refine zi_getf dk_112_26 fl_7_9 (by first | assumption | exact zz_up_eq _ _ _ | omega | exact Ne.symm (by assumption) | (refine (zz_up_ne ?_).trans ?_ <;> first | assumption | exact zz_up_eq _ _ _ | omega | exact Ne.symm (by assumption) | (refine (zz_up_ne ?_).trans ?_ <;> first | assumption | exact zz_up_eq _ _ _ | omega | exact Ne.symm (by assumption) | (refine (zz_up_ne ?_).trans ?_ <;> first | assumption | exact zz_up_eq _ _ _ | omega | exact Ne.symm (by assumption))))) rfl ?_
      refine zj_iload_n dk_112_29 rfl ?_
      refine zj_iald dk_112_30 (by first | assumption | exact zz_up_eq _ _ _ | omega | exact Ne.symm (by assumption) | (refine (zz_up_ne ?_).trans ?_ <;> first | assumption | exact zz_up_eq _ _ _ | omega | exact Ne.symm (by assumption) | (refine (zz_up_ne ?_).trans ?_ <;> first | assumption | exact zz_up_eq _ _ _ | omega | exact Ne.symm (by assumption) | (refine (zz_up_ne ?_).trans ?_ <;> first | assumption | exact zz_up_eq _ _ _ | omega | exact Ne.symm (by assumption))))) (by omega) ?_
      rw [hop]
      refine zj_tabOut (t := 220) dk_112_31 (by decide) rfl ?_
      refine zj_iconst dk_112_220 ?_
      refine zj_ireturn dk_112_221 rfl ⟨by rw [exs_0], rfl, rfl⟩

theorem ct_112_1 {X : zz_X} {d n : Nat} {h : zz_H} (hd : 1 ≤ d) {co : Nat} {o a b v : Int → Int} {sz : Int} (g0 : h co = some (.inr (7, [.ref (co + 1), .ref (co + 2), .ref (co + 3), .ref (co + 4), zv sz]))) (g1 : h (co + 1) = some (zA 0 16 o)) (g2 : h (co + 2) = some (zA 0 16 a)) (g3 : h (co + 3) = some (zA 0 16 b)) (g4 : h (co + 4) = some (zA 0 16 v)) (hz : 0 ≤ sz ∧ sz ≤ 16) (hw : ex_W o a b sz) {i ask held arg : Int} (hi : 0 ≤ i ∧ i < sz) (ha : -2147483648 ≤ ask ∧ ask < 2147483648) (hg : -2147483648 ≤ arg ∧ arg < 2147483648) (hop : o i = 1) : zz_Ct X mm_112 d 0 0 [.ref co, zv i, zv ask, zv held, zv arg] n h (zp (some (zv (ex_sv (o i) (a i) (b i) ask held arg))) n h) := by
  refine zz_start (by decide) (ls := [some (.ref co), some (zv i), some (zv ask), some (zv held), some (zv arg), none, none]) rfl ?_
  obtain ⟨w1, w2, w3, w4, w5, w6⟩ := hw i hi.1 hi.2
  have q1 := bz_rg (zb_bit held (a i))
  have q2 := zb_div_rg (b i) arg
  refine zj_iload_n dk_112_0 rfl ?_
  refine zj_iconst dk_112_1 ?_
  refine zj_icmp_eq (t := 9) dk_112_2 rfl (by omega) (fun c2 => ?_) (fun c2 => ?_)
  · skip
    refine zj_iconst dk_112_9 ?_
    refine zj_istore dk_112_10 rfl ?_
    refine zj_iload_n dk_112_12 rfl ?_
    refine zj_bipush dk_112_13 (by decide) ?_
    refine zj_icmp_lt (t := 22) dk_112_15 rfl (by omega) (fun c15 => ?_) (fun c15 => ?_)
    · skip
      refine zj_iconst dk_112_22 ?_
      refine zj_istore dk_112_23 rfl ?_
      refine zi_aload_n dk_112_25 rfl rfl ?_
      refine zi_getf dk_112_26 fl_7_9 (by first | assumption | exact zz_up_eq _ _ _ | omega | exact Ne.symm (by assumption) | (refine (zz_up_ne ?_).trans ?_ <;> first | assumption | exact zz_up_eq _ _ _ | omega | exact Ne.symm (by assumption) | (refine (zz_up_ne ?_).trans ?_ <;> first | assumption | exact zz_up_eq _ _ _ | omega | exact Ne.symm (by assumption) | (refine (zz_up_ne ?_).trans ?_ <;> first | assumption | exact zz_up_eq _ _ _ | omega | exact Ne.symm (by assumption))))) rfl ?_
      refine zj_iload_n dk_112_29 rfl ?_
      refine zj_iald dk_112_30 (by first | assumption | exact zz_up_eq _ _ _ | omega | exact Ne.symm (by assumption) | (refine (zz_up_ne ?_).trans ?_ <;> first | assumption | exact zz_up_eq _ _ _ | omega | exact Ne.symm (by assumption) | (refine (zz_up_ne ?_).trans ?_ <;> first | assumption | exact zz_up_eq _ _ _ | omega | exact Ne.symm (by assumption) | (refine (zz_up_ne ?_).trans ?_ <;> first | assumption | exact zz_up_eq _ _ _ | omega | exact Ne.symm (by assumption))))) (by omega) ?_
      rw [hop]
      refine zj_tabIn (t := 80) dk_112_31 (by decide) rfl rfl ?_
      refine zj_iload dk_112_80 rfl ?_
      refine zi_invS dk_112_82 ml_7_49 is_111 (ct_111 (d := d - 1) (by omega)) rfl rfl (Nat.le_of_ble_eq_true rfl) (by omega) rfl rfl (fun r n' h' hq => ?_)
      obtain ⟨rfl, rfl, rfl⟩ := hq
      refine zj_ireturn dk_112_85 rfl ⟨by rw [exs_1]; congr 2; (repeat' split) <;> omega, rfl, rfl⟩
    · skip
      refine zj_iconst dk_112_18 ?_
      refine zi_goto (t := 23) dk_112_19 rfl ?_
      refine zj_istore dk_112_23 rfl ?_
      refine zi_aload_n dk_112_25 rfl rfl ?_
      refine zi_getf dk_112_26 fl_7_9 (by first | assumption | exact zz_up_eq _ _ _ | omega | exact Ne.symm (by assumption) | (refine (zz_up_ne ?_).trans ?_ <;> first | assumption | exact zz_up_eq _ _ _ | omega | exact Ne.symm (by assumption) | (refine (zz_up_ne ?_).trans ?_ <;> first | assumption | exact zz_up_eq _ _ _ | omega | exact Ne.symm (by assumption) | (refine (zz_up_ne ?_).trans ?_ <;> first | assumption | exact zz_up_eq _ _ _ | omega | exact Ne.symm (by assumption))))) rfl ?_
      refine zj_iload_n dk_112_29 rfl ?_
      refine zj_iald dk_112_30 (by first | assumption | exact zz_up_eq _ _ _ | omega | exact Ne.symm (by assumption) | (refine (zz_up_ne ?_).trans ?_ <;> first | assumption | exact zz_up_eq _ _ _ | omega | exact Ne.symm (by assumption) | (refine (zz_up_ne ?_).trans ?_ <;> first | assumption | exact zz_up_eq _ _ _ | omega | exact Ne.symm (by assumption) | (refine (zz_up_ne ?_).trans ?_ <;> first | assumption | exact zz_up_eq _ _ _ | omega | exact Ne.symm (by assumption))))) (by omega) ?_
      rw [hop]
      refine zj_tabIn (t := 80) dk_112_31 (by decide) rfl rfl ?_
      refine zj_iload dk_112_80 rfl ?_
      refine zi_invS dk_112_82 ml_7_49 is_111 (ct_111 (d := d - 1) (by omega)) rfl rfl (Nat.le_of_ble_eq_true rfl) (by omega) rfl rfl (fun r n' h' hq => ?_)
      obtain ⟨rfl, rfl, rfl⟩ := hq
      refine zj_ireturn dk_112_85 rfl ⟨by rw [exs_1]; congr 2; (repeat' split) <;> omega, rfl, rfl⟩
  · skip
    refine zj_iconst dk_112_5 ?_
    refine zi_goto (t := 10) dk_112_6 rfl ?_
    refine zj_istore dk_112_10 rfl ?_
    refine zj_iload_n dk_112_12 rfl ?_
    refine zj_bipush dk_112_13 (by decide) ?_
    refine zj_icmp_lt (t := 22) dk_112_15 rfl (by omega) (fun c15 => ?_) (fun c15 => ?_)
    · skip
      refine zj_iconst dk_112_22 ?_
      refine zj_istore dk_112_23 rfl ?_
      refine zi_aload_n dk_112_25 rfl rfl ?_
      refine zi_getf dk_112_26 fl_7_9 (by first | assumption | exact zz_up_eq _ _ _ | omega | exact Ne.symm (by assumption) | (refine (zz_up_ne ?_).trans ?_ <;> first | assumption | exact zz_up_eq _ _ _ | omega | exact Ne.symm (by assumption) | (refine (zz_up_ne ?_).trans ?_ <;> first | assumption | exact zz_up_eq _ _ _ | omega | exact Ne.symm (by assumption) | (refine (zz_up_ne ?_).trans ?_ <;> first | assumption | exact zz_up_eq _ _ _ | omega | exact Ne.symm (by assumption))))) rfl ?_
      refine zj_iload_n dk_112_29 rfl ?_
      refine zj_iald dk_112_30 (by first | assumption | exact zz_up_eq _ _ _ | omega | exact Ne.symm (by assumption) | (refine (zz_up_ne ?_).trans ?_ <;> first | assumption | exact zz_up_eq _ _ _ | omega | exact Ne.symm (by assumption) | (refine (zz_up_ne ?_).trans ?_ <;> first | assumption | exact zz_up_eq _ _ _ | omega | exact Ne.symm (by assumption) | (refine (zz_up_ne ?_).trans ?_ <;> first | assumption | exact zz_up_eq _ _ _ | omega | exact Ne.symm (by assumption))))) (by omega) ?_
      rw [hop]
      refine zj_tabIn (t := 80) dk_112_31 (by decide) rfl rfl ?_
      refine zj_iload dk_112_80 rfl ?_
      refine zi_invS dk_112_82 ml_7_49 is_111 (ct_111 (d := d - 1) (by omega)) rfl rfl (Nat.le_of_ble_eq_true rfl) (by omega) rfl rfl (fun r n' h' hq => ?_)
      obtain ⟨rfl, rfl, rfl⟩ := hq
      refine zj_ireturn dk_112_85 rfl ⟨by rw [exs_1]; congr 2; (repeat' split) <;> omega, rfl, rfl⟩
    · skip
      refine zj_iconst dk_112_18 ?_
      refine zi_goto (t := 23) dk_112_19 rfl ?_
      refine zj_istore dk_112_23 rfl ?_
      refine zi_aload_n dk_112_25 rfl rfl ?_
      refine zi_getf dk_112_26 fl_7_9 (by first | assumption | exact zz_up_eq _ _ _ | omega | exact Ne.symm (by assumption) | (refine (zz_up_ne ?_).trans ?_ <;> first | assumption | exact zz_up_eq _ _ _ | omega | exact Ne.symm (by assumption) | (refine (zz_up_ne ?_).trans ?_ <;> first | assumption | exact zz_up_eq _ _ _ | omega | exact Ne.symm (by assumption) | (refine (zz_up_ne ?_).trans ?_ <;> first | assumption | exact zz_up_eq _ _ _ | omega | exact Ne.symm (by assumption))))) rfl ?_
      refine zj_iload_n dk_112_29 rfl ?_
      refine zj_iald dk_112_30 (by first | assumption | exact zz_up_eq _ _ _ | omega | exact Ne.symm (by assumption) | (refine (zz_up_ne ?_).trans ?_ <;> first | assumption | exact zz_up_eq _ _ _ | omega | exact Ne.symm (by assumption) | (refine (zz_up_ne ?_).trans ?_ <;> first | assumption | exact zz_up_eq _ _ _ | omega | exact Ne.symm (by assumption) | (refine (zz_up_ne ?_).trans ?_ <;> first | assumption | exact zz_up_eq _ _ _ | omega | exact Ne.symm (by assumption))))) (by omega) ?_
      rw [hop]
      refine zj_tabIn (t := 80) dk_112_31 (by decide) rfl rfl ?_
      refine zj_iload dk_112_80 rfl ?_
      refine zi_invS dk_112_82 ml_7_49 is_111 (ct_111 (d := d - 1) (by omega)) rfl rfl (Nat.le_of_ble_eq_true rfl) (by omega) rfl rfl (fun r n' h' hq => ?_)
      obtain ⟨rfl, rfl, rfl⟩ := hq
      refine zj_ireturn dk_112_85 rfl ⟨by rw [exs_1]; congr 2; (repeat' split) <;> omega, rfl, rfl⟩

theorem ct_112_2 {X : zz_X} {d n : Nat} {h : zz_H} (hd : 1 ≤ d) {co : Nat} {o a b v : Int → Int} {sz : Int} (g0 : h co = some (.inr (7, [.ref (co + 1), .ref (co + 2), .ref (co + 3), .ref (co + 4), zv sz]))) (g1 : h (co + 1) = some (zA 0 16 o)) (g2 : h (co + 2) = some (zA 0 16 a)) (g3 : h (co + 3) = some (zA 0 16 b)) (g4 : h (co + 4) = some (zA 0 16 v)) (hz : 0 ≤ sz ∧ sz ≤ 16) (hw : ex_W o a b sz) {i ask held arg : Int} (hi : 0 ≤ i ∧ i < sz) (ha : -2147483648 ≤ ask ∧ ask < 2147483648) (hg : -2147483648 ≤ arg ∧ arg < 2147483648) (hop : o i = 2) : zz_Ct X mm_112 d 0 0 [.ref co, zv i, zv ask, zv held, zv arg] n h (zp (some (zv (ex_sv (o i) (a i) (b i) ask held arg))) n h) := by
  refine zz_start (by decide) (ls := [some (.ref co), some (zv i), some (zv ask), some (zv held), some (zv arg), none, none]) rfl ?_
  obtain ⟨w1, w2, w3, w4, w5, w6⟩ := hw i hi.1 hi.2
  have q1 := bz_rg (zb_bit held (a i))
  have q2 := zb_div_rg (b i) arg
  refine zj_iload_n dk_112_0 rfl ?_
  refine zj_iconst dk_112_1 ?_
  refine zj_icmp_eq (t := 9) dk_112_2 rfl (by omega) (fun c2 => ?_) (fun c2 => ?_)
  · skip
    refine zj_iconst dk_112_9 ?_
    refine zj_istore dk_112_10 rfl ?_
    refine zj_iload_n dk_112_12 rfl ?_
    refine zj_bipush dk_112_13 (by decide) ?_
    refine zj_icmp_lt (t := 22) dk_112_15 rfl (by omega) (fun c15 => ?_) (fun c15 => ?_)
    · skip
      refine zj_iconst dk_112_22 ?_
      refine zj_istore dk_112_23 rfl ?_
      refine zi_aload_n dk_112_25 rfl rfl ?_
      refine zi_getf dk_112_26 fl_7_9 (by first | assumption | exact zz_up_eq _ _ _ | omega | exact Ne.symm (by assumption) | (refine (zz_up_ne ?_).trans ?_ <;> first | assumption | exact zz_up_eq _ _ _ | omega | exact Ne.symm (by assumption) | (refine (zz_up_ne ?_).trans ?_ <;> first | assumption | exact zz_up_eq _ _ _ | omega | exact Ne.symm (by assumption) | (refine (zz_up_ne ?_).trans ?_ <;> first | assumption | exact zz_up_eq _ _ _ | omega | exact Ne.symm (by assumption))))) rfl ?_
      refine zj_iload_n dk_112_29 rfl ?_
      refine zj_iald dk_112_30 (by first | assumption | exact zz_up_eq _ _ _ | omega | exact Ne.symm (by assumption) | (refine (zz_up_ne ?_).trans ?_ <;> first | assumption | exact zz_up_eq _ _ _ | omega | exact Ne.symm (by assumption) | (refine (zz_up_ne ?_).trans ?_ <;> first | assumption | exact zz_up_eq _ _ _ | omega | exact Ne.symm (by assumption) | (refine (zz_up_ne ?_).trans ?_ <;> first | assumption | exact zz_up_eq _ _ _ | omega | exact Ne.symm (by assumption))))) (by omega) ?_
      rw [hop]
      refine zj_tabIn (t := 86) dk_112_31 (by decide) rfl rfl ?_
      refine zj_iload dk_112_86 rfl ?_
      refine zj_if_eq (t := 100) dk_112_88 rfl (by omega) (fun c88 => ?_) (fun c88 => ?_)
      · skip
        refine zj_iconst dk_112_100 ?_
        refine zi_invS dk_112_101 ml_7_49 is_111 (ct_111 (d := d - 1) (by omega)) rfl rfl (Nat.le_of_ble_eq_true rfl) (by omega) rfl rfl (fun r n' h' hq => ?_)
        obtain ⟨rfl, rfl, rfl⟩ := hq
        refine zj_ireturn dk_112_104 rfl ⟨by rw [exs_2]; congr 2; (repeat' split) <;> omega, rfl, rfl⟩
      · skip
        refine zj_iload dk_112_91 rfl ?_
        refine zj_if_ne (t := 100) dk_112_93 rfl (by omega) (fun c93 => ?_) (fun c93 => ?_)
        · skip
          refine zj_iconst dk_112_100 ?_
          refine zi_invS dk_112_101 ml_7_49 is_111 (ct_111 (d := d - 1) (by omega)) rfl rfl (Nat.le_of_ble_eq_true rfl) (by omega) rfl rfl (fun r n' h' hq => ?_)
          obtain ⟨rfl, rfl, rfl⟩ := hq
          refine zj_ireturn dk_112_104 rfl ⟨by rw [exs_2]; congr 2; (repeat' split) <;> omega, rfl, rfl⟩
        · skip
          refine zj_iconst dk_112_96 ?_
          refine zi_goto (t := 101) dk_112_97 rfl ?_
          refine zi_invS dk_112_101 ml_7_49 is_111 (ct_111 (d := d - 1) (by omega)) rfl rfl (Nat.le_of_ble_eq_true rfl) (by omega) rfl rfl (fun r n' h' hq => ?_)
          obtain ⟨rfl, rfl, rfl⟩ := hq
          refine zj_ireturn dk_112_104 rfl ⟨by rw [exs_2]; congr 2; (repeat' split) <;> omega, rfl, rfl⟩
    · skip
      refine zj_iconst dk_112_18 ?_
      refine zi_goto (t := 23) dk_112_19 rfl ?_
      refine zj_istore dk_112_23 rfl ?_
      refine zi_aload_n dk_112_25 rfl rfl ?_
      refine zi_getf dk_112_26 fl_7_9 (by first | assumption | exact zz_up_eq _ _ _ | omega | exact Ne.symm (by assumption) | (refine (zz_up_ne ?_).trans ?_ <;> first | assumption | exact zz_up_eq _ _ _ | omega | exact Ne.symm (by assumption) | (refine (zz_up_ne ?_).trans ?_ <;> first | assumption | exact zz_up_eq _ _ _ | omega | exact Ne.symm (by assumption) | (refine (zz_up_ne ?_).trans ?_ <;> first | assumption | exact zz_up_eq _ _ _ | omega | exact Ne.symm (by assumption))))) rfl ?_
      refine zj_iload_n dk_112_29 rfl ?_
      refine zj_iald dk_112_30 (by first | assumption | exact zz_up_eq _ _ _ | omega | exact Ne.symm (by assumption) | (refine (zz_up_ne ?_).trans ?_ <;> first | assumption | exact zz_up_eq _ _ _ | omega | exact Ne.symm (by assumption) | (refine (zz_up_ne ?_).trans ?_ <;> first | assumption | exact zz_up_eq _ _ _ | omega | exact Ne.symm (by assumption) | (refine (zz_up_ne ?_).trans ?_ <;> first | assumption | exact zz_up_eq _ _ _ | omega | exact Ne.symm (by assumption))))) (by omega) ?_
      rw [hop]
      refine zj_tabIn (t := 86) dk_112_31 (by decide) rfl rfl ?_
      refine zj_iload dk_112_86 rfl ?_
      refine zj_if_eq (t := 100) dk_112_88 rfl (by omega) (fun c88 => ?_) (fun c88 => ?_)
      · skip
        refine zj_iconst dk_112_100 ?_
        refine zi_invS dk_112_101 ml_7_49 is_111 (ct_111 (d := d - 1) (by omega)) rfl rfl (Nat.le_of_ble_eq_true rfl) (by omega) rfl rfl (fun r n' h' hq => ?_)
        obtain ⟨rfl, rfl, rfl⟩ := hq
        refine zj_ireturn dk_112_104 rfl ⟨by rw [exs_2]; congr 2; (repeat' split) <;> omega, rfl, rfl⟩
      · skip
        refine zj_iload dk_112_91 rfl ?_
        refine zj_if_ne (t := 100) dk_112_93 rfl (by omega) (fun c93 => ?_) (fun c93 => ?_)
        · skip
          refine zj_iconst dk_112_100 ?_
          refine zi_invS dk_112_101 ml_7_49 is_111 (ct_111 (d := d - 1) (by omega)) rfl rfl (Nat.le_of_ble_eq_true rfl) (by omega) rfl rfl (fun r n' h' hq => ?_)
          obtain ⟨rfl, rfl, rfl⟩ := hq
          refine zj_ireturn dk_112_104 rfl ⟨by rw [exs_2]; congr 2; (repeat' split) <;> omega, rfl, rfl⟩
        · skip
          refine zj_iconst dk_112_96 ?_
          refine zi_goto (t := 101) dk_112_97 rfl ?_
          refine zi_invS dk_112_101 ml_7_49 is_111 (ct_111 (d := d - 1) (by omega)) rfl rfl (Nat.le_of_ble_eq_true rfl) (by omega) rfl rfl (fun r n' h' hq => ?_)
          obtain ⟨rfl, rfl, rfl⟩ := hq
          refine zj_ireturn dk_112_104 rfl ⟨by rw [exs_2]; congr 2; (repeat' split) <;> omega, rfl, rfl⟩
  · skip
    refine zj_iconst dk_112_5 ?_
    refine zi_goto (t := 10) dk_112_6 rfl ?_
    refine zj_istore dk_112_10 rfl ?_
    refine zj_iload_n dk_112_12 rfl ?_
    refine zj_bipush dk_112_13 (by decide) ?_
    refine zj_icmp_lt (t := 22) dk_112_15 rfl (by omega) (fun c15 => ?_) (fun c15 => ?_)
    · skip
      refine zj_iconst dk_112_22 ?_
      refine zj_istore dk_112_23 rfl ?_
      refine zi_aload_n dk_112_25 rfl rfl ?_
      refine zi_getf dk_112_26 fl_7_9 (by first | assumption | exact zz_up_eq _ _ _ | omega | exact Ne.symm (by assumption) | (refine (zz_up_ne ?_).trans ?_ <;> first | assumption | exact zz_up_eq _ _ _ | omega | exact Ne.symm (by assumption) | (refine (zz_up_ne ?_).trans ?_ <;> first | assumption | exact zz_up_eq _ _ _ | omega | exact Ne.symm (by assumption) | (refine (zz_up_ne ?_).trans ?_ <;> first | assumption | exact zz_up_eq _ _ _ | omega | exact Ne.symm (by assumption))))) rfl ?_
      refine zj_iload_n dk_112_29 rfl ?_
      refine zj_iald dk_112_30 (by first | assumption | exact zz_up_eq _ _ _ | omega | exact Ne.symm (by assumption) | (refine (zz_up_ne ?_).trans ?_ <;> first | assumption | exact zz_up_eq _ _ _ | omega | exact Ne.symm (by assumption) | (refine (zz_up_ne ?_).trans ?_ <;> first | assumption | exact zz_up_eq _ _ _ | omega | exact Ne.symm (by assumption) | (refine (zz_up_ne ?_).trans ?_ <;> first | assumption | exact zz_up_eq _ _ _ | omega | exact Ne.symm (by assumption))))) (by omega) ?_
      rw [hop]
      refine zj_tabIn (t := 86) dk_112_31 (by decide) rfl rfl ?_
      refine zj_iload dk_112_86 rfl ?_
      refine zj_if_eq (t := 100) dk_112_88 rfl (by omega) (fun c88 => ?_) (fun c88 => ?_)
      · skip
        refine zj_iconst dk_112_100 ?_
        refine zi_invS dk_112_101 ml_7_49 is_111 (ct_111 (d := d - 1) (by omega)) rfl rfl (Nat.le_of_ble_eq_true rfl) (by omega) rfl rfl (fun r n' h' hq => ?_)
        obtain ⟨rfl, rfl, rfl⟩ := hq
        refine zj_ireturn dk_112_104 rfl ⟨by rw [exs_2]; congr 2; (repeat' split) <;> omega, rfl, rfl⟩
      · skip
        refine zj_iload dk_112_91 rfl ?_
        refine zj_if_ne (t := 100) dk_112_93 rfl (by omega) (fun c93 => ?_) (fun c93 => ?_)
        · skip
          refine zj_iconst dk_112_100 ?_
          refine zi_invS dk_112_101 ml_7_49 is_111 (ct_111 (d := d - 1) (by omega)) rfl rfl (Nat.le_of_ble_eq_true rfl) (by omega) rfl rfl (fun r n' h' hq => ?_)
          obtain ⟨rfl, rfl, rfl⟩ := hq
          refine zj_ireturn dk_112_104 rfl ⟨by rw [exs_2]; congr 2; (repeat' split) <;> omega, rfl, rfl⟩
        · skip
          refine zj_iconst dk_112_96 ?_
          refine zi_goto (t := 101) dk_112_97 rfl ?_
          refine zi_invS dk_112_101 ml_7_49 is_111 (ct_111 (d := d - 1) (by omega)) rfl rfl (Nat.le_of_ble_eq_true rfl) (by omega) rfl rfl (fun r n' h' hq => ?_)
          obtain ⟨rfl, rfl, rfl⟩ := hq
          refine zj_ireturn dk_112_104 rfl ⟨by rw [exs_2]; congr 2; (repeat' split) <;> omega, rfl, rfl⟩
    · skip
      refine zj_iconst dk_112_18 ?_
      refine zi_goto (t := 23) dk_112_19 rfl ?_
      refine zj_istore dk_112_23 rfl ?_
      refine zi_aload_n dk_112_25 rfl rfl ?_
      refine zi_getf dk_112_26 fl_7_9 (by first | assumption | exact zz_up_eq _ _ _ | omega | exact Ne.symm (by assumption) | (refine (zz_up_ne ?_).trans ?_ <;> first | assumption | exact zz_up_eq _ _ _ | omega | exact Ne.symm (by assumption) | (refine (zz_up_ne ?_).trans ?_ <;> first | assumption | exact zz_up_eq _ _ _ | omega | exact Ne.symm (by assumption) | (refine (zz_up_ne ?_).trans ?_ <;> first | assumption | exact zz_up_eq _ _ _ | omega | exact Ne.symm (by assumption))))) rfl ?_
      refine zj_iload_n dk_112_29 rfl ?_
      refine zj_iald dk_112_30 (by first | assumption | exact zz_up_eq _ _ _ | omega | exact Ne.symm (by assumption) | (refine (zz_up_ne ?_).trans ?_ <;> first | assumption | exact zz_up_eq _ _ _ | omega | exact Ne.symm (by assumption) | (refine (zz_up_ne ?_).trans ?_ <;> first | assumption | exact zz_up_eq _ _ _ | omega | exact Ne.symm (by assumption) | (refine (zz_up_ne ?_).trans ?_ <;> first | assumption | exact zz_up_eq _ _ _ | omega | exact Ne.symm (by assumption))))) (by omega) ?_
      rw [hop]
      refine zj_tabIn (t := 86) dk_112_31 (by decide) rfl rfl ?_
      refine zj_iload dk_112_86 rfl ?_
      refine zj_if_eq (t := 100) dk_112_88 rfl (by omega) (fun c88 => ?_) (fun c88 => ?_)
      · skip
        refine zj_iconst dk_112_100 ?_
        refine zi_invS dk_112_101 ml_7_49 is_111 (ct_111 (d := d - 1) (by omega)) rfl rfl (Nat.le_of_ble_eq_true rfl) (by omega) rfl rfl (fun r n' h' hq => ?_)
        obtain ⟨rfl, rfl, rfl⟩ := hq
        refine zj_ireturn dk_112_104 rfl ⟨by rw [exs_2]; congr 2; (repeat' split) <;> omega, rfl, rfl⟩
      · skip
        refine zj_iload dk_112_91 rfl ?_
        refine zj_if_ne (t := 100) dk_112_93 rfl (by omega) (fun c93 => ?_) (fun c93 => ?_)
        · skip
          refine zj_iconst dk_112_100 ?_
          refine zi_invS dk_112_101 ml_7_49 is_111 (ct_111 (d := d - 1) (by omega)) rfl rfl (Nat.le_of_ble_eq_true rfl) (by omega) rfl rfl (fun r n' h' hq => ?_)
          obtain ⟨rfl, rfl, rfl⟩ := hq
          refine zj_ireturn dk_112_104 rfl ⟨by rw [exs_2]; congr 2; (repeat' split) <;> omega, rfl, rfl⟩
        · skip
          refine zj_iconst dk_112_96 ?_
          refine zi_goto (t := 101) dk_112_97 rfl ?_
          refine zi_invS dk_112_101 ml_7_49 is_111 (ct_111 (d := d - 1) (by omega)) rfl rfl (Nat.le_of_ble_eq_true rfl) (by omega) rfl rfl (fun r n' h' hq => ?_)
          obtain ⟨rfl, rfl, rfl⟩ := hq
          refine zj_ireturn dk_112_104 rfl ⟨by rw [exs_2]; congr 2; (repeat' split) <;> omega, rfl, rfl⟩

theorem ct_112_3 {X : zz_X} {d n : Nat} {h : zz_H} (hd : 1 ≤ d) {co : Nat} {o a b v : Int → Int} {sz : Int} (g0 : h co = some (.inr (7, [.ref (co + 1), .ref (co + 2), .ref (co + 3), .ref (co + 4), zv sz]))) (g1 : h (co + 1) = some (zA 0 16 o)) (g2 : h (co + 2) = some (zA 0 16 a)) (g3 : h (co + 3) = some (zA 0 16 b)) (g4 : h (co + 4) = some (zA 0 16 v)) (hz : 0 ≤ sz ∧ sz ≤ 16) (hw : ex_W o a b sz) {i ask held arg : Int} (hi : 0 ≤ i ∧ i < sz) (ha : -2147483648 ≤ ask ∧ ask < 2147483648) (hg : -2147483648 ≤ arg ∧ arg < 2147483648) (hop : o i = 3) : zz_Ct X mm_112 d 0 0 [.ref co, zv i, zv ask, zv held, zv arg] n h (zp (some (zv (ex_sv (o i) (a i) (b i) ask held arg))) n h) := by
  refine zz_start (by decide) (ls := [some (.ref co), some (zv i), some (zv ask), some (zv held), some (zv arg), none, none]) rfl ?_
  obtain ⟨w1, w2, w3, w4, w5, w6⟩ := hw i hi.1 hi.2
  have q1 := bz_rg (zb_bit held (a i))
  have q2 := zb_div_rg (b i) arg
  refine zj_iload_n dk_112_0 rfl ?_
  refine zj_iconst dk_112_1 ?_
  refine zj_icmp_eq (t := 9) dk_112_2 rfl (by omega) (fun c2 => ?_) (fun c2 => ?_)
  · skip
    refine zj_iconst dk_112_9 ?_
    refine zj_istore dk_112_10 rfl ?_
    refine zj_iload_n dk_112_12 rfl ?_
    refine zj_bipush dk_112_13 (by decide) ?_
    refine zj_icmp_lt (t := 22) dk_112_15 rfl (by omega) (fun c15 => ?_) (fun c15 => ?_)
    · skip
      refine zj_iconst dk_112_22 ?_
      refine zj_istore dk_112_23 rfl ?_
      refine zi_aload_n dk_112_25 rfl rfl ?_
      refine zi_getf dk_112_26 fl_7_9 (by first | assumption | exact zz_up_eq _ _ _ | omega | exact Ne.symm (by assumption) | (refine (zz_up_ne ?_).trans ?_ <;> first | assumption | exact zz_up_eq _ _ _ | omega | exact Ne.symm (by assumption) | (refine (zz_up_ne ?_).trans ?_ <;> first | assumption | exact zz_up_eq _ _ _ | omega | exact Ne.symm (by assumption) | (refine (zz_up_ne ?_).trans ?_ <;> first | assumption | exact zz_up_eq _ _ _ | omega | exact Ne.symm (by assumption))))) rfl ?_
      refine zj_iload_n dk_112_29 rfl ?_
      refine zj_iald dk_112_30 (by first | assumption | exact zz_up_eq _ _ _ | omega | exact Ne.symm (by assumption) | (refine (zz_up_ne ?_).trans ?_ <;> first | assumption | exact zz_up_eq _ _ _ | omega | exact Ne.symm (by assumption) | (refine (zz_up_ne ?_).trans ?_ <;> first | assumption | exact zz_up_eq _ _ _ | omega | exact Ne.symm (by assumption) | (refine (zz_up_ne ?_).trans ?_ <;> first | assumption | exact zz_up_eq _ _ _ | omega | exact Ne.symm (by assumption))))) (by omega) ?_
      rw [hop]
      refine zj_tabIn (t := 105) dk_112_31 (by decide) rfl rfl ?_
      refine zj_iload dk_112_105 rfl ?_
      refine zj_if_eq (t := 127) dk_112_107 rfl (by omega) (fun c107 => ?_) (fun c107 => ?_)
      · skip
        refine zj_iconst dk_112_127 ?_
        refine zi_invS dk_112_128 ml_7_49 is_111 (ct_111 (d := d - 1) (by omega)) rfl rfl (Nat.le_of_ble_eq_true rfl) (by omega) rfl rfl (fun r n' h' hq => ?_)
        obtain ⟨rfl, rfl, rfl⟩ := hq
        refine zj_ireturn dk_112_131 rfl ⟨by rw [exs_3]; congr 2; (repeat' split) <;> omega, rfl, rfl⟩
      · skip
        refine zj_iload_n dk_112_110 rfl ?_
        refine zi_aload_n dk_112_111 rfl rfl ?_
        refine zi_getf dk_112_112 fl_7_15 (by first | assumption | exact zz_up_eq _ _ _ | omega | exact Ne.symm (by assumption) | (refine (zz_up_ne ?_).trans ?_ <;> first | assumption | exact zz_up_eq _ _ _ | omega | exact Ne.symm (by assumption) | (refine (zz_up_ne ?_).trans ?_ <;> first | assumption | exact zz_up_eq _ _ _ | omega | exact Ne.symm (by assumption) | (refine (zz_up_ne ?_).trans ?_ <;> first | assumption | exact zz_up_eq _ _ _ | omega | exact Ne.symm (by assumption))))) rfl ?_
        refine zj_iload_n dk_112_115 rfl ?_
        refine zj_iald dk_112_116 (by first | assumption | exact zz_up_eq _ _ _ | omega | exact Ne.symm (by assumption) | (refine (zz_up_ne ?_).trans ?_ <;> first | assumption | exact zz_up_eq _ _ _ | omega | exact Ne.symm (by assumption) | (refine (zz_up_ne ?_).trans ?_ <;> first | assumption | exact zz_up_eq _ _ _ | omega | exact Ne.symm (by assumption) | (refine (zz_up_ne ?_).trans ?_ <;> first | assumption | exact zz_up_eq _ _ _ | omega | exact Ne.symm (by assumption))))) (by omega) ?_
        refine zi_invS dk_112_117 ml_7_53 is_45 (ct_45 (d := d - 1)) rfl rfl (Nat.le_of_ble_eq_true rfl) (by omega) rfl rfl (fun r n' h' hq => ?_)
        obtain ⟨rfl, rfl, rfl⟩ := hq
        refine zj_if_eq (t := 127) dk_112_120 rfl (by omega) (fun c120 => ?_) (fun c120 => ?_)
        · skip
          refine zj_iconst dk_112_127 ?_
          refine zi_invS dk_112_128 ml_7_49 is_111 (ct_111 (d := d - 1) (by omega)) rfl rfl (Nat.le_of_ble_eq_true rfl) (by omega) rfl rfl (fun r n' h' hq => ?_)
          obtain ⟨rfl, rfl, rfl⟩ := hq
          refine zj_ireturn dk_112_131 rfl ⟨by rw [exs_3]; congr 2; (repeat' split) <;> omega, rfl, rfl⟩
        · skip
          refine zj_iconst dk_112_123 ?_
          refine zi_goto (t := 128) dk_112_124 rfl ?_
          refine zi_invS dk_112_128 ml_7_49 is_111 (ct_111 (d := d - 1) (by omega)) rfl rfl (Nat.le_of_ble_eq_true rfl) (by omega) rfl rfl (fun r n' h' hq => ?_)
          obtain ⟨rfl, rfl, rfl⟩ := hq
          refine zj_ireturn dk_112_131 rfl ⟨by rw [exs_3]; congr 2; (repeat' split) <;> omega, rfl, rfl⟩
    · skip
      refine zj_iconst dk_112_18 ?_
      refine zi_goto (t := 23) dk_112_19 rfl ?_
      refine zj_istore dk_112_23 rfl ?_
      refine zi_aload_n dk_112_25 rfl rfl ?_
      refine zi_getf dk_112_26 fl_7_9 (by first | assumption | exact zz_up_eq _ _ _ | omega | exact Ne.symm (by assumption) | (refine (zz_up_ne ?_).trans ?_ <;> first | assumption | exact zz_up_eq _ _ _ | omega | exact Ne.symm (by assumption) | (refine (zz_up_ne ?_).trans ?_ <;> first | assumption | exact zz_up_eq _ _ _ | omega | exact Ne.symm (by assumption) | (refine (zz_up_ne ?_).trans ?_ <;> first | assumption | exact zz_up_eq _ _ _ | omega | exact Ne.symm (by assumption))))) rfl ?_
      refine zj_iload_n dk_112_29 rfl ?_
      refine zj_iald dk_112_30 (by first | assumption | exact zz_up_eq _ _ _ | omega | exact Ne.symm (by assumption) | (refine (zz_up_ne ?_).trans ?_ <;> first | assumption | exact zz_up_eq _ _ _ | omega | exact Ne.symm (by assumption) | (refine (zz_up_ne ?_).trans ?_ <;> first | assumption | exact zz_up_eq _ _ _ | omega | exact Ne.symm (by assumption) | (refine (zz_up_ne ?_).trans ?_ <;> first | assumption | exact zz_up_eq _ _ _ | omega | exact Ne.symm (by assumption))))) (by omega) ?_
      rw [hop]
      refine zj_tabIn (t := 105) dk_112_31 (by decide) rfl rfl ?_
      refine zj_iload dk_112_105 rfl ?_
      refine zj_if_eq (t := 127) dk_112_107 rfl (by omega) (fun c107 => ?_) (fun c107 => ?_)
      · skip
        refine zj_iconst dk_112_127 ?_
        refine zi_invS dk_112_128 ml_7_49 is_111 (ct_111 (d := d - 1) (by omega)) rfl rfl (Nat.le_of_ble_eq_true rfl) (by omega) rfl rfl (fun r n' h' hq => ?_)
        obtain ⟨rfl, rfl, rfl⟩ := hq
        refine zj_ireturn dk_112_131 rfl ⟨by rw [exs_3]; congr 2; (repeat' split) <;> omega, rfl, rfl⟩
      · skip
        refine zj_iload_n dk_112_110 rfl ?_
        refine zi_aload_n dk_112_111 rfl rfl ?_
        refine zi_getf dk_112_112 fl_7_15 (by first | assumption | exact zz_up_eq _ _ _ | omega | exact Ne.symm (by assumption) | (refine (zz_up_ne ?_).trans ?_ <;> first | assumption | exact zz_up_eq _ _ _ | omega | exact Ne.symm (by assumption) | (refine (zz_up_ne ?_).trans ?_ <;> first | assumption | exact zz_up_eq _ _ _ | omega | exact Ne.symm (by assumption) | (refine (zz_up_ne ?_).trans ?_ <;> first | assumption | exact zz_up_eq _ _ _ | omega | exact Ne.symm (by assumption))))) rfl ?_
        refine zj_iload_n dk_112_115 rfl ?_
        refine zj_iald dk_112_116 (by first | assumption | exact zz_up_eq _ _ _ | omega | exact Ne.symm (by assumption) | (refine (zz_up_ne ?_).trans ?_ <;> first | assumption | exact zz_up_eq _ _ _ | omega | exact Ne.symm (by assumption) | (refine (zz_up_ne ?_).trans ?_ <;> first | assumption | exact zz_up_eq _ _ _ | omega | exact Ne.symm (by assumption) | (refine (zz_up_ne ?_).trans ?_ <;> first | assumption | exact zz_up_eq _ _ _ | omega | exact Ne.symm (by assumption))))) (by omega) ?_
        refine zi_invS dk_112_117 ml_7_53 is_45 (ct_45 (d := d - 1)) rfl rfl (Nat.le_of_ble_eq_true rfl) (by omega) rfl rfl (fun r n' h' hq => ?_)
        obtain ⟨rfl, rfl, rfl⟩ := hq
        refine zj_if_eq (t := 127) dk_112_120 rfl (by omega) (fun c120 => ?_) (fun c120 => ?_)
        · skip
          refine zj_iconst dk_112_127 ?_
          refine zi_invS dk_112_128 ml_7_49 is_111 (ct_111 (d := d - 1) (by omega)) rfl rfl (Nat.le_of_ble_eq_true rfl) (by omega) rfl rfl (fun r n' h' hq => ?_)
          obtain ⟨rfl, rfl, rfl⟩ := hq
          refine zj_ireturn dk_112_131 rfl ⟨by rw [exs_3]; congr 2; (repeat' split) <;> omega, rfl, rfl⟩
        · skip
          refine zj_iconst dk_112_123 ?_
          refine zi_goto (t := 128) dk_112_124 rfl ?_
          refine zi_invS dk_112_128 ml_7_49 is_111 (ct_111 (d := d - 1) (by omega)) rfl rfl (Nat.le_of_ble_eq_true rfl) (by omega) rfl rfl (fun r n' h' hq => ?_)
          obtain ⟨rfl, rfl, rfl⟩ := hq
          refine zj_ireturn dk_112_131 rfl ⟨by rw [exs_3]; congr 2; (repeat' split) <;> omega, rfl, rfl⟩
  · skip
    refine zj_iconst dk_112_5 ?_
    refine zi_goto (t := 10) dk_112_6 rfl ?_
    refine zj_istore dk_112_10 rfl ?_
    refine zj_iload_n dk_112_12 rfl ?_
    refine zj_bipush dk_112_13 (by decide) ?_
    refine zj_icmp_lt (t := 22) dk_112_15 rfl (by omega) (fun c15 => ?_) (fun c15 => ?_)
    · skip
      refine zj_iconst dk_112_22 ?_
      refine zj_istore dk_112_23 rfl ?_
      refine zi_aload_n dk_112_25 rfl rfl ?_
      refine zi_getf dk_112_26 fl_7_9 (by first | assumption | exact zz_up_eq _ _ _ | omega | exact Ne.symm (by assumption) | (refine (zz_up_ne ?_).trans ?_ <;> first | assumption | exact zz_up_eq _ _ _ | omega | exact Ne.symm (by assumption) | (refine (zz_up_ne ?_).trans ?_ <;> first | assumption | exact zz_up_eq _ _ _ | omega | exact Ne.symm (by assumption) | (refine (zz_up_ne ?_).trans ?_ <;> first | assumption | exact zz_up_eq _ _ _ | omega | exact Ne.symm (by assumption))))) rfl ?_
      refine zj_iload_n dk_112_29 rfl ?_
      refine zj_iald dk_112_30 (by first | assumption | exact zz_up_eq _ _ _ | omega | exact Ne.symm (by assumption) | (refine (zz_up_ne ?_).trans ?_ <;> first | assumption | exact zz_up_eq _ _ _ | omega | exact Ne.symm (by assumption) | (refine (zz_up_ne ?_).trans ?_ <;> first | assumption | exact zz_up_eq _ _ _ | omega | exact Ne.symm (by assumption) | (refine (zz_up_ne ?_).trans ?_ <;> first | assumption | exact zz_up_eq _ _ _ | omega | exact Ne.symm (by assumption))))) (by omega) ?_
      rw [hop]
      refine zj_tabIn (t := 105) dk_112_31 (by decide) rfl rfl ?_
      refine zj_iload dk_112_105 rfl ?_
      refine zj_if_eq (t := 127) dk_112_107 rfl (by omega) (fun c107 => ?_) (fun c107 => ?_)
      · skip
        refine zj_iconst dk_112_127 ?_
        refine zi_invS dk_112_128 ml_7_49 is_111 (ct_111 (d := d - 1) (by omega)) rfl rfl (Nat.le_of_ble_eq_true rfl) (by omega) rfl rfl (fun r n' h' hq => ?_)
        obtain ⟨rfl, rfl, rfl⟩ := hq
        refine zj_ireturn dk_112_131 rfl ⟨by rw [exs_3]; congr 2; (repeat' split) <;> omega, rfl, rfl⟩
      · skip
        refine zj_iload_n dk_112_110 rfl ?_
        refine zi_aload_n dk_112_111 rfl rfl ?_
        refine zi_getf dk_112_112 fl_7_15 (by first | assumption | exact zz_up_eq _ _ _ | omega | exact Ne.symm (by assumption) | (refine (zz_up_ne ?_).trans ?_ <;> first | assumption | exact zz_up_eq _ _ _ | omega | exact Ne.symm (by assumption) | (refine (zz_up_ne ?_).trans ?_ <;> first | assumption | exact zz_up_eq _ _ _ | omega | exact Ne.symm (by assumption) | (refine (zz_up_ne ?_).trans ?_ <;> first | assumption | exact zz_up_eq _ _ _ | omega | exact Ne.symm (by assumption))))) rfl ?_
        refine zj_iload_n dk_112_115 rfl ?_
        refine zj_iald dk_112_116 (by first | assumption | exact zz_up_eq _ _ _ | omega | exact Ne.symm (by assumption) | (refine (zz_up_ne ?_).trans ?_ <;> first | assumption | exact zz_up_eq _ _ _ | omega | exact Ne.symm (by assumption) | (refine (zz_up_ne ?_).trans ?_ <;> first | assumption | exact zz_up_eq _ _ _ | omega | exact Ne.symm (by assumption) | (refine (zz_up_ne ?_).trans ?_ <;> first | assumption | exact zz_up_eq _ _ _ | omega | exact Ne.symm (by assumption))))) (by omega) ?_
        refine zi_invS dk_112_117 ml_7_53 is_45 (ct_45 (d := d - 1)) rfl rfl (Nat.le_of_ble_eq_true rfl) (by omega) rfl rfl (fun r n' h' hq => ?_)
        obtain ⟨rfl, rfl, rfl⟩ := hq
        refine zj_if_eq (t := 127) dk_112_120 rfl (by omega) (fun c120 => ?_) (fun c120 => ?_)
        · skip
          refine zj_iconst dk_112_127 ?_
          refine zi_invS dk_112_128 ml_7_49 is_111 (ct_111 (d := d - 1) (by omega)) rfl rfl (Nat.le_of_ble_eq_true rfl) (by omega) rfl rfl (fun r n' h' hq => ?_)
          obtain ⟨rfl, rfl, rfl⟩ := hq
          refine zj_ireturn dk_112_131 rfl ⟨by rw [exs_3]; congr 2; (repeat' split) <;> omega, rfl, rfl⟩
        · skip
          refine zj_iconst dk_112_123 ?_
          refine zi_goto (t := 128) dk_112_124 rfl ?_
          refine zi_invS dk_112_128 ml_7_49 is_111 (ct_111 (d := d - 1) (by omega)) rfl rfl (Nat.le_of_ble_eq_true rfl) (by omega) rfl rfl (fun r n' h' hq => ?_)
          obtain ⟨rfl, rfl, rfl⟩ := hq
          refine zj_ireturn dk_112_131 rfl ⟨by rw [exs_3]; congr 2; (repeat' split) <;> omega, rfl, rfl⟩
    · skip
      refine zj_iconst dk_112_18 ?_
      refine zi_goto (t := 23) dk_112_19 rfl ?_
      refine zj_istore dk_112_23 rfl ?_
      refine zi_aload_n dk_112_25 rfl rfl ?_
      refine zi_getf dk_112_26 fl_7_9 (by first | assumption | exact zz_up_eq _ _ _ | omega | exact Ne.symm (by assumption) | (refine (zz_up_ne ?_).trans ?_ <;> first | assumption | exact zz_up_eq _ _ _ | omega | exact Ne.symm (by assumption) | (refine (zz_up_ne ?_).trans ?_ <;> first | assumption | exact zz_up_eq _ _ _ | omega | exact Ne.symm (by assumption) | (refine (zz_up_ne ?_).trans ?_ <;> first | assumption | exact zz_up_eq _ _ _ | omega | exact Ne.symm (by assumption))))) rfl ?_
      refine zj_iload_n dk_112_29 rfl ?_
      refine zj_iald dk_112_30 (by first | assumption | exact zz_up_eq _ _ _ | omega | exact Ne.symm (by assumption) | (refine (zz_up_ne ?_).trans ?_ <;> first | assumption | exact zz_up_eq _ _ _ | omega | exact Ne.symm (by assumption) | (refine (zz_up_ne ?_).trans ?_ <;> first | assumption | exact zz_up_eq _ _ _ | omega | exact Ne.symm (by assumption) | (refine (zz_up_ne ?_).trans ?_ <;> first | assumption | exact zz_up_eq _ _ _ | omega | exact Ne.symm (by assumption))))) (by omega) ?_
      rw [hop]
      refine zj_tabIn (t := 105) dk_112_31 (by decide) rfl rfl ?_
      refine zj_iload dk_112_105 rfl ?_
      refine zj_if_eq (t := 127) dk_112_107 rfl (by omega) (fun c107 => ?_) (fun c107 => ?_)
      · skip
        refine zj_iconst dk_112_127 ?_
        refine zi_invS dk_112_128 ml_7_49 is_111 (ct_111 (d := d - 1) (by omega)) rfl rfl (Nat.le_of_ble_eq_true rfl) (by omega) rfl rfl (fun r n' h' hq => ?_)
        obtain ⟨rfl, rfl, rfl⟩ := hq
        refine zj_ireturn dk_112_131 rfl ⟨by rw [exs_3]; congr 2; (repeat' split) <;> omega, rfl, rfl⟩
      · skip
        refine zj_iload_n dk_112_110 rfl ?_
        refine zi_aload_n dk_112_111 rfl rfl ?_
        refine zi_getf dk_112_112 fl_7_15 (by first | assumption | exact zz_up_eq _ _ _ | omega | exact Ne.symm (by assumption) | (refine (zz_up_ne ?_).trans ?_ <;> first | assumption | exact zz_up_eq _ _ _ | omega | exact Ne.symm (by assumption) | (refine (zz_up_ne ?_).trans ?_ <;> first | assumption | exact zz_up_eq _ _ _ | omega | exact Ne.symm (by assumption) | (refine (zz_up_ne ?_).trans ?_ <;> first | assumption | exact zz_up_eq _ _ _ | omega | exact Ne.symm (by assumption))))) rfl ?_
        refine zj_iload_n dk_112_115 rfl ?_
        refine zj_iald dk_112_116 (by first | assumption | exact zz_up_eq _ _ _ | omega | exact Ne.symm (by assumption) | (refine (zz_up_ne ?_).trans ?_ <;> first | assumption | exact zz_up_eq _ _ _ | omega | exact Ne.symm (by assumption) | (refine (zz_up_ne ?_).trans ?_ <;> first | assumption | exact zz_up_eq _ _ _ | omega | exact Ne.symm (by assumption) | (refine (zz_up_ne ?_).trans ?_ <;> first | assumption | exact zz_up_eq _ _ _ | omega | exact Ne.symm (by assumption))))) (by omega) ?_
        refine zi_invS dk_112_117 ml_7_53 is_45 (ct_45 (d := d - 1)) rfl rfl (Nat.le_of_ble_eq_true rfl) (by omega) rfl rfl (fun r n' h' hq => ?_)
        obtain ⟨rfl, rfl, rfl⟩ := hq
        refine zj_if_eq (t := 127) dk_112_120 rfl (by omega) (fun c120 => ?_) (fun c120 => ?_)
        · skip
          refine zj_iconst dk_112_127 ?_
          refine zi_invS dk_112_128 ml_7_49 is_111 (ct_111 (d := d - 1) (by omega)) rfl rfl (Nat.le_of_ble_eq_true rfl) (by omega) rfl rfl (fun r n' h' hq => ?_)
          obtain ⟨rfl, rfl, rfl⟩ := hq
          refine zj_ireturn dk_112_131 rfl ⟨by rw [exs_3]; congr 2; (repeat' split) <;> omega, rfl, rfl⟩
        · skip
          refine zj_iconst dk_112_123 ?_
          refine zi_goto (t := 128) dk_112_124 rfl ?_
          refine zi_invS dk_112_128 ml_7_49 is_111 (ct_111 (d := d - 1) (by omega)) rfl rfl (Nat.le_of_ble_eq_true rfl) (by omega) rfl rfl (fun r n' h' hq => ?_)
          obtain ⟨rfl, rfl, rfl⟩ := hq
          refine zj_ireturn dk_112_131 rfl ⟨by rw [exs_3]; congr 2; (repeat' split) <;> omega, rfl, rfl⟩

theorem ct_112_4 {X : zz_X} {d n : Nat} {h : zz_H} (hd : 1 ≤ d) {co : Nat} {o a b v : Int → Int} {sz : Int} (g0 : h co = some (.inr (7, [.ref (co + 1), .ref (co + 2), .ref (co + 3), .ref (co + 4), zv sz]))) (g1 : h (co + 1) = some (zA 0 16 o)) (g2 : h (co + 2) = some (zA 0 16 a)) (g3 : h (co + 3) = some (zA 0 16 b)) (g4 : h (co + 4) = some (zA 0 16 v)) (hz : 0 ≤ sz ∧ sz ≤ 16) (hw : ex_W o a b sz) {i ask held arg : Int} (hi : 0 ≤ i ∧ i < sz) (ha : -2147483648 ≤ ask ∧ ask < 2147483648) (hg : -2147483648 ≤ arg ∧ arg < 2147483648) (hop : o i = 4) : zz_Ct X mm_112 d 0 0 [.ref co, zv i, zv ask, zv held, zv arg] n h (zp (some (zv (ex_sv (o i) (a i) (b i) ask held arg))) n h) := by
  refine zz_start (by decide) (ls := [some (.ref co), some (zv i), some (zv ask), some (zv held), some (zv arg), none, none]) rfl ?_
  obtain ⟨w1, w2, w3, w4, w5, w6⟩ := hw i hi.1 hi.2
  have q1 := bz_rg (zb_bit held (a i))
  have q2 := zb_div_rg (b i) arg
  refine zj_iload_n dk_112_0 rfl ?_
  refine zj_iconst dk_112_1 ?_
  refine zj_icmp_eq (t := 9) dk_112_2 rfl (by omega) (fun c2 => ?_) (fun c2 => ?_)
  · skip
    refine zj_iconst dk_112_9 ?_
    refine zj_istore dk_112_10 rfl ?_
    refine zj_iload_n dk_112_12 rfl ?_
    refine zj_bipush dk_112_13 (by decide) ?_
    refine zj_icmp_lt (t := 22) dk_112_15 rfl (by omega) (fun c15 => ?_) (fun c15 => ?_)
    · skip
      refine zj_iconst dk_112_22 ?_
      refine zj_istore dk_112_23 rfl ?_
      refine zi_aload_n dk_112_25 rfl rfl ?_
      refine zi_getf dk_112_26 fl_7_9 (by first | assumption | exact zz_up_eq _ _ _ | omega | exact Ne.symm (by assumption) | (refine (zz_up_ne ?_).trans ?_ <;> first | assumption | exact zz_up_eq _ _ _ | omega | exact Ne.symm (by assumption) | (refine (zz_up_ne ?_).trans ?_ <;> first | assumption | exact zz_up_eq _ _ _ | omega | exact Ne.symm (by assumption) | (refine (zz_up_ne ?_).trans ?_ <;> first | assumption | exact zz_up_eq _ _ _ | omega | exact Ne.symm (by assumption))))) rfl ?_
      refine zj_iload_n dk_112_29 rfl ?_
      refine zj_iald dk_112_30 (by first | assumption | exact zz_up_eq _ _ _ | omega | exact Ne.symm (by assumption) | (refine (zz_up_ne ?_).trans ?_ <;> first | assumption | exact zz_up_eq _ _ _ | omega | exact Ne.symm (by assumption) | (refine (zz_up_ne ?_).trans ?_ <;> first | assumption | exact zz_up_eq _ _ _ | omega | exact Ne.symm (by assumption) | (refine (zz_up_ne ?_).trans ?_ <;> first | assumption | exact zz_up_eq _ _ _ | omega | exact Ne.symm (by assumption))))) (by omega) ?_
      rw [hop]
      refine zj_tabIn (t := 220) dk_112_31 (by decide) rfl rfl ?_
      refine zj_iconst dk_112_220 ?_
      refine zj_ireturn dk_112_221 rfl ⟨by rw [exs_4], rfl, rfl⟩
    · skip
      refine zj_iconst dk_112_18 ?_
      refine zi_goto (t := 23) dk_112_19 rfl ?_
      refine zj_istore dk_112_23 rfl ?_
      refine zi_aload_n dk_112_25 rfl rfl ?_
      refine zi_getf dk_112_26 fl_7_9 (by first | assumption | exact zz_up_eq _ _ _ | omega | exact Ne.symm (by assumption) | (refine (zz_up_ne ?_).trans ?_ <;> first | assumption | exact zz_up_eq _ _ _ | omega | exact Ne.symm (by assumption) | (refine (zz_up_ne ?_).trans ?_ <;> first | assumption | exact zz_up_eq _ _ _ | omega | exact Ne.symm (by assumption) | (refine (zz_up_ne ?_).trans ?_ <;> first | assumption | exact zz_up_eq _ _ _ | omega | exact Ne.symm (by assumption))))) rfl ?_
      refine zj_iload_n dk_112_29 rfl ?_
      refine zj_iald dk_112_30 (by first | assumption | exact zz_up_eq _ _ _ | omega | exact Ne.symm (by assumption) | (refine (zz_up_ne ?_).trans ?_ <;> first | assumption | exact zz_up_eq _ _ _ | omega | exact Ne.symm (by assumption) | (refine (zz_up_ne ?_).trans ?_ <;> first | assumption | exact zz_up_eq _ _ _ | omega | exact Ne.symm (by assumption) | (refine (zz_up_ne ?_).trans ?_ <;> first | assumption | exact zz_up_eq _ _ _ | omega | exact Ne.symm (by assumption))))) (by omega) ?_
      rw [hop]
      refine zj_tabIn (t := 220) dk_112_31 (by decide) rfl rfl ?_
      refine zj_iconst dk_112_220 ?_
      refine zj_ireturn dk_112_221 rfl ⟨by rw [exs_4], rfl, rfl⟩
  · skip
    refine zj_iconst dk_112_5 ?_
    refine zi_goto (t := 10) dk_112_6 rfl ?_
    refine zj_istore dk_112_10 rfl ?_
    refine zj_iload_n dk_112_12 rfl ?_
    refine zj_bipush dk_112_13 (by decide) ?_
    refine zj_icmp_lt (t := 22) dk_112_15 rfl (by omega) (fun c15 => ?_) (fun c15 => ?_)
    · skip
      refine zj_iconst dk_112_22 ?_
      refine zj_istore dk_112_23 rfl ?_
      refine zi_aload_n dk_112_25 rfl rfl ?_
      refine zi_getf dk_112_26 fl_7_9 (by first | assumption | exact zz_up_eq _ _ _ | omega | exact Ne.symm (by assumption) | (refine (zz_up_ne ?_).trans ?_ <;> first | assumption | exact zz_up_eq _ _ _ | omega | exact Ne.symm (by assumption) | (refine (zz_up_ne ?_).trans ?_ <;> first | assumption | exact zz_up_eq _ _ _ | omega | exact Ne.symm (by assumption) | (refine (zz_up_ne ?_).trans ?_ <;> first | assumption | exact zz_up_eq _ _ _ | omega | exact Ne.symm (by assumption))))) rfl ?_
      refine zj_iload_n dk_112_29 rfl ?_
      refine zj_iald dk_112_30 (by first | assumption | exact zz_up_eq _ _ _ | omega | exact Ne.symm (by assumption) | (refine (zz_up_ne ?_).trans ?_ <;> first | assumption | exact zz_up_eq _ _ _ | omega | exact Ne.symm (by assumption) | (refine (zz_up_ne ?_).trans ?_ <;> first | assumption | exact zz_up_eq _ _ _ | omega | exact Ne.symm (by assumption) | (refine (zz_up_ne ?_).trans ?_ <;> first | assumption | exact zz_up_eq _ _ _ | omega | exact Ne.symm (by assumption))))) (by omega) ?_
      rw [hop]
      refine zj_tabIn (t := 220) dk_112_31 (by decide) rfl rfl ?_
      refine zj_iconst dk_112_220 ?_
      refine zj_ireturn dk_112_221 rfl ⟨by rw [exs_4], rfl, rfl⟩
    · skip
      refine zj_iconst dk_112_18 ?_
      refine zi_goto (t := 23) dk_112_19 rfl ?_
      refine zj_istore dk_112_23 rfl ?_
      refine zi_aload_n dk_112_25 rfl rfl ?_
      refine zi_getf dk_112_26 fl_7_9 (by first | assumption | exact zz_up_eq _ _ _ | omega | exact Ne.symm (by assumption) | (refine (zz_up_ne ?_).trans ?_ <;> first | assumption | exact zz_up_eq _ _ _ | omega | exact Ne.symm (by assumption) | (refine (zz_up_ne ?_).trans ?_ <;> first | assumption | exact zz_up_eq _ _ _ | omega | exact Ne.symm (by assumption) | (refine (zz_up_ne ?_).trans ?_ <;> first | assumption | exact zz_up_eq _ _ _ | omega | exact Ne.symm (by assumption))))) rfl ?_
      refine zj_iload_n dk_112_29 rfl ?_
      refine zj_iald dk_112_30 (by first | assumption | exact zz_up_eq _ _ _ | omega | exact Ne.symm (by assumption) | (refine (zz_up_ne ?_).trans ?_ <;> first | assumption | exact zz_up_eq _ _ _ | omega | exact Ne.symm (by assumption) | (refine (zz_up_ne ?_).trans ?_ <;> first | assumption | exact zz_up_eq _ _ _ | omega | exact Ne.symm (by assumption) | (refine (zz_up_ne ?_).trans ?_ <;> first | assumption | exact zz_up_eq _ _ _ | omega | exact Ne.symm (by assumption))))) (by omega) ?_
      rw [hop]
      refine zj_tabIn (t := 220) dk_112_31 (by decide) rfl rfl ?_
      refine zj_iconst dk_112_220 ?_
      refine zj_ireturn dk_112_221 rfl ⟨by rw [exs_4], rfl, rfl⟩

theorem ct_112_5 {X : zz_X} {d n : Nat} {h : zz_H} (hd : 1 ≤ d) {co : Nat} {o a b v : Int → Int} {sz : Int} (g0 : h co = some (.inr (7, [.ref (co + 1), .ref (co + 2), .ref (co + 3), .ref (co + 4), zv sz]))) (g1 : h (co + 1) = some (zA 0 16 o)) (g2 : h (co + 2) = some (zA 0 16 a)) (g3 : h (co + 3) = some (zA 0 16 b)) (g4 : h (co + 4) = some (zA 0 16 v)) (hz : 0 ≤ sz ∧ sz ≤ 16) (hw : ex_W o a b sz) {i ask held arg : Int} (hi : 0 ≤ i ∧ i < sz) (ha : -2147483648 ≤ ask ∧ ask < 2147483648) (hg : -2147483648 ≤ arg ∧ arg < 2147483648) (hop : o i = 5) : zz_Ct X mm_112 d 0 0 [.ref co, zv i, zv ask, zv held, zv arg] n h (zp (some (zv (ex_sv (o i) (a i) (b i) ask held arg))) n h) := by
  refine zz_start (by decide) (ls := [some (.ref co), some (zv i), some (zv ask), some (zv held), some (zv arg), none, none]) rfl ?_
  obtain ⟨w1, w2, w3, w4, w5, w6⟩ := hw i hi.1 hi.2
  have q1 := bz_rg (zb_bit held (a i))
  have q2 := zb_div_rg (b i) arg
  refine zj_iload_n dk_112_0 rfl ?_
  refine zj_iconst dk_112_1 ?_
  refine zj_icmp_eq (t := 9) dk_112_2 rfl (by omega) (fun c2 => ?_) (fun c2 => ?_)
  · skip
    refine zj_iconst dk_112_9 ?_
    refine zj_istore dk_112_10 rfl ?_
    refine zj_iload_n dk_112_12 rfl ?_
    refine zj_bipush dk_112_13 (by decide) ?_
    refine zj_icmp_lt (t := 22) dk_112_15 rfl (by omega) (fun c15 => ?_) (fun c15 => ?_)
    · skip
      refine zj_iconst dk_112_22 ?_
      refine zj_istore dk_112_23 rfl ?_
      refine zi_aload_n dk_112_25 rfl rfl ?_
      refine zi_getf dk_112_26 fl_7_9 (by first | assumption | exact zz_up_eq _ _ _ | omega | exact Ne.symm (by assumption) | (refine (zz_up_ne ?_).trans ?_ <;> first | assumption | exact zz_up_eq _ _ _ | omega | exact Ne.symm (by assumption) | (refine (zz_up_ne ?_).trans ?_ <;> first | assumption | exact zz_up_eq _ _ _ | omega | exact Ne.symm (by assumption) | (refine (zz_up_ne ?_).trans ?_ <;> first | assumption | exact zz_up_eq _ _ _ | omega | exact Ne.symm (by assumption))))) rfl ?_
      refine zj_iload_n dk_112_29 rfl ?_
      refine zj_iald dk_112_30 (by first | assumption | exact zz_up_eq _ _ _ | omega | exact Ne.symm (by assumption) | (refine (zz_up_ne ?_).trans ?_ <;> first | assumption | exact zz_up_eq _ _ _ | omega | exact Ne.symm (by assumption) | (refine (zz_up_ne ?_).trans ?_ <;> first | assumption | exact zz_up_eq _ _ _ | omega | exact Ne.symm (by assumption) | (refine (zz_up_ne ?_).trans ?_ <;> first | assumption | exact zz_up_eq _ _ _ | omega | exact Ne.symm (by assumption))))) (by omega) ?_
      rw [hop]
      refine zj_tabIn (t := 220) dk_112_31 (by decide) rfl rfl ?_
      refine zj_iconst dk_112_220 ?_
      refine zj_ireturn dk_112_221 rfl ⟨by rw [exs_5], rfl, rfl⟩
    · skip
      refine zj_iconst dk_112_18 ?_
      refine zi_goto (t := 23) dk_112_19 rfl ?_
      refine zj_istore dk_112_23 rfl ?_
      refine zi_aload_n dk_112_25 rfl rfl ?_
      refine zi_getf dk_112_26 fl_7_9 (by first | assumption | exact zz_up_eq _ _ _ | omega | exact Ne.symm (by assumption) | (refine (zz_up_ne ?_).trans ?_ <;> first | assumption | exact zz_up_eq _ _ _ | omega | exact Ne.symm (by assumption) | (refine (zz_up_ne ?_).trans ?_ <;> first | assumption | exact zz_up_eq _ _ _ | omega | exact Ne.symm (by assumption) | (refine (zz_up_ne ?_).trans ?_ <;> first | assumption | exact zz_up_eq _ _ _ | omega | exact Ne.symm (by assumption))))) rfl ?_
      refine zj_iload_n dk_112_29 rfl ?_
      refine zj_iald dk_112_30 (by first | assumption | exact zz_up_eq _ _ _ | omega | exact Ne.symm (by assumption) | (refine (zz_up_ne ?_).trans ?_ <;> first | assumption | exact zz_up_eq _ _ _ | omega | exact Ne.symm (by assumption) | (refine (zz_up_ne ?_).trans ?_ <;> first | assumption | exact zz_up_eq _ _ _ | omega | exact Ne.symm (by assumption) | (refine (zz_up_ne ?_).trans ?_ <;> first | assumption | exact zz_up_eq _ _ _ | omega | exact Ne.symm (by assumption))))) (by omega) ?_
      rw [hop]
      refine zj_tabIn (t := 220) dk_112_31 (by decide) rfl rfl ?_
      refine zj_iconst dk_112_220 ?_
      refine zj_ireturn dk_112_221 rfl ⟨by rw [exs_5], rfl, rfl⟩
  · skip
    refine zj_iconst dk_112_5 ?_
    refine zi_goto (t := 10) dk_112_6 rfl ?_
    refine zj_istore dk_112_10 rfl ?_
    refine zj_iload_n dk_112_12 rfl ?_
    refine zj_bipush dk_112_13 (by decide) ?_
    refine zj_icmp_lt (t := 22) dk_112_15 rfl (by omega) (fun c15 => ?_) (fun c15 => ?_)
    · skip
      refine zj_iconst dk_112_22 ?_
      refine zj_istore dk_112_23 rfl ?_
      refine zi_aload_n dk_112_25 rfl rfl ?_
      refine zi_getf dk_112_26 fl_7_9 (by first | assumption | exact zz_up_eq _ _ _ | omega | exact Ne.symm (by assumption) | (refine (zz_up_ne ?_).trans ?_ <;> first | assumption | exact zz_up_eq _ _ _ | omega | exact Ne.symm (by assumption) | (refine (zz_up_ne ?_).trans ?_ <;> first | assumption | exact zz_up_eq _ _ _ | omega | exact Ne.symm (by assumption) | (refine (zz_up_ne ?_).trans ?_ <;> first | assumption | exact zz_up_eq _ _ _ | omega | exact Ne.symm (by assumption))))) rfl ?_
      refine zj_iload_n dk_112_29 rfl ?_
      refine zj_iald dk_112_30 (by first | assumption | exact zz_up_eq _ _ _ | omega | exact Ne.symm (by assumption) | (refine (zz_up_ne ?_).trans ?_ <;> first | assumption | exact zz_up_eq _ _ _ | omega | exact Ne.symm (by assumption) | (refine (zz_up_ne ?_).trans ?_ <;> first | assumption | exact zz_up_eq _ _ _ | omega | exact Ne.symm (by assumption) | (refine (zz_up_ne ?_).trans ?_ <;> first | assumption | exact zz_up_eq _ _ _ | omega | exact Ne.symm (by assumption))))) (by omega) ?_
      rw [hop]
      refine zj_tabIn (t := 220) dk_112_31 (by decide) rfl rfl ?_
      refine zj_iconst dk_112_220 ?_
      refine zj_ireturn dk_112_221 rfl ⟨by rw [exs_5], rfl, rfl⟩
    · skip
      refine zj_iconst dk_112_18 ?_
      refine zi_goto (t := 23) dk_112_19 rfl ?_
      refine zj_istore dk_112_23 rfl ?_
      refine zi_aload_n dk_112_25 rfl rfl ?_
      refine zi_getf dk_112_26 fl_7_9 (by first | assumption | exact zz_up_eq _ _ _ | omega | exact Ne.symm (by assumption) | (refine (zz_up_ne ?_).trans ?_ <;> first | assumption | exact zz_up_eq _ _ _ | omega | exact Ne.symm (by assumption) | (refine (zz_up_ne ?_).trans ?_ <;> first | assumption | exact zz_up_eq _ _ _ | omega | exact Ne.symm (by assumption) | (refine (zz_up_ne ?_).trans ?_ <;> first | assumption | exact zz_up_eq _ _ _ | omega | exact Ne.symm (by assumption))))) rfl ?_
      refine zj_iload_n dk_112_29 rfl ?_
      refine zj_iald dk_112_30 (by first | assumption | exact zz_up_eq _ _ _ | omega | exact Ne.symm (by assumption) | (refine (zz_up_ne ?_).trans ?_ <;> first | assumption | exact zz_up_eq _ _ _ | omega | exact Ne.symm (by assumption) | (refine (zz_up_ne ?_).trans ?_ <;> first | assumption | exact zz_up_eq _ _ _ | omega | exact Ne.symm (by assumption) | (refine (zz_up_ne ?_).trans ?_ <;> first | assumption | exact zz_up_eq _ _ _ | omega | exact Ne.symm (by assumption))))) (by omega) ?_
      rw [hop]
      refine zj_tabIn (t := 220) dk_112_31 (by decide) rfl rfl ?_
      refine zj_iconst dk_112_220 ?_
      refine zj_ireturn dk_112_221 rfl ⟨by rw [exs_5], rfl, rfl⟩

theorem ct_112_6 {X : zz_X} {d n : Nat} {h : zz_H} (hd : 1 ≤ d) {co : Nat} {o a b v : Int → Int} {sz : Int} (g0 : h co = some (.inr (7, [.ref (co + 1), .ref (co + 2), .ref (co + 3), .ref (co + 4), zv sz]))) (g1 : h (co + 1) = some (zA 0 16 o)) (g2 : h (co + 2) = some (zA 0 16 a)) (g3 : h (co + 3) = some (zA 0 16 b)) (g4 : h (co + 4) = some (zA 0 16 v)) (hz : 0 ≤ sz ∧ sz ≤ 16) (hw : ex_W o a b sz) {i ask held arg : Int} (hi : 0 ≤ i ∧ i < sz) (ha : -2147483648 ≤ ask ∧ ask < 2147483648) (hg : -2147483648 ≤ arg ∧ arg < 2147483648) (hop : o i = 6) : zz_Ct X mm_112 d 0 0 [.ref co, zv i, zv ask, zv held, zv arg] n h (zp (some (zv (ex_sv (o i) (a i) (b i) ask held arg))) n h) := by
  refine zz_start (by decide) (ls := [some (.ref co), some (zv i), some (zv ask), some (zv held), some (zv arg), none, none]) rfl ?_
  obtain ⟨w1, w2, w3, w4, w5, w6⟩ := hw i hi.1 hi.2
  have q1 := bz_rg (zb_bit held (a i))
  have q2 := zb_div_rg (b i) arg
  refine zj_iload_n dk_112_0 rfl ?_
  refine zj_iconst dk_112_1 ?_
  refine zj_icmp_eq (t := 9) dk_112_2 rfl (by omega) (fun c2 => ?_) (fun c2 => ?_)
  · skip
    refine zj_iconst dk_112_9 ?_
    refine zj_istore dk_112_10 rfl ?_
    refine zj_iload_n dk_112_12 rfl ?_
    refine zj_bipush dk_112_13 (by decide) ?_
    refine zj_icmp_lt (t := 22) dk_112_15 rfl (by omega) (fun c15 => ?_) (fun c15 => ?_)
    · skip
      refine zj_iconst dk_112_22 ?_
      refine zj_istore dk_112_23 rfl ?_
      refine zi_aload_n dk_112_25 rfl rfl ?_
      refine zi_getf dk_112_26 fl_7_9 (by first | assumption | exact zz_up_eq _ _ _ | omega | exact Ne.symm (by assumption) | (refine (zz_up_ne ?_).trans ?_ <;> first | assumption | exact zz_up_eq _ _ _ | omega | exact Ne.symm (by assumption) | (refine (zz_up_ne ?_).trans ?_ <;> first | assumption | exact zz_up_eq _ _ _ | omega | exact Ne.symm (by assumption) | (refine (zz_up_ne ?_).trans ?_ <;> first | assumption | exact zz_up_eq _ _ _ | omega | exact Ne.symm (by assumption))))) rfl ?_
      refine zj_iload_n dk_112_29 rfl ?_
      refine zj_iald dk_112_30 (by first | assumption | exact zz_up_eq _ _ _ | omega | exact Ne.symm (by assumption) | (refine (zz_up_ne ?_).trans ?_ <;> first | assumption | exact zz_up_eq _ _ _ | omega | exact Ne.symm (by assumption) | (refine (zz_up_ne ?_).trans ?_ <;> first | assumption | exact zz_up_eq _ _ _ | omega | exact Ne.symm (by assumption) | (refine (zz_up_ne ?_).trans ?_ <;> first | assumption | exact zz_up_eq _ _ _ | omega | exact Ne.symm (by assumption))))) (by omega) ?_
      rw [hop]
      refine zj_tabIn (t := 220) dk_112_31 (by decide) rfl rfl ?_
      refine zj_iconst dk_112_220 ?_
      refine zj_ireturn dk_112_221 rfl ⟨by rw [exs_6], rfl, rfl⟩
    · skip
      refine zj_iconst dk_112_18 ?_
      refine zi_goto (t := 23) dk_112_19 rfl ?_
      refine zj_istore dk_112_23 rfl ?_
      refine zi_aload_n dk_112_25 rfl rfl ?_
      refine zi_getf dk_112_26 fl_7_9 (by first | assumption | exact zz_up_eq _ _ _ | omega | exact Ne.symm (by assumption) | (refine (zz_up_ne ?_).trans ?_ <;> first | assumption | exact zz_up_eq _ _ _ | omega | exact Ne.symm (by assumption) | (refine (zz_up_ne ?_).trans ?_ <;> first | assumption | exact zz_up_eq _ _ _ | omega | exact Ne.symm (by assumption) | (refine (zz_up_ne ?_).trans ?_ <;> first | assumption | exact zz_up_eq _ _ _ | omega | exact Ne.symm (by assumption))))) rfl ?_
      refine zj_iload_n dk_112_29 rfl ?_
      refine zj_iald dk_112_30 (by first | assumption | exact zz_up_eq _ _ _ | omega | exact Ne.symm (by assumption) | (refine (zz_up_ne ?_).trans ?_ <;> first | assumption | exact zz_up_eq _ _ _ | omega | exact Ne.symm (by assumption) | (refine (zz_up_ne ?_).trans ?_ <;> first | assumption | exact zz_up_eq _ _ _ | omega | exact Ne.symm (by assumption) | (refine (zz_up_ne ?_).trans ?_ <;> first | assumption | exact zz_up_eq _ _ _ | omega | exact Ne.symm (by assumption))))) (by omega) ?_
      rw [hop]
      refine zj_tabIn (t := 220) dk_112_31 (by decide) rfl rfl ?_
      refine zj_iconst dk_112_220 ?_
      refine zj_ireturn dk_112_221 rfl ⟨by rw [exs_6], rfl, rfl⟩
  · skip
    refine zj_iconst dk_112_5 ?_
    refine zi_goto (t := 10) dk_112_6 rfl ?_
    refine zj_istore dk_112_10 rfl ?_
    refine zj_iload_n dk_112_12 rfl ?_
    refine zj_bipush dk_112_13 (by decide) ?_
    refine zj_icmp_lt (t := 22) dk_112_15 rfl (by omega) (fun c15 => ?_) (fun c15 => ?_)
    · skip
      refine zj_iconst dk_112_22 ?_
      refine zj_istore dk_112_23 rfl ?_
      refine zi_aload_n dk_112_25 rfl rfl ?_
      refine zi_getf dk_112_26 fl_7_9 (by first | assumption | exact zz_up_eq _ _ _ | omega | exact Ne.symm (by assumption) | (refine (zz_up_ne ?_).trans ?_ <;> first | assumption | exact zz_up_eq _ _ _ | omega | exact Ne.symm (by assumption) | (refine (zz_up_ne ?_).trans ?_ <;> first | assumption | exact zz_up_eq _ _ _ | omega | exact Ne.symm (by assumption) | (refine (zz_up_ne ?_).trans ?_ <;> first | assumption | exact zz_up_eq _ _ _ | omega | exact Ne.symm (by assumption))))) rfl ?_
      refine zj_iload_n dk_112_29 rfl ?_
      refine zj_iald dk_112_30 (by first | assumption | exact zz_up_eq _ _ _ | omega | exact Ne.symm (by assumption) | (refine (zz_up_ne ?_).trans ?_ <;> first | assumption | exact zz_up_eq _ _ _ | omega | exact Ne.symm (by assumption) | (refine (zz_up_ne ?_).trans ?_ <;> first | assumption | exact zz_up_eq _ _ _ | omega | exact Ne.symm (by assumption) | (refine (zz_up_ne ?_).trans ?_ <;> first | assumption | exact zz_up_eq _ _ _ | omega | exact Ne.symm (by assumption))))) (by omega) ?_
      rw [hop]
      refine zj_tabIn (t := 220) dk_112_31 (by decide) rfl rfl ?_
      refine zj_iconst dk_112_220 ?_
      refine zj_ireturn dk_112_221 rfl ⟨by rw [exs_6], rfl, rfl⟩
    · skip
      refine zj_iconst dk_112_18 ?_
      refine zi_goto (t := 23) dk_112_19 rfl ?_
      refine zj_istore dk_112_23 rfl ?_
      refine zi_aload_n dk_112_25 rfl rfl ?_
      refine zi_getf dk_112_26 fl_7_9 (by first | assumption | exact zz_up_eq _ _ _ | omega | exact Ne.symm (by assumption) | (refine (zz_up_ne ?_).trans ?_ <;> first | assumption | exact zz_up_eq _ _ _ | omega | exact Ne.symm (by assumption) | (refine (zz_up_ne ?_).trans ?_ <;> first | assumption | exact zz_up_eq _ _ _ | omega | exact Ne.symm (by assumption) | (refine (zz_up_ne ?_).trans ?_ <;> first | assumption | exact zz_up_eq _ _ _ | omega | exact Ne.symm (by assumption))))) rfl ?_
      refine zj_iload_n dk_112_29 rfl ?_
      refine zj_iald dk_112_30 (by first | assumption | exact zz_up_eq _ _ _ | omega | exact Ne.symm (by assumption) | (refine (zz_up_ne ?_).trans ?_ <;> first | assumption | exact zz_up_eq _ _ _ | omega | exact Ne.symm (by assumption) | (refine (zz_up_ne ?_).trans ?_ <;> first | assumption | exact zz_up_eq _ _ _ | omega | exact Ne.symm (by assumption) | (refine (zz_up_ne ?_).trans ?_ <;> first | assumption | exact zz_up_eq _ _ _ | omega | exact Ne.symm (by assumption))))) (by omega) ?_
      rw [hop]
      refine zj_tabIn (t := 220) dk_112_31 (by decide) rfl rfl ?_
      refine zj_iconst dk_112_220 ?_
      refine zj_ireturn dk_112_221 rfl ⟨by rw [exs_6], rfl, rfl⟩

theorem ct_112_7 {X : zz_X} {d n : Nat} {h : zz_H} (hd : 1 ≤ d) {co : Nat} {o a b v : Int → Int} {sz : Int} (g0 : h co = some (.inr (7, [.ref (co + 1), .ref (co + 2), .ref (co + 3), .ref (co + 4), zv sz]))) (g1 : h (co + 1) = some (zA 0 16 o)) (g2 : h (co + 2) = some (zA 0 16 a)) (g3 : h (co + 3) = some (zA 0 16 b)) (g4 : h (co + 4) = some (zA 0 16 v)) (hz : 0 ≤ sz ∧ sz ≤ 16) (hw : ex_W o a b sz) {i ask held arg : Int} (hi : 0 ≤ i ∧ i < sz) (ha : -2147483648 ≤ ask ∧ ask < 2147483648) (hg : -2147483648 ≤ arg ∧ arg < 2147483648) (hop : o i = 7) : zz_Ct X mm_112 d 0 0 [.ref co, zv i, zv ask, zv held, zv arg] n h (zp (some (zv (ex_sv (o i) (a i) (b i) ask held arg))) n h) := by
  refine zz_start (by decide) (ls := [some (.ref co), some (zv i), some (zv ask), some (zv held), some (zv arg), none, none]) rfl ?_
  obtain ⟨w1, w2, w3, w4, w5, w6⟩ := hw i hi.1 hi.2
  have q1 := bz_rg (zb_bit held (a i))
  have q2 := zb_div_rg (b i) arg
  refine zj_iload_n dk_112_0 rfl ?_
  refine zj_iconst dk_112_1 ?_
  refine zj_icmp_eq (t := 9) dk_112_2 rfl (by omega) (fun c2 => ?_) (fun c2 => ?_)
  · skip
    refine zj_iconst dk_112_9 ?_
    refine zj_istore dk_112_10 rfl ?_
    refine zj_iload_n dk_112_12 rfl ?_
    refine zj_bipush dk_112_13 (by decide) ?_
    refine zj_icmp_lt (t := 22) dk_112_15 rfl (by omega) (fun c15 => ?_) (fun c15 => ?_)
    · skip
      refine zj_iconst dk_112_22 ?_
      refine zj_istore dk_112_23 rfl ?_
      refine zi_aload_n dk_112_25 rfl rfl ?_
      refine zi_getf dk_112_26 fl_7_9 (by first | assumption | exact zz_up_eq _ _ _ | omega | exact Ne.symm (by assumption) | (refine (zz_up_ne ?_).trans ?_ <;> first | assumption | exact zz_up_eq _ _ _ | omega | exact Ne.symm (by assumption) | (refine (zz_up_ne ?_).trans ?_ <;> first | assumption | exact zz_up_eq _ _ _ | omega | exact Ne.symm (by assumption) | (refine (zz_up_ne ?_).trans ?_ <;> first | assumption | exact zz_up_eq _ _ _ | omega | exact Ne.symm (by assumption))))) rfl ?_
      refine zj_iload_n dk_112_29 rfl ?_
      refine zj_iald dk_112_30 (by first | assumption | exact zz_up_eq _ _ _ | omega | exact Ne.symm (by assumption) | (refine (zz_up_ne ?_).trans ?_ <;> first | assumption | exact zz_up_eq _ _ _ | omega | exact Ne.symm (by assumption) | (refine (zz_up_ne ?_).trans ?_ <;> first | assumption | exact zz_up_eq _ _ _ | omega | exact Ne.symm (by assumption) | (refine (zz_up_ne ?_).trans ?_ <;> first | assumption | exact zz_up_eq _ _ _ | omega | exact Ne.symm (by assumption))))) (by omega) ?_
      rw [hop]
      refine zj_tabIn (t := 132) dk_112_31 (by decide) rfl rfl ?_
      refine zj_iload dk_112_132 rfl ?_
      refine zj_if_eq (t := 159) dk_112_134 rfl (by omega) (fun c134 => ?_) (fun c134 => ?_)
      · skip
        refine zj_iconst dk_112_159 ?_
        refine zi_invS dk_112_160 ml_7_49 is_111 (ct_111 (d := d - 1) (by omega)) rfl rfl (Nat.le_of_ble_eq_true rfl) (by omega) rfl rfl (fun r n' h' hq => ?_)
        obtain ⟨rfl, rfl, rfl⟩ := hq
        refine zj_ireturn dk_112_163 rfl ⟨by rw [exs_7]; congr 2; (repeat' split) <;> omega, rfl, rfl⟩
      · skip
        refine zj_iload dk_112_137 rfl ?_
        refine zj_iload dk_112_139 rfl ?_
        refine zj_if_eq (t := 151) dk_112_141 rfl (by omega) (fun c141 => ?_) (fun c141 => ?_)
        · skip
          refine zj_iload_n dk_112_151 rfl ?_
          refine zj_icmp_ne (t := 159) dk_112_152 rfl (by omega) (fun c152 => ?_) (fun c152 => ?_)
          · skip
            refine zj_iconst dk_112_159 ?_
            refine zi_invS dk_112_160 ml_7_49 is_111 (ct_111 (d := d - 1) (by omega)) rfl rfl (Nat.le_of_ble_eq_true rfl) (by omega) rfl rfl (fun r n' h' hq => ?_)
            obtain ⟨rfl, rfl, rfl⟩ := hq
            refine zj_ireturn dk_112_163 rfl ⟨by rw [exs_7]; congr 2; (repeat' split) <;> omega, rfl, rfl⟩
          · skip
            refine zj_iconst dk_112_155 ?_
            refine zi_goto (t := 160) dk_112_156 rfl ?_
            refine zi_invS dk_112_160 ml_7_49 is_111 (ct_111 (d := d - 1) (by omega)) rfl rfl (Nat.le_of_ble_eq_true rfl) (by omega) rfl rfl (fun r n' h' hq => ?_)
            obtain ⟨rfl, rfl, rfl⟩ := hq
            refine zj_ireturn dk_112_163 rfl ⟨by rw [exs_7]; congr 2; (repeat' split) <;> omega, rfl, rfl⟩
        · skip
          refine zj_iload_n dk_112_144 rfl ?_
          refine zj_bipush dk_112_145 (by decide) ?_
          refine zj_isub dk_112_147 ?_
          refine zi_goto (t := 152) dk_112_148 rfl ?_
          refine zj_icmp_ne (t := 159) dk_112_152 rfl (by omega) (fun c152 => ?_) (fun c152 => ?_)
          · skip
            refine zj_iconst dk_112_159 ?_
            refine zi_invS dk_112_160 ml_7_49 is_111 (ct_111 (d := d - 1) (by omega)) rfl rfl (Nat.le_of_ble_eq_true rfl) (by omega) rfl rfl (fun r n' h' hq => ?_)
            obtain ⟨rfl, rfl, rfl⟩ := hq
            refine zj_ireturn dk_112_163 rfl ⟨by rw [exs_7]; congr 2; (repeat' split) <;> omega, rfl, rfl⟩
          · skip
            refine zj_iconst dk_112_155 ?_
            refine zi_goto (t := 160) dk_112_156 rfl ?_
            refine zi_invS dk_112_160 ml_7_49 is_111 (ct_111 (d := d - 1) (by omega)) rfl rfl (Nat.le_of_ble_eq_true rfl) (by omega) rfl rfl (fun r n' h' hq => ?_)
            obtain ⟨rfl, rfl, rfl⟩ := hq
            refine zj_ireturn dk_112_163 rfl ⟨by rw [exs_7]; congr 2; (repeat' split) <;> omega, rfl, rfl⟩
    · skip
      refine zj_iconst dk_112_18 ?_
      refine zi_goto (t := 23) dk_112_19 rfl ?_
      refine zj_istore dk_112_23 rfl ?_
      refine zi_aload_n dk_112_25 rfl rfl ?_
      refine zi_getf dk_112_26 fl_7_9 (by first | assumption | exact zz_up_eq _ _ _ | omega | exact Ne.symm (by assumption) | (refine (zz_up_ne ?_).trans ?_ <;> first | assumption | exact zz_up_eq _ _ _ | omega | exact Ne.symm (by assumption) | (refine (zz_up_ne ?_).trans ?_ <;> first | assumption | exact zz_up_eq _ _ _ | omega | exact Ne.symm (by assumption) | (refine (zz_up_ne ?_).trans ?_ <;> first | assumption | exact zz_up_eq _ _ _ | omega | exact Ne.symm (by assumption))))) rfl ?_
      refine zj_iload_n dk_112_29 rfl ?_
      refine zj_iald dk_112_30 (by first | assumption | exact zz_up_eq _ _ _ | omega | exact Ne.symm (by assumption) | (refine (zz_up_ne ?_).trans ?_ <;> first | assumption | exact zz_up_eq _ _ _ | omega | exact Ne.symm (by assumption) | (refine (zz_up_ne ?_).trans ?_ <;> first | assumption | exact zz_up_eq _ _ _ | omega | exact Ne.symm (by assumption) | (refine (zz_up_ne ?_).trans ?_ <;> first | assumption | exact zz_up_eq _ _ _ | omega | exact Ne.symm (by assumption))))) (by omega) ?_
      rw [hop]
      refine zj_tabIn (t := 132) dk_112_31 (by decide) rfl rfl ?_
      refine zj_iload dk_112_132 rfl ?_
      refine zj_if_eq (t := 159) dk_112_134 rfl (by omega) (fun c134 => ?_) (fun c134 => ?_)
      · skip
        refine zj_iconst dk_112_159 ?_
        refine zi_invS dk_112_160 ml_7_49 is_111 (ct_111 (d := d - 1) (by omega)) rfl rfl (Nat.le_of_ble_eq_true rfl) (by omega) rfl rfl (fun r n' h' hq => ?_)
        obtain ⟨rfl, rfl, rfl⟩ := hq
        refine zj_ireturn dk_112_163 rfl ⟨by rw [exs_7]; congr 2; (repeat' split) <;> omega, rfl, rfl⟩
      · skip
        refine zj_iload dk_112_137 rfl ?_
        refine zj_iload dk_112_139 rfl ?_
        refine zj_if_eq (t := 151) dk_112_141 rfl (by omega) (fun c141 => ?_) (fun c141 => ?_)
        · skip
          refine zj_iload_n dk_112_151 rfl ?_
          refine zj_icmp_ne (t := 159) dk_112_152 rfl (by omega) (fun c152 => ?_) (fun c152 => ?_)
          · skip
            refine zj_iconst dk_112_159 ?_
            refine zi_invS dk_112_160 ml_7_49 is_111 (ct_111 (d := d - 1) (by omega)) rfl rfl (Nat.le_of_ble_eq_true rfl) (by omega) rfl rfl (fun r n' h' hq => ?_)
            obtain ⟨rfl, rfl, rfl⟩ := hq
            refine zj_ireturn dk_112_163 rfl ⟨by rw [exs_7]; congr 2; (repeat' split) <;> omega, rfl, rfl⟩
          · skip
            refine zj_iconst dk_112_155 ?_
            refine zi_goto (t := 160) dk_112_156 rfl ?_
            refine zi_invS dk_112_160 ml_7_49 is_111 (ct_111 (d := d - 1) (by omega)) rfl rfl (Nat.le_of_ble_eq_true rfl) (by omega) rfl rfl (fun r n' h' hq => ?_)
            obtain ⟨rfl, rfl, rfl⟩ := hq
            refine zj_ireturn dk_112_163 rfl ⟨by rw [exs_7]; congr 2; (repeat' split) <;> omega, rfl, rfl⟩
        · skip
          refine zj_iload_n dk_112_144 rfl ?_
          refine zj_bipush dk_112_145 (by decide) ?_
          refine zj_isub dk_112_147 ?_
          refine zi_goto (t := 152) dk_112_148 rfl ?_
          refine zj_icmp_ne (t := 159) dk_112_152 rfl (by omega) (fun c152 => ?_) (fun c152 => ?_)
          · skip
            refine zj_iconst dk_112_159 ?_
            refine zi_invS dk_112_160 ml_7_49 is_111 (ct_111 (d := d - 1) (by omega)) rfl rfl (Nat.le_of_ble_eq_true rfl) (by omega) rfl rfl (fun r n' h' hq => ?_)
            obtain ⟨rfl, rfl, rfl⟩ := hq
            refine zj_ireturn dk_112_163 rfl ⟨by rw [exs_7]; congr 2; (repeat' split) <;> omega, rfl, rfl⟩
          · skip
            refine zj_iconst dk_112_155 ?_
            refine zi_goto (t := 160) dk_112_156 rfl ?_
            refine zi_invS dk_112_160 ml_7_49 is_111 (ct_111 (d := d - 1) (by omega)) rfl rfl (Nat.le_of_ble_eq_true rfl) (by omega) rfl rfl (fun r n' h' hq => ?_)
            obtain ⟨rfl, rfl, rfl⟩ := hq
            refine zj_ireturn dk_112_163 rfl ⟨by rw [exs_7]; congr 2; (repeat' split) <;> omega, rfl, rfl⟩
  · skip
    refine zj_iconst dk_112_5 ?_
    refine zi_goto (t := 10) dk_112_6 rfl ?_
    refine zj_istore dk_112_10 rfl ?_
    refine zj_iload_n dk_112_12 rfl ?_
    refine zj_bipush dk_112_13 (by decide) ?_
    refine zj_icmp_lt (t := 22) dk_112_15 rfl (by omega) (fun c15 => ?_) (fun c15 => ?_)
    · skip
      refine zj_iconst dk_112_22 ?_
      refine zj_istore dk_112_23 rfl ?_
      refine zi_aload_n dk_112_25 rfl rfl ?_
      refine zi_getf dk_112_26 fl_7_9 (by first | assumption | exact zz_up_eq _ _ _ | omega | exact Ne.symm (by assumption) | (refine (zz_up_ne ?_).trans ?_ <;> first | assumption | exact zz_up_eq _ _ _ | omega | exact Ne.symm (by assumption) | (refine (zz_up_ne ?_).trans ?_ <;> first | assumption | exact zz_up_eq _ _ _ | omega | exact Ne.symm (by assumption) | (refine (zz_up_ne ?_).trans ?_ <;> first | assumption | exact zz_up_eq _ _ _ | omega | exact Ne.symm (by assumption))))) rfl ?_
      refine zj_iload_n dk_112_29 rfl ?_
      refine zj_iald dk_112_30 (by first | assumption | exact zz_up_eq _ _ _ | omega | exact Ne.symm (by assumption) | (refine (zz_up_ne ?_).trans ?_ <;> first | assumption | exact zz_up_eq _ _ _ | omega | exact Ne.symm (by assumption) | (refine (zz_up_ne ?_).trans ?_ <;> first | assumption | exact zz_up_eq _ _ _ | omega | exact Ne.symm (by assumption) | (refine (zz_up_ne ?_).trans ?_ <;> first | assumption | exact zz_up_eq _ _ _ | omega | exact Ne.symm (by assumption))))) (by omega) ?_
      rw [hop]
      refine zj_tabIn (t := 132) dk_112_31 (by decide) rfl rfl ?_
      refine zj_iload dk_112_132 rfl ?_
      refine zj_if_eq (t := 159) dk_112_134 rfl (by omega) (fun c134 => ?_) (fun c134 => ?_)
      · skip
        refine zj_iconst dk_112_159 ?_
        refine zi_invS dk_112_160 ml_7_49 is_111 (ct_111 (d := d - 1) (by omega)) rfl rfl (Nat.le_of_ble_eq_true rfl) (by omega) rfl rfl (fun r n' h' hq => ?_)
        obtain ⟨rfl, rfl, rfl⟩ := hq
        refine zj_ireturn dk_112_163 rfl ⟨by rw [exs_7]; congr 2; (repeat' split) <;> omega, rfl, rfl⟩
      · skip
        refine zj_iload dk_112_137 rfl ?_
        refine zj_iload dk_112_139 rfl ?_
        refine zj_if_eq (t := 151) dk_112_141 rfl (by omega) (fun c141 => ?_) (fun c141 => ?_)
        · skip
          refine zj_iload_n dk_112_151 rfl ?_
          refine zj_icmp_ne (t := 159) dk_112_152 rfl (by omega) (fun c152 => ?_) (fun c152 => ?_)
          · skip
            refine zj_iconst dk_112_159 ?_
            refine zi_invS dk_112_160 ml_7_49 is_111 (ct_111 (d := d - 1) (by omega)) rfl rfl (Nat.le_of_ble_eq_true rfl) (by omega) rfl rfl (fun r n' h' hq => ?_)
            obtain ⟨rfl, rfl, rfl⟩ := hq
            refine zj_ireturn dk_112_163 rfl ⟨by rw [exs_7]; congr 2; (repeat' split) <;> omega, rfl, rfl⟩
          · skip
            refine zj_iconst dk_112_155 ?_
            refine zi_goto (t := 160) dk_112_156 rfl ?_
            refine zi_invS dk_112_160 ml_7_49 is_111 (ct_111 (d := d - 1) (by omega)) rfl rfl (Nat.le_of_ble_eq_true rfl) (by omega) rfl rfl (fun r n' h' hq => ?_)
            obtain ⟨rfl, rfl, rfl⟩ := hq
            refine zj_ireturn dk_112_163 rfl ⟨by rw [exs_7]; congr 2; (repeat' split) <;> omega, rfl, rfl⟩
        · skip
          refine zj_iload_n dk_112_144 rfl ?_
          refine zj_bipush dk_112_145 (by decide) ?_
          refine zj_isub dk_112_147 ?_
          refine zi_goto (t := 152) dk_112_148 rfl ?_
          refine zj_icmp_ne (t := 159) dk_112_152 rfl (by omega) (fun c152 => ?_) (fun c152 => ?_)
          · skip
            refine zj_iconst dk_112_159 ?_
            refine zi_invS dk_112_160 ml_7_49 is_111 (ct_111 (d := d - 1) (by omega)) rfl rfl (Nat.le_of_ble_eq_true rfl) (by omega) rfl rfl (fun r n' h' hq => ?_)
            obtain ⟨rfl, rfl, rfl⟩ := hq
            refine zj_ireturn dk_112_163 rfl ⟨by rw [exs_7]; congr 2; (repeat' split) <;> omega, rfl, rfl⟩
          · skip
            refine zj_iconst dk_112_155 ?_
            refine zi_goto (t := 160) dk_112_156 rfl ?_
            refine zi_invS dk_112_160 ml_7_49 is_111 (ct_111 (d := d - 1) (by omega)) rfl rfl (Nat.le_of_ble_eq_true rfl) (by omega) rfl rfl (fun r n' h' hq => ?_)
            obtain ⟨rfl, rfl, rfl⟩ := hq
            refine zj_ireturn dk_112_163 rfl ⟨by rw [exs_7]; congr 2; (repeat' split) <;> omega, rfl, rfl⟩
    · skip
      refine zj_iconst dk_112_18 ?_
      refine zi_goto (t := 23) dk_112_19 rfl ?_
      refine zj_istore dk_112_23 rfl ?_
      refine zi_aload_n dk_112_25 rfl rfl ?_
      refine zi_getf dk_112_26 fl_7_9 (by first | assumption | exact zz_up_eq _ _ _ | omega | exact Ne.symm (by assumption) | (refine (zz_up_ne ?_).trans ?_ <;> first | assumption | exact zz_up_eq _ _ _ | omega | exact Ne.symm (by assumption) | (refine (zz_up_ne ?_).trans ?_ <;> first | assumption | exact zz_up_eq _ _ _ | omega | exact Ne.symm (by assumption) | (refine (zz_up_ne ?_).trans ?_ <;> first | assumption | exact zz_up_eq _ _ _ | omega | exact Ne.symm (by assumption))))) rfl ?_
      refine zj_iload_n dk_112_29 rfl ?_
      refine zj_iald dk_112_30 (by first | assumption | exact zz_up_eq _ _ _ | omega | exact Ne.symm (by assumption) | (refine (zz_up_ne ?_).trans ?_ <;> first | assumption | exact zz_up_eq _ _ _ | omega | exact Ne.symm (by assumption) | (refine (zz_up_ne ?_).trans ?_ <;> first | assumption | exact zz_up_eq _ _ _ | omega | exact Ne.symm (by assumption) | (refine (zz_up_ne ?_).trans ?_ <;> first | assumption | exact zz_up_eq _ _ _ | omega | exact Ne.symm (by assumption))))) (by omega) ?_
      rw [hop]
      refine zj_tabIn (t := 132) dk_112_31 (by decide) rfl rfl ?_
      refine zj_iload dk_112_132 rfl ?_
      refine zj_if_eq (t := 159) dk_112_134 rfl (by omega) (fun c134 => ?_) (fun c134 => ?_)
      · skip
        refine zj_iconst dk_112_159 ?_
        refine zi_invS dk_112_160 ml_7_49 is_111 (ct_111 (d := d - 1) (by omega)) rfl rfl (Nat.le_of_ble_eq_true rfl) (by omega) rfl rfl (fun r n' h' hq => ?_)
        obtain ⟨rfl, rfl, rfl⟩ := hq
        refine zj_ireturn dk_112_163 rfl ⟨by rw [exs_7]; congr 2; (repeat' split) <;> omega, rfl, rfl⟩
      · skip
        refine zj_iload dk_112_137 rfl ?_
        refine zj_iload dk_112_139 rfl ?_
        refine zj_if_eq (t := 151) dk_112_141 rfl (by omega) (fun c141 => ?_) (fun c141 => ?_)
        · skip
          refine zj_iload_n dk_112_151 rfl ?_
          refine zj_icmp_ne (t := 159) dk_112_152 rfl (by omega) (fun c152 => ?_) (fun c152 => ?_)
          · skip
            refine zj_iconst dk_112_159 ?_
            refine zi_invS dk_112_160 ml_7_49 is_111 (ct_111 (d := d - 1) (by omega)) rfl rfl (Nat.le_of_ble_eq_true rfl) (by omega) rfl rfl (fun r n' h' hq => ?_)
            obtain ⟨rfl, rfl, rfl⟩ := hq
            refine zj_ireturn dk_112_163 rfl ⟨by rw [exs_7]; congr 2; (repeat' split) <;> omega, rfl, rfl⟩
          · skip
            refine zj_iconst dk_112_155 ?_
            refine zi_goto (t := 160) dk_112_156 rfl ?_
            refine zi_invS dk_112_160 ml_7_49 is_111 (ct_111 (d := d - 1) (by omega)) rfl rfl (Nat.le_of_ble_eq_true rfl) (by omega) rfl rfl (fun r n' h' hq => ?_)
            obtain ⟨rfl, rfl, rfl⟩ := hq
            refine zj_ireturn dk_112_163 rfl ⟨by rw [exs_7]; congr 2; (repeat' split) <;> omega, rfl, rfl⟩
        · skip
          refine zj_iload_n dk_112_144 rfl ?_
          refine zj_bipush dk_112_145 (by decide) ?_
          refine zj_isub dk_112_147 ?_
          refine zi_goto (t := 152) dk_112_148 rfl ?_
          refine zj_icmp_ne (t := 159) dk_112_152 rfl (by omega) (fun c152 => ?_) (fun c152 => ?_)
          · skip
            refine zj_iconst dk_112_159 ?_
            refine zi_invS dk_112_160 ml_7_49 is_111 (ct_111 (d := d - 1) (by omega)) rfl rfl (Nat.le_of_ble_eq_true rfl) (by omega) rfl rfl (fun r n' h' hq => ?_)
            obtain ⟨rfl, rfl, rfl⟩ := hq
            refine zj_ireturn dk_112_163 rfl ⟨by rw [exs_7]; congr 2; (repeat' split) <;> omega, rfl, rfl⟩
          · skip
            refine zj_iconst dk_112_155 ?_
            refine zi_goto (t := 160) dk_112_156 rfl ?_
            refine zi_invS dk_112_160 ml_7_49 is_111 (ct_111 (d := d - 1) (by omega)) rfl rfl (Nat.le_of_ble_eq_true rfl) (by omega) rfl rfl (fun r n' h' hq => ?_)
            obtain ⟨rfl, rfl, rfl⟩ := hq
            refine zj_ireturn dk_112_163 rfl ⟨by rw [exs_7]; congr 2; (repeat' split) <;> omega, rfl, rfl⟩

theorem ct_112_8 {X : zz_X} {d n : Nat} {h : zz_H} (hd : 1 ≤ d) {co : Nat} {o a b v : Int → Int} {sz : Int} (g0 : h co = some (.inr (7, [.ref (co + 1), .ref (co + 2), .ref (co + 3), .ref (co + 4), zv sz]))) (g1 : h (co + 1) = some (zA 0 16 o)) (g2 : h (co + 2) = some (zA 0 16 a)) (g3 : h (co + 3) = some (zA 0 16 b)) (g4 : h (co + 4) = some (zA 0 16 v)) (hz : 0 ≤ sz ∧ sz ≤ 16) (hw : ex_W o a b sz) {i ask held arg : Int} (hi : 0 ≤ i ∧ i < sz) (ha : -2147483648 ≤ ask ∧ ask < 2147483648) (hg : -2147483648 ≤ arg ∧ arg < 2147483648) (hop : o i = 8) : zz_Ct X mm_112 d 0 0 [.ref co, zv i, zv ask, zv held, zv arg] n h (zp (some (zv (ex_sv (o i) (a i) (b i) ask held arg))) n h) := by
  refine zz_start (by decide) (ls := [some (.ref co), some (zv i), some (zv ask), some (zv held), some (zv arg), none, none]) rfl ?_
  obtain ⟨w1, w2, w3, w4, w5, w6⟩ := hw i hi.1 hi.2
  have q1 := bz_rg (zb_bit held (a i))
  have q2 := zb_div_rg (b i) arg
  refine zj_iload_n dk_112_0 rfl ?_
  refine zj_iconst dk_112_1 ?_
  refine zj_icmp_eq (t := 9) dk_112_2 rfl (by omega) (fun c2 => ?_) (fun c2 => ?_)
  · skip
    refine zj_iconst dk_112_9 ?_
    refine zj_istore dk_112_10 rfl ?_
    refine zj_iload_n dk_112_12 rfl ?_
    refine zj_bipush dk_112_13 (by decide) ?_
    refine zj_icmp_lt (t := 22) dk_112_15 rfl (by omega) (fun c15 => ?_) (fun c15 => ?_)
    · skip
      refine zj_iconst dk_112_22 ?_
      refine zj_istore dk_112_23 rfl ?_
      refine zi_aload_n dk_112_25 rfl rfl ?_
      refine zi_getf dk_112_26 fl_7_9 (by first | assumption | exact zz_up_eq _ _ _ | omega | exact Ne.symm (by assumption) | (refine (zz_up_ne ?_).trans ?_ <;> first | assumption | exact zz_up_eq _ _ _ | omega | exact Ne.symm (by assumption) | (refine (zz_up_ne ?_).trans ?_ <;> first | assumption | exact zz_up_eq _ _ _ | omega | exact Ne.symm (by assumption) | (refine (zz_up_ne ?_).trans ?_ <;> first | assumption | exact zz_up_eq _ _ _ | omega | exact Ne.symm (by assumption))))) rfl ?_
      refine zj_iload_n dk_112_29 rfl ?_
      refine zj_iald dk_112_30 (by first | assumption | exact zz_up_eq _ _ _ | omega | exact Ne.symm (by assumption) | (refine (zz_up_ne ?_).trans ?_ <;> first | assumption | exact zz_up_eq _ _ _ | omega | exact Ne.symm (by assumption) | (refine (zz_up_ne ?_).trans ?_ <;> first | assumption | exact zz_up_eq _ _ _ | omega | exact Ne.symm (by assumption) | (refine (zz_up_ne ?_).trans ?_ <;> first | assumption | exact zz_up_eq _ _ _ | omega | exact Ne.symm (by assumption))))) (by omega) ?_
      rw [hop]
      refine zj_tabIn (t := 164) dk_112_31 (by decide) rfl rfl ?_
      refine zj_iload dk_112_164 rfl ?_
      refine zi_aload_n dk_112_166 rfl rfl ?_
      refine zi_getf dk_112_167 fl_7_15 (by first | assumption | exact zz_up_eq _ _ _ | omega | exact Ne.symm (by assumption) | (refine (zz_up_ne ?_).trans ?_ <;> first | assumption | exact zz_up_eq _ _ _ | omega | exact Ne.symm (by assumption) | (refine (zz_up_ne ?_).trans ?_ <;> first | assumption | exact zz_up_eq _ _ _ | omega | exact Ne.symm (by assumption) | (refine (zz_up_ne ?_).trans ?_ <;> first | assumption | exact zz_up_eq _ _ _ | omega | exact Ne.symm (by assumption))))) rfl ?_
      refine zj_iload_n dk_112_170 rfl ?_
      refine zj_iald dk_112_171 (by first | assumption | exact zz_up_eq _ _ _ | omega | exact Ne.symm (by assumption) | (refine (zz_up_ne ?_).trans ?_ <;> first | assumption | exact zz_up_eq _ _ _ | omega | exact Ne.symm (by assumption) | (refine (zz_up_ne ?_).trans ?_ <;> first | assumption | exact zz_up_eq _ _ _ | omega | exact Ne.symm (by assumption) | (refine (zz_up_ne ?_).trans ?_ <;> first | assumption | exact zz_up_eq _ _ _ | omega | exact Ne.symm (by assumption))))) (by omega) ?_
      refine zj_icmp_ge (t := 179) dk_112_172 rfl (by omega) (fun c172 => ?_) (fun c172 => ?_)
      · skip
        refine zj_iconst dk_112_179 ?_
        refine zi_invS dk_112_180 ml_7_49 is_111 (ct_111 (d := d - 1) (by omega)) rfl rfl (Nat.le_of_ble_eq_true rfl) (by omega) rfl rfl (fun r n' h' hq => ?_)
        obtain ⟨rfl, rfl, rfl⟩ := hq
        refine zj_ireturn dk_112_183 rfl ⟨by rw [exs_8]; congr 2; (repeat' split) <;> omega, rfl, rfl⟩
      · skip
        refine zj_iconst dk_112_175 ?_
        refine zi_goto (t := 180) dk_112_176 rfl ?_
        refine zi_invS dk_112_180 ml_7_49 is_111 (ct_111 (d := d - 1) (by omega)) rfl rfl (Nat.le_of_ble_eq_true rfl) (by omega) rfl rfl (fun r n' h' hq => ?_)
        obtain ⟨rfl, rfl, rfl⟩ := hq
        refine zj_ireturn dk_112_183 rfl ⟨by rw [exs_8]; congr 2; (repeat' split) <;> omega, rfl, rfl⟩
    · skip
      refine zj_iconst dk_112_18 ?_
      refine zi_goto (t := 23) dk_112_19 rfl ?_
      refine zj_istore dk_112_23 rfl ?_
      refine zi_aload_n dk_112_25 rfl rfl ?_
      refine zi_getf dk_112_26 fl_7_9 (by first | assumption | exact zz_up_eq _ _ _ | omega | exact Ne.symm (by assumption) | (refine (zz_up_ne ?_).trans ?_ <;> first | assumption | exact zz_up_eq _ _ _ | omega | exact Ne.symm (by assumption) | (refine (zz_up_ne ?_).trans ?_ <;> first | assumption | exact zz_up_eq _ _ _ | omega | exact Ne.symm (by assumption) | (refine (zz_up_ne ?_).trans ?_ <;> first | assumption | exact zz_up_eq _ _ _ | omega | exact Ne.symm (by assumption))))) rfl ?_
      refine zj_iload_n dk_112_29 rfl ?_
      refine zj_iald dk_112_30 (by first | assumption | exact zz_up_eq _ _ _ | omega | exact Ne.symm (by assumption) | (refine (zz_up_ne ?_).trans ?_ <;> first | assumption | exact zz_up_eq _ _ _ | omega | exact Ne.symm (by assumption) | (refine (zz_up_ne ?_).trans ?_ <;> first | assumption | exact zz_up_eq _ _ _ | omega | exact Ne.symm (by assumption) | (refine (zz_up_ne ?_).trans ?_ <;> first | assumption | exact zz_up_eq _ _ _ | omega | exact Ne.symm (by assumption))))) (by omega) ?_
      rw [hop]
      refine zj_tabIn (t := 164) dk_112_31 (by decide) rfl rfl ?_
      refine zj_iload dk_112_164 rfl ?_
      refine zi_aload_n dk_112_166 rfl rfl ?_
      refine zi_getf dk_112_167 fl_7_15 (by first | assumption | exact zz_up_eq _ _ _ | omega | exact Ne.symm (by assumption) | (refine (zz_up_ne ?_).trans ?_ <;> first | assumption | exact zz_up_eq _ _ _ | omega | exact Ne.symm (by assumption) | (refine (zz_up_ne ?_).trans ?_ <;> first | assumption | exact zz_up_eq _ _ _ | omega | exact Ne.symm (by assumption) | (refine (zz_up_ne ?_).trans ?_ <;> first | assumption | exact zz_up_eq _ _ _ | omega | exact Ne.symm (by assumption))))) rfl ?_
      refine zj_iload_n dk_112_170 rfl ?_
      refine zj_iald dk_112_171 (by first | assumption | exact zz_up_eq _ _ _ | omega | exact Ne.symm (by assumption) | (refine (zz_up_ne ?_).trans ?_ <;> first | assumption | exact zz_up_eq _ _ _ | omega | exact Ne.symm (by assumption) | (refine (zz_up_ne ?_).trans ?_ <;> first | assumption | exact zz_up_eq _ _ _ | omega | exact Ne.symm (by assumption) | (refine (zz_up_ne ?_).trans ?_ <;> first | assumption | exact zz_up_eq _ _ _ | omega | exact Ne.symm (by assumption))))) (by omega) ?_
      refine zj_icmp_ge (t := 179) dk_112_172 rfl (by omega) (fun c172 => ?_) (fun c172 => ?_)
      · skip
        refine zj_iconst dk_112_179 ?_
        refine zi_invS dk_112_180 ml_7_49 is_111 (ct_111 (d := d - 1) (by omega)) rfl rfl (Nat.le_of_ble_eq_true rfl) (by omega) rfl rfl (fun r n' h' hq => ?_)
        obtain ⟨rfl, rfl, rfl⟩ := hq
        refine zj_ireturn dk_112_183 rfl ⟨by rw [exs_8]; congr 2; (repeat' split) <;> omega, rfl, rfl⟩
      · skip
        refine zj_iconst dk_112_175 ?_
        refine zi_goto (t := 180) dk_112_176 rfl ?_
        refine zi_invS dk_112_180 ml_7_49 is_111 (ct_111 (d := d - 1) (by omega)) rfl rfl (Nat.le_of_ble_eq_true rfl) (by omega) rfl rfl (fun r n' h' hq => ?_)
        obtain ⟨rfl, rfl, rfl⟩ := hq
        refine zj_ireturn dk_112_183 rfl ⟨by rw [exs_8]; congr 2; (repeat' split) <;> omega, rfl, rfl⟩
  · skip
    refine zj_iconst dk_112_5 ?_
    refine zi_goto (t := 10) dk_112_6 rfl ?_
    refine zj_istore dk_112_10 rfl ?_
    refine zj_iload_n dk_112_12 rfl ?_
    refine zj_bipush dk_112_13 (by decide) ?_
    refine zj_icmp_lt (t := 22) dk_112_15 rfl (by omega) (fun c15 => ?_) (fun c15 => ?_)
    · skip
      refine zj_iconst dk_112_22 ?_
      refine zj_istore dk_112_23 rfl ?_
      refine zi_aload_n dk_112_25 rfl rfl ?_
      refine zi_getf dk_112_26 fl_7_9 (by first | assumption | exact zz_up_eq _ _ _ | omega | exact Ne.symm (by assumption) | (refine (zz_up_ne ?_).trans ?_ <;> first | assumption | exact zz_up_eq _ _ _ | omega | exact Ne.symm (by assumption) | (refine (zz_up_ne ?_).trans ?_ <;> first | assumption | exact zz_up_eq _ _ _ | omega | exact Ne.symm (by assumption) | (refine (zz_up_ne ?_).trans ?_ <;> first | assumption | exact zz_up_eq _ _ _ | omega | exact Ne.symm (by assumption))))) rfl ?_
      refine zj_iload_n dk_112_29 rfl ?_
      refine zj_iald dk_112_30 (by first | assumption | exact zz_up_eq _ _ _ | omega | exact Ne.symm (by assumption) | (refine (zz_up_ne ?_).trans ?_ <;> first | assumption | exact zz_up_eq _ _ _ | omega | exact Ne.symm (by assumption) | (refine (zz_up_ne ?_).trans ?_ <;> first | assumption | exact zz_up_eq _ _ _ | omega | exact Ne.symm (by assumption) | (refine (zz_up_ne ?_).trans ?_ <;> first | assumption | exact zz_up_eq _ _ _ | omega | exact Ne.symm (by assumption))))) (by omega) ?_
      rw [hop]
      refine zj_tabIn (t := 164) dk_112_31 (by decide) rfl rfl ?_
      refine zj_iload dk_112_164 rfl ?_
      refine zi_aload_n dk_112_166 rfl rfl ?_
      refine zi_getf dk_112_167 fl_7_15 (by first | assumption | exact zz_up_eq _ _ _ | omega | exact Ne.symm (by assumption) | (refine (zz_up_ne ?_).trans ?_ <;> first | assumption | exact zz_up_eq _ _ _ | omega | exact Ne.symm (by assumption) | (refine (zz_up_ne ?_).trans ?_ <;> first | assumption | exact zz_up_eq _ _ _ | omega | exact Ne.symm (by assumption) | (refine (zz_up_ne ?_).trans ?_ <;> first | assumption | exact zz_up_eq _ _ _ | omega | exact Ne.symm (by assumption))))) rfl ?_
      refine zj_iload_n dk_112_170 rfl ?_
      refine zj_iald dk_112_171 (by first | assumption | exact zz_up_eq _ _ _ | omega | exact Ne.symm (by assumption) | (refine (zz_up_ne ?_).trans ?_ <;> first | assumption | exact zz_up_eq _ _ _ | omega | exact Ne.symm (by assumption) | (refine (zz_up_ne ?_).trans ?_ <;> first | assumption | exact zz_up_eq _ _ _ | omega | exact Ne.symm (by assumption) | (refine (zz_up_ne ?_).trans ?_ <;> first | assumption | exact zz_up_eq _ _ _ | omega | exact Ne.symm (by assumption))))) (by omega) ?_
      refine zj_icmp_ge (t := 179) dk_112_172 rfl (by omega) (fun c172 => ?_) (fun c172 => ?_)
      · skip
        refine zj_iconst dk_112_179 ?_
        refine zi_invS dk_112_180 ml_7_49 is_111 (ct_111 (d := d - 1) (by omega)) rfl rfl (Nat.le_of_ble_eq_true rfl) (by omega) rfl rfl (fun r n' h' hq => ?_)
        obtain ⟨rfl, rfl, rfl⟩ := hq
        refine zj_ireturn dk_112_183 rfl ⟨by rw [exs_8]; congr 2; (repeat' split) <;> omega, rfl, rfl⟩
      · skip
        refine zj_iconst dk_112_175 ?_
        refine zi_goto (t := 180) dk_112_176 rfl ?_
        refine zi_invS dk_112_180 ml_7_49 is_111 (ct_111 (d := d - 1) (by omega)) rfl rfl (Nat.le_of_ble_eq_true rfl) (by omega) rfl rfl (fun r n' h' hq => ?_)
        obtain ⟨rfl, rfl, rfl⟩ := hq
        refine zj_ireturn dk_112_183 rfl ⟨by rw [exs_8]; congr 2; (repeat' split) <;> omega, rfl, rfl⟩
    · skip
      refine zj_iconst dk_112_18 ?_
      refine zi_goto (t := 23) dk_112_19 rfl ?_
      refine zj_istore dk_112_23 rfl ?_
      refine zi_aload_n dk_112_25 rfl rfl ?_
      refine zi_getf dk_112_26 fl_7_9 (by first | assumption | exact zz_up_eq _ _ _ | omega | exact Ne.symm (by assumption) | (refine (zz_up_ne ?_).trans ?_ <;> first | assumption | exact zz_up_eq _ _ _ | omega | exact Ne.symm (by assumption) | (refine (zz_up_ne ?_).trans ?_ <;> first | assumption | exact zz_up_eq _ _ _ | omega | exact Ne.symm (by assumption) | (refine (zz_up_ne ?_).trans ?_ <;> first | assumption | exact zz_up_eq _ _ _ | omega | exact Ne.symm (by assumption))))) rfl ?_
      refine zj_iload_n dk_112_29 rfl ?_
      refine zj_iald dk_112_30 (by first | assumption | exact zz_up_eq _ _ _ | omega | exact Ne.symm (by assumption) | (refine (zz_up_ne ?_).trans ?_ <;> first | assumption | exact zz_up_eq _ _ _ | omega | exact Ne.symm (by assumption) | (refine (zz_up_ne ?_).trans ?_ <;> first | assumption | exact zz_up_eq _ _ _ | omega | exact Ne.symm (by assumption) | (refine (zz_up_ne ?_).trans ?_ <;> first | assumption | exact zz_up_eq _ _ _ | omega | exact Ne.symm (by assumption))))) (by omega) ?_
      rw [hop]
      refine zj_tabIn (t := 164) dk_112_31 (by decide) rfl rfl ?_
      refine zj_iload dk_112_164 rfl ?_
      refine zi_aload_n dk_112_166 rfl rfl ?_
      refine zi_getf dk_112_167 fl_7_15 (by first | assumption | exact zz_up_eq _ _ _ | omega | exact Ne.symm (by assumption) | (refine (zz_up_ne ?_).trans ?_ <;> first | assumption | exact zz_up_eq _ _ _ | omega | exact Ne.symm (by assumption) | (refine (zz_up_ne ?_).trans ?_ <;> first | assumption | exact zz_up_eq _ _ _ | omega | exact Ne.symm (by assumption) | (refine (zz_up_ne ?_).trans ?_ <;> first | assumption | exact zz_up_eq _ _ _ | omega | exact Ne.symm (by assumption))))) rfl ?_
      refine zj_iload_n dk_112_170 rfl ?_
      refine zj_iald dk_112_171 (by first | assumption | exact zz_up_eq _ _ _ | omega | exact Ne.symm (by assumption) | (refine (zz_up_ne ?_).trans ?_ <;> first | assumption | exact zz_up_eq _ _ _ | omega | exact Ne.symm (by assumption) | (refine (zz_up_ne ?_).trans ?_ <;> first | assumption | exact zz_up_eq _ _ _ | omega | exact Ne.symm (by assumption) | (refine (zz_up_ne ?_).trans ?_ <;> first | assumption | exact zz_up_eq _ _ _ | omega | exact Ne.symm (by assumption))))) (by omega) ?_
      refine zj_icmp_ge (t := 179) dk_112_172 rfl (by omega) (fun c172 => ?_) (fun c172 => ?_)
      · skip
        refine zj_iconst dk_112_179 ?_
        refine zi_invS dk_112_180 ml_7_49 is_111 (ct_111 (d := d - 1) (by omega)) rfl rfl (Nat.le_of_ble_eq_true rfl) (by omega) rfl rfl (fun r n' h' hq => ?_)
        obtain ⟨rfl, rfl, rfl⟩ := hq
        refine zj_ireturn dk_112_183 rfl ⟨by rw [exs_8]; congr 2; (repeat' split) <;> omega, rfl, rfl⟩
      · skip
        refine zj_iconst dk_112_175 ?_
        refine zi_goto (t := 180) dk_112_176 rfl ?_
        refine zi_invS dk_112_180 ml_7_49 is_111 (ct_111 (d := d - 1) (by omega)) rfl rfl (Nat.le_of_ble_eq_true rfl) (by omega) rfl rfl (fun r n' h' hq => ?_)
        obtain ⟨rfl, rfl, rfl⟩ := hq
        refine zj_ireturn dk_112_183 rfl ⟨by rw [exs_8]; congr 2; (repeat' split) <;> omega, rfl, rfl⟩

theorem ct_112_9 {X : zz_X} {d n : Nat} {h : zz_H} (hd : 1 ≤ d) {co : Nat} {o a b v : Int → Int} {sz : Int} (g0 : h co = some (.inr (7, [.ref (co + 1), .ref (co + 2), .ref (co + 3), .ref (co + 4), zv sz]))) (g1 : h (co + 1) = some (zA 0 16 o)) (g2 : h (co + 2) = some (zA 0 16 a)) (g3 : h (co + 3) = some (zA 0 16 b)) (g4 : h (co + 4) = some (zA 0 16 v)) (hz : 0 ≤ sz ∧ sz ≤ 16) (hw : ex_W o a b sz) {i ask held arg : Int} (hi : 0 ≤ i ∧ i < sz) (ha : -2147483648 ≤ ask ∧ ask < 2147483648) (hg : -2147483648 ≤ arg ∧ arg < 2147483648) (hop : o i = 9) : zz_Ct X mm_112 d 0 0 [.ref co, zv i, zv ask, zv held, zv arg] n h (zp (some (zv (ex_sv (o i) (a i) (b i) ask held arg))) n h) := by
  refine zz_start (by decide) (ls := [some (.ref co), some (zv i), some (zv ask), some (zv held), some (zv arg), none, none]) rfl ?_
  obtain ⟨w1, w2, w3, w4, w5, w6⟩ := hw i hi.1 hi.2
  have q1 := bz_rg (zb_bit held (a i))
  have q2 := zb_div_rg (b i) arg
  refine zj_iload_n dk_112_0 rfl ?_
  refine zj_iconst dk_112_1 ?_
  refine zj_icmp_eq (t := 9) dk_112_2 rfl (by omega) (fun c2 => ?_) (fun c2 => ?_)
  · skip
    refine zj_iconst dk_112_9 ?_
    refine zj_istore dk_112_10 rfl ?_
    refine zj_iload_n dk_112_12 rfl ?_
    refine zj_bipush dk_112_13 (by decide) ?_
    refine zj_icmp_lt (t := 22) dk_112_15 rfl (by omega) (fun c15 => ?_) (fun c15 => ?_)
    · skip
      refine zj_iconst dk_112_22 ?_
      refine zj_istore dk_112_23 rfl ?_
      refine zi_aload_n dk_112_25 rfl rfl ?_
      refine zi_getf dk_112_26 fl_7_9 (by first | assumption | exact zz_up_eq _ _ _ | omega | exact Ne.symm (by assumption) | (refine (zz_up_ne ?_).trans ?_ <;> first | assumption | exact zz_up_eq _ _ _ | omega | exact Ne.symm (by assumption) | (refine (zz_up_ne ?_).trans ?_ <;> first | assumption | exact zz_up_eq _ _ _ | omega | exact Ne.symm (by assumption) | (refine (zz_up_ne ?_).trans ?_ <;> first | assumption | exact zz_up_eq _ _ _ | omega | exact Ne.symm (by assumption))))) rfl ?_
      refine zj_iload_n dk_112_29 rfl ?_
      refine zj_iald dk_112_30 (by first | assumption | exact zz_up_eq _ _ _ | omega | exact Ne.symm (by assumption) | (refine (zz_up_ne ?_).trans ?_ <;> first | assumption | exact zz_up_eq _ _ _ | omega | exact Ne.symm (by assumption) | (refine (zz_up_ne ?_).trans ?_ <;> first | assumption | exact zz_up_eq _ _ _ | omega | exact Ne.symm (by assumption) | (refine (zz_up_ne ?_).trans ?_ <;> first | assumption | exact zz_up_eq _ _ _ | omega | exact Ne.symm (by assumption))))) (by omega) ?_
      rw [hop]
      refine zj_tabIn (t := 184) dk_112_31 (by decide) rfl rfl ?_
      refine zj_iload dk_112_184 rfl ?_
      refine zj_if_ne (t := 193) dk_112_186 rfl (by omega) (fun c186 => ?_) (fun c186 => ?_)
      · skip
        refine zi_aload_n dk_112_193 rfl rfl ?_
        refine zi_getf dk_112_194 fl_7_18 (by first | assumption | exact zz_up_eq _ _ _ | omega | exact Ne.symm (by assumption) | (refine (zz_up_ne ?_).trans ?_ <;> first | assumption | exact zz_up_eq _ _ _ | omega | exact Ne.symm (by assumption) | (refine (zz_up_ne ?_).trans ?_ <;> first | assumption | exact zz_up_eq _ _ _ | omega | exact Ne.symm (by assumption) | (refine (zz_up_ne ?_).trans ?_ <;> first | assumption | exact zz_up_eq _ _ _ | omega | exact Ne.symm (by assumption))))) rfl ?_
        refine zj_iload_n dk_112_197 rfl ?_
        refine zj_iald dk_112_198 (by first | assumption | exact zz_up_eq _ _ _ | omega | exact Ne.symm (by assumption) | (refine (zz_up_ne ?_).trans ?_ <;> first | assumption | exact zz_up_eq _ _ _ | omega | exact Ne.symm (by assumption) | (refine (zz_up_ne ?_).trans ?_ <;> first | assumption | exact zz_up_eq _ _ _ | omega | exact Ne.symm (by assumption) | (refine (zz_up_ne ?_).trans ?_ <;> first | assumption | exact zz_up_eq _ _ _ | omega | exact Ne.symm (by assumption))))) (by omega) ?_
        refine zj_iload dk_112_199 rfl ?_
        refine zj_idiv dk_112_201 (by omega) ?_
        refine zi_aload_n dk_112_202 rfl rfl ?_
        refine zi_getf dk_112_203 fl_7_15 (by first | assumption | exact zz_up_eq _ _ _ | omega | exact Ne.symm (by assumption) | (refine (zz_up_ne ?_).trans ?_ <;> first | assumption | exact zz_up_eq _ _ _ | omega | exact Ne.symm (by assumption) | (refine (zz_up_ne ?_).trans ?_ <;> first | assumption | exact zz_up_eq _ _ _ | omega | exact Ne.symm (by assumption) | (refine (zz_up_ne ?_).trans ?_ <;> first | assumption | exact zz_up_eq _ _ _ | omega | exact Ne.symm (by assumption))))) rfl ?_
        refine zj_iload_n dk_112_206 rfl ?_
        refine zj_iald dk_112_207 (by first | assumption | exact zz_up_eq _ _ _ | omega | exact Ne.symm (by assumption) | (refine (zz_up_ne ?_).trans ?_ <;> first | assumption | exact zz_up_eq _ _ _ | omega | exact Ne.symm (by assumption) | (refine (zz_up_ne ?_).trans ?_ <;> first | assumption | exact zz_up_eq _ _ _ | omega | exact Ne.symm (by assumption) | (refine (zz_up_ne ?_).trans ?_ <;> first | assumption | exact zz_up_eq _ _ _ | omega | exact Ne.symm (by assumption))))) (by omega) ?_
        refine zj_icmp_lt (t := 215) dk_112_208 rfl (by omega) (fun c208 => ?_) (fun c208 => ?_)
        · skip
          refine zj_iconst dk_112_215 ?_
          refine zi_invS dk_112_216 ml_7_49 is_111 (ct_111 (d := d - 1) (by omega)) rfl rfl (Nat.le_of_ble_eq_true rfl) (by omega) rfl rfl (fun r n' h' hq => ?_)
          obtain ⟨rfl, rfl, rfl⟩ := hq
          refine zj_ireturn dk_112_219 rfl ⟨by rw [exs_9]; congr 2; (repeat' split) <;> omega, rfl, rfl⟩
        · skip
          refine zj_iconst dk_112_211 ?_
          refine zi_goto (t := 216) dk_112_212 rfl ?_
          refine zi_invS dk_112_216 ml_7_49 is_111 (ct_111 (d := d - 1) (by omega)) rfl rfl (Nat.le_of_ble_eq_true rfl) (by omega) rfl rfl (fun r n' h' hq => ?_)
          obtain ⟨rfl, rfl, rfl⟩ := hq
          refine zj_ireturn dk_112_219 rfl ⟨by rw [exs_9]; congr 2; (repeat' split) <;> omega, rfl, rfl⟩
      · skip
        refine zj_iconst dk_112_189 ?_
        refine zi_goto (t := 219) dk_112_190 rfl ?_
        refine zj_ireturn dk_112_219 rfl ⟨by rw [exs_9]; congr 2; (repeat' split) <;> omega, rfl, rfl⟩
    · skip
      refine zj_iconst dk_112_18 ?_
      refine zi_goto (t := 23) dk_112_19 rfl ?_
      refine zj_istore dk_112_23 rfl ?_
      refine zi_aload_n dk_112_25 rfl rfl ?_
      refine zi_getf dk_112_26 fl_7_9 (by first | assumption | exact zz_up_eq _ _ _ | omega | exact Ne.symm (by assumption) | (refine (zz_up_ne ?_).trans ?_ <;> first | assumption | exact zz_up_eq _ _ _ | omega | exact Ne.symm (by assumption) | (refine (zz_up_ne ?_).trans ?_ <;> first | assumption | exact zz_up_eq _ _ _ | omega | exact Ne.symm (by assumption) | (refine (zz_up_ne ?_).trans ?_ <;> first | assumption | exact zz_up_eq _ _ _ | omega | exact Ne.symm (by assumption))))) rfl ?_
      refine zj_iload_n dk_112_29 rfl ?_
      refine zj_iald dk_112_30 (by first | assumption | exact zz_up_eq _ _ _ | omega | exact Ne.symm (by assumption) | (refine (zz_up_ne ?_).trans ?_ <;> first | assumption | exact zz_up_eq _ _ _ | omega | exact Ne.symm (by assumption) | (refine (zz_up_ne ?_).trans ?_ <;> first | assumption | exact zz_up_eq _ _ _ | omega | exact Ne.symm (by assumption) | (refine (zz_up_ne ?_).trans ?_ <;> first | assumption | exact zz_up_eq _ _ _ | omega | exact Ne.symm (by assumption))))) (by omega) ?_
      rw [hop]
      refine zj_tabIn (t := 184) dk_112_31 (by decide) rfl rfl ?_
      refine zj_iload dk_112_184 rfl ?_
      refine zj_if_ne (t := 193) dk_112_186 rfl (by omega) (fun c186 => ?_) (fun c186 => ?_)
      · skip
        refine zi_aload_n dk_112_193 rfl rfl ?_
        refine zi_getf dk_112_194 fl_7_18 (by first | assumption | exact zz_up_eq _ _ _ | omega | exact Ne.symm (by assumption) | (refine (zz_up_ne ?_).trans ?_ <;> first | assumption | exact zz_up_eq _ _ _ | omega | exact Ne.symm (by assumption) | (refine (zz_up_ne ?_).trans ?_ <;> first | assumption | exact zz_up_eq _ _ _ | omega | exact Ne.symm (by assumption) | (refine (zz_up_ne ?_).trans ?_ <;> first | assumption | exact zz_up_eq _ _ _ | omega | exact Ne.symm (by assumption))))) rfl ?_
        refine zj_iload_n dk_112_197 rfl ?_
        refine zj_iald dk_112_198 (by first | assumption | exact zz_up_eq _ _ _ | omega | exact Ne.symm (by assumption) | (refine (zz_up_ne ?_).trans ?_ <;> first | assumption | exact zz_up_eq _ _ _ | omega | exact Ne.symm (by assumption) | (refine (zz_up_ne ?_).trans ?_ <;> first | assumption | exact zz_up_eq _ _ _ | omega | exact Ne.symm (by assumption) | (refine (zz_up_ne ?_).trans ?_ <;> first | assumption | exact zz_up_eq _ _ _ | omega | exact Ne.symm (by assumption))))) (by omega) ?_
        refine zj_iload dk_112_199 rfl ?_
        refine zj_idiv dk_112_201 (by omega) ?_
        refine zi_aload_n dk_112_202 rfl rfl ?_
        refine zi_getf dk_112_203 fl_7_15 (by first | assumption | exact zz_up_eq _ _ _ | omega | exact Ne.symm (by assumption) | (refine (zz_up_ne ?_).trans ?_ <;> first | assumption | exact zz_up_eq _ _ _ | omega | exact Ne.symm (by assumption) | (refine (zz_up_ne ?_).trans ?_ <;> first | assumption | exact zz_up_eq _ _ _ | omega | exact Ne.symm (by assumption) | (refine (zz_up_ne ?_).trans ?_ <;> first | assumption | exact zz_up_eq _ _ _ | omega | exact Ne.symm (by assumption))))) rfl ?_
        refine zj_iload_n dk_112_206 rfl ?_
        refine zj_iald dk_112_207 (by first | assumption | exact zz_up_eq _ _ _ | omega | exact Ne.symm (by assumption) | (refine (zz_up_ne ?_).trans ?_ <;> first | assumption | exact zz_up_eq _ _ _ | omega | exact Ne.symm (by assumption) | (refine (zz_up_ne ?_).trans ?_ <;> first | assumption | exact zz_up_eq _ _ _ | omega | exact Ne.symm (by assumption) | (refine (zz_up_ne ?_).trans ?_ <;> first | assumption | exact zz_up_eq _ _ _ | omega | exact Ne.symm (by assumption))))) (by omega) ?_
        refine zj_icmp_lt (t := 215) dk_112_208 rfl (by omega) (fun c208 => ?_) (fun c208 => ?_)
        · skip
          refine zj_iconst dk_112_215 ?_
          refine zi_invS dk_112_216 ml_7_49 is_111 (ct_111 (d := d - 1) (by omega)) rfl rfl (Nat.le_of_ble_eq_true rfl) (by omega) rfl rfl (fun r n' h' hq => ?_)
          obtain ⟨rfl, rfl, rfl⟩ := hq
          refine zj_ireturn dk_112_219 rfl ⟨by rw [exs_9]; congr 2; (repeat' split) <;> omega, rfl, rfl⟩
        · skip
          refine zj_iconst dk_112_211 ?_
          refine zi_goto (t := 216) dk_112_212 rfl ?_
          refine zi_invS dk_112_216 ml_7_49 is_111 (ct_111 (d := d - 1) (by omega)) rfl rfl (Nat.le_of_ble_eq_true rfl) (by omega) rfl rfl (fun r n' h' hq => ?_)
          obtain ⟨rfl, rfl, rfl⟩ := hq
          refine zj_ireturn dk_112_219 rfl ⟨by rw [exs_9]; congr 2; (repeat' split) <;> omega, rfl, rfl⟩
      · skip
        refine zj_iconst dk_112_189 ?_
        refine zi_goto (t := 219) dk_112_190 rfl ?_
        refine zj_ireturn dk_112_219 rfl ⟨by rw [exs_9]; congr 2; (repeat' split) <;> omega, rfl, rfl⟩
  · skip
    refine zj_iconst dk_112_5 ?_
    refine zi_goto (t := 10) dk_112_6 rfl ?_
    refine zj_istore dk_112_10 rfl ?_
    refine zj_iload_n dk_112_12 rfl ?_
    refine zj_bipush dk_112_13 (by decide) ?_
    refine zj_icmp_lt (t := 22) dk_112_15 rfl (by omega) (fun c15 => ?_) (fun c15 => ?_)
    · skip
      refine zj_iconst dk_112_22 ?_
      refine zj_istore dk_112_23 rfl ?_
      refine zi_aload_n dk_112_25 rfl rfl ?_
      refine zi_getf dk_112_26 fl_7_9 (by first | assumption | exact zz_up_eq _ _ _ | omega | exact Ne.symm (by assumption) | (refine (zz_up_ne ?_).trans ?_ <;> first | assumption | exact zz_up_eq _ _ _ | omega | exact Ne.symm (by assumption) | (refine (zz_up_ne ?_).trans ?_ <;> first | assumption | exact zz_up_eq _ _ _ | omega | exact Ne.symm (by assumption) | (refine (zz_up_ne ?_).trans ?_ <;> first | assumption | exact zz_up_eq _ _ _ | omega | exact Ne.symm (by assumption))))) rfl ?_
      refine zj_iload_n dk_112_29 rfl ?_
      refine zj_iald dk_112_30 (by first | assumption | exact zz_up_eq _ _ _ | omega | exact Ne.symm (by assumption) | (refine (zz_up_ne ?_).trans ?_ <;> first | assumption | exact zz_up_eq _ _ _ | omega | exact Ne.symm (by assumption) | (refine (zz_up_ne ?_).trans ?_ <;> first | assumption | exact zz_up_eq _ _ _ | omega | exact Ne.symm (by assumption) | (refine (zz_up_ne ?_).trans ?_ <;> first | assumption | exact zz_up_eq _ _ _ | omega | exact Ne.symm (by assumption))))) (by omega) ?_
      rw [hop]
      refine zj_tabIn (t := 184) dk_112_31 (by decide) rfl rfl ?_
      refine zj_iload dk_112_184 rfl ?_
      refine zj_if_ne (t := 193) dk_112_186 rfl (by omega) (fun c186 => ?_) (fun c186 => ?_)
      · skip
        refine zi_aload_n dk_112_193 rfl rfl ?_
        refine zi_getf dk_112_194 fl_7_18 (by first | assumption | exact zz_up_eq _ _ _ | omega | exact Ne.symm (by assumption) | (refine (zz_up_ne ?_).trans ?_ <;> first | assumption | exact zz_up_eq _ _ _ | omega | exact Ne.symm (by assumption) | (refine (zz_up_ne ?_).trans ?_ <;> first | assumption | exact zz_up_eq _ _ _ | omega | exact Ne.symm (by assumption) | (refine (zz_up_ne ?_).trans ?_ <;> first | assumption | exact zz_up_eq _ _ _ | omega | exact Ne.symm (by assumption))))) rfl ?_
        refine zj_iload_n dk_112_197 rfl ?_
        refine zj_iald dk_112_198 (by first | assumption | exact zz_up_eq _ _ _ | omega | exact Ne.symm (by assumption) | (refine (zz_up_ne ?_).trans ?_ <;> first | assumption | exact zz_up_eq _ _ _ | omega | exact Ne.symm (by assumption) | (refine (zz_up_ne ?_).trans ?_ <;> first | assumption | exact zz_up_eq _ _ _ | omega | exact Ne.symm (by assumption) | (refine (zz_up_ne ?_).trans ?_ <;> first | assumption | exact zz_up_eq _ _ _ | omega | exact Ne.symm (by assumption))))) (by omega) ?_
        refine zj_iload dk_112_199 rfl ?_
        refine zj_idiv dk_112_201 (by omega) ?_
        refine zi_aload_n dk_112_202 rfl rfl ?_
        refine zi_getf dk_112_203 fl_7_15 (by first | assumption | exact zz_up_eq _ _ _ | omega | exact Ne.symm (by assumption) | (refine (zz_up_ne ?_).trans ?_ <;> first | assumption | exact zz_up_eq _ _ _ | omega | exact Ne.symm (by assumption) | (refine (zz_up_ne ?_).trans ?_ <;> first | assumption | exact zz_up_eq _ _ _ | omega | exact Ne.symm (by assumption) | (refine (zz_up_ne ?_).trans ?_ <;> first | assumption | exact zz_up_eq _ _ _ | omega | exact Ne.symm (by assumption))))) rfl ?_
        refine zj_iload_n dk_112_206 rfl ?_
        refine zj_iald dk_112_207 (by first | assumption | exact zz_up_eq _ _ _ | omega | exact Ne.symm (by assumption) | (refine (zz_up_ne ?_).trans ?_ <;> first | assumption | exact zz_up_eq _ _ _ | omega | exact Ne.symm (by assumption) | (refine (zz_up_ne ?_).trans ?_ <;> first | assumption | exact zz_up_eq _ _ _ | omega | exact Ne.symm (by assumption) | (refine (zz_up_ne ?_).trans ?_ <;> first | assumption | exact zz_up_eq _ _ _ | omega | exact Ne.symm (by assumption))))) (by omega) ?_
        refine zj_icmp_lt (t := 215) dk_112_208 rfl (by omega) (fun c208 => ?_) (fun c208 => ?_)
        · skip
          refine zj_iconst dk_112_215 ?_
          refine zi_invS dk_112_216 ml_7_49 is_111 (ct_111 (d := d - 1) (by omega)) rfl rfl (Nat.le_of_ble_eq_true rfl) (by omega) rfl rfl (fun r n' h' hq => ?_)
          obtain ⟨rfl, rfl, rfl⟩ := hq
          refine zj_ireturn dk_112_219 rfl ⟨by rw [exs_9]; congr 2; (repeat' split) <;> omega, rfl, rfl⟩
        · skip
          refine zj_iconst dk_112_211 ?_
          refine zi_goto (t := 216) dk_112_212 rfl ?_
          refine zi_invS dk_112_216 ml_7_49 is_111 (ct_111 (d := d - 1) (by omega)) rfl rfl (Nat.le_of_ble_eq_true rfl) (by omega) rfl rfl (fun r n' h' hq => ?_)
          obtain ⟨rfl, rfl, rfl⟩ := hq
          refine zj_ireturn dk_112_219 rfl ⟨by rw [exs_9]; congr 2; (repeat' split) <;> omega, rfl, rfl⟩
      · skip
        refine zj_iconst dk_112_189 ?_
        refine zi_goto (t := 219) dk_112_190 rfl ?_
        refine zj_ireturn dk_112_219 rfl ⟨by rw [exs_9]; congr 2; (repeat' split) <;> omega, rfl, rfl⟩
    · skip
      refine zj_iconst dk_112_18 ?_
      refine zi_goto (t := 23) dk_112_19 rfl ?_
      refine zj_istore dk_112_23 rfl ?_
      refine zi_aload_n dk_112_25 rfl rfl ?_
      refine zi_getf dk_112_26 fl_7_9 (by first | assumption | exact zz_up_eq _ _ _ | omega | exact Ne.symm (by assumption) | (refine (zz_up_ne ?_).trans ?_ <;> first | assumption | exact zz_up_eq _ _ _ | omega | exact Ne.symm (by assumption) | (refine (zz_up_ne ?_).trans ?_ <;> first | assumption | exact zz_up_eq _ _ _ | omega | exact Ne.symm (by assumption) | (refine (zz_up_ne ?_).trans ?_ <;> first | assumption | exact zz_up_eq _ _ _ | omega | exact Ne.symm (by assumption))))) rfl ?_
      refine zj_iload_n dk_112_29 rfl ?_
      refine zj_iald dk_112_30 (by first | assumption | exact zz_up_eq _ _ _ | omega | exact Ne.symm (by assumption) | (refine (zz_up_ne ?_).trans ?_ <;> first | assumption | exact zz_up_eq _ _ _ | omega | exact Ne.symm (by assumption) | (refine (zz_up_ne ?_).trans ?_ <;> first | assumption | exact zz_up_eq _ _ _ | omega | exact Ne.symm (by assumption) | (refine (zz_up_ne ?_).trans ?_ <;> first | assumption | exact zz_up_eq _ _ _ | omega | exact Ne.symm (by assumption))))) (by omega) ?_
      rw [hop]
      refine zj_tabIn (t := 184) dk_112_31 (by decide) rfl rfl ?_
      refine zj_iload dk_112_184 rfl ?_
      refine zj_if_ne (t := 193) dk_112_186 rfl (by omega) (fun c186 => ?_) (fun c186 => ?_)
      · skip
        refine zi_aload_n dk_112_193 rfl rfl ?_
        refine zi_getf dk_112_194 fl_7_18 (by first | assumption | exact zz_up_eq _ _ _ | omega | exact Ne.symm (by assumption) | (refine (zz_up_ne ?_).trans ?_ <;> first | assumption | exact zz_up_eq _ _ _ | omega | exact Ne.symm (by assumption) | (refine (zz_up_ne ?_).trans ?_ <;> first | assumption | exact zz_up_eq _ _ _ | omega | exact Ne.symm (by assumption) | (refine (zz_up_ne ?_).trans ?_ <;> first | assumption | exact zz_up_eq _ _ _ | omega | exact Ne.symm (by assumption))))) rfl ?_
        refine zj_iload_n dk_112_197 rfl ?_
        refine zj_iald dk_112_198 (by first | assumption | exact zz_up_eq _ _ _ | omega | exact Ne.symm (by assumption) | (refine (zz_up_ne ?_).trans ?_ <;> first | assumption | exact zz_up_eq _ _ _ | omega | exact Ne.symm (by assumption) | (refine (zz_up_ne ?_).trans ?_ <;> first | assumption | exact zz_up_eq _ _ _ | omega | exact Ne.symm (by assumption) | (refine (zz_up_ne ?_).trans ?_ <;> first | assumption | exact zz_up_eq _ _ _ | omega | exact Ne.symm (by assumption))))) (by omega) ?_
        refine zj_iload dk_112_199 rfl ?_
        refine zj_idiv dk_112_201 (by omega) ?_
        refine zi_aload_n dk_112_202 rfl rfl ?_
        refine zi_getf dk_112_203 fl_7_15 (by first | assumption | exact zz_up_eq _ _ _ | omega | exact Ne.symm (by assumption) | (refine (zz_up_ne ?_).trans ?_ <;> first | assumption | exact zz_up_eq _ _ _ | omega | exact Ne.symm (by assumption) | (refine (zz_up_ne ?_).trans ?_ <;> first | assumption | exact zz_up_eq _ _ _ | omega | exact Ne.symm (by assumption) | (refine (zz_up_ne ?_).trans ?_ <;> first | assumption | exact zz_up_eq _ _ _ | omega | exact Ne.symm (by assumption))))) rfl ?_
        refine zj_iload_n dk_112_206 rfl ?_
        refine zj_iald dk_112_207 (by first | assumption | exact zz_up_eq _ _ _ | omega | exact Ne.symm (by assumption) | (refine (zz_up_ne ?_).trans ?_ <;> first | assumption | exact zz_up_eq _ _ _ | omega | exact Ne.symm (by assumption) | (refine (zz_up_ne ?_).trans ?_ <;> first | assumption | exact zz_up_eq _ _ _ | omega | exact Ne.symm (by assumption) | (refine (zz_up_ne ?_).trans ?_ <;> first | assumption | exact zz_up_eq _ _ _ | omega | exact Ne.symm (by assumption))))) (by omega) ?_
        refine zj_icmp_lt (t := 215) dk_112_208 rfl (by omega) (fun c208 => ?_) (fun c208 => ?_)
        · skip
          refine zj_iconst dk_112_215 ?_
          refine zi_invS dk_112_216 ml_7_49 is_111 (ct_111 (d := d - 1) (by omega)) rfl rfl (Nat.le_of_ble_eq_true rfl) (by omega) rfl rfl (fun r n' h' hq => ?_)
          obtain ⟨rfl, rfl, rfl⟩ := hq
          refine zj_ireturn dk_112_219 rfl ⟨by rw [exs_9]; congr 2; (repeat' split) <;> omega, rfl, rfl⟩
        · skip
          refine zj_iconst dk_112_211 ?_
          refine zi_goto (t := 216) dk_112_212 rfl ?_
          refine zi_invS dk_112_216 ml_7_49 is_111 (ct_111 (d := d - 1) (by omega)) rfl rfl (Nat.le_of_ble_eq_true rfl) (by omega) rfl rfl (fun r n' h' hq => ?_)
          obtain ⟨rfl, rfl, rfl⟩ := hq
          refine zj_ireturn dk_112_219 rfl ⟨by rw [exs_9]; congr 2; (repeat' split) <;> omega, rfl, rfl⟩
      · skip
        refine zj_iconst dk_112_189 ?_
        refine zi_goto (t := 219) dk_112_190 rfl ?_
        refine zj_ireturn dk_112_219 rfl ⟨by rw [exs_9]; congr 2; (repeat' split) <;> omega, rfl, rfl⟩

theorem ct_112 {X : zz_X} {d n : Nat} {h : zz_H} (hd : 1 ≤ d) {co : Nat} {o a b v : Int → Int} {sz : Int} (g0 : h co = some (.inr (7, [.ref (co + 1), .ref (co + 2), .ref (co + 3), .ref (co + 4), zv sz]))) (g1 : h (co + 1) = some (zA 0 16 o)) (g2 : h (co + 2) = some (zA 0 16 a)) (g3 : h (co + 3) = some (zA 0 16 b)) (g4 : h (co + 4) = some (zA 0 16 v)) (hz : 0 ≤ sz ∧ sz ≤ 16) (hw : ex_W o a b sz) {i ask held arg : Int} (hi : 0 ≤ i ∧ i < sz) (ha : -2147483648 ≤ ask ∧ ask < 2147483648) (hg : -2147483648 ≤ arg ∧ arg < 2147483648) : zz_Ct X mm_112 d 0 0 [.ref co, zv i, zv ask, zv held, zv arg] n h (zp (some (zv (ex_sv (o i) (a i) (b i) ask held arg))) n h) := by
  obtain ⟨w1, -⟩ := hw i hi.1 hi.2
  have hop : o i = 0 ∨ o i = 1 ∨ o i = 2 ∨ o i = 3 ∨ o i = 4 ∨ o i = 5 ∨ o i = 6 ∨ o i = 7 ∨ o i = 8 ∨ o i = 9 := by omega
  rcases hop with hop | hop | hop | hop | hop | hop | hop | hop | hop | hop
  · exact ct_112_0 hd g0 g1 g2 g3 g4 hz hw hi ha hg hop
  · exact ct_112_1 hd g0 g1 g2 g3 g4 hz hw hi ha hg hop
  · exact ct_112_2 hd g0 g1 g2 g3 g4 hz hw hi ha hg hop
  · exact ct_112_3 hd g0 g1 g2 g3 g4 hz hw hi ha hg hop
  · exact ct_112_4 hd g0 g1 g2 g3 g4 hz hw hi ha hg hop
  · exact ct_112_5 hd g0 g1 g2 g3 g4 hz hw hi ha hg hop
  · exact ct_112_6 hd g0 g1 g2 g3 g4 hz hw hi ha hg hop
  · exact ct_112_7 hd g0 g1 g2 g3 g4 hz hw hi ha hg hop
  · exact ct_112_8 hd g0 g1 g2 g3 g4 hz hw hi ha hg hop
  · exact ct_112_9 hd g0 g1 g2 g3 g4 hz hw hi ha hg hop

