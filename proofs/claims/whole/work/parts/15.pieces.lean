/-! Pieces: its four cells lie in a row; pc_H lays them over a heap -/
def pc_O (p : Nat) (bg wr sz : Int) : va_E := .inr (2, [.ref (p + 1), .ref (p + 2), .ref (p + 3), zv bg, zv wr, zv sz])
def pc_H (p : Nat) (ch st en : Int → Int) (bg wr sz : Int) (h0 : zz_H) : zz_H := zz_up (zz_up (zz_up (zz_up h0 (p + 1) (zA 1 40 ch)) (p + 2) (zA 0 20 st)) (p + 3) (zA 0 20 en)) p (pc_O p bg wr sz)
section PC
variable {p : Nat} {ch st en : Int → Int} {bg wr sz : Int} {h0 : zz_H}
theorem pc_0 : pc_H p ch st en bg wr sz h0 p = some (.inr (2, [.ref (p + 1), .ref (p + 2), .ref (p + 3), zv bg, zv wr, zv sz])) := zz_up_eq _ _ _
theorem pc_1 : pc_H p ch st en bg wr sz h0 (p + 1) = some (zA 1 40 ch) := (zz_up_ne (by omega)).trans ((zz_up_ne (by omega)).trans ((zz_up_ne (by omega)).trans (zz_up_eq _ _ _)))
theorem pc_2 : pc_H p ch st en bg wr sz h0 (p + 2) = some (zA 0 20 st) := (zz_up_ne (by omega)).trans ((zz_up_ne (by omega)).trans (zz_up_eq _ _ _))
theorem pc_3 : pc_H p ch st en bg wr sz h0 (p + 3) = some (zA 0 20 en) := (zz_up_ne (by omega)).trans (zz_up_eq _ _ _)
theorem pc_o {a : Nat} (ha : a < p ∨ p + 4 ≤ a) : pc_H p ch st en bg wr sz h0 a = h0 a := (zz_up_ne (by omega)).trans ((zz_up_ne (by omega)).trans ((zz_up_ne (by omega)).trans (zz_up_ne (by omega))))
theorem pc_s0 {bg' wr' sz' : Int} : zz_up (pc_H p ch st en bg wr sz h0) p (.inr (2, [.ref (p + 1), .ref (p + 2), .ref (p + 3), zv bg', zv wr', zv sz'])) = pc_H p ch st en bg' wr' sz' h0 := zz_up_up _ _ _ _
theorem pc_s1 {g : Int → Int} : zz_up (pc_H p ch st en bg wr sz h0) (p + 1) (zA 1 40 g) = pc_H p g st en bg wr sz h0 := by
  unfold pc_H
  rw [zz_up_cm _ _ _ (by omega), zz_up_cm _ _ _ (by omega : p + 3 ≠ p + 1), zz_up_cm _ _ _ (by omega : p + 2 ≠ p + 1), zz_up_up]
theorem pc_s2 {g : Int → Int} : zz_up (pc_H p ch st en bg wr sz h0) (p + 2) (zA 0 20 g) = pc_H p ch g en bg wr sz h0 := by
  unfold pc_H
  rw [zz_up_cm _ _ _ (by omega), zz_up_cm _ _ _ (by omega : p + 3 ≠ p + 2), zz_up_up]
theorem pc_s3 {g : Int → Int} : zz_up (pc_H p ch st en bg wr sz h0) (p + 3) (zA 0 20 g) = pc_H p ch st g bg wr sz h0 := by
  unfold pc_H
  rw [zz_up_cm _ _ _ (by omega), zz_up_up]
theorem pc_id {h : zz_H} (g0 : h p = some (.inr (2, [.ref (p + 1), .ref (p + 2), .ref (p + 3), zv bg, zv wr, zv sz]))) (g1 : h (p + 1) = some (zA 1 40 ch)) (g2 : h (p + 2) = some (zA 0 20 st)) (g3 : h (p + 3) = some (zA 0 20 en)) : pc_H p ch st en bg wr sz h = h := by
  unfold pc_H pc_O
  rw [zz_up_same g1, zz_up_same g2, zz_up_same g3, zz_up_same g0]
end PC
/-- all of k places from i on are dots -/
def pc_dots (g : Int → Int) : Nat → Int → Bool
  | 0, _ => true
  | k + 1, i => decide (g i = 46) && pc_dots g k (i + 1)
theorem ct_85 {X : zz_X} {d n : Nat}  {p : Nat} {ch st en : Int → Int} {bg wr sz : Int} {h0 : zz_H}  : zz_Ct X mm_85 d 0 0 [.ref p] n (pc_H p ch st en bg wr sz h0) (zp none n (pc_H p ch st en 0 0 0 h0)) := by
  refine zz_start (by decide) (ls := [some (.ref p)]) rfl ?_
  have g0 := @pc_0 p ch st en bg wr sz h0
  have g1 := @pc_1 p ch st en bg wr sz h0
  have g2 := @pc_2 p ch st en bg wr sz h0
  have g3 := @pc_3 p ch st en bg wr sz h0
  refine zi_aload_n dk_85_0 rfl rfl ?_
  refine zj_iconst dk_85_1 ?_
  refine zj_putI dk_85_2 fp_85_22 (by first | assumption | exact zz_up_eq _ _ _ | omega | exact Ne.symm (by assumption) | (refine (zz_up_ne ?_).trans ?_ <;> first | assumption | exact zz_up_eq _ _ _ | omega | exact Ne.symm (by assumption) | (refine (zz_up_ne ?_).trans ?_ <;> first | assumption | exact zz_up_eq _ _ _ | omega | exact Ne.symm (by assumption) | (refine (zz_up_ne ?_).trans ?_ <;> first | assumption | exact zz_up_eq _ _ _ | omega | exact Ne.symm (by assumption))))) rfl ?_
  refine zi_aload_n dk_85_5 rfl rfl ?_
  refine zj_iconst dk_85_6 ?_
  refine zj_putI dk_85_7 fp_85_26 (by first | assumption | exact zz_up_eq _ _ _ | omega | exact Ne.symm (by assumption) | (refine (zz_up_ne ?_).trans ?_ <;> first | assumption | exact zz_up_eq _ _ _ | omega | exact Ne.symm (by assumption) | (refine (zz_up_ne ?_).trans ?_ <;> first | assumption | exact zz_up_eq _ _ _ | omega | exact Ne.symm (by assumption) | (refine (zz_up_ne ?_).trans ?_ <;> first | assumption | exact zz_up_eq _ _ _ | omega | exact Ne.symm (by assumption))))) rfl ?_
  refine zi_aload_n dk_85_10 rfl rfl ?_
  refine zj_iconst dk_85_11 ?_
  refine zj_putI dk_85_12 fp_85_29 (by first | assumption | exact zz_up_eq _ _ _ | omega | exact Ne.symm (by assumption) | (refine (zz_up_ne ?_).trans ?_ <;> first | assumption | exact zz_up_eq _ _ _ | omega | exact Ne.symm (by assumption) | (refine (zz_up_ne ?_).trans ?_ <;> first | assumption | exact zz_up_eq _ _ _ | omega | exact Ne.symm (by assumption) | (refine (zz_up_ne ?_).trans ?_ <;> first | assumption | exact zz_up_eq _ _ _ | omega | exact Ne.symm (by assumption))))) rfl ?_
  refine zi_return dk_85_15 rfl ⟨rfl, rfl, by rw [zz_up_up, zz_up_up, pc_s0]⟩

theorem ct_31 {X : zz_X} {d n : Nat}  {p : Nat} {ch st en : Int → Int} {bg wr sz : Int} {h0 : zz_H} {c : Int} (hw : 0 ≤ wr ∧ wr < 40) (hc : 0 ≤ c ∧ c < 65536) : zz_Ct X mm_31 d 0 0 [.ref p, zv c] n (pc_H p ch st en bg wr sz h0) (zp none n (pc_H p (zU ch wr c) st en bg (wr + 1) sz h0)) := by
  refine zz_start (by decide) (ls := [some (.ref p), some (zv c)]) rfl ?_
  have g0 := @pc_0 p ch st en bg wr sz h0
  have g1 := @pc_1 p ch st en bg wr sz h0
  have g2 := @pc_2 p ch st en bg wr sz h0
  have g3 := @pc_3 p ch st en bg wr sz h0
  refine zi_aload_n dk_31_0 rfl rfl ?_
  refine zi_getf dk_31_1 fl_2_26 (by first | assumption | exact zz_up_eq _ _ _ | omega | exact Ne.symm (by assumption) | (refine (zz_up_ne ?_).trans ?_ <;> first | assumption | exact zz_up_eq _ _ _ | omega | exact Ne.symm (by assumption) | (refine (zz_up_ne ?_).trans ?_ <;> first | assumption | exact zz_up_eq _ _ _ | omega | exact Ne.symm (by assumption) | (refine (zz_up_ne ?_).trans ?_ <;> first | assumption | exact zz_up_eq _ _ _ | omega | exact Ne.symm (by assumption))))) rfl ?_
  refine zj_bipush dk_31_4 (by decide) ?_
  refine zj_icmp_ge (t := 30) dk_31_6 rfl (by omega) (fun c6 => ?_) (fun c6 => ?_)
  · omega
  · skip
    refine zi_aload_n dk_31_9 rfl rfl ?_
    refine zi_getf dk_31_10 fl_2_9 (by first | assumption | exact zz_up_eq _ _ _ | omega | exact Ne.symm (by assumption) | (refine (zz_up_ne ?_).trans ?_ <;> first | assumption | exact zz_up_eq _ _ _ | omega | exact Ne.symm (by assumption) | (refine (zz_up_ne ?_).trans ?_ <;> first | assumption | exact zz_up_eq _ _ _ | omega | exact Ne.symm (by assumption) | (refine (zz_up_ne ?_).trans ?_ <;> first | assumption | exact zz_up_eq _ _ _ | omega | exact Ne.symm (by assumption))))) rfl ?_
    refine zi_aload_n dk_31_13 rfl rfl ?_
    refine zi_getf dk_31_14 fl_2_26 (by first | assumption | exact zz_up_eq _ _ _ | omega | exact Ne.symm (by assumption) | (refine (zz_up_ne ?_).trans ?_ <;> first | assumption | exact zz_up_eq _ _ _ | omega | exact Ne.symm (by assumption) | (refine (zz_up_ne ?_).trans ?_ <;> first | assumption | exact zz_up_eq _ _ _ | omega | exact Ne.symm (by assumption) | (refine (zz_up_ne ?_).trans ?_ <;> first | assumption | exact zz_up_eq _ _ _ | omega | exact Ne.symm (by assumption))))) rfl ?_
    refine zj_iload_n dk_31_17 rfl ?_
    refine zj_i2c dk_31_18 (by omega) ?_
    refine zj_cast dk_31_19 (by first | assumption | exact zz_up_eq _ _ _ | omega | exact Ne.symm (by assumption) | (refine (zz_up_ne ?_).trans ?_ <;> first | assumption | exact zz_up_eq _ _ _ | omega | exact Ne.symm (by assumption) | (refine (zz_up_ne ?_).trans ?_ <;> first | assumption | exact zz_up_eq _ _ _ | omega | exact Ne.symm (by assumption) | (refine (zz_up_ne ?_).trans ?_ <;> first | assumption | exact zz_up_eq _ _ _ | omega | exact Ne.symm (by assumption))))) (by omega) (by omega) ?_
    refine zi_aload_n dk_31_20 rfl rfl ?_
    refine zi_dup dk_31_21 rfl ?_
    refine zi_getf dk_31_22 fl_2_26 (by first | assumption | exact zz_up_eq _ _ _ | omega | exact Ne.symm (by assumption) | (refine (zz_up_ne ?_).trans ?_ <;> first | assumption | exact zz_up_eq _ _ _ | omega | exact Ne.symm (by assumption) | (refine (zz_up_ne ?_).trans ?_ <;> first | assumption | exact zz_up_eq _ _ _ | omega | exact Ne.symm (by assumption) | (refine (zz_up_ne ?_).trans ?_ <;> first | assumption | exact zz_up_eq _ _ _ | omega | exact Ne.symm (by assumption))))) rfl ?_
    refine zj_iconst dk_31_25 ?_
    refine zj_iadd dk_31_26 ?_
    refine zj_putI dk_31_27 fp_31_26 (by first | assumption | exact zz_up_eq _ _ _ | omega | exact Ne.symm (by assumption) | (refine (zz_up_ne ?_).trans ?_ <;> first | assumption | exact zz_up_eq _ _ _ | omega | exact Ne.symm (by assumption) | (refine (zz_up_ne ?_).trans ?_ <;> first | assumption | exact zz_up_eq _ _ _ | omega | exact Ne.symm (by assumption) | (refine (zz_up_ne ?_).trans ?_ <;> first | assumption | exact zz_up_eq _ _ _ | omega | exact Ne.symm (by assumption))))) rfl ?_
    refine zi_return dk_31_30 rfl ⟨rfl, rfl, by rw [pc_s1, pc_s0]⟩

theorem ct_32 {X : zz_X} {d n : Nat}  {p : Nat} {ch st en : Int → Int} {bg wr sz : Int} {h0 : zz_H} (hz : 0 ≤ sz ∧ sz < 20) : zz_Ct X mm_32 d 0 0 [.ref p] n (pc_H p ch st en bg wr sz h0) (zp none n (pc_H p ch (zU st sz bg) (zU en sz wr) wr wr (sz + 1) h0)) := by
  refine zz_start (by decide) (ls := [some (.ref p)]) rfl ?_
  have g0 := @pc_0 p ch st en bg wr sz h0
  have g1 := @pc_1 p ch st en bg wr sz h0
  have g2 := @pc_2 p ch st en bg wr sz h0
  have g3 := @pc_3 p ch st en bg wr sz h0
  refine zi_aload_n dk_32_0 rfl rfl ?_
  refine zi_getf dk_32_1 fl_2_29 (by first | assumption | exact zz_up_eq _ _ _ | omega | exact Ne.symm (by assumption) | (refine (zz_up_ne ?_).trans ?_ <;> first | assumption | exact zz_up_eq _ _ _ | omega | exact Ne.symm (by assumption) | (refine (zz_up_ne ?_).trans ?_ <;> first | assumption | exact zz_up_eq _ _ _ | omega | exact Ne.symm (by assumption) | (refine (zz_up_ne ?_).trans ?_ <;> first | assumption | exact zz_up_eq _ _ _ | omega | exact Ne.symm (by assumption))))) rfl ?_
  refine zj_bipush dk_32_4 (by decide) ?_
  refine zj_icmp_ge (t := 45) dk_32_6 rfl (by omega) (fun c6 => ?_) (fun c6 => ?_)
  · omega
  · skip
    refine zi_aload_n dk_32_9 rfl rfl ?_
    refine zi_getf dk_32_10 fl_2_15 (by first | assumption | exact zz_up_eq _ _ _ | omega | exact Ne.symm (by assumption) | (refine (zz_up_ne ?_).trans ?_ <;> first | assumption | exact zz_up_eq _ _ _ | omega | exact Ne.symm (by assumption) | (refine (zz_up_ne ?_).trans ?_ <;> first | assumption | exact zz_up_eq _ _ _ | omega | exact Ne.symm (by assumption) | (refine (zz_up_ne ?_).trans ?_ <;> first | assumption | exact zz_up_eq _ _ _ | omega | exact Ne.symm (by assumption))))) rfl ?_
    refine zi_aload_n dk_32_13 rfl rfl ?_
    refine zi_getf dk_32_14 fl_2_29 (by first | assumption | exact zz_up_eq _ _ _ | omega | exact Ne.symm (by assumption) | (refine (zz_up_ne ?_).trans ?_ <;> first | assumption | exact zz_up_eq _ _ _ | omega | exact Ne.symm (by assumption) | (refine (zz_up_ne ?_).trans ?_ <;> first | assumption | exact zz_up_eq _ _ _ | omega | exact Ne.symm (by assumption) | (refine (zz_up_ne ?_).trans ?_ <;> first | assumption | exact zz_up_eq _ _ _ | omega | exact Ne.symm (by assumption))))) rfl ?_
    refine zi_aload_n dk_32_17 rfl rfl ?_
    refine zi_getf dk_32_18 fl_2_22 (by first | assumption | exact zz_up_eq _ _ _ | omega | exact Ne.symm (by assumption) | (refine (zz_up_ne ?_).trans ?_ <;> first | assumption | exact zz_up_eq _ _ _ | omega | exact Ne.symm (by assumption) | (refine (zz_up_ne ?_).trans ?_ <;> first | assumption | exact zz_up_eq _ _ _ | omega | exact Ne.symm (by assumption) | (refine (zz_up_ne ?_).trans ?_ <;> first | assumption | exact zz_up_eq _ _ _ | omega | exact Ne.symm (by assumption))))) rfl ?_
    refine zj_iast dk_32_21 (by first | assumption | exact zz_up_eq _ _ _ | omega | exact Ne.symm (by assumption) | (refine (zz_up_ne ?_).trans ?_ <;> first | assumption | exact zz_up_eq _ _ _ | omega | exact Ne.symm (by assumption) | (refine (zz_up_ne ?_).trans ?_ <;> first | assumption | exact zz_up_eq _ _ _ | omega | exact Ne.symm (by assumption) | (refine (zz_up_ne ?_).trans ?_ <;> first | assumption | exact zz_up_eq _ _ _ | omega | exact Ne.symm (by assumption))))) (by omega) ?_
    refine zi_aload_n dk_32_22 rfl rfl ?_
    refine zi_getf dk_32_23 fl_2_19 (by first | assumption | exact zz_up_eq _ _ _ | omega | exact Ne.symm (by assumption) | (refine (zz_up_ne ?_).trans ?_ <;> first | assumption | exact zz_up_eq _ _ _ | omega | exact Ne.symm (by assumption) | (refine (zz_up_ne ?_).trans ?_ <;> first | assumption | exact zz_up_eq _ _ _ | omega | exact Ne.symm (by assumption) | (refine (zz_up_ne ?_).trans ?_ <;> first | assumption | exact zz_up_eq _ _ _ | omega | exact Ne.symm (by assumption))))) rfl ?_
    refine zi_aload_n dk_32_26 rfl rfl ?_
    refine zi_getf dk_32_27 fl_2_29 (by first | assumption | exact zz_up_eq _ _ _ | omega | exact Ne.symm (by assumption) | (refine (zz_up_ne ?_).trans ?_ <;> first | assumption | exact zz_up_eq _ _ _ | omega | exact Ne.symm (by assumption) | (refine (zz_up_ne ?_).trans ?_ <;> first | assumption | exact zz_up_eq _ _ _ | omega | exact Ne.symm (by assumption) | (refine (zz_up_ne ?_).trans ?_ <;> first | assumption | exact zz_up_eq _ _ _ | omega | exact Ne.symm (by assumption))))) rfl ?_
    refine zi_aload_n dk_32_30 rfl rfl ?_
    refine zi_getf dk_32_31 fl_2_26 (by first | assumption | exact zz_up_eq _ _ _ | omega | exact Ne.symm (by assumption) | (refine (zz_up_ne ?_).trans ?_ <;> first | assumption | exact zz_up_eq _ _ _ | omega | exact Ne.symm (by assumption) | (refine (zz_up_ne ?_).trans ?_ <;> first | assumption | exact zz_up_eq _ _ _ | omega | exact Ne.symm (by assumption) | (refine (zz_up_ne ?_).trans ?_ <;> first | assumption | exact zz_up_eq _ _ _ | omega | exact Ne.symm (by assumption))))) rfl ?_
    refine zj_iast dk_32_34 (by first | assumption | exact zz_up_eq _ _ _ | omega | exact Ne.symm (by assumption) | (refine (zz_up_ne ?_).trans ?_ <;> first | assumption | exact zz_up_eq _ _ _ | omega | exact Ne.symm (by assumption) | (refine (zz_up_ne ?_).trans ?_ <;> first | assumption | exact zz_up_eq _ _ _ | omega | exact Ne.symm (by assumption) | (refine (zz_up_ne ?_).trans ?_ <;> first | assumption | exact zz_up_eq _ _ _ | omega | exact Ne.symm (by assumption))))) (by omega) ?_
    refine zi_aload_n dk_32_35 rfl rfl ?_
    refine zi_dup dk_32_36 rfl ?_
    refine zi_getf dk_32_37 fl_2_29 (by first | assumption | exact zz_up_eq _ _ _ | omega | exact Ne.symm (by assumption) | (refine (zz_up_ne ?_).trans ?_ <;> first | assumption | exact zz_up_eq _ _ _ | omega | exact Ne.symm (by assumption) | (refine (zz_up_ne ?_).trans ?_ <;> first | assumption | exact zz_up_eq _ _ _ | omega | exact Ne.symm (by assumption) | (refine (zz_up_ne ?_).trans ?_ <;> first | assumption | exact zz_up_eq _ _ _ | omega | exact Ne.symm (by assumption))))) rfl ?_
    refine zj_iconst dk_32_40 ?_
    refine zj_iadd dk_32_41 ?_
    refine zj_putI dk_32_42 fp_32_29 (by first | assumption | exact zz_up_eq _ _ _ | omega | exact Ne.symm (by assumption) | (refine (zz_up_ne ?_).trans ?_ <;> first | assumption | exact zz_up_eq _ _ _ | omega | exact Ne.symm (by assumption) | (refine (zz_up_ne ?_).trans ?_ <;> first | assumption | exact zz_up_eq _ _ _ | omega | exact Ne.symm (by assumption) | (refine (zz_up_ne ?_).trans ?_ <;> first | assumption | exact zz_up_eq _ _ _ | omega | exact Ne.symm (by assumption))))) rfl ?_
    refine zi_aload_n dk_32_45 rfl rfl ?_
    refine zi_aload_n dk_32_46 rfl rfl ?_
    refine zi_getf dk_32_47 fl_2_26 (by first | assumption | exact zz_up_eq _ _ _ | omega | exact Ne.symm (by assumption) | (refine (zz_up_ne ?_).trans ?_ <;> first | assumption | exact zz_up_eq _ _ _ | omega | exact Ne.symm (by assumption) | (refine (zz_up_ne ?_).trans ?_ <;> first | assumption | exact zz_up_eq _ _ _ | omega | exact Ne.symm (by assumption) | (refine (zz_up_ne ?_).trans ?_ <;> first | assumption | exact zz_up_eq _ _ _ | omega | exact Ne.symm (by assumption))))) rfl ?_
    refine zj_putI dk_32_50 fp_32_22 (by first | assumption | exact zz_up_eq _ _ _ | omega | exact Ne.symm (by assumption) | (refine (zz_up_ne ?_).trans ?_ <;> first | assumption | exact zz_up_eq _ _ _ | omega | exact Ne.symm (by assumption) | (refine (zz_up_ne ?_).trans ?_ <;> first | assumption | exact zz_up_eq _ _ _ | omega | exact Ne.symm (by assumption) | (refine (zz_up_ne ?_).trans ?_ <;> first | assumption | exact zz_up_eq _ _ _ | omega | exact Ne.symm (by assumption))))) rfl ?_
    refine zi_return dk_32_53 rfl ⟨rfl, rfl, by rw [zz_up_up, pc_s2, pc_s3, pc_s0]⟩

theorem ct_92 {X : zz_X} {d n : Nat}  {p : Nat} {ch st en : Int → Int} {bg wr sz : Int} {h0 : zz_H}  : zz_Ct X mm_92 d 0 0 [.ref p] n (pc_H p ch st en bg wr sz h0) (zp none n (pc_H p ch st en bg bg sz h0)) := by
  refine zz_start (by decide) (ls := [some (.ref p)]) rfl ?_
  have g0 := @pc_0 p ch st en bg wr sz h0
  have g1 := @pc_1 p ch st en bg wr sz h0
  have g2 := @pc_2 p ch st en bg wr sz h0
  have g3 := @pc_3 p ch st en bg wr sz h0
  refine zi_aload_n dk_92_0 rfl rfl ?_
  refine zi_aload_n dk_92_1 rfl rfl ?_
  refine zi_getf dk_92_2 fl_2_22 (by first | assumption | exact zz_up_eq _ _ _ | omega | exact Ne.symm (by assumption) | (refine (zz_up_ne ?_).trans ?_ <;> first | assumption | exact zz_up_eq _ _ _ | omega | exact Ne.symm (by assumption) | (refine (zz_up_ne ?_).trans ?_ <;> first | assumption | exact zz_up_eq _ _ _ | omega | exact Ne.symm (by assumption) | (refine (zz_up_ne ?_).trans ?_ <;> first | assumption | exact zz_up_eq _ _ _ | omega | exact Ne.symm (by assumption))))) rfl ?_
  refine zj_putI dk_92_5 fp_92_26 (by first | assumption | exact zz_up_eq _ _ _ | omega | exact Ne.symm (by assumption) | (refine (zz_up_ne ?_).trans ?_ <;> first | assumption | exact zz_up_eq _ _ _ | omega | exact Ne.symm (by assumption) | (refine (zz_up_ne ?_).trans ?_ <;> first | assumption | exact zz_up_eq _ _ _ | omega | exact Ne.symm (by assumption) | (refine (zz_up_ne ?_).trans ?_ <;> first | assumption | exact zz_up_eq _ _ _ | omega | exact Ne.symm (by assumption))))) rfl ?_
  refine zi_return dk_92_8 rfl ⟨rfl, rfl, pc_s0⟩

theorem ct_93 {X : zz_X} {d n : Nat}  {p : Nat} {ch st en : Int → Int} {bg wr sz : Int} {h0 : zz_H} (hz : 0 ≤ sz ∧ sz ≤ 20) : zz_Ct X mm_93 d 0 0 [.ref p] n (pc_H p ch st en bg wr sz h0) (zp none n (pc_H p ch st en bg wr (if 0 < sz then sz - 1 else sz) h0)) := by
  refine zz_start (by decide) (ls := [some (.ref p)]) rfl ?_
  have g0 := @pc_0 p ch st en bg wr sz h0
  have g1 := @pc_1 p ch st en bg wr sz h0
  have g2 := @pc_2 p ch st en bg wr sz h0
  have g3 := @pc_3 p ch st en bg wr sz h0
  refine zi_aload_n dk_93_0 rfl rfl ?_
  refine zi_getf dk_93_1 fl_2_29 (by first | assumption | exact zz_up_eq _ _ _ | omega | exact Ne.symm (by assumption) | (refine (zz_up_ne ?_).trans ?_ <;> first | assumption | exact zz_up_eq _ _ _ | omega | exact Ne.symm (by assumption) | (refine (zz_up_ne ?_).trans ?_ <;> first | assumption | exact zz_up_eq _ _ _ | omega | exact Ne.symm (by assumption) | (refine (zz_up_ne ?_).trans ?_ <;> first | assumption | exact zz_up_eq _ _ _ | omega | exact Ne.symm (by assumption))))) rfl ?_
  refine zj_if_le (t := 17) dk_93_4 rfl (by omega) (fun c4 => ?_) (fun c4 => ?_)
  · skip
    refine zi_return dk_93_17 rfl ⟨rfl, rfl, by first | (rw [if_pos (by omega), pc_s0]) | (rw [if_neg (by omega)])⟩
  · skip
    refine zi_aload_n dk_93_7 rfl rfl ?_
    refine zi_dup dk_93_8 rfl ?_
    refine zi_getf dk_93_9 fl_2_29 (by first | assumption | exact zz_up_eq _ _ _ | omega | exact Ne.symm (by assumption) | (refine (zz_up_ne ?_).trans ?_ <;> first | assumption | exact zz_up_eq _ _ _ | omega | exact Ne.symm (by assumption) | (refine (zz_up_ne ?_).trans ?_ <;> first | assumption | exact zz_up_eq _ _ _ | omega | exact Ne.symm (by assumption) | (refine (zz_up_ne ?_).trans ?_ <;> first | assumption | exact zz_up_eq _ _ _ | omega | exact Ne.symm (by assumption))))) rfl ?_
    refine zj_iconst dk_93_12 ?_
    refine zj_isub dk_93_13 ?_
    refine zj_putI dk_93_14 fp_93_29 (by first | assumption | exact zz_up_eq _ _ _ | omega | exact Ne.symm (by assumption) | (refine (zz_up_ne ?_).trans ?_ <;> first | assumption | exact zz_up_eq _ _ _ | omega | exact Ne.symm (by assumption) | (refine (zz_up_ne ?_).trans ?_ <;> first | assumption | exact zz_up_eq _ _ _ | omega | exact Ne.symm (by assumption) | (refine (zz_up_ne ?_).trans ?_ <;> first | assumption | exact zz_up_eq _ _ _ | omega | exact Ne.symm (by assumption))))) rfl ?_
    refine zi_return dk_93_17 rfl ⟨rfl, rfl, by first | (rw [if_pos (by omega), pc_s0]) | (rw [if_neg (by omega)])⟩

theorem ct_90 {X : zz_X} {d n : Nat} {h : zz_H} {p : Nat} {ch st en : Int → Int} {bg wr sz : Int} (g0 : h p = some (.inr (2, [.ref (p + 1), .ref (p + 2), .ref (p + 3), zv bg, zv wr, zv sz]))) (g1 : h (p + 1) = some (zA 1 40 ch)) (g2 : h (p + 2) = some (zA 0 20 st)) (g3 : h (p + 3) = some (zA 0 20 en)) : zz_Ct X mm_90 d 0 0 [.ref p] n h (zp (some (zv (wr - bg))) n h) := by
  refine zz_start (by decide) (ls := [some (.ref p)]) rfl ?_
  refine zi_aload_n dk_90_0 rfl rfl ?_
  refine zi_getf dk_90_1 fl_2_26 (by first | assumption | exact zz_up_eq _ _ _ | omega | exact Ne.symm (by assumption) | (refine (zz_up_ne ?_).trans ?_ <;> first | assumption | exact zz_up_eq _ _ _ | omega | exact Ne.symm (by assumption) | (refine (zz_up_ne ?_).trans ?_ <;> first | assumption | exact zz_up_eq _ _ _ | omega | exact Ne.symm (by assumption) | (refine (zz_up_ne ?_).trans ?_ <;> first | assumption | exact zz_up_eq _ _ _ | omega | exact Ne.symm (by assumption))))) rfl ?_
  refine zi_aload_n dk_90_4 rfl rfl ?_
  refine zi_getf dk_90_5 fl_2_22 (by first | assumption | exact zz_up_eq _ _ _ | omega | exact Ne.symm (by assumption) | (refine (zz_up_ne ?_).trans ?_ <;> first | assumption | exact zz_up_eq _ _ _ | omega | exact Ne.symm (by assumption) | (refine (zz_up_ne ?_).trans ?_ <;> first | assumption | exact zz_up_eq _ _ _ | omega | exact Ne.symm (by assumption) | (refine (zz_up_ne ?_).trans ?_ <;> first | assumption | exact zz_up_eq _ _ _ | omega | exact Ne.symm (by assumption))))) rfl ?_
  refine zj_isub dk_90_8 ?_
  refine zj_ireturn dk_90_9 rfl ⟨rfl, rfl, rfl⟩

theorem lp_91 {X : zz_X} {d n : Nat} {h : zz_H} {p : Nat} {ch st en : Int → Int} {bg wr sz : Int} (g0 : h p = some (.inr (2, [.ref (p + 1), .ref (p + 2), .ref (p + 3), zv bg, zv wr, zv sz]))) (g1 : h (p + 1) = some (zA 1 40 ch)) (g2 : h (p + 2) = some (zA 0 20 st)) (g3 : h (p + 3) = some (zA 0 20 en)) (m : Int) (hw : wr ≤ 40) (hch : ∀ i, 0 ≤ i → i < 40 → 0 ≤ ch i ∧ ch i < 65536) {Q : Option Value → Nat → zz_H → Prop} : ∀ (k : Nat) (i : Int), i + k = wr → 0 ≤ i → Q (some (zv (if pc_dots ch k i = true then 1 else 0))) n h →
    zz_Z X mm_91 d Q 0 0 15 [some (.ref p), some (zv m), some (zv i)] [] n h := by
  intro k
  induction k with
  | zero =>
    intro i hi h0 hQ
    refine zj_iload_n dk_91_15 rfl ?_
    refine zi_aload_n dk_91_16 rfl rfl ?_
    refine zi_getf dk_91_17 fl_2_26 (by first | assumption | exact zz_up_eq _ _ _ | omega | exact Ne.symm (by assumption) | (refine (zz_up_ne ?_).trans ?_ <;> first | assumption | exact zz_up_eq _ _ _ | omega | exact Ne.symm (by assumption) | (refine (zz_up_ne ?_).trans ?_ <;> first | assumption | exact zz_up_eq _ _ _ | omega | exact Ne.symm (by assumption) | (refine (zz_up_ne ?_).trans ?_ <;> first | assumption | exact zz_up_eq _ _ _ | omega | exact Ne.symm (by assumption))))) rfl ?_
    refine zj_icmp_ge (t := 42) dk_91_20 rfl (by omega) (fun c20 => ?_) (fun c20 => ?_)
    · skip
      refine zj_iconst dk_91_42 ?_
      refine zj_zreturn dk_91_43 rfl (by omega) hQ
    · omega
  | succ k ih =>
    intro i hi h0 hQ
    have hch' := hch i h0 (by omega)
    unfold pc_dots at hQ
    refine zj_iload_n dk_91_15 rfl ?_
    refine zi_aload_n dk_91_16 rfl rfl ?_
    refine zi_getf dk_91_17 fl_2_26 (by first | assumption | exact zz_up_eq _ _ _ | omega | exact Ne.symm (by assumption) | (refine (zz_up_ne ?_).trans ?_ <;> first | assumption | exact zz_up_eq _ _ _ | omega | exact Ne.symm (by assumption) | (refine (zz_up_ne ?_).trans ?_ <;> first | assumption | exact zz_up_eq _ _ _ | omega | exact Ne.symm (by assumption) | (refine (zz_up_ne ?_).trans ?_ <;> first | assumption | exact zz_up_eq _ _ _ | omega | exact Ne.symm (by assumption))))) rfl ?_
    refine zj_icmp_ge (t := 42) dk_91_20 rfl (by omega) (fun c20 => ?_) (fun c20 => ?_)
    · omega
    · skip
      refine zi_aload_n dk_91_23 rfl rfl ?_
      refine zi_getf dk_91_24 fl_2_9 (by first | assumption | exact zz_up_eq _ _ _ | omega | exact Ne.symm (by assumption) | (refine (zz_up_ne ?_).trans ?_ <;> first | assumption | exact zz_up_eq _ _ _ | omega | exact Ne.symm (by assumption) | (refine (zz_up_ne ?_).trans ?_ <;> first | assumption | exact zz_up_eq _ _ _ | omega | exact Ne.symm (by assumption) | (refine (zz_up_ne ?_).trans ?_ <;> first | assumption | exact zz_up_eq _ _ _ | omega | exact Ne.symm (by assumption))))) rfl ?_
      refine zj_iload_n dk_91_27 rfl ?_
      refine zj_cald dk_91_28 (by first | assumption | exact zz_up_eq _ _ _ | omega | exact Ne.symm (by assumption) | (refine (zz_up_ne ?_).trans ?_ <;> first | assumption | exact zz_up_eq _ _ _ | omega | exact Ne.symm (by assumption) | (refine (zz_up_ne ?_).trans ?_ <;> first | assumption | exact zz_up_eq _ _ _ | omega | exact Ne.symm (by assumption) | (refine (zz_up_ne ?_).trans ?_ <;> first | assumption | exact zz_up_eq _ _ _ | omega | exact Ne.symm (by assumption))))) (by omega) ?_
      refine zj_bipush dk_91_29 (by decide) ?_
      refine zj_icmp_eq (t := 36) dk_91_31 rfl (by omega) (fun c31 => ?_) (fun c31 => ?_)
      · skip
        refine zj_iinc dk_91_36 rfl rfl ?_
        refine zi_goto (t := 15) dk_91_39 rfl ?_
        exact ih (i + 1) (by omega) (by omega) (by rw [decide_eq_true c31] at hQ; exact hQ)
      · skip
        refine zj_iconst dk_91_34 ?_
        refine zj_zreturn dk_91_35 rfl (by omega) (by rw [decide_eq_false c31] at hQ; exact hQ)

theorem ct_91 {X : zz_X} {d n : Nat} {h : zz_H} (hd : 1 ≤ d) {p : Nat} {ch st en : Int → Int} {bg wr sz : Int} (g0 : h p = some (.inr (2, [.ref (p + 1), .ref (p + 2), .ref (p + 3), zv bg, zv wr, zv sz]))) (g1 : h (p + 1) = some (zA 1 40 ch)) (g2 : h (p + 2) = some (zA 0 20 st)) (g3 : h (p + 3) = some (zA 0 20 en)) {m : Int} (hw : 0 ≤ bg ∧ bg ≤ wr ∧ wr ≤ 40) (hm : 0 ≤ m ∧ m ≤ 40) (hch : ∀ i, 0 ≤ i → i < 40 → 0 ≤ ch i ∧ ch i < 65536) : zz_Ct X mm_91 d 0 0 [.ref p, zv m] n h (zp (some (zv (if wr - bg = m ∧ pc_dots ch (wr - bg).toNat bg = true then 1 else 0))) n h) := by
  refine zz_start (by decide) (ls := [some (.ref p), some (zv m), none]) rfl ?_
  refine zi_aload_n dk_91_0 rfl rfl ?_
  refine zi_invV dk_91_1 ml_2_32 iv_90 (ct_90 (d := d - 1) g0 g1 g2 g3) (by first | assumption | exact zz_up_eq _ _ _ | omega | exact Ne.symm (by assumption) | (refine (zz_up_ne ?_).trans ?_ <;> first | assumption | exact zz_up_eq _ _ _ | omega | exact Ne.symm (by assumption) | (refine (zz_up_ne ?_).trans ?_ <;> first | assumption | exact zz_up_eq _ _ _ | omega | exact Ne.symm (by assumption) | (refine (zz_up_ne ?_).trans ?_ <;> first | assumption | exact zz_up_eq _ _ _ | omega | exact Ne.symm (by assumption))))) rfl rfl rfl (Nat.le_of_ble_eq_true rfl) (by omega) rfl rfl (fun r n' h' hq => ?_)
  obtain ⟨rfl, rfl, rfl⟩ := hq
  refine zj_iload_n dk_91_4 rfl ?_
  refine zj_icmp_eq (t := 10) dk_91_5 rfl (by omega) (fun c5 => ?_) (fun c5 => ?_)
  · skip
    refine zi_aload_n dk_91_10 rfl rfl ?_
    refine zi_getf dk_91_11 fl_2_22 (by first | assumption | exact zz_up_eq _ _ _ | omega | exact Ne.symm (by assumption) | (refine (zz_up_ne ?_).trans ?_ <;> first | assumption | exact zz_up_eq _ _ _ | omega | exact Ne.symm (by assumption) | (refine (zz_up_ne ?_).trans ?_ <;> first | assumption | exact zz_up_eq _ _ _ | omega | exact Ne.symm (by assumption) | (refine (zz_up_ne ?_).trans ?_ <;> first | assumption | exact zz_up_eq _ _ _ | omega | exact Ne.symm (by assumption))))) rfl ?_
    refine zj_istore_n dk_91_14 rfl ?_
    refine lp_91 g0 g1 g2 g3 m (by omega) hch (wr - bg).toNat bg (by omega) (by omega) ⟨?_, rfl, rfl⟩
    congr 2
    by_cases hx : pc_dots ch (wr - bg).toNat bg = true
    · rw [if_pos hx, if_pos ⟨c5, hx⟩]
    · rw [if_neg hx, if_neg (fun z => hx z.2)]
  · skip
    refine zj_iconst dk_91_8 ?_
    refine zj_zreturn dk_91_9 rfl (by omega) ⟨by rw [if_neg (by omega)], rfl, rfl⟩

/-- the length and the characters of a piece, as the methods answer -/
def pc_ln (st en : Int → Int) (sz k : Int) : Int := if 0 ≤ k ∧ k < sz then en k - st k else 0
def pc_ch (ch st en : Int → Int) (sz k i : Int) : Int := if (0 ≤ k ∧ k < sz) ∧ 0 ≤ i ∧ i < en k - st k then ch (st k + i) else 0
/-- the tables are sound: pieces lie within the characters -/
def pc_ok (ch st en : Int → Int) (sz : Int) : Prop := (0 ≤ sz ∧ sz ≤ 20) ∧ (∀ k, 0 ≤ k → k < sz → 0 ≤ st k ∧ st k ≤ en k ∧ en k ≤ 40) ∧ ∀ i, 0 ≤ i → i < 40 → 0 ≤ ch i ∧ ch i < 65536
theorem ct_102 {X : zz_X} {d n : Nat} {h : zz_H} {p : Nat} {ch st en : Int → Int} {bg wr sz : Int} (g0 : h p = some (.inr (2, [.ref (p + 1), .ref (p + 2), .ref (p + 3), zv bg, zv wr, zv sz]))) (g1 : h (p + 1) = some (zA 1 40 ch)) (g2 : h (p + 2) = some (zA 0 20 st)) (g3 : h (p + 3) = some (zA 0 20 en)) (hok : pc_ok ch st en sz) {k : Int} (hk : -2147483648 ≤ k ∧ k < 2147483648) : zz_Ct X mm_102 d 0 0 [.ref p, zv k] n h (zp (some (zv (pc_ln st en sz k))) n h) := by
  refine zz_start (by decide) (ls := [some (.ref p), some (zv k)]) rfl ?_
  obtain ⟨hz, hse, hch⟩ := hok
  refine zj_iload_n dk_102_0 rfl ?_
  refine zj_if_lt (t := 28) dk_102_1 rfl (by omega) (fun c1 => ?_) (fun c1 => ?_)
  · skip
    refine zj_iconst dk_102_28 ?_
    refine zj_ireturn dk_102_29 rfl ⟨by unfold pc_ln; first | rw [if_pos (by omega)] | rw [if_neg (by omega)], rfl, rfl⟩
  · skip
    refine zj_iload_n dk_102_4 rfl ?_
    refine zi_aload_n dk_102_5 rfl rfl ?_
    refine zi_getf dk_102_6 fl_2_29 (by first | assumption | exact zz_up_eq _ _ _ | omega | exact Ne.symm (by assumption) | (refine (zz_up_ne ?_).trans ?_ <;> first | assumption | exact zz_up_eq _ _ _ | omega | exact Ne.symm (by assumption) | (refine (zz_up_ne ?_).trans ?_ <;> first | assumption | exact zz_up_eq _ _ _ | omega | exact Ne.symm (by assumption) | (refine (zz_up_ne ?_).trans ?_ <;> first | assumption | exact zz_up_eq _ _ _ | omega | exact Ne.symm (by assumption))))) rfl ?_
    skip
    refine zj_icmp_ge (t := 28) dk_102_9 rfl (by omega) (fun c9 => ?_) (fun c9 => ?_)
    · skip
      refine zj_iconst dk_102_28 ?_
      refine zj_ireturn dk_102_29 rfl ⟨by unfold pc_ln; first | rw [if_pos (by omega)] | rw [if_neg (by omega)], rfl, rfl⟩
    · skip
      refine zi_aload_n dk_102_12 rfl rfl ?_
      refine zi_getf dk_102_13 fl_2_19 (by first | assumption | exact zz_up_eq _ _ _ | omega | exact Ne.symm (by assumption) | (refine (zz_up_ne ?_).trans ?_ <;> first | assumption | exact zz_up_eq _ _ _ | omega | exact Ne.symm (by assumption) | (refine (zz_up_ne ?_).trans ?_ <;> first | assumption | exact zz_up_eq _ _ _ | omega | exact Ne.symm (by assumption) | (refine (zz_up_ne ?_).trans ?_ <;> first | assumption | exact zz_up_eq _ _ _ | omega | exact Ne.symm (by assumption))))) rfl ?_
      refine zj_iload_n dk_102_16 rfl ?_
      refine zj_iald dk_102_17 (by first | assumption | exact zz_up_eq _ _ _ | omega | exact Ne.symm (by assumption) | (refine (zz_up_ne ?_).trans ?_ <;> first | assumption | exact zz_up_eq _ _ _ | omega | exact Ne.symm (by assumption) | (refine (zz_up_ne ?_).trans ?_ <;> first | assumption | exact zz_up_eq _ _ _ | omega | exact Ne.symm (by assumption) | (refine (zz_up_ne ?_).trans ?_ <;> first | assumption | exact zz_up_eq _ _ _ | omega | exact Ne.symm (by assumption))))) (by omega) ?_
      refine zi_aload_n dk_102_18 rfl rfl ?_
      refine zi_getf dk_102_19 fl_2_15 (by first | assumption | exact zz_up_eq _ _ _ | omega | exact Ne.symm (by assumption) | (refine (zz_up_ne ?_).trans ?_ <;> first | assumption | exact zz_up_eq _ _ _ | omega | exact Ne.symm (by assumption) | (refine (zz_up_ne ?_).trans ?_ <;> first | assumption | exact zz_up_eq _ _ _ | omega | exact Ne.symm (by assumption) | (refine (zz_up_ne ?_).trans ?_ <;> first | assumption | exact zz_up_eq _ _ _ | omega | exact Ne.symm (by assumption))))) rfl ?_
      refine zj_iload_n dk_102_22 rfl ?_
      refine zj_iald dk_102_23 (by first | assumption | exact zz_up_eq _ _ _ | omega | exact Ne.symm (by assumption) | (refine (zz_up_ne ?_).trans ?_ <;> first | assumption | exact zz_up_eq _ _ _ | omega | exact Ne.symm (by assumption) | (refine (zz_up_ne ?_).trans ?_ <;> first | assumption | exact zz_up_eq _ _ _ | omega | exact Ne.symm (by assumption) | (refine (zz_up_ne ?_).trans ?_ <;> first | assumption | exact zz_up_eq _ _ _ | omega | exact Ne.symm (by assumption))))) (by omega) ?_
      refine zj_isub dk_102_24 ?_
      refine zi_goto (t := 29) dk_102_25 rfl ?_
      refine zj_ireturn dk_102_29 rfl ⟨by unfold pc_ln; first | rw [if_pos (by omega)] | rw [if_neg (by omega)], rfl, rfl⟩

theorem ct_103 {X : zz_X} {d n : Nat} {h : zz_H} {p : Nat} {ch st en : Int → Int} {bg wr sz : Int} (g0 : h p = some (.inr (2, [.ref (p + 1), .ref (p + 2), .ref (p + 3), zv bg, zv wr, zv sz]))) (g1 : h (p + 1) = some (zA 1 40 ch)) (g2 : h (p + 2) = some (zA 0 20 st)) (g3 : h (p + 3) = some (zA 0 20 en)) (hok : pc_ok ch st en sz) {k i : Int} (hk : -2147483648 ≤ k ∧ k < 2147483648) (hi : -2147483648 ≤ i ∧ i < 2147483648) : zz_Ct X mm_103 d 0 0 [.ref p, zv k, zv i] n h (zp (some (zv (pc_ch ch st en sz k i))) n h) := by
  refine zz_start (by decide) (ls := [some (.ref p), some (zv k), some (zv i)]) rfl ?_
  obtain ⟨hz, hse, hch⟩ := hok
  refine zj_iload_n dk_103_0 rfl ?_
  refine zj_if_lt (t := 33) dk_103_1 rfl (by omega) (fun c1 => ?_) (fun c1 => ?_)
  · skip
    refine zj_iconst dk_103_33 ?_
    refine zj_creturn dk_103_34 rfl (by omega) ⟨by unfold pc_ch; first | rw [if_pos (by omega)] | rw [if_neg (by omega)], rfl, rfl⟩
  · skip
    refine zj_iload_n dk_103_4 rfl ?_
    refine zi_aload_n dk_103_5 rfl rfl ?_
    refine zi_getf dk_103_6 fl_2_29 (by first | assumption | exact zz_up_eq _ _ _ | omega | exact Ne.symm (by assumption) | (refine (zz_up_ne ?_).trans ?_ <;> first | assumption | exact zz_up_eq _ _ _ | omega | exact Ne.symm (by assumption) | (refine (zz_up_ne ?_).trans ?_ <;> first | assumption | exact zz_up_eq _ _ _ | omega | exact Ne.symm (by assumption) | (refine (zz_up_ne ?_).trans ?_ <;> first | assumption | exact zz_up_eq _ _ _ | omega | exact Ne.symm (by assumption))))) rfl ?_
    refine zj_icmp_ge (t := 33) dk_103_9 rfl (by omega) (fun c9 => ?_) (fun c9 => ?_)
    · skip
      refine zj_iconst dk_103_33 ?_
      refine zj_creturn dk_103_34 rfl (by omega) ⟨by unfold pc_ch; first | rw [if_pos (by omega)] | rw [if_neg (by omega)], rfl, rfl⟩
    · skip
      have hk2 := hse k (by omega) (by omega)
      refine zj_iload_n dk_103_12 rfl ?_
      refine zj_if_lt (t := 33) dk_103_13 rfl (by omega) (fun c13 => ?_) (fun c13 => ?_)
      · skip
        refine zj_iconst dk_103_33 ?_
        refine zj_creturn dk_103_34 rfl (by omega) ⟨by unfold pc_ch; first | rw [if_pos (by omega)] | rw [if_neg (by omega)], rfl, rfl⟩
      · skip
        refine zj_iload_n dk_103_16 rfl ?_
        refine zi_aload_n dk_103_17 rfl rfl ?_
        refine zi_getf dk_103_18 fl_2_19 (by first | assumption | exact zz_up_eq _ _ _ | omega | exact Ne.symm (by assumption) | (refine (zz_up_ne ?_).trans ?_ <;> first | assumption | exact zz_up_eq _ _ _ | omega | exact Ne.symm (by assumption) | (refine (zz_up_ne ?_).trans ?_ <;> first | assumption | exact zz_up_eq _ _ _ | omega | exact Ne.symm (by assumption) | (refine (zz_up_ne ?_).trans ?_ <;> first | assumption | exact zz_up_eq _ _ _ | omega | exact Ne.symm (by assumption))))) rfl ?_
        refine zj_iload_n dk_103_21 rfl ?_
        refine zj_iald dk_103_22 (by first | assumption | exact zz_up_eq _ _ _ | omega | exact Ne.symm (by assumption) | (refine (zz_up_ne ?_).trans ?_ <;> first | assumption | exact zz_up_eq _ _ _ | omega | exact Ne.symm (by assumption) | (refine (zz_up_ne ?_).trans ?_ <;> first | assumption | exact zz_up_eq _ _ _ | omega | exact Ne.symm (by assumption) | (refine (zz_up_ne ?_).trans ?_ <;> first | assumption | exact zz_up_eq _ _ _ | omega | exact Ne.symm (by assumption))))) (by omega) ?_
        refine zi_aload_n dk_103_23 rfl rfl ?_
        refine zi_getf dk_103_24 fl_2_15 (by first | assumption | exact zz_up_eq _ _ _ | omega | exact Ne.symm (by assumption) | (refine (zz_up_ne ?_).trans ?_ <;> first | assumption | exact zz_up_eq _ _ _ | omega | exact Ne.symm (by assumption) | (refine (zz_up_ne ?_).trans ?_ <;> first | assumption | exact zz_up_eq _ _ _ | omega | exact Ne.symm (by assumption) | (refine (zz_up_ne ?_).trans ?_ <;> first | assumption | exact zz_up_eq _ _ _ | omega | exact Ne.symm (by assumption))))) rfl ?_
        refine zj_iload_n dk_103_27 rfl ?_
        refine zj_iald dk_103_28 (by first | assumption | exact zz_up_eq _ _ _ | omega | exact Ne.symm (by assumption) | (refine (zz_up_ne ?_).trans ?_ <;> first | assumption | exact zz_up_eq _ _ _ | omega | exact Ne.symm (by assumption) | (refine (zz_up_ne ?_).trans ?_ <;> first | assumption | exact zz_up_eq _ _ _ | omega | exact Ne.symm (by assumption) | (refine (zz_up_ne ?_).trans ?_ <;> first | assumption | exact zz_up_eq _ _ _ | omega | exact Ne.symm (by assumption))))) (by omega) ?_
        refine zj_isub dk_103_29 ?_
        refine zj_icmp_lt (t := 35) dk_103_30 rfl (by omega) (fun c30 => ?_) (fun c30 => ?_)
        · skip
          refine zi_aload_n dk_103_35 rfl rfl ?_
          refine zi_getf dk_103_36 fl_2_9 (by first | assumption | exact zz_up_eq _ _ _ | omega | exact Ne.symm (by assumption) | (refine (zz_up_ne ?_).trans ?_ <;> first | assumption | exact zz_up_eq _ _ _ | omega | exact Ne.symm (by assumption) | (refine (zz_up_ne ?_).trans ?_ <;> first | assumption | exact zz_up_eq _ _ _ | omega | exact Ne.symm (by assumption) | (refine (zz_up_ne ?_).trans ?_ <;> first | assumption | exact zz_up_eq _ _ _ | omega | exact Ne.symm (by assumption))))) rfl ?_
          refine zi_aload_n dk_103_39 rfl rfl ?_
          refine zi_getf dk_103_40 fl_2_15 (by first | assumption | exact zz_up_eq _ _ _ | omega | exact Ne.symm (by assumption) | (refine (zz_up_ne ?_).trans ?_ <;> first | assumption | exact zz_up_eq _ _ _ | omega | exact Ne.symm (by assumption) | (refine (zz_up_ne ?_).trans ?_ <;> first | assumption | exact zz_up_eq _ _ _ | omega | exact Ne.symm (by assumption) | (refine (zz_up_ne ?_).trans ?_ <;> first | assumption | exact zz_up_eq _ _ _ | omega | exact Ne.symm (by assumption))))) rfl ?_
          refine zj_iload_n dk_103_43 rfl ?_
          refine zj_iald dk_103_44 (by first | assumption | exact zz_up_eq _ _ _ | omega | exact Ne.symm (by assumption) | (refine (zz_up_ne ?_).trans ?_ <;> first | assumption | exact zz_up_eq _ _ _ | omega | exact Ne.symm (by assumption) | (refine (zz_up_ne ?_).trans ?_ <;> first | assumption | exact zz_up_eq _ _ _ | omega | exact Ne.symm (by assumption) | (refine (zz_up_ne ?_).trans ?_ <;> first | assumption | exact zz_up_eq _ _ _ | omega | exact Ne.symm (by assumption))))) (by omega) ?_
          refine zj_iload_n dk_103_45 rfl ?_
          refine zj_iadd dk_103_46 ?_
          refine zj_cald dk_103_47 (by first | assumption | exact zz_up_eq _ _ _ | omega | exact Ne.symm (by assumption) | (refine (zz_up_ne ?_).trans ?_ <;> first | assumption | exact zz_up_eq _ _ _ | omega | exact Ne.symm (by assumption) | (refine (zz_up_ne ?_).trans ?_ <;> first | assumption | exact zz_up_eq _ _ _ | omega | exact Ne.symm (by assumption) | (refine (zz_up_ne ?_).trans ?_ <;> first | assumption | exact zz_up_eq _ _ _ | omega | exact Ne.symm (by assumption))))) (by omega) ?_
          have hc2 := hch (st k + i) (by omega) (by omega)
          refine zj_creturn dk_103_48 rfl (by omega) ⟨by unfold pc_ch; first | rw [if_pos (by omega)] | rw [if_neg (by omega)], rfl, rfl⟩
        · skip
          refine zj_iconst dk_103_33 ?_
          refine zj_creturn dk_103_34 rfl (by omega) ⟨by unfold pc_ch; first | rw [if_pos (by omega)] | rw [if_neg (by omega)], rfl, rfl⟩

theorem pc_ln_rg {ch st en : Int → Int} {sz : Int} (hok : pc_ok ch st en sz) (k : Int) : 0 ≤ pc_ln st en sz k ∧ pc_ln st en sz k ≤ 40 := by
  obtain ⟨hz, hse, hch⟩ := hok
  unfold pc_ln
  split
  · have := hse k (by omega) (by omega)
    omega
  · omega
theorem pc_ch_rg {ch st en : Int → Int} {sz : Int} (hok : pc_ok ch st en sz) (k i : Int) : 0 ≤ pc_ch ch st en sz k i ∧ pc_ch ch st en sz k i < 65536 := by
  obtain ⟨hz, hse, hch⟩ := hok
  unfold pc_ch
  split
  · have := hse k (by omega) (by omega)
    exact hch _ (by omega) (by omega)
  · omega
theorem ct_101 {X : zz_X} {d n : Nat} {h : zz_H} (hd : 1 ≤ d) {p : Nat} {ch st en : Int → Int} {bg wr sz : Int} (g0 : h p = some (.inr (2, [.ref (p + 1), .ref (p + 2), .ref (p + 3), zv bg, zv wr, zv sz]))) (g1 : h (p + 1) = some (zA 1 40 ch)) (g2 : h (p + 2) = some (zA 0 20 st)) (g3 : h (p + 3) = some (zA 0 20 en)) (hok : pc_ok ch st en sz) {k : Int} (hk : -2147483648 ≤ k ∧ k < 2147483648) : zz_Ct X mm_101 d 0 0 [.ref p, zv k] n h (zp (some (zv (if pc_ln st en sz k = 2 ∧ pc_ch ch st en sz k 0 = 42 ∧ pc_ch ch st en sz k 1 = 42 then 1 else 0))) n h) := by
  refine zz_start (by decide) (ls := [some (.ref p), some (zv k)]) rfl ?_
  have q1 := pc_ln_rg hok k
  have q2 := pc_ch_rg hok k 0
  have q3 := pc_ch_rg hok k 1
  refine zi_aload_n dk_101_0 rfl rfl ?_
  refine zj_iload_n dk_101_1 rfl ?_
  refine zi_invV dk_101_2 ml_2_36 iv_102 (ct_102 (d := d - 1) g0 g1 g2 g3 hok hk) (by first | assumption | exact zz_up_eq _ _ _ | omega | exact Ne.symm (by assumption) | (refine (zz_up_ne ?_).trans ?_ <;> first | assumption | exact zz_up_eq _ _ _ | omega | exact Ne.symm (by assumption) | (refine (zz_up_ne ?_).trans ?_ <;> first | assumption | exact zz_up_eq _ _ _ | omega | exact Ne.symm (by assumption) | (refine (zz_up_ne ?_).trans ?_ <;> first | assumption | exact zz_up_eq _ _ _ | omega | exact Ne.symm (by assumption))))) rfl rfl rfl (Nat.le_of_ble_eq_true rfl) (by omega) rfl rfl (fun r n' h' hq => ?_)
  obtain ⟨rfl, rfl, rfl⟩ := hq
  refine zj_iconst dk_101_5 ?_
  refine zj_icmp_ne (t := 35) dk_101_6 rfl (by omega) (fun c6 => ?_) (fun c6 => ?_)
  · skip
    refine zj_iconst dk_101_35 ?_
    refine zj_zreturn dk_101_36 rfl (by omega) ⟨by first | rw [if_pos (by omega)] | rw [if_neg (by omega)], rfl, rfl⟩
  · skip
    refine zi_aload_n dk_101_9 rfl rfl ?_
    refine zj_iload_n dk_101_10 rfl ?_
    refine zj_iconst dk_101_11 ?_
    refine zi_invV dk_101_12 ml_2_40 iv_103 (ct_103 (d := d - 1) g0 g1 g2 g3 hok hk (by omega)) (by first | assumption | exact zz_up_eq _ _ _ | omega | exact Ne.symm (by assumption) | (refine (zz_up_ne ?_).trans ?_ <;> first | assumption | exact zz_up_eq _ _ _ | omega | exact Ne.symm (by assumption) | (refine (zz_up_ne ?_).trans ?_ <;> first | assumption | exact zz_up_eq _ _ _ | omega | exact Ne.symm (by assumption) | (refine (zz_up_ne ?_).trans ?_ <;> first | assumption | exact zz_up_eq _ _ _ | omega | exact Ne.symm (by assumption))))) rfl rfl rfl (Nat.le_of_ble_eq_true rfl) (by omega) rfl rfl (fun r n' h' hq => ?_)
    obtain ⟨rfl, rfl, rfl⟩ := hq
    refine zj_bipush dk_101_15 (by decide) ?_
    refine zj_icmp_ne (t := 35) dk_101_17 rfl (by omega) (fun c17 => ?_) (fun c17 => ?_)
    · skip
      refine zj_iconst dk_101_35 ?_
      refine zj_zreturn dk_101_36 rfl (by omega) ⟨by first | rw [if_pos (by omega)] | rw [if_neg (by omega)], rfl, rfl⟩
    · skip
      refine zi_aload_n dk_101_20 rfl rfl ?_
      refine zj_iload_n dk_101_21 rfl ?_
      refine zj_iconst dk_101_22 ?_
      refine zi_invV dk_101_23 ml_2_40 iv_103 (ct_103 (d := d - 1) g0 g1 g2 g3 hok hk (by omega)) (by first | assumption | exact zz_up_eq _ _ _ | omega | exact Ne.symm (by assumption) | (refine (zz_up_ne ?_).trans ?_ <;> first | assumption | exact zz_up_eq _ _ _ | omega | exact Ne.symm (by assumption) | (refine (zz_up_ne ?_).trans ?_ <;> first | assumption | exact zz_up_eq _ _ _ | omega | exact Ne.symm (by assumption) | (refine (zz_up_ne ?_).trans ?_ <;> first | assumption | exact zz_up_eq _ _ _ | omega | exact Ne.symm (by assumption))))) rfl rfl rfl (Nat.le_of_ble_eq_true rfl) (by omega) rfl rfl (fun r n' h' hq => ?_)
      obtain ⟨rfl, rfl, rfl⟩ := hq
      refine zj_bipush dk_101_26 (by decide) ?_
      refine zj_icmp_ne (t := 35) dk_101_28 rfl (by omega) (fun c28 => ?_) (fun c28 => ?_)
      · skip
        refine zj_iconst dk_101_35 ?_
        refine zj_zreturn dk_101_36 rfl (by omega) ⟨by first | rw [if_pos (by omega)] | rw [if_neg (by omega)], rfl, rfl⟩
      · skip
        refine zj_iconst dk_101_31 ?_
        refine zi_goto (t := 36) dk_101_32 rfl ?_
        refine zj_zreturn dk_101_36 rfl (by omega) ⟨by first | rw [if_pos (by omega)] | rw [if_neg (by omega)], rfl, rfl⟩

