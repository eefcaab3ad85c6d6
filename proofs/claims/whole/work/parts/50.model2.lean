/-! the model: users, sessions, series, types -/
abbrev mlv (V : Nat → Int) (B : Nat → Int → Int) (s : Int) : Prop := B 8 s = 1 ∧ V 1 - B 12 s ≤ 60 ∧ V 1 - B 13 s ≤ 20
def md_R (V : Nat → Int) (B : Nat → Int → Int) : Prop := (0 ≤ V 1 ∧ V 1 ≤ 1000000) ∧ ∀ s, 0 ≤ s → s < 12 → (B 8 s = 0 ∨ B 8 s = 1) ∧ (0 ≤ B 9 s ∧ B 9 s ≤ 1000000) ∧ (0 ≤ B 10 s ∧ B 10 s ≤ 1000000) ∧ (B 11 s = 0 ∨ B 11 s = 1) ∧ (0 ≤ B 12 s ∧ B 12 s ≤ 1000000) ∧ (0 ≤ B 13 s ∧ B 13 s ≤ 1000000) ∧ (B 14 s = 0 ∨ B 14 s = 1) ∧ (0 ≤ B 15 s ∧ B 15 s ≤ 1000000) ∧ (0 ≤ B 16 s ∧ B 16 s ≤ 1000000)
theorem md_R.lv {V : Nat → Int} {B : Nat → Int → Int} (R : md_R V B) {s : Int} (hs : 0 ≤ s ∧ s < 12) : (B 8 s = 0 ∨ B 8 s = 1) ∧ ((0 ≤ V 1 ∧ V 1 ≤ 1000000) ∧ (0 ≤ B 12 s ∧ B 12 s ≤ 1000000) ∧ (0 ≤ B 13 s ∧ B 13 s ≤ 1000000)) := by
  obtain ⟨r1, r2, r3, r4, r5, r6, r7⟩ := R.2 s hs.1 hs.2
  exact ⟨r1, R.1, r5, r6⟩
def sb_run (P : Int → Bool) : Nat → Int → Int → Int
  | 0, _, f => f
  | k + 1, s, f => sb_run P k (s + 1) (if P s = true then s else f)
theorem zb_div2 : ∀ s : Nat, s < 12 → zb_div ((s : Nat) : Int) 2 = ((s / 2 : Nat) : Int) := by decide +kernel
theorem zb_div2i {s : Int} (hs : 0 ≤ s ∧ s < 12) : zb_div s 2 = s / 2 := by
  obtain ⟨k, rfl⟩ := Int.eq_ofNat_of_zero_le hs.1
  rw [zb_div2 k (by omega)]
  rfl
def ms_of (V : Nat → Int) (B : Nat → Int → Int) (u : Int) : Int := if ¬ mlv V B (2 * u) then 2 * u else if ¬ mlv V B (2 * u + 1) then 2 * u + 1 else if B 13 (2 * u) < B 13 (2 * u + 1) ∨ (B 13 (2 * u) = B 13 (2 * u + 1) ∧ B 9 (2 * u) < B 9 (2 * u + 1)) then 2 * u else 2 * u + 1
def mk_B (B : Nat → Int → Int) (s d re t : Int) : Nat → Int → Int := va_up (va_up (va_up (va_up (va_up (va_up B 8 (zU (B 8) s 1)) 9 (zU (B 9) s (d + 1))) 10 (zU (B 10) s (d + 2))) 11 (zU (B 11) s re)) 12 (zU (B 12) s t)) 13 (zU (B 13) s t)
def mt_of (B : Nat → Int → Int) (u : Int) : Int := if B 14 (2 * u) = 0 then 2 * u else if B 14 (2 * u + 1) = 0 then 2 * u + 1 else if B 15 (2 * u) < B 15 (2 * u + 1) then 2 * u else 2 * u + 1
def mt_B (B : Nat → Int → Int) (s d : Int) : Nat → Int → Int := va_up (va_up (va_up B 14 (zU (B 14) s 1)) 15 (zU (B 15) s (d + 1))) 16 (zU (B 16) s (d + 2))
theorem lp_138 {X : zz_X} {d n : Nat} {h : zz_H} {pw sch salt N : Int} (hN : 0 ≤ N ∧ N ≤ 9) {Q : Option Value → Nat → zz_H → Prop} : ∀ (k : Nat) (i x : Int), i + k = N → 0 ≤ i → Q (some (zv (hs_run pw k x))) n h →
    zz_Z X mm_138 d Q 0 0 17 [some (zv pw), some (zv sch), some (zv salt), some (zv x), some (zv N), some (zv i)] [] n h := by
  intro k
  induction k with
  | zero =>
    intro i x hk hi hQ
    refine zj_iload dk_138_17 rfl ?_
    refine zj_iload dk_138_19 rfl ?_
    refine zj_icmp_ge (t := 42) dk_138_21 rfl (by omega) (fun c21 => ?_) (fun c21 => ?_)
    · skip
      refine zj_iload_n dk_138_42 rfl ?_
      refine zj_ireturn dk_138_43 rfl hQ
    · omega
  | succ k ih =>
    intro i x hk hi hQ
    refine zj_iload dk_138_17 rfl ?_
    refine zj_iload dk_138_19 rfl ?_
    refine zj_icmp_ge (t := 42) dk_138_21 rfl (by omega) (fun c21 => ?_) (fun c21 => ?_)
    · omega
    · skip
      refine zj_bipush dk_138_24 (by decide) ?_
      refine zj_iload_n dk_138_26 rfl ?_
      refine zj_imul dk_138_27 ?_
      refine zj_iload_n dk_138_28 rfl ?_
      refine zj_iadd dk_138_29 ?_
      refine zj_iload_n dk_138_30 rfl ?_
      refine zj_bipush dk_138_31 (by decide) ?_
      refine zj_iushr dk_138_33 ?_
      refine zj_ixor dk_138_34 ?_
      refine zj_istore_n dk_138_35 rfl ?_
      refine zj_iinc dk_138_36 rfl rfl ?_
      refine zi_goto (t := 17) dk_138_39 rfl ?_
      exact ih (i + 1) _ (by omega) (by omega) hQ

theorem ct_138 {X : zz_X} {d n : Nat} {h : zz_H} {pw sch salt : Int} (hs : -2147483648 ≤ sch ∧ sch < 2147483648) : zz_Ct X mm_138 d 0 0 [zv pw, zv sch, zv salt] n h (zp (some (zv (hs_of pw sch salt))) n h) := by
  refine zz_start (by decide) (ls := [some (zv pw), some (zv sch), some (zv salt), none, none, none]) rfl ?_
  refine zj_iload_n dk_138_0 rfl ?_
  refine zj_istore_n dk_138_1 rfl ?_
  refine zj_iload_n dk_138_2 rfl ?_
  refine zj_if_ne (t := 10) dk_138_3 rfl (by omega) (fun c3 => ?_) (fun c3 => ?_)
  · skip
    refine zj_bipush dk_138_10 (by decide) ?_
    refine zj_istore dk_138_12 rfl ?_
    refine zj_iconst dk_138_14 ?_
    refine zj_istore dk_138_15 rfl ?_
    exact lp_138 (by omega) 9 0 salt (by omega) (by omega) ⟨by unfold hs_of; rw [if_neg c3], rfl, rfl⟩
  · skip
    refine zj_iconst dk_138_6 ?_
    refine zi_goto (t := 12) dk_138_7 rfl ?_
    refine zj_istore dk_138_12 rfl ?_
    refine zj_iconst dk_138_14 ?_
    refine zj_istore dk_138_15 rfl ?_
    exact lp_138 (by omega) 4 0 salt (by omega) (by omega) ⟨by unfold hs_of; rw [if_pos c3], rfl, rfl⟩

theorem ct_136 {X : zz_X} {d n : Nat}  (hd : 1 ≤ d) {m : Nat} {V : Nat → Int} {B : Nat → Int → Int} {h0 : zz_H} {pw rl sc : Int} (hrl : -2147483648 ≤ rl ∧ rl < 2147483648) (hsc : -2147483648 ≤ sc ∧ sc < 2147483648) (hs : 0 ≤ V 8 ∧ V 8 ≤ 6) : zz_Ct X mm_136 d 0 0 [.ref m, zv pw, zv rl, zv sc] n (md_H m V B h0) (fun r n' h' => n' = n ∧ ((¬ (V 8 < 6 ∧ (0 ≤ rl ∧ rl ≤ 255) ∧ (sc = 0 ∨ sc = 1)) ∧ r = some (zv (-1)) ∧ h' = md_H m V B h0) ∨ ((V 8 < 6 ∧ (0 ≤ rl ∧ rl ≤ 255) ∧ (sc = 0 ∨ sc = 1)) ∧ r = some (zv (V 8)) ∧ h' = md_H m (va_up (va_up V 0 (V 0 + 1)) 8 (V 8 + 1)) (va_up (va_up (va_up (va_up B 2 (zU (B 2) (V 8) rl)) 3 (zU (B 3) (V 8) sc)) 4 (zU (B 4) (V 8) (V 0 + 1))) 5 (zU (B 5) (V 8) (hs_of pw sc (V 0 + 1)))) h0))) := by
  refine zz_start (by decide) (ls := [some (.ref m), some (zv pw), some (zv rl), some (zv sc)]) rfl ?_
  refine zi_aload_n dk_136_0 rfl rfl ?_
  refine zi_getf dk_136_1 fl_13_181 md_0 rfl ?_
  refine zj_bipush dk_136_4 (by decide) ?_
  refine zj_icmp_eq (t := 29) dk_136_6 rfl (by omega) (fun c6 => ?_) (fun c6 => ?_)
  · skip
    refine zj_iconst dk_136_29 ?_
    refine zj_ireturn dk_136_30 rfl ⟨rfl, Or.inl ⟨by omega, rfl, rfl⟩⟩
  · skip
    refine zj_iload_n dk_136_9 rfl ?_
    refine zj_if_lt (t := 29) dk_136_10 rfl (by omega) (fun c10 => ?_) (fun c10 => ?_)
    · skip
      refine zj_iconst dk_136_29 ?_
      refine zj_ireturn dk_136_30 rfl ⟨rfl, Or.inl ⟨by omega, rfl, rfl⟩⟩
    · skip
      refine zj_iload_n dk_136_13 rfl ?_
      refine zj_sipush dk_136_14 (by decide) ?_
      refine zj_icmp_gt (t := 29) dk_136_17 rfl (by omega) (fun c17 => ?_) (fun c17 => ?_)
      · skip
        refine zj_iconst dk_136_29 ?_
        refine zj_ireturn dk_136_30 rfl ⟨rfl, Or.inl ⟨by omega, rfl, rfl⟩⟩
      · skip
        refine zj_iload_n dk_136_20 rfl ?_
        refine zj_if_lt (t := 29) dk_136_21 rfl (by omega) (fun c21 => ?_) (fun c21 => ?_)
        · skip
          refine zj_iconst dk_136_29 ?_
          refine zj_ireturn dk_136_30 rfl ⟨rfl, Or.inl ⟨by omega, rfl, rfl⟩⟩
        · skip
          refine zj_iload_n dk_136_24 rfl ?_
          refine zj_iconst dk_136_25 ?_
          refine zj_icmp_le (t := 31) dk_136_26 rfl (by omega) (fun c26 => ?_) (fun c26 => ?_)
          · skip
            refine zi_aload_n dk_136_31 rfl rfl ?_
            refine zi_getf dk_136_32 fl_13_13 md_0 rfl ?_
            refine zi_aload_n dk_136_35 rfl rfl ?_
            refine zi_getf dk_136_36 fl_13_181 md_0 rfl ?_
            refine zj_iload_n dk_136_39 rfl ?_
            refine md_iast (k := 2) (N := 6) dk_136_40 (by decide) rfl rfl (by omega) ?_
            refine zi_aload_n dk_136_41 rfl rfl ?_
            refine zi_getf dk_136_42 fl_13_16 md_0 rfl ?_
            refine zi_aload_n dk_136_45 rfl rfl ?_
            refine zi_getf dk_136_46 fl_13_181 md_0 rfl ?_
            refine zj_iload_n dk_136_49 rfl ?_
            refine md_iast (k := 3) (N := 6) dk_136_50 (by decide) rfl rfl (by omega) ?_
            refine zi_aload_n dk_136_51 rfl rfl ?_
            refine zi_getf dk_136_52 fl_13_19 md_0 rfl ?_
            refine zi_aload_n dk_136_55 rfl rfl ?_
            refine zi_getf dk_136_56 fl_13_181 md_0 rfl ?_
            refine zi_aload_n dk_136_59 rfl rfl ?_
            refine zi_invV dk_136_60 ml_13_184 iv_137 (ct_137 (d := d - 1)) md_0 rfl rfl rfl (Nat.le_of_ble_eq_true rfl) (by omega) rfl rfl (fun r n' h' hq => ?_)
            obtain ⟨rfl, rfl, rfl⟩ := hq
            refine md_iast (k := 4) (N := 6) dk_136_63 (by decide) rfl rfl (by omega) ?_
            have e8 : va_up V 0 (V 0 + 1) 8 = V 8 := rfl
            refine zi_aload_n dk_136_64 rfl rfl ?_
            refine zi_getf dk_136_65 fl_13_22 md_0 rfl ?_
            refine zi_aload_n dk_136_68 rfl rfl ?_
            refine zi_getf dk_136_69 fl_13_181 md_0 rfl ?_
            refine zj_iload_n dk_136_72 rfl ?_
            refine zj_iload_n dk_136_73 rfl ?_
            refine zi_aload_n dk_136_74 rfl rfl ?_
            refine zi_getf dk_136_75 fl_13_19 md_0 rfl ?_
            refine zi_aload_n dk_136_78 rfl rfl ?_
            refine zi_getf dk_136_79 fl_13_181 md_0 rfl ?_
            refine md_iald (k := 4) (N := 6) dk_136_82 (by decide) rfl rfl (by omega) ?_
            rw [show va_up (va_up (va_up B 2 (zU (B 2) (V 8) rl)) 3 (zU (va_up B 2 (zU (B 2) (V 8) rl) 3) (V 8) sc)) 4 (zU (va_up (va_up B 2 (zU (B 2) (V 8) rl)) 3 (zU (va_up B 2 (zU (B 2) (V 8) rl) 3) (V 8) sc) 4) (V 8) (V 0 + 1)) 4 (va_up V 0 (V 0 + 1) 8) = V 0 + 1 from zU_eq _ _ _]
            refine zi_invS dk_136_83 ml_13_188 is_138 (ct_138 (d := d - 1) hsc) rfl rfl (Nat.le_of_ble_eq_true rfl) (by omega) rfl rfl (fun r n' h' hq => ?_)
            obtain ⟨rfl, rfl, rfl⟩ := hq
            refine md_iast (k := 5) (N := 6) dk_136_86 (by decide) rfl rfl (by omega) ?_
            refine zi_aload_n dk_136_87 rfl rfl ?_
            refine zi_dup dk_136_88 rfl ?_
            refine zi_getf dk_136_89 fl_13_181 md_0 rfl ?_
            refine zj_iconst dk_136_92 ?_
            refine zj_iadd dk_136_93 ?_
            refine md_putI dk_136_94 fp_136_181 md_s8 ?_
            refine zi_aload_n dk_136_97 rfl rfl ?_
            refine zi_getf dk_136_98 fl_13_181 md_0 rfl ?_
            refine zj_iconst dk_136_101 ?_
            refine zj_isub dk_136_102 ?_
            refine zj_ireturn dk_136_103 rfl ⟨rfl, Or.inr ⟨by omega, by congr 2; show V 8 + 1 - 1 = V 8; omega, rfl⟩⟩
          · skip
            refine zj_iconst dk_136_29 ?_
            refine zj_ireturn dk_136_30 rfl ⟨rfl, Or.inl ⟨by omega, rfl, rfl⟩⟩

theorem lp_141 {X : zz_X} {d n : Nat} (hd : 1 ≤ d) {m : Nat} {V : Nat → Int} {B : Nat → Int → Int} {h0 : zz_H} (R : md_R V B) {id : Int} (hid : -2147483648 ≤ id ∧ id < 2147483648) {Q : Option Value → Nat → zz_H → Prop} : ∀ (k : Nat) (i f : Int), i + k = 12 → 0 ≤ i → Q (some (zv (sb_run (fun s => decide (mlv V B s ∧ B 9 s = id)) k i f))) n (md_H m V B h0) →
    zz_Z X mm_141 d Q 0 0 4 [some (.ref m), some (zv id), some (zv f), some (zv i)] [] n (md_H m V B h0) := by
  intro k
  induction k with
  | zero =>
    intro i f hk hi hQ
    refine zj_iload_n dk_141_4 rfl ?_
    refine zj_bipush dk_141_5 (by decide) ?_
    refine zj_icmp_ge (t := 40) dk_141_7 rfl (by omega) (fun c7 => ?_) (fun c7 => ?_)
    · skip
      refine zj_iload_n dk_141_40 rfl ?_
      refine zj_ireturn dk_141_41 rfl hQ
    · omega
  | succ k ih =>
    intro i f hk hi hQ
    obtain ⟨r1, r2, r3, r4, r5, r6, r7, r8, r9⟩ := R.2 i hi (by omega)
    unfold sb_run at hQ
    refine zj_iload_n dk_141_4 rfl ?_
    refine zj_bipush dk_141_5 (by decide) ?_
    refine zj_icmp_ge (t := 40) dk_141_7 rfl (by omega) (fun c7 => ?_) (fun c7 => ?_)
    · omega
    · skip
      refine zi_aload_n dk_141_10 rfl rfl ?_
      refine zj_iload_n dk_141_11 rfl ?_
      refine zi_invV dk_141_12 ml_13_195 iv_142 (ct_142 (d := d - 1) (by omega) r1 ⟨R.1, r5, r6⟩) md_0 rfl rfl rfl (Nat.le_of_ble_eq_true rfl) (by omega) rfl rfl (fun r n' h' hq => ?_)
      obtain ⟨rfl, rfl, rfl⟩ := hq
      refine zj_if_eq (t := 32) dk_141_15 rfl (by split <;> omega) (fun c15 => ?_) (fun c15 => ?_)
      · skip
        refine zj_iload_n dk_141_32 rfl ?_
        refine zj_istore_n dk_141_33 rfl ?_
        refine zj_iinc dk_141_34 rfl rfl ?_
        refine zi_goto (t := 4) dk_141_37 rfl ?_
        exact ih (i + 1) _ (by omega) (by omega) (by rw [decide_eq_false (fun hh => by rw [if_pos hh.1] at c15; omega), if_neg (by decide)] at hQ; exact hQ)
      · skip
        refine zi_aload_n dk_141_18 rfl rfl ?_
        refine zi_getf dk_141_19 fl_13_35 md_0 rfl ?_
        refine zj_iload_n dk_141_22 rfl ?_
        refine md_iald (k := 9) (N := 12) dk_141_23 (by decide) rfl rfl (by omega) ?_
        refine zj_iload_n dk_141_24 rfl ?_
        refine zj_icmp_ne (t := 32) dk_141_25 rfl (by omega) (fun c25 => ?_) (fun c25 => ?_)
        · skip
          refine zj_iload_n dk_141_32 rfl ?_
          refine zj_istore_n dk_141_33 rfl ?_
          refine zj_iinc dk_141_34 rfl rfl ?_
          refine zi_goto (t := 4) dk_141_37 rfl ?_
          exact ih (i + 1) _ (by omega) (by omega) (by rw [decide_eq_false (fun hh => c25 hh.2), if_neg (by decide)] at hQ; exact hQ)
        · skip
          refine zj_iload_n dk_141_28 rfl ?_
          refine zi_goto (t := 33) dk_141_29 rfl ?_
          refine zj_istore_n dk_141_33 rfl ?_
          refine zj_iinc dk_141_34 rfl rfl ?_
          refine zi_goto (t := 4) dk_141_37 rfl ?_
          exact ih (i + 1) _ (by omega) (by omega) (by rw [decide_eq_true (⟨by split at c15 <;> first | assumption | omega, c25⟩), if_pos rfl] at hQ; exact hQ)

theorem ct_141 {X : zz_X} {d n : Nat}  (hd : 1 ≤ d) {m : Nat} {V : Nat → Int} {B : Nat → Int → Int} {h0 : zz_H} (R : md_R V B) {id : Int} (hid : -2147483648 ≤ id ∧ id < 2147483648) : zz_Ct X mm_141 d 0 0 [.ref m, zv id] n (md_H m V B h0) (zp (some (zv (sb_run (fun s => decide (mlv V B s ∧ B 9 s = id)) 12 0 (-1)))) n (md_H m V B h0)) := by
  refine zz_start (by decide) (ls := [some (.ref m), some (zv id), none, none]) rfl ?_
  refine zj_iconst dk_141_0 ?_
  refine zj_istore_n dk_141_1 rfl ?_
  refine zj_iconst dk_141_2 ?_
  refine zj_istore_n dk_141_3 rfl ?_
  exact lp_141 hd R hid 12 0 (-1) (by omega) (by omega) ⟨rfl, rfl, rfl⟩

theorem lp_162 {X : zz_X} {d n : Nat} (hd : 1 ≤ d) {m : Nat} {V : Nat → Int} {B : Nat → Int → Int} {h0 : zz_H} (R : md_R V B) {id : Int} (hid : -2147483648 ≤ id ∧ id < 2147483648) {Q : Option Value → Nat → zz_H → Prop} : ∀ (k : Nat) (i f : Int), i + k = 12 → 0 ≤ i → Q (some (zv (sb_run (fun s => decide (B 14 s = 1 ∧ B 15 s = id)) k i f))) n (md_H m V B h0) →
    zz_Z X mm_162 d Q 0 0 4 [some (.ref m), some (zv id), some (zv f), some (zv i)] [] n (md_H m V B h0) := by
  intro k
  induction k with
  | zero =>
    intro i f hk hi hQ
    refine zj_iload_n dk_162_4 rfl ?_
    refine zj_bipush dk_162_5 (by decide) ?_
    refine zj_icmp_ge (t := 41) dk_162_7 rfl (by omega) (fun c7 => ?_) (fun c7 => ?_)
    · skip
      refine zj_iload_n dk_162_41 rfl ?_
      refine zj_ireturn dk_162_42 rfl hQ
    · omega
  | succ k ih =>
    intro i f hk hi hQ
    obtain ⟨r1, r2, r3, r4, r5, r6, r7, r8, r9⟩ := R.2 i hi (by omega)
    unfold sb_run at hQ
    refine zj_iload_n dk_162_4 rfl ?_
    refine zj_bipush dk_162_5 (by decide) ?_
    refine zj_icmp_ge (t := 41) dk_162_7 rfl (by omega) (fun c7 => ?_) (fun c7 => ?_)
    · omega
    · skip
      refine zi_aload_n dk_162_10 rfl rfl ?_
      refine zi_getf dk_162_11 fl_13_50 md_0 rfl ?_
      refine zj_iload_n dk_162_14 rfl ?_
      refine md_zald (k := 14) (N := 12) dk_162_15 (by decide) rfl rfl (by omega) ?_
      refine zj_if_eq (t := 33) dk_162_16 rfl (by omega) (fun c16 => ?_) (fun c16 => ?_)
      · skip
        refine zj_iload_n dk_162_33 rfl ?_
        refine zj_istore_n dk_162_34 rfl ?_
        refine zj_iinc dk_162_35 rfl rfl ?_
        refine zi_goto (t := 4) dk_162_38 rfl ?_
        exact ih (i + 1) _ (by omega) (by omega) (by rw [decide_eq_false (fun hh => by omega), if_neg (by decide)] at hQ; exact hQ)
      · skip
        refine zi_aload_n dk_162_19 rfl rfl ?_
        refine zi_getf dk_162_20 fl_13_53 md_0 rfl ?_
        refine zj_iload_n dk_162_23 rfl ?_
        refine md_iald (k := 15) (N := 12) dk_162_24 (by decide) rfl rfl (by omega) ?_
        refine zj_iload_n dk_162_25 rfl ?_
        refine zj_icmp_ne (t := 33) dk_162_26 rfl (by omega) (fun c26 => ?_) (fun c26 => ?_)
        · skip
          refine zj_iload_n dk_162_33 rfl ?_
          refine zj_istore_n dk_162_34 rfl ?_
          refine zj_iinc dk_162_35 rfl rfl ?_
          refine zi_goto (t := 4) dk_162_38 rfl ?_
          exact ih (i + 1) _ (by omega) (by omega) (by rw [decide_eq_false (fun hh => c26 hh.2), if_neg (by decide)] at hQ; exact hQ)
        · skip
          refine zj_iload_n dk_162_29 rfl ?_
          refine zi_goto (t := 34) dk_162_30 rfl ?_
          refine zj_istore_n dk_162_34 rfl ?_
          refine zj_iinc dk_162_35 rfl rfl ?_
          refine zi_goto (t := 4) dk_162_38 rfl ?_
          exact ih (i + 1) _ (by omega) (by omega) (by rw [decide_eq_true (⟨by omega, c26⟩), if_pos rfl] at hQ; exact hQ)

theorem ct_162 {X : zz_X} {d n : Nat}  (hd : 1 ≤ d) {m : Nat} {V : Nat → Int} {B : Nat → Int → Int} {h0 : zz_H} (R : md_R V B) {id : Int} (hid : -2147483648 ≤ id ∧ id < 2147483648) : zz_Ct X mm_162 d 0 0 [.ref m, zv id] n (md_H m V B h0) (zp (some (zv (sb_run (fun s => decide (B 14 s = 1 ∧ B 15 s = id)) 12 0 (-1)))) n (md_H m V B h0)) := by
  refine zz_start (by decide) (ls := [some (.ref m), some (zv id), none, none]) rfl ?_
  refine zj_iconst dk_162_0 ?_
  refine zj_istore_n dk_162_1 rfl ?_
  refine zj_iconst dk_162_2 ?_
  refine zj_istore_n dk_162_3 rfl ?_
  exact lp_162 hd R hid 12 0 (-1) (by omega) (by omega) ⟨rfl, rfl, rfl⟩

theorem va_up_up {α : Type} (f : Nat → α) (k : Nat) (x y : α) : va_up (va_up f k x) k y = va_up f k y := by
  funext j
  unfold va_up
  split <;> rfl
theorem ct_143 {X : zz_X} {d n : Nat}  (hd : 2 ≤ d) {m : Nat} {V : Nat → Int} {B : Nat → Int → Int} {h0 : zz_H} (R : md_R V B) {u re : Int} (hu : 0 ≤ u ∧ u ≤ 5) (hre : re = 0 ∨ re = 1) : zz_Ct X mm_143 d 0 0 [.ref m, zv u, zv re] n (md_H m V B h0) (zp (some (zv (ms_of V B u))) n (md_H m (va_up V 0 (V 0 + 2)) (mk_B B (ms_of V B u) (V 0) re (V 1)) h0)) := by
  refine zz_start (by decide) (ls := [some (.ref m), some (zv u), some (zv re), none, none, none, none]) rfl ?_
  obtain ⟨a1, a2, a3, a4, a5, a6, a7⟩ := R.2 (2 * u) (by omega) (by omega)
  obtain ⟨b1, b2, b3, b4, b5, b6, b7⟩ := R.2 (2 * u + 1) (by omega) (by omega)
  have key : ∀ (x5 s : Int), (0 ≤ s ∧ s < 12) → s = ms_of V B u → zz_Z X mm_143 d (zp (some (zv (ms_of V B u))) n (md_H m (va_up V 0 (V 0 + 2)) (mk_B B (ms_of V B u) (V 0) re (V 1)) h0)) 0 0 103 [some (.ref m), some (zv u), some (zv re), some (zv (2 * u)), some (zv (2 * u + 1)), some (zv x5), some (zv s)] [] n (md_H m V B h0) := by
    intro x5 s hs hms
    rw [← hms]
    refine zi_aload_n dk_143_103 rfl rfl ?_
    refine zi_getf dk_143_104 fl_13_31 md_0 rfl ?_
    refine zj_iload dk_143_107 rfl ?_
    refine zj_iconst dk_143_109 ?_
    refine md_zast (k := 8) (N := 12) dk_143_110 (by decide) rfl rfl (by omega) (by omega) ?_
    refine zi_aload_n dk_143_111 rfl rfl ?_
    refine zi_getf dk_143_112 fl_13_35 md_0 rfl ?_
    refine zj_iload dk_143_115 rfl ?_
    refine zi_aload_n dk_143_117 rfl rfl ?_
    refine zi_invV dk_143_118 ml_13_184 iv_137 (ct_137 (d := d - 1)) md_0 rfl rfl rfl (Nat.le_of_ble_eq_true rfl) (by omega) rfl rfl (fun r n' h' hq => ?_)
    obtain ⟨rfl, rfl, rfl⟩ := hq
    refine md_iast (k := 9) (N := 12) dk_143_121 (by decide) rfl rfl (by omega) ?_
    refine zi_aload_n dk_143_122 rfl rfl ?_
    refine zi_getf dk_143_123 fl_13_38 md_0 rfl ?_
    refine zj_iload dk_143_126 rfl ?_
    refine zi_aload_n dk_143_128 rfl rfl ?_
    refine zi_invV dk_143_129 ml_13_184 iv_137 (ct_137 (d := d - 1)) md_0 rfl rfl rfl (Nat.le_of_ble_eq_true rfl) (by omega) rfl rfl (fun r n' h' hq => ?_)
    obtain ⟨rfl, rfl, rfl⟩ := hq
    refine md_iast (k := 10) (N := 12) dk_143_132 (by decide) rfl rfl (by omega) ?_
    refine zi_aload_n dk_143_133 rfl rfl ?_
    refine zi_getf dk_143_134 fl_13_41 md_0 rfl ?_
    refine zj_iload dk_143_137 rfl ?_
    refine zj_iload_n dk_143_139 rfl ?_
    refine md_zast (k := 11) (N := 12) dk_143_140 (by decide) rfl rfl (by omega) (by omega) ?_
    refine zi_aload_n dk_143_141 rfl rfl ?_
    refine zi_getf dk_143_142 fl_13_44 md_0 rfl ?_
    refine zj_iload dk_143_145 rfl ?_
    refine zi_aload_n dk_143_147 rfl rfl ?_
    refine zi_getf dk_143_148 fl_13_192 md_0 rfl ?_
    refine md_iast (k := 12) (N := 12) dk_143_151 (by decide) rfl rfl (by omega) ?_
    refine zi_aload_n dk_143_152 rfl rfl ?_
    refine zi_getf dk_143_153 fl_13_47 md_0 rfl ?_
    refine zj_iload dk_143_156 rfl ?_
    refine zi_aload_n dk_143_158 rfl rfl ?_
    refine zi_getf dk_143_159 fl_13_192 md_0 rfl ?_
    refine md_iast (k := 13) (N := 12) dk_143_162 (by decide) rfl rfl (by omega) ?_
    refine zj_iload dk_143_163 rfl ?_
    refine zj_ireturn dk_143_165 rfl ⟨rfl, rfl, by rw [show va_up V 0 (V 0 + 2) = va_up (va_up V 0 (V 0 + 1)) 0 (va_up V 0 (V 0 + 1) 0 + 1) from by rw [va_up_up, va_up_self]; congr 1; omega]; unfold mk_B; rw [show V 0 + 2 = V 0 + 1 + 1 by omega]; rfl⟩
  have key2 : ∀ (x5 : Int), x5 = (if B 13 (2 * u) < B 13 (2 * u + 1) ∨ (B 13 (2 * u) = B 13 (2 * u + 1) ∧ B 9 (2 * u) < B 9 (2 * u + 1)) then 1 else 0) → zz_Z X mm_143 d (zp (some (zv (ms_of V B u))) n (md_H m (va_up V 0 (V 0 + 2)) (mk_B B (ms_of V B u) (V 0) re (V 1)) h0)) 0 0 64 [some (.ref m), some (zv u), some (zv re), some (zv (2 * u)), some (zv (2 * u + 1)), some (zv x5), none] [] n (md_H m V B h0) := by
    intro x5 hx5
    have hx01 : x5 = 0 ∨ x5 = 1 := by split at hx5 <;> omega
    refine zi_aload_n dk_143_64 rfl rfl ?_
    refine zj_iload_n dk_143_65 rfl ?_
    refine zi_invV dk_143_66 ml_13_195 iv_142 (ct_142 (d := d - 1) (by omega) a1 ⟨R.1, a5, a6⟩) md_0 rfl rfl rfl (Nat.le_of_ble_eq_true rfl) (by omega) rfl rfl (fun r n' h' hq => ?_)
    obtain ⟨rfl, rfl, rfl⟩ := hq
    refine zj_if_ne (t := 76) dk_143_69 rfl (by split <;> omega) (fun c69 => ?_) (fun c69 => ?_)
    · skip
      refine zi_aload_n dk_143_76 rfl rfl ?_
      refine zj_iload dk_143_77 rfl ?_
      refine zi_invV dk_143_79 ml_13_195 iv_142 (ct_142 (d := d - 1) (by omega) b1 ⟨R.1, b5, b6⟩) md_0 rfl rfl rfl (Nat.le_of_ble_eq_true rfl) (by omega) rfl rfl (fun r n' h' hq => ?_)
      obtain ⟨rfl, rfl, rfl⟩ := hq
      refine zj_if_ne (t := 90) dk_143_82 rfl (by split <;> omega) (fun c82 => ?_) (fun c82 => ?_)
      · skip
        refine zj_iload dk_143_90 rfl ?_
        refine zj_if_eq (t := 99) dk_143_92 rfl (by omega) (fun c92 => ?_) (fun c92 => ?_)
        · skip
          refine zj_iload dk_143_99 rfl ?_
          refine zj_istore dk_143_101 rfl ?_
          exact key _ _ (by omega) (by unfold ms_of; rw [if_neg (fun hh => hh (by split at c69 <;> first | assumption | omega)), if_neg (fun hh => hh (by split at c82 <;> first | assumption | omega)), if_neg (fun hh => by rw [if_pos hh] at hx5; omega)])
        · skip
          refine zj_iload_n dk_143_95 rfl ?_
          refine zi_goto (t := 101) dk_143_96 rfl ?_
          refine zj_istore dk_143_101 rfl ?_
          exact key _ _ (by omega) (by unfold ms_of; rw [if_neg (fun hh => hh (by split at c69 <;> first | assumption | omega)), if_neg (fun hh => hh (by split at c82 <;> first | assumption | omega)), if_pos (by split at hx5 <;> first | assumption | omega)])
      · skip
        refine zj_iload dk_143_85 rfl ?_
        refine zi_goto (t := 101) dk_143_87 rfl ?_
        refine zj_istore dk_143_101 rfl ?_
        exact key _ _ (by omega) (by unfold ms_of; rw [if_neg (fun hh => hh (by split at c69 <;> first | assumption | omega)), if_pos (fun hh => by rw [if_pos hh] at c82; omega)])
    · skip
      refine zj_iload_n dk_143_72 rfl ?_
      refine zi_goto (t := 101) dk_143_73 rfl ?_
      refine zj_istore dk_143_101 rfl ?_
      exact key _ _ (by omega) (by unfold ms_of; rw [if_pos (fun hh => by rw [if_pos hh] at c69; omega)])
  refine zj_iconst dk_143_0 ?_
  refine zj_iload_n dk_143_1 rfl ?_
  refine zj_imul dk_143_2 ?_
  refine zj_istore_n dk_143_3 rfl ?_
  refine zj_iload_n dk_143_4 rfl ?_
  refine zj_iconst dk_143_5 ?_
  refine zj_iadd dk_143_6 ?_
  refine zj_istore dk_143_7 rfl ?_
  refine zi_aload_n dk_143_9 rfl rfl ?_
  refine zi_getf dk_143_10 fl_13_47 md_0 rfl ?_
  refine zj_iload_n dk_143_13 rfl ?_
  refine md_iald (k := 13) (N := 12) dk_143_14 (by decide) rfl rfl (by omega) ?_
  refine zi_aload_n dk_143_15 rfl rfl ?_
  refine zi_getf dk_143_16 fl_13_47 md_0 rfl ?_
  refine zj_iload dk_143_19 rfl ?_
  refine md_iald (k := 13) (N := 12) dk_143_21 (by decide) rfl rfl (by omega) ?_
  refine zj_icmp_lt (t := 57) dk_143_22 rfl (by omega) (fun c22 => ?_) (fun c22 => ?_)
  · skip
    refine zj_iconst dk_143_57 ?_
    refine zi_goto (t := 62) dk_143_58 rfl ?_
    refine zj_istore dk_143_62 rfl ?_
    exact key2 _ (by first | rw [if_pos (by omega)] | rw [if_neg (by omega)])
  · skip
    refine zi_aload_n dk_143_25 rfl rfl ?_
    refine zi_getf dk_143_26 fl_13_47 md_0 rfl ?_
    refine zj_iload_n dk_143_29 rfl ?_
    refine md_iald (k := 13) (N := 12) dk_143_30 (by decide) rfl rfl (by omega) ?_
    refine zi_aload_n dk_143_31 rfl rfl ?_
    refine zi_getf dk_143_32 fl_13_47 md_0 rfl ?_
    refine zj_iload dk_143_35 rfl ?_
    refine md_iald (k := 13) (N := 12) dk_143_37 (by decide) rfl rfl (by omega) ?_
    refine zj_icmp_ne (t := 61) dk_143_38 rfl (by omega) (fun c38 => ?_) (fun c38 => ?_)
    · skip
      refine zj_iconst dk_143_61 ?_
      refine zj_istore dk_143_62 rfl ?_
      exact key2 _ (by first | rw [if_pos (by omega)] | rw [if_neg (by omega)])
    · skip
      refine zi_aload_n dk_143_41 rfl rfl ?_
      refine zi_getf dk_143_42 fl_13_35 md_0 rfl ?_
      refine zj_iload_n dk_143_45 rfl ?_
      refine md_iald (k := 9) (N := 12) dk_143_46 (by decide) rfl rfl (by omega) ?_
      refine zi_aload_n dk_143_47 rfl rfl ?_
      refine zi_getf dk_143_48 fl_13_35 md_0 rfl ?_
      refine zj_iload dk_143_51 rfl ?_
      refine md_iald (k := 9) (N := 12) dk_143_53 (by decide) rfl rfl (by omega) ?_
      refine zj_icmp_ge (t := 61) dk_143_54 rfl (by omega) (fun c54 => ?_) (fun c54 => ?_)
      · skip
        refine zj_iconst dk_143_61 ?_
        refine zj_istore dk_143_62 rfl ?_
        exact key2 _ (by first | rw [if_pos (by omega)] | rw [if_neg (by omega)])
      · skip
        refine zj_iconst dk_143_57 ?_
        refine zi_goto (t := 62) dk_143_58 rfl ?_
        refine zj_istore dk_143_62 rfl ?_
        exact key2 _ (by first | rw [if_pos (by omega)] | rw [if_neg (by omega)])

theorem ct_144 {X : zz_X} {d n : Nat}  (hd : 1 ≤ d) {m : Nat} {V : Nat → Int} {B : Nat → Int → Int} {h0 : zz_H} (R : md_R V B) {u : Int} (hu : 0 ≤ u ∧ u ≤ 5) : zz_Ct X mm_144 d 0 0 [.ref m, zv u] n (md_H m V B h0) (zp none n (md_H m (va_up V 0 (V 0 + 2)) (mt_B B (mt_of B u) (V 0)) h0)) := by
  refine zz_start (by decide) (ls := [some (.ref m), some (zv u), none, none, none]) rfl ?_
  obtain ⟨-, -, -, -, -, -, a7, a8, a9⟩ := R.2 (2 * u) (by omega) (by omega)
  obtain ⟨-, -, -, -, -, -, b7, b8, b9⟩ := R.2 (2 * u + 1) (by omega) (by omega)
  have key : ∀ (s : Int), (0 ≤ s ∧ s < 12) → s = mt_of B u → zz_Z X mm_144 d (zp none n (md_H m (va_up V 0 (V 0 + 2)) (mt_B B (mt_of B u) (V 0)) h0)) 0 0 56 [some (.ref m), some (zv u), some (zv (2 * u)), some (zv (2 * u + 1)), some (zv s)] [] n (md_H m V B h0) := by
    intro s hs hms
    rw [← hms]
    refine zi_aload_n dk_144_56 rfl rfl ?_
    refine zi_getf dk_144_57 fl_13_50 md_0 rfl ?_
    refine zj_iload dk_144_60 rfl ?_
    refine zj_iconst dk_144_62 ?_
    refine md_zast (k := 14) (N := 12) dk_144_63 (by decide) rfl rfl (by omega) (by omega) ?_
    refine zi_aload_n dk_144_64 rfl rfl ?_
    refine zi_getf dk_144_65 fl_13_53 md_0 rfl ?_
    refine zj_iload dk_144_68 rfl ?_
    refine zi_aload_n dk_144_70 rfl rfl ?_
    refine zi_invV dk_144_71 ml_13_184 iv_137 (ct_137 (d := d - 1)) md_0 rfl rfl rfl (Nat.le_of_ble_eq_true rfl) (by omega) rfl rfl (fun r n' h' hq => ?_)
    obtain ⟨rfl, rfl, rfl⟩ := hq
    refine md_iast (k := 15) (N := 12) dk_144_74 (by decide) rfl rfl (by omega) ?_
    refine zi_aload_n dk_144_75 rfl rfl ?_
    refine zi_getf dk_144_76 fl_13_56 md_0 rfl ?_
    refine zj_iload dk_144_79 rfl ?_
    refine zi_aload_n dk_144_81 rfl rfl ?_
    refine zi_invV dk_144_82 ml_13_184 iv_137 (ct_137 (d := d - 1)) md_0 rfl rfl rfl (Nat.le_of_ble_eq_true rfl) (by omega) rfl rfl (fun r n' h' hq => ?_)
    obtain ⟨rfl, rfl, rfl⟩ := hq
    refine md_iast (k := 16) (N := 12) dk_144_85 (by decide) rfl rfl (by omega) ?_
    refine zi_return dk_144_86 rfl ⟨rfl, rfl, by rw [show va_up V 0 (V 0 + 2) = va_up (va_up V 0 (V 0 + 1)) 0 (va_up V 0 (V 0 + 1) 0 + 1) from by rw [va_up_up, va_up_self]; congr 1; omega]; unfold mt_B; rw [show V 0 + 2 = V 0 + 1 + 1 by omega]; rfl⟩
  refine zj_iconst dk_144_0 ?_
  refine zj_iload_n dk_144_1 rfl ?_
  refine zj_imul dk_144_2 ?_
  refine zj_istore_n dk_144_3 rfl ?_
  refine zj_iload_n dk_144_4 rfl ?_
  refine zj_iconst dk_144_5 ?_
  refine zj_iadd dk_144_6 ?_
  refine zj_istore_n dk_144_7 rfl ?_
  refine zi_aload_n dk_144_8 rfl rfl ?_
  refine zi_getf dk_144_9 fl_13_50 md_0 rfl ?_
  refine zj_iload_n dk_144_12 rfl ?_
  refine md_zald (k := 14) (N := 12) dk_144_13 (by decide) rfl rfl (by omega) ?_
  refine zj_if_ne (t := 21) dk_144_14 rfl (by omega) (fun c14 => ?_) (fun c14 => ?_)
  · skip
    refine zi_aload_n dk_144_21 rfl rfl ?_
    refine zi_getf dk_144_22 fl_13_50 md_0 rfl ?_
    refine zj_iload_n dk_144_25 rfl ?_
    refine md_zald (k := 14) (N := 12) dk_144_26 (by decide) rfl rfl (by omega) ?_
    refine zj_if_ne (t := 34) dk_144_27 rfl (by omega) (fun c27 => ?_) (fun c27 => ?_)
    · skip
      refine zi_aload_n dk_144_34 rfl rfl ?_
      refine zi_getf dk_144_35 fl_13_53 md_0 rfl ?_
      refine zj_iload_n dk_144_38 rfl ?_
      refine md_iald (k := 15) (N := 12) dk_144_39 (by decide) rfl rfl (by omega) ?_
      refine zi_aload_n dk_144_40 rfl rfl ?_
      refine zi_getf dk_144_41 fl_13_53 md_0 rfl ?_
      refine zj_iload_n dk_144_44 rfl ?_
      refine md_iald (k := 15) (N := 12) dk_144_45 (by decide) rfl rfl (by omega) ?_
      refine zj_icmp_ge (t := 53) dk_144_46 rfl (by omega) (fun c46 => ?_) (fun c46 => ?_)
      · skip
        refine zj_iload_n dk_144_53 rfl ?_
        refine zj_istore dk_144_54 rfl ?_
        exact key _ (by omega) (by unfold mt_of; (repeat' split) <;> omega)
      · skip
        refine zj_iload_n dk_144_49 rfl ?_
        refine zi_goto (t := 54) dk_144_50 rfl ?_
        refine zj_istore dk_144_54 rfl ?_
        exact key _ (by omega) (by unfold mt_of; (repeat' split) <;> omega)
    · skip
      refine zj_iload_n dk_144_30 rfl ?_
      refine zi_goto (t := 54) dk_144_31 rfl ?_
      refine zj_istore dk_144_54 rfl ?_
      exact key _ (by omega) (by unfold mt_of; (repeat' split) <;> omega)
  · skip
    refine zj_iload_n dk_144_17 rfl ?_
    refine zi_goto (t := 54) dk_144_18 rfl ?_
    refine zj_istore dk_144_54 rfl ?_
    exact key _ (by omega) (by unfold mt_of; (repeat' split) <;> omega)

theorem ct_146 {X : zz_X} {d n : Nat}  {m : Nat} {V : Nat → Int} {B : Nat → Int → Int} {h0 : zz_H} {u : Int} (hu : 0 ≤ u ∧ u ≤ 5) : zz_Ct X mm_146 d 0 0 [.ref m, zv u] n (md_H m V B h0) (zp none n (md_H m V (va_up B 14 (zU (zU (B 14) (2 * u) 0) (2 * u + 1) 0)) h0)) := by
  refine zz_start (by decide) (ls := [some (.ref m), some (zv u)]) rfl ?_
  refine zi_aload_n dk_146_0 rfl rfl ?_
  refine zi_getf dk_146_1 fl_13_50 md_0 rfl ?_
  refine zj_iconst dk_146_4 ?_
  refine zj_iload_n dk_146_5 rfl ?_
  refine zj_imul dk_146_6 ?_
  refine zj_iconst dk_146_7 ?_
  refine md_zast (k := 14) (N := 12) dk_146_8 (by decide) rfl rfl (by omega) (by omega) ?_
  refine zi_aload_n dk_146_9 rfl rfl ?_
  refine zi_getf dk_146_10 fl_13_50 md_0 rfl ?_
  refine zj_iconst dk_146_13 ?_
  refine zj_iload_n dk_146_14 rfl ?_
  refine zj_imul dk_146_15 ?_
  refine zj_iconst dk_146_16 ?_
  refine zj_iadd dk_146_17 ?_
  refine zj_iconst dk_146_18 ?_
  refine md_zast (k := 14) (N := 12) dk_146_19 (by decide) rfl rfl (by omega) (by omega) ?_
  refine zi_return dk_146_20 rfl ⟨rfl, rfl, by rw [va_up_up]; rfl⟩

theorem ct_148 {X : zz_X} {d n : Nat}  (hd : 1 ≤ d) {m : Nat} {V : Nat → Int} {B : Nat → Int → Int} {h0 : zz_H} {pa fa c : Int} (hpa : -2147483648 ≤ pa ∧ pa < 2147483648) (hfa : -2147483648 ≤ fa ∧ fa < 2147483648) (hc : -2147483648 ≤ c ∧ c < 2147483648) (hs : 0 ≤ V 45 ∧ V 45 ≤ 6) (hs2 : 0 ≤ V 24 ∧ V 24 ≤ 16) : zz_Ct X mm_148 d 0 0 [.ref m, zv pa, zv fa, zv c] n (md_H m V B h0) (fun r n' h' => n' = n ∧ ((¬ (V 45 < 6 ∧ (-1 ≤ pa ∧ pa < V 45) ∧ (-1 ≤ fa ∧ fa < V 45) ∧ (-1 ≤ c ∧ c < V 24)) ∧ r = some (zv (-1)) ∧ h' = md_H m V B h0) ∨ ((V 45 < 6 ∧ (-1 ≤ pa ∧ pa < V 45) ∧ (-1 ≤ fa ∧ fa < V 45) ∧ (-1 ≤ c ∧ c < V 24)) ∧ r = some (zv (V 45)) ∧ h' = md_H m (va_up V 45 (V 45 + 1)) (va_up (va_up (va_up B 34 (zU (B 34) (V 45) pa)) 35 (zU (B 35) (V 45) fa)) 36 (zU (B 36) (V 45) c)) h0))) := by
  refine zz_start (by decide) (ls := [some (.ref m), some (zv pa), some (zv fa), some (zv c)]) rfl ?_
  refine zi_aload_n dk_148_0 rfl rfl ?_
  refine zi_getf dk_148_1 fl_13_218 md_0 rfl ?_
  refine zj_bipush dk_148_4 (by decide) ?_
  refine zj_icmp_eq (t := 45) dk_148_6 rfl (by omega) (fun c6 => ?_) (fun c6 => ?_)
  · skip
    refine zj_iconst dk_148_45 ?_
    refine zj_ireturn dk_148_46 rfl ⟨rfl, Or.inl ⟨fun hh => by first | omega | (rw [if_pos hh.2.1] at c18; omega) | (rw [if_pos hh.2.2.1] at c30; omega) | (rw [if_pos hh.2.2.2] at c42; omega), rfl, rfl⟩⟩
  · skip
    refine zi_aload_n dk_148_9 rfl rfl ?_
    refine zj_iload_n dk_148_10 rfl ?_
    refine zi_aload_n dk_148_11 rfl rfl ?_
    refine zi_getf dk_148_12 fl_13_218 md_0 rfl ?_
    refine zi_invV dk_148_15 ml_13_221 iv_149 (ct_149 (d := d - 1) hpa (by omega)) md_0 rfl rfl rfl (Nat.le_of_ble_eq_true rfl) (by omega) rfl rfl (fun r n' h' hq => ?_)
    obtain ⟨rfl, rfl, rfl⟩ := hq
    refine zj_if_eq (t := 45) dk_148_18 rfl (by split <;> omega) (fun c18 => ?_) (fun c18 => ?_)
    · skip
      refine zj_iconst dk_148_45 ?_
      refine zj_ireturn dk_148_46 rfl ⟨rfl, Or.inl ⟨fun hh => by first | omega | (rw [if_pos hh.2.1] at c18; omega) | (rw [if_pos hh.2.2.1] at c30; omega) | (rw [if_pos hh.2.2.2] at c42; omega), rfl, rfl⟩⟩
    · skip
      refine zi_aload_n dk_148_21 rfl rfl ?_
      refine zj_iload_n dk_148_22 rfl ?_
      refine zi_aload_n dk_148_23 rfl rfl ?_
      refine zi_getf dk_148_24 fl_13_218 md_0 rfl ?_
      refine zi_invV dk_148_27 ml_13_221 iv_149 (ct_149 (d := d - 1) hfa (by omega)) md_0 rfl rfl rfl (Nat.le_of_ble_eq_true rfl) (by omega) rfl rfl (fun r n' h' hq => ?_)
      obtain ⟨rfl, rfl, rfl⟩ := hq
      refine zj_if_eq (t := 45) dk_148_30 rfl (by split <;> omega) (fun c30 => ?_) (fun c30 => ?_)
      · skip
        refine zj_iconst dk_148_45 ?_
        refine zj_ireturn dk_148_46 rfl ⟨rfl, Or.inl ⟨fun hh => by first | omega | (rw [if_pos hh.2.1] at c18; omega) | (rw [if_pos hh.2.2.1] at c30; omega) | (rw [if_pos hh.2.2.2] at c42; omega), rfl, rfl⟩⟩
      · skip
        refine zi_aload_n dk_148_33 rfl rfl ?_
        refine zj_iload_n dk_148_34 rfl ?_
        refine zi_aload_n dk_148_35 rfl rfl ?_
        refine zi_getf dk_148_36 fl_13_154 md_0 rfl ?_
        refine zi_invV dk_148_39 ml_13_221 iv_149 (ct_149 (d := d - 1) hc (by omega)) md_0 rfl rfl rfl (Nat.le_of_ble_eq_true rfl) (by omega) rfl rfl (fun r n' h' hq => ?_)
        obtain ⟨rfl, rfl, rfl⟩ := hq
        refine zj_if_ne (t := 47) dk_148_42 rfl (by split <;> omega) (fun c42 => ?_) (fun c42 => ?_)
        · skip
          refine zi_aload_n dk_148_47 rfl rfl ?_
          refine zi_getf dk_148_48 fl_13_110 md_0 rfl ?_
          refine zi_aload_n dk_148_51 rfl rfl ?_
          refine zi_getf dk_148_52 fl_13_218 md_0 rfl ?_
          refine zj_iload_n dk_148_55 rfl ?_
          refine md_iast (k := 34) (N := 6) dk_148_56 (by decide) rfl rfl (by omega) ?_
          refine zi_aload_n dk_148_57 rfl rfl ?_
          refine zi_getf dk_148_58 fl_13_113 md_0 rfl ?_
          refine zi_aload_n dk_148_61 rfl rfl ?_
          refine zi_getf dk_148_62 fl_13_218 md_0 rfl ?_
          refine zj_iload_n dk_148_65 rfl ?_
          refine md_iast (k := 35) (N := 6) dk_148_66 (by decide) rfl rfl (by omega) ?_
          refine zi_aload_n dk_148_67 rfl rfl ?_
          refine zi_getf dk_148_68 fl_13_116 md_0 rfl ?_
          refine zi_aload_n dk_148_71 rfl rfl ?_
          refine zi_getf dk_148_72 fl_13_218 md_0 rfl ?_
          refine zj_iload_n dk_148_75 rfl ?_
          refine md_iast (k := 36) (N := 6) dk_148_76 (by decide) rfl rfl (by omega) ?_
          refine zi_aload_n dk_148_77 rfl rfl ?_
          refine zi_dup dk_148_78 rfl ?_
          refine zi_getf dk_148_79 fl_13_218 md_0 rfl ?_
          refine zj_iconst dk_148_82 ?_
          refine zj_iadd dk_148_83 ?_
          refine md_putI dk_148_84 fp_148_218 md_s45 ?_
          refine zi_aload_n dk_148_87 rfl rfl ?_
          refine zi_getf dk_148_88 fl_13_218 md_0 rfl ?_
          refine zj_iconst dk_148_91 ?_
          refine zj_isub dk_148_92 ?_
          refine zj_ireturn dk_148_93 rfl ⟨rfl, Or.inr ⟨⟨by omega, by split at c18 <;> omega, by split at c30 <;> omega, by split at c42 <;> omega⟩, by congr 2; show V 45 + 1 - 1 = V 45; omega, rfl⟩⟩
        · skip
          refine zj_iconst dk_148_45 ?_
          refine zj_ireturn dk_148_46 rfl ⟨rfl, Or.inl ⟨fun hh => by first | omega | (rw [if_pos hh.2.1] at c18; omega) | (rw [if_pos hh.2.2.1] at c30; omega) | (rw [if_pos hh.2.2.2] at c42; omega), rfl, rfl⟩⟩

theorem ct_150 {X : zz_X} {d n : Nat}  (hd : 1 ≤ d) {m : Nat} {V : Nat → Int} {B : Nat → Int → Int} {h0 : zz_H} {t op c : Int} (ht : -2147483648 ≤ t ∧ t < 2147483648) (hop : -2147483648 ≤ op ∧ op < 2147483648) (hc : -2147483648 ≤ c ∧ c < 2147483648) (hs : 0 ≤ V 45 ∧ V 45 ≤ 6) (hs2 : 0 ≤ V 24 ∧ V 24 ≤ 16) (hdc : ∀ i, 0 ≤ i → i < 24 → B 37 i = 0 ∨ B 37 i = 1) : zz_Ct X mm_150 d 0 0 [.ref m, zv t, zv op, zv c] n (md_H m V B h0) (fun r n' h' => n' = n ∧ ((¬ ((0 ≤ t ∧ t < V 45) ∧ (0 ≤ op ∧ op < 4) ∧ (-1 ≤ c ∧ c < V 24)) ∧ r = some (zv 0) ∧ h' = md_H m V B h0) ∨ (((0 ≤ t ∧ t < V 45) ∧ (0 ≤ op ∧ op < 4) ∧ (-1 ≤ c ∧ c < V 24)) ∧ ((B 37 (4 * t + op) ≠ 0 ∧ r = some (zv 0) ∧ h' = md_H m V B h0) ∨ (B 37 (4 * t + op) = 0 ∧ r = some (zv 1) ∧ h' = md_H m V (va_up (va_up B 37 (zU (B 37) (4 * t + op) 1)) 38 (zU (B 38) (4 * t + op) c)) h0))))) := by
  refine zz_start (by decide) (ls := [some (.ref m), some (zv t), some (zv op), some (zv c), none]) rfl ?_
  refine zj_iload_n dk_150_0 rfl ?_
  refine zj_if_lt (t := 33) dk_150_1 rfl (by omega) (fun c1 => ?_) (fun c1 => ?_)
  · skip
    refine zj_iconst dk_150_33 ?_
    refine zj_zreturn dk_150_34 rfl (by omega) ⟨rfl, Or.inl ⟨fun hh => by first | omega | (rw [if_pos hh.2.2] at c30; omega), rfl, rfl⟩⟩
  · skip
    refine zj_iload_n dk_150_4 rfl ?_
    refine zi_aload_n dk_150_5 rfl rfl ?_
    refine zi_getf dk_150_6 fl_13_218 md_0 rfl ?_
    refine zj_icmp_ge (t := 33) dk_150_9 rfl (by omega) (fun c9 => ?_) (fun c9 => ?_)
    · skip
      refine zj_iconst dk_150_33 ?_
      refine zj_zreturn dk_150_34 rfl (by omega) ⟨rfl, Or.inl ⟨fun hh => by first | omega | (rw [if_pos hh.2.2] at c30; omega), rfl, rfl⟩⟩
    · skip
      refine zj_iload_n dk_150_12 rfl ?_
      refine zj_if_lt (t := 33) dk_150_13 rfl (by omega) (fun c13 => ?_) (fun c13 => ?_)
      · skip
        refine zj_iconst dk_150_33 ?_
        refine zj_zreturn dk_150_34 rfl (by omega) ⟨rfl, Or.inl ⟨fun hh => by first | omega | (rw [if_pos hh.2.2] at c30; omega), rfl, rfl⟩⟩
      · skip
        refine zj_iload_n dk_150_16 rfl ?_
        refine zj_iconst dk_150_17 ?_
        refine zj_icmp_gt (t := 33) dk_150_18 rfl (by omega) (fun c18 => ?_) (fun c18 => ?_)
        · skip
          refine zj_iconst dk_150_33 ?_
          refine zj_zreturn dk_150_34 rfl (by omega) ⟨rfl, Or.inl ⟨fun hh => by first | omega | (rw [if_pos hh.2.2] at c30; omega), rfl, rfl⟩⟩
        · skip
          refine zi_aload_n dk_150_21 rfl rfl ?_
          refine zj_iload_n dk_150_22 rfl ?_
          refine zi_aload_n dk_150_23 rfl rfl ?_
          refine zi_getf dk_150_24 fl_13_154 md_0 rfl ?_
          refine zi_invV dk_150_27 ml_13_221 iv_149 (ct_149 (d := d - 1) hc (by omega)) md_0 rfl rfl rfl (Nat.le_of_ble_eq_true rfl) (by omega) rfl rfl (fun r n' h' hq => ?_)
          obtain ⟨rfl, rfl, rfl⟩ := hq
          refine zj_if_ne (t := 35) dk_150_30 rfl (by split <;> omega) (fun c30 => ?_) (fun c30 => ?_)
          · skip
            refine zj_iconst dk_150_35 ?_
            refine zj_iload_n dk_150_36 rfl ?_
            refine zj_imul dk_150_37 ?_
            refine zj_iload_n dk_150_38 rfl ?_
            refine zj_iadd dk_150_39 ?_
            refine zj_istore dk_150_40 rfl ?_
            have hok : ((0 ≤ t ∧ t < V 45) ∧ (0 ≤ op ∧ op < 4) ∧ (-1 ≤ c ∧ c < V 24)) := ⟨by omega, by omega, by split at c30 <;> omega⟩
            have hdx := hdc (4 * t + op) (by omega) (by omega)
            refine zi_aload_n dk_150_42 rfl rfl ?_
            refine zi_getf dk_150_43 fl_13_119 md_0 rfl ?_
            refine zj_iload dk_150_46 rfl ?_
            refine md_zald (k := 37) (N := 24) dk_150_48 (by decide) rfl rfl (by omega) ?_
            refine zj_if_eq (t := 54) dk_150_49 rfl (by omega) (fun c49 => ?_) (fun c49 => ?_)
            · skip
              refine zi_aload_n dk_150_54 rfl rfl ?_
              refine zi_getf dk_150_55 fl_13_119 md_0 rfl ?_
              refine zj_iload dk_150_58 rfl ?_
              refine zj_iconst dk_150_60 ?_
              refine md_zast (k := 37) (N := 24) dk_150_61 (by decide) rfl rfl (by omega) (by omega) ?_
              refine zi_aload_n dk_150_62 rfl rfl ?_
              refine zi_getf dk_150_63 fl_13_122 md_0 rfl ?_
              refine zj_iload dk_150_66 rfl ?_
              refine zj_iload_n dk_150_68 rfl ?_
              refine md_iast (k := 38) (N := 24) dk_150_69 (by decide) rfl rfl (by omega) ?_
              refine zj_iconst dk_150_70 ?_
              refine zj_zreturn dk_150_71 rfl (by omega) ⟨rfl, Or.inr ⟨hok, Or.inr ⟨by omega, rfl, rfl⟩⟩⟩
            · skip
              refine zj_iconst dk_150_52 ?_
              refine zj_zreturn dk_150_53 rfl (by omega) ⟨rfl, Or.inr ⟨hok, Or.inl ⟨by omega, rfl, rfl⟩⟩⟩
          · skip
            refine zj_iconst dk_150_33 ?_
            refine zj_zreturn dk_150_34 rfl (by omega) ⟨rfl, Or.inl ⟨fun hh => by first | omega | (rw [if_pos hh.2.2] at c30; omega), rfl, rfl⟩⟩

