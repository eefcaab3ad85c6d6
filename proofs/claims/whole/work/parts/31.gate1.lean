/-! the gate: methods that stay in its own cells -/
theorem ct_12 {X : zz_X} {d n : Nat}  (hd : 2 ≤ d) {b : Nat} {S : Nat → Int} {A : Nat → Int → Int} {E : Nat → Nat} {h0 : zz_H} (hl : 0 ≤ S 9 ∧ S 9 ≤ 40) (hf : ∀ i, 0 ≤ i → i < S 9 → 0 ≤ A 2 i ∧ A 2 i < 65536) {c : Int} (hc : -2147483648 ≤ c ∧ c < 2147483648) : zz_Ct X mm_12 d 0 0 [.ref b, zv c] n (cl_H b S A E h0) (fun r n' h' => n' = n ∧ (((33 ≤ c ∧ c ≤ 126 ∧ S 9 < 40) ∧ r = some (zv 1) ∧ h' = cl_H b (va_up S 9 (S 9 + 1)) (va_up A 2 (zU (A 2) (S 9) c)) E h0) ∨ (¬ (33 ≤ c ∧ c ≤ 126 ∧ S 9 < 40) ∧ r = some (zv 0) ∧ h' = cl_H b S A E h0))) := by
  refine zz_start (by decide) (ls := [some (.ref b), some (zv c)]) rfl ?_
  refine zi_aload_n dk_12_0 rfl rfl ?_
  refine zi_getf dk_12_1 fl_0_12 (by first | exact cl_b | exact cl_at (by decide)) rfl ?_
  refine zj_iload_n dk_12_4 rfl ?_
  refine zi_invV dk_12_5 ml_0_71 iv_13 (ct_13 (d := d - 1) (by omega) (cl_at (j := 1) (by decide)) (cl_at (j := 2) (by decide)) hl hf hc) (by first | exact cl_b | exact cl_at (by decide)) rfl rfl rfl (Nat.le_of_ble_eq_true rfl) (by omega) rfl rfl (fun r n' h' hq => ?_)
  rw [cl_a2, cl_t] at hq
  obtain ⟨rfl, ⟨hc1, rfl, rfl⟩ | ⟨hc1, rfl, rfl⟩⟩ := hq
  · exact zj_zreturn dk_12_8 rfl (by omega) ⟨rfl, Or.inl ⟨hc1, rfl, rfl⟩⟩
  · exact zj_zreturn dk_12_8 rfl (by omega) ⟨rfl, Or.inr ⟨hc1, rfl, rfl⟩⟩

theorem ct_15 {X : zz_X} {d n : Nat}  (hd : 1 ≤ d) {b : Nat} {S : Nat → Int} {A : Nat → Int → Int} {E : Nat → Nat} {h0 : zz_H} (hl : 0 ≤ S 9 ∧ S 9 ≤ 40) (hf : ∀ i, 0 ≤ i → i < S 9 → 0 ≤ A 2 i ∧ A 2 i < 65536) : zz_Ct X mm_15 d 0 0 [.ref b] n (cl_H b S A E h0) (zp none n (cl_H b (va_up S 9 0) A E h0)) := by
  refine zz_start (by decide) (ls := [some (.ref b)]) rfl ?_
  refine zi_aload_n dk_15_0 rfl rfl ?_
  refine zi_getf dk_15_1 fl_0_12 (by first | exact cl_b | exact cl_at (by decide)) rfl ?_
  refine zi_invV dk_15_4 ml_0_75 iv_16 (ct_16 (d := d - 1) (cl_at (j := 1) (by decide)) (cl_at (j := 2) (by decide)) hl hf) (by first | exact cl_b | exact cl_at (by decide)) rfl rfl rfl (Nat.le_of_ble_eq_true rfl) (by omega) rfl rfl (fun r n' h' hq => ?_)
  obtain ⟨rfl, rfl, rfl⟩ := hq
  rw [cl_t]
  refine zi_return dk_15_7 rfl ⟨rfl, rfl, rfl⟩

theorem ct_17 {X : zz_X} {d n : Nat}  (hd : 3 ≤ d) {b : Nat} {S : Nat → Int} {A : Nat → Int → Int} {E : Nat → Nat} {h0 : zz_H} (hz : 0 ≤ S 13 ∧ S 13 ≤ 16) (hw : ex_W (A 12) (A 13) (A 14) (S 13)) {op x y : Int} (hop : -2147483648 ≤ op ∧ op < 2147483648) (hx : -2147483648 ≤ x ∧ x < 2147483648) (hy : -2147483648 ≤ y ∧ y < 2147483648) : zz_Ct X mm_17 d 0 0 [.ref b, zv op, zv x, zv y] n (cl_H b S A E h0) (fun r n' h' => n' = n ∧ (((S 13 < 16 ∧ (0 ≤ op ∧ op ≤ 9) ∧ ex_ct op x y (S 13) = 1) ∧ r = some (zv (S 13)) ∧ h' = cl_H b (va_up S 13 (S 13 + 1)) (va_up (va_up (va_up A 12 (zU (A 12) (S 13) op)) 13 (zU (A 13) (S 13) x)) 14 (zU (A 14) (S 13) y)) E h0) ∨ (¬ (S 13 < 16 ∧ (0 ≤ op ∧ op ≤ 9) ∧ ex_ct op x y (S 13) = 1) ∧ r = some (zv (-1)) ∧ h' = cl_H b S A E h0))) := by
  refine zz_start (by decide) (ls := [some (.ref b), some (zv op), some (zv x), some (zv y)]) rfl ?_
  refine zi_aload_n dk_17_0 rfl rfl ?_
  refine zi_getf dk_17_1 fl_0_33 (by first | exact cl_b | exact cl_at (by decide)) rfl ?_
  refine zj_iload_n dk_17_4 rfl ?_
  refine zj_iload_n dk_17_5 rfl ?_
  refine zj_iload_n dk_17_6 rfl ?_
  refine zi_invV dk_17_7 ml_0_78 iv_18 (ct_18 (d := d - 1) (by omega) (cl_at (j := 11) (by decide)) (cl_at (j := 12) (by decide)) (cl_at (j := 13) (by decide)) (cl_at (j := 14) (by decide)) (cl_at (j := 15) (by decide)) hz hw hop hx hy) (by first | exact cl_b | exact cl_at (by decide)) rfl rfl rfl (Nat.le_of_ble_eq_true rfl) (by omega) rfl rfl (fun r n' h' hq => ?_)
  rw [show b + 11 + 1 = b + 12 from rfl, show b + 11 + 2 = b + 13 from rfl, show b + 11 + 3 = b + 14 from rfl, cl_a12, cl_a13, cl_a14] at hq
  obtain ⟨rfl, ⟨hc1, rfl, rfl⟩ | ⟨hc1, rfl, rfl⟩⟩ := hq
  · exact zj_ireturn dk_17_10 rfl ⟨rfl, Or.inl ⟨hc1, rfl, cl_e⟩⟩
  · exact zj_ireturn dk_17_10 rfl ⟨rfl, Or.inr ⟨hc1, rfl, rfl⟩⟩

theorem ct_43 {X : zz_X} {d n : Nat}  (hd : 3 ≤ d) {b : Nat} {S : Nat → Int} {A : Nat → Int → Int} {E : Nat → Nat} {h0 : zz_H} (hg : rl_V (A 17)) {r s : Int} (hr : -2147483648 ≤ r ∧ r < 2147483648) (hs : -2147483648 ≤ s ∧ s < 2147483648) : zz_Ct X mm_43 d 0 0 [.ref b, zv r, zv s] n (cl_H b S A E h0) (fun r' n' h' => n' = n ∧ ((((0 ≤ r ∧ r < 8) ∧ (0 ≤ s ∧ s < 8) ∧ zb_bit (A 17 r) s = false) ∧ r' = some (zv 1) ∧ ∃ g', (∀ j, 0 ≤ j → j < 8 → g' j = rl_add (A 17) r s j) ∧ h' = cl_H b S (va_up A 17 g') E h0) ∨ (¬ ((0 ≤ r ∧ r < 8) ∧ (0 ≤ s ∧ s < 8) ∧ zb_bit (A 17 r) s = false) ∧ r' = some (zv 0) ∧ h' = cl_H b S A E h0))) := by
  refine zz_start (by decide) (ls := [some (.ref b), some (zv r), some (zv s)]) rfl ?_
  refine zi_aload_n dk_43_0 rfl rfl ?_
  refine zi_getf dk_43_1 fl_0_40 (by first | exact cl_b | exact cl_at (by decide)) rfl ?_
  refine zj_iload_n dk_43_4 rfl ?_
  refine zj_iload_n dk_43_5 rfl ?_
  refine zi_invV dk_43_6 ml_0_101 iv_44 (ct_44 (d := d - 1) (by omega) (cl_at (j := 16) (by decide)) (cl_at (j := 17) (by decide)) hr hs hg) (by first | exact cl_b | exact cl_at (by decide)) rfl rfl rfl (Nat.le_of_ble_eq_true rfl) (by omega) rfl rfl (fun r n' h' hq => ?_)
  obtain ⟨rfl, ⟨hc1, rfl, g', hg', rfl⟩ | ⟨hc1, rfl, rfl⟩⟩ := hq
  · exact zj_zreturn dk_43_9 rfl (by omega) ⟨rfl, Or.inl ⟨hc1, rfl, g', hg', cl_a17⟩⟩
  · exact zj_zreturn dk_43_9 rfl (by omega) ⟨rfl, Or.inr ⟨hc1, rfl, rfl⟩⟩

theorem ct_47 {X : zz_X} {d n : Nat}  {b : Nat} {S : Nat → Int} {A : Nat → Int → Int} {E : Nat → Nat} {h0 : zz_H}  : zz_Ct X mm_47 d 0 0 [.ref b] n (cl_H b S A E h0) (zp (some (zv (S 3 + 1))) n (cl_H b (va_up S 3 (S 3 + 1)) A E h0)) := by
  refine zz_start (by decide) (ls := [some (.ref b)]) rfl ?_
  refine zi_aload_n dk_47_0 rfl rfl ?_
  refine zi_dup dk_47_1 rfl ?_
  refine zi_getf dk_47_2 fl_0_256 (by first | exact cl_b | exact cl_at (by decide)) rfl ?_
  refine zj_iconst dk_47_5 ?_
  refine zj_iadd dk_47_6 ?_
  refine zj_putI dk_47_7 fp_47_256 (by first | exact cl_b | exact cl_at (by decide)) rfl ?_
  rw [cl_g3]
  refine zi_aload_n dk_47_10 rfl rfl ?_
  refine zi_getf dk_47_11 fl_0_256 (by first | exact cl_b | exact cl_at (by decide)) rfl ?_
  refine zj_ireturn dk_47_14 rfl ⟨rfl, rfl, rfl⟩

theorem ct_51 {X : zz_X} {d n : Nat}  (hd : 1 ≤ d) {b : Nat} {S : Nat → Int} {A : Nat → Int → Int} {E : Nat → Nat} {h0 : zz_H} (hz : 0 ≤ S 13 ∧ S 13 ≤ 16) (hw : ex_W (A 12) (A 13) (A 14) (S 13)) {k : Int} (hk : -2147483648 ≤ k ∧ k < 2147483648) : zz_Ct X mm_51 d 0 0 [.ref b, zv k] n (cl_H b S A E h0) (zp (some (zv (if k = -1 ∨ (0 ≤ k ∧ k < S 13) then 1 else 0))) n (cl_H b S A E h0)) := by
  refine zz_start (by decide) (ls := [some (.ref b), some (zv k)]) rfl ?_
  refine zj_iload_n dk_51_0 rfl ?_
  refine zj_iconst dk_51_1 ?_
  refine zj_icmp_eq (t := 16) dk_51_2 rfl (by omega) (fun c2 => ?_) (fun c2 => ?_)
  · skip
    refine zj_iconst dk_51_16 ?_
    refine zi_goto (t := 21) dk_51_17 rfl ?_
    refine zj_zreturn dk_51_21 rfl (by omega) ⟨by first | rw [if_pos (by omega)] | rw [if_neg (by omega)] | (split at c13 <;> first | rw [if_pos (by omega)] | rw [if_neg (by omega)]  | omega), rfl, rfl⟩
  · skip
    refine zi_aload_n dk_51_5 rfl rfl ?_
    refine zi_getf dk_51_6 fl_0_33 (by first | exact cl_b | exact cl_at (by decide)) rfl ?_
    refine zj_iload_n dk_51_9 rfl ?_
    refine zi_invV dk_51_10 ml_0_86 iv_21 (ct_21 (d := d - 1) (cl_at (j := 11) (by decide)) (cl_at (j := 12) (by decide)) (cl_at (j := 13) (by decide)) (cl_at (j := 14) (by decide)) (cl_at (j := 15) (by decide)) hz hw hk) (by first | exact cl_b | exact cl_at (by decide)) rfl rfl rfl (Nat.le_of_ble_eq_true rfl) (by omega) rfl rfl (fun r n' h' hq => ?_)
    obtain ⟨rfl, rfl, rfl⟩ := hq
    refine zj_if_eq (t := 20) dk_51_13 rfl (by split <;> omega) (fun c13 => ?_) (fun c13 => ?_)
    · skip
      refine zj_iconst dk_51_20 ?_
      refine zj_zreturn dk_51_21 rfl (by omega) ⟨by first | rw [if_pos (by omega)] | rw [if_neg (by omega)] | (split at c13 <;> first | rw [if_pos (by omega)] | rw [if_neg (by omega)]  | omega), rfl, rfl⟩
    · skip
      refine zj_iconst dk_51_16 ?_
      refine zi_goto (t := 21) dk_51_17 rfl ?_
      refine zj_zreturn dk_51_21 rfl (by omega) ⟨by first | rw [if_pos (by omega)] | rw [if_neg (by omega)] | (split at c13 <;> first | rw [if_pos (by omega)] | rw [if_neg (by omega)]  | omega), rfl, rfl⟩

theorem ct_53 {X : zz_X} {d n : Nat}  (hd : 1 ≤ d) {b : Nat} {S : Nat → Int} {A : Nat → Int → Int} {E : Nat → Nat} {h0 : zz_H} (hz : 0 ≤ S 18 ∧ S 18 ≤ 10) {k : Int} (hk : -2147483648 ≤ k ∧ k < 2147483648) : zz_Ct X mm_53 d 0 0 [.ref b, zv k] n (cl_H b S A E h0) (zp (some (zv (if 0 ≤ k ∧ k < S 18 then 1 else 0))) n (cl_H b S A E h0)) := by
  refine zz_start (by decide) (ls := [some (.ref b), some (zv k)]) rfl ?_
  refine zj_iload_n dk_53_0 rfl ?_
  refine zj_if_lt (t := 19) dk_53_1 rfl (by omega) (fun c1 => ?_) (fun c1 => ?_)
  · skip
    refine zj_iconst dk_53_19 ?_
    refine zj_zreturn dk_53_20 rfl (by omega) ⟨by first | rw [if_pos (by omega)] | rw [if_neg (by omega)], rfl, rfl⟩
  · skip
    refine zj_iload_n dk_53_4 rfl ?_
    refine zi_aload_n dk_53_5 rfl rfl ?_
    refine zi_getf dk_53_6 fl_0_54 (by first | exact cl_b | exact cl_at (by decide)) rfl ?_
    refine zi_invV dk_53_9 ml_0_82 iv_23 (ct_23 (d := d - 1) (N := 0) (f := fun _ => none) (cl_at (j := 20) (by decide))) (by first | exact cl_b | exact cl_at (by decide)) rfl rfl rfl (Nat.le_of_ble_eq_true rfl) (by omega) rfl rfl (fun r n' h' hq => ?_)
    obtain ⟨rfl, rfl, rfl⟩ := hq
    refine zj_icmp_ge (t := 19) dk_53_12 rfl (by omega) (fun c12 => ?_) (fun c12 => ?_)
    · skip
      refine zj_iconst dk_53_19 ?_
      refine zj_zreturn dk_53_20 rfl (by omega) ⟨by first | rw [if_pos (by omega)] | rw [if_neg (by omega)], rfl, rfl⟩
    · skip
      refine zj_iconst dk_53_15 ?_
      refine zi_goto (t := 20) dk_53_16 rfl ?_
      refine zj_zreturn dk_53_20 rfl (by omega) ⟨by first | rw [if_pos (by omega)] | rw [if_neg (by omega)], rfl, rfl⟩

theorem ct_68 {X : zz_X} {d n : Nat}  (hd : 1 ≤ d) {b : Nat} {S : Nat → Int} {A : Nat → Int → Int} {E : Nat → Nat} {h0 : zz_H} (hz : 0 ≤ S 16 ∧ S 16 ≤ 10) {k : Int} (hk : -2147483648 ≤ k ∧ k < 2147483648) : zz_Ct X mm_68 d 0 0 [.ref b, zv k] n (cl_H b S A E h0) (zp (some (zv (if 0 ≤ k ∧ k < S 16 then 1 else 0))) n (cl_H b S A E h0)) := by
  refine zz_start (by decide) (ls := [some (.ref b), some (zv k)]) rfl ?_
  refine zj_iload_n dk_68_0 rfl ?_
  refine zj_if_lt (t := 19) dk_68_1 rfl (by omega) (fun c1 => ?_) (fun c1 => ?_)
  · skip
    refine zj_iconst dk_68_19 ?_
    refine zj_zreturn dk_68_20 rfl (by omega) ⟨by first | rw [if_pos (by omega)] | rw [if_neg (by omega)], rfl, rfl⟩
  · skip
    refine zj_iload_n dk_68_4 rfl ?_
    refine zi_aload_n dk_68_5 rfl rfl ?_
    refine zi_getf dk_68_6 fl_0_51 (by first | exact cl_b | exact cl_at (by decide)) rfl ?_
    refine zi_invV dk_68_9 ml_0_82 iv_23 (ct_23 (d := d - 1) (N := 0) (f := fun _ => none) (cl_at (j := 19) (by decide))) (by first | exact cl_b | exact cl_at (by decide)) rfl rfl rfl (Nat.le_of_ble_eq_true rfl) (by omega) rfl rfl (fun r n' h' hq => ?_)
    obtain ⟨rfl, rfl, rfl⟩ := hq
    refine zj_icmp_ge (t := 19) dk_68_12 rfl (by omega) (fun c12 => ?_) (fun c12 => ?_)
    · skip
      refine zj_iconst dk_68_19 ?_
      refine zj_zreturn dk_68_20 rfl (by omega) ⟨by first | rw [if_pos (by omega)] | rw [if_neg (by omega)], rfl, rfl⟩
    · skip
      refine zj_iconst dk_68_15 ?_
      refine zi_goto (t := 20) dk_68_16 rfl ?_
      refine zj_zreturn dk_68_20 rfl (by omega) ⟨by first | rw [if_pos (by omega)] | rw [if_neg (by omega)], rfl, rfl⟩

theorem ct_52 {X : zz_X} {d n : Nat}  (hd : 2 ≤ d) {b : Nat} {S : Nat → Int} {A : Nat → Int → Int} {E : Nat → Nat} {h0 : zz_H} (hz : 0 ≤ S 18 ∧ S 18 ≤ 10) {k : Int} (hk : -2147483648 ≤ k ∧ k < 2147483648) : zz_Ct X mm_52 d 0 0 [.ref b, zv k] n (cl_H b S A E h0) (zp (some (zv (if k = -1 ∨ (0 ≤ k ∧ k < S 18) then 1 else 0))) n (cl_H b S A E h0)) := by
  refine zz_start (by decide) (ls := [some (.ref b), some (zv k)]) rfl ?_
  refine zj_iload_n dk_52_0 rfl ?_
  refine zj_iconst dk_52_1 ?_
  refine zj_icmp_eq (t := 13) dk_52_2 rfl (by omega) (fun c2 => ?_) (fun c2 => ?_)
  · skip
    refine zj_iconst dk_52_13 ?_
    refine zi_goto (t := 18) dk_52_14 rfl ?_
    refine zj_zreturn dk_52_18 rfl (by omega) ⟨by first | rw [if_pos (by omega)] | rw [if_neg (by omega)] | (split at c10 <;> first | rw [if_pos (by omega)] | rw [if_neg (by omega)] | omega), rfl, rfl⟩
  · skip
    refine zi_aload_n dk_52_5 rfl rfl ?_
    refine zj_iload_n dk_52_6 rfl ?_
    refine zi_invV dk_52_7 ml_0_123 iv_53 (ct_53 (d := d - 1) (by omega) hz hk) (by first | exact cl_b | exact cl_at (by decide)) rfl rfl rfl (Nat.le_of_ble_eq_true rfl) (by omega) rfl rfl (fun r n' h' hq => ?_)
    obtain ⟨rfl, rfl, rfl⟩ := hq
    refine zj_if_eq (t := 17) dk_52_10 rfl (by split <;> omega) (fun c10 => ?_) (fun c10 => ?_)
    · skip
      refine zj_iconst dk_52_17 ?_
      refine zj_zreturn dk_52_18 rfl (by omega) ⟨by first | rw [if_pos (by omega)] | rw [if_neg (by omega)] | (split at c10 <;> first | rw [if_pos (by omega)] | rw [if_neg (by omega)] | omega), rfl, rfl⟩
    · skip
      refine zj_iconst dk_52_13 ?_
      refine zi_goto (t := 18) dk_52_14 rfl ?_
      refine zj_zreturn dk_52_18 rfl (by omega) ⟨by first | rw [if_pos (by omega)] | rw [if_neg (by omega)] | (split at c10 <;> first | rw [if_pos (by omega)] | rw [if_neg (by omega)] | omega), rfl, rfl⟩

theorem ct_119 {X : zz_X} {d n : Nat}  {b : Nat} {S : Nat → Int} {A : Nat → Int → Int} {E : Nat → Nat} {h0 : zz_H} (ho : S 1 = 0 ∨ S 1 = 1) : zz_Ct X mm_119 d 0 0 [.ref b] n (cl_H b S A E h0) (fun r n' h' => n' = n ∧ ((S 1 = 0 ∧ r = some (zv 0) ∧ h' = cl_H b S A E h0) ∨ (S 1 = 1 ∧ r = some (zv 1) ∧ h' = cl_H b (va_up (va_up S 1 0) 0 (-1)) A E h0))) := by
  refine zz_start (by decide) (ls := [some (.ref b)]) rfl ?_
  refine zi_aload_n dk_119_0 rfl rfl ?_
  refine zi_getf dk_119_1 fl_0_186 (by first | exact cl_b | exact cl_at (by decide)) rfl ?_
  refine zj_if_ne (t := 9) dk_119_4 rfl (by omega) (fun c4 => ?_) (fun c4 => ?_)
  · skip
    refine zi_aload_n dk_119_9 rfl rfl ?_
    refine zj_iconst dk_119_10 ?_
    refine zj_putZ dk_119_11 fp_119_186 (by first | exact cl_b | exact cl_at (by decide)) (by omega) rfl ?_
    rw [cl_g1]
    refine zi_aload_n dk_119_14 rfl rfl ?_
    refine zj_iconst dk_119_15 ?_
    refine zj_putI dk_119_16 fp_119_67 (by first | exact cl_b | exact cl_at (by decide)) rfl ?_
    rw [cl_g0]
    refine zj_iconst dk_119_19 ?_
    refine zj_zreturn dk_119_20 rfl (by omega) ⟨rfl, Or.inr ⟨by omega, rfl, rfl⟩⟩
  · skip
    refine zj_iconst dk_119_7 ?_
    refine zj_zreturn dk_119_8 rfl (by omega) ⟨rfl, Or.inl ⟨by omega, rfl, rfl⟩⟩

theorem ct_120 {X : zz_X} {d n : Nat}  {b : Nat} {S : Nat → Int} {A : Nat → Int → Int} {E : Nat → Nat} {h0 : zz_H}  : zz_Ct X mm_120 d 0 0 [.ref b] n (cl_H b S A E h0) (zp (some (zv (S 0))) n (cl_H b S A E h0)) := by
  refine zz_start (by decide) (ls := [some (.ref b)]) rfl ?_
  refine zi_aload_n dk_120_0 rfl rfl ?_
  refine zi_getf dk_120_1 fl_0_67 (by first | exact cl_b | exact cl_at (by decide)) rfl ?_
  refine zj_ireturn dk_120_4 rfl ⟨rfl, rfl, rfl⟩

theorem ct_125 {X : zz_X} {d n : Nat}  {b : Nat} {S : Nat → Int} {A : Nat → Int → Int} {E : Nat → Nat} {h0 : zz_H} {k : Int} (hk : -2147483648 ≤ k ∧ k < 2147483648) : zz_Ct X mm_125 d 0 0 [.ref b, zv k] n (cl_H b S A E h0) (zp (some (zv (if k = 0 then S 4 else if k = 1 then S 5 else if k = 2 then S 6 else if k = 3 then S 7 else if k = 4 then S 8 else if k = 5 then S 3 else if k = 6 then S 2 else -1))) n (cl_H b S A E h0)) := by
  refine zz_start (by decide) (ls := [some (.ref b), some (zv k)]) rfl ?_
  have hop : k = 0 ∨ k = 1 ∨ k = 2 ∨ k = 3 ∨ k = 4 ∨ k = 5 ∨ k = 6 ∨ (k < 0 ∨ 6 < k) := by omega
  rcases hop with rfl | rfl | rfl | rfl | rfl | rfl | rfl | hop
  · refine zj_iload_n dk_125_0 rfl ?_
    refine zj_tabIn (t := 44) dk_125_1 (by decide) rfl rfl ?_
    refine zi_aload_n dk_125_44 rfl rfl ?_
    refine zi_getf dk_125_45 fl_0_250 (by first | exact cl_b | exact cl_at (by decide)) rfl ?_
    refine zj_ireturn dk_125_48 rfl ⟨rfl, rfl, rfl⟩
  · refine zj_iload_n dk_125_0 rfl ?_
    refine zj_tabIn (t := 49) dk_125_1 (by decide) rfl rfl ?_
    refine zi_aload_n dk_125_49 rfl rfl ?_
    refine zi_getf dk_125_50 fl_0_220 (by first | exact cl_b | exact cl_at (by decide)) rfl ?_
    refine zj_ireturn dk_125_53 rfl ⟨rfl, rfl, rfl⟩
  · refine zj_iload_n dk_125_0 rfl ?_
    refine zj_tabIn (t := 54) dk_125_1 (by decide) rfl rfl ?_
    refine zi_aload_n dk_125_54 rfl rfl ?_
    refine zi_getf dk_125_55 fl_0_223 (by first | exact cl_b | exact cl_at (by decide)) rfl ?_
    refine zj_ireturn dk_125_58 rfl ⟨rfl, rfl, rfl⟩
  · refine zj_iload_n dk_125_0 rfl ?_
    refine zj_tabIn (t := 59) dk_125_1 (by decide) rfl rfl ?_
    refine zi_aload_n dk_125_59 rfl rfl ?_
    refine zi_getf dk_125_60 fl_0_253 (by first | exact cl_b | exact cl_at (by decide)) rfl ?_
    refine zj_ireturn dk_125_63 rfl ⟨rfl, rfl, rfl⟩
  · refine zj_iload_n dk_125_0 rfl ?_
    refine zj_tabIn (t := 64) dk_125_1 (by decide) rfl rfl ?_
    refine zi_aload_n dk_125_64 rfl rfl ?_
    refine zi_getf dk_125_65 fl_0_153 (by first | exact cl_b | exact cl_at (by decide)) rfl ?_
    refine zj_ireturn dk_125_68 rfl ⟨rfl, rfl, rfl⟩
  · refine zj_iload_n dk_125_0 rfl ?_
    refine zj_tabIn (t := 69) dk_125_1 (by decide) rfl rfl ?_
    refine zi_aload_n dk_125_69 rfl rfl ?_
    refine zi_getf dk_125_70 fl_0_256 (by first | exact cl_b | exact cl_at (by decide)) rfl ?_
    refine zj_ireturn dk_125_73 rfl ⟨rfl, rfl, rfl⟩
  · refine zj_iload_n dk_125_0 rfl ?_
    refine zj_tabIn (t := 74) dk_125_1 (by decide) rfl rfl ?_
    refine zi_aload_n dk_125_74 rfl rfl ?_
    refine zi_getf dk_125_75 fl_0_134 (by first | exact cl_b | exact cl_at (by decide)) rfl ?_
    refine zj_ireturn dk_125_78 rfl ⟨rfl, rfl, rfl⟩
  · refine zj_iload_n dk_125_0 rfl ?_
    refine zj_tabOut (t := 79) dk_125_1 (by omega) rfl ?_
    refine zj_iconst dk_125_79 ?_
    refine zj_ireturn dk_125_80 rfl ⟨by rw [if_neg (by omega), if_neg (by omega), if_neg (by omega), if_neg (by omega), if_neg (by omega), if_neg (by omega), if_neg (by omega)], rfl, rfl⟩

