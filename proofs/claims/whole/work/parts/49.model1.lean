/-! the model: small methods -/
theorem ct_127 {X : zz_X} {d n : Nat}  {m : Nat} {V : Nat → Int} {B : Nat → Int → Int} {h0 : zz_H} {c : Int} (hc : -2147483648 ≤ c ∧ c < 2147483648) (hs : 0 ≤ V 29 ∧ V 29 ≤ 40) : zz_Ct X mm_127 d 0 0 [.ref m, zv c] n (md_H m V B h0) (fun r n' h' => n' = n ∧ (((33 ≤ c ∧ c ≤ 126 ∧ V 29 < 40) ∧ r = some (zv 1) ∧ h' = md_H m (va_up V 29 (V 29 + 1)) (va_up B 21 (zU (B 21) (V 29) c)) h0) ∨ (¬ (33 ≤ c ∧ c ≤ 126 ∧ V 29 < 40) ∧ r = some (zv 0) ∧ h' = md_H m V B h0))) := by
  refine zz_start (by decide) (ls := [some (.ref m), some (zv c)]) rfl ?_
  refine zj_iload_n dk_127_0 rfl ?_
  refine zj_bipush dk_127_1 (by decide) ?_
  refine zj_icmp_lt (t := 21) dk_127_3 rfl (by omega) (fun c3 => ?_) (fun c3 => ?_)
  · skip
    refine zj_iconst dk_127_21 ?_
    refine zj_zreturn dk_127_22 rfl (by omega) ⟨rfl, Or.inr ⟨by omega, rfl, rfl⟩⟩
  · skip
    refine zj_iload_n dk_127_6 rfl ?_
    refine zj_bipush dk_127_7 (by decide) ?_
    refine zj_icmp_gt (t := 21) dk_127_9 rfl (by omega) (fun c9 => ?_) (fun c9 => ?_)
    · skip
      refine zj_iconst dk_127_21 ?_
      refine zj_zreturn dk_127_22 rfl (by omega) ⟨rfl, Or.inr ⟨by omega, rfl, rfl⟩⟩
    · skip
      refine zi_aload_n dk_127_12 rfl rfl ?_
      refine zi_getf dk_127_13 fl_13_129 md_0 rfl ?_
      refine zj_bipush dk_127_16 (by decide) ?_
      refine zj_icmp_lt (t := 23) dk_127_18 rfl (by omega) (fun c18 => ?_) (fun c18 => ?_)
      · skip
        refine zi_aload_n dk_127_23 rfl rfl ?_
        refine zi_getf dk_127_24 fl_13_71 md_0 rfl ?_
        refine zi_aload_n dk_127_27 rfl rfl ?_
        refine zi_getf dk_127_28 fl_13_129 md_0 rfl ?_
        refine zj_iload_n dk_127_31 rfl ?_
        refine md_iast (k := 21) (N := 40) dk_127_32 (by decide) rfl rfl (by omega) ?_
        refine zi_aload_n dk_127_33 rfl rfl ?_
        refine zi_dup dk_127_34 rfl ?_
        refine zi_getf dk_127_35 fl_13_129 md_0 rfl ?_
        refine zj_iconst dk_127_38 ?_
        refine zj_iadd dk_127_39 ?_
        refine md_putI dk_127_40 fp_127_129 md_s29 ?_
        refine zj_iconst dk_127_43 ?_
        refine zj_zreturn dk_127_44 rfl (by omega) ⟨rfl, Or.inl ⟨by omega, rfl, rfl⟩⟩
      · skip
        refine zj_iconst dk_127_21 ?_
        refine zj_zreturn dk_127_22 rfl (by omega) ⟨rfl, Or.inr ⟨by omega, rfl, rfl⟩⟩

theorem ct_128 {X : zz_X} {d n : Nat}  {m : Nat} {V : Nat → Int} {B : Nat → Int → Int} {h0 : zz_H}  : zz_Ct X mm_128 d 0 0 [.ref m] n (md_H m V B h0) (zp none n (md_H m (va_up V 29 0) B h0)) := by
  refine zz_start (by decide) (ls := [some (.ref m)]) rfl ?_
  refine zi_aload_n dk_128_0 rfl rfl ?_
  refine zj_iconst dk_128_1 ?_
  refine md_putI dk_128_2 fp_128_129 md_s29 ?_
  refine zi_return dk_128_5 rfl ⟨rfl, rfl, rfl⟩

theorem ct_130 {X : zz_X} {d n : Nat}  {m : Nat} {V : Nat → Int} {B : Nat → Int → Int} {h0 : zz_H} {k : Int} (hk : -2147483648 ≤ k ∧ k < 2147483648) (hs : 0 ≤ V 24 ∧ V 24 ≤ 16) : zz_Ct X mm_130 d 0 0 [.ref m, zv k] n (md_H m V B h0) (zp (some (zv (if 0 ≤ k ∧ k < V 24 then 1 else 0))) n (md_H m V B h0)) := by
  refine zz_start (by decide) (ls := [some (.ref m), some (zv k)]) rfl ?_
  refine zj_iload_n dk_130_0 rfl ?_
  refine zj_if_lt (t := 16) dk_130_1 rfl (by omega) (fun c1 => ?_) (fun c1 => ?_)
  · skip
    refine zj_iconst dk_130_16 ?_
    refine zj_zreturn dk_130_17 rfl (by omega) ⟨by first | rw [if_pos (by omega)] | rw [if_neg (by omega)], rfl, rfl⟩
  · skip
    refine zj_iload_n dk_130_4 rfl ?_
    refine zi_aload_n dk_130_5 rfl rfl ?_
    refine zi_getf dk_130_6 fl_13_154 md_0 rfl ?_
    refine zj_icmp_ge (t := 16) dk_130_9 rfl (by omega) (fun c9 => ?_) (fun c9 => ?_)
    · skip
      refine zj_iconst dk_130_16 ?_
      refine zj_zreturn dk_130_17 rfl (by omega) ⟨by first | rw [if_pos (by omega)] | rw [if_neg (by omega)], rfl, rfl⟩
    · skip
      refine zj_iconst dk_130_12 ?_
      refine zi_goto (t := 17) dk_130_13 rfl ?_
      refine zj_zreturn dk_130_17 rfl (by omega) ⟨by first | rw [if_pos (by omega)] | rw [if_neg (by omega)], rfl, rfl⟩

theorem ct_129 {X : zz_X} {d n : Nat}  (hd : 1 ≤ d) {m : Nat} {V : Nat → Int} {B : Nat → Int → Int} {h0 : zz_H} {op x y : Int} (hop : -2147483648 ≤ op ∧ op < 2147483648) (hx : -2147483648 ≤ x ∧ x < 2147483648) (hy : -2147483648 ≤ y ∧ y < 2147483648) (hs : 0 ≤ V 24 ∧ V 24 ≤ 16) : zz_Ct X mm_129 d 0 0 [.ref m, zv op, zv x, zv y] n (md_H m V B h0) (fun r n' h' => n' = n ∧ (((V 24 < 16 ∧ (0 ≤ op ∧ op ≤ 9) ∧ ex_ct op x y (V 24) = 1) ∧ r = some (zv (V 24)) ∧ h' = md_H m (va_up V 24 (V 24 + 1)) (va_up (va_up (va_up B 17 (zU (B 17) (V 24) op)) 18 (zU (B 18) (V 24) x)) 19 (zU (B 19) (V 24) y)) h0) ∨ (¬ (V 24 < 16 ∧ (0 ≤ op ∧ op ≤ 9) ∧ ex_ct op x y (V 24) = 1) ∧ r = some (zv (-1)) ∧ h' = md_H m V B h0))) := by
  refine zz_start (by decide) (ls := [some (.ref m), some (zv op), some (zv x), some (zv y)]) rfl ?_
  refine zi_aload_n dk_129_0 rfl rfl ?_
  refine zi_getf dk_129_1 fl_13_154 md_0 rfl ?_
  refine zj_bipush dk_129_4 (by decide) ?_
  refine zj_icmp_eq (t := 19) dk_129_6 rfl (by omega) (fun c6 => ?_) (fun c6 => ?_)
  · skip
    refine zj_iconst dk_129_19 ?_
    refine zj_ireturn dk_129_20 rfl ⟨rfl, Or.inr ⟨by omega, rfl, rfl⟩⟩
  · skip
    refine zj_iload_n dk_129_9 rfl ?_
    refine zj_if_lt (t := 19) dk_129_10 rfl (by omega) (fun c10 => ?_) (fun c10 => ?_)
    · skip
      refine zj_iconst dk_129_19 ?_
      refine zj_ireturn dk_129_20 rfl ⟨rfl, Or.inr ⟨by omega, rfl, rfl⟩⟩
    · skip
      refine zj_iload_n dk_129_13 rfl ?_
      refine zj_bipush dk_129_14 (by decide) ?_
      refine zj_icmp_le (t := 21) dk_129_16 rfl (by omega) (fun c16 => ?_) (fun c16 => ?_)
      · skip
        refine zj_iload_n dk_129_21 rfl ?_
        refine zj_iconst dk_129_22 ?_
        refine zj_icmp_ne (t := 36) dk_129_23 rfl (by omega) (fun c23 => ?_) (fun c23 => ?_)
        · skip
          refine zj_iload_n dk_129_36 rfl ?_
          refine zj_iconst dk_129_37 ?_
          refine zj_icmp_lt (t := 55) dk_129_38 rfl (by omega) (fun c38 => ?_) (fun c38 => ?_)
          · skip
            refine zj_iload_n dk_129_55 rfl ?_
            refine zj_iconst dk_129_56 ?_
            refine zj_icmp_eq (t := 66) dk_129_57 rfl (by omega) (fun c57 => ?_) (fun c57 => ?_)
            · skip
              refine zi_aload_n dk_129_66 rfl rfl ?_
              refine zj_iload_n dk_129_67 rfl ?_
              refine zi_invV dk_129_68 ml_13_157 iv_130 (ct_130 (d := d - 1) hy hs) md_0 rfl rfl rfl (Nat.le_of_ble_eq_true rfl) (by omega) rfl rfl (fun r n' h' hq => ?_)
              obtain ⟨rfl, rfl, rfl⟩ := hq
              refine zj_if_ne (t := 76) dk_129_71 rfl (by split <;> omega) (fun c71 => ?_) (fun c71 => ?_)
              · skip
                refine zi_aload_n dk_129_76 rfl rfl ?_
                refine zi_getf dk_129_77 fl_13_59 md_0 rfl ?_
                refine zi_aload_n dk_129_80 rfl rfl ?_
                refine zi_getf dk_129_81 fl_13_154 md_0 rfl ?_
                refine zj_iload_n dk_129_84 rfl ?_
                refine md_iast (k := 17) (N := 16) dk_129_85 (by decide) rfl rfl (by omega) ?_
                refine zi_aload_n dk_129_86 rfl rfl ?_
                refine zi_getf dk_129_87 fl_13_62 md_0 rfl ?_
                refine zi_aload_n dk_129_90 rfl rfl ?_
                refine zi_getf dk_129_91 fl_13_154 md_0 rfl ?_
                refine zj_iload_n dk_129_94 rfl ?_
                refine md_iast (k := 18) (N := 16) dk_129_95 (by decide) rfl rfl (by omega) ?_
                refine zi_aload_n dk_129_96 rfl rfl ?_
                refine zi_getf dk_129_97 fl_13_65 md_0 rfl ?_
                refine zi_aload_n dk_129_100 rfl rfl ?_
                refine zi_getf dk_129_101 fl_13_154 md_0 rfl ?_
                refine zj_iload_n dk_129_104 rfl ?_
                refine md_iast (k := 19) (N := 16) dk_129_105 (by decide) rfl rfl (by omega) ?_
                refine zi_aload_n dk_129_106 rfl rfl ?_
                refine zi_dup dk_129_107 rfl ?_
                refine zi_getf dk_129_108 fl_13_154 md_0 rfl ?_
                refine zj_iconst dk_129_111 ?_
                refine zj_iadd dk_129_112 ?_
                refine md_putI dk_129_113 fp_129_154 md_s24 ?_
                refine zi_aload_n dk_129_116 rfl rfl ?_
                refine zi_getf dk_129_117 fl_13_154 md_0 rfl ?_
                refine zj_iconst dk_129_120 ?_
                refine zj_isub dk_129_121 ?_
                refine zj_ireturn dk_129_122 rfl ⟨rfl, Or.inl ⟨⟨by omega, by omega, by unfold ex_ct; (repeat' split) <;> (first | omega | (split at c52 <;> first | omega | (split at c71 <;> omega)) | (split at c71 <;> omega))⟩, by congr 2; show V 24 + 1 - 1 = V 24; omega, rfl⟩⟩
              · skip
                refine zj_iconst dk_129_74 ?_
                refine zj_ireturn dk_129_75 rfl ⟨rfl, Or.inr ⟨fun hh => by have h3 := hh.2.2; unfold ex_ct at h3; (repeat' split at h3) <;> (first | omega | (split at c52 <;> first | omega | (split at c71 <;> omega)) | (split at c71 <;> omega)), rfl, rfl⟩⟩
            · skip
              refine zj_iload_n dk_129_60 rfl ?_
              refine zj_bipush dk_129_61 (by decide) ?_
              refine zj_icmp_ne (t := 76) dk_129_63 rfl (by omega) (fun c63 => ?_) (fun c63 => ?_)
              · skip
                refine zi_aload_n dk_129_76 rfl rfl ?_
                refine zi_getf dk_129_77 fl_13_59 md_0 rfl ?_
                refine zi_aload_n dk_129_80 rfl rfl ?_
                refine zi_getf dk_129_81 fl_13_154 md_0 rfl ?_
                refine zj_iload_n dk_129_84 rfl ?_
                refine md_iast (k := 17) (N := 16) dk_129_85 (by decide) rfl rfl (by omega) ?_
                refine zi_aload_n dk_129_86 rfl rfl ?_
                refine zi_getf dk_129_87 fl_13_62 md_0 rfl ?_
                refine zi_aload_n dk_129_90 rfl rfl ?_
                refine zi_getf dk_129_91 fl_13_154 md_0 rfl ?_
                refine zj_iload_n dk_129_94 rfl ?_
                refine md_iast (k := 18) (N := 16) dk_129_95 (by decide) rfl rfl (by omega) ?_
                refine zi_aload_n dk_129_96 rfl rfl ?_
                refine zi_getf dk_129_97 fl_13_65 md_0 rfl ?_
                refine zi_aload_n dk_129_100 rfl rfl ?_
                refine zi_getf dk_129_101 fl_13_154 md_0 rfl ?_
                refine zj_iload_n dk_129_104 rfl ?_
                refine md_iast (k := 19) (N := 16) dk_129_105 (by decide) rfl rfl (by omega) ?_
                refine zi_aload_n dk_129_106 rfl rfl ?_
                refine zi_dup dk_129_107 rfl ?_
                refine zi_getf dk_129_108 fl_13_154 md_0 rfl ?_
                refine zj_iconst dk_129_111 ?_
                refine zj_iadd dk_129_112 ?_
                refine md_putI dk_129_113 fp_129_154 md_s24 ?_
                refine zi_aload_n dk_129_116 rfl rfl ?_
                refine zi_getf dk_129_117 fl_13_154 md_0 rfl ?_
                refine zj_iconst dk_129_120 ?_
                refine zj_isub dk_129_121 ?_
                refine zj_ireturn dk_129_122 rfl ⟨rfl, Or.inl ⟨⟨by omega, by omega, by unfold ex_ct; (repeat' split) <;> (first | omega | (split at c52 <;> first | omega | (split at c71 <;> omega)) | (split at c71 <;> omega))⟩, by congr 2; show V 24 + 1 - 1 = V 24; omega, rfl⟩⟩
              · skip
                refine zi_aload_n dk_129_66 rfl rfl ?_
                refine zj_iload_n dk_129_67 rfl ?_
                refine zi_invV dk_129_68 ml_13_157 iv_130 (ct_130 (d := d - 1) hy hs) md_0 rfl rfl rfl (Nat.le_of_ble_eq_true rfl) (by omega) rfl rfl (fun r n' h' hq => ?_)
                obtain ⟨rfl, rfl, rfl⟩ := hq
                refine zj_if_ne (t := 76) dk_129_71 rfl (by split <;> omega) (fun c71 => ?_) (fun c71 => ?_)
                · skip
                  refine zi_aload_n dk_129_76 rfl rfl ?_
                  refine zi_getf dk_129_77 fl_13_59 md_0 rfl ?_
                  refine zi_aload_n dk_129_80 rfl rfl ?_
                  refine zi_getf dk_129_81 fl_13_154 md_0 rfl ?_
                  refine zj_iload_n dk_129_84 rfl ?_
                  refine md_iast (k := 17) (N := 16) dk_129_85 (by decide) rfl rfl (by omega) ?_
                  refine zi_aload_n dk_129_86 rfl rfl ?_
                  refine zi_getf dk_129_87 fl_13_62 md_0 rfl ?_
                  refine zi_aload_n dk_129_90 rfl rfl ?_
                  refine zi_getf dk_129_91 fl_13_154 md_0 rfl ?_
                  refine zj_iload_n dk_129_94 rfl ?_
                  refine md_iast (k := 18) (N := 16) dk_129_95 (by decide) rfl rfl (by omega) ?_
                  refine zi_aload_n dk_129_96 rfl rfl ?_
                  refine zi_getf dk_129_97 fl_13_65 md_0 rfl ?_
                  refine zi_aload_n dk_129_100 rfl rfl ?_
                  refine zi_getf dk_129_101 fl_13_154 md_0 rfl ?_
                  refine zj_iload_n dk_129_104 rfl ?_
                  refine md_iast (k := 19) (N := 16) dk_129_105 (by decide) rfl rfl (by omega) ?_
                  refine zi_aload_n dk_129_106 rfl rfl ?_
                  refine zi_dup dk_129_107 rfl ?_
                  refine zi_getf dk_129_108 fl_13_154 md_0 rfl ?_
                  refine zj_iconst dk_129_111 ?_
                  refine zj_iadd dk_129_112 ?_
                  refine md_putI dk_129_113 fp_129_154 md_s24 ?_
                  refine zi_aload_n dk_129_116 rfl rfl ?_
                  refine zi_getf dk_129_117 fl_13_154 md_0 rfl ?_
                  refine zj_iconst dk_129_120 ?_
                  refine zj_isub dk_129_121 ?_
                  refine zj_ireturn dk_129_122 rfl ⟨rfl, Or.inl ⟨⟨by omega, by omega, by unfold ex_ct; (repeat' split) <;> (first | omega | (split at c52 <;> first | omega | (split at c71 <;> omega)) | (split at c71 <;> omega))⟩, by congr 2; show V 24 + 1 - 1 = V 24; omega, rfl⟩⟩
                · skip
                  refine zj_iconst dk_129_74 ?_
                  refine zj_ireturn dk_129_75 rfl ⟨rfl, Or.inr ⟨fun hh => by have h3 := hh.2.2; unfold ex_ct at h3; (repeat' split at h3) <;> (first | omega | (split at c52 <;> first | omega | (split at c71 <;> omega)) | (split at c71 <;> omega)), rfl, rfl⟩⟩
          · skip
            refine zj_iload_n dk_129_41 rfl ?_
            refine zj_bipush dk_129_42 (by decide) ?_
            refine zj_icmp_gt (t := 55) dk_129_44 rfl (by omega) (fun c44 => ?_) (fun c44 => ?_)
            · skip
              refine zj_iload_n dk_129_55 rfl ?_
              refine zj_iconst dk_129_56 ?_
              refine zj_icmp_eq (t := 66) dk_129_57 rfl (by omega) (fun c57 => ?_) (fun c57 => ?_)
              · skip
                refine zi_aload_n dk_129_66 rfl rfl ?_
                refine zj_iload_n dk_129_67 rfl ?_
                refine zi_invV dk_129_68 ml_13_157 iv_130 (ct_130 (d := d - 1) hy hs) md_0 rfl rfl rfl (Nat.le_of_ble_eq_true rfl) (by omega) rfl rfl (fun r n' h' hq => ?_)
                obtain ⟨rfl, rfl, rfl⟩ := hq
                refine zj_if_ne (t := 76) dk_129_71 rfl (by split <;> omega) (fun c71 => ?_) (fun c71 => ?_)
                · skip
                  refine zi_aload_n dk_129_76 rfl rfl ?_
                  refine zi_getf dk_129_77 fl_13_59 md_0 rfl ?_
                  refine zi_aload_n dk_129_80 rfl rfl ?_
                  refine zi_getf dk_129_81 fl_13_154 md_0 rfl ?_
                  refine zj_iload_n dk_129_84 rfl ?_
                  refine md_iast (k := 17) (N := 16) dk_129_85 (by decide) rfl rfl (by omega) ?_
                  refine zi_aload_n dk_129_86 rfl rfl ?_
                  refine zi_getf dk_129_87 fl_13_62 md_0 rfl ?_
                  refine zi_aload_n dk_129_90 rfl rfl ?_
                  refine zi_getf dk_129_91 fl_13_154 md_0 rfl ?_
                  refine zj_iload_n dk_129_94 rfl ?_
                  refine md_iast (k := 18) (N := 16) dk_129_95 (by decide) rfl rfl (by omega) ?_
                  refine zi_aload_n dk_129_96 rfl rfl ?_
                  refine zi_getf dk_129_97 fl_13_65 md_0 rfl ?_
                  refine zi_aload_n dk_129_100 rfl rfl ?_
                  refine zi_getf dk_129_101 fl_13_154 md_0 rfl ?_
                  refine zj_iload_n dk_129_104 rfl ?_
                  refine md_iast (k := 19) (N := 16) dk_129_105 (by decide) rfl rfl (by omega) ?_
                  refine zi_aload_n dk_129_106 rfl rfl ?_
                  refine zi_dup dk_129_107 rfl ?_
                  refine zi_getf dk_129_108 fl_13_154 md_0 rfl ?_
                  refine zj_iconst dk_129_111 ?_
                  refine zj_iadd dk_129_112 ?_
                  refine md_putI dk_129_113 fp_129_154 md_s24 ?_
                  refine zi_aload_n dk_129_116 rfl rfl ?_
                  refine zi_getf dk_129_117 fl_13_154 md_0 rfl ?_
                  refine zj_iconst dk_129_120 ?_
                  refine zj_isub dk_129_121 ?_
                  refine zj_ireturn dk_129_122 rfl ⟨rfl, Or.inl ⟨⟨by omega, by omega, by unfold ex_ct; (repeat' split) <;> (first | omega | (split at c52 <;> first | omega | (split at c71 <;> omega)) | (split at c71 <;> omega))⟩, by congr 2; show V 24 + 1 - 1 = V 24; omega, rfl⟩⟩
                · skip
                  refine zj_iconst dk_129_74 ?_
                  refine zj_ireturn dk_129_75 rfl ⟨rfl, Or.inr ⟨fun hh => by have h3 := hh.2.2; unfold ex_ct at h3; (repeat' split at h3) <;> (first | omega | (split at c52 <;> first | omega | (split at c71 <;> omega)) | (split at c71 <;> omega)), rfl, rfl⟩⟩
              · skip
                refine zj_iload_n dk_129_60 rfl ?_
                refine zj_bipush dk_129_61 (by decide) ?_
                refine zj_icmp_ne (t := 76) dk_129_63 rfl (by omega) (fun c63 => ?_) (fun c63 => ?_)
                · skip
                  refine zi_aload_n dk_129_76 rfl rfl ?_
                  refine zi_getf dk_129_77 fl_13_59 md_0 rfl ?_
                  refine zi_aload_n dk_129_80 rfl rfl ?_
                  refine zi_getf dk_129_81 fl_13_154 md_0 rfl ?_
                  refine zj_iload_n dk_129_84 rfl ?_
                  refine md_iast (k := 17) (N := 16) dk_129_85 (by decide) rfl rfl (by omega) ?_
                  refine zi_aload_n dk_129_86 rfl rfl ?_
                  refine zi_getf dk_129_87 fl_13_62 md_0 rfl ?_
                  refine zi_aload_n dk_129_90 rfl rfl ?_
                  refine zi_getf dk_129_91 fl_13_154 md_0 rfl ?_
                  refine zj_iload_n dk_129_94 rfl ?_
                  refine md_iast (k := 18) (N := 16) dk_129_95 (by decide) rfl rfl (by omega) ?_
                  refine zi_aload_n dk_129_96 rfl rfl ?_
                  refine zi_getf dk_129_97 fl_13_65 md_0 rfl ?_
                  refine zi_aload_n dk_129_100 rfl rfl ?_
                  refine zi_getf dk_129_101 fl_13_154 md_0 rfl ?_
                  refine zj_iload_n dk_129_104 rfl ?_
                  refine md_iast (k := 19) (N := 16) dk_129_105 (by decide) rfl rfl (by omega) ?_
                  refine zi_aload_n dk_129_106 rfl rfl ?_
                  refine zi_dup dk_129_107 rfl ?_
                  refine zi_getf dk_129_108 fl_13_154 md_0 rfl ?_
                  refine zj_iconst dk_129_111 ?_
                  refine zj_iadd dk_129_112 ?_
                  refine md_putI dk_129_113 fp_129_154 md_s24 ?_
                  refine zi_aload_n dk_129_116 rfl rfl ?_
                  refine zi_getf dk_129_117 fl_13_154 md_0 rfl ?_
                  refine zj_iconst dk_129_120 ?_
                  refine zj_isub dk_129_121 ?_
                  refine zj_ireturn dk_129_122 rfl ⟨rfl, Or.inl ⟨⟨by omega, by omega, by unfold ex_ct; (repeat' split) <;> (first | omega | (split at c52 <;> first | omega | (split at c71 <;> omega)) | (split at c71 <;> omega))⟩, by congr 2; show V 24 + 1 - 1 = V 24; omega, rfl⟩⟩
                · skip
                  refine zi_aload_n dk_129_66 rfl rfl ?_
                  refine zj_iload_n dk_129_67 rfl ?_
                  refine zi_invV dk_129_68 ml_13_157 iv_130 (ct_130 (d := d - 1) hy hs) md_0 rfl rfl rfl (Nat.le_of_ble_eq_true rfl) (by omega) rfl rfl (fun r n' h' hq => ?_)
                  obtain ⟨rfl, rfl, rfl⟩ := hq
                  refine zj_if_ne (t := 76) dk_129_71 rfl (by split <;> omega) (fun c71 => ?_) (fun c71 => ?_)
                  · skip
                    refine zi_aload_n dk_129_76 rfl rfl ?_
                    refine zi_getf dk_129_77 fl_13_59 md_0 rfl ?_
                    refine zi_aload_n dk_129_80 rfl rfl ?_
                    refine zi_getf dk_129_81 fl_13_154 md_0 rfl ?_
                    refine zj_iload_n dk_129_84 rfl ?_
                    refine md_iast (k := 17) (N := 16) dk_129_85 (by decide) rfl rfl (by omega) ?_
                    refine zi_aload_n dk_129_86 rfl rfl ?_
                    refine zi_getf dk_129_87 fl_13_62 md_0 rfl ?_
                    refine zi_aload_n dk_129_90 rfl rfl ?_
                    refine zi_getf dk_129_91 fl_13_154 md_0 rfl ?_
                    refine zj_iload_n dk_129_94 rfl ?_
                    refine md_iast (k := 18) (N := 16) dk_129_95 (by decide) rfl rfl (by omega) ?_
                    refine zi_aload_n dk_129_96 rfl rfl ?_
                    refine zi_getf dk_129_97 fl_13_65 md_0 rfl ?_
                    refine zi_aload_n dk_129_100 rfl rfl ?_
                    refine zi_getf dk_129_101 fl_13_154 md_0 rfl ?_
                    refine zj_iload_n dk_129_104 rfl ?_
                    refine md_iast (k := 19) (N := 16) dk_129_105 (by decide) rfl rfl (by omega) ?_
                    refine zi_aload_n dk_129_106 rfl rfl ?_
                    refine zi_dup dk_129_107 rfl ?_
                    refine zi_getf dk_129_108 fl_13_154 md_0 rfl ?_
                    refine zj_iconst dk_129_111 ?_
                    refine zj_iadd dk_129_112 ?_
                    refine md_putI dk_129_113 fp_129_154 md_s24 ?_
                    refine zi_aload_n dk_129_116 rfl rfl ?_
                    refine zi_getf dk_129_117 fl_13_154 md_0 rfl ?_
                    refine zj_iconst dk_129_120 ?_
                    refine zj_isub dk_129_121 ?_
                    refine zj_ireturn dk_129_122 rfl ⟨rfl, Or.inl ⟨⟨by omega, by omega, by unfold ex_ct; (repeat' split) <;> (first | omega | (split at c52 <;> first | omega | (split at c71 <;> omega)) | (split at c71 <;> omega))⟩, by congr 2; show V 24 + 1 - 1 = V 24; omega, rfl⟩⟩
                  · skip
                    refine zj_iconst dk_129_74 ?_
                    refine zj_ireturn dk_129_75 rfl ⟨rfl, Or.inr ⟨fun hh => by have h3 := hh.2.2; unfold ex_ct at h3; (repeat' split at h3) <;> (first | omega | (split at c52 <;> first | omega | (split at c71 <;> omega)) | (split at c71 <;> omega)), rfl, rfl⟩⟩
            · skip
              refine zi_aload_n dk_129_47 rfl rfl ?_
              refine zj_iload_n dk_129_48 rfl ?_
              refine zi_invV dk_129_49 ml_13_157 iv_130 (ct_130 (d := d - 1) hx hs) md_0 rfl rfl rfl (Nat.le_of_ble_eq_true rfl) (by omega) rfl rfl (fun r n' h' hq => ?_)
              obtain ⟨rfl, rfl, rfl⟩ := hq
              refine zj_if_eq (t := 74) dk_129_52 rfl (by split <;> omega) (fun c52 => ?_) (fun c52 => ?_)
              · skip
                refine zj_iconst dk_129_74 ?_
                refine zj_ireturn dk_129_75 rfl ⟨rfl, Or.inr ⟨fun hh => by have h3 := hh.2.2; unfold ex_ct at h3; (repeat' split at h3) <;> (first | omega | (split at c52 <;> first | omega | (split at c71 <;> omega)) | (split at c71 <;> omega)), rfl, rfl⟩⟩
              · skip
                refine zj_iload_n dk_129_55 rfl ?_
                refine zj_iconst dk_129_56 ?_
                refine zj_icmp_eq (t := 66) dk_129_57 rfl (by omega) (fun c57 => ?_) (fun c57 => ?_)
                · skip
                  refine zi_aload_n dk_129_66 rfl rfl ?_
                  refine zj_iload_n dk_129_67 rfl ?_
                  refine zi_invV dk_129_68 ml_13_157 iv_130 (ct_130 (d := d - 1) hy hs) md_0 rfl rfl rfl (Nat.le_of_ble_eq_true rfl) (by omega) rfl rfl (fun r n' h' hq => ?_)
                  obtain ⟨rfl, rfl, rfl⟩ := hq
                  refine zj_if_ne (t := 76) dk_129_71 rfl (by split <;> omega) (fun c71 => ?_) (fun c71 => ?_)
                  · skip
                    refine zi_aload_n dk_129_76 rfl rfl ?_
                    refine zi_getf dk_129_77 fl_13_59 md_0 rfl ?_
                    refine zi_aload_n dk_129_80 rfl rfl ?_
                    refine zi_getf dk_129_81 fl_13_154 md_0 rfl ?_
                    refine zj_iload_n dk_129_84 rfl ?_
                    refine md_iast (k := 17) (N := 16) dk_129_85 (by decide) rfl rfl (by omega) ?_
                    refine zi_aload_n dk_129_86 rfl rfl ?_
                    refine zi_getf dk_129_87 fl_13_62 md_0 rfl ?_
                    refine zi_aload_n dk_129_90 rfl rfl ?_
                    refine zi_getf dk_129_91 fl_13_154 md_0 rfl ?_
                    refine zj_iload_n dk_129_94 rfl ?_
                    refine md_iast (k := 18) (N := 16) dk_129_95 (by decide) rfl rfl (by omega) ?_
                    refine zi_aload_n dk_129_96 rfl rfl ?_
                    refine zi_getf dk_129_97 fl_13_65 md_0 rfl ?_
                    refine zi_aload_n dk_129_100 rfl rfl ?_
                    refine zi_getf dk_129_101 fl_13_154 md_0 rfl ?_
                    refine zj_iload_n dk_129_104 rfl ?_
                    refine md_iast (k := 19) (N := 16) dk_129_105 (by decide) rfl rfl (by omega) ?_
                    refine zi_aload_n dk_129_106 rfl rfl ?_
                    refine zi_dup dk_129_107 rfl ?_
                    refine zi_getf dk_129_108 fl_13_154 md_0 rfl ?_
                    refine zj_iconst dk_129_111 ?_
                    refine zj_iadd dk_129_112 ?_
                    refine md_putI dk_129_113 fp_129_154 md_s24 ?_
                    refine zi_aload_n dk_129_116 rfl rfl ?_
                    refine zi_getf dk_129_117 fl_13_154 md_0 rfl ?_
                    refine zj_iconst dk_129_120 ?_
                    refine zj_isub dk_129_121 ?_
                    refine zj_ireturn dk_129_122 rfl ⟨rfl, Or.inl ⟨⟨by omega, by omega, by unfold ex_ct; (repeat' split) <;> (first | omega | (split at c52 <;> first | omega | (split at c71 <;> omega)) | (split at c71 <;> omega))⟩, by congr 2; show V 24 + 1 - 1 = V 24; omega, rfl⟩⟩
                  · skip
                    refine zj_iconst dk_129_74 ?_
                    refine zj_ireturn dk_129_75 rfl ⟨rfl, Or.inr ⟨fun hh => by have h3 := hh.2.2; unfold ex_ct at h3; (repeat' split at h3) <;> (first | omega | (split at c52 <;> first | omega | (split at c71 <;> omega)) | (split at c71 <;> omega)), rfl, rfl⟩⟩
                · skip
                  refine zj_iload_n dk_129_60 rfl ?_
                  refine zj_bipush dk_129_61 (by decide) ?_
                  refine zj_icmp_ne (t := 76) dk_129_63 rfl (by omega) (fun c63 => ?_) (fun c63 => ?_)
                  · skip
                    refine zi_aload_n dk_129_76 rfl rfl ?_
                    refine zi_getf dk_129_77 fl_13_59 md_0 rfl ?_
                    refine zi_aload_n dk_129_80 rfl rfl ?_
                    refine zi_getf dk_129_81 fl_13_154 md_0 rfl ?_
                    refine zj_iload_n dk_129_84 rfl ?_
                    refine md_iast (k := 17) (N := 16) dk_129_85 (by decide) rfl rfl (by omega) ?_
                    refine zi_aload_n dk_129_86 rfl rfl ?_
                    refine zi_getf dk_129_87 fl_13_62 md_0 rfl ?_
                    refine zi_aload_n dk_129_90 rfl rfl ?_
                    refine zi_getf dk_129_91 fl_13_154 md_0 rfl ?_
                    refine zj_iload_n dk_129_94 rfl ?_
                    refine md_iast (k := 18) (N := 16) dk_129_95 (by decide) rfl rfl (by omega) ?_
                    refine zi_aload_n dk_129_96 rfl rfl ?_
                    refine zi_getf dk_129_97 fl_13_65 md_0 rfl ?_
                    refine zi_aload_n dk_129_100 rfl rfl ?_
                    refine zi_getf dk_129_101 fl_13_154 md_0 rfl ?_
                    refine zj_iload_n dk_129_104 rfl ?_
                    refine md_iast (k := 19) (N := 16) dk_129_105 (by decide) rfl rfl (by omega) ?_
                    refine zi_aload_n dk_129_106 rfl rfl ?_
                    refine zi_dup dk_129_107 rfl ?_
                    refine zi_getf dk_129_108 fl_13_154 md_0 rfl ?_
                    refine zj_iconst dk_129_111 ?_
                    refine zj_iadd dk_129_112 ?_
                    refine md_putI dk_129_113 fp_129_154 md_s24 ?_
                    refine zi_aload_n dk_129_116 rfl rfl ?_
                    refine zi_getf dk_129_117 fl_13_154 md_0 rfl ?_
                    refine zj_iconst dk_129_120 ?_
                    refine zj_isub dk_129_121 ?_
                    refine zj_ireturn dk_129_122 rfl ⟨rfl, Or.inl ⟨⟨by omega, by omega, by unfold ex_ct; (repeat' split) <;> (first | omega | (split at c52 <;> first | omega | (split at c71 <;> omega)) | (split at c71 <;> omega))⟩, by congr 2; show V 24 + 1 - 1 = V 24; omega, rfl⟩⟩
                  · skip
                    refine zi_aload_n dk_129_66 rfl rfl ?_
                    refine zj_iload_n dk_129_67 rfl ?_
                    refine zi_invV dk_129_68 ml_13_157 iv_130 (ct_130 (d := d - 1) hy hs) md_0 rfl rfl rfl (Nat.le_of_ble_eq_true rfl) (by omega) rfl rfl (fun r n' h' hq => ?_)
                    obtain ⟨rfl, rfl, rfl⟩ := hq
                    refine zj_if_ne (t := 76) dk_129_71 rfl (by split <;> omega) (fun c71 => ?_) (fun c71 => ?_)
                    · skip
                      refine zi_aload_n dk_129_76 rfl rfl ?_
                      refine zi_getf dk_129_77 fl_13_59 md_0 rfl ?_
                      refine zi_aload_n dk_129_80 rfl rfl ?_
                      refine zi_getf dk_129_81 fl_13_154 md_0 rfl ?_
                      refine zj_iload_n dk_129_84 rfl ?_
                      refine md_iast (k := 17) (N := 16) dk_129_85 (by decide) rfl rfl (by omega) ?_
                      refine zi_aload_n dk_129_86 rfl rfl ?_
                      refine zi_getf dk_129_87 fl_13_62 md_0 rfl ?_
                      refine zi_aload_n dk_129_90 rfl rfl ?_
                      refine zi_getf dk_129_91 fl_13_154 md_0 rfl ?_
                      refine zj_iload_n dk_129_94 rfl ?_
                      refine md_iast (k := 18) (N := 16) dk_129_95 (by decide) rfl rfl (by omega) ?_
                      refine zi_aload_n dk_129_96 rfl rfl ?_
                      refine zi_getf dk_129_97 fl_13_65 md_0 rfl ?_
                      refine zi_aload_n dk_129_100 rfl rfl ?_
                      refine zi_getf dk_129_101 fl_13_154 md_0 rfl ?_
                      refine zj_iload_n dk_129_104 rfl ?_
                      refine md_iast (k := 19) (N := 16) dk_129_105 (by decide) rfl rfl (by omega) ?_
                      refine zi_aload_n dk_129_106 rfl rfl ?_
                      refine zi_dup dk_129_107 rfl ?_
                      refine zi_getf dk_129_108 fl_13_154 md_0 rfl ?_
                      refine zj_iconst dk_129_111 ?_
                      refine zj_iadd dk_129_112 ?_
                      refine md_putI dk_129_113 fp_129_154 md_s24 ?_
                      refine zi_aload_n dk_129_116 rfl rfl ?_
                      refine zi_getf dk_129_117 fl_13_154 md_0 rfl ?_
                      refine zj_iconst dk_129_120 ?_
                      refine zj_isub dk_129_121 ?_
                      refine zj_ireturn dk_129_122 rfl ⟨rfl, Or.inl ⟨⟨by omega, by omega, by unfold ex_ct; (repeat' split) <;> (first | omega | (split at c52 <;> first | omega | (split at c71 <;> omega)) | (split at c71 <;> omega))⟩, by congr 2; show V 24 + 1 - 1 = V 24; omega, rfl⟩⟩
                    · skip
                      refine zj_iconst dk_129_74 ?_
                      refine zj_ireturn dk_129_75 rfl ⟨rfl, Or.inr ⟨fun hh => by have h3 := hh.2.2; unfold ex_ct at h3; (repeat' split at h3) <;> (first | omega | (split at c52 <;> first | omega | (split at c71 <;> omega)) | (split at c71 <;> omega)), rfl, rfl⟩⟩
        · skip
          refine zj_iload_n dk_129_26 rfl ?_
          refine zj_if_lt (t := 74) dk_129_27 rfl (by omega) (fun c27 => ?_) (fun c27 => ?_)
          · skip
            refine zj_iconst dk_129_74 ?_
            refine zj_ireturn dk_129_75 rfl ⟨rfl, Or.inr ⟨fun hh => by have h3 := hh.2.2; unfold ex_ct at h3; (repeat' split at h3) <;> (first | omega | (split at c52 <;> first | omega | (split at c71 <;> omega)) | (split at c71 <;> omega)), rfl, rfl⟩⟩
          · skip
            refine zj_iload_n dk_129_30 rfl ?_
            refine zj_bipush dk_129_31 (by decide) ?_
            refine zj_icmp_gt (t := 74) dk_129_33 rfl (by omega) (fun c33 => ?_) (fun c33 => ?_)
            · skip
              refine zj_iconst dk_129_74 ?_
              refine zj_ireturn dk_129_75 rfl ⟨rfl, Or.inr ⟨fun hh => by have h3 := hh.2.2; unfold ex_ct at h3; (repeat' split at h3) <;> (first | omega | (split at c52 <;> first | omega | (split at c71 <;> omega)) | (split at c71 <;> omega)), rfl, rfl⟩⟩
            · skip
              refine zj_iload_n dk_129_36 rfl ?_
              refine zj_iconst dk_129_37 ?_
              refine zj_icmp_lt (t := 55) dk_129_38 rfl (by omega) (fun c38 => ?_) (fun c38 => ?_)
              · skip
                refine zj_iload_n dk_129_55 rfl ?_
                refine zj_iconst dk_129_56 ?_
                refine zj_icmp_eq (t := 66) dk_129_57 rfl (by omega) (fun c57 => ?_) (fun c57 => ?_)
                · skip
                  refine zi_aload_n dk_129_66 rfl rfl ?_
                  refine zj_iload_n dk_129_67 rfl ?_
                  refine zi_invV dk_129_68 ml_13_157 iv_130 (ct_130 (d := d - 1) hy hs) md_0 rfl rfl rfl (Nat.le_of_ble_eq_true rfl) (by omega) rfl rfl (fun r n' h' hq => ?_)
                  obtain ⟨rfl, rfl, rfl⟩ := hq
                  refine zj_if_ne (t := 76) dk_129_71 rfl (by split <;> omega) (fun c71 => ?_) (fun c71 => ?_)
                  · skip
                    refine zi_aload_n dk_129_76 rfl rfl ?_
                    refine zi_getf dk_129_77 fl_13_59 md_0 rfl ?_
                    refine zi_aload_n dk_129_80 rfl rfl ?_
                    refine zi_getf dk_129_81 fl_13_154 md_0 rfl ?_
                    refine zj_iload_n dk_129_84 rfl ?_
                    refine md_iast (k := 17) (N := 16) dk_129_85 (by decide) rfl rfl (by omega) ?_
                    refine zi_aload_n dk_129_86 rfl rfl ?_
                    refine zi_getf dk_129_87 fl_13_62 md_0 rfl ?_
                    refine zi_aload_n dk_129_90 rfl rfl ?_
                    refine zi_getf dk_129_91 fl_13_154 md_0 rfl ?_
                    refine zj_iload_n dk_129_94 rfl ?_
                    refine md_iast (k := 18) (N := 16) dk_129_95 (by decide) rfl rfl (by omega) ?_
                    refine zi_aload_n dk_129_96 rfl rfl ?_
                    refine zi_getf dk_129_97 fl_13_65 md_0 rfl ?_
                    refine zi_aload_n dk_129_100 rfl rfl ?_
                    refine zi_getf dk_129_101 fl_13_154 md_0 rfl ?_
                    refine zj_iload_n dk_129_104 rfl ?_
                    refine md_iast (k := 19) (N := 16) dk_129_105 (by decide) rfl rfl (by omega) ?_
                    refine zi_aload_n dk_129_106 rfl rfl ?_
                    refine zi_dup dk_129_107 rfl ?_
                    refine zi_getf dk_129_108 fl_13_154 md_0 rfl ?_
                    refine zj_iconst dk_129_111 ?_
                    refine zj_iadd dk_129_112 ?_
                    refine md_putI dk_129_113 fp_129_154 md_s24 ?_
                    refine zi_aload_n dk_129_116 rfl rfl ?_
                    refine zi_getf dk_129_117 fl_13_154 md_0 rfl ?_
                    refine zj_iconst dk_129_120 ?_
                    refine zj_isub dk_129_121 ?_
                    refine zj_ireturn dk_129_122 rfl ⟨rfl, Or.inl ⟨⟨by omega, by omega, by unfold ex_ct; (repeat' split) <;> (first | omega | (split at c52 <;> first | omega | (split at c71 <;> omega)) | (split at c71 <;> omega))⟩, by congr 2; show V 24 + 1 - 1 = V 24; omega, rfl⟩⟩
                  · skip
                    refine zj_iconst dk_129_74 ?_
                    refine zj_ireturn dk_129_75 rfl ⟨rfl, Or.inr ⟨fun hh => by have h3 := hh.2.2; unfold ex_ct at h3; (repeat' split at h3) <;> (first | omega | (split at c52 <;> first | omega | (split at c71 <;> omega)) | (split at c71 <;> omega)), rfl, rfl⟩⟩
                · skip
                  refine zj_iload_n dk_129_60 rfl ?_
                  refine zj_bipush dk_129_61 (by decide) ?_
                  refine zj_icmp_ne (t := 76) dk_129_63 rfl (by omega) (fun c63 => ?_) (fun c63 => ?_)
                  · skip
                    refine zi_aload_n dk_129_76 rfl rfl ?_
                    refine zi_getf dk_129_77 fl_13_59 md_0 rfl ?_
                    refine zi_aload_n dk_129_80 rfl rfl ?_
                    refine zi_getf dk_129_81 fl_13_154 md_0 rfl ?_
                    refine zj_iload_n dk_129_84 rfl ?_
                    refine md_iast (k := 17) (N := 16) dk_129_85 (by decide) rfl rfl (by omega) ?_
                    refine zi_aload_n dk_129_86 rfl rfl ?_
                    refine zi_getf dk_129_87 fl_13_62 md_0 rfl ?_
                    refine zi_aload_n dk_129_90 rfl rfl ?_
                    refine zi_getf dk_129_91 fl_13_154 md_0 rfl ?_
                    refine zj_iload_n dk_129_94 rfl ?_
                    refine md_iast (k := 18) (N := 16) dk_129_95 (by decide) rfl rfl (by omega) ?_
                    refine zi_aload_n dk_129_96 rfl rfl ?_
                    refine zi_getf dk_129_97 fl_13_65 md_0 rfl ?_
                    refine zi_aload_n dk_129_100 rfl rfl ?_
                    refine zi_getf dk_129_101 fl_13_154 md_0 rfl ?_
                    refine zj_iload_n dk_129_104 rfl ?_
                    refine md_iast (k := 19) (N := 16) dk_129_105 (by decide) rfl rfl (by omega) ?_
                    refine zi_aload_n dk_129_106 rfl rfl ?_
                    refine zi_dup dk_129_107 rfl ?_
                    refine zi_getf dk_129_108 fl_13_154 md_0 rfl ?_
                    refine zj_iconst dk_129_111 ?_
                    refine zj_iadd dk_129_112 ?_
                    refine md_putI dk_129_113 fp_129_154 md_s24 ?_
                    refine zi_aload_n dk_129_116 rfl rfl ?_
                    refine zi_getf dk_129_117 fl_13_154 md_0 rfl ?_
                    refine zj_iconst dk_129_120 ?_
                    refine zj_isub dk_129_121 ?_
                    refine zj_ireturn dk_129_122 rfl ⟨rfl, Or.inl ⟨⟨by omega, by omega, by unfold ex_ct; (repeat' split) <;> (first | omega | (split at c52 <;> first | omega | (split at c71 <;> omega)) | (split at c71 <;> omega))⟩, by congr 2; show V 24 + 1 - 1 = V 24; omega, rfl⟩⟩
                  · skip
                    refine zi_aload_n dk_129_66 rfl rfl ?_
                    refine zj_iload_n dk_129_67 rfl ?_
                    refine zi_invV dk_129_68 ml_13_157 iv_130 (ct_130 (d := d - 1) hy hs) md_0 rfl rfl rfl (Nat.le_of_ble_eq_true rfl) (by omega) rfl rfl (fun r n' h' hq => ?_)
                    obtain ⟨rfl, rfl, rfl⟩ := hq
                    refine zj_if_ne (t := 76) dk_129_71 rfl (by split <;> omega) (fun c71 => ?_) (fun c71 => ?_)
                    · skip
                      refine zi_aload_n dk_129_76 rfl rfl ?_
                      refine zi_getf dk_129_77 fl_13_59 md_0 rfl ?_
                      refine zi_aload_n dk_129_80 rfl rfl ?_
                      refine zi_getf dk_129_81 fl_13_154 md_0 rfl ?_
                      refine zj_iload_n dk_129_84 rfl ?_
                      refine md_iast (k := 17) (N := 16) dk_129_85 (by decide) rfl rfl (by omega) ?_
                      refine zi_aload_n dk_129_86 rfl rfl ?_
                      refine zi_getf dk_129_87 fl_13_62 md_0 rfl ?_
                      refine zi_aload_n dk_129_90 rfl rfl ?_
                      refine zi_getf dk_129_91 fl_13_154 md_0 rfl ?_
                      refine zj_iload_n dk_129_94 rfl ?_
                      refine md_iast (k := 18) (N := 16) dk_129_95 (by decide) rfl rfl (by omega) ?_
                      refine zi_aload_n dk_129_96 rfl rfl ?_
                      refine zi_getf dk_129_97 fl_13_65 md_0 rfl ?_
                      refine zi_aload_n dk_129_100 rfl rfl ?_
                      refine zi_getf dk_129_101 fl_13_154 md_0 rfl ?_
                      refine zj_iload_n dk_129_104 rfl ?_
                      refine md_iast (k := 19) (N := 16) dk_129_105 (by decide) rfl rfl (by omega) ?_
                      refine zi_aload_n dk_129_106 rfl rfl ?_
                      refine zi_dup dk_129_107 rfl ?_
                      refine zi_getf dk_129_108 fl_13_154 md_0 rfl ?_
                      refine zj_iconst dk_129_111 ?_
                      refine zj_iadd dk_129_112 ?_
                      refine md_putI dk_129_113 fp_129_154 md_s24 ?_
                      refine zi_aload_n dk_129_116 rfl rfl ?_
                      refine zi_getf dk_129_117 fl_13_154 md_0 rfl ?_
                      refine zj_iconst dk_129_120 ?_
                      refine zj_isub dk_129_121 ?_
                      refine zj_ireturn dk_129_122 rfl ⟨rfl, Or.inl ⟨⟨by omega, by omega, by unfold ex_ct; (repeat' split) <;> (first | omega | (split at c52 <;> first | omega | (split at c71 <;> omega)) | (split at c71 <;> omega))⟩, by congr 2; show V 24 + 1 - 1 = V 24; omega, rfl⟩⟩
                    · skip
                      refine zj_iconst dk_129_74 ?_
                      refine zj_ireturn dk_129_75 rfl ⟨rfl, Or.inr ⟨fun hh => by have h3 := hh.2.2; unfold ex_ct at h3; (repeat' split at h3) <;> (first | omega | (split at c52 <;> first | omega | (split at c71 <;> omega)) | (split at c71 <;> omega)), rfl, rfl⟩⟩
              · skip
                refine zj_iload_n dk_129_41 rfl ?_
                refine zj_bipush dk_129_42 (by decide) ?_
                refine zj_icmp_gt (t := 55) dk_129_44 rfl (by omega) (fun c44 => ?_) (fun c44 => ?_)
                · skip
                  refine zj_iload_n dk_129_55 rfl ?_
                  refine zj_iconst dk_129_56 ?_
                  refine zj_icmp_eq (t := 66) dk_129_57 rfl (by omega) (fun c57 => ?_) (fun c57 => ?_)
                  · skip
                    refine zi_aload_n dk_129_66 rfl rfl ?_
                    refine zj_iload_n dk_129_67 rfl ?_
                    refine zi_invV dk_129_68 ml_13_157 iv_130 (ct_130 (d := d - 1) hy hs) md_0 rfl rfl rfl (Nat.le_of_ble_eq_true rfl) (by omega) rfl rfl (fun r n' h' hq => ?_)
                    obtain ⟨rfl, rfl, rfl⟩ := hq
                    refine zj_if_ne (t := 76) dk_129_71 rfl (by split <;> omega) (fun c71 => ?_) (fun c71 => ?_)
                    · skip
                      refine zi_aload_n dk_129_76 rfl rfl ?_
                      refine zi_getf dk_129_77 fl_13_59 md_0 rfl ?_
                      refine zi_aload_n dk_129_80 rfl rfl ?_
                      refine zi_getf dk_129_81 fl_13_154 md_0 rfl ?_
                      refine zj_iload_n dk_129_84 rfl ?_
                      refine md_iast (k := 17) (N := 16) dk_129_85 (by decide) rfl rfl (by omega) ?_
                      refine zi_aload_n dk_129_86 rfl rfl ?_
                      refine zi_getf dk_129_87 fl_13_62 md_0 rfl ?_
                      refine zi_aload_n dk_129_90 rfl rfl ?_
                      refine zi_getf dk_129_91 fl_13_154 md_0 rfl ?_
                      refine zj_iload_n dk_129_94 rfl ?_
                      refine md_iast (k := 18) (N := 16) dk_129_95 (by decide) rfl rfl (by omega) ?_
                      refine zi_aload_n dk_129_96 rfl rfl ?_
                      refine zi_getf dk_129_97 fl_13_65 md_0 rfl ?_
                      refine zi_aload_n dk_129_100 rfl rfl ?_
                      refine zi_getf dk_129_101 fl_13_154 md_0 rfl ?_
                      refine zj_iload_n dk_129_104 rfl ?_
                      refine md_iast (k := 19) (N := 16) dk_129_105 (by decide) rfl rfl (by omega) ?_
                      refine zi_aload_n dk_129_106 rfl rfl ?_
                      refine zi_dup dk_129_107 rfl ?_
                      refine zi_getf dk_129_108 fl_13_154 md_0 rfl ?_
                      refine zj_iconst dk_129_111 ?_
                      refine zj_iadd dk_129_112 ?_
                      refine md_putI dk_129_113 fp_129_154 md_s24 ?_
                      refine zi_aload_n dk_129_116 rfl rfl ?_
                      refine zi_getf dk_129_117 fl_13_154 md_0 rfl ?_
                      refine zj_iconst dk_129_120 ?_
                      refine zj_isub dk_129_121 ?_
                      refine zj_ireturn dk_129_122 rfl ⟨rfl, Or.inl ⟨⟨by omega, by omega, by unfold ex_ct; (repeat' split) <;> (first | omega | (split at c52 <;> first | omega | (split at c71 <;> omega)) | (split at c71 <;> omega))⟩, by congr 2; show V 24 + 1 - 1 = V 24; omega, rfl⟩⟩
                    · skip
                      refine zj_iconst dk_129_74 ?_
                      refine zj_ireturn dk_129_75 rfl ⟨rfl, Or.inr ⟨fun hh => by have h3 := hh.2.2; unfold ex_ct at h3; (repeat' split at h3) <;> (first | omega | (split at c52 <;> first | omega | (split at c71 <;> omega)) | (split at c71 <;> omega)), rfl, rfl⟩⟩
                  · skip
                    refine zj_iload_n dk_129_60 rfl ?_
                    refine zj_bipush dk_129_61 (by decide) ?_
                    refine zj_icmp_ne (t := 76) dk_129_63 rfl (by omega) (fun c63 => ?_) (fun c63 => ?_)
                    · skip
                      refine zi_aload_n dk_129_76 rfl rfl ?_
                      refine zi_getf dk_129_77 fl_13_59 md_0 rfl ?_
                      refine zi_aload_n dk_129_80 rfl rfl ?_
                      refine zi_getf dk_129_81 fl_13_154 md_0 rfl ?_
                      refine zj_iload_n dk_129_84 rfl ?_
                      refine md_iast (k := 17) (N := 16) dk_129_85 (by decide) rfl rfl (by omega) ?_
                      refine zi_aload_n dk_129_86 rfl rfl ?_
                      refine zi_getf dk_129_87 fl_13_62 md_0 rfl ?_
                      refine zi_aload_n dk_129_90 rfl rfl ?_
                      refine zi_getf dk_129_91 fl_13_154 md_0 rfl ?_
                      refine zj_iload_n dk_129_94 rfl ?_
                      refine md_iast (k := 18) (N := 16) dk_129_95 (by decide) rfl rfl (by omega) ?_
                      refine zi_aload_n dk_129_96 rfl rfl ?_
                      refine zi_getf dk_129_97 fl_13_65 md_0 rfl ?_
                      refine zi_aload_n dk_129_100 rfl rfl ?_
                      refine zi_getf dk_129_101 fl_13_154 md_0 rfl ?_
                      refine zj_iload_n dk_129_104 rfl ?_
                      refine md_iast (k := 19) (N := 16) dk_129_105 (by decide) rfl rfl (by omega) ?_
                      refine zi_aload_n dk_129_106 rfl rfl ?_
                      refine zi_dup dk_129_107 rfl ?_
                      refine zi_getf dk_129_108 fl_13_154 md_0 rfl ?_
                      refine zj_iconst dk_129_111 ?_
                      refine zj_iadd dk_129_112 ?_
                      refine md_putI dk_129_113 fp_129_154 md_s24 ?_
                      refine zi_aload_n dk_129_116 rfl rfl ?_
                      refine zi_getf dk_129_117 fl_13_154 md_0 rfl ?_
                      refine zj_iconst dk_129_120 ?_
                      refine zj_isub dk_129_121 ?_
                      refine zj_ireturn dk_129_122 rfl ⟨rfl, Or.inl ⟨⟨by omega, by omega, by unfold ex_ct; (repeat' split) <;> (first | omega | (split at c52 <;> first | omega | (split at c71 <;> omega)) | (split at c71 <;> omega))⟩, by congr 2; show V 24 + 1 - 1 = V 24; omega, rfl⟩⟩
                    · skip
                      refine zi_aload_n dk_129_66 rfl rfl ?_
                      refine zj_iload_n dk_129_67 rfl ?_
                      refine zi_invV dk_129_68 ml_13_157 iv_130 (ct_130 (d := d - 1) hy hs) md_0 rfl rfl rfl (Nat.le_of_ble_eq_true rfl) (by omega) rfl rfl (fun r n' h' hq => ?_)
                      obtain ⟨rfl, rfl, rfl⟩ := hq
                      refine zj_if_ne (t := 76) dk_129_71 rfl (by split <;> omega) (fun c71 => ?_) (fun c71 => ?_)
                      · skip
                        refine zi_aload_n dk_129_76 rfl rfl ?_
                        refine zi_getf dk_129_77 fl_13_59 md_0 rfl ?_
                        refine zi_aload_n dk_129_80 rfl rfl ?_
                        refine zi_getf dk_129_81 fl_13_154 md_0 rfl ?_
                        refine zj_iload_n dk_129_84 rfl ?_
                        refine md_iast (k := 17) (N := 16) dk_129_85 (by decide) rfl rfl (by omega) ?_
                        refine zi_aload_n dk_129_86 rfl rfl ?_
                        refine zi_getf dk_129_87 fl_13_62 md_0 rfl ?_
                        refine zi_aload_n dk_129_90 rfl rfl ?_
                        refine zi_getf dk_129_91 fl_13_154 md_0 rfl ?_
                        refine zj_iload_n dk_129_94 rfl ?_
                        refine md_iast (k := 18) (N := 16) dk_129_95 (by decide) rfl rfl (by omega) ?_
                        refine zi_aload_n dk_129_96 rfl rfl ?_
                        refine zi_getf dk_129_97 fl_13_65 md_0 rfl ?_
                        refine zi_aload_n dk_129_100 rfl rfl ?_
                        refine zi_getf dk_129_101 fl_13_154 md_0 rfl ?_
                        refine zj_iload_n dk_129_104 rfl ?_
                        refine md_iast (k := 19) (N := 16) dk_129_105 (by decide) rfl rfl (by omega) ?_
                        refine zi_aload_n dk_129_106 rfl rfl ?_
                        refine zi_dup dk_129_107 rfl ?_
                        refine zi_getf dk_129_108 fl_13_154 md_0 rfl ?_
                        refine zj_iconst dk_129_111 ?_
                        refine zj_iadd dk_129_112 ?_
                        refine md_putI dk_129_113 fp_129_154 md_s24 ?_
                        refine zi_aload_n dk_129_116 rfl rfl ?_
                        refine zi_getf dk_129_117 fl_13_154 md_0 rfl ?_
                        refine zj_iconst dk_129_120 ?_
                        refine zj_isub dk_129_121 ?_
                        refine zj_ireturn dk_129_122 rfl ⟨rfl, Or.inl ⟨⟨by omega, by omega, by unfold ex_ct; (repeat' split) <;> (first | omega | (split at c52 <;> first | omega | (split at c71 <;> omega)) | (split at c71 <;> omega))⟩, by congr 2; show V 24 + 1 - 1 = V 24; omega, rfl⟩⟩
                      · skip
                        refine zj_iconst dk_129_74 ?_
                        refine zj_ireturn dk_129_75 rfl ⟨rfl, Or.inr ⟨fun hh => by have h3 := hh.2.2; unfold ex_ct at h3; (repeat' split at h3) <;> (first | omega | (split at c52 <;> first | omega | (split at c71 <;> omega)) | (split at c71 <;> omega)), rfl, rfl⟩⟩
                · skip
                  refine zi_aload_n dk_129_47 rfl rfl ?_
                  refine zj_iload_n dk_129_48 rfl ?_
                  refine zi_invV dk_129_49 ml_13_157 iv_130 (ct_130 (d := d - 1) hx hs) md_0 rfl rfl rfl (Nat.le_of_ble_eq_true rfl) (by omega) rfl rfl (fun r n' h' hq => ?_)
                  obtain ⟨rfl, rfl, rfl⟩ := hq
                  refine zj_if_eq (t := 74) dk_129_52 rfl (by split <;> omega) (fun c52 => ?_) (fun c52 => ?_)
                  · skip
                    refine zj_iconst dk_129_74 ?_
                    refine zj_ireturn dk_129_75 rfl ⟨rfl, Or.inr ⟨fun hh => by have h3 := hh.2.2; unfold ex_ct at h3; (repeat' split at h3) <;> (first | omega | (split at c52 <;> first | omega | (split at c71 <;> omega)) | (split at c71 <;> omega)), rfl, rfl⟩⟩
                  · skip
                    refine zj_iload_n dk_129_55 rfl ?_
                    refine zj_iconst dk_129_56 ?_
                    refine zj_icmp_eq (t := 66) dk_129_57 rfl (by omega) (fun c57 => ?_) (fun c57 => ?_)
                    · skip
                      refine zi_aload_n dk_129_66 rfl rfl ?_
                      refine zj_iload_n dk_129_67 rfl ?_
                      refine zi_invV dk_129_68 ml_13_157 iv_130 (ct_130 (d := d - 1) hy hs) md_0 rfl rfl rfl (Nat.le_of_ble_eq_true rfl) (by omega) rfl rfl (fun r n' h' hq => ?_)
                      obtain ⟨rfl, rfl, rfl⟩ := hq
                      refine zj_if_ne (t := 76) dk_129_71 rfl (by split <;> omega) (fun c71 => ?_) (fun c71 => ?_)
                      · skip
                        refine zi_aload_n dk_129_76 rfl rfl ?_
                        refine zi_getf dk_129_77 fl_13_59 md_0 rfl ?_
                        refine zi_aload_n dk_129_80 rfl rfl ?_
                        refine zi_getf dk_129_81 fl_13_154 md_0 rfl ?_
                        refine zj_iload_n dk_129_84 rfl ?_
                        refine md_iast (k := 17) (N := 16) dk_129_85 (by decide) rfl rfl (by omega) ?_
                        refine zi_aload_n dk_129_86 rfl rfl ?_
                        refine zi_getf dk_129_87 fl_13_62 md_0 rfl ?_
                        refine zi_aload_n dk_129_90 rfl rfl ?_
                        refine zi_getf dk_129_91 fl_13_154 md_0 rfl ?_
                        refine zj_iload_n dk_129_94 rfl ?_
                        refine md_iast (k := 18) (N := 16) dk_129_95 (by decide) rfl rfl (by omega) ?_
                        refine zi_aload_n dk_129_96 rfl rfl ?_
                        refine zi_getf dk_129_97 fl_13_65 md_0 rfl ?_
                        refine zi_aload_n dk_129_100 rfl rfl ?_
                        refine zi_getf dk_129_101 fl_13_154 md_0 rfl ?_
                        refine zj_iload_n dk_129_104 rfl ?_
                        refine md_iast (k := 19) (N := 16) dk_129_105 (by decide) rfl rfl (by omega) ?_
                        refine zi_aload_n dk_129_106 rfl rfl ?_
                        refine zi_dup dk_129_107 rfl ?_
                        refine zi_getf dk_129_108 fl_13_154 md_0 rfl ?_
                        refine zj_iconst dk_129_111 ?_
                        refine zj_iadd dk_129_112 ?_
                        refine md_putI dk_129_113 fp_129_154 md_s24 ?_
                        refine zi_aload_n dk_129_116 rfl rfl ?_
                        refine zi_getf dk_129_117 fl_13_154 md_0 rfl ?_
                        refine zj_iconst dk_129_120 ?_
                        refine zj_isub dk_129_121 ?_
                        refine zj_ireturn dk_129_122 rfl ⟨rfl, Or.inl ⟨⟨by omega, by omega, by unfold ex_ct; (repeat' split) <;> (first | omega | (split at c52 <;> first | omega | (split at c71 <;> omega)) | (split at c71 <;> omega))⟩, by congr 2; show V 24 + 1 - 1 = V 24; omega, rfl⟩⟩
                      · skip
                        refine zj_iconst dk_129_74 ?_
                        refine zj_ireturn dk_129_75 rfl ⟨rfl, Or.inr ⟨fun hh => by have h3 := hh.2.2; unfold ex_ct at h3; (repeat' split at h3) <;> (first | omega | (split at c52 <;> first | omega | (split at c71 <;> omega)) | (split at c71 <;> omega)), rfl, rfl⟩⟩
                    · skip
                      refine zj_iload_n dk_129_60 rfl ?_
                      refine zj_bipush dk_129_61 (by decide) ?_
                      refine zj_icmp_ne (t := 76) dk_129_63 rfl (by omega) (fun c63 => ?_) (fun c63 => ?_)
                      · skip
                        refine zi_aload_n dk_129_76 rfl rfl ?_
                        refine zi_getf dk_129_77 fl_13_59 md_0 rfl ?_
                        refine zi_aload_n dk_129_80 rfl rfl ?_
                        refine zi_getf dk_129_81 fl_13_154 md_0 rfl ?_
                        refine zj_iload_n dk_129_84 rfl ?_
                        refine md_iast (k := 17) (N := 16) dk_129_85 (by decide) rfl rfl (by omega) ?_
                        refine zi_aload_n dk_129_86 rfl rfl ?_
                        refine zi_getf dk_129_87 fl_13_62 md_0 rfl ?_
                        refine zi_aload_n dk_129_90 rfl rfl ?_
                        refine zi_getf dk_129_91 fl_13_154 md_0 rfl ?_
                        refine zj_iload_n dk_129_94 rfl ?_
                        refine md_iast (k := 18) (N := 16) dk_129_95 (by decide) rfl rfl (by omega) ?_
                        refine zi_aload_n dk_129_96 rfl rfl ?_
                        refine zi_getf dk_129_97 fl_13_65 md_0 rfl ?_
                        refine zi_aload_n dk_129_100 rfl rfl ?_
                        refine zi_getf dk_129_101 fl_13_154 md_0 rfl ?_
                        refine zj_iload_n dk_129_104 rfl ?_
                        refine md_iast (k := 19) (N := 16) dk_129_105 (by decide) rfl rfl (by omega) ?_
                        refine zi_aload_n dk_129_106 rfl rfl ?_
                        refine zi_dup dk_129_107 rfl ?_
                        refine zi_getf dk_129_108 fl_13_154 md_0 rfl ?_
                        refine zj_iconst dk_129_111 ?_
                        refine zj_iadd dk_129_112 ?_
                        refine md_putI dk_129_113 fp_129_154 md_s24 ?_
                        refine zi_aload_n dk_129_116 rfl rfl ?_
                        refine zi_getf dk_129_117 fl_13_154 md_0 rfl ?_
                        refine zj_iconst dk_129_120 ?_
                        refine zj_isub dk_129_121 ?_
                        refine zj_ireturn dk_129_122 rfl ⟨rfl, Or.inl ⟨⟨by omega, by omega, by unfold ex_ct; (repeat' split) <;> (first | omega | (split at c52 <;> first | omega | (split at c71 <;> omega)) | (split at c71 <;> omega))⟩, by congr 2; show V 24 + 1 - 1 = V 24; omega, rfl⟩⟩
                      · skip
                        refine zi_aload_n dk_129_66 rfl rfl ?_
                        refine zj_iload_n dk_129_67 rfl ?_
                        refine zi_invV dk_129_68 ml_13_157 iv_130 (ct_130 (d := d - 1) hy hs) md_0 rfl rfl rfl (Nat.le_of_ble_eq_true rfl) (by omega) rfl rfl (fun r n' h' hq => ?_)
                        obtain ⟨rfl, rfl, rfl⟩ := hq
                        refine zj_if_ne (t := 76) dk_129_71 rfl (by split <;> omega) (fun c71 => ?_) (fun c71 => ?_)
                        · skip
                          refine zi_aload_n dk_129_76 rfl rfl ?_
                          refine zi_getf dk_129_77 fl_13_59 md_0 rfl ?_
                          refine zi_aload_n dk_129_80 rfl rfl ?_
                          refine zi_getf dk_129_81 fl_13_154 md_0 rfl ?_
                          refine zj_iload_n dk_129_84 rfl ?_
                          refine md_iast (k := 17) (N := 16) dk_129_85 (by decide) rfl rfl (by omega) ?_
                          refine zi_aload_n dk_129_86 rfl rfl ?_
                          refine zi_getf dk_129_87 fl_13_62 md_0 rfl ?_
                          refine zi_aload_n dk_129_90 rfl rfl ?_
                          refine zi_getf dk_129_91 fl_13_154 md_0 rfl ?_
                          refine zj_iload_n dk_129_94 rfl ?_
                          refine md_iast (k := 18) (N := 16) dk_129_95 (by decide) rfl rfl (by omega) ?_
                          refine zi_aload_n dk_129_96 rfl rfl ?_
                          refine zi_getf dk_129_97 fl_13_65 md_0 rfl ?_
                          refine zi_aload_n dk_129_100 rfl rfl ?_
                          refine zi_getf dk_129_101 fl_13_154 md_0 rfl ?_
                          refine zj_iload_n dk_129_104 rfl ?_
                          refine md_iast (k := 19) (N := 16) dk_129_105 (by decide) rfl rfl (by omega) ?_
                          refine zi_aload_n dk_129_106 rfl rfl ?_
                          refine zi_dup dk_129_107 rfl ?_
                          refine zi_getf dk_129_108 fl_13_154 md_0 rfl ?_
                          refine zj_iconst dk_129_111 ?_
                          refine zj_iadd dk_129_112 ?_
                          refine md_putI dk_129_113 fp_129_154 md_s24 ?_
                          refine zi_aload_n dk_129_116 rfl rfl ?_
                          refine zi_getf dk_129_117 fl_13_154 md_0 rfl ?_
                          refine zj_iconst dk_129_120 ?_
                          refine zj_isub dk_129_121 ?_
                          refine zj_ireturn dk_129_122 rfl ⟨rfl, Or.inl ⟨⟨by omega, by omega, by unfold ex_ct; (repeat' split) <;> (first | omega | (split at c52 <;> first | omega | (split at c71 <;> omega)) | (split at c71 <;> omega))⟩, by congr 2; show V 24 + 1 - 1 = V 24; omega, rfl⟩⟩
                        · skip
                          refine zj_iconst dk_129_74 ?_
                          refine zj_ireturn dk_129_75 rfl ⟨rfl, Or.inr ⟨fun hh => by have h3 := hh.2.2; unfold ex_ct at h3; (repeat' split at h3) <;> (first | omega | (split at c52 <;> first | omega | (split at c71 <;> omega)) | (split at c71 <;> omega)), rfl, rfl⟩⟩
      · skip
        refine zj_iconst dk_129_19 ?_
        refine zj_ireturn dk_129_20 rfl ⟨rfl, Or.inr ⟨by omega, rfl, rfl⟩⟩

theorem ct_137 {X : zz_X} {d n : Nat}  {m : Nat} {V : Nat → Int} {B : Nat → Int → Int} {h0 : zz_H}  : zz_Ct X mm_137 d 0 0 [.ref m] n (md_H m V B h0) (zp (some (zv (V 0 + 1))) n (md_H m (va_up V 0 (V 0 + 1)) B h0)) := by
  refine zz_start (by decide) (ls := [some (.ref m)]) rfl ?_
  refine zi_aload_n dk_137_0 rfl rfl ?_
  refine zi_dup dk_137_1 rfl ?_
  refine zi_getf dk_137_2 fl_13_178 md_0 rfl ?_
  refine zj_iconst dk_137_5 ?_
  refine zj_iadd dk_137_6 ?_
  refine md_putI dk_137_7 fp_137_178 md_s0 ?_
  refine zi_aload_n dk_137_10 rfl rfl ?_
  refine zi_getf dk_137_11 fl_13_178 md_0 rfl ?_
  refine zj_ireturn dk_137_14 rfl ⟨rfl, rfl, rfl⟩

theorem ct_140 {X : zz_X} {d n : Nat}  {m : Nat} {V : Nat → Int} {B : Nat → Int → Int} {h0 : zz_H} {k : Int} (hk : -2147483648 ≤ k ∧ k < 2147483648) (hs : 0 ≤ V 8 ∧ V 8 ≤ 6) : zz_Ct X mm_140 d 0 0 [.ref m, zv k] n (md_H m V B h0) (zp (some (zv (if 0 ≤ k ∧ k < V 8 then 1 else 0))) n (md_H m V B h0)) := by
  refine zz_start (by decide) (ls := [some (.ref m), some (zv k)]) rfl ?_
  refine zj_iload_n dk_140_0 rfl ?_
  refine zj_if_lt (t := 16) dk_140_1 rfl (by omega) (fun c1 => ?_) (fun c1 => ?_)
  · skip
    refine zj_iconst dk_140_16 ?_
    refine zj_zreturn dk_140_17 rfl (by omega) ⟨by first | rw [if_pos (by omega)] | rw [if_neg (by omega)], rfl, rfl⟩
  · skip
    refine zj_iload_n dk_140_4 rfl ?_
    refine zi_aload_n dk_140_5 rfl rfl ?_
    refine zi_getf dk_140_6 fl_13_181 md_0 rfl ?_
    refine zj_icmp_ge (t := 16) dk_140_9 rfl (by omega) (fun c9 => ?_) (fun c9 => ?_)
    · skip
      refine zj_iconst dk_140_16 ?_
      refine zj_zreturn dk_140_17 rfl (by omega) ⟨by first | rw [if_pos (by omega)] | rw [if_neg (by omega)], rfl, rfl⟩
    · skip
      refine zj_iconst dk_140_12 ?_
      refine zi_goto (t := 17) dk_140_13 rfl ?_
      refine zj_zreturn dk_140_17 rfl (by omega) ⟨by first | rw [if_pos (by omega)] | rw [if_neg (by omega)], rfl, rfl⟩

theorem ct_149 {X : zz_X} {d n : Nat}  {m : Nat} {V : Nat → Int} {B : Nat → Int → Int} {h0 : zz_H} {k y : Int} (hk : -2147483648 ≤ k ∧ k < 2147483648) (hy : -2147483648 ≤ y ∧ y < 2147483648) : zz_Ct X mm_149 d 0 0 [.ref m, zv k, zv y] n (md_H m V B h0) (zp (some (zv (if -1 ≤ k ∧ k < y then 1 else 0))) n (md_H m V B h0)) := by
  refine zz_start (by decide) (ls := [some (.ref m), some (zv k), some (zv y)]) rfl ?_
  refine zj_iload_n dk_149_0 rfl ?_
  refine zj_iconst dk_149_1 ?_
  refine zj_icmp_lt (t := 14) dk_149_2 rfl (by omega) (fun c2 => ?_) (fun c2 => ?_)
  · skip
    refine zj_iconst dk_149_14 ?_
    refine zj_zreturn dk_149_15 rfl (by omega) ⟨by first | rw [if_pos (by omega)] | rw [if_neg (by omega)], rfl, rfl⟩
  · skip
    refine zj_iload_n dk_149_5 rfl ?_
    refine zj_iload_n dk_149_6 rfl ?_
    refine zj_icmp_ge (t := 14) dk_149_7 rfl (by omega) (fun c7 => ?_) (fun c7 => ?_)
    · skip
      refine zj_iconst dk_149_14 ?_
      refine zj_zreturn dk_149_15 rfl (by omega) ⟨by first | rw [if_pos (by omega)] | rw [if_neg (by omega)], rfl, rfl⟩
    · skip
      refine zj_iconst dk_149_10 ?_
      refine zi_goto (t := 15) dk_149_11 rfl ?_
      refine zj_zreturn dk_149_15 rfl (by omega) ⟨by first | rw [if_pos (by omega)] | rw [if_neg (by omega)], rfl, rfl⟩

theorem ct_147 {X : zz_X} {d n : Nat}  {m : Nat} {V : Nat → Int} {B : Nat → Int → Int} {h0 : zz_H} {x : Int} (hx : -2147483648 ≤ x ∧ x < 2147483648) : zz_Ct X mm_147 d 0 0 [.ref m, zv x] n (md_H m V B h0) (fun r n' h' => n' = n ∧ (((1 ≤ x ∧ x ≤ 100) ∧ r = some (zv 1) ∧ h' = md_H m (va_up V 1 (V 1 + x)) B h0) ∨ (¬ (1 ≤ x ∧ x ≤ 100) ∧ r = some (zv 0) ∧ h' = md_H m V B h0))) := by
  refine zz_start (by decide) (ls := [some (.ref m), some (zv x)]) rfl ?_
  refine zj_iload_n dk_147_0 rfl ?_
  refine zj_iconst dk_147_1 ?_
  refine zj_icmp_lt (t := 11) dk_147_2 rfl (by omega) (fun c2 => ?_) (fun c2 => ?_)
  · skip
    refine zj_iconst dk_147_11 ?_
    refine zj_zreturn dk_147_12 rfl (by omega) ⟨rfl, Or.inr ⟨by omega, rfl, rfl⟩⟩
  · skip
    refine zj_iload_n dk_147_5 rfl ?_
    refine zj_bipush dk_147_6 (by decide) ?_
    refine zj_icmp_le (t := 13) dk_147_8 rfl (by omega) (fun c8 => ?_) (fun c8 => ?_)
    · skip
      refine zi_aload_n dk_147_13 rfl rfl ?_
      refine zi_dup dk_147_14 rfl ?_
      refine zi_getf dk_147_15 fl_13_192 md_0 rfl ?_
      refine zj_iload_n dk_147_18 rfl ?_
      refine zj_iadd dk_147_19 ?_
      refine md_putI dk_147_20 fp_147_192 md_s1 ?_
      refine zj_iconst dk_147_23 ?_
      refine zj_zreturn dk_147_24 rfl (by omega) ⟨rfl, Or.inl ⟨by omega, rfl, rfl⟩⟩
    · skip
      refine zj_iconst dk_147_11 ?_
      refine zj_zreturn dk_147_12 rfl (by omega) ⟨rfl, Or.inr ⟨by omega, rfl, rfl⟩⟩

theorem ct_135 {X : zz_X} {d n : Nat} {h : zz_H} {c : Int} (hc : -2147483648 ≤ c ∧ c < 2147483648) : zz_Ct X mm_135 d 0 0 [zv c] n h (zp (some (zv (if c = 47 ∨ c = 92 ∨ c = 37 ∨ c = 59 then 1 else 0))) n h) := by
  refine zz_start (by decide) (ls := [some (zv c)]) rfl ?_
  refine zj_iload_n dk_135_0 rfl ?_
  refine zj_bipush dk_135_1 (by decide) ?_
  refine zj_icmp_eq (t := 24) dk_135_3 rfl (by omega) (fun c3 => ?_) (fun c3 => ?_)
  · skip
    refine zj_iconst dk_135_24 ?_
    refine zi_goto (t := 29) dk_135_25 rfl ?_
    refine zj_zreturn dk_135_29 rfl (by omega) ⟨by first | rw [if_pos (by omega)] | rw [if_neg (by omega)], rfl, rfl⟩
  · skip
    refine zj_iload_n dk_135_6 rfl ?_
    refine zj_bipush dk_135_7 (by decide) ?_
    refine zj_icmp_eq (t := 24) dk_135_9 rfl (by omega) (fun c9 => ?_) (fun c9 => ?_)
    · skip
      refine zj_iconst dk_135_24 ?_
      refine zi_goto (t := 29) dk_135_25 rfl ?_
      refine zj_zreturn dk_135_29 rfl (by omega) ⟨by first | rw [if_pos (by omega)] | rw [if_neg (by omega)], rfl, rfl⟩
    · skip
      refine zj_iload_n dk_135_12 rfl ?_
      refine zj_bipush dk_135_13 (by decide) ?_
      refine zj_icmp_eq (t := 24) dk_135_15 rfl (by omega) (fun c15 => ?_) (fun c15 => ?_)
      · skip
        refine zj_iconst dk_135_24 ?_
        refine zi_goto (t := 29) dk_135_25 rfl ?_
        refine zj_zreturn dk_135_29 rfl (by omega) ⟨by first | rw [if_pos (by omega)] | rw [if_neg (by omega)], rfl, rfl⟩
      · skip
        refine zj_iload_n dk_135_18 rfl ?_
        refine zj_bipush dk_135_19 (by decide) ?_
        refine zj_icmp_ne (t := 28) dk_135_21 rfl (by omega) (fun c21 => ?_) (fun c21 => ?_)
        · skip
          refine zj_iconst dk_135_28 ?_
          refine zj_zreturn dk_135_29 rfl (by omega) ⟨by first | rw [if_pos (by omega)] | rw [if_neg (by omega)], rfl, rfl⟩
        · skip
          refine zj_iconst dk_135_24 ?_
          refine zi_goto (t := 29) dk_135_25 rfl ?_
          refine zj_zreturn dk_135_29 rfl (by omega) ⟨by first | rw [if_pos (by omega)] | rw [if_neg (by omega)], rfl, rfl⟩

theorem ct_155 {X : zz_X} {d n : Nat} {h : zz_H} {z : Int} (hz : z = 0 ∨ z = 1) : zz_Ct X mm_155 d 0 0 [zv z] n h (zp (some (zv z)) n h) := by
  refine zz_start (by decide) (ls := [some (zv z)]) rfl ?_
  refine zj_iload_n dk_155_0 rfl ?_
  refine zj_if_eq (t := 8) dk_155_1 rfl (by omega) (fun c1 => ?_) (fun c1 => ?_)
  · skip
    refine zj_iconst dk_155_8 ?_
    refine zj_ireturn dk_155_9 rfl ⟨by congr 2; omega, rfl, rfl⟩
  · skip
    refine zj_iconst dk_155_4 ?_
    refine zi_goto (t := 9) dk_155_5 rfl ?_
    refine zj_ireturn dk_155_9 rfl ⟨by congr 2; omega, rfl, rfl⟩

theorem ct_158 {X : zz_X} {d n : Nat} {h : zz_H} {c : Int} (hc : -2147483648 ≤ c ∧ c < 2147483648) : zz_Ct X mm_158 d 0 0 [zv c] n h (zp (some (zv (if 48 ≤ c ∧ c ≤ 57 then c - 48 else if 97 ≤ c ∧ c ≤ 102 then c - 87 else if 65 ≤ c ∧ c ≤ 70 then c - 55 else -1))) n h) := by
  refine zz_start (by decide) (ls := [some (zv c)]) rfl ?_
  refine zj_iload_n dk_158_0 rfl ?_
  refine zj_bipush dk_158_1 (by decide) ?_
  refine zj_icmp_lt (t := 17) dk_158_3 rfl (by omega) (fun c3 => ?_) (fun c3 => ?_)
  · skip
    refine zj_iload_n dk_158_17 rfl ?_
    refine zj_bipush dk_158_18 (by decide) ?_
    refine zj_icmp_lt (t := 37) dk_158_20 rfl (by omega) (fun c20 => ?_) (fun c20 => ?_)
    · skip
      refine zj_iload_n dk_158_37 rfl ?_
      refine zj_bipush dk_158_38 (by decide) ?_
      refine zj_icmp_lt (t := 59) dk_158_40 rfl (by omega) (fun c40 => ?_) (fun c40 => ?_)
      · skip
        refine zj_iconst dk_158_59 ?_
        refine zj_ireturn dk_158_60 rfl ⟨by congr 2; (repeat' split) <;> omega, rfl, rfl⟩
      · skip
        refine zj_iload_n dk_158_43 rfl ?_
        refine zj_bipush dk_158_44 (by decide) ?_
        refine zj_icmp_gt (t := 59) dk_158_46 rfl (by omega) (fun c46 => ?_) (fun c46 => ?_)
        · skip
          refine zj_iconst dk_158_59 ?_
          refine zj_ireturn dk_158_60 rfl ⟨by congr 2; (repeat' split) <;> omega, rfl, rfl⟩
        · skip
          refine zj_iload_n dk_158_49 rfl ?_
          refine zj_bipush dk_158_50 (by decide) ?_
          refine zj_isub dk_158_52 ?_
          refine zj_bipush dk_158_53 (by decide) ?_
          refine zj_iadd dk_158_55 ?_
          refine zi_goto (t := 60) dk_158_56 rfl ?_
          refine zj_ireturn dk_158_60 rfl ⟨by congr 2; (repeat' split) <;> omega, rfl, rfl⟩
    · skip
      refine zj_iload_n dk_158_23 rfl ?_
      refine zj_bipush dk_158_24 (by decide) ?_
      refine zj_icmp_gt (t := 37) dk_158_26 rfl (by omega) (fun c26 => ?_) (fun c26 => ?_)
      · skip
        refine zj_iload_n dk_158_37 rfl ?_
        refine zj_bipush dk_158_38 (by decide) ?_
        refine zj_icmp_lt (t := 59) dk_158_40 rfl (by omega) (fun c40 => ?_) (fun c40 => ?_)
        · skip
          refine zj_iconst dk_158_59 ?_
          refine zj_ireturn dk_158_60 rfl ⟨by congr 2; (repeat' split) <;> omega, rfl, rfl⟩
        · skip
          refine zj_iload_n dk_158_43 rfl ?_
          refine zj_bipush dk_158_44 (by decide) ?_
          refine zj_icmp_gt (t := 59) dk_158_46 rfl (by omega) (fun c46 => ?_) (fun c46 => ?_)
          · skip
            refine zj_iconst dk_158_59 ?_
            refine zj_ireturn dk_158_60 rfl ⟨by congr 2; (repeat' split) <;> omega, rfl, rfl⟩
          · skip
            refine zj_iload_n dk_158_49 rfl ?_
            refine zj_bipush dk_158_50 (by decide) ?_
            refine zj_isub dk_158_52 ?_
            refine zj_bipush dk_158_53 (by decide) ?_
            refine zj_iadd dk_158_55 ?_
            refine zi_goto (t := 60) dk_158_56 rfl ?_
            refine zj_ireturn dk_158_60 rfl ⟨by congr 2; (repeat' split) <;> omega, rfl, rfl⟩
      · skip
        refine zj_iload_n dk_158_29 rfl ?_
        refine zj_bipush dk_158_30 (by decide) ?_
        refine zj_isub dk_158_32 ?_
        refine zj_bipush dk_158_33 (by decide) ?_
        refine zj_iadd dk_158_35 ?_
        refine zj_ireturn dk_158_36 rfl ⟨by congr 2; (repeat' split) <;> omega, rfl, rfl⟩
  · skip
    refine zj_iload_n dk_158_6 rfl ?_
    refine zj_bipush dk_158_7 (by decide) ?_
    refine zj_icmp_gt (t := 17) dk_158_9 rfl (by omega) (fun c9 => ?_) (fun c9 => ?_)
    · skip
      refine zj_iload_n dk_158_17 rfl ?_
      refine zj_bipush dk_158_18 (by decide) ?_
      refine zj_icmp_lt (t := 37) dk_158_20 rfl (by omega) (fun c20 => ?_) (fun c20 => ?_)
      · skip
        refine zj_iload_n dk_158_37 rfl ?_
        refine zj_bipush dk_158_38 (by decide) ?_
        refine zj_icmp_lt (t := 59) dk_158_40 rfl (by omega) (fun c40 => ?_) (fun c40 => ?_)
        · skip
          refine zj_iconst dk_158_59 ?_
          refine zj_ireturn dk_158_60 rfl ⟨by congr 2; (repeat' split) <;> omega, rfl, rfl⟩
        · skip
          refine zj_iload_n dk_158_43 rfl ?_
          refine zj_bipush dk_158_44 (by decide) ?_
          refine zj_icmp_gt (t := 59) dk_158_46 rfl (by omega) (fun c46 => ?_) (fun c46 => ?_)
          · skip
            refine zj_iconst dk_158_59 ?_
            refine zj_ireturn dk_158_60 rfl ⟨by congr 2; (repeat' split) <;> omega, rfl, rfl⟩
          · skip
            refine zj_iload_n dk_158_49 rfl ?_
            refine zj_bipush dk_158_50 (by decide) ?_
            refine zj_isub dk_158_52 ?_
            refine zj_bipush dk_158_53 (by decide) ?_
            refine zj_iadd dk_158_55 ?_
            refine zi_goto (t := 60) dk_158_56 rfl ?_
            refine zj_ireturn dk_158_60 rfl ⟨by congr 2; (repeat' split) <;> omega, rfl, rfl⟩
      · skip
        refine zj_iload_n dk_158_23 rfl ?_
        refine zj_bipush dk_158_24 (by decide) ?_
        refine zj_icmp_gt (t := 37) dk_158_26 rfl (by omega) (fun c26 => ?_) (fun c26 => ?_)
        · skip
          refine zj_iload_n dk_158_37 rfl ?_
          refine zj_bipush dk_158_38 (by decide) ?_
          refine zj_icmp_lt (t := 59) dk_158_40 rfl (by omega) (fun c40 => ?_) (fun c40 => ?_)
          · skip
            refine zj_iconst dk_158_59 ?_
            refine zj_ireturn dk_158_60 rfl ⟨by congr 2; (repeat' split) <;> omega, rfl, rfl⟩
          · skip
            refine zj_iload_n dk_158_43 rfl ?_
            refine zj_bipush dk_158_44 (by decide) ?_
            refine zj_icmp_gt (t := 59) dk_158_46 rfl (by omega) (fun c46 => ?_) (fun c46 => ?_)
            · skip
              refine zj_iconst dk_158_59 ?_
              refine zj_ireturn dk_158_60 rfl ⟨by congr 2; (repeat' split) <;> omega, rfl, rfl⟩
            · skip
              refine zj_iload_n dk_158_49 rfl ?_
              refine zj_bipush dk_158_50 (by decide) ?_
              refine zj_isub dk_158_52 ?_
              refine zj_bipush dk_158_53 (by decide) ?_
              refine zj_iadd dk_158_55 ?_
              refine zi_goto (t := 60) dk_158_56 rfl ?_
              refine zj_ireturn dk_158_60 rfl ⟨by congr 2; (repeat' split) <;> omega, rfl, rfl⟩
        · skip
          refine zj_iload_n dk_158_29 rfl ?_
          refine zj_bipush dk_158_30 (by decide) ?_
          refine zj_isub dk_158_32 ?_
          refine zj_bipush dk_158_33 (by decide) ?_
          refine zj_iadd dk_158_35 ?_
          refine zj_ireturn dk_158_36 rfl ⟨by congr 2; (repeat' split) <;> omega, rfl, rfl⟩
    · skip
      refine zj_iload_n dk_158_12 rfl ?_
      refine zj_bipush dk_158_13 (by decide) ?_
      refine zj_isub dk_158_15 ?_
      refine zj_ireturn dk_158_16 rfl ⟨by congr 2; (repeat' split) <;> omega, rfl, rfl⟩

theorem ct_165 {X : zz_X} {d n : Nat}  {m : Nat} {V : Nat → Int} {B : Nat → Int → Int} {h0 : zz_H} (hs : V 51 = 0 ∨ V 51 = 1) : zz_Ct X mm_165 d 0 0 [.ref m] n (md_H m V B h0) (zp (some (zv (V 51))) n (md_H m (va_up (va_up (va_up V 51 0) 52 (-1)) 53 0) B h0)) := by
  refine zz_start (by decide) (ls := [some (.ref m), none]) rfl ?_
  refine zi_aload_n dk_165_0 rfl rfl ?_
  refine zi_getf dk_165_1 fl_13_252 md_0 rfl ?_
  refine zj_istore_n dk_165_4 rfl ?_
  refine zi_aload_n dk_165_5 rfl rfl ?_
  refine zj_iconst dk_165_6 ?_
  refine md_putZ dk_165_7 fp_165_252 (by omega) md_s51 ?_
  refine zi_aload_n dk_165_10 rfl rfl ?_
  refine zj_iconst dk_165_11 ?_
  refine md_putI dk_165_12 fp_165_125 md_s52 ?_
  refine zi_aload_n dk_165_15 rfl rfl ?_
  refine zj_iconst dk_165_16 ?_
  refine md_putZ dk_165_17 fp_165_227 (by omega) md_s53 ?_
  refine zj_iload_n dk_165_20 rfl ?_
  refine zj_zreturn dk_165_21 rfl (by omega) ⟨rfl, rfl, rfl⟩

theorem ct_166 {X : zz_X} {d n : Nat}  {m : Nat} {V : Nat → Int} {B : Nat → Int → Int} {h0 : zz_H} (hs : -1 ≤ V 52 ∧ V 52 ≤ 5) (hr : V 53 = 0 ∨ V 53 = 1) : zz_Ct X mm_166 d 0 0 [.ref m] n (md_H m V B h0) (zp (some (zv (if V 52 < 0 then -1 else if V 53 = 1 then V 52 + 8 else V 52))) n (md_H m V B h0)) := by
  refine zz_start (by decide) (ls := [some (.ref m)]) rfl ?_
  refine zi_aload_n dk_166_0 rfl rfl ?_
  refine zi_getf dk_166_1 fl_13_125 md_0 rfl ?_
  refine zj_if_ge (t := 11) dk_166_4 rfl (by omega) (fun c4 => ?_) (fun c4 => ?_)
  · skip
    refine zi_aload_n dk_166_11 rfl rfl ?_
    refine zi_getf dk_166_12 fl_13_227 md_0 rfl ?_
    refine zj_if_eq (t := 28) dk_166_15 rfl (by omega) (fun c15 => ?_) (fun c15 => ?_)
    · skip
      refine zi_aload_n dk_166_28 rfl rfl ?_
      refine zi_getf dk_166_29 fl_13_125 md_0 rfl ?_
      refine zj_ireturn dk_166_32 rfl ⟨by congr 2; (repeat' split) <;> omega, rfl, rfl⟩
    · skip
      refine zi_aload_n dk_166_18 rfl rfl ?_
      refine zi_getf dk_166_19 fl_13_125 md_0 rfl ?_
      refine zj_bipush dk_166_22 (by decide) ?_
      refine zj_iadd dk_166_24 ?_
      refine zi_goto (t := 32) dk_166_25 rfl ?_
      refine zj_ireturn dk_166_32 rfl ⟨by congr 2; (repeat' split) <;> omega, rfl, rfl⟩
  · skip
    refine zj_iconst dk_166_7 ?_
    refine zi_goto (t := 32) dk_166_8 rfl ?_
    refine zj_ireturn dk_166_32 rfl ⟨by congr 2; (repeat' split) <;> omega, rfl, rfl⟩

theorem ct_170 {X : zz_X} {d n : Nat}  (hd : 1 ≤ d) {m : Nat} {V : Nat → Int} {B : Nat → Int → Int} {h0 : zz_H} {k : Int} (hk : -2147483648 ≤ k ∧ k < 2147483648) (hs : 0 ≤ V 8 ∧ V 8 ≤ 6) : zz_Ct X mm_170 d 0 0 [.ref m, zv k] n (md_H m V B h0) (zp (some (zv (if 0 ≤ k ∧ k < V 8 then B 5 k else 0))) n (md_H m V B h0)) := by
  refine zz_start (by decide) (ls := [some (.ref m), some (zv k)]) rfl ?_
  refine zi_aload_n dk_170_0 rfl rfl ?_
  refine zj_iload_n dk_170_1 rfl ?_
  refine zi_invV dk_170_2 ml_13_198 iv_140 (ct_140 (d := d - 1) hk hs) md_0 rfl rfl rfl (Nat.le_of_ble_eq_true rfl) (by omega) rfl rfl (fun r n' h' hq => ?_)
  obtain ⟨rfl, rfl, rfl⟩ := hq
  refine zj_if_eq (t := 17) dk_170_5 rfl (by split <;> omega) (fun c5 => ?_) (fun c5 => ?_)
  · skip
    refine zj_iconst dk_170_17 ?_
    refine zj_ireturn dk_170_18 rfl ⟨by split at c5 <;> first | (exfalso; omega) | rw [if_pos (by assumption)] | rw [if_neg (by assumption)] | omega, rfl, rfl⟩
  · skip
    refine zi_aload_n dk_170_8 rfl rfl ?_
    refine zi_getf dk_170_9 fl_13_22 md_0 rfl ?_
    refine zj_iload_n dk_170_12 rfl ?_
    refine md_iald (k := 5) (N := 6) dk_170_13 (by decide) rfl rfl (by split at c5 <;> omega) ?_
    refine zi_goto (t := 18) dk_170_14 rfl ?_
    refine zj_ireturn dk_170_18 rfl ⟨by split at c5 <;> first | (exfalso; omega) | rw [if_pos (by assumption)] | rw [if_neg (by assumption)] | omega, rfl, rfl⟩

theorem ct_142 {X : zz_X} {d n : Nat}  {m : Nat} {V : Nat → Int} {B : Nat → Int → Int} {h0 : zz_H} {s : Int} (hs : 0 ≤ s ∧ s < 12) (h1 : B 8 s = 0 ∨ B 8 s = 1) (h2 : (0 ≤ V 1 ∧ V 1 ≤ 1000000) ∧ (0 ≤ B 12 s ∧ B 12 s ≤ 1000000) ∧ (0 ≤ B 13 s ∧ B 13 s ≤ 1000000)) : zz_Ct X mm_142 d 0 0 [.ref m, zv s] n (md_H m V B h0) (zp (some (zv (if B 8 s = 1 ∧ V 1 - B 12 s ≤ 60 ∧ V 1 - B 13 s ≤ 20 then 1 else 0))) n (md_H m V B h0)) := by
  refine zz_start (by decide) (ls := [some (.ref m), some (zv s)]) rfl ?_
  refine zi_aload_n dk_142_0 rfl rfl ?_
  refine zi_getf dk_142_1 fl_13_31 md_0 rfl ?_
  refine zj_iload_n dk_142_4 rfl ?_
  refine md_zald (k := 8) (N := 12) dk_142_5 (by decide) rfl rfl (by omega) ?_
  refine zj_if_eq (t := 45) dk_142_6 rfl (by omega) (fun c6 => ?_) (fun c6 => ?_)
  · skip
    refine zj_iconst dk_142_45 ?_
    refine zj_zreturn dk_142_46 rfl (by omega) ⟨by first | rw [if_pos (by omega)] | rw [if_neg (by omega)], rfl, rfl⟩
  · skip
    refine zi_aload_n dk_142_9 rfl rfl ?_
    refine zi_getf dk_142_10 fl_13_192 md_0 rfl ?_
    refine zi_aload_n dk_142_13 rfl rfl ?_
    refine zi_getf dk_142_14 fl_13_44 md_0 rfl ?_
    refine zj_iload_n dk_142_17 rfl ?_
    refine md_iald (k := 12) (N := 12) dk_142_18 (by decide) rfl rfl (by omega) ?_
    refine zj_isub dk_142_19 ?_
    refine zj_bipush dk_142_20 (by decide) ?_
    refine zj_icmp_gt (t := 45) dk_142_22 rfl (by omega) (fun c22 => ?_) (fun c22 => ?_)
    · skip
      refine zj_iconst dk_142_45 ?_
      refine zj_zreturn dk_142_46 rfl (by omega) ⟨by first | rw [if_pos (by omega)] | rw [if_neg (by omega)], rfl, rfl⟩
    · skip
      refine zi_aload_n dk_142_25 rfl rfl ?_
      refine zi_getf dk_142_26 fl_13_192 md_0 rfl ?_
      refine zi_aload_n dk_142_29 rfl rfl ?_
      refine zi_getf dk_142_30 fl_13_47 md_0 rfl ?_
      refine zj_iload_n dk_142_33 rfl ?_
      refine md_iald (k := 13) (N := 12) dk_142_34 (by decide) rfl rfl (by omega) ?_
      refine zj_isub dk_142_35 ?_
      refine zj_bipush dk_142_36 (by decide) ?_
      refine zj_icmp_gt (t := 45) dk_142_38 rfl (by omega) (fun c38 => ?_) (fun c38 => ?_)
      · skip
        refine zj_iconst dk_142_45 ?_
        refine zj_zreturn dk_142_46 rfl (by omega) ⟨by first | rw [if_pos (by omega)] | rw [if_neg (by omega)], rfl, rfl⟩
      · skip
        refine zj_iconst dk_142_41 ?_
        refine zi_goto (t := 46) dk_142_42 rfl ?_
        refine zj_zreturn dk_142_46 rfl (by omega) ⟨by first | rw [if_pos (by omega)] | rw [if_neg (by omega)], rfl, rfl⟩

theorem ct_171 {X : zz_X} {d n : Nat}  {m : Nat} {V : Nat → Int} {B : Nat → Int → Int} {h0 : zz_H} {k : Int} (hk : -2147483648 ≤ k ∧ k < 2147483648) : zz_Ct X mm_171 d 0 0 [.ref m, zv k] n (md_H m V B h0) (zp (some (zv (if k = 0 then V 2 else if k = 1 then V 3 else if k = 2 then V 4 else if k = 3 then V 5 else if k = 4 then V 6 else if k = 5 then V 0 else if k = 6 then V 1 else -1))) n (md_H m V B h0)) := by
  refine zz_start (by decide) (ls := [some (.ref m), some (zv k)]) rfl ?_
  have hop : k = 0 ∨ k = 1 ∨ k = 2 ∨ k = 3 ∨ k = 4 ∨ k = 5 ∨ k = 6 ∨ (k < 0 ∨ 6 < k) := by omega
  rcases hop with rfl | rfl | rfl | rfl | rfl | rfl | rfl | hop
  · refine zj_iload_n dk_171_0 rfl ?_
    refine zj_tabIn (t := 44) dk_171_1 (by decide) rfl rfl ?_
    refine zi_aload_n dk_171_44 rfl rfl ?_
    refine zi_getf dk_171_45 fl_13_264 md_0 rfl ?_
    refine zj_ireturn dk_171_48 rfl ⟨rfl, rfl, rfl⟩
  · refine zj_iload_n dk_171_0 rfl ?_
    refine zj_tabIn (t := 49) dk_171_1 (by decide) rfl rfl ?_
    refine zi_aload_n dk_171_49 rfl rfl ?_
    refine zi_getf dk_171_50 fl_13_234 md_0 rfl ?_
    refine zj_ireturn dk_171_53 rfl ⟨rfl, rfl, rfl⟩
  · refine zj_iload_n dk_171_0 rfl ?_
    refine zj_tabIn (t := 54) dk_171_1 (by decide) rfl rfl ?_
    refine zi_aload_n dk_171_54 rfl rfl ?_
    refine zi_getf dk_171_55 fl_13_237 md_0 rfl ?_
    refine zj_ireturn dk_171_58 rfl ⟨rfl, rfl, rfl⟩
  · refine zj_iload_n dk_171_0 rfl ?_
    refine zj_tabIn (t := 59) dk_171_1 (by decide) rfl rfl ?_
    refine zi_aload_n dk_171_59 rfl rfl ?_
    refine zi_getf dk_171_60 fl_13_249 md_0 rfl ?_
    refine zj_ireturn dk_171_63 rfl ⟨rfl, rfl, rfl⟩
  · refine zj_iload_n dk_171_0 rfl ?_
    refine zj_tabIn (t := 64) dk_171_1 (by decide) rfl rfl ?_
    refine zi_aload_n dk_171_64 rfl rfl ?_
    refine zi_getf dk_171_65 fl_13_201 md_0 rfl ?_
    refine zj_ireturn dk_171_68 rfl ⟨rfl, rfl, rfl⟩
  · refine zj_iload_n dk_171_0 rfl ?_
    refine zj_tabIn (t := 69) dk_171_1 (by decide) rfl rfl ?_
    refine zi_aload_n dk_171_69 rfl rfl ?_
    refine zi_getf dk_171_70 fl_13_178 md_0 rfl ?_
    refine zj_ireturn dk_171_73 rfl ⟨rfl, rfl, rfl⟩
  · refine zj_iload_n dk_171_0 rfl ?_
    refine zj_tabIn (t := 74) dk_171_1 (by decide) rfl rfl ?_
    refine zi_aload_n dk_171_74 rfl rfl ?_
    refine zi_getf dk_171_75 fl_13_192 md_0 rfl ?_
    refine zj_ireturn dk_171_78 rfl ⟨rfl, rfl, rfl⟩
  · refine zj_iload_n dk_171_0 rfl ?_
    refine zj_tabOut (t := 79) dk_171_1 (by omega) rfl ?_
    refine zj_iconst dk_171_79 ?_
    refine zj_ireturn dk_171_80 rfl ⟨by rw [if_neg (by omega), if_neg (by omega), if_neg (by omega), if_neg (by omega), if_neg (by omega), if_neg (by omega), if_neg (by omega)], rfl, rfl⟩

