/-! the library: lists -/
theorem zz_ne2 {h : zz_H} {a b kd N : Nat} {x : Nat × List Value} {g : Nat → Option Nat} (h1 : h a = some (.inr x)) (h2 : h b = some (zQ kd N g)) : a ≠ b := fun e => by
  unfold zQ at h2
  rw [e, h2] at h1
  cases h1
theorem ct_59 {X : zz_X} {d n : Nat} {h : zz_H} {i m : Int} (hi : 0 ≤ i ∧ i < m) (hm : m < 2147483648) : zz_Ct X mm_59 d 0 0 [zv i, zv m, .null] n h (zp (some (zv i)) n h) := by
  refine zz_start (by decide) (ls := [some (zv i), some (zv m), some (.null)]) rfl ?_
  refine zj_iload_n dk_59_0 rfl ?_
  refine zj_if_lt (t := 9) dk_59_1 rfl (by omega) (fun c1 => ?_) (fun c1 => ?_)
  · omega
  · skip
    refine zj_iload_n dk_59_4 rfl ?_
    refine zj_iload_n dk_59_5 rfl ?_
    refine zj_icmp_lt (t := 16) dk_59_6 rfl (by omega) (fun c6 => ?_) (fun c6 => ?_)
    · skip
      refine zj_iload_n dk_59_16 rfl ?_
      refine zj_ireturn dk_59_17 rfl ⟨rfl, rfl, rfl⟩
    · omega

theorem ct_58 {X : zz_X} {d n : Nat} {h : zz_H} (hd : 1 ≤ d) {i m : Int} (hi : 0 ≤ i ∧ i < m) (hm : m < 2147483648) : zz_Ct X mm_58 d 0 0 [zv i, zv m] n h (zp (some (zv i)) n h) := by
  refine zz_start (by decide) (ls := [some (zv i), some (zv m)]) rfl ?_
  refine zj_iload_n dk_58_0 rfl ?_
  refine zj_iload_n dk_58_1 rfl ?_
  refine zi_null dk_58_2 ?_
  refine zi_invS dk_58_3 ml_java_util_Objects_105 is_59 (ct_59 (d := d - 1) hi hm) rfl rfl (Nat.le_of_ble_eq_true rfl) (by omega) rfl rfl (fun r n' h' hq => ?_)
  obtain ⟨rfl, rfl, rfl⟩ := hq
  refine zj_ireturn dk_58_6 rfl ⟨rfl, rfl, rfl⟩

theorem ct_60 {X : zz_X} {d n : Nat} {h : zz_H} {a ea N : Nat} {f : Nat → Option Nat} {sz mc : Int} (h1 : h a = some (.inr (12, [.ref ea, zv sz, zv mc]))) (h2 : h ea = some (zQ 3 N f)) {i : Int} {v : Nat} (hi : 0 ≤ i ∧ i < (N : Int) ∧ N < 2147483648) (hv : f i.toNat = some v) : zz_Ct X mm_60 d 0 0 [.ref a, zv i] n h (zp (some (.ref v)) n h) := by
  refine zz_start (by decide) (ls := [some (.ref a), some (zv i)]) rfl ?_
  refine zi_aload_n dk_60_0 rfl rfl ?_
  refine zi_getf dk_60_1 fl_12_9 (by first | assumption | exact zz_up_eq _ _ _ | omega | exact Ne.symm (by assumption) | (refine (zz_up_ne ?_).trans ?_ <;> first | assumption | exact zz_up_eq _ _ _ | omega | exact Ne.symm (by assumption) | (refine (zz_up_ne ?_).trans ?_ <;> first | assumption | exact zz_up_eq _ _ _ | omega | exact Ne.symm (by assumption) | (refine (zz_up_ne ?_).trans ?_ <;> first | assumption | exact zz_up_eq _ _ _ | omega | exact Ne.symm (by assumption))))) rfl ?_
  refine zj_iload_n dk_60_4 rfl ?_
  refine zj_aald dk_60_5 h2 (by omega) (by rw [hv]; try rfl) ?_
  refine zi_areturn dk_60_6 rfl (Or.inl ⟨_, rfl⟩) rfl ⟨rfl, rfl, rfl⟩

theorem ct_57 {X : zz_X} {d n : Nat} {h : zz_H} (hd : 2 ≤ d) {a ea N : Nat} {f : Nat → Option Nat} {sz mc : Int} (h1 : h a = some (.inr (12, [.ref ea, zv sz, zv mc]))) (h2 : h ea = some (zQ 3 N f)) {i : Int} {v : Nat} (hi : 0 ≤ i ∧ i < sz ∧ sz ≤ (N : Int) ∧ N < 2147483648) (hv : f i.toNat = some v) : zz_Ct X mm_57 d 0 0 [.ref a, zv i] n h (zp (some (.ref v)) n h) := by
  refine zz_start (by decide) (ls := [some (.ref a), some (zv i)]) rfl ?_
  refine zj_iload_n dk_57_0 rfl ?_
  refine zi_aload_n dk_57_1 rfl rfl ?_
  refine zi_getf dk_57_2 fl_12_48 (by first | assumption | exact zz_up_eq _ _ _ | omega | exact Ne.symm (by assumption) | (refine (zz_up_ne ?_).trans ?_ <;> first | assumption | exact zz_up_eq _ _ _ | omega | exact Ne.symm (by assumption) | (refine (zz_up_ne ?_).trans ?_ <;> first | assumption | exact zz_up_eq _ _ _ | omega | exact Ne.symm (by assumption) | (refine (zz_up_ne ?_).trans ?_ <;> first | assumption | exact zz_up_eq _ _ _ | omega | exact Ne.symm (by assumption))))) rfl ?_
  refine zi_invS dk_57_5 ml_12_118 is_58 (ct_58 (d := d - 1) (by omega) (by omega) (by omega)) rfl rfl (Nat.le_of_ble_eq_true rfl) (by omega) rfl rfl (fun r n' h' hq => ?_)
  obtain ⟨rfl, rfl, rfl⟩ := hq
  refine zi_pop dk_57_8 rfl ?_
  refine zi_aload_n dk_57_9 rfl rfl ?_
  refine zj_iload_n dk_57_10 rfl ?_
  refine zi_invV dk_57_11 ml_12_123 iv_60 (ct_60 (d := d - 1) h1 h2 (by omega) hv) (by first | assumption | exact zz_up_eq _ _ _ | omega | exact Ne.symm (by assumption) | (refine (zz_up_ne ?_).trans ?_ <;> first | assumption | exact zz_up_eq _ _ _ | omega | exact Ne.symm (by assumption) | (refine (zz_up_ne ?_).trans ?_ <;> first | assumption | exact zz_up_eq _ _ _ | omega | exact Ne.symm (by assumption) | (refine (zz_up_ne ?_).trans ?_ <;> first | assumption | exact zz_up_eq _ _ _ | omega | exact Ne.symm (by assumption))))) rfl rfl rfl (Nat.le_of_ble_eq_true rfl) (by omega) rfl rfl (fun r n' h' hq => ?_)
  obtain ⟨rfl, rfl, rfl⟩ := hq
  refine zi_areturn dk_57_14 rfl (Or.inl ⟨_, rfl⟩) rfl ⟨rfl, rfl, rfl⟩

theorem ct_23 {X : zz_X} {d n : Nat} {h : zz_H} {a ea N : Nat} {f : Nat → Option Nat} {sz mc : Int} (h1 : h a = some (.inr (12, [.ref ea, zv sz, zv mc]))) : zz_Ct X mm_23 d 0 0 [.ref a] n h (zp (some (zv sz)) n h) := by
  refine zz_start (by decide) (ls := [some (.ref a)]) rfl ?_
  refine zi_aload_n dk_23_0 rfl rfl ?_
  refine zi_getf dk_23_1 fl_12_48 (by first | assumption | exact zz_up_eq _ _ _ | omega | exact Ne.symm (by assumption) | (refine (zz_up_ne ?_).trans ?_ <;> first | assumption | exact zz_up_eq _ _ _ | omega | exact Ne.symm (by assumption) | (refine (zz_up_ne ?_).trans ?_ <;> first | assumption | exact zz_up_eq _ _ _ | omega | exact Ne.symm (by assumption) | (refine (zz_up_ne ?_).trans ?_ <;> first | assumption | exact zz_up_eq _ _ _ | omega | exact Ne.symm (by assumption))))) rfl ?_
  refine zj_ireturn dk_23_4 rfl ⟨rfl, rfl, rfl⟩

theorem ct_10 {X : zz_X} {d n : Nat} {h : zz_H} (hd : 1 ≤ d) {a : Nat} : zz_Ct X mm_10 d 0 0 [.ref a] n h (zp none n h) := by
  refine zz_start (by decide) (ls := [some (.ref a)]) rfl ?_
  refine zi_aload_n dk_10_0 rfl rfl ?_
  refine zi_objI dk_10_1 zw_144 zo_i zo_c (Nat.le_of_ble_eq_true rfl) (by omega) ?_
  refine zi_return dk_10_4 rfl ⟨rfl, rfl, rfl⟩

theorem ct_9 {X : zz_X} {d n : Nat} {h : zz_H} (hd : 2 ≤ d) {a : Nat} {v w u : Value} (h1 : h a = some (.inr (12, [v, w, u]))) : zz_Ct X mm_9 d 0 0 [.ref a] n h (zp none n (zz_up h a (.inr (12, [v, w, zv 0])))) := by
  refine zz_start (by decide) (ls := [some (.ref a)]) rfl ?_
  refine zi_aload_n dk_9_0 rfl rfl ?_
  refine zi_invI dk_9_1 ml_java_util_AbstractList_1 ii_10 (ct_10 (d := d - 1) (by omega)) rfl rfl (Nat.le_of_ble_eq_true rfl) (by omega) rfl rfl (fun r n' h' hq => ?_)
  obtain ⟨rfl, rfl, rfl⟩ := hq
  refine zi_aload_n dk_9_4 rfl rfl ?_
  refine zj_iconst dk_9_5 ?_
  refine zj_putI dk_9_6 fp_9_7 (by first | assumption | exact zz_up_eq _ _ _ | omega | exact Ne.symm (by assumption) | (refine (zz_up_ne ?_).trans ?_ <;> first | assumption | exact zz_up_eq _ _ _ | omega | exact Ne.symm (by assumption) | (refine (zz_up_ne ?_).trans ?_ <;> first | assumption | exact zz_up_eq _ _ _ | omega | exact Ne.symm (by assumption) | (refine (zz_up_ne ?_).trans ?_ <;> first | assumption | exact zz_up_eq _ _ _ | omega | exact Ne.symm (by assumption))))) rfl ?_
  refine zi_return dk_9_9 rfl ⟨rfl, rfl, rfl⟩

theorem ct_8 {X : zz_X} {d n : Nat} {h : zz_H} (hd : 3 ≤ d) {a : Nat} {v w u : Value} (h1 : h a = some (.inr (12, [v, w, u]))) : zz_Ct X mm_8 d 0 0 [.ref a] n h (zp none n (zz_up h a (.inr (12, [.ref (zz_e X), w, zv 0])))) := by
  refine zz_start (by decide) (ls := [some (.ref a)]) rfl ?_
  refine zi_aload_n dk_8_0 rfl rfl ?_
  refine zi_invI dk_8_1 ml_12_1 ii_9 (ct_9 (d := d - 1) (by omega) h1) rfl rfl (Nat.le_of_ble_eq_true rfl) (by omega) rfl rfl (fun r n' h' hq => ?_)
  obtain ⟨rfl, rfl, rfl⟩ := hq
  refine zi_aload_n dk_8_4 rfl rfl ?_
  refine zi_gets dk_8_5 zw_145 ?_
  refine zj_putR dk_8_8 fp_8_9 (by first | assumption | exact zz_up_eq _ _ _ | omega | exact Ne.symm (by assumption) | (refine (zz_up_ne ?_).trans ?_ <;> first | assumption | exact zz_up_eq _ _ _ | omega | exact Ne.symm (by assumption) | (refine (zz_up_ne ?_).trans ?_ <;> first | assumption | exact zz_up_eq _ _ _ | omega | exact Ne.symm (by assumption) | (refine (zz_up_ne ?_).trans ?_ <;> first | assumption | exact zz_up_eq _ _ _ | omega | exact Ne.symm (by assumption))))) rfl ?_
  refine zi_return dk_8_11 rfl ⟨rfl, rfl, zz_up_up _ _ _ _⟩

theorem ct_37 {X : zz_X} {d n : Nat} {h : zz_H} (hd : 1 ≤ d) {a b c : Int} (ha : 0 ≤ a ∧ 0 < b ∧ b ≤ c ∧ a ≤ 1000 ∧ c ≤ 1000) : zz_Ct X mm_37 d 0 0 [zv a, zv b, zv c] n h (zp (some (zv (a + c))) n h) := by
  refine zz_start (by decide) (ls := [some (zv a), some (zv b), some (zv c), none]) rfl ?_
  refine zj_iload_n dk_37_0 rfl ?_
  refine zj_iload_n dk_37_1 rfl ?_
  refine zj_iload_n dk_37_2 rfl ?_
  refine zj_mmax dk_37_3 zw_346 (by omega) (Nat.le_of_ble_eq_true rfl) (by omega) ?_
  rw [show (if b < c then c else b) = c by split <;> omega]
  refine zj_iadd dk_37_6 ?_
  refine zj_istore_n dk_37_7 rfl ?_
  refine zj_iconst dk_37_8 ?_
  refine zj_iload_n dk_37_9 rfl ?_
  refine zj_icmp_ge (t := 21) dk_37_10 rfl (by omega) (fun c10 => ?_) (fun c10 => ?_)
  · omega
  · skip
    refine zj_iload_n dk_37_13 rfl ?_
    refine zj_ldc (z := 2147483639) dk_37_14 zw_349 rfl ?_
    refine zj_icmp_gt (t := 21) dk_37_16 rfl (by omega) (fun c16 => ?_) (fun c16 => ?_)
    · omega
    · skip
      refine zj_iload_n dk_37_19 rfl ?_
      refine zj_ireturn dk_37_20 rfl ⟨rfl, rfl, rfl⟩

