/-! lists: growing, adding, removing -/
theorem zz_el.up {h : zz_H} {a v : Nat} {e : va_E} (hv : zz_el h v) (hne : v ≠ a) : zz_el (zz_up h a e) v := by
  obtain ⟨ci, vs, r, h1, h2⟩ := hv
  exact ⟨ci, vs, r, by rw [zz_up_ne hne]; exact h1, h2⟩
theorem zz_el.upo {h : zz_H} {a v ci : Nat} {x y : List Value} (hv : zz_el h v) (ha : h a = some (.inr (ci, x))) : zz_el (zz_up h a (.inr (ci, y))) v := by
  by_cases hne : v = a
  · subst hne
    obtain ⟨ci', vs, r, h1, h2, h3⟩ := hv
    rw [ha] at h1
    cases h1
    exact ⟨ci, y, r, zz_up_eq _ _ _, h2, h3⟩
  · exact hv.up hne
theorem zz_el.upq {h : zz_H} {a v kd N : Nat} {f : Nat → Option Nat} {e : va_E} (hv : zz_el h v) (ha : h a = some (zQ kd N f)) : zz_el (zz_up h a e) v := by
  obtain ⟨ci', vs, r, h1, h2⟩ := hv
  exact zz_el.up ⟨ci', vs, r, h1, h2⟩ (zz_ne2 h1 ha)
theorem zq_ne {h : zz_H} {a ea N : Nat} {f : Nat → Option Nat} (h3 : h ea = some (zQ 3 N f)) (h2 : a ≠ ea ∨ ∃ f, h a = some (zQ 4 0 f)) : a ≠ ea := by
  rcases h2 with h2 | ⟨g, h2⟩
  · exact h2
  · intro e
    subst e
    rw [h2] at h3
    unfold zQ at h3
    cases h3
theorem zz_up_sh (h : zz_H) (a b : Nat) (x e y : va_E) : zz_up (zz_up (zz_up h a x) b e) a y = zz_up (zz_up h b e) a y := by
  funext q
  unfold zz_up
  by_cases c1 : q = a <;> by_cases c2 : q = b <;> simp [c1, c2]
theorem zz_up_cm (h : zz_H) {a b : Nat} (x y : va_E) (hab : a ≠ b) : zz_up (zz_up h a x) b y = zz_up (zz_up h b y) a x := by
  funext q
  unfold zz_up
  by_cases c1 : q = a
  · subst c1
    rw [if_pos rfl, if_neg hab, if_pos rfl]
  · rw [if_neg c1, if_neg c1]
theorem ct_41 {X : zz_X} {d n : Nat} {h : zz_H} (hd : 1 ≤ d) {a : Nat} {f : Nat → Option Nat} (h2 : h a = some (zQ 3 10 f)) (hel : ∀ i v, f i = some v → zz_el h v) : zz_Ct X mm_41 d 1 15 [.ref a, zv 15, .ref (zz_mi X)] n h (zp (some (.ref n)) (n + 1) (zz_up h n (zQ 3 15 (fun j => if j < 10 then f j else none)))) := by
  refine zz_start (by decide) (ls := [some (.ref a), some (zv 15), some (.ref (zz_mi X)), none]) rfl ?_
  refine zz_Z.lt (fun hlt => ?_)
  have han : a ≠ n := Nat.ne_of_lt (hlt a _ h2)
  refine zi_aload_n dk_41_0 rfl rfl ?_
  refine zi_ldcM dk_41_1 zw_377 ?_
  refine zi_acmp_ne (rx := some (zz_mi X)) (ry := some (zz_mi X)) (t := 13) dk_41_3 rfl (fun c => absurd rfl c) (fun c3 => ?_)
  refine zj_iload_n dk_41_6 rfl ?_
  refine zj_newq (N := 15) dk_41_7 zw_379 rfl (by decide) rfl rfl ?_
  refine zi_goto (t := 24) dk_41_10 rfl ?_
  refine zi_astore_n dk_41_24 rfl rfl ?_
  refine zi_aload_n dk_41_25 rfl rfl ?_
  refine zj_iconst dk_41_26 ?_
  refine zi_aload_n dk_41_27 rfl rfl ?_
  refine zj_iconst dk_41_28 ?_
  refine zi_aload_n dk_41_29 rfl rfl ?_
  refine zj_qlen dk_41_30 (by first | assumption | exact zz_up_eq _ _ _ | omega | exact Ne.symm (by assumption) | (refine (zz_up_ne ?_).trans ?_ <;> first | assumption | exact zz_up_eq _ _ _ | omega | exact Ne.symm (by assumption) | (refine (zz_up_ne ?_).trans ?_ <;> first | assumption | exact zz_up_eq _ _ _ | omega | exact Ne.symm (by assumption) | (refine (zz_up_ne ?_).trans ?_ <;> first | assumption | exact zz_up_eq _ _ _ | omega | exact Ne.symm (by assumption))))) rfl ?_
  refine zj_iload_n dk_41_31 rfl ?_
  refine zj_mmin dk_41_32 zw_380 (by omega) (Nat.le_of_ble_eq_true rfl) (by omega) ?_
  rw [show (if (15 : Int) < ((10 : Nat) : Int) then (15 : Int) else ((10 : Nat) : Int)) = 10 from rfl]
  refine zj_acopy (n0 := 10) (n1 := 15) (f := f) (g := fun _ => none) dk_41_35 zw_383 (by first | assumption | exact zz_up_eq _ _ _ | omega | exact Ne.symm (by assumption) | (refine (zz_up_ne ?_).trans ?_ <;> first | assumption | exact zz_up_eq _ _ _ | omega | exact Ne.symm (by assumption) | (refine (zz_up_ne ?_).trans ?_ <;> first | assumption | exact zz_up_eq _ _ _ | omega | exact Ne.symm (by assumption) | (refine (zz_up_ne ?_).trans ?_ <;> first | assumption | exact zz_up_eq _ _ _ | omega | exact Ne.symm (by assumption))))) (by first | assumption | exact zz_up_eq _ _ _ | omega | exact Ne.symm (by assumption) | (refine (zz_up_ne ?_).trans ?_ <;> first | assumption | exact zz_up_eq _ _ _ | omega | exact Ne.symm (by assumption) | (refine (zz_up_ne ?_).trans ?_ <;> first | assumption | exact zz_up_eq _ _ _ | omega | exact Ne.symm (by assumption) | (refine (zz_up_ne ?_).trans ?_ <;> first | assumption | exact zz_up_eq _ _ _ | omega | exact Ne.symm (by assumption))))) (by omega) (fun i hi v hv => (hel _ v hv).up (by obtain ⟨ci, vs, r, g1, -⟩ := hel _ v hv; exact Nat.ne_of_lt (hlt _ _ g1))) (Nat.le_of_ble_eq_true rfl) (by omega) ?_
  rw [zz_up_up]
  refine zi_aload_n dk_41_38 rfl rfl ?_
  refine zi_areturn dk_41_39 rfl (Or.inr ⟨_, rfl⟩) rfl ⟨rfl, rfl, ?_⟩
  congr 2
  funext j
  unfold va_cpy
  by_cases hj : j < 10
  · rw [if_pos hj, if_pos (by constructor <;> simp <;> omega)]; simp
  · rw [if_neg hj, if_neg (by simp; omega)]

theorem ct_40 {X : zz_X} {d n : Nat} {h : zz_H} (hd : 2 ≤ d) {a : Nat} {f : Nat → Option Nat} (h2 : h a = some (zQ 3 10 f)) (hel : ∀ i v, f i = some v → zz_el h v) : zz_Ct X mm_40 d 1 15 [.ref a, zv 15] n h (zp (some (.ref n)) (n + 1) (zz_up h n (zQ 3 15 (fun j => if j < 10 then f j else none)))) := by
  refine zz_start (by decide) (ls := [some (.ref a), some (zv 15)]) rfl ?_
  refine zi_aload_n dk_40_0 rfl rfl ?_
  refine zj_iload_n dk_40_1 rfl ?_
  refine zi_aload_n dk_40_2 rfl rfl ?_
  refine zi_getC dk_40_3 zw_356 h2 (Nat.le_of_ble_eq_true rfl) (by omega) ?_
  refine zi_invS dk_40_6 ml_java_util_Arrays_300 is_41 (ct_41 (d := d - 1) (by omega) h2 hel) rfl rfl (Nat.le_of_ble_eq_true rfl) (by omega) (kc' := 0) (ks' := 0) rfl rfl (fun r n' h' hq => ?_)
  obtain ⟨rfl, rfl, rfl⟩ := hq
  refine zi_areturn dk_40_9 rfl (Or.inr ⟨_, rfl⟩) rfl ⟨rfl, rfl, rfl⟩

theorem ct_36 {X : zz_X} {d n : Nat} {h : zz_H} (hd : 4 ≤ d) {a ea N : Nat} {f : Nat → Option Nat} {sz mc : Int} (h1 : h a = some (.inr (12, [.ref ea, zv sz, zv mc]))) (hA : (h ea = some (zQ 3 10 f) ∧ N = 10) ∨ (ea = zz_e X ∧ N = 0 ∧ h ea = some (zQ 4 0 f))) (hs : sz = (N : Int)) (hel : ∀ i v, f i = some v → zz_el h v) : zz_Ct X mm_36 d 1 15 [.ref a, zv (sz + 1)] n h (fun r n' h' => r = some (.ref n) ∧ n' = n + 1 ∧ ∃ (N' : Nat) (f' : Nat → Option Nat), (N' = 10 ∨ N' = 15) ∧ sz < (N' : Int) ∧ (∀ i : Nat, (i : Int) < sz → f' i = f i) ∧ (∀ i w, f' i = some w → f i = some w) ∧ h' = zz_up (zz_up h n (zQ 3 N' f')) a (.inr (12, [.ref n, zv sz, zv mc]))) := by
  refine zz_start (by decide) (ls := [some (.ref a), some (zv (sz + 1)), none, none]) rfl ?_
  refine zz_Z.lt (fun hlt => ?_)
  have han : a ≠ n := Nat.ne_of_lt (hlt a _ h1)
  rcases hA with ⟨h2, rfl⟩ | ⟨rfl, rfl, h2⟩
  · subst hs
    refine zi_aload_n dk_36_0 rfl rfl ?_
    refine zi_getf dk_36_1 fl_12_9 (by first | assumption | exact zz_up_eq _ _ _ | omega | exact Ne.symm (by assumption) | (refine (zz_up_ne ?_).trans ?_ <;> first | assumption | exact zz_up_eq _ _ _ | omega | exact Ne.symm (by assumption) | (refine (zz_up_ne ?_).trans ?_ <;> first | assumption | exact zz_up_eq _ _ _ | omega | exact Ne.symm (by assumption) | (refine (zz_up_ne ?_).trans ?_ <;> first | assumption | exact zz_up_eq _ _ _ | omega | exact Ne.symm (by assumption))))) rfl ?_
    refine zj_qlen dk_36_4 h2 rfl ?_
    refine zj_istore_n dk_36_5 rfl ?_
    refine zj_iload_n dk_36_6 rfl ?_
    refine zj_if_gt (t := 20) dk_36_7 rfl (by omega) (fun c7 => ?_) (fun c7 => ?_)
    · skip
      refine zj_iload_n dk_36_20 rfl ?_
      refine zj_iload_n dk_36_21 rfl ?_
      refine zj_iload_n dk_36_22 rfl ?_
      refine zj_isub dk_36_23 ?_
      refine zj_iload_n dk_36_24 rfl ?_
      refine zj_iconst dk_36_25 ?_
      refine zj_ishr dk_36_26 ?_
      rw [show zb_shr ((10 : Nat) : Int) 1 = 5 from by decide]
      refine zi_invS dk_36_27 ml_12_73 is_37 (ct_37 (d := d - 1) (by omega) (by omega)) rfl rfl (Nat.le_of_ble_eq_true rfl) (by omega) rfl rfl (fun r n' h' hq => ?_)
      obtain ⟨rfl, rfl, rfl⟩ := hq
      rw [show ((10 : Nat) : Int) + 5 = 15 from rfl]
      refine zj_istore_n dk_36_30 rfl ?_
      refine zi_aload_n dk_36_31 rfl rfl ?_
      refine zi_aload_n dk_36_32 rfl rfl ?_
      refine zi_getf dk_36_33 fl_12_9 (by first | assumption | exact zz_up_eq _ _ _ | omega | exact Ne.symm (by assumption) | (refine (zz_up_ne ?_).trans ?_ <;> first | assumption | exact zz_up_eq _ _ _ | omega | exact Ne.symm (by assumption) | (refine (zz_up_ne ?_).trans ?_ <;> first | assumption | exact zz_up_eq _ _ _ | omega | exact Ne.symm (by assumption) | (refine (zz_up_ne ?_).trans ?_ <;> first | assumption | exact zz_up_eq _ _ _ | omega | exact Ne.symm (by assumption))))) rfl ?_
      refine zj_iload_n dk_36_36 rfl ?_
      refine zi_invS dk_36_37 ml_12_66 is_40 (ct_40 (d := d - 1) (by omega) h2 hel) rfl rfl (Nat.le_of_ble_eq_true rfl) (by omega) (kc' := 0) (ks' := 0) rfl rfl (fun r n' h' hq => ?_)
      obtain ⟨rfl, rfl, rfl⟩ := hq
      refine zi_dup_x1 dk_36_40 rfl rfl ?_
      refine zj_putR dk_36_41 fp_36_9 (by first | assumption | exact zz_up_eq _ _ _ | omega | exact Ne.symm (by assumption) | (refine (zz_up_ne ?_).trans ?_ <;> first | assumption | exact zz_up_eq _ _ _ | omega | exact Ne.symm (by assumption) | (refine (zz_up_ne ?_).trans ?_ <;> first | assumption | exact zz_up_eq _ _ _ | omega | exact Ne.symm (by assumption) | (refine (zz_up_ne ?_).trans ?_ <;> first | assumption | exact zz_up_eq _ _ _ | omega | exact Ne.symm (by assumption))))) rfl ?_
      refine zi_areturn dk_36_44 rfl (Or.inr ⟨_, rfl⟩) rfl ⟨rfl, rfl, 15, _, Or.inr rfl, by omega, fun i hi => ?_, fun i w hw => ?_, rfl⟩
      · show (if i < 10 then f i else none) = f i
        rw [if_pos (by omega)]
      · have hw : (if i < 10 then f i else none) = some w := hw
        split at hw
        · exact hw
        · cases hw
    · omega
  · subst hs
    refine zi_aload_n dk_36_0 rfl rfl ?_
    refine zi_getf dk_36_1 fl_12_9 (by first | assumption | exact zz_up_eq _ _ _ | omega | exact Ne.symm (by assumption) | (refine (zz_up_ne ?_).trans ?_ <;> first | assumption | exact zz_up_eq _ _ _ | omega | exact Ne.symm (by assumption) | (refine (zz_up_ne ?_).trans ?_ <;> first | assumption | exact zz_up_eq _ _ _ | omega | exact Ne.symm (by assumption) | (refine (zz_up_ne ?_).trans ?_ <;> first | assumption | exact zz_up_eq _ _ _ | omega | exact Ne.symm (by assumption))))) rfl ?_
    refine zj_qlen dk_36_4 h2 rfl ?_
    refine zj_istore_n dk_36_5 rfl ?_
    refine zj_iload_n dk_36_6 rfl ?_
    refine zj_if_gt (t := 20) dk_36_7 rfl (by omega) (fun c7 => ?_) (fun c7 => ?_)
    · omega
    · skip
      refine zi_aload_n dk_36_10 rfl rfl ?_
      refine zi_getf dk_36_11 fl_12_9 (by first | assumption | exact zz_up_eq _ _ _ | omega | exact Ne.symm (by assumption) | (refine (zz_up_ne ?_).trans ?_ <;> first | assumption | exact zz_up_eq _ _ _ | omega | exact Ne.symm (by assumption) | (refine (zz_up_ne ?_).trans ?_ <;> first | assumption | exact zz_up_eq _ _ _ | omega | exact Ne.symm (by assumption) | (refine (zz_up_ne ?_).trans ?_ <;> first | assumption | exact zz_up_eq _ _ _ | omega | exact Ne.symm (by assumption))))) rfl ?_
      refine zi_gets dk_36_14 zw_145 ?_
      refine zi_acmp_eq (rx := some (zz_e X)) (ry := some (zz_e X)) (t := 45) dk_36_17 rfl (fun c17 => ?_) (fun c => absurd rfl c)
      refine zi_aload_n dk_36_45 rfl rfl ?_
      refine zj_bipush dk_36_46 (by decide) ?_
      refine zj_iload_n dk_36_48 rfl ?_
      refine zj_mmax dk_36_49 zw_386 (by omega) (Nat.le_of_ble_eq_true rfl) (by omega) ?_
      rw [show (if (10 : Int) < ((0 : Nat) : Int) + 1 then ((0 : Nat) : Int) + 1 else (10 : Int)) = 10 from rfl]
      refine (zj_newq (N := 10) dk_36_52 zw_387 rfl (by decide) (kc' := 0) (ks' := 5) rfl rfl ?_)
      refine zi_dup_x1 dk_36_55 rfl rfl ?_
      refine zj_putR dk_36_56 fp_36_9 (by first | assumption | exact zz_up_eq _ _ _ | omega | exact Ne.symm (by assumption) | (refine (zz_up_ne ?_).trans ?_ <;> first | assumption | exact zz_up_eq _ _ _ | omega | exact Ne.symm (by assumption) | (refine (zz_up_ne ?_).trans ?_ <;> first | assumption | exact zz_up_eq _ _ _ | omega | exact Ne.symm (by assumption) | (refine (zz_up_ne ?_).trans ?_ <;> first | assumption | exact zz_up_eq _ _ _ | omega | exact Ne.symm (by assumption))))) rfl ?_
      refine zi_areturn dk_36_59 rfl (Or.inr ⟨_, rfl⟩) rfl ⟨rfl, rfl, 10, _, Or.inl rfl, by omega, fun i hi => ?_, fun i w hw => ?_, rfl⟩
      · omega
      · cases hw

theorem ct_35 {X : zz_X} {d n : Nat} {h : zz_H} (hd : 5 ≤ d) {a ea N : Nat} {f : Nat → Option Nat} {sz mc : Int} (h1 : h a = some (.inr (12, [.ref ea, zv sz, zv mc]))) (hA : (h ea = some (zQ 3 10 f) ∧ N = 10) ∨ (ea = zz_e X ∧ N = 0 ∧ h ea = some (zQ 4 0 f))) (hs : sz = (N : Int)) (hel : ∀ i v, f i = some v → zz_el h v) : zz_Ct X mm_35 d 1 15 [.ref a] n h (fun r n' h' => r = some (.ref n) ∧ n' = n + 1 ∧ ∃ (N' : Nat) (f' : Nat → Option Nat), (N' = 10 ∨ N' = 15) ∧ sz < (N' : Int) ∧ (∀ i : Nat, (i : Int) < sz → f' i = f i) ∧ (∀ i w, f' i = some w → f i = some w) ∧ h' = zz_up (zz_up h n (zQ 3 N' f')) a (.inr (12, [.ref n, zv sz, zv mc]))) := by
  refine zz_start (by decide) (ls := [some (.ref a)]) rfl ?_
  refine zi_aload_n dk_35_0 rfl rfl ?_
  refine zi_aload_n dk_35_1 rfl rfl ?_
  refine zi_getf dk_35_2 fl_12_48 (by first | assumption | exact zz_up_eq _ _ _ | omega | exact Ne.symm (by assumption) | (refine (zz_up_ne ?_).trans ?_ <;> first | assumption | exact zz_up_eq _ _ _ | omega | exact Ne.symm (by assumption) | (refine (zz_up_ne ?_).trans ?_ <;> first | assumption | exact zz_up_eq _ _ _ | omega | exact Ne.symm (by assumption) | (refine (zz_up_ne ?_).trans ?_ <;> first | assumption | exact zz_up_eq _ _ _ | omega | exact Ne.symm (by assumption))))) rfl ?_
  refine zj_iconst dk_35_5 ?_
  refine zj_iadd dk_35_6 ?_
  refine zi_invV dk_35_7 ml_12_69 iv_36 (ct_36 (d := d - 1) (by omega) h1 hA hs hel) (by first | assumption | exact zz_up_eq _ _ _ | omega | exact Ne.symm (by assumption) | (refine (zz_up_ne ?_).trans ?_ <;> first | assumption | exact zz_up_eq _ _ _ | omega | exact Ne.symm (by assumption) | (refine (zz_up_ne ?_).trans ?_ <;> first | assumption | exact zz_up_eq _ _ _ | omega | exact Ne.symm (by assumption) | (refine (zz_up_ne ?_).trans ?_ <;> first | assumption | exact zz_up_eq _ _ _ | omega | exact Ne.symm (by assumption))))) rfl rfl rfl (Nat.le_of_ble_eq_true rfl) (by omega) (kc' := 0) (ks' := 0) rfl rfl (fun r n' h' hq => ?_)
  obtain ⟨rfl, hq⟩ := hq
  refine zi_areturn dk_35_10 rfl (Or.inr ⟨_, rfl⟩) rfl ⟨rfl, hq⟩

theorem ct_34 {X : zz_X} {d n : Nat} {h : zz_H} (hd : 6 ≤ d) {a ea N : Nat} {f : Nat → Option Nat} {sz mc : Int} (h1 : h a = some (.inr (12, [.ref ea, zv sz, zv mc]))) {v : Nat} (hA : (h ea = some (zQ 3 N f) ∧ (N = 10 ∨ N = 15)) ∨ (ea = zz_e X ∧ N = 0 ∧ h ea = some (zQ 4 0 f))) (hs : 0 ≤ sz ∧ sz ≤ (N : Int) ∧ sz < 15) (hel : ∀ i w, f i = some w → zz_el h w) (hv : zz_el h v) : zz_Ct X mm_34 d 1 15 [.ref a, .ref v, .ref ea, zv sz] n h (fun r n' h' => r = none ∧ ∃ (ea' N' : Nat) (f' : Nat → Option Nat), (N' = 10 ∨ N' = 15) ∧ sz < (N' : Int) ∧ (∀ i : Nat, (i : Int) < sz → f' i = f i) ∧ f' sz.toNat = some v ∧ (∀ i w, f' i = some w → f i = some w ∨ w = v) ∧ h' = zz_up (zz_up h ea' (zQ 3 N' f')) a (.inr (12, [.ref ea', zv (sz + 1), zv (mc)])) ∧ ((ea' = ea ∧ n' = n ∧ h ea = some (zQ 3 N f)) ∨ (ea' = n ∧ n' = n + 1))) := by
  refine zz_start (by decide) (ls := [some (.ref a), some (.ref v), some (.ref ea), some (zv sz)]) rfl ?_
  refine zz_Z.lt (fun hlt => ?_)
  have han : a ≠ n := Nat.ne_of_lt (hlt a _ h1)
  have hvn : v ≠ n := by obtain ⟨ci, vs, r, g1, -⟩ := hv; exact Nat.ne_of_lt (hlt _ _ g1)
  by_cases hful : sz = (N : Int)
  · have hA2 : (h ea = some (zQ 3 10 f) ∧ N = 10) ∨ (ea = zz_e X ∧ N = 0 ∧ h ea = some (zQ 4 0 f)) := by
      rcases hA with ⟨h2, h3⟩ | hA
      · have h10 : N = 10 := by omega
        subst h10
        exact Or.inl ⟨h2, rfl⟩
      · exact Or.inr hA
    have hlen : ∃ kd : Nat, h ea = some (zQ kd N f) ∧ ∃ ty, (zz_ty X)[kd]? = some (zz_a X kd, ty) := by
      rcases hA2 with ⟨h2, rfl⟩ | ⟨-, rfl, h2⟩
      · exact ⟨3, h2, _, rfl⟩
      · exact ⟨4, h2, _, rfl⟩
    obtain ⟨kd, h2, ty, hty⟩ := hlen
    refine zj_iload_n dk_34_0 rfl ?_
    refine zi_aload_n dk_34_1 rfl rfl ?_
    refine zj_qlen dk_34_2 h2 hty ?_
    refine zj_icmp_ne (t := 11) dk_34_3 rfl (by omega) (fun c3 => ?_) (fun c3 => ?_)
    · omega
    · skip
      refine zi_aload_n dk_34_6 rfl rfl ?_
      refine zi_invV dk_34_7 ml_12_129 iv_35 (ct_35 (d := d - 1) (by omega) h1 hA2 hful hel) (by first | assumption | exact zz_up_eq _ _ _ | omega | exact Ne.symm (by assumption) | (refine (zz_up_ne ?_).trans ?_ <;> first | assumption | exact zz_up_eq _ _ _ | omega | exact Ne.symm (by assumption) | (refine (zz_up_ne ?_).trans ?_ <;> first | assumption | exact zz_up_eq _ _ _ | omega | exact Ne.symm (by assumption) | (refine (zz_up_ne ?_).trans ?_ <;> first | assumption | exact zz_up_eq _ _ _ | omega | exact Ne.symm (by assumption))))) rfl rfl rfl (Nat.le_of_ble_eq_true rfl) (by omega) (kc' := 0) (ks' := 0) rfl rfl (fun r n' h' hq => ?_)
      obtain ⟨rfl, rfl, N', f', hN', hsz', hf1, hf2, rfl⟩ := hq
      refine zi_astore_n dk_34_10 rfl rfl ?_
      refine zi_aload_n dk_34_11 rfl rfl ?_
      refine zj_iload_n dk_34_12 rfl ?_
      refine zi_aload_n dk_34_13 rfl rfl ?_
      refine zj_aast (N := N') (f := f') dk_34_14 (by first | assumption | exact zz_up_eq _ _ _ | omega | exact Ne.symm (by assumption) | (refine (zz_up_ne ?_).trans ?_ <;> first | assumption | exact zz_up_eq _ _ _ | omega | exact Ne.symm (by assumption) | (refine (zz_up_ne ?_).trans ?_ <;> first | assumption | exact zz_up_eq _ _ _ | omega | exact Ne.symm (by assumption) | (refine (zz_up_ne ?_).trans ?_ <;> first | assumption | exact zz_up_eq _ _ _ | omega | exact Ne.symm (by assumption))))) ((hv.up hvn).upo (zz_up_ne han |>.trans h1)) (by omega) ?_
      refine zi_aload_n dk_34_15 rfl rfl ?_
      refine zj_iload_n dk_34_16 rfl ?_
      refine zj_iconst dk_34_17 ?_
      refine zj_iadd dk_34_18 ?_
      refine zj_putI dk_34_19 fp_34_48 (by first | assumption | exact zz_up_eq _ _ _ | omega | exact Ne.symm (by assumption) | (refine (zz_up_ne ?_).trans ?_ <;> first | assumption | exact zz_up_eq _ _ _ | omega | exact Ne.symm (by assumption) | (refine (zz_up_ne ?_).trans ?_ <;> first | assumption | exact zz_up_eq _ _ _ | omega | exact Ne.symm (by assumption) | (refine (zz_up_ne ?_).trans ?_ <;> first | assumption | exact zz_up_eq _ _ _ | omega | exact Ne.symm (by assumption))))) rfl ?_
      refine zi_return dk_34_22 rfl ⟨rfl, n, N', va_up f' sz.toNat (some v), hN', hsz', fun i hi => (va_up_ne _ _ (by omega)).trans (hf1 i hi), va_up_self _ _ _, fun i w hw => ?_, ?_, Or.inr ⟨rfl, rfl⟩⟩
      · by_cases hi : i = sz.toNat
        · subst hi
          rw [va_up_self] at hw
          cases hw
          exact Or.inr rfl
        · rw [va_up_ne _ _ hi] at hw
          exact Or.inl (hf2 i w hw)
      · rw [zz_up_sh, zz_up_up]
  · have hA3 : h ea = some (zQ 3 N f) ∧ (N = 10 ∨ N = 15) := by
      rcases hA with hA | ⟨-, rfl, -⟩
      · exact hA
      · omega
    obtain ⟨h2, hN⟩ := hA3
    have hae := zz_ne2 h1 h2
    refine zj_iload_n dk_34_0 rfl ?_
    refine zi_aload_n dk_34_1 rfl rfl ?_
    refine zj_qlen dk_34_2 h2 rfl ?_
    refine zj_icmp_ne (t := 11) dk_34_3 rfl (by omega) (fun c3 => ?_) (fun c3 => ?_)
    · skip
      refine zi_aload_n dk_34_11 rfl rfl ?_
      refine zj_iload_n dk_34_12 rfl ?_
      refine zi_aload_n dk_34_13 rfl rfl ?_
      refine zj_aast dk_34_14 h2 hv (by omega) ?_
      refine zi_aload_n dk_34_15 rfl rfl ?_
      refine zj_iload_n dk_34_16 rfl ?_
      refine zj_iconst dk_34_17 ?_
      refine zj_iadd dk_34_18 ?_
      refine zj_putI dk_34_19 fp_34_48 (by first | assumption | exact zz_up_eq _ _ _ | omega | exact Ne.symm (by assumption) | (refine (zz_up_ne ?_).trans ?_ <;> first | assumption | exact zz_up_eq _ _ _ | omega | exact Ne.symm (by assumption) | (refine (zz_up_ne ?_).trans ?_ <;> first | assumption | exact zz_up_eq _ _ _ | omega | exact Ne.symm (by assumption) | (refine (zz_up_ne ?_).trans ?_ <;> first | assumption | exact zz_up_eq _ _ _ | omega | exact Ne.symm (by assumption))))) rfl ?_
      refine zi_return dk_34_22 rfl ⟨rfl, ea, N, va_up f sz.toNat (some v), hN, by omega, fun i hi => va_up_ne _ _ (by omega), va_up_self _ _ _, fun i w hw => ?_, rfl, Or.inl ⟨rfl, rfl, h2⟩⟩
      by_cases hi : i = sz.toNat
      · subst hi
        rw [va_up_self] at hw
        cases hw
        exact Or.inr rfl
      · rw [va_up_ne _ _ hi] at hw
        exact Or.inl hw
    · omega

theorem ct_33 {X : zz_X} {d n : Nat} {h : zz_H} (hd : 7 ≤ d) {a ea N : Nat} {f : Nat → Option Nat} {sz mc : Int} (h1 : h a = some (.inr (12, [.ref ea, zv sz, zv mc]))) {v : Nat} (hA : (h ea = some (zQ 3 N f) ∧ (N = 10 ∨ N = 15)) ∨ (ea = zz_e X ∧ N = 0 ∧ h ea = some (zQ 4 0 f))) (hs : 0 ≤ sz ∧ sz ≤ (N : Int) ∧ sz < 15) (hel : ∀ i w, f i = some w → zz_el h w) (hv : zz_el h v) : zz_Ct X mm_33 d 1 15 [.ref a, .ref v] n h (fun r n' h' => r = some (zv 1) ∧ ∃ (ea' N' : Nat) (f' : Nat → Option Nat), (N' = 10 ∨ N' = 15) ∧ sz < (N' : Int) ∧ (∀ i : Nat, (i : Int) < sz → f' i = f i) ∧ f' sz.toNat = some v ∧ (∀ i w, f' i = some w → f i = some w ∨ w = v) ∧ h' = zz_up (zz_up h ea' (zQ 3 N' f')) a (.inr (12, [.ref ea', zv (sz + 1), zv (mc + 1)])) ∧ ((ea' = ea ∧ n' = n ∧ h ea = some (zQ 3 N f)) ∨ (ea' = n ∧ n' = n + 1))) := by
  refine zz_start (by decide) (ls := [some (.ref a), some (.ref v)]) rfl ?_
  have hne : ea ≠ a := by rcases hA with ⟨h2, -⟩ | ⟨-, -, h2⟩ <;> exact (zz_ne2 h1 h2).symm
  refine zi_aload_n dk_33_0 rfl rfl ?_
  refine zi_dup dk_33_1 rfl ?_
  refine zi_getf dk_33_2 fl_12_63 (by first | assumption | exact zz_up_eq _ _ _ | omega | exact Ne.symm (by assumption) | (refine (zz_up_ne ?_).trans ?_ <;> first | assumption | exact zz_up_eq _ _ _ | omega | exact Ne.symm (by assumption) | (refine (zz_up_ne ?_).trans ?_ <;> first | assumption | exact zz_up_eq _ _ _ | omega | exact Ne.symm (by assumption) | (refine (zz_up_ne ?_).trans ?_ <;> first | assumption | exact zz_up_eq _ _ _ | omega | exact Ne.symm (by assumption))))) rfl ?_
  refine zj_iconst dk_33_5 ?_
  refine zj_iadd dk_33_6 ?_
  refine zj_putI dk_33_7 fp_33_63 (by first | assumption | exact zz_up_eq _ _ _ | omega | exact Ne.symm (by assumption) | (refine (zz_up_ne ?_).trans ?_ <;> first | assumption | exact zz_up_eq _ _ _ | omega | exact Ne.symm (by assumption) | (refine (zz_up_ne ?_).trans ?_ <;> first | assumption | exact zz_up_eq _ _ _ | omega | exact Ne.symm (by assumption) | (refine (zz_up_ne ?_).trans ?_ <;> first | assumption | exact zz_up_eq _ _ _ | omega | exact Ne.symm (by assumption))))) rfl ?_
  refine zi_aload_n dk_33_10 rfl rfl ?_
  refine zi_aload_n dk_33_11 rfl rfl ?_
  refine zi_aload_n dk_33_12 rfl rfl ?_
  refine zi_getf dk_33_13 fl_12_9 (by first | assumption | exact zz_up_eq _ _ _ | omega | exact Ne.symm (by assumption) | (refine (zz_up_ne ?_).trans ?_ <;> first | assumption | exact zz_up_eq _ _ _ | omega | exact Ne.symm (by assumption) | (refine (zz_up_ne ?_).trans ?_ <;> first | assumption | exact zz_up_eq _ _ _ | omega | exact Ne.symm (by assumption) | (refine (zz_up_ne ?_).trans ?_ <;> first | assumption | exact zz_up_eq _ _ _ | omega | exact Ne.symm (by assumption))))) rfl ?_
  refine zi_aload_n dk_33_16 rfl rfl ?_
  refine zi_getf dk_33_17 fl_12_48 (by first | assumption | exact zz_up_eq _ _ _ | omega | exact Ne.symm (by assumption) | (refine (zz_up_ne ?_).trans ?_ <;> first | assumption | exact zz_up_eq _ _ _ | omega | exact Ne.symm (by assumption) | (refine (zz_up_ne ?_).trans ?_ <;> first | assumption | exact zz_up_eq _ _ _ | omega | exact Ne.symm (by assumption) | (refine (zz_up_ne ?_).trans ?_ <;> first | assumption | exact zz_up_eq _ _ _ | omega | exact Ne.symm (by assumption))))) rfl ?_
  refine zi_invV dk_33_20 ml_12_131 iv_34 (ct_34 (d := d - 1) (N := N) (f := f) (by omega) (zz_up_eq _ _ _) (by rw [zz_up_ne hne]; exact hA) hs (fun i w hw => (hel i w hw).upo h1) (hv.upo h1)) (by first | assumption | exact zz_up_eq _ _ _ | omega | exact Ne.symm (by assumption) | (refine (zz_up_ne ?_).trans ?_ <;> first | assumption | exact zz_up_eq _ _ _ | omega | exact Ne.symm (by assumption) | (refine (zz_up_ne ?_).trans ?_ <;> first | assumption | exact zz_up_eq _ _ _ | omega | exact Ne.symm (by assumption) | (refine (zz_up_ne ?_).trans ?_ <;> first | assumption | exact zz_up_eq _ _ _ | omega | exact Ne.symm (by assumption))))) rfl rfl rfl (Nat.le_of_ble_eq_true rfl) (by omega) (kc' := 0) (ks' := 0) rfl rfl (fun r n' h' hq => ?_)
  obtain ⟨rfl, ea', N', f', q1, q2, q3, q4, q5, rfl, q6⟩ := hq
  refine zj_iconst dk_33_23 ?_
  refine zj_zreturn dk_33_24 rfl (by omega) ⟨rfl, ea', N', f', q1, q2, q3, q4, q5, zz_up_sh _ _ _ _ _ _, by rcases q6 with ⟨e1, e2, e3⟩ | q6; exact Or.inl ⟨e1, e2, by rw [zz_up_ne hne] at e3; exact e3⟩; exact Or.inr q6⟩

theorem ct_66 {X : zz_X} {d n : Nat} {h : zz_H} (hd : 1 ≤ d) {a ea N : Nat} {f : Nat → Option Nat} {sz mc : Int} (h1 : h a = some (.inr (12, [.ref ea, zv sz, zv mc]))) (h2 : h ea = some (zQ 3 N f)) (hN : N = 10 ∨ N = 15) {i : Int} (hi : 0 ≤ i ∧ i < sz ∧ sz ≤ (N : Int)) (hel : ∀ j w, f j = some w → zz_el h w) : zz_Ct X mm_66 d 0 0 [.ref a, .ref ea, zv i] n h (fun r n' h' => r = none ∧ ∃ f' : Nat → Option Nat, (∀ j : Nat, (j : Int) < i → f' j = f j) ∧ (∀ j : Nat, i ≤ (j : Int) → (j : Int) < sz - 1 → f' j = f (j + 1)) ∧ (∀ j w, f' j = some w → ∃ k, f k = some w) ∧ n' = n ∧ h' = zz_up (zz_up h ea (zQ 3 N f')) a (.inr (12, [.ref ea, zv (sz - 1), zv (mc + 1)]))) := by
  refine zz_start (by decide) (ls := [some (.ref a), some (.ref ea), some (zv i), none]) rfl ?_
  have hne := zz_ne2 h1 h2
  refine zi_aload_n dk_66_0 rfl rfl ?_
  refine zi_dup dk_66_1 rfl ?_
  refine zi_getf dk_66_2 fl_12_63 (by first | assumption | exact zz_up_eq _ _ _ | omega | exact Ne.symm (by assumption) | (refine (zz_up_ne ?_).trans ?_ <;> first | assumption | exact zz_up_eq _ _ _ | omega | exact Ne.symm (by assumption) | (refine (zz_up_ne ?_).trans ?_ <;> first | assumption | exact zz_up_eq _ _ _ | omega | exact Ne.symm (by assumption) | (refine (zz_up_ne ?_).trans ?_ <;> first | assumption | exact zz_up_eq _ _ _ | omega | exact Ne.symm (by assumption))))) rfl ?_
  refine zj_iconst dk_66_5 ?_
  refine zj_iadd dk_66_6 ?_
  refine zj_putI dk_66_7 fp_66_63 (by first | assumption | exact zz_up_eq _ _ _ | omega | exact Ne.symm (by assumption) | (refine (zz_up_ne ?_).trans ?_ <;> first | assumption | exact zz_up_eq _ _ _ | omega | exact Ne.symm (by assumption) | (refine (zz_up_ne ?_).trans ?_ <;> first | assumption | exact zz_up_eq _ _ _ | omega | exact Ne.symm (by assumption) | (refine (zz_up_ne ?_).trans ?_ <;> first | assumption | exact zz_up_eq _ _ _ | omega | exact Ne.symm (by assumption))))) rfl ?_
  refine zi_aload_n dk_66_10 rfl rfl ?_
  refine zi_getf dk_66_11 fl_12_48 (by first | assumption | exact zz_up_eq _ _ _ | omega | exact Ne.symm (by assumption) | (refine (zz_up_ne ?_).trans ?_ <;> first | assumption | exact zz_up_eq _ _ _ | omega | exact Ne.symm (by assumption) | (refine (zz_up_ne ?_).trans ?_ <;> first | assumption | exact zz_up_eq _ _ _ | omega | exact Ne.symm (by assumption) | (refine (zz_up_ne ?_).trans ?_ <;> first | assumption | exact zz_up_eq _ _ _ | omega | exact Ne.symm (by assumption))))) rfl ?_
  refine zj_iconst dk_66_14 ?_
  refine zj_isub dk_66_15 ?_
  refine zi_dup dk_66_16 rfl ?_
  refine zj_istore_n dk_66_17 rfl ?_
  refine zj_iload_n dk_66_18 rfl ?_
  refine zj_icmp_le (t := 34) dk_66_19 rfl (by omega) (fun c19 => ?_) (fun c19 => ?_)
  · skip
    refine zi_aload_n dk_66_34 rfl rfl ?_
    refine zi_aload_n dk_66_35 rfl rfl ?_
    refine zj_iload_n dk_66_36 rfl ?_
    refine zi_dup_x1 dk_66_37 rfl rfl ?_
    refine zj_putI dk_66_38 fp_66_48 (by first | assumption | exact zz_up_eq _ _ _ | omega | exact Ne.symm (by assumption) | (refine (zz_up_ne ?_).trans ?_ <;> first | assumption | exact zz_up_eq _ _ _ | omega | exact Ne.symm (by assumption) | (refine (zz_up_ne ?_).trans ?_ <;> first | assumption | exact zz_up_eq _ _ _ | omega | exact Ne.symm (by assumption) | (refine (zz_up_ne ?_).trans ?_ <;> first | assumption | exact zz_up_eq _ _ _ | omega | exact Ne.symm (by assumption))))) rfl ?_
    refine zi_null dk_66_41 ?_
    refine zj_aastN dk_66_42 (by first | assumption | exact zz_up_eq _ _ _ | omega | exact Ne.symm (by assumption) | (refine (zz_up_ne ?_).trans ?_ <;> first | assumption | exact zz_up_eq _ _ _ | omega | exact Ne.symm (by assumption) | (refine (zz_up_ne ?_).trans ?_ <;> first | assumption | exact zz_up_eq _ _ _ | omega | exact Ne.symm (by assumption) | (refine (zz_up_ne ?_).trans ?_ <;> first | assumption | exact zz_up_eq _ _ _ | omega | exact Ne.symm (by assumption))))) (by omega) ?_
    refine zi_return dk_66_43 rfl ⟨rfl, va_up f (sz - 1).toNat none, fun j hj => va_up_ne _ _ (by omega), fun j hj1 hj2 => by omega, fun j w hw => ?_, rfl, ?_⟩
    · by_cases hj : j = (sz - 1).toNat
      · subst hj; rw [va_up_self] at hw; cases hw
      · rw [va_up_ne _ _ hj] at hw; exact ⟨j, hw⟩
    · rw [zz_up_cm _ _ _ hne, zz_up_sh]
  · skip
    refine zi_aload_n dk_66_22 rfl rfl ?_
    refine zj_iload_n dk_66_23 rfl ?_
    refine zj_iconst dk_66_24 ?_
    refine zj_iadd dk_66_25 ?_
    refine zi_aload_n dk_66_26 rfl rfl ?_
    refine zj_iload_n dk_66_27 rfl ?_
    refine zj_iload_n dk_66_28 rfl ?_
    refine zj_iload_n dk_66_29 rfl ?_
    refine zj_isub dk_66_30 ?_
    refine zj_acopy (n0 := N) (n1 := N) (f := f) (g := f) dk_66_31 zw_527 (by first | assumption | exact zz_up_eq _ _ _ | omega | exact Ne.symm (by assumption) | (refine (zz_up_ne ?_).trans ?_ <;> first | assumption | exact zz_up_eq _ _ _ | omega | exact Ne.symm (by assumption) | (refine (zz_up_ne ?_).trans ?_ <;> first | assumption | exact zz_up_eq _ _ _ | omega | exact Ne.symm (by assumption) | (refine (zz_up_ne ?_).trans ?_ <;> first | assumption | exact zz_up_eq _ _ _ | omega | exact Ne.symm (by assumption))))) (by first | assumption | exact zz_up_eq _ _ _ | omega | exact Ne.symm (by assumption) | (refine (zz_up_ne ?_).trans ?_ <;> first | assumption | exact zz_up_eq _ _ _ | omega | exact Ne.symm (by assumption) | (refine (zz_up_ne ?_).trans ?_ <;> first | assumption | exact zz_up_eq _ _ _ | omega | exact Ne.symm (by assumption) | (refine (zz_up_ne ?_).trans ?_ <;> first | assumption | exact zz_up_eq _ _ _ | omega | exact Ne.symm (by assumption))))) (by omega) (fun j hj v hv => (hel _ v hv).upo h1) (Nat.le_of_ble_eq_true rfl) (by omega) ?_
    refine zi_aload_n dk_66_34 rfl rfl ?_
    refine zi_aload_n dk_66_35 rfl rfl ?_
    refine zj_iload_n dk_66_36 rfl ?_
    refine zi_dup_x1 dk_66_37 rfl rfl ?_
    refine zj_putI dk_66_38 fp_66_48 (by first | assumption | exact zz_up_eq _ _ _ | omega | exact Ne.symm (by assumption) | (refine (zz_up_ne ?_).trans ?_ <;> first | assumption | exact zz_up_eq _ _ _ | omega | exact Ne.symm (by assumption) | (refine (zz_up_ne ?_).trans ?_ <;> first | assumption | exact zz_up_eq _ _ _ | omega | exact Ne.symm (by assumption) | (refine (zz_up_ne ?_).trans ?_ <;> first | assumption | exact zz_up_eq _ _ _ | omega | exact Ne.symm (by assumption))))) rfl ?_
    refine zi_null dk_66_41 ?_
    refine zj_aastN dk_66_42 (by first | assumption | exact zz_up_eq _ _ _ | omega | exact Ne.symm (by assumption) | (refine (zz_up_ne ?_).trans ?_ <;> first | assumption | exact zz_up_eq _ _ _ | omega | exact Ne.symm (by assumption) | (refine (zz_up_ne ?_).trans ?_ <;> first | assumption | exact zz_up_eq _ _ _ | omega | exact Ne.symm (by assumption) | (refine (zz_up_ne ?_).trans ?_ <;> first | assumption | exact zz_up_eq _ _ _ | omega | exact Ne.symm (by assumption))))) (by omega) ?_
    refine zi_return dk_66_43 rfl ⟨rfl, va_up (va_cpy f f (i + 1).toNat i.toNat (sz - 1 - i).toNat) (sz - 1).toNat none, fun j hj => ?_, fun j hj1 hj2 => ?_, fun j w hw => ?_, rfl, ?_⟩
    · rw [va_up_ne _ _ (by omega)]; unfold va_cpy; rw [if_neg (by omega)]
    · rw [va_up_ne _ _ (by omega)]; unfold va_cpy; rw [if_pos (by omega)]; congr 1; omega
    · by_cases hj : j = (sz - 1).toNat
      · subst hj; rw [va_up_self] at hw; cases hw
      · rw [va_up_ne _ _ hj] at hw; unfold va_cpy at hw; split at hw <;> exact ⟨_, hw⟩
    · rw [zz_up_cm _ _ _ hne, zz_up_up, zz_up_sh]

theorem ct_65 {X : zz_X} {d n : Nat} {h : zz_H} (hd : 3 ≤ d) {a ea N : Nat} {f : Nat → Option Nat} {sz mc : Int} (h1 : h a = some (.inr (12, [.ref ea, zv sz, zv mc]))) (h2 : h ea = some (zQ 3 N f)) (hN : N = 10 ∨ N = 15) {i : Int} (hi : 0 ≤ i ∧ i < sz ∧ sz ≤ (N : Int)) (hel : ∀ j w, f j = some w → zz_el h w) {v : Nat} (hv : f i.toNat = some v) : zz_Ct X mm_65 d 0 0 [.ref a, zv i] n h (fun r n' h' => r = some (.ref v) ∧ ∃ f' : Nat → Option Nat, (∀ j : Nat, (j : Int) < i → f' j = f j) ∧ (∀ j : Nat, i ≤ (j : Int) → (j : Int) < sz - 1 → f' j = f (j + 1)) ∧ (∀ j w, f' j = some w → ∃ k, f k = some w) ∧ n' = n ∧ h' = zz_up (zz_up h ea (zQ 3 N f')) a (.inr (12, [.ref ea, zv (sz - 1), zv (mc + 1)]))) := by
  refine zz_start (by decide) (ls := [some (.ref a), some (zv i), none, none]) rfl ?_
  refine zj_iload_n dk_65_0 rfl ?_
  refine zi_aload_n dk_65_1 rfl rfl ?_
  refine zi_getf dk_65_2 fl_12_48 (by first | assumption | exact zz_up_eq _ _ _ | omega | exact Ne.symm (by assumption) | (refine (zz_up_ne ?_).trans ?_ <;> first | assumption | exact zz_up_eq _ _ _ | omega | exact Ne.symm (by assumption) | (refine (zz_up_ne ?_).trans ?_ <;> first | assumption | exact zz_up_eq _ _ _ | omega | exact Ne.symm (by assumption) | (refine (zz_up_ne ?_).trans ?_ <;> first | assumption | exact zz_up_eq _ _ _ | omega | exact Ne.symm (by assumption))))) rfl ?_
  refine zi_invS dk_65_5 ml_12_118 is_58 (ct_58 (d := d - 1) (by omega) (by omega) (by omega)) rfl rfl (Nat.le_of_ble_eq_true rfl) (by omega) rfl rfl (fun r n' h' hq => ?_)
  obtain ⟨rfl, rfl, rfl⟩ := hq
  refine zi_pop dk_65_8 rfl ?_
  refine zi_aload_n dk_65_9 rfl rfl ?_
  refine zi_getf dk_65_10 fl_12_9 (by first | assumption | exact zz_up_eq _ _ _ | omega | exact Ne.symm (by assumption) | (refine (zz_up_ne ?_).trans ?_ <;> first | assumption | exact zz_up_eq _ _ _ | omega | exact Ne.symm (by assumption) | (refine (zz_up_ne ?_).trans ?_ <;> first | assumption | exact zz_up_eq _ _ _ | omega | exact Ne.symm (by assumption) | (refine (zz_up_ne ?_).trans ?_ <;> first | assumption | exact zz_up_eq _ _ _ | omega | exact Ne.symm (by assumption))))) rfl ?_
  refine zi_astore_n dk_65_13 rfl rfl ?_
  refine zi_aload_n dk_65_14 rfl rfl ?_
  refine zj_iload_n dk_65_15 rfl ?_
  refine zj_aald dk_65_16 h2 (by omega) (by rw [hv]; try rfl) ?_
  refine zi_astore_n dk_65_17 rfl rfl ?_
  refine zi_aload_n dk_65_18 rfl rfl ?_
  refine zi_aload_n dk_65_19 rfl rfl ?_
  refine zj_iload_n dk_65_20 rfl ?_
  refine zi_invV dk_65_21 ml_12_144 iv_66 (ct_66 (d := d - 1) (by omega) h1 h2 hN hi hel) (by first | assumption | exact zz_up_eq _ _ _ | omega | exact Ne.symm (by assumption) | (refine (zz_up_ne ?_).trans ?_ <;> first | assumption | exact zz_up_eq _ _ _ | omega | exact Ne.symm (by assumption) | (refine (zz_up_ne ?_).trans ?_ <;> first | assumption | exact zz_up_eq _ _ _ | omega | exact Ne.symm (by assumption) | (refine (zz_up_ne ?_).trans ?_ <;> first | assumption | exact zz_up_eq _ _ _ | omega | exact Ne.symm (by assumption))))) rfl rfl rfl (Nat.le_of_ble_eq_true rfl) (by omega) rfl rfl (fun r n' h' hq => ?_)
  obtain ⟨rfl, hq⟩ := hq
  refine zi_aload_n dk_65_24 rfl rfl ?_
  refine zi_areturn dk_65_25 rfl (Or.inl ⟨_, rfl⟩) rfl ⟨rfl, hq⟩

