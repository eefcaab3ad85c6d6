/-! the model: logout, login, ask -/
theorem sb_rg (P : Int → Bool) : ∀ (k : Nat) (s f : Int), sb_run P k s f = f ∨ (s ≤ sb_run P k s f ∧ sb_run P k s f < s + k ∧ P (sb_run P k s f) = true)
  | 0, _, _ => Or.inl rfl
  | k + 1, s, f => by
    unfold sb_run
    rcases sb_rg P k (s + 1) (if P s = true then s else f) with h | ⟨h1, h2, h3⟩
    · rw [h]
      by_cases hp : P s = true
      · rw [if_pos hp]; exact Or.inr ⟨by omega, by omega, hp⟩
      · rw [if_neg hp]; exact Or.inl rfl
    · exact Or.inr ⟨by omega, by omega, h3⟩
theorem zU_zU (g : Int → Int) (i x y : Int) : zU (zU g i x) i y = zU g i y := by
  funext j
  unfold zU
  split <;> rfl
theorem md_R.off {V : Nat → Int} {B : Nat → Int → Int} {t : Int} (R : md_R V B) : md_R V (va_up B 8 (zU (B 8) t 0)) := by
  refine ⟨R.1, fun s h1 h2 => ?_⟩
  obtain ⟨r1, r2⟩ := R.2 s h1 h2
  refine ⟨?_, r2⟩
  show zU (B 8) t 0 s = 0 ∨ zU (B 8) t 0 s = 1
  by_cases hs : s = t
  · subst hs; rw [zU_eq]; exact Or.inl rfl
  · rw [zU_ne hs]; exact r1
theorem zU_rg {g : Int → Int} {t x lo hi s : Int} (h1 : lo ≤ g s ∧ g s ≤ hi) (h2 : lo ≤ x ∧ x ≤ hi) : lo ≤ zU g t x s ∧ zU g t x s ≤ hi := by
  by_cases hs : s = t
  · subst hs; rw [zU_eq]; exact h2
  · rw [zU_ne hs]; exact h1
theorem zU_01 {g : Int → Int} {t x s : Int} (h1 : g s = 0 ∨ g s = 1) (h2 : x = 0 ∨ x = 1) : zU g t x s = 0 ∨ zU g t x s = 1 := by
  by_cases hs : s = t
  · subst hs; rw [zU_eq]; exact h2
  · rw [zU_ne hs]; exact h1
theorem md_R.mk {V V' : Nat → Int} {B : Nat → Int → Int} {t d re x : Int} (R : md_R V B) (hV : V' 1 = V 1) (hd : 0 ≤ d ∧ d ≤ 900000) (hre : re = 0 ∨ re = 1) (hx : 0 ≤ x ∧ x ≤ 1000000) : md_R V' (mk_B B t d re x) := by
  refine ⟨by rw [hV]; exact R.1, fun s h1 h2 => ?_⟩
  obtain ⟨r1, r2, r3, r4, r5, r6, r7⟩ := R.2 s h1 h2
  exact ⟨zU_01 r1 (Or.inr rfl), zU_rg r2 (by omega), zU_rg r3 (by omega), zU_01 r4 hre, zU_rg r5 hx, zU_rg r6 hx, r7⟩
theorem av_up (V : Nat → Int) (a b c e : Int) : va_up (va_up (va_up (va_up V 54 a) 55 b) 54 c) 55 e = va_up (va_up V 54 c) 55 e := by
  funext j
  unfold va_up
  by_cases h1 : j = 55
  · simp [h1]
  · by_cases h2 : j = 54
    · simp [h2]
    · simp [h1, h2]
def md_U (B : Nat → Int → Int) : Prop := ∀ u, 0 ≤ u → u < 6 → (0 ≤ B 2 u ∧ B 2 u ≤ 255) ∧ (B 3 u = 0 ∨ B 3 u = 1) ∧ (-2147483648 ≤ B 4 u ∧ B 4 u < 2147483648) ∧ (-2147483648 ≤ B 5 u ∧ B 5 u < 2147483648) ∧ (0 ≤ B 6 u ∧ B 6 u < 3) ∧ (0 ≤ B 7 u ∧ B 7 u ≤ 1000000)
theorem ct_145 {X : zz_X} {d n : Nat}  (hd : 2 ≤ d) {m : Nat} {V : Nat → Int} {B : Nat → Int → Int} {h0 : zz_H} (R : md_R V B) {sid : Int} (hid : -2147483648 ≤ sid ∧ sid < 2147483648) : zz_Ct X mm_145 d 0 0 [.ref m, zv sid] n (md_H m V B h0) (fun r n' h' => n' = n ∧ (((sb_run (fun s => decide (mlv V B s ∧ B 9 s = sid)) 12 0 (-1)) = -1 ∧ r = some (zv 0) ∧ h' = md_H m V B h0) ∨ ((0 ≤ (sb_run (fun s => decide (mlv V B s ∧ B 9 s = sid)) 12 0 (-1)) ∧ (sb_run (fun s => decide (mlv V B s ∧ B 9 s = sid)) 12 0 (-1)) < 12) ∧ r = some (zv 1) ∧ h' = md_H m V (va_up (va_up B 8 (zU (B 8) (sb_run (fun s => decide (mlv V B s ∧ B 9 s = sid)) 12 0 (-1)) 0)) 14 (zU (zU (B 14) (2 * ((sb_run (fun s => decide (mlv V B s ∧ B 9 s = sid)) 12 0 (-1)) / 2)) 0) (2 * ((sb_run (fun s => decide (mlv V B s ∧ B 9 s = sid)) 12 0 (-1)) / 2) + 1) 0)) h0))) := by
  refine zz_start (by decide) (ls := [some (.ref m), some (zv sid), none]) rfl ?_
  have hsb := sb_rg (fun s => decide (mlv V B s ∧ B 9 s = sid)) 12 0 (-1)
  refine zi_aload_n dk_145_0 rfl rfl ?_
  refine zj_iload_n dk_145_1 rfl ?_
  refine zi_invV dk_145_2 ml_13_204 iv_141 (ct_141 (d := d - 1) (by omega) R hid) md_0 rfl rfl rfl (Nat.le_of_ble_eq_true rfl) (by omega) rfl rfl (fun r n' h' hq => ?_)
  obtain ⟨rfl, rfl, rfl⟩ := hq
  generalize (sb_run (fun s => decide (mlv V B s ∧ B 9 s = sid)) 12 0 (-1)) = sb at hsb ⊢
  refine zj_istore_n dk_145_5 rfl ?_
  refine zj_iload_n dk_145_6 rfl ?_
  refine zj_if_ge (t := 12) dk_145_7 rfl (by omega) (fun c7 => ?_) (fun c7 => ?_)
  · skip
    refine zi_aload_n dk_145_12 rfl rfl ?_
    refine zi_getf dk_145_13 fl_13_31 md_0 rfl ?_
    refine zj_iload_n dk_145_16 rfl ?_
    refine zj_iconst dk_145_17 ?_
    refine md_zast (k := 8) (N := 12) dk_145_18 (by decide) rfl rfl (by omega) (by omega) ?_
    refine zi_aload_n dk_145_19 rfl rfl ?_
    refine zj_iload_n dk_145_20 rfl ?_
    refine zj_iconst dk_145_21 ?_
    refine zj_idiv dk_145_22 (by omega) ?_
    rw [zb_div2i (by omega)]
    refine zi_invV dk_145_23 ml_13_215 iv_146 (ct_146 (d := d - 1) (by omega)) md_0 rfl rfl rfl (Nat.le_of_ble_eq_true rfl) (by omega) rfl rfl (fun r n' h' hq => ?_)
    obtain ⟨rfl, rfl, rfl⟩ := hq
    refine zj_iconst dk_145_26 ?_
    refine zj_zreturn dk_145_27 rfl (by omega) ⟨rfl, Or.inr ⟨by omega, rfl, rfl⟩⟩
  · skip
    refine zj_iconst dk_145_10 ?_
    refine zj_zreturn dk_145_11 rfl (by omega) ⟨rfl, Or.inl ⟨by omega, rfl, rfl⟩⟩

theorem ct_139 {X : zz_X} {d n : Nat}  (hd : 3 ≤ d) {m : Nat} {V : Nat → Int} {B : Nat → Int → Int} {h0 : zz_H} (R : md_R V B) (U : md_U B) {u pw sid rm : Int} (hu0 : -2147483648 ≤ u ∧ u < 2147483648) (hid : -2147483648 ≤ sid ∧ sid < 2147483648) (hrm : rm = 0 ∨ rm = 1) (hs : 0 ≤ V 8 ∧ V 8 ≤ 6) (h3 : 0 ≤ V 0 ∧ V 0 ≤ 700000) : zz_Ct X mm_139 d 0 0 [.ref m, zv u, zv pw, zv sid, zv rm] n (md_H m V B h0) (fun r n' h' => n' = n ∧ ((¬ (0 ≤ u ∧ u < V 8) ∧ r = some (zv (-1)) ∧ h' = md_H m V B h0) ∨ ((0 ≤ u ∧ u < V 8) ∧ ((V 1 < B 7 u ∧ r = some (zv (-2)) ∧ h' = md_H m V B h0) ∨ (¬ V 1 < B 7 u ∧ hs_of pw (B 3 u) (B 4 u) ≠ B 5 u ∧ B 6 u < 2 ∧ r = some (zv (-3)) ∧ h' = md_H m V (va_up B 6 (zU (B 6) u (B 6 u + 1))) h0) ∨ (¬ V 1 < B 7 u ∧ hs_of pw (B 3 u) (B 4 u) ≠ B 5 u ∧ B 6 u = 2 ∧ r = some (zv (-3)) ∧ h' = md_H m (va_up V 6 (V 6 + 1)) (va_up (va_up B 6 (zU (B 6) u 0)) 7 (zU (B 7) u (V 1 + 10))) h0) ∨ (¬ V 1 < B 7 u ∧ hs_of pw (B 3 u) (B 4 u) = B 5 u ∧ ∃ V1 B1 B2, ((B 3 u = 0 ∧ V1 = va_up V 0 (V 0 + 1) ∧ B1 = (va_up (va_up (va_up (va_up B 6 (zU (B 6) u 0)) 3 (zU (B 3) u 1)) 4 (zU (B 4) u (V 0 + 1))) 5 (zU (B 5) u (hs_of pw 1 (V 0 + 1))))) ∨ (B 3 u ≠ 0 ∧ V1 = V ∧ B1 = (va_up B 6 (zU (B 6) u 0)))) ∧ B2 = (if 0 ≤ (sb_run (fun s => decide (mlv V1 B1 s ∧ B1 9 s = sid)) 12 0 (-1)) then va_up B1 8 (zU (B1 8) (sb_run (fun s => decide (mlv V1 B1 s ∧ B1 9 s = sid)) 12 0 (-1)) 0) else B1) ∧ r = some (zv (V1 0 + 1)) ∧ ((rm = 0 ∧ h' = md_H m (va_up V1 0 (V1 0 + 2)) (mk_B B2 (ms_of V1 B2 u) (V1 0) 0 (V1 1)) h0) ∨ (rm = 1 ∧ h' = md_H m (va_up V1 0 (V1 0 + 4)) (mt_B (mk_B B2 (ms_of V1 B2 u) (V1 0) 0 (V1 1)) (mt_of B2 u) (V1 0 + 2)) h0))))))) := by
  refine zz_start (by decide) (ls := [some (.ref m), some (zv u), some (zv pw), some (zv sid), some (zv rm), none, none]) rfl ?_
  by_cases hu : 0 ≤ u ∧ u < V 8
  · obtain ⟨u2, u3, u4, u5, u6, u7⟩ := U u hu.1 (by omega)
    have hh := hs_of_rg pw (B 3 u) (B 4 u) u4
    have hV1 := R.1
    have key2 : ¬ V 1 < B 7 u → hs_of pw (B 3 u) (B 4 u) = B 5 u → ∀ (V1 : Nat → Int) (B1 B2 : Nat → Int → Int), ((B 3 u = 0 ∧ V1 = va_up V 0 (V 0 + 1) ∧ B1 = (va_up (va_up (va_up (va_up B 6 (zU (B 6) u 0)) 3 (zU (B 3) u 1)) 4 (zU (B 4) u (V 0 + 1))) 5 (zU (B 5) u (hs_of pw 1 (V 0 + 1))))) ∨ (B 3 u ≠ 0 ∧ V1 = V ∧ B1 = (va_up B 6 (zU (B 6) u 0)))) → B2 = (if 0 ≤ (sb_run (fun s => decide (mlv V1 B1 s ∧ B1 9 s = sid)) 12 0 (-1)) then va_up B1 8 (zU (B1 8) (sb_run (fun s => decide (mlv V1 B1 s ∧ B1 9 s = sid)) 12 0 (-1)) 0) else B1) → md_R V1 B2 → (0 ≤ V1 0 ∧ V1 0 ≤ 800000) → ∀ x5 : Int, zz_Z X mm_139 d (fun r n' h' => n' = n ∧ ((¬ (0 ≤ u ∧ u < V 8) ∧ r = some (zv (-1)) ∧ h' = md_H m V B h0) ∨ ((0 ≤ u ∧ u < V 8) ∧ ((V 1 < B 7 u ∧ r = some (zv (-2)) ∧ h' = md_H m V B h0) ∨ (¬ V 1 < B 7 u ∧ hs_of pw (B 3 u) (B 4 u) ≠ B 5 u ∧ B 6 u < 2 ∧ r = some (zv (-3)) ∧ h' = md_H m V (va_up B 6 (zU (B 6) u (B 6 u + 1))) h0) ∨ (¬ V 1 < B 7 u ∧ hs_of pw (B 3 u) (B 4 u) ≠ B 5 u ∧ B 6 u = 2 ∧ r = some (zv (-3)) ∧ h' = md_H m (va_up V 6 (V 6 + 1)) (va_up (va_up B 6 (zU (B 6) u 0)) 7 (zU (B 7) u (V 1 + 10))) h0) ∨ (¬ V 1 < B 7 u ∧ hs_of pw (B 3 u) (B 4 u) = B 5 u ∧ ∃ V1 B1 B2, ((B 3 u = 0 ∧ V1 = va_up V 0 (V 0 + 1) ∧ B1 = (va_up (va_up (va_up (va_up B 6 (zU (B 6) u 0)) 3 (zU (B 3) u 1)) 4 (zU (B 4) u (V 0 + 1))) 5 (zU (B 5) u (hs_of pw 1 (V 0 + 1))))) ∨ (B 3 u ≠ 0 ∧ V1 = V ∧ B1 = (va_up B 6 (zU (B 6) u 0)))) ∧ B2 = (if 0 ≤ (sb_run (fun s => decide (mlv V1 B1 s ∧ B1 9 s = sid)) 12 0 (-1)) then va_up B1 8 (zU (B1 8) (sb_run (fun s => decide (mlv V1 B1 s ∧ B1 9 s = sid)) 12 0 (-1)) 0) else B1) ∧ r = some (zv (V1 0 + 1)) ∧ ((rm = 0 ∧ h' = md_H m (va_up V1 0 (V1 0 + 2)) (mk_B B2 (ms_of V1 B2 u) (V1 0) 0 (V1 1)) h0) ∨ (rm = 1 ∧ h' = md_H m (va_up V1 0 (V1 0 + 4)) (mt_B (mk_B B2 (ms_of V1 B2 u) (V1 0) 0 (V1 1)) (mt_of B2 u) (V1 0 + 2)) h0))))))) 0 0 174 [some (.ref m), some (zv u), some (zv pw), some (zv sid), some (zv rm), some (zv x5), none] [] n (md_H m V1 B2 h0) := by
      intro hlk hpw2 V1 B1 B2 hdj hB2 R2 h10 x5
      have h11 := R2.1
      refine zi_aload_n dk_139_174 rfl rfl ?_
      refine zj_iload_n dk_139_175 rfl ?_
      refine zj_iconst dk_139_176 ?_
      refine zi_invV dk_139_177 ml_13_207 iv_143 (ct_143 (d := d - 1) (by omega) R2 (by omega) (Or.inl rfl)) md_0 rfl rfl rfl (Nat.le_of_ble_eq_true rfl) (by omega) rfl rfl (fun r n' h' hq => ?_)
      obtain ⟨rfl, rfl, rfl⟩ := hq
      have hms : 0 ≤ ms_of V1 B2 u ∧ ms_of V1 B2 u < 12 := by unfold ms_of; (repeat' split) <;> omega
      refine zj_istore dk_139_180 rfl ?_
      refine zj_iload dk_139_182 rfl ?_
      refine zj_if_eq (t := 192) dk_139_184 rfl (by omega) (fun c184 => ?_) (fun c184 => ?_)
      · skip
        refine zi_aload_n dk_139_192 rfl rfl ?_
        refine zi_getf dk_139_193 fl_13_35 md_0 rfl ?_
        refine zj_iload dk_139_196 rfl ?_
        refine md_iald (k := 9) (N := 12) dk_139_198 (by decide) rfl rfl (by omega) ?_
        refine zj_ireturn dk_139_199 rfl ⟨rfl, Or.inr ⟨hu, Or.inr (Or.inr (Or.inr ⟨hlk, hpw2, V1, B1, B2, hdj, hB2, by congr 2; exact (zU_eq _ _ _), Or.inl ⟨by omega, rfl⟩⟩))⟩⟩
      · skip
        refine zi_aload_n dk_139_187 rfl rfl ?_
        refine zj_iload_n dk_139_188 rfl ?_
        refine zi_invV dk_139_189 ml_13_211 iv_144 (ct_144 (d := d - 1) (by omega) (R2.mk (V' := va_up V1 0 (V1 0 + 2)) rfl (by omega) (Or.inl rfl) (by omega)) (by omega)) md_0 rfl rfl rfl (Nat.le_of_ble_eq_true rfl) (by omega) rfl rfl (fun r n' h' hq => ?_)
        obtain ⟨rfl, rfl, rfl⟩ := hq
        refine zi_aload_n dk_139_192 rfl rfl ?_
        refine zi_getf dk_139_193 fl_13_35 md_0 rfl ?_
        refine zj_iload dk_139_196 rfl ?_
        refine md_iald (k := 9) (N := 12) dk_139_198 (by decide) rfl rfl (by omega) ?_
        refine zj_ireturn dk_139_199 rfl ⟨rfl, Or.inr ⟨hu, Or.inr (Or.inr (Or.inr ⟨hlk, hpw2, V1, B1, B2, hdj, hB2, by congr 2; exact (zU_eq _ _ _), Or.inr ⟨by omega, by rw [show va_up V1 0 (V1 0 + 4) = va_up (va_up V1 0 (V1 0 + 2)) 0 (va_up V1 0 (V1 0 + 2) 0 + 2) from by rw [va_up_up, va_up_self]; congr 1; omega]; rfl⟩⟩))⟩⟩
    have key1 : ¬ V 1 < B 7 u → hs_of pw (B 3 u) (B 4 u) = B 5 u → ∀ (V1 : Nat → Int) (B1 : Nat → Int → Int), ((B 3 u = 0 ∧ V1 = va_up V 0 (V 0 + 1) ∧ B1 = (va_up (va_up (va_up (va_up B 6 (zU (B 6) u 0)) 3 (zU (B 3) u 1)) 4 (zU (B 4) u (V 0 + 1))) 5 (zU (B 5) u (hs_of pw 1 (V 0 + 1))))) ∨ (B 3 u ≠ 0 ∧ V1 = V ∧ B1 = (va_up B 6 (zU (B 6) u 0)))) → md_R V1 B1 → (0 ≤ V1 0 ∧ V1 0 ≤ 800000) → zz_Z X mm_139 d (fun r n' h' => n' = n ∧ ((¬ (0 ≤ u ∧ u < V 8) ∧ r = some (zv (-1)) ∧ h' = md_H m V B h0) ∨ ((0 ≤ u ∧ u < V 8) ∧ ((V 1 < B 7 u ∧ r = some (zv (-2)) ∧ h' = md_H m V B h0) ∨ (¬ V 1 < B 7 u ∧ hs_of pw (B 3 u) (B 4 u) ≠ B 5 u ∧ B 6 u < 2 ∧ r = some (zv (-3)) ∧ h' = md_H m V (va_up B 6 (zU (B 6) u (B 6 u + 1))) h0) ∨ (¬ V 1 < B 7 u ∧ hs_of pw (B 3 u) (B 4 u) ≠ B 5 u ∧ B 6 u = 2 ∧ r = some (zv (-3)) ∧ h' = md_H m (va_up V 6 (V 6 + 1)) (va_up (va_up B 6 (zU (B 6) u 0)) 7 (zU (B 7) u (V 1 + 10))) h0) ∨ (¬ V 1 < B 7 u ∧ hs_of pw (B 3 u) (B 4 u) = B 5 u ∧ ∃ V1 B1 B2, ((B 3 u = 0 ∧ V1 = va_up V 0 (V 0 + 1) ∧ B1 = (va_up (va_up (va_up (va_up B 6 (zU (B 6) u 0)) 3 (zU (B 3) u 1)) 4 (zU (B 4) u (V 0 + 1))) 5 (zU (B 5) u (hs_of pw 1 (V 0 + 1))))) ∨ (B 3 u ≠ 0 ∧ V1 = V ∧ B1 = (va_up B 6 (zU (B 6) u 0)))) ∧ B2 = (if 0 ≤ (sb_run (fun s => decide (mlv V1 B1 s ∧ B1 9 s = sid)) 12 0 (-1)) then va_up B1 8 (zU (B1 8) (sb_run (fun s => decide (mlv V1 B1 s ∧ B1 9 s = sid)) 12 0 (-1)) 0) else B1) ∧ r = some (zv (V1 0 + 1)) ∧ ((rm = 0 ∧ h' = md_H m (va_up V1 0 (V1 0 + 2)) (mk_B B2 (ms_of V1 B2 u) (V1 0) 0 (V1 1)) h0) ∨ (rm = 1 ∧ h' = md_H m (va_up V1 0 (V1 0 + 4)) (mt_B (mk_B B2 (ms_of V1 B2 u) (V1 0) 0 (V1 1)) (mt_of B2 u) (V1 0 + 2)) h0))))))) 0 0 154 [some (.ref m), some (zv u), some (zv pw), some (zv sid), some (zv rm), none, none] [] n (md_H m V1 B1 h0) := by
      intro hlk hpw2 V1 B1 hdj R1 h10
      have hsb := sb_rg (fun s => decide (mlv V1 B1 s ∧ B1 9 s = sid)) 12 0 (-1)
      refine zi_aload_n dk_139_154 rfl rfl ?_
      refine zj_iload_n dk_139_155 rfl ?_
      refine zi_invV dk_139_156 ml_13_204 iv_141 (ct_141 (d := d - 1) (by omega) R1 hid) md_0 rfl rfl rfl (Nat.le_of_ble_eq_true rfl) (by omega) rfl rfl (fun r n' h' hq => ?_)
      obtain ⟨rfl, rfl, rfl⟩ := hq
      refine zj_istore dk_139_159 rfl ?_
      refine zj_iload dk_139_161 rfl ?_
      refine zj_if_lt (t := 174) dk_139_163 rfl (by omega) (fun c163 => ?_) (fun c163 => ?_)
      · skip
        exact key2 hlk hpw2 V1 B1 _ hdj (by first | rw [if_pos (by omega)] | rw [if_neg (by omega)]) R1 h10 _
      · skip
        refine zi_aload_n dk_139_166 rfl rfl ?_
        refine zi_getf dk_139_167 fl_13_31 md_0 rfl ?_
        refine zj_iload dk_139_170 rfl ?_
        refine zj_iconst dk_139_172 ?_
        refine md_zast (k := 8) (N := 12) dk_139_173 (by decide) rfl rfl (by omega) (by omega) ?_
        exact key2 hlk hpw2 V1 B1 _ hdj (by first | rw [if_pos (by omega)] | rw [if_neg (by omega)]) R1.off h10 _
    refine zi_aload_n dk_139_0 rfl rfl ?_
    refine zj_iload_n dk_139_1 rfl ?_
    refine zi_invV dk_139_2 ml_13_198 iv_140 (ct_140 (d := d - 1) hu0 hs) md_0 rfl rfl rfl (Nat.le_of_ble_eq_true rfl) (by omega) rfl rfl (fun r n' h' hq => ?_)
    obtain ⟨rfl, rfl, rfl⟩ := hq
    rw [if_pos hu]
    refine zj_if_ne (t := 10) dk_139_5 rfl (by omega) (fun c5 => ?_) (fun c5 => ?_)
    · skip
      refine zi_aload_n dk_139_10 rfl rfl ?_
      refine zi_getf dk_139_11 fl_13_192 md_0 rfl ?_
      refine zi_aload_n dk_139_14 rfl rfl ?_
      refine zi_getf dk_139_15 fl_13_28 md_0 rfl ?_
      refine zj_iload_n dk_139_18 rfl ?_
      refine md_iald (k := 7) (N := 6) dk_139_19 (by decide) rfl rfl (by omega) ?_
      refine zj_icmp_ge (t := 26) dk_139_20 rfl (by omega) (fun c20 => ?_) (fun c20 => ?_)
      · skip
        refine zj_iload_n dk_139_26 rfl ?_
        refine zi_aload_n dk_139_27 rfl rfl ?_
        refine zi_getf dk_139_28 fl_13_16 md_0 rfl ?_
        refine zj_iload_n dk_139_31 rfl ?_
        refine md_iald (k := 3) (N := 6) dk_139_32 (by decide) rfl rfl (by omega) ?_
        refine zi_aload_n dk_139_33 rfl rfl ?_
        refine zi_getf dk_139_34 fl_13_19 md_0 rfl ?_
        refine zj_iload_n dk_139_37 rfl ?_
        refine md_iald (k := 4) (N := 6) dk_139_38 (by decide) rfl rfl (by omega) ?_
        refine zi_invS dk_139_39 ml_13_188 is_138 (ct_138 (d := d - 1) (by omega)) rfl rfl (Nat.le_of_ble_eq_true rfl) (by omega) rfl rfl (fun r n' h' hq => ?_)
        obtain ⟨rfl, rfl, rfl⟩ := hq
        refine zi_aload_n dk_139_42 rfl rfl ?_
        refine zi_getf dk_139_43 fl_13_22 md_0 rfl ?_
        refine zj_iload_n dk_139_46 rfl ?_
        refine md_iald (k := 5) (N := 6) dk_139_47 (by decide) rfl rfl (by omega) ?_
        refine zj_icmp_eq (t := 104) dk_139_48 rfl (by omega) (fun c48 => ?_) (fun c48 => ?_)
        · skip
          refine zi_aload_n dk_139_104 rfl rfl ?_
          refine zi_getf dk_139_105 fl_13_25 md_0 rfl ?_
          refine zj_iload_n dk_139_108 rfl ?_
          refine zj_iconst dk_139_109 ?_
          refine md_iast (k := 6) (N := 6) dk_139_110 (by decide) rfl rfl (by omega) ?_
          refine zi_aload_n dk_139_111 rfl rfl ?_
          refine zi_getf dk_139_112 fl_13_16 md_0 rfl ?_
          refine zj_iload_n dk_139_115 rfl ?_
          refine md_iald (k := 3) (N := 6) dk_139_116 (by decide) rfl rfl (by omega) ?_
          have e3 : va_up B 6 (zU (B 6) u 0) 3 u = B 3 u := rfl
          refine zj_if_ne (t := 154) dk_139_117 rfl (by omega) (fun c117 => ?_) (fun c117 => ?_)
          · skip
            exact key1 (by omega) (by omega) _ _ (Or.inr ⟨by omega, rfl, rfl⟩) R (by omega)
          · skip
            refine zi_aload_n dk_139_120 rfl rfl ?_
            refine zi_getf dk_139_121 fl_13_16 md_0 rfl ?_
            refine zj_iload_n dk_139_124 rfl ?_
            refine zj_iconst dk_139_125 ?_
            refine md_iast (k := 3) (N := 6) dk_139_126 (by decide) rfl rfl (by omega) ?_
            refine zi_aload_n dk_139_127 rfl rfl ?_
            refine zi_getf dk_139_128 fl_13_19 md_0 rfl ?_
            refine zj_iload_n dk_139_131 rfl ?_
            refine zi_aload_n dk_139_132 rfl rfl ?_
            refine zi_invV dk_139_133 ml_13_184 iv_137 (ct_137 (d := d - 1)) md_0 rfl rfl rfl (Nat.le_of_ble_eq_true rfl) (by omega) rfl rfl (fun r n' h' hq => ?_)
            obtain ⟨rfl, rfl, rfl⟩ := hq
            refine md_iast (k := 4) (N := 6) dk_139_136 (by decide) rfl rfl (by omega) ?_
            refine zi_aload_n dk_139_137 rfl rfl ?_
            refine zi_getf dk_139_138 fl_13_22 md_0 rfl ?_
            refine zj_iload_n dk_139_141 rfl ?_
            refine zj_iload_n dk_139_142 rfl ?_
            refine zj_iconst dk_139_143 ?_
            refine zi_aload_n dk_139_144 rfl rfl ?_
            refine zi_getf dk_139_145 fl_13_19 md_0 rfl ?_
            refine zj_iload_n dk_139_148 rfl ?_
            refine md_iald (k := 4) (N := 6) dk_139_149 (by decide) rfl rfl (by omega) ?_
            rw [show va_up (va_up (va_up B 6 (zU (B 6) u 0)) 3 (zU ((va_up B 6 (zU (B 6) u 0)) 3) u 1)) 4 (zU (va_up (va_up B 6 (zU (B 6) u 0)) 3 (zU ((va_up B 6 (zU (B 6) u 0)) 3) u 1) 4) u (V 0 + 1)) 4 u = V 0 + 1 from zU_eq _ _ _]
            refine zi_invS dk_139_150 ml_13_188 is_138 (ct_138 (d := d - 1) (by omega)) rfl rfl (Nat.le_of_ble_eq_true rfl) (by omega) rfl rfl (fun r n' h' hq => ?_)
            obtain ⟨rfl, rfl, rfl⟩ := hq
            refine md_iast (k := 5) (N := 6) dk_139_153 (by decide) rfl rfl (by omega) ?_
            exact key1 (by omega) (by omega) _ _ (Or.inl ⟨by omega, rfl, rfl⟩) R ⟨by show 0 ≤ V 0 + 1; omega, by show V 0 + 1 ≤ 800000; omega⟩
        · skip
          refine zi_aload_n dk_139_51 rfl rfl ?_
          refine zi_getf dk_139_52 fl_13_25 md_0 rfl ?_
          refine zj_iload_n dk_139_55 rfl ?_
          refine zi_dup2 dk_139_56 rfl rfl ?_
          refine md_iald (k := 6) (N := 6) dk_139_57 (by decide) rfl rfl (by omega) ?_
          refine zj_iconst dk_139_58 ?_
          refine zj_iadd dk_139_59 ?_
          refine md_iast (k := 6) (N := 6) dk_139_60 (by decide) rfl rfl (by omega) ?_
          have e6 : va_up B 6 (zU (B 6) u (B 6 u + 1)) 6 u = B 6 u + 1 := zU_eq _ _ _
          refine zi_aload_n dk_139_61 rfl rfl ?_
          refine zi_getf dk_139_62 fl_13_25 md_0 rfl ?_
          refine zj_iload_n dk_139_65 rfl ?_
          refine md_iald (k := 6) (N := 6) dk_139_66 (by decide) rfl rfl (by omega) ?_
          refine zj_iconst dk_139_67 ?_
          rw [e6]
          refine zj_icmp_ne (t := 101) dk_139_68 rfl (by omega) (fun c68 => ?_) (fun c68 => ?_)
          · skip
            refine zj_bipush dk_139_101 (by decide) ?_
            refine zj_ireturn dk_139_103 rfl ⟨rfl, Or.inr ⟨hu, Or.inr (Or.inl ⟨by omega, by omega, by omega, rfl, rfl⟩)⟩⟩
          · skip
            refine zi_aload_n dk_139_71 rfl rfl ?_
            refine zi_getf dk_139_72 fl_13_25 md_0 rfl ?_
            refine zj_iload_n dk_139_75 rfl ?_
            refine zj_iconst dk_139_76 ?_
            refine md_iast (k := 6) (N := 6) dk_139_77 (by decide) rfl rfl (by omega) ?_
            refine zi_aload_n dk_139_78 rfl rfl ?_
            refine zi_getf dk_139_79 fl_13_28 md_0 rfl ?_
            refine zj_iload_n dk_139_82 rfl ?_
            refine zi_aload_n dk_139_83 rfl rfl ?_
            refine zi_getf dk_139_84 fl_13_192 md_0 rfl ?_
            refine zj_bipush dk_139_87 (by decide) ?_
            refine zj_iadd dk_139_89 ?_
            refine md_iast (k := 7) (N := 6) dk_139_90 (by decide) rfl rfl (by omega) ?_
            refine zi_aload_n dk_139_91 rfl rfl ?_
            refine zi_dup dk_139_92 rfl ?_
            refine zi_getf dk_139_93 fl_13_201 md_0 rfl ?_
            refine zj_iconst dk_139_96 ?_
            refine zj_iadd dk_139_97 ?_
            refine md_putI dk_139_98 fp_139_201 md_s6 ?_
            refine zj_bipush dk_139_101 (by decide) ?_
            refine zj_ireturn dk_139_103 rfl ⟨rfl, Or.inr ⟨hu, Or.inr (Or.inr (Or.inl ⟨by omega, by omega, by omega, rfl, by rw [va_up_up, show va_up B 6 (zU (B 6) u (B 6 u + 1)) 6 = zU (B 6) u (B 6 u + 1) from rfl, zU_zU]; rfl⟩))⟩⟩
      · skip
        refine zj_bipush dk_139_23 (by decide) ?_
        refine zj_ireturn dk_139_25 rfl ⟨rfl, Or.inr ⟨hu, Or.inl ⟨by omega, rfl, rfl⟩⟩⟩
    · omega
  · refine zi_aload_n dk_139_0 rfl rfl ?_
    refine zj_iload_n dk_139_1 rfl ?_
    refine zi_invV dk_139_2 ml_13_198 iv_140 (ct_140 (d := d - 1) hu0 hs) md_0 rfl rfl rfl (Nat.le_of_ble_eq_true rfl) (by omega) rfl rfl (fun r n' h' hq => ?_)
    obtain ⟨rfl, rfl, rfl⟩ := hq
    rw [if_neg hu]
    refine zj_if_ne (t := 10) dk_139_5 rfl (by omega) (fun c5 => ?_) (fun c5 => ?_)
    · omega
    · skip
      refine zj_iconst dk_139_8 ?_
      refine zj_ireturn dk_139_9 rfl ⟨rfl, Or.inl ⟨hu, rfl, rfl⟩⟩

theorem ct_161 {X : zz_X} {d n : Nat}  (hd : 3 ≤ d) {m : Nat} {V : Nat → Int} {B : Nat → Int → Int} {h0 : zz_H} (R : md_R V B) {sid ser tok : Int} (hid : -2147483648 ≤ sid ∧ sid < 2147483648) (hser : -2147483648 ≤ ser ∧ ser < 2147483648) (htok : -2147483648 ≤ tok ∧ tok < 2147483648) (h3 : 0 ≤ V 0 ∧ V 0 ≤ 700000) : zz_Ct X mm_161 d 0 0 [.ref m, zv sid, zv ser, zv tok] n (md_H m V B h0) (fun r n' h' => n' = n ∧ (((0 ≤ (sb_run (fun s => decide (mlv V B s ∧ B 9 s = sid)) 12 0 (-1)) ∧ (sb_run (fun s => decide (mlv V B s ∧ B 9 s = sid)) 12 0 (-1)) < 12) ∧ r = some (zv (sb_run (fun s => decide (mlv V B s ∧ B 9 s = sid)) 12 0 (-1))) ∧ h' = md_H m (va_up (va_up V 54 ((sb_run (fun s => decide (mlv V B s ∧ B 9 s = sid)) 12 0 (-1)) / 2)) 55 (B 11 (sb_run (fun s => decide (mlv V B s ∧ B 9 s = sid)) 12 0 (-1)))) (va_up B 13 (zU (B 13) (sb_run (fun s => decide (mlv V B s ∧ B 9 s = sid)) 12 0 (-1)) (V 1))) h0) ∨ ((sb_run (fun s => decide (mlv V B s ∧ B 9 s = sid)) 12 0 (-1)) = -1 ∧ (sb_run (fun s => decide (B 14 s = 1 ∧ B 15 s = ser)) 12 0 (-1)) = -1 ∧ r = some (zv (-1)) ∧ h' = md_H m (va_up (va_up V 54 (-1)) 55 0) B h0) ∨ ((sb_run (fun s => decide (mlv V B s ∧ B 9 s = sid)) 12 0 (-1)) = -1 ∧ (0 ≤ (sb_run (fun s => decide (B 14 s = 1 ∧ B 15 s = ser)) 12 0 (-1)) ∧ (sb_run (fun s => decide (B 14 s = 1 ∧ B 15 s = ser)) 12 0 (-1)) < 12) ∧ B 16 (sb_run (fun s => decide (B 14 s = 1 ∧ B 15 s = ser)) 12 0 (-1)) = tok ∧ r = some (zv (-1)) ∧ h' = md_H m (va_up (va_up (va_up V 54 ((sb_run (fun s => decide (B 14 s = 1 ∧ B 15 s = ser)) 12 0 (-1)) / 2)) 55 1) 0 (V 0 + 3)) (mk_B (va_up B 16 (zU (B 16) (sb_run (fun s => decide (B 14 s = 1 ∧ B 15 s = ser)) 12 0 (-1)) (V 0 + 1))) (ms_of V B ((sb_run (fun s => decide (B 14 s = 1 ∧ B 15 s = ser)) 12 0 (-1)) / 2)) (V 0 + 1) 1 (V 1)) h0) ∨ ((sb_run (fun s => decide (mlv V B s ∧ B 9 s = sid)) 12 0 (-1)) = -1 ∧ (0 ≤ (sb_run (fun s => decide (B 14 s = 1 ∧ B 15 s = ser)) 12 0 (-1)) ∧ (sb_run (fun s => decide (B 14 s = 1 ∧ B 15 s = ser)) 12 0 (-1)) < 12) ∧ B 16 (sb_run (fun s => decide (B 14 s = 1 ∧ B 15 s = ser)) 12 0 (-1)) ≠ tok ∧ r = some (zv (-1)) ∧ h' = md_H m (va_up (va_up (va_up V 54 (-1)) 55 0) 5 (V 5 + 1)) (va_up (va_up B 14 (zU (zU (B 14) (2 * ((sb_run (fun s => decide (B 14 s = 1 ∧ B 15 s = ser)) 12 0 (-1)) / 2)) 0) (2 * ((sb_run (fun s => decide (B 14 s = 1 ∧ B 15 s = ser)) 12 0 (-1)) / 2) + 1) 0)) 8 (zU (zU (B 8) ((sb_run (fun s => decide (B 14 s = 1 ∧ B 15 s = ser)) 12 0 (-1)) / 2 * 2) 0) ((sb_run (fun s => decide (B 14 s = 1 ∧ B 15 s = ser)) 12 0 (-1)) / 2 * 2 + 1) 0)) h0))) := by
  refine zz_start (by decide) (ls := [some (.ref m), some (zv sid), some (zv ser), some (zv tok), none, none]) rfl ?_
  have hsb := sb_rg (fun s => decide (mlv V B s ∧ B 9 s = sid)) 12 0 (-1)
  have hsr := sb_rg (fun s => decide (B 14 s = 1 ∧ B 15 s = ser)) 12 0 (-1)
  have R0 : md_R (va_up (va_up V 54 (-1)) 55 0) B := R
  refine zi_aload_n dk_161_0 rfl rfl ?_
  refine zj_iconst dk_161_1 ?_
  refine md_putI dk_161_2 fp_161_240 md_s54 ?_
  refine zi_aload_n dk_161_5 rfl rfl ?_
  refine zj_iconst dk_161_6 ?_
  refine md_putZ dk_161_7 fp_161_243 (by omega) md_s55 ?_
  refine zi_aload_n dk_161_10 rfl rfl ?_
  refine zj_iload_n dk_161_11 rfl ?_
  refine zi_invV dk_161_12 ml_13_204 iv_141 (ct_141 (d := d - 1) (by omega) R0 hid) md_0 rfl rfl rfl (Nat.le_of_ble_eq_true rfl) (by omega) rfl rfl (fun r n' h' hq => ?_)
  obtain ⟨rfl, rfl, rfl⟩ := hq
  rw [show (sb_run (fun s => decide (mlv (va_up (va_up V 54 (-1)) 55 0) B s ∧ B 9 s = sid)) 12 0 (-1)) = (sb_run (fun s => decide (mlv V B s ∧ B 9 s = sid)) 12 0 (-1)) from rfl]
  generalize (sb_run (fun s => decide (mlv V B s ∧ B 9 s = sid)) 12 0 (-1)) = sb at hsb ⊢
  refine zj_istore dk_161_15 rfl ?_
  refine zj_iload dk_161_17 rfl ?_
  refine zj_if_lt (t := 55) dk_161_19 rfl (by omega) (fun c19 => ?_) (fun c19 => ?_)
  · skip
    refine zi_aload_n dk_161_55 rfl rfl ?_
    refine zj_iload_n dk_161_56 rfl ?_
    refine zi_invV dk_161_57 ml_13_246 iv_162 (ct_162 (d := d - 1) (by omega) R0 hser) md_0 rfl rfl rfl (Nat.le_of_ble_eq_true rfl) (by omega) rfl rfl (fun r n' h' hq => ?_)
    obtain ⟨rfl, rfl, rfl⟩ := hq
    generalize (sb_run (fun s => decide (B 14 s = 1 ∧ B 15 s = ser)) 12 0 (-1)) = sr at hsr ⊢
    refine zj_istore dk_161_60 rfl ?_
    refine zj_iload dk_161_62 rfl ?_
    refine zj_if_ge (t := 69) dk_161_64 rfl (by omega) (fun c64 => ?_) (fun c64 => ?_)
    · skip
      obtain ⟨-, -, -, -, -, -, -, -, q9⟩ := R.2 sr (by omega) (by omega)
      refine zi_aload_n dk_161_69 rfl rfl ?_
      refine zi_getf dk_161_70 fl_13_56 md_0 rfl ?_
      refine zj_iload dk_161_73 rfl ?_
      refine md_iald (k := 16) (N := 12) dk_161_75 (by decide) rfl rfl (by omega) ?_
      refine zj_iload_n dk_161_76 rfl ?_
      refine zj_icmp_ne (t := 117) dk_161_77 rfl (by omega) (fun c77 => ?_) (fun c77 => ?_)
      · skip
        refine zi_aload_n dk_161_117 rfl rfl ?_
        refine zi_dup dk_161_118 rfl ?_
        refine zi_getf dk_161_119 fl_13_249 md_0 rfl ?_
        refine zj_iconst dk_161_122 ?_
        refine zj_iadd dk_161_123 ?_
        refine md_putI dk_161_124 fp_161_249 md_s5 ?_
        refine zi_aload_n dk_161_127 rfl rfl ?_
        refine zj_iload dk_161_128 rfl ?_
        refine zj_iconst dk_161_130 ?_
        refine zj_idiv dk_161_131 (by omega) ?_
        rw [zb_div2i (by omega)]
        refine zi_invV dk_161_132 ml_13_215 iv_146 (ct_146 (d := d - 1) (by omega)) md_0 rfl rfl rfl (Nat.le_of_ble_eq_true rfl) (by omega) rfl rfl (fun r n' h' hq => ?_)
        obtain ⟨rfl, rfl, rfl⟩ := hq
        refine zi_aload_n dk_161_135 rfl rfl ?_
        refine zi_getf dk_161_136 fl_13_31 md_0 rfl ?_
        refine zj_iload dk_161_139 rfl ?_
        refine zj_iconst dk_161_141 ?_
        refine zj_idiv dk_161_142 (by omega) ?_
        rw [zb_div2i (by omega)]
        refine zj_iconst dk_161_143 ?_
        refine zj_imul dk_161_144 ?_
        refine zj_iconst dk_161_145 ?_
        refine md_zast (k := 8) (N := 12) dk_161_146 (by decide) rfl rfl (by omega) (by omega) ?_
        refine zi_aload_n dk_161_147 rfl rfl ?_
        refine zi_getf dk_161_148 fl_13_31 md_0 rfl ?_
        refine zj_iload dk_161_151 rfl ?_
        refine zj_iconst dk_161_153 ?_
        refine zj_idiv dk_161_154 (by omega) ?_
        rw [zb_div2i (by omega)]
        refine zj_iconst dk_161_155 ?_
        refine zj_imul dk_161_156 ?_
        refine zj_iconst dk_161_157 ?_
        refine zj_iadd dk_161_158 ?_
        refine zj_iconst dk_161_159 ?_
        refine md_zast (k := 8) (N := 12) dk_161_160 (by decide) rfl rfl (by omega) (by omega) ?_
        refine zj_iconst dk_161_161 ?_
        refine zj_ireturn dk_161_162 rfl ⟨rfl, Or.inr (Or.inr (Or.inr ⟨by omega, by omega, by omega, rfl, ?_⟩))⟩
        rw [va_up_up]
        rfl
      · skip
        refine zi_aload_n dk_161_80 rfl rfl ?_
        refine zj_iload dk_161_81 rfl ?_
        refine zj_iconst dk_161_83 ?_
        refine zj_idiv dk_161_84 (by omega) ?_
        rw [zb_div2i (by omega)]
        refine md_putI dk_161_85 fp_161_240 md_s54 ?_
        refine zi_aload_n dk_161_88 rfl rfl ?_
        refine zj_iconst dk_161_89 ?_
        refine md_putZ dk_161_90 fp_161_243 (by omega) md_s55 ?_
        refine zi_aload_n dk_161_93 rfl rfl ?_
        refine zi_getf dk_161_94 fl_13_56 md_0 rfl ?_
        refine zj_iload dk_161_97 rfl ?_
        refine zi_aload_n dk_161_99 rfl rfl ?_
        refine zi_invV dk_161_100 ml_13_184 iv_137 (ct_137 (d := d - 1)) md_0 rfl rfl rfl (Nat.le_of_ble_eq_true rfl) (by omega) rfl rfl (fun r n' h' hq => ?_)
        obtain ⟨rfl, rfl, rfl⟩ := hq
        refine md_iast (k := 16) (N := 12) dk_161_103 (by decide) rfl rfl (by omega) ?_
        refine zi_aload_n dk_161_104 rfl rfl ?_
        refine zi_aload_n dk_161_105 rfl rfl ?_
        refine zi_getf dk_161_106 fl_13_240 md_0 rfl ?_
        show zz_Z _ _ _ _ _ _ _ _ (zv (sr / 2) :: _) _ _
        refine zj_iconst dk_161_109 ?_
        have RK : md_R (va_up (va_up (va_up (va_up (va_up V 54 (-1)) 55 0) 54 (sr / 2)) 55 1) 0 (V 0 + 1)) (va_up B 16 (zU (B 16) sr (V 0 + 1))) := ⟨R.1, fun s h1 h2 => by
          obtain ⟨r1, r2, r3, r4, r5, r6, r7, r8, r9⟩ := R.2 s h1 h2
          exact ⟨r1, r2, r3, r4, r5, r6, r7, r8, zU_rg r9 (by omega)⟩⟩
        refine zi_invV dk_161_110 ml_13_207 iv_143 (ct_143 (d := d - 1) (by omega) RK (by omega) (Or.inr rfl)) md_0 rfl rfl rfl (Nat.le_of_ble_eq_true rfl) (by omega) rfl rfl (fun r n' h' hq => ?_)
        obtain ⟨rfl, rfl, rfl⟩ := hq
        refine zi_pop dk_161_113 rfl ?_
        refine zi_goto (t := 161) dk_161_114 rfl ?_
        refine zj_iconst dk_161_161 ?_
        refine zj_ireturn dk_161_162 rfl ⟨rfl, Or.inr (Or.inr (Or.inl ⟨by omega, by omega, by omega, rfl, ?_⟩))⟩
        rw [av_up, va_up_up, show V 0 + 3 = va_up (va_up (va_up V 54 (sr / 2)) 55 1) 0 (V 0 + 1) 0 + 2 from by rw [va_up_self]; omega]
        rfl
    · skip
      refine zj_iconst dk_161_67 ?_
      refine zj_ireturn dk_161_68 rfl ⟨rfl, Or.inr (Or.inl ⟨by omega, by omega, rfl, rfl⟩)⟩
  · skip
    refine zi_aload_n dk_161_22 rfl rfl ?_
    refine zj_iload dk_161_23 rfl ?_
    refine zj_iconst dk_161_25 ?_
    refine zj_idiv dk_161_26 (by omega) ?_
    rw [zb_div2i (by omega)]
    obtain ⟨-, -, -, q4, -⟩ := R.2 sb (by omega) (by omega)
    refine md_putI dk_161_27 fp_161_240 md_s54 ?_
    refine zi_aload_n dk_161_30 rfl rfl ?_
    refine zi_aload_n dk_161_31 rfl rfl ?_
    refine zi_getf dk_161_32 fl_13_41 md_0 rfl ?_
    refine zj_iload dk_161_35 rfl ?_
    refine md_zald (k := 11) (N := 12) dk_161_37 (by decide) rfl rfl (by omega) ?_
    refine md_putZ dk_161_38 fp_161_243 (by omega) md_s55 ?_
    refine zi_aload_n dk_161_41 rfl rfl ?_
    refine zi_getf dk_161_42 fl_13_47 md_0 rfl ?_
    refine zj_iload dk_161_45 rfl ?_
    refine zi_aload_n dk_161_47 rfl rfl ?_
    refine zi_getf dk_161_48 fl_13_192 md_0 rfl ?_
    refine md_iast (k := 13) (N := 12) dk_161_51 (by decide) rfl rfl (by omega) ?_
    refine zj_iload dk_161_52 rfl ?_
    refine zj_ireturn dk_161_54 rfl ⟨rfl, Or.inl ⟨by omega, rfl, by rw [av_up]; rfl⟩⟩

