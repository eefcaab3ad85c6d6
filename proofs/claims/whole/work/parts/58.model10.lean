/-! the model: rule, pieces laid on segments -/
theorem lp_133 {X : zz_X} {d n m : Nat} {V : Nat → Int} {B0 : Nat → Int → Int} {h0 : zz_H} (hV : 0 ≤ V 29 ∧ V 29 ≤ 40) (hR : 0 ≤ V 40 ∧ V 40 < 8) {ex ms : Int} {Q : Option Value → Nat → zz_H → Prop} : ∀ (k i : Nat) (B : Nat → Int → Int), (i : Int) + k = V 29 → ax [30] B0 B → (∀ j, 0 ≤ j → j < (i : Int) → B 30 (40 * V 40 + j) = B0 21 j) → (∀ x, x < 40 * V 40 ∨ 40 * V 40 + 40 ≤ x → B 30 x = B0 30 x) → (∀ B' y, ax [30] B0 B' → (∀ j, 0 ≤ j → j < V 29 → B' 30 (40 * V 40 + j) = B0 21 j) → (∀ x, x < 40 * V 40 ∨ 40 * V 40 + 40 ≤ x → B' 30 x = B0 30 x) → zz_Z X mm_133 d Q 0 0 73 [some (.ref m), some (zv ex), some (zv ms), some (zv y)] [] n (md_H m V B' h0)) →
    zz_Z X mm_133 d Q 0 0 39 [some (.ref m), some (zv ex), some (zv ms), some (zv (i : Int))] [] n (md_H m V B h0) := by
  intro k
  induction k with
  | zero =>
    intro i B hk hax h1 h2 hQ
    refine zj_iload_n dk_133_39 rfl ?_
    refine zi_aload_n dk_133_40 rfl rfl ?_
    refine zi_getf dk_133_41 fl_13_129 md_0 rfl ?_
    refine zj_icmp_ge (t := 73) dk_133_44 rfl (by omega) (fun c44 => ?_) (fun c44 => ?_)
    · skip
      exact hQ B _ hax (fun j a1 a2 => h1 j a1 (by omega)) h2
    · omega
  | succ k ih =>
    intro i B hk hax h1 h2 hQ
    refine zj_iload_n dk_133_39 rfl ?_
    refine zi_aload_n dk_133_40 rfl rfl ?_
    refine zi_getf dk_133_41 fl_13_129 md_0 rfl ?_
    refine zj_icmp_ge (t := 73) dk_133_44 rfl (by omega) (fun c44 => ?_) (fun c44 => ?_)
    · omega
    · skip
      refine zi_aload_n dk_133_47 rfl rfl ?_
      refine zi_getf dk_133_48 fl_13_98 md_0 rfl ?_
      refine zj_bipush dk_133_51 (by decide) ?_
      refine zi_aload_n dk_133_53 rfl rfl ?_
      refine zi_getf dk_133_54 fl_13_171 md_0 rfl ?_
      refine zj_imul dk_133_57 ?_
      refine zj_iload_n dk_133_58 rfl ?_
      refine zj_iadd dk_133_59 ?_
      refine zi_aload_n dk_133_60 rfl rfl ?_
      refine zi_getf dk_133_61 fl_13_71 md_0 rfl ?_
      refine zj_iload_n dk_133_64 rfl ?_
      refine md_iald (k := 21) (N := 40) dk_133_65 (by decide) rfl rfl (by omega) ?_
      refine md_iast (k := 30) (N := 320) dk_133_66 (by decide) rfl rfl (by omega) ?_
      refine zj_iinc dk_133_67 rfl rfl ?_
      refine zi_goto (t := 39) dk_133_70 rfl ?_
      refine ih (i + 1) _ (by omega) (hax.up (by decide)) (fun j a1 a2 => ?_) (fun x hx => ?_) hQ
      · show zU (B 30) (40 * V 40 + (i : Int)) (B 21 (i : Int)) (40 * V 40 + j) = _
        by_cases hj : j = (i : Int)
        · rw [hj, zU_eq, hax 21 (by decide)]
        · rw [zU_ne (by omega)]
          exact h1 j a1 (by omega)
      · show zU (B 30) (40 * V 40 + (i : Int)) (B 21 (i : Int)) x = _
        rw [zU_ne (by omega)]
        exact h2 x hx

theorem ct_133 {X : zz_X} {d n : Nat}  (hd : 2 ≤ d) {m : Nat} {V : Nat → Int} {B : Nat → Int → Int} {h0 : zz_H} (hB : md_B V B) {ex ms : Int} (hex : -2147483648 ≤ ex ∧ ex < 2147483648) (hms : -2147483648 ≤ ms ∧ ms < 2147483648) (hs : 0 ≤ V 40 ∧ V 40 ≤ 8) (hs2 : 0 ≤ V 24 ∧ V 24 ≤ 16) : zz_Ct X mm_133 d 0 0 [.ref m, zv ex, zv ms] n (md_H m V B h0) (fun r n' h' => n' = n ∧ ((¬ (V 40 < 8 ∧ (0 ≤ ex ∧ ex < V 24) ∧ (1 ≤ ms ∧ ms ≤ 15) ∧ sp_pat (B 21) (V 29) = true) ∧ r = some (zv (-1)) ∧ h' = md_H m V B h0) ∨ ((V 40 < 8 ∧ (0 ≤ ex ∧ ex < V 24) ∧ (1 ≤ ms ∧ ms ≤ 15) ∧ sp_pat (B 21) (V 29) = true) ∧ r = some (zv (V 40)) ∧ ∃ B', ax [30] B B' ∧ (∀ j, 0 ≤ j → j < V 29 → B' 30 (40 * V 40 + j) = B 21 j) ∧ (∀ x, x < 40 * V 40 ∨ 40 * V 40 + 40 ≤ x → B' 30 x = B 30 x) ∧ h' = md_H m (va_up (va_up V 29 0) 40 (V 40 + 1)) (va_up (va_up (va_up B' 31 (zU (B 31) (V 40) (V 29))) 32 (zU (B 32) (V 40) ex)) 33 (zU (B 33) (V 40) ms)) h0))) := by
  refine zz_start (by decide) (ls := [some (.ref m), some (zv ex), some (zv ms), none]) rfl ?_
  have hbz := bz_rg (sp_pat (B 21) (V 29))
  have hV := hB.1
  refine zi_aload_n dk_133_0 rfl rfl ?_
  refine zi_getf dk_133_1 fl_13_171 md_0 rfl ?_
  refine zj_bipush dk_133_4 (by decide) ?_
  refine zj_icmp_eq (t := 35) dk_133_6 rfl (by omega) (fun c6 => ?_) (fun c6 => ?_)
  · skip
    refine zj_iconst dk_133_35 ?_
    refine zj_ireturn dk_133_36 rfl ⟨rfl, Or.inl ⟨fun hh => by first | omega | (rw [if_pos hh.2.1] at c14; omega) | (rw [hh.2.2.2] at c32; exact absurd c32 (by decide)), rfl, rfl⟩⟩
  · skip
    refine zi_aload_n dk_133_9 rfl rfl ?_
    refine zj_iload_n dk_133_10 rfl ?_
    refine zi_invV dk_133_11 ml_13_157 iv_130 (ct_130 (d := d - 1) hex hs2) md_0 rfl rfl rfl (Nat.le_of_ble_eq_true rfl) (by omega) rfl rfl (fun r n' h' hq => ?_)
    obtain ⟨rfl, rfl, rfl⟩ := hq
    refine zj_if_eq (t := 35) dk_133_14 rfl (by split <;> omega) (fun c14 => ?_) (fun c14 => ?_)
    · skip
      refine zj_iconst dk_133_35 ?_
      refine zj_ireturn dk_133_36 rfl ⟨rfl, Or.inl ⟨fun hh => by first | omega | (rw [if_pos hh.2.1] at c14; omega) | (rw [hh.2.2.2] at c32; exact absurd c32 (by decide)), rfl, rfl⟩⟩
    · skip
      refine zj_iload_n dk_133_17 rfl ?_
      refine zj_iconst dk_133_18 ?_
      refine zj_icmp_lt (t := 35) dk_133_19 rfl (by omega) (fun c19 => ?_) (fun c19 => ?_)
      · skip
        refine zj_iconst dk_133_35 ?_
        refine zj_ireturn dk_133_36 rfl ⟨rfl, Or.inl ⟨fun hh => by first | omega | (rw [if_pos hh.2.1] at c14; omega) | (rw [hh.2.2.2] at c32; exact absurd c32 (by decide)), rfl, rfl⟩⟩
      · skip
        refine zj_iload_n dk_133_22 rfl ?_
        refine zj_bipush dk_133_23 (by decide) ?_
        refine zj_icmp_gt (t := 35) dk_133_25 rfl (by omega) (fun c25 => ?_) (fun c25 => ?_)
        · skip
          refine zj_iconst dk_133_35 ?_
          refine zj_ireturn dk_133_36 rfl ⟨rfl, Or.inl ⟨fun hh => by first | omega | (rw [if_pos hh.2.1] at c14; omega) | (rw [hh.2.2.2] at c32; exact absurd c32 (by decide)), rfl, rfl⟩⟩
        · skip
          refine zi_aload_n dk_133_28 rfl rfl ?_
          refine zi_invV dk_133_29 ml_13_174 iv_134 (ct_134 (d := d - 1) (by omega) hB) md_0 rfl rfl rfl (Nat.le_of_ble_eq_true rfl) (by omega) rfl rfl (fun r n' h' hq => ?_)
          obtain ⟨rfl, rfl, rfl⟩ := hq
          refine zj_if_ne (t := 37) dk_133_32 rfl (by omega) (fun c32 => ?_) (fun c32 => ?_)
          · skip
            have hpt : sp_pat (B 21) (V 29) = true := by
              cases hx : sp_pat (B 21) (V 29) with
              | true => rfl
              | false => rw [hx] at c32; exact absurd rfl c32
            have hok : (V 40 < 8 ∧ (0 ≤ ex ∧ ex < V 24) ∧ (1 ≤ ms ∧ ms ≤ 15) ∧ sp_pat (B 21) (V 29) = true) := ⟨by omega, by split at c14 <;> omega, by omega, hpt⟩
            refine zj_iconst dk_133_37 ?_
            refine zj_istore_n dk_133_38 rfl ?_
            refine lp_133 hB.1 (by omega) (V 29).toNat 0 B (by omega) ax.rf (fun j a1 a2 => by omega) (fun _ _ => rfl) (fun B' y g1 g2 g3 => ?_)
            refine zi_aload_n dk_133_73 rfl rfl ?_
            refine zi_getf dk_133_74 fl_13_101 md_0 rfl ?_
            refine zi_aload_n dk_133_77 rfl rfl ?_
            refine zi_getf dk_133_78 fl_13_171 md_0 rfl ?_
            refine zi_aload_n dk_133_81 rfl rfl ?_
            refine zi_getf dk_133_82 fl_13_129 md_0 rfl ?_
            refine md_iast (k := 31) (N := 8) dk_133_85 (by decide) rfl rfl (by omega) ?_
            refine zi_aload_n dk_133_86 rfl rfl ?_
            refine zi_getf dk_133_87 fl_13_104 md_0 rfl ?_
            refine zi_aload_n dk_133_90 rfl rfl ?_
            refine zi_getf dk_133_91 fl_13_171 md_0 rfl ?_
            refine zj_iload_n dk_133_94 rfl ?_
            refine md_iast (k := 32) (N := 8) dk_133_95 (by decide) rfl rfl (by omega) ?_
            refine zi_aload_n dk_133_96 rfl rfl ?_
            refine zi_getf dk_133_97 fl_13_107 md_0 rfl ?_
            refine zi_aload_n dk_133_100 rfl rfl ?_
            refine zi_getf dk_133_101 fl_13_171 md_0 rfl ?_
            refine zj_iload_n dk_133_104 rfl ?_
            refine md_iast (k := 33) (N := 8) dk_133_105 (by decide) rfl rfl (by omega) ?_
            refine zi_aload_n dk_133_106 rfl rfl ?_
            refine zj_iconst dk_133_107 ?_
            refine md_putI dk_133_108 fp_133_129 md_s29 ?_
            refine zi_aload_n dk_133_111 rfl rfl ?_
            refine zi_dup dk_133_112 rfl ?_
            refine zi_getf dk_133_113 fl_13_171 md_0 rfl ?_
            refine zj_iconst dk_133_116 ?_
            refine zj_iadd dk_133_117 ?_
            refine md_putI dk_133_118 fp_133_171 md_s40 ?_
            refine zi_aload_n dk_133_121 rfl rfl ?_
            refine zi_getf dk_133_122 fl_13_171 md_0 rfl ?_
            refine zj_iconst dk_133_125 ?_
            refine zj_isub dk_133_126 ?_
            refine zj_ireturn dk_133_127 rfl ⟨rfl, Or.inr ⟨hok, by congr 2; show V 40 + 1 - 1 = V 40; omega, B', g1, g2, g3, by rw [← g1 31 (by decide), ← g1 32 (by decide), ← g1 33 (by decide)]; rfl⟩⟩
          · skip
            refine zj_iconst dk_133_35 ?_
            refine zj_ireturn dk_133_36 rfl ⟨rfl, Or.inl ⟨fun hh => by first | omega | (rw [if_pos hh.2.1] at c14; omega) | (rw [hh.2.2.2] at c32; exact absurd c32 (by decide)), rfl, rfl⟩⟩

def sh_row (P : Nat → Bool) (R : Nat → Bool) : Nat → Bool
  | 0 => false
  | j + 1 => R j && P j
def st_row (c : Int) (P : Nat → Bool) (R : Nat → Bool) : Nat → Bool := fun j => if c = 42 then sp_any R j else sh_row P R j
def any_lt (R : Nat → Bool) : Nat → Bool
  | 0 => false
  | j + 1 => sp_any R j
theorem any_lt_s (R : Nat → Bool) (j : Nat) : any_lt R (j + 1) = (any_lt R j || R j) := by
  cases j with
  | zero => rfl
  | succ j => rfl
theorem bz_or (a b : Bool) : bz (a || b) = (if bz a = 1 ∨ bz b = 1 then 1 else 0) := by cases a <;> cases b <;> rfl
theorem bz_and (a b : Bool) : bz (a && b) = (if bz a = 1 ∧ bz b = 1 then 1 else 0) := by cases a <;> cases b <;> rfl
theorem sp_cv_row (pc sc : Nat → Int) (i : Nat) : sp_cv pc sc (i + 1) = st_row (pc i) (fun j => decide (pc i = 63) || decide (pc i = sc j)) (sp_cv pc sc i) := by
  funext n
  cases n <;> rfl
theorem lp_164a {X : zz_X} {d n m N : Nat} {V : Nat → Int} {B0 : Nat → Int → Int} {h0 : zz_H} (hN : N ≤ 41) {p q s : Int} {Q : Option Value → Nat → zz_H → Prop} : ∀ (t j : Nat) (B : Nat → Int → Int), j + t = N + 1 → ax [28] B0 B → (∀ x : Nat, x < j → B 28 x = bz (x == 0)) → (∀ B' y, ax [28] B0 B' → (∀ x : Nat, x ≤ N → B' 28 x = bz (x == 0)) → zz_Z X mm_164 d Q 0 0 48 [some (.ref m), some (zv p), some (zv q), some (zv s), some (zv (N : Int)), some (zv y), none, none, none] [] n (md_H m V B' h0)) →
    zz_Z X mm_164 d Q 0 0 18 [some (.ref m), some (zv p), some (zv q), some (zv s), some (zv (N : Int)), some (zv (j : Int)), none, none, none] [] n (md_H m V B h0) := by
  intro t
  induction t with
  | zero =>
    intro j B hj hax h1 hQ
    refine zj_iload dk_164_18 rfl ?_
    refine zj_iload dk_164_20 rfl ?_
    refine zj_icmp_gt (t := 48) dk_164_22 rfl (by omega) (fun c22 => ?_) (fun c22 => ?_)
    · skip
      exact hQ B _ hax (fun x hx => h1 x (by omega))
    · omega
  | succ t ih =>
    intro j B hj hax h1 hQ
    refine zj_iload dk_164_18 rfl ?_
    refine zj_iload dk_164_20 rfl ?_
    refine zj_icmp_gt (t := 48) dk_164_22 rfl (by omega) (fun c22 => ?_) (fun c22 => ?_)
    · omega
    · skip
      refine zi_aload_n dk_164_25 rfl rfl ?_
      refine zi_getf dk_164_26 fl_13_92 md_0 rfl ?_
      refine zj_iload dk_164_29 rfl ?_
      refine zj_iload dk_164_31 rfl ?_
      refine zj_if_ne (t := 40) dk_164_33 rfl (by omega) (fun c33 => ?_) (fun c33 => ?_)
      · skip
        refine zj_iconst dk_164_40 ?_
        refine md_zast (k := 28) (N := 42) dk_164_41 (by decide) rfl rfl (by omega) (by omega) ?_
        refine zj_iinc dk_164_42 rfl rfl ?_
        refine zi_goto (t := 18) dk_164_45 rfl ?_
        refine ih (j + 1) _ (by omega) (hax.up (by decide)) (fun x hx => ?_) hQ
        show zU (B 28) (j : Int) _ (x : Int) = _
        by_cases hxj : x = j
        · subst hxj
          rw [zU_eq]
          by_cases h0x : x = 0
          · subst h0x; first | rfl | omega
          · rw [show (x == 0) = false from by simp [h0x]]; first | rfl | omega
        · rw [zU_ne (by omega)]
          exact h1 x (by omega)
      · skip
        refine zj_iconst dk_164_36 ?_
        refine zi_goto (t := 41) dk_164_37 rfl ?_
        refine md_zast (k := 28) (N := 42) dk_164_41 (by decide) rfl rfl (by omega) (by omega) ?_
        refine zj_iinc dk_164_42 rfl rfl ?_
        refine zi_goto (t := 18) dk_164_45 rfl ?_
        refine ih (j + 1) _ (by omega) (hax.up (by decide)) (fun x hx => ?_) hQ
        show zU (B 28) (j : Int) _ (x : Int) = _
        by_cases hxj : x = j
        · subst hxj
          rw [zU_eq]
          by_cases h0x : x = 0
          · subst h0x; first | rfl | omega
          · rw [show (x == 0) = false from by simp [h0x]]; first | rfl | omega
        · rw [zU_ne (by omega)]
          exact h1 x (by omega)

theorem lp_164c {X : zz_X} {d n m N : Nat} {V : Nat → Int} {B0 : Nat → Int → Int} {h0 : zz_H} (hN : N ≤ 41) {R : Nat → Bool} (hR : ∀ x : Nat, x ≤ N → B0 29 x = bz (R x)) {p q s k : Int} {x6 x8 : Option Value} {Q : Option Value → Nat → zz_H → Prop} : ∀ (t j : Nat) (B : Nat → Int → Int), j + t = N + 1 → ax [28] B0 B → (∀ x : Nat, x < j → B 28 x = bz (R x)) → (∀ B' y, ax [28] B0 B' → (∀ x : Nat, x ≤ N → B' 28 x = bz (R x)) → zz_Z X mm_164 d Q 0 0 216 [some (.ref m), some (zv p), some (zv q), some (zv s), some (zv (N : Int)), some (zv k), x6, some (zv y), x8] [] n (md_H m V B' h0)) →
    zz_Z X mm_164 d Q 0 0 189 [some (.ref m), some (zv p), some (zv q), some (zv s), some (zv (N : Int)), some (zv k), x6, some (zv (j : Int)), x8] [] n (md_H m V B h0) := by
  intro t
  induction t with
  | zero =>
    intro j B hj hax h1 hQ
    refine zj_iload dk_164_189 rfl ?_
    refine zj_iload dk_164_191 rfl ?_
    refine zj_icmp_gt (t := 216) dk_164_193 rfl (by omega) (fun c193 => ?_) (fun c193 => ?_)
    · skip
      exact hQ B _ hax (fun x hx => h1 x (by omega))
    · omega
  | succ t ih =>
    intro j B hj hax h1 hQ
    have hb : B 29 (j : Int) = bz (R j) := by rw [hax 29 (by decide)]; exact hR j (by omega)
    have hb2 := bz_rg (R j)
    refine zj_iload dk_164_189 rfl ?_
    refine zj_iload dk_164_191 rfl ?_
    refine zj_icmp_gt (t := 216) dk_164_193 rfl (by omega) (fun c193 => ?_) (fun c193 => ?_)
    · omega
    · skip
      refine zi_aload_n dk_164_196 rfl rfl ?_
      refine zi_getf dk_164_197 fl_13_92 md_0 rfl ?_
      refine zj_iload dk_164_200 rfl ?_
      refine zi_aload_n dk_164_202 rfl rfl ?_
      refine zi_getf dk_164_203 fl_13_95 md_0 rfl ?_
      refine zj_iload dk_164_206 rfl ?_
      refine md_zald (k := 29) (N := 42) dk_164_208 (by decide) rfl rfl (by omega) ?_
      refine md_zast (k := 28) (N := 42) dk_164_209 (by decide) rfl rfl (by omega) (by omega) ?_
      refine zj_iinc dk_164_210 rfl rfl ?_
      refine zi_goto (t := 189) dk_164_213 rfl ?_
      refine ih (j + 1) _ (by omega) (hax.up (by decide)) (fun x hx => ?_) hQ
      show zU (B 28) (j : Int) _ (x : Int) = _
      by_cases hxj : x = j
      · subst hxj
        rw [zU_eq]; exact hb
      · rw [zU_ne (by omega)]
        exact h1 x (by omega)

theorem lp_164b {X : zz_X} {d n m N : Nat} {V : Nat → Int} {B0 : Nat → Int → Int} {h0 : zz_H} {R : Nat → Bool} (hM : ∀ x : Nat, x ≤ N → B0 28 x = bz (R x)) (hch : ch_ok (B0 22)) {p q s k : Int} (hk : 0 ≤ k ∧ k < 320) (hs : 0 ≤ s ∧ s < 41) (hN : 0 ≤ B0 23 s ∧ B0 23 s + N ≤ 40) (hc : 0 ≤ B0 30 k ∧ B0 30 k < 65536) {Q : Option Value → Nat → zz_H → Prop} : ∀ (t j : Nat) (B : Nat → Int → Int) (any : Int) (x8 : Option Value), j + t = N + 1 → ax [29] B0 B → (∀ x : Nat, x < j → B 29 x = bz (st_row (B0 30 k) (fun x => decide (B0 30 k = 63) || decide (B0 30 k = B0 22 (B0 23 s + (x : Int)))) R x)) → any = bz (any_lt R j) → (∀ B' y z w, ax [29] B0 B' → (∀ x : Nat, x ≤ N → B' 29 x = bz (st_row (B0 30 k) (fun x => decide (B0 30 k = 63) || decide (B0 30 k = B0 22 (B0 23 s + (x : Int)))) R x)) → zz_Z X mm_164 d Q 0 0 186 [some (.ref m), some (zv p), some (zv q), some (zv s), some (zv (N : Int)), some (zv k), some (zv y), some (zv z), w] [] n (md_H m V B' h0)) →
    zz_Z X mm_164 d Q 0 0 63 [some (.ref m), some (zv p), some (zv q), some (zv s), some (zv (N : Int)), some (zv k), some (zv any), some (zv (j : Int)), x8] [] n (md_H m V B h0) := by
  intro t
  induction t with
  | zero =>
    intro j B any x8 hj hax h1 hany hQ
    refine zj_iload dk_164_63 rfl ?_
    refine zj_iload dk_164_65 rfl ?_
    refine zj_icmp_gt (t := 186) dk_164_67 rfl (by omega) (fun c67 => ?_) (fun c67 => ?_)
    · skip
      exact hQ B _ _ _ hax (fun x hx => h1 x (by omega))
    · omega
  | succ t ih =>
    intro j B any x8 hj hax h1 hany hQ
    have e30 : B 30 k = B0 30 k := by rw [hax 30 (by decide)]
    have hmj : B 28 (j : Int) = bz (R j) := by rw [hax 28 (by decide)]; exact hM j (by omega)
    have hbj := bz_rg (R j)
    have hba := bz_rg (any_lt R j)
    have key2 : ∀ sm, sm = bz (sh_row (fun x => decide (B0 30 k = 63) || decide (B0 30 k = B0 22 (B0 23 s + (x : Int)))) R j) → zz_Z X mm_164 d Q 0 0 154 [some (.ref m), some (zv p), some (zv q), some (zv s), some (zv (N : Int)), some (zv k), some (zv (bz (any_lt R (j + 1)))), some (zv (j : Int)), some (zv sm)] [] n (md_H m V B h0) := by
      intro sm hsm
      have hsr := bz_rg (sh_row (fun x => decide (B0 30 k = 63) || decide (B0 30 k = B0 22 (B0 23 s + (x : Int)))) R j)
      have har := bz_rg (any_lt R (j + 1))
      rw [← hsm] at hsr
      refine zi_aload_n dk_164_154 rfl rfl ?_
      refine zi_getf dk_164_155 fl_13_95 md_0 rfl ?_
      refine zj_iload dk_164_158 rfl ?_
      refine zi_aload_n dk_164_160 rfl rfl ?_
      refine zi_getf dk_164_161 fl_13_98 md_0 rfl ?_
      refine zj_iload dk_164_164 rfl ?_
      refine md_iald (k := 30) (N := 320) dk_164_166 (by decide) rfl rfl (by omega) ?_
      refine zj_bipush dk_164_167 (by decide) ?_
      refine zj_icmp_ne (t := 177) dk_164_169 rfl (by omega) (fun c169 => ?_) (fun c169 => ?_)
      · skip
        refine zj_iload dk_164_177 rfl ?_
        refine md_zast (k := 29) (N := 42) dk_164_179 (by decide) rfl rfl (by omega) (by omega) ?_
        refine zj_iinc dk_164_180 rfl rfl ?_
        refine zi_goto (t := 63) dk_164_183 rfl ?_
        refine ih (j + 1) _ _ _ (by omega) (hax.up (by decide)) (fun x hx => ?_) rfl hQ
        show zU (B 29) (j : Int) _ (x : Int) = _
        by_cases hxj : x = j
        · subst hxj
          rw [zU_eq]
          unfold st_row
          first
            | (rw [if_pos (by omega)]; rfl)
            | (rw [if_neg (by omega)]; exact hsm)
        · rw [zU_ne (by omega)]
          exact h1 x (by omega)
      · skip
        refine zj_iload dk_164_172 rfl ?_
        refine zi_goto (t := 179) dk_164_174 rfl ?_
        refine md_zast (k := 29) (N := 42) dk_164_179 (by decide) rfl rfl (by omega) (by omega) ?_
        refine zj_iinc dk_164_180 rfl rfl ?_
        refine zi_goto (t := 63) dk_164_183 rfl ?_
        refine ih (j + 1) _ _ _ (by omega) (hax.up (by decide)) (fun x hx => ?_) rfl hQ
        show zU (B 29) (j : Int) _ (x : Int) = _
        by_cases hxj : x = j
        · subst hxj
          rw [zU_eq]
          unfold st_row
          first
            | (rw [if_pos (by omega)]; rfl)
            | (rw [if_neg (by omega)]; exact hsm)
        · rw [zU_ne (by omega)]
          exact h1 x (by omega)
    have key1 : ∀ an, an = bz (any_lt R (j + 1)) → zz_Z X mm_164 d Q 0 0 92 [some (.ref m), some (zv p), some (zv q), some (zv s), some (zv (N : Int)), some (zv k), some (zv an), some (zv (j : Int)), x8] [] n (md_H m V B h0) := by
      intro an han
      subst han
      cases j with
      | zero =>
        refine zj_iload dk_164_92 rfl ?_
        refine zj_if_le (t := 151) dk_164_94 rfl (by omega) (fun c94 => ?_) (fun c94 => ?_)
        · skip
          refine zj_iconst dk_164_151 ?_
          refine zj_istore dk_164_152 rfl ?_
          exact key2 0 rfl
        · omega
      | succ x =>
        have hmx : B 28 (((x + 1 : Nat) : Int) - 1) = bz (R x) := by rw [show ((x + 1 : Nat) : Int) - 1 = (x : Int) by omega, hax 28 (by decide)]; exact hM x (by omega)
        have hbx := bz_rg (R x)
        have hix : B 23 s + ((x + 1 : Nat) : Int) - 1 = B0 23 s + (x : Int) := by rw [hax 23 (by decide)]; omega
        have hpx : 0 ≤ B 22 (B 23 s + ((x + 1 : Nat) : Int) - 1) ∧ B 22 (B 23 s + ((x + 1 : Nat) : Int) - 1) < 65536 := by rw [hax 22 (by decide)]; exact hch _ (by omega) (by omega)
        have hpe : B 22 (B 23 s + ((x + 1 : Nat) : Int) - 1) = B0 22 (B0 23 s + (x : Int)) := by rw [hix, hax 22 (by decide)]
        refine zj_iload dk_164_92 rfl ?_
        refine zj_if_le (t := 151) dk_164_94 rfl (by omega) (fun c94 => ?_) (fun c94 => ?_)
        · omega
        · skip
          refine zi_aload_n dk_164_97 rfl rfl ?_
          refine zi_getf dk_164_98 fl_13_92 md_0 rfl ?_
          refine zj_iload dk_164_101 rfl ?_
          refine zj_iconst dk_164_103 ?_
          refine zj_isub dk_164_104 ?_
          refine md_zald (k := 28) (N := 42) dk_164_105 (by decide) rfl rfl (by omega) ?_
          refine zj_if_eq (t := 151) dk_164_106 rfl (by omega) (fun c106 => ?_) (fun c106 => ?_)
          · skip
            refine zj_iconst dk_164_151 ?_
            refine zj_istore dk_164_152 rfl ?_
            refine key2 _ ?_
            show _ = bz (R x && (decide (B0 30 k = 63) || decide (B0 30 k = B0 22 (B0 23 s + (x : Int)))))
            rw [bz_and, bz_or, bz_dec, bz_dec]
            (repeat' split) <;> omega
          · skip
            refine zi_aload_n dk_164_109 rfl rfl ?_
            refine zi_getf dk_164_110 fl_13_98 md_0 rfl ?_
            refine zj_iload dk_164_113 rfl ?_
            refine md_iald (k := 30) (N := 320) dk_164_115 (by decide) rfl rfl (by omega) ?_
            refine zj_bipush dk_164_116 (by decide) ?_
            refine zj_icmp_eq (t := 147) dk_164_118 rfl (by omega) (fun c118 => ?_) (fun c118 => ?_)
            · skip
              refine zj_iconst dk_164_147 ?_
              refine zi_goto (t := 152) dk_164_148 rfl ?_
              refine zj_istore dk_164_152 rfl ?_
              refine key2 _ ?_
              show _ = bz (R x && (decide (B0 30 k = 63) || decide (B0 30 k = B0 22 (B0 23 s + (x : Int)))))
              rw [bz_and, bz_or, bz_dec, bz_dec]
              (repeat' split) <;> omega
            · skip
              refine zi_aload_n dk_164_121 rfl rfl ?_
              refine zi_getf dk_164_122 fl_13_98 md_0 rfl ?_
              refine zj_iload dk_164_125 rfl ?_
              refine md_iald (k := 30) (N := 320) dk_164_127 (by decide) rfl rfl (by omega) ?_
              refine zi_aload_n dk_164_128 rfl rfl ?_
              refine zi_getf dk_164_129 fl_13_74 md_0 rfl ?_
              refine zi_aload_n dk_164_132 rfl rfl ?_
              refine zi_getf dk_164_133 fl_13_77 md_0 rfl ?_
              refine zj_iload_n dk_164_136 rfl ?_
              refine md_iald (k := 23) (N := 41) dk_164_137 (by decide) rfl rfl (by omega) ?_
              refine zj_iload dk_164_138 rfl ?_
              refine zj_iadd dk_164_140 ?_
              refine zj_iconst dk_164_141 ?_
              refine zj_isub dk_164_142 ?_
              refine md_iald (k := 22) (N := 40) dk_164_143 (by decide) rfl rfl (by omega) ?_
              refine zj_icmp_ne (t := 151) dk_164_144 rfl (by omega) (fun c144 => ?_) (fun c144 => ?_)
              · skip
                refine zj_iconst dk_164_151 ?_
                refine zj_istore dk_164_152 rfl ?_
                refine key2 _ ?_
                show _ = bz (R x && (decide (B0 30 k = 63) || decide (B0 30 k = B0 22 (B0 23 s + (x : Int)))))
                rw [bz_and, bz_or, bz_dec, bz_dec]
                (repeat' split) <;> omega
              · skip
                refine zj_iconst dk_164_147 ?_
                refine zi_goto (t := 152) dk_164_148 rfl ?_
                refine zj_istore dk_164_152 rfl ?_
                refine key2 _ ?_
                show _ = bz (R x && (decide (B0 30 k = 63) || decide (B0 30 k = B0 22 (B0 23 s + (x : Int)))))
                rw [bz_and, bz_or, bz_dec, bz_dec]
                (repeat' split) <;> omega
    refine zj_iload dk_164_63 rfl ?_
    refine zj_iload dk_164_65 rfl ?_
    refine zj_icmp_gt (t := 186) dk_164_67 rfl (by omega) (fun c67 => ?_) (fun c67 => ?_)
    · omega
    · skip
      refine zj_iload dk_164_70 rfl ?_
      refine zj_if_ne (t := 85) dk_164_72 rfl (by omega) (fun c72 => ?_) (fun c72 => ?_)
      · skip
        refine zj_iconst dk_164_85 ?_
        refine zi_goto (t := 90) dk_164_86 rfl ?_
        refine zj_istore dk_164_90 rfl ?_
        exact key1 _ (by rw [any_lt_s, bz_or]; (repeat' split) <;> omega)
      · skip
        refine zi_aload_n dk_164_75 rfl rfl ?_
        refine zi_getf dk_164_76 fl_13_92 md_0 rfl ?_
        refine zj_iload dk_164_79 rfl ?_
        refine md_zald (k := 28) (N := 42) dk_164_81 (by decide) rfl rfl (by omega) ?_
        refine zj_if_eq (t := 89) dk_164_82 rfl (by omega) (fun c82 => ?_) (fun c82 => ?_)
        · skip
          refine zj_iconst dk_164_89 ?_
          refine zj_istore dk_164_90 rfl ?_
          exact key1 _ (by rw [any_lt_s, bz_or]; (repeat' split) <;> omega)
        · skip
          refine zj_iconst dk_164_85 ?_
          refine zi_goto (t := 90) dk_164_86 rfl ?_
          refine zj_istore dk_164_90 rfl ?_
          exact key1 _ (by rw [any_lt_s, bz_or]; (repeat' split) <;> omega)

