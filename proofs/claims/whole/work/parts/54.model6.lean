/-! the model: dots, settle -/
theorem if_iff {p q : Prop} [Decidable p] [Decidable q] (h : p ↔ q) : (if p then (1:Int) else 0) = if q then 1 else 0 := by
  by_cases hp : p
  · rw [if_pos hp, if_pos (h.mp hp)]
  · rw [if_neg hp, if_neg (fun hq => hp (h.mpr hq))]
theorem pc_dots_s (g : Int → Int) (k : Nat) (i : Int) : pc_dots g (k + 1) i = (decide (g i = 46) && pc_dots g k (i + 1)) := rfl
theorem lp_160 {X : zz_X} {d n : Nat} {m : Nat} {V : Nat → Int} {B : Nat → Int → Int} {h0 : zz_H} (hch : ch_ok (B 22)) {k nn : Int} (hk : 0 ≤ k ∧ k < 41) (hto : B 24 k ≤ 40) {Q : Option Value → Nat → zz_H → Prop} : ∀ (j : Nat) (p all : Int), p + j = B 24 k → 0 ≤ p → (all = 0 ∨ all = 1) → Q (some (zv (if all = 1 ∧ pc_dots (B 22) j p = true then 1 else 0))) n (md_H m V B h0) →
    zz_Z X mm_160 d Q 0 0 31 [some (.ref m), some (zv k), some (zv nn), some (zv all), some (zv p)] [] n (md_H m V B h0) := by
  intro j
  induction j with
  | zero =>
    intro p all hj hp ha hQ
    have e : (if all = 1 ∧ pc_dots (B 22) 0 p = true then (1:Int) else 0) = all := by
      rcases ha with h1 | h1
      · rw [if_neg (fun hh => by omega), h1]
      · rw [if_pos ⟨h1, rfl⟩, h1]
    rw [e] at hQ
    refine zj_iload dk_160_31 rfl ?_
    refine zi_aload_n dk_160_33 rfl rfl ?_
    refine zi_getf dk_160_34 fl_13_80 md_0 rfl ?_
    refine zj_iload_n dk_160_37 rfl ?_
    refine md_iald (k := 24) (N := 41) dk_160_38 (by decide) rfl rfl (by omega) ?_
    refine zj_icmp_ge (t := 70) dk_160_39 rfl (by omega) (fun c39 => ?_) (fun c39 => ?_)
    · skip
      refine zj_iload_n dk_160_70 rfl ?_
      refine zj_zreturn dk_160_71 rfl (by omega) hQ
    · omega
  | succ j ih =>
    intro p all hj hp ha hQ
    have hc := hch p hp (by omega)
    have e1 : all = 0 → (if all = 1 ∧ pc_dots (B 22) (j + 1) p = true then (1:Int) else 0) = (if (0:Int) = 1 ∧ pc_dots (B 22) j (p + 1) = true then 1 else 0) := fun h => by rw [if_neg (fun hh => by omega), if_neg (fun hh => by omega)]
    have e2 : ¬ B 22 p = 46 → (if all = 1 ∧ pc_dots (B 22) (j + 1) p = true then (1:Int) else 0) = (if (0:Int) = 1 ∧ pc_dots (B 22) j (p + 1) = true then 1 else 0) := fun h => by
      rw [if_neg (fun hh => ?_), if_neg (fun hh => by omega)]
      have := hh.2
      rw [pc_dots_s, decide_eq_false h] at this
      simp at this
    have e3 : all = 1 → B 22 p = 46 → (if all = 1 ∧ pc_dots (B 22) (j + 1) p = true then (1:Int) else 0) = (if (1:Int) = 1 ∧ pc_dots (B 22) j (p + 1) = true then 1 else 0) := fun h1 h => by
      rw [pc_dots_s, decide_eq_true h, Bool.true_and, h1]
    refine zj_iload dk_160_31 rfl ?_
    refine zi_aload_n dk_160_33 rfl rfl ?_
    refine zi_getf dk_160_34 fl_13_80 md_0 rfl ?_
    refine zj_iload_n dk_160_37 rfl ?_
    refine md_iald (k := 24) (N := 41) dk_160_38 (by decide) rfl rfl (by omega) ?_
    refine zj_icmp_ge (t := 70) dk_160_39 rfl (by omega) (fun c39 => ?_) (fun c39 => ?_)
    · omega
    · skip
      refine zj_iload_n dk_160_42 rfl ?_
      refine zj_if_eq (t := 62) dk_160_43 rfl (by omega) (fun c43 => ?_) (fun c43 => ?_)
      · skip
        refine zj_iconst dk_160_62 ?_
        refine zj_istore_n dk_160_63 rfl ?_
        refine zj_iinc dk_160_64 rfl rfl ?_
        refine zi_goto (t := 31) dk_160_67 rfl ?_
        exact ih _ _ (by omega) (by omega) (by omega) (by first | (rw [e1 (by omega)] at hQ; exact hQ) | (rw [e2 (by assumption)] at hQ; exact hQ) | (rw [e3 (by omega) (by assumption)] at hQ; exact hQ))
      · skip
        refine zi_aload_n dk_160_46 rfl rfl ?_
        refine zi_getf dk_160_47 fl_13_74 md_0 rfl ?_
        refine zj_iload dk_160_50 rfl ?_
        refine md_iald (k := 22) (N := 40) dk_160_52 (by decide) rfl rfl (by omega) ?_
        refine zj_bipush dk_160_53 (by decide) ?_
        refine zj_icmp_ne (t := 62) dk_160_55 rfl (by omega) (fun c55 => ?_) (fun c55 => ?_)
        · skip
          refine zj_iconst dk_160_62 ?_
          refine zj_istore_n dk_160_63 rfl ?_
          refine zj_iinc dk_160_64 rfl rfl ?_
          refine zi_goto (t := 31) dk_160_67 rfl ?_
          exact ih _ _ (by omega) (by omega) (by omega) (by first | (rw [e1 (by omega)] at hQ; exact hQ) | (rw [e2 (by assumption)] at hQ; exact hQ) | (rw [e3 (by omega) (by assumption)] at hQ; exact hQ))
        · skip
          refine zj_iconst dk_160_58 ?_
          refine zi_goto (t := 63) dk_160_59 rfl ?_
          refine zj_istore_n dk_160_63 rfl ?_
          refine zj_iinc dk_160_64 rfl rfl ?_
          refine zi_goto (t := 31) dk_160_67 rfl ?_
          exact ih _ _ (by omega) (by omega) (by omega) (by first | (rw [e1 (by omega)] at hQ; exact hQ) | (rw [e2 (by assumption)] at hQ; exact hQ) | (rw [e3 (by omega) (by assumption)] at hQ; exact hQ))

theorem ct_160 {X : zz_X} {d n : Nat}  {m : Nat} {V : Nat → Int} {B : Nat → Int → Int} {h0 : zz_H} (hch : ch_ok (B 22)) {k nn : Int} {len : Nat} (hk : 0 ≤ k ∧ k < 41) (hF : 0 ≤ B 23 k ∧ B 24 k = B 23 k + len ∧ B 24 k ≤ 40) (hnn : 0 ≤ nn ∧ nn ≤ 2) : zz_Ct X mm_160 d 0 0 [.ref m, zv k, zv nn] n (md_H m V B h0) (zp (some (zv (if (len : Int) = nn ∧ pc_dots (B 22) len (B 23 k) = true then 1 else 0))) n (md_H m V B h0)) := by
  refine zz_start (by decide) (ls := [some (.ref m), some (zv k), some (zv nn), none, none]) rfl ?_
  refine zi_aload_n dk_160_0 rfl rfl ?_
  refine zi_getf dk_160_1 fl_13_80 md_0 rfl ?_
  refine zj_iload_n dk_160_4 rfl ?_
  refine md_iald (k := 24) (N := 41) dk_160_5 (by decide) rfl rfl (by omega) ?_
  refine zi_aload_n dk_160_6 rfl rfl ?_
  refine zi_getf dk_160_7 fl_13_77 md_0 rfl ?_
  refine zj_iload_n dk_160_10 rfl ?_
  refine md_iald (k := 23) (N := 41) dk_160_11 (by decide) rfl rfl (by omega) ?_
  refine zj_isub dk_160_12 ?_
  refine zj_iload_n dk_160_13 rfl ?_
  refine zj_icmp_ne (t := 21) dk_160_14 rfl (by omega) (fun c14 => ?_) (fun c14 => ?_)
  · skip
    refine zj_iconst dk_160_21 ?_
    refine zj_istore_n dk_160_22 rfl ?_
    refine zi_aload_n dk_160_23 rfl rfl ?_
    refine zi_getf dk_160_24 fl_13_77 md_0 rfl ?_
    refine zj_iload_n dk_160_27 rfl ?_
    refine md_iald (k := 23) (N := 41) dk_160_28 (by decide) rfl rfl (by omega) ?_
    refine zj_istore dk_160_29 rfl ?_
    exact lp_160 hch hk hF.2.2 len (B 23 k) _ (by omega) (by omega) (by omega) ⟨by congr 2; exact if_iff ⟨fun hh => ⟨by omega, hh.2⟩, fun hh => ⟨by omega, hh.2⟩⟩, rfl, rfl⟩
  · skip
    refine zj_iconst dk_160_17 ?_
    refine zi_goto (t := 22) dk_160_18 rfl ?_
    refine zj_istore_n dk_160_22 rfl ?_
    refine zi_aload_n dk_160_23 rfl rfl ?_
    refine zi_getf dk_160_24 fl_13_77 md_0 rfl ?_
    refine zj_iload_n dk_160_27 rfl ?_
    refine md_iald (k := 23) (N := 41) dk_160_28 (by decide) rfl rfl (by omega) ?_
    refine zj_istore dk_160_29 rfl ?_
    exact lp_160 hch hk hF.2.2 len (B 23 k) _ (by omega) (by omega) (by omega) ⟨by congr 2; exact if_iff ⟨fun hh => ⟨by omega, hh.2⟩, fun hh => ⟨by omega, hh.2⟩⟩, rfl, rfl⟩

/-- pieces that the tables stand for -/
def pr_D (B : Nat → Int → Int) (D : List (List Int)) : Prop := pr_R (B 22) (B 23) (B 24) 40 D ∧ D.length ≤ 41 ∧ ch_ok (B 22)
theorem pr_D.at {B : Nat → Int → Int} {D : List (List Int)} (h : pr_D B D) {k : Nat} (hk : k < D.length) : 0 ≤ B 23 k ∧ B 24 k = B 23 k + (D.getD k []).length ∧ B 24 k ≤ 40 ∧ zS (B 22) (D.getD k []).length (B 23 k) = D.getD k [] := by
  have e : D[k]? = some (D.getD k []) := by rw [List.getD_eq_getElem?_getD, List.getElem?_eq_getElem hk]; rfl
  exact h.1 k _ e
theorem dots_eq {g : Int → Int} {w : List Int} {a : Int} (hS : zS g w.length a = w) (nn : Nat) : ((w.length : Int) = (nn : Int) ∧ pc_dots g w.length a = true) ↔ w = List.replicate nn 46 := by
  rw [pc_dots_zS, hS]
  constructor
  · rintro ⟨h1, h2⟩
    have : w.length = nn := by omega
    rw [this] at h2
    exact h2
  · intro h
    have h1 : w.length = nn := by rw [h, List.length_replicate]
    exact ⟨by omega, by rw [h1]; exact h⟩
theorem sp_trim_take : ∀ (D : List (List Int)), D ≠ [] → sp_trim D = D.take (if D.getD (D.length - 1) [] = [] then D.length - 1 else D.length)
  | [], h => absurd rfl h
  | [w], _ => by
    unfold sp_trim
    by_cases hw : w = []
    · subst hw; rfl
    · rw [if_neg hw]
      show [w] = [w].take (if w = [] then 0 else 1)
      rw [if_neg hw]; rfl
  | w :: w2 :: r, _ => by
    have ih := sp_trim_take (w2 :: r) (by simp)
    unfold sp_trim
    rw [ih]
    have e : (w :: w2 :: r).getD ((w :: w2 :: r).length - 1) [] = (w2 :: r).getD ((w2 :: r).length - 1) [] := by
      show (w :: w2 :: r).getD ((w2 :: r).length - 1 + 1) [] = _
      rfl
    rw [e]
    by_cases hw : (w2 :: r).getD ((w2 :: r).length - 1) [] = []
    · rw [if_pos hw, if_pos hw]
      show _ = (w :: w2 :: r).take ((w2 :: r).length - 1 + 1)
      rfl
    · rw [if_neg hw, if_neg hw]
      rfl
/-- the segments that are kept, by the pieces' numbers -/
def sg_P (B : Nat → Int → Int) (D : List (List Int)) (s : Int) (acc : List (List Int)) : Prop := s = (acc.length : Int) ∧ acc.length ≤ 41 ∧ ∀ (k : Nat) (w : List Int), acc[k]? = some w → ∃ j : Nat, B 25 k = (j : Int) ∧ D[j]? = some w
theorem lp_159a {X : zz_X} {d n : Nat} {m : Nat} {V : Nat → Int} {B : Nat → Int → Int} {h0 : zz_H} {D : List (List Int)} (hD : pr_D B D) {N : Nat} (hN : N ≤ D.length) {many : Int} {Q : Option Value → Nat → zz_H → Prop} : ∀ (k i : Nat), i + k = N → (((D.take N).drop i).any (fun w => decide (w = [])) = true → Q (some (zv 0)) n (md_H m V B h0)) → (((D.take N).drop i).any (fun w => decide (w = [])) = false → zz_Z X mm_159 d Q 0 0 62 [some (.ref m), some (zv many), some (zv (N : Int)), some (zv (N : Int))] [] n (md_H m V B h0)) →
    zz_Z X mm_159 d Q 0 0 34 [some (.ref m), some (zv many), some (zv (N : Int)), some (zv (i : Int))] [] n (md_H m V B h0) := by
  have h41 := hD.2.1
  intro k
  induction k with
  | zero =>
    intro i hk hY hNo
    have hiN : i = N := by omega
    subst hiN
    rw [List.drop_eq_nil_of_le (by rw [List.length_take]; omega)] at hNo
    refine zj_iload_n dk_159_34 rfl ?_
    refine zj_iload_n dk_159_35 rfl ?_
    refine zj_icmp_ge (t := 62) dk_159_36 rfl (by omega) (fun c36 => ?_) (fun c36 => ?_)
    · skip
      exact hNo rfl
    · omega
  | succ k ih =>
    intro i hk hY hNo
    obtain ⟨f1, f2, f3, f4⟩ := hD.at (k := i) (by omega)
    have hl : i < (D.take N).length := by rw [List.length_take]; omega
    have eg : (D.take N)[i] = D.getD i [] := by rw [List.getElem_take, List.getD_eq_getElem?_getD, List.getElem?_eq_getElem (by omega)]; rfl
    rw [List.drop_eq_getElem_cons hl, List.any_cons, eg] at hY hNo
    refine zj_iload_n dk_159_34 rfl ?_
    refine zj_iload_n dk_159_35 rfl ?_
    refine zj_icmp_ge (t := 62) dk_159_36 rfl (by omega) (fun c36 => ?_) (fun c36 => ?_)
    · omega
    · skip
      refine zi_aload_n dk_159_39 rfl rfl ?_
      refine zi_getf dk_159_40 fl_13_77 md_0 rfl ?_
      refine zj_iload_n dk_159_43 rfl ?_
      refine md_iald (k := 23) (N := 41) dk_159_44 (by decide) rfl rfl (by omega) ?_
      refine zi_aload_n dk_159_45 rfl rfl ?_
      refine zi_getf dk_159_46 fl_13_80 md_0 rfl ?_
      refine zj_iload_n dk_159_49 rfl ?_
      refine md_iald (k := 24) (N := 41) dk_159_50 (by decide) rfl rfl (by omega) ?_
      refine zj_icmp_ne (t := 56) dk_159_51 rfl (by omega) (fun c51 => ?_) (fun c51 => ?_)
      · skip
        refine zj_iinc dk_159_56 rfl rfl ?_
        refine zi_goto (t := 34) dk_159_59 rfl ?_
        have hne : ¬ D.getD i [] = [] := fun hh => by rw [hh] at f2; simp at f2; omega
        rw [decide_eq_false hne, Bool.false_or] at hY hNo
        exact ih (i + 1) (by omega) hY hNo
      · skip
        refine zj_iconst dk_159_54 ?_
        refine zj_zreturn dk_159_55 rfl (by omega) (hY (by rw [decide_eq_true (List.length_eq_zero_iff.mp (by omega))]; rfl))

theorem lp_159b {X : zz_X} {d n : Nat} (hd : 1 ≤ d) {m : Nat} {h0 : zz_H} {D : List (List Int)} {N : Nat} (hN : N ≤ D.length) {many : Int} {Q : Option Value → Nat → zz_H → Prop} : ∀ (k i : Nat) (V : Nat → Int) (B : Nat → Int → Int) (acc : List (List Int)), i + k = N → pr_D B D → sg_P B D (V 35) acc → acc.length ≤ i → (∀ x g, sp_dots ((D.take N).drop i) acc = none → Q (some (zv 0)) n (md_H m (va_up V 35 x) (va_up B 25 g) h0)) → (∀ x g L, sp_dots ((D.take N).drop i) acc = some L → sg_P (va_up B 25 g) D x L → Q (some (zv 1)) n (md_H m (va_up V 35 x) (va_up B 25 g) h0)) →
    zz_Z X mm_159 d Q 0 0 64 [some (.ref m), some (zv many), some (zv (N : Int)), some (zv (i : Int))] [] n (md_H m V B h0) := by
  intro k
  induction k with
  | zero =>
    intro i V B acc hk hD hs hai hY hNo
    have h41 := hD.2.1
    rw [List.drop_eq_nil_of_le (by rw [List.length_take]; omega)] at hNo
    refine zj_iload_n dk_159_64 rfl ?_
    refine zj_iload_n dk_159_65 rfl ?_
    refine zj_icmp_ge (t := 135) dk_159_66 rfl (by omega) (fun c66 => ?_) (fun c66 => ?_)
    · skip
      refine zj_iconst dk_159_135 ?_
      refine zj_zreturn dk_159_136 rfl (by omega) (by have := hNo (V 35) (B 25) acc rfl (by rw [va_up_id]; exact hs); rw [va_up_id, va_up_id] at this; exact this)
    · omega
  | succ k ih =>
    intro i V B acc hk hD hs hai hY hNo
    have h41 := hD.2.1
    obtain ⟨f1, f2, f3, f4⟩ := hD.at (k := i) (by omega)
    obtain ⟨hs1, hs2, hs3⟩ := hs
    have hl : i < (D.take N).length := by rw [List.length_take]; omega
    have eg : (D.take N)[i] = D.getD i [] := by rw [List.getElem_take, List.getD_eq_getElem?_getD, List.getElem?_eq_getElem (by omega)]; rfl
    rw [List.drop_eq_getElem_cons hl, eg] at hY hNo
    have d2 : (((D.getD i []).length : Int) = 2 ∧ pc_dots (B 22) (D.getD i []).length (B 23 (i : Int)) = true) ↔ D.getD i [] = [46, 46] := dots_eq f4 2
    have d1 : (((D.getD i []).length : Int) = 1 ∧ pc_dots (B 22) (D.getD i []).length (B 23 (i : Int)) = true) ↔ D.getD i [] = [46] := dots_eq f4 1
    by_cases hw2 : D.getD i [] = [46, 46]
    · refine zj_iload_n dk_159_64 rfl ?_
      refine zj_iload_n dk_159_65 rfl ?_
      refine zj_icmp_ge (t := 135) dk_159_66 rfl (by omega) (fun c66 => ?_) (fun c66 => ?_)
      · omega
      · skip
        refine zi_aload_n dk_159_69 rfl rfl ?_
        refine zj_iload_n dk_159_70 rfl ?_
        refine zj_iconst dk_159_71 ?_
        refine zi_invV dk_159_72 ml_13_146 iv_160 (ct_160 (d := d - 1) (len := (D.getD i []).length) hD.2.2 (by omega) ⟨f1, f2, f3⟩ (by omega)) md_0 rfl rfl rfl (Nat.le_of_ble_eq_true rfl) (by omega) rfl rfl (fun r n' h' hq => ?_)
        obtain ⟨rfl, rfl, rfl⟩ := hq
        rw [if_pos (d2.mpr hw2)]
        refine zj_if_eq (t := 100) dk_159_75 rfl (by omega) (fun c75 => ?_) (fun c75 => ?_)
        · omega
        · skip
          refine zi_aload_n dk_159_78 rfl rfl ?_
          refine zi_getf dk_159_79 fl_13_143 md_0 rfl ?_
          refine zj_if_ne (t := 87) dk_159_82 rfl (by omega) (fun c82 => ?_) (fun c82 => ?_)
          · skip
            refine zi_aload_n dk_159_87 rfl rfl ?_
            refine zi_dup dk_159_88 rfl ?_
            refine zi_getf dk_159_89 fl_13_143 md_0 rfl ?_
            refine zj_iconst dk_159_92 ?_
            refine zj_isub dk_159_93 ?_
            refine md_putI dk_159_94 fp_159_143 md_s35 ?_
            refine zi_goto (t := 129) dk_159_97 rfl ?_
            refine zj_iinc dk_159_129 rfl rfl ?_
            refine zi_goto (t := 64) dk_159_132 rfl ?_
            have hne : acc ≠ [] := fun hh => by rw [hh] at hs1; simp at hs1; omega
            have ed : sp_dots (D.getD i [] :: ((D.take N).drop (i + 1))) acc = sp_dots ((D.take N).drop (i + 1)) acc.dropLast := by rw [hw2]; show (sp_dot [46, 46] acc).bind _ = _; unfold sp_dot; rw [if_neg (by decide), if_pos rfl, if_neg hne]; rfl
            rw [ed] at hY hNo
            refine ih (i + 1) _ _ acc.dropLast (by omega) hD ⟨?_, by rw [List.length_dropLast]; omega, fun k w hkw => hs3 k w ?_⟩ (by rw [List.length_dropLast]; omega) (fun x g hx => by rw [va_up_up]; exact hY x g hx) (fun x g L hx hg => by rw [va_up_up]; exact hNo x g L hx hg)
            · show V 35 - 1 = _
              rw [List.length_dropLast]
              have := List.length_pos_iff.mpr hne
              omega
            · rw [List.getElem?_dropLast] at hkw
              split at hkw
              · exact hkw
              · cases hkw
          · skip
            refine zj_iconst dk_159_85 ?_
            refine zj_zreturn dk_159_86 rfl (by omega) (by have := hY (V 35) (B 25) (by rw [hw2]; unfold sp_dots sp_dot; rw [if_neg (by decide), if_pos rfl, if_pos (List.length_eq_zero_iff.mp (by omega))]; rfl); rw [va_up_id, va_up_id] at this; exact this)
    by_cases hw1 : D.getD i [] = [46]
    · refine zj_iload_n dk_159_64 rfl ?_
      refine zj_iload_n dk_159_65 rfl ?_
      refine zj_icmp_ge (t := 135) dk_159_66 rfl (by omega) (fun c66 => ?_) (fun c66 => ?_)
      · omega
      · skip
        refine zi_aload_n dk_159_69 rfl rfl ?_
        refine zj_iload_n dk_159_70 rfl ?_
        refine zj_iconst dk_159_71 ?_
        refine zi_invV dk_159_72 ml_13_146 iv_160 (ct_160 (d := d - 1) (len := (D.getD i []).length) hD.2.2 (by omega) ⟨f1, f2, f3⟩ (by omega)) md_0 rfl rfl rfl (Nat.le_of_ble_eq_true rfl) (by omega) rfl rfl (fun r n' h' hq => ?_)
        obtain ⟨rfl, rfl, rfl⟩ := hq
        rw [if_neg (fun hh => hw2 (d2.mp hh))]
        refine zj_if_eq (t := 100) dk_159_75 rfl (by omega) (fun c75 => ?_) (fun c75 => ?_)
        · skip
          refine zi_aload_n dk_159_100 rfl rfl ?_
          refine zj_iload_n dk_159_101 rfl ?_
          refine zj_iconst dk_159_102 ?_
          refine zi_invV dk_159_103 ml_13_146 iv_160 (ct_160 (d := d - 1) (len := (D.getD i []).length) hD.2.2 (by omega) ⟨f1, f2, f3⟩ (by omega)) md_0 rfl rfl rfl (Nat.le_of_ble_eq_true rfl) (by omega) rfl rfl (fun r n' h' hq => ?_)
          obtain ⟨rfl, rfl, rfl⟩ := hq
          rw [if_pos (d1.mpr hw1)]
          refine zj_if_ne (t := 129) dk_159_106 rfl (by omega) (fun c106 => ?_) (fun c106 => ?_)
          · skip
            refine zj_iinc dk_159_129 rfl rfl ?_
            refine zi_goto (t := 64) dk_159_132 rfl ?_
            have ed : sp_dots (D.getD i [] :: ((D.take N).drop (i + 1))) acc = sp_dots ((D.take N).drop (i + 1)) acc := by rw [hw1]; show (sp_dot [46] acc).bind _ = _; unfold sp_dot; rw [if_pos rfl]; rfl
            rw [ed] at hY hNo
            exact ih (i + 1) _ _ acc (by omega) hD ⟨hs1, hs2, hs3⟩ (by omega) hY hNo
          · omega
        · omega
    · refine zj_iload_n dk_159_64 rfl ?_
      refine zj_iload_n dk_159_65 rfl ?_
      refine zj_icmp_ge (t := 135) dk_159_66 rfl (by omega) (fun c66 => ?_) (fun c66 => ?_)
      · omega
      · skip
        refine zi_aload_n dk_159_69 rfl rfl ?_
        refine zj_iload_n dk_159_70 rfl ?_
        refine zj_iconst dk_159_71 ?_
        refine zi_invV dk_159_72 ml_13_146 iv_160 (ct_160 (d := d - 1) (len := (D.getD i []).length) hD.2.2 (by omega) ⟨f1, f2, f3⟩ (by omega)) md_0 rfl rfl rfl (Nat.le_of_ble_eq_true rfl) (by omega) rfl rfl (fun r n' h' hq => ?_)
        obtain ⟨rfl, rfl, rfl⟩ := hq
        rw [if_neg (fun hh => hw2 (d2.mp hh))]
        refine zj_if_eq (t := 100) dk_159_75 rfl (by omega) (fun c75 => ?_) (fun c75 => ?_)
        · skip
          refine zi_aload_n dk_159_100 rfl rfl ?_
          refine zj_iload_n dk_159_101 rfl ?_
          refine zj_iconst dk_159_102 ?_
          refine zi_invV dk_159_103 ml_13_146 iv_160 (ct_160 (d := d - 1) (len := (D.getD i []).length) hD.2.2 (by omega) ⟨f1, f2, f3⟩ (by omega)) md_0 rfl rfl rfl (Nat.le_of_ble_eq_true rfl) (by omega) rfl rfl (fun r n' h' hq => ?_)
          obtain ⟨rfl, rfl, rfl⟩ := hq
          rw [if_neg (fun hh => hw1 (d1.mp hh))]
          refine zj_if_ne (t := 129) dk_159_106 rfl (by omega) (fun c106 => ?_) (fun c106 => ?_)
          · omega
          · skip
            refine zi_aload_n dk_159_109 rfl rfl ?_
            refine zi_getf dk_159_110 fl_13_83 md_0 rfl ?_
            refine zi_aload_n dk_159_113 rfl rfl ?_
            refine zi_getf dk_159_114 fl_13_143 md_0 rfl ?_
            refine zj_iload_n dk_159_117 rfl ?_
            refine md_iast (k := 25) (N := 41) dk_159_118 (by decide) rfl rfl (by omega) ?_
            refine zi_aload_n dk_159_119 rfl rfl ?_
            refine zi_dup dk_159_120 rfl ?_
            refine zi_getf dk_159_121 fl_13_143 md_0 rfl ?_
            refine zj_iconst dk_159_124 ?_
            refine zj_iadd dk_159_125 ?_
            refine md_putI dk_159_126 fp_159_143 md_s35 ?_
            refine zj_iinc dk_159_129 rfl rfl ?_
            refine zi_goto (t := 64) dk_159_132 rfl ?_
            have ed : sp_dots (D.getD i [] :: ((D.take N).drop (i + 1))) acc = sp_dots ((D.take N).drop (i + 1)) (acc ++ [D.getD i []]) := by show (sp_dot _ acc).bind _ = _; unfold sp_dot; rw [if_neg hw1, if_neg hw2]; rfl
            rw [ed] at hY hNo
            refine ih (i + 1) _ _ (acc ++ [D.getD i []]) (by omega) hD ⟨?_, by rw [List.length_append]; simp; omega, fun k w hkw => ?_⟩ (by rw [List.length_append]; simp; omega) (fun x g hx => by rw [va_up_up, va_up_up]; exact hY x g hx) (fun x g L hx hg => by rw [va_up_up, va_up_up]; exact hNo x g L hx (by rw [va_up_up] at hg; exact hg))
            · show V 35 + 1 = _
              rw [List.length_append, hs1]; simp
            · by_cases hk2 : k < acc.length
              · rw [List.getElem?_append_left hk2] at hkw
                obtain ⟨j, hj1, hj2⟩ := hs3 k w hkw
                exact ⟨j, (zU_ne (by omega)).trans hj1, hj2⟩
              · have hk3 := (List.getElem?_eq_some_iff.mp hkw).1
                rw [List.length_append] at hk3
                have hk4 : k = acc.length := by simp at hk3; omega
                subst hk4
                rw [List.getElem?_append_right (Nat.le_refl _), Nat.sub_self] at hkw
                have hw : D.getD i [] = w := by simpa using hkw
                refine ⟨i, ?_, ?_⟩
                · show zU (B 25) (V 35) (i : Int) (acc.length : Int) = _
                  rw [hs1, zU_eq]
                · rw [← hw, List.getD_eq_getElem?_getD, List.getElem?_eq_getElem (by omega)]; rfl
        · omega

theorem ct_159 {X : zz_X} {d n : Nat}  (hd : 1 ≤ d) {m : Nat} {V : Nat → Int} {B : Nat → Int → Int} {h0 : zz_H} {D : List (List Int)} (hD : pr_D B D) (hne : D ≠ []) : zz_Ct X mm_159 d 0 0 [.ref m, zv (D.length : Int)] n (md_H m V B h0) (fun r n' h' => n' = n ∧ ∃ x g, h' = md_H m (va_up V 35 x) (va_up B 25 g) h0 ∧ ((sp_fold D [] = none ∧ r = some (zv 0)) ∨ ∃ L, sp_fold D [] = some L ∧ r = some (zv 1) ∧ sg_P (va_up B 25 g) D x L)) := by
  refine zz_start (by decide) (ls := [some (.ref m), some (zv (D.length : Int)), none, none]) rfl ?_
  have hlen := List.length_pos_iff.mpr hne
  have h41 := hD.2.1
  obtain ⟨f1, f2, f3, f4⟩ := hD.at (k := D.length - 1) (by omega)
  rw [show ((D.length - 1 : Nat) : Int) = (D.length : Int) - 1 by omega] at f1 f2 f3 f4
  rw [sp_fold_eq, sp_trim_take D hne]
  have key : ∀ (N : Nat), N ≤ D.length → N = (if D.getD (D.length - 1) [] = [] then D.length - 1 else D.length) → zz_Z X mm_159 d (fun r n' h' => n' = n ∧ ∃ x g, h' = md_H m (va_up V 35 x) (va_up B 25 g) h0 ∧ (((if (D.take (if D.getD (D.length - 1) [] = [] then D.length - 1 else D.length)).any (fun w => decide (w = [])) = true then none else sp_dots (D.take (if D.getD (D.length - 1) [] = [] then D.length - 1 else D.length)) []) = none ∧ r = some (zv 0)) ∨ ∃ L, (if (D.take (if D.getD (D.length - 1) [] = [] then D.length - 1 else D.length)).any (fun w => decide (w = [])) = true then none else sp_dots (D.take (if D.getD (D.length - 1) [] = [] then D.length - 1 else D.length)) []) = some L ∧ r = some (zv 1) ∧ sg_P (va_up B 25 g) D x L)) 0 0 27 [some (.ref m), some (zv (D.length : Int)), some (zv (N : Int)), none] [] n (md_H m V B h0) := by
    intro N hN hNe
    rw [← hNe]
    refine zi_aload_n dk_159_27 rfl rfl ?_
    refine zj_iconst dk_159_28 ?_
    refine md_putI dk_159_29 fp_159_143 md_s35 ?_
    refine zj_iconst dk_159_32 ?_
    refine zj_istore_n dk_159_33 rfl ?_
    refine lp_159a (i := 0) (D := D) hD hN N (by omega) (fun hy => ⟨rfl, 0, B 25, by rw [va_up_id], Or.inl ⟨if_pos hy, rfl⟩⟩) (fun hno => ?_)
    refine zj_iconst dk_159_62 ?_
    refine zj_istore_n dk_159_63 rfl ?_
    exact lp_159b hd hN N 0 _ _ [] (by omega) hD ⟨rfl, by decide, fun k w hk => by simp at hk⟩ (Nat.le_refl _) (fun x g hx => ⟨rfl, x, g, by rw [va_up_up], Or.inl ⟨(if_neg (fun hh => by have h9 : ((D.take N).drop 0).any (fun w => decide (w = [])) = true := hh; rw [hno] at h9; cases h9)).trans hx, rfl⟩⟩) (fun x g L hx hg => ⟨rfl, x, g, by rw [va_up_up], Or.inr ⟨L, (if_neg (fun hh => by have h9 : ((D.take N).drop 0).any (fun w => decide (w = [])) = true := hh; rw [hno] at h9; cases h9)).trans hx, rfl, hg⟩⟩)
  refine zi_aload_n dk_159_0 rfl rfl ?_
  refine zi_getf dk_159_1 fl_13_77 md_0 rfl ?_
  refine zj_iload_n dk_159_4 rfl ?_
  refine zj_iconst dk_159_5 ?_
  refine zj_isub dk_159_6 ?_
  refine md_iald (k := 23) (N := 41) dk_159_7 (by decide) rfl rfl (by omega) ?_
  refine zi_aload_n dk_159_8 rfl rfl ?_
  refine zi_getf dk_159_9 fl_13_80 md_0 rfl ?_
  refine zj_iload_n dk_159_12 rfl ?_
  refine zj_iconst dk_159_13 ?_
  refine zj_isub dk_159_14 ?_
  refine md_iald (k := 24) (N := 41) dk_159_15 (by decide) rfl rfl (by omega) ?_
  refine zj_icmp_ne (t := 25) dk_159_16 rfl (by omega) (fun c16 => ?_) (fun c16 => ?_)
  · skip
    refine zj_iload_n dk_159_25 rfl ?_
    refine zj_istore_n dk_159_26 rfl ?_
    exact key D.length (Nat.le_refl _) (by rw [if_neg (fun hh => by rw [hh] at f2; simp at f2; omega)])
  · skip
    refine zj_iload_n dk_159_19 rfl ?_
    refine zj_iconst dk_159_20 ?_
    refine zj_isub dk_159_21 ?_
    refine zi_goto (t := 26) dk_159_22 rfl ?_
    refine zj_istore_n dk_159_26 rfl ?_
    rw [show (D.length : Int) - 1 = ((D.length - 1 : Nat) : Int) by omega]
    exact key (D.length - 1) (by omega) (by rw [if_pos (List.length_eq_zero_iff.mp (by omega))])

