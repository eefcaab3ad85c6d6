/-! Tickets: lists of tickets, each with its address and its data (user, id, token, remembered, made, last used) -/
abbrev td : Type := Int × Int × Int × Int × Int × Int
def td_c (x : td) : va_E := .inr (9, [zv x.1, zv x.2.1, zv x.2.2.1, zv x.2.2.2.1, zv x.2.2.2.2.1, zv x.2.2.2.2.2])
def td_V (x : td) : Prop := (0 ≤ x.1 ∧ x.1 ≤ 5) ∧ (0 ≤ x.2.1 ∧ x.2.1 ≤ 1000000) ∧ (0 ≤ x.2.2.1 ∧ x.2.2.1 ≤ 1000000) ∧ (x.2.2.2.1 = 0 ∨ x.2.2.2.1 = 1) ∧ (0 ≤ x.2.2.2.2.1 ∧ x.2.2.2.2.1 ≤ 1000000) ∧ (0 ≤ x.2.2.2.2.2 ∧ x.2.2.2.2.2 ≤ 1000000)
def tk_F (X : zz_X) (h : zz_H) (al ea N : Nat) (f : Nat → Option Nat) (mc : Int) (T : List (Nat × td)) : Prop := h al = some (.inr (12, [.ref ea, zv (T.length : Int), zv mc])) ∧ ((h ea = some (zQ 3 N f) ∧ (N = 10 ∨ N = 15)) ∨ (ea = zz_e X ∧ N = 0 ∧ h ea = some (zQ 4 0 f))) ∧ T.length ≤ N ∧ (∀ (i : Nat) (p : Nat × td), T[i]? = some p → f i = some p.1 ∧ h p.1 = some (td_c p.2) ∧ td_V p.2) ∧ (∀ i w, f i = some w → zz_el h w)
def tk_P (X : zz_X) (h : zz_H) (al ea : Nat) (T : List (Nat × td)) : Prop := ∃ (N : Nat) (f : Nat → Option Nat) (mc : Int), tk_F X h al ea N f mc T
theorem tk_F.arr {X : zz_X} {h : zz_H} {al ea N : Nat} {f : Nat → Option Nat} {mc : Int} {T : List (Nat × td)} (P : tk_F X h al ea N f mc T) (hT : 0 < T.length) : h ea = some (zQ 3 N f) ∧ (N = 10 ∨ N = 15) := by
  obtain ⟨-, h2, h3, -⟩ := P
  rcases h2 with h2 | ⟨-, rfl, -⟩
  · exact h2
  · omega
theorem tk_ne {h : zz_H} {p al : Nat} {x : td} {fs : List Value} (h1 : h p = some (td_c x)) (h2 : h al = some (.inr (12, fs))) : p ≠ al := fun e => by
  unfold td_c at h1
  rw [e, h2] at h1
  cases h1
theorem tk_nq {h : zz_H} {p ea kd N : Nat} {x : td} {f : Nat → Option Nat} (h1 : h p = some (td_c x)) (h2 : h ea = some (zQ kd N f)) : p ≠ ea := zz_ne2 (x := (9, _)) h1 h2
/-- taking one out -/
theorem tk_rm {X : zz_X} {h : zz_H} {al ea N : Nat} {f f' : Nat → Option Nat} {mc : Int} {A B : List (Nat × td)} {p : Nat × td} (P : tk_F X h al ea N f mc (A ++ p :: B))
    (q1 : ∀ j : Nat, (j : Int) < (A.length : Int) → f' j = f j) (q2 : ∀ j : Nat, (A.length : Int) ≤ (j : Int) → (j : Int) < ((A ++ p :: B).length : Int) - 1 → f' j = f (j + 1)) (q3 : ∀ j w, f' j = some w → ∃ k, f k = some w) :
    tk_F X (zz_up (zz_up h ea (zQ 3 N f')) al (.inr (12, [.ref ea, zv (((A ++ p :: B).length : Int) - 1), zv (mc + 1)]))) al ea N f' (mc + 1) (A ++ B) := by
  have hlen : (A ++ p :: B).length = A.length + B.length + 1 := by simp; omega
  have hlen2 : (A ++ B).length = A.length + B.length := by simp
  obtain ⟨g1, g2⟩ := P.arr (by omega)
  obtain ⟨h1, h2, h3, h4, h5⟩ := P
  have hne := zz_ne2 h1 g1
  have keep : ∀ q : Nat × td, h q.1 = some (td_c q.2) → zz_up (zz_up h ea (zQ 3 N f')) al (.inr (12, [.ref ea, zv (((A ++ p :: B).length : Int) - 1), zv (mc + 1)])) q.1 = some (td_c q.2) := fun q hq => by
    rw [zz_up_ne (tk_ne hq h1), zz_up_ne (tk_nq hq g1)]
    exact hq
  refine ⟨?_, Or.inl ⟨by rw [zz_up_ne hne.symm]; exact zz_up_eq _ _ _, g2⟩, by omega, fun i q hi => ?_, fun i w hw => ?_⟩
  · rw [show ((A ++ B).length : Int) = ((A ++ p :: B).length : Int) - 1 by omega]
    exact zz_up_eq _ _ _
  · have hilt : i < (A ++ B).length := (List.getElem?_eq_some_iff.mp hi).1
    by_cases hlt : i < A.length
    · have e : (A ++ p :: B)[i]? = some q := by
        rw [List.getElem?_append_left hlt] at hi ⊢
        exact hi
      obtain ⟨a1, a2, a3⟩ := h4 i q e
      exact ⟨by rw [q1 i (by omega)]; exact a1, keep q a2, a3⟩
    · have e : (A ++ p :: B)[i + 1]? = some q := by
        rw [List.getElem?_append_right (by omega)] at hi ⊢
        rw [show i + 1 - A.length = (i - A.length) + 1 by omega, List.getElem?_cons_succ]
        exact hi
      obtain ⟨a1, a2, a3⟩ := h4 (i + 1) q e
      exact ⟨by rw [q2 i (by omega) (by omega)]; exact a1, keep q a2, a3⟩
  · obtain ⟨k, hk⟩ := q3 i w hw
    exact (zz_el.upq (h5 k w hk) g1).upo (zz_up_ne hne |>.trans h1)
theorem lp_81 {X : zz_X} {d n : Nat} {h : zz_H} (hd : 3 ≤ d) {tk al ea N : Nat} {f : Nat → Option Nat} {mc : Int} {T : List (Nat × td)} (e0 : h tk = some (.inr (10, [.ref al]))) (P : tk_F X h al ea N f mc T) {id : Int} (hid : -2147483648 ≤ id ∧ id < 2147483648) {Q : Option Value → Nat → zz_H → Prop} : ∀ (k i : Nat) (x3 : Option Value), i + k = T.length → Q (some (va_rf (((T.drop i).find? (fun p => decide (p.2.2.1 = id))).map Prod.fst))) n h →
    zz_Z X mm_81 d Q 0 0 2 [some (.ref tk), some (zv id), some (zv (i : Int)), x3] [] n h := by
  have hN : T.length ≤ 15 := by have := P.2.2.1; rcases P.2.1 with ⟨-, h | h⟩ | ⟨-, h, -⟩ <;> omega
  intro k
  induction k with
  | zero =>
    intro i x3 hk hQ
    rw [List.drop_eq_nil_of_le (by omega)] at hQ
    refine zj_iload_n dk_81_2 rfl ?_
    refine zi_aload_n dk_81_3 rfl rfl ?_
    refine zi_getf dk_81_4 fl_10_10 (by first | exact e0 | exact P.1 | exact a2) rfl ?_
    refine zi_invV dk_81_7 ml_10_16 iv_23 (ct_23 (d := d - 1) (N := 0) (f := fun _ => none) P.1) (by first | exact e0 | exact P.1 | exact a2) rfl rfl rfl (Nat.le_of_ble_eq_true rfl) (by omega) rfl rfl (fun r n' h' hq => ?_)
    obtain ⟨rfl, rfl, rfl⟩ := hq
    refine zj_icmp_ge (t := 41) dk_81_10 rfl (by omega) (fun c10 => ?_) (fun c10 => ?_)
    · skip
      refine zi_null dk_81_41 ?_
      refine zi_areturn dk_81_42 rfl (Or.inl ⟨_, rfl⟩) rfl hQ
    · omega
  | succ k ih =>
    intro i x3 hk hQ
    obtain ⟨g1, g2⟩ := P.arr (by omega)
    obtain ⟨a1, a2, a3⟩ := P.2.2.2.1 i T[i] (List.getElem?_eq_getElem (by omega))
    have hlP := P.2.2.1
    have hv := a3.2.1
    rw [List.drop_eq_getElem_cons (by omega), List.find?_cons] at hQ
    refine zj_iload_n dk_81_2 rfl ?_
    refine zi_aload_n dk_81_3 rfl rfl ?_
    refine zi_getf dk_81_4 fl_10_10 (by first | exact e0 | exact P.1 | exact a2) rfl ?_
    refine zi_invV dk_81_7 ml_10_16 iv_23 (ct_23 (d := d - 1) (N := 0) (f := fun _ => none) P.1) (by first | exact e0 | exact P.1 | exact a2) rfl rfl rfl (Nat.le_of_ble_eq_true rfl) (by omega) rfl rfl (fun r n' h' hq => ?_)
    obtain ⟨rfl, rfl, rfl⟩ := hq
    refine zj_icmp_ge (t := 41) dk_81_10 rfl (by omega) (fun c10 => ?_) (fun c10 => ?_)
    · omega
    · skip
      refine zi_aload_n dk_81_13 rfl rfl ?_
      refine zi_getf dk_81_14 fl_10_10 (by first | exact e0 | exact P.1 | exact a2) rfl ?_
      refine zj_iload_n dk_81_17 rfl ?_
      refine zi_invV dk_81_18 ml_10_20 iv_57 (ct_57 (d := d - 1) (by omega) P.1 g1 (i := (i : Int)) (by omega) (by rw [Int.toNat_natCast]; exact a1)) (by first | exact e0 | exact P.1 | exact a2) rfl rfl rfl (Nat.le_of_ble_eq_true rfl) (by omega) rfl rfl (fun r n' h' hq => ?_)
      obtain ⟨rfl, rfl, rfl⟩ := hq
      refine zi_castS dk_81_21 zw_514 a2 rfl ?_
      refine zi_astore_n dk_81_24 rfl rfl ?_
      refine zi_aload_n dk_81_25 rfl rfl ?_
      refine zi_getf dk_81_26 fl_10_26 (by first | exact e0 | exact P.1 | exact a2) rfl ?_
      refine zj_iload_n dk_81_29 rfl ?_
      refine zj_icmp_ne (t := 35) dk_81_30 rfl (by omega) (fun c30 => ?_) (fun c30 => ?_)
      · skip
        refine zj_iinc dk_81_35 rfl rfl ?_
        refine zi_goto (t := 2) dk_81_38 rfl ?_
        exact ih (i + 1) _ (by omega) (by rw [decide_eq_false c30] at hQ; exact hQ)
      · skip
        refine zi_aload_n dk_81_33 rfl rfl ?_
        refine zi_areturn dk_81_34 rfl (Or.inl ⟨_, rfl⟩) rfl (by rw [decide_eq_true c30] at hQ; exact hQ)

theorem ct_81 {X : zz_X} {d n : Nat} {h : zz_H} (hd : 3 ≤ d) {tk al ea : Nat} {T : List (Nat × td)} (e0 : h tk = some (.inr (10, [.ref al]))) (P : tk_P X h al ea T) {id : Int} (hid : -2147483648 ≤ id ∧ id < 2147483648) : zz_Ct X mm_81 d 0 0 [.ref tk, zv id] n h (zp (some (va_rf ((T.find? (fun p => decide (p.2.2.1 = id))).map Prod.fst))) n h) := by
  refine zz_start (by decide) (ls := [some (.ref tk), some (zv id), none, none]) rfl ?_
  obtain ⟨N, f, mc, P⟩ := P
  refine zj_iconst dk_81_0 ?_
  refine zj_istore_n dk_81_1 rfl ?_
  exact lp_81 hd e0 P hid T.length 0 none (by omega) ⟨rfl, rfl, rfl⟩

def tk_of (T : List (Nat × td)) (u pl : Int) : Option (Nat × td) := if 0 ≤ pl then (T.filter (fun p => decide (p.2.1 = u)))[pl.toNat]? else none
theorem lp_79 {X : zz_X} {d n : Nat} {h : zz_H} (hd : 3 ≤ d) {tk al ea N : Nat} {f : Nat → Option Nat} {mc : Int} {T : List (Nat × td)} (e0 : h tk = some (.inr (10, [.ref al]))) (P : tk_F X h al ea N f mc T) {u pl : Int} (hu : -2147483648 ≤ u ∧ u < 2147483648) (hpl : -2147483648 ≤ pl ∧ pl < 2147483648) {Q : Option Value → Nat → zz_H → Prop} : ∀ (k i : Nat) (b : Int) (x5 : Option Value), i + k = T.length → (0 ≤ b ∧ b ≤ i) → Q (some (va_rf ((tk_of (T.drop i) u (pl - b)).map Prod.fst))) n h →
    zz_Z X mm_79 d Q 0 0 5 [some (.ref tk), some (zv u), some (zv pl), some (zv b), some (zv (i : Int)), x5] [] n h := by
  have hN : T.length ≤ 15 := by have := P.2.2.1; rcases P.2.1 with ⟨-, h | h⟩ | ⟨-, h, -⟩ <;> omega
  intro k
  induction k with
  | zero =>
    intro i b x5 hk hb hQ
    rw [List.drop_eq_nil_of_le (by omega)] at hQ
    have e : tk_of [] u (pl - b) = none := by unfold tk_of; split <;> simp
    rw [e] at hQ
    refine zj_iload dk_79_5 rfl ?_
    refine zi_aload_n dk_79_7 rfl rfl ?_
    refine zi_getf dk_79_8 fl_10_10 (by first | exact e0 | exact P.1 | exact a2) rfl ?_
    refine zi_invV dk_79_11 ml_10_16 iv_23 (ct_23 (d := d - 1) (N := 0) (f := fun _ => none) P.1) (by first | exact e0 | exact P.1 | exact a2) rfl rfl rfl (Nat.le_of_ble_eq_true rfl) (by omega) rfl rfl (fun r n' h' hq => ?_)
    obtain ⟨rfl, rfl, rfl⟩ := hq
    refine zj_icmp_ge (t := 57) dk_79_14 rfl (by omega) (fun c14 => ?_) (fun c14 => ?_)
    · skip
      refine zi_null dk_79_57 ?_
      refine zi_areturn dk_79_58 rfl (Or.inl ⟨_, rfl⟩) rfl hQ
    · omega
  | succ k ih =>
    intro i b x5 hk hb hQ
    obtain ⟨g1, g2⟩ := P.arr (by omega)
    obtain ⟨a1, a2, a3⟩ := P.2.2.2.1 i T[i] (List.getElem?_eq_getElem (by omega))
    have hlP := P.2.2.1
    have hv := a3.1
    rw [List.drop_eq_getElem_cons (by omega)] at hQ
    refine zj_iload dk_79_5 rfl ?_
    refine zi_aload_n dk_79_7 rfl rfl ?_
    refine zi_getf dk_79_8 fl_10_10 (by first | exact e0 | exact P.1 | exact a2) rfl ?_
    refine zi_invV dk_79_11 ml_10_16 iv_23 (ct_23 (d := d - 1) (N := 0) (f := fun _ => none) P.1) (by first | exact e0 | exact P.1 | exact a2) rfl rfl rfl (Nat.le_of_ble_eq_true rfl) (by omega) rfl rfl (fun r n' h' hq => ?_)
    obtain ⟨rfl, rfl, rfl⟩ := hq
    refine zj_icmp_ge (t := 57) dk_79_14 rfl (by omega) (fun c14 => ?_) (fun c14 => ?_)
    · omega
    · skip
      refine zi_aload_n dk_79_17 rfl rfl ?_
      refine zi_getf dk_79_18 fl_10_10 (by first | exact e0 | exact P.1 | exact a2) rfl ?_
      refine zj_iload dk_79_21 rfl ?_
      refine zi_invV dk_79_23 ml_10_20 iv_57 (ct_57 (d := d - 1) (by omega) P.1 g1 (i := (i : Int)) (by omega) (by rw [Int.toNat_natCast]; exact a1)) (by first | exact e0 | exact P.1 | exact a2) rfl rfl rfl (Nat.le_of_ble_eq_true rfl) (by omega) rfl rfl (fun r n' h' hq => ?_)
      obtain ⟨rfl, rfl, rfl⟩ := hq
      refine zi_castS dk_79_26 zw_514 a2 rfl ?_
      refine zi_astore dk_79_29 rfl rfl ?_
      refine zi_aload dk_79_31 rfl rfl ?_
      refine zi_getf dk_79_33 fl_10_30 (by first | exact e0 | exact P.1 | exact a2) rfl ?_
      refine zj_iload_n dk_79_36 rfl ?_
      refine zj_icmp_ne (t := 51) dk_79_37 rfl (by omega) (fun c37 => ?_) (fun c37 => ?_)
      · skip
        refine zj_iinc dk_79_51 rfl rfl ?_
        refine zi_goto (t := 5) dk_79_54 rfl ?_
        exact ih (i + 1) b _ (by omega) (by omega) (by unfold tk_of at hQ ⊢; simp only [List.filter_cons, decide_eq_false c37, Bool.false_eq_true, ↓reduceIte] at hQ; exact hQ)
      · skip
        refine zj_iload_n dk_79_40 rfl ?_
        refine zj_iload_n dk_79_41 rfl ?_
        refine zj_icmp_ne (t := 48) dk_79_42 rfl (by omega) (fun c42 => ?_) (fun c42 => ?_)
        · skip
          refine zj_iinc dk_79_48 rfl rfl ?_
          refine zj_iinc dk_79_51 rfl rfl ?_
          refine zi_goto (t := 5) dk_79_54 rfl ?_
          refine ih (i + 1) (b + 1) _ (by omega) (by omega) ?_
          unfold tk_of at hQ ⊢
          rw [List.filter_cons, decide_eq_true c37, if_pos rfl] at hQ
          by_cases hp : 0 ≤ pl - b
          · rw [if_pos hp, show (pl - b).toNat = (pl - (b + 1)).toNat + 1 by omega, List.getElem?_cons_succ] at hQ
            rw [if_pos (by omega)]
            exact hQ
          · rw [if_neg hp] at hQ
            rw [if_neg (by omega)]
            exact hQ
        · skip
          refine zi_aload dk_79_45 rfl rfl ?_
          refine zi_areturn dk_79_47 rfl (Or.inl ⟨_, rfl⟩) rfl (by unfold tk_of at hQ; rw [List.filter_cons, decide_eq_true c37, if_pos rfl, show pl - b = 0 by omega] at hQ; exact hQ)

theorem ct_79 {X : zz_X} {d n : Nat} {h : zz_H} (hd : 3 ≤ d) {tk al ea : Nat} {T : List (Nat × td)} (e0 : h tk = some (.inr (10, [.ref al]))) (P : tk_P X h al ea T) {u pl : Int} (hu : -2147483648 ≤ u ∧ u < 2147483648) (hpl : -2147483648 ≤ pl ∧ pl < 2147483648) : zz_Ct X mm_79 d 0 0 [.ref tk, zv u, zv pl] n h (zp (some (va_rf ((tk_of T u pl).map Prod.fst))) n h) := by
  refine zz_start (by decide) (ls := [some (.ref tk), some (zv u), some (zv pl), none, none, none]) rfl ?_
  obtain ⟨N, f, mc, P⟩ := P
  refine zj_iconst dk_79_0 ?_
  refine zj_istore_n dk_79_1 rfl ?_
  refine zj_iconst dk_79_2 ?_
  refine zj_istore dk_79_3 rfl ?_
  exact lp_79 hd e0 P hu hpl T.length 0 0 none (by omega) (by omega) ⟨by rw [show pl - 0 = pl by omega]; rfl, rfl, rfl⟩

theorem lp_75 {X : zz_X} {d n : Nat} {h0 : zz_H} (hd : 4 ≤ d) {tk al ea : Nat} (e00 : h0 tk = some (.inr (10, [.ref al]))) (n1 : tk ≠ ea ∧ tk ≠ al) {x : Int} (hx : -2147483648 ≤ x ∧ x < 2147483648) {Q : Option Value → Nat → zz_H → Prop} : ∀ (k : Nat) (h : zz_H) (A B : List (Nat × td)), A.length = k → tk_P X h al ea (A ++ B) → (∀ a, a ≠ al → (a ≠ ea ∨ ∃ f, h0 a = some (zQ 4 0 f)) → h a = h0 a) → (∀ h', tk_P X h' al ea (A.filter (fun p => decide (¬ (p.2.2.1 = x))) ++ B) → (∀ a, a ≠ al → (a ≠ ea ∨ ∃ f, h0 a = some (zQ 4 0 f)) → h' a = h0 a) → Q none n h') →
    zz_Z X mm_75 d Q 0 0 10 [some (.ref tk), some (zv x), some (zv ((k : Int) - 1))] [] n h := by
  intro k
  induction k with
  | zero =>
    intro h A B hA P hfr hQ
    have hA0 : A = [] := List.length_eq_zero_iff.mp hA
    subst hA0
    refine zj_iload_n dk_75_10 rfl ?_
    refine zj_if_lt (t := 47) dk_75_11 rfl (by omega) (fun c11 => ?_) (fun c11 => ?_)
    · skip
      refine zi_return dk_75_47 rfl (hQ h P hfr)
    · omega
  | succ k ih =>
    intro h A' B hA P hfr hQ
    obtain ⟨A, p, rfl⟩ : ∃ A p, A' = A ++ [p] := ⟨A'.dropLast, A'.getLast (by intro e; rw [e] at hA; simp at hA), (List.dropLast_concat_getLast _).symm⟩
    have hk : A.length = k := by simp at hA; exact hA
    subst hk
    rw [List.append_assoc, List.singleton_append] at P
    obtain ⟨N, f, mc, P⟩ := P
    have hlen : (A ++ p :: B).length = A.length + B.length + 1 := by simp; omega
    obtain ⟨g1, g2⟩ := P.arr (by omega)
    have hlP := P.2.2.1
    obtain ⟨a1, a2, a3⟩ := P.2.2.2.1 A.length p (by rw [List.getElem?_append_right (Nat.le_refl _), Nat.sub_self]; rfl)
    have hv := a3.2.1
    have e0 : h tk = some (.inr (10, [.ref al])) := (hfr tk n1.2 (Or.inl n1.1)).trans e00
    have e1 : ((A.length + 1 : Nat) : Int) - 1 = (A.length : Int) := by omega
    have e2 : ((A.length : Nat) : Int) + -1 = (A.length : Int) - 1 := by omega
    rw [List.filter_append] at hQ
    rw [e1]
    refine zj_iload_n dk_75_10 rfl ?_
    refine zj_if_lt (t := 47) dk_75_11 rfl (by omega) (fun c11 => ?_) (fun c11 => ?_)
    · omega
    · skip
      refine zi_aload_n dk_75_14 rfl rfl ?_
      refine zi_getf dk_75_15 fl_10_10 (by first | exact e0 | exact P.1 | exact a2) rfl ?_
      refine zj_iload_n dk_75_18 rfl ?_
      refine zi_invV dk_75_19 ml_10_20 iv_57 (ct_57 (d := d - 1) (by omega) P.1 g1 (i := ((A.length : Nat) : Int)) (by omega) (by rw [Int.toNat_natCast]; exact a1)) (by first | exact e0 | exact P.1 | exact a2) rfl rfl rfl (Nat.le_of_ble_eq_true rfl) (by omega) rfl rfl (fun r n' h' hq => ?_)
      obtain ⟨rfl, rfl, rfl⟩ := hq
      refine zi_castS dk_75_22 zw_514 a2 rfl ?_
      refine zi_getf dk_75_25 fl_10_26 (by first | exact e0 | exact P.1 | exact a2) rfl ?_
      refine zj_iload_n dk_75_28 rfl ?_
      refine zj_icmp_ne (t := 41) dk_75_29 rfl (by omega) (fun c29 => ?_) (fun c29 => ?_)
      · skip
        refine zj_iinc dk_75_41 rfl rfl ?_
        refine zi_goto (t := 10) dk_75_44 rfl ?_
        rw [e2]
        refine ih _ A (p :: B) rfl ⟨N, f, mc, P⟩ hfr (fun h' P' hf' => hQ h' ?_ hf')
        rw [List.filter_cons, decide_eq_true c29, if_pos rfl, List.filter_nil, List.append_assoc]
        exact P'
      · skip
        refine zi_aload_n dk_75_32 rfl rfl ?_
        refine zi_getf dk_75_33 fl_10_10 (by first | exact e0 | exact P.1 | exact a2) rfl ?_
        refine zj_iload_n dk_75_36 rfl ?_
        refine zi_invV dk_75_37 ml_10_48 iv_65 (ct_65 (d := d - 1) (by omega) P.1 g1 g2 (i := ((A.length : Nat) : Int)) (by omega) P.2.2.2.2 (by rw [Int.toNat_natCast]; exact a1)) (by first | exact e0 | exact P.1 | exact a2) rfl rfl rfl (Nat.le_of_ble_eq_true rfl) (by omega) rfl rfl (fun r n' h' hq => ?_)
        obtain ⟨rfl, f', q1, q2, q3, rfl, rfl⟩ := hq
        have P2 := tk_rm P q1 q2 q3
        refine zi_pop dk_75_40 rfl ?_
        refine zj_iinc dk_75_41 rfl rfl ?_
        refine zi_goto (t := 10) dk_75_44 rfl ?_
        rw [e2]
        refine ih _ A B rfl ⟨N, f', mc + 1, P2⟩ (fun a h2 h1 => by have hx := hfr a h2 h1; rw [zz_up_ne h2, zz_up_ne (zq_ne g1 (by rw [hx]; exact h1))]; exact hx) (fun h' P' hf' => hQ h' ?_ hf')
        rw [List.filter_cons, decide_eq_false (fun hx2 => hx2 c29), if_neg (by decide), List.filter_nil, List.append_nil]
        exact P'

theorem ct_75 {X : zz_X} {d n : Nat} {h : zz_H} (hd : 4 ≤ d) {tk al ea : Nat} {T : List (Nat × td)} (e0 : h tk = some (.inr (10, [.ref al]))) (P : tk_P X h al ea T) (n1 : tk ≠ ea ∧ tk ≠ al) {x : Int} (hx : -2147483648 ≤ x ∧ x < 2147483648) : zz_Ct X mm_75 d 0 0 [.ref tk, zv x] n h (fun r n' h' => r = none ∧ n' = n ∧ tk_P X h' al ea (T.filter (fun p => decide (¬ (p.2.2.1 = x)))) ∧ ∀ a, a ≠ al → (a ≠ ea ∨ ∃ f, h a = some (zQ 4 0 f)) → h' a = h a) := by
  refine zz_start (by decide) (ls := [some (.ref tk), some (zv x), none]) rfl ?_
  obtain ⟨N, f, mc, PF⟩ := id P
  refine zi_aload_n dk_75_0 rfl rfl ?_
  refine zi_getf dk_75_1 fl_10_10 (by first | assumption | exact zz_up_eq _ _ _ | omega | exact Ne.symm (by assumption) | (refine (zz_up_ne ?_).trans ?_ <;> first | assumption | exact zz_up_eq _ _ _ | omega | exact Ne.symm (by assumption) | (refine (zz_up_ne ?_).trans ?_ <;> first | assumption | exact zz_up_eq _ _ _ | omega | exact Ne.symm (by assumption) | (refine (zz_up_ne ?_).trans ?_ <;> first | assumption | exact zz_up_eq _ _ _ | omega | exact Ne.symm (by assumption))))) rfl ?_
  refine zi_invV dk_75_4 ml_10_16 iv_23 (ct_23 (d := d - 1) (N := 0) (f := fun _ => none) PF.1) PF.1 rfl rfl rfl (Nat.le_of_ble_eq_true rfl) (by omega) rfl rfl (fun r n' h' hq => ?_)
  obtain ⟨rfl, rfl, rfl⟩ := hq
  refine zj_iconst dk_75_7 ?_
  refine zj_isub dk_75_8 ?_
  refine zj_istore_n dk_75_9 rfl ?_
  exact lp_75 hd e0 n1 hx T.length _ T [] rfl (by rw [List.append_nil]; exact P) (fun a _ _ => rfl) (fun h2 P2 hf2 => ⟨rfl, rfl, by rw [List.append_nil] at P2; exact P2, hf2⟩)

theorem lp_82 {X : zz_X} {d n : Nat} {h0 : zz_H} (hd : 4 ≤ d) {tk al ea : Nat} (e00 : h0 tk = some (.inr (10, [.ref al]))) (n1 : tk ≠ ea ∧ tk ≠ al) {x : Int} (hx : -2147483648 ≤ x ∧ x < 2147483648) {Q : Option Value → Nat → zz_H → Prop} : ∀ (k : Nat) (h : zz_H) (A B : List (Nat × td)), A.length = k → tk_P X h al ea (A ++ B) → (∀ a, a ≠ al → (a ≠ ea ∨ ∃ f, h0 a = some (zQ 4 0 f)) → h a = h0 a) → (∀ h', tk_P X h' al ea (A.filter (fun p => decide (¬ (p.2.1 = x))) ++ B) → (∀ a, a ≠ al → (a ≠ ea ∨ ∃ f, h0 a = some (zQ 4 0 f)) → h' a = h0 a) → Q none n h') →
    zz_Z X mm_82 d Q 0 0 10 [some (.ref tk), some (zv x), some (zv ((k : Int) - 1))] [] n h := by
  intro k
  induction k with
  | zero =>
    intro h A B hA P hfr hQ
    have hA0 : A = [] := List.length_eq_zero_iff.mp hA
    subst hA0
    refine zj_iload_n dk_82_10 rfl ?_
    refine zj_if_lt (t := 47) dk_82_11 rfl (by omega) (fun c11 => ?_) (fun c11 => ?_)
    · skip
      refine zi_return dk_82_47 rfl (hQ h P hfr)
    · omega
  | succ k ih =>
    intro h A' B hA P hfr hQ
    obtain ⟨A, p, rfl⟩ : ∃ A p, A' = A ++ [p] := ⟨A'.dropLast, A'.getLast (by intro e; rw [e] at hA; simp at hA), (List.dropLast_concat_getLast _).symm⟩
    have hk : A.length = k := by simp at hA; exact hA
    subst hk
    rw [List.append_assoc, List.singleton_append] at P
    obtain ⟨N, f, mc, P⟩ := P
    have hlen : (A ++ p :: B).length = A.length + B.length + 1 := by simp; omega
    obtain ⟨g1, g2⟩ := P.arr (by omega)
    have hlP := P.2.2.1
    obtain ⟨a1, a2, a3⟩ := P.2.2.2.1 A.length p (by rw [List.getElem?_append_right (Nat.le_refl _), Nat.sub_self]; rfl)
    have hv := a3.1
    have e0 : h tk = some (.inr (10, [.ref al])) := (hfr tk n1.2 (Or.inl n1.1)).trans e00
    have e1 : ((A.length + 1 : Nat) : Int) - 1 = (A.length : Int) := by omega
    have e2 : ((A.length : Nat) : Int) + -1 = (A.length : Int) - 1 := by omega
    rw [List.filter_append] at hQ
    rw [e1]
    refine zj_iload_n dk_82_10 rfl ?_
    refine zj_if_lt (t := 47) dk_82_11 rfl (by omega) (fun c11 => ?_) (fun c11 => ?_)
    · omega
    · skip
      refine zi_aload_n dk_82_14 rfl rfl ?_
      refine zi_getf dk_82_15 fl_10_10 (by first | exact e0 | exact P.1 | exact a2) rfl ?_
      refine zj_iload_n dk_82_18 rfl ?_
      refine zi_invV dk_82_19 ml_10_20 iv_57 (ct_57 (d := d - 1) (by omega) P.1 g1 (i := ((A.length : Nat) : Int)) (by omega) (by rw [Int.toNat_natCast]; exact a1)) (by first | exact e0 | exact P.1 | exact a2) rfl rfl rfl (Nat.le_of_ble_eq_true rfl) (by omega) rfl rfl (fun r n' h' hq => ?_)
      obtain ⟨rfl, rfl, rfl⟩ := hq
      refine zi_castS dk_82_22 zw_514 a2 rfl ?_
      refine zi_getf dk_82_25 fl_10_30 (by first | exact e0 | exact P.1 | exact a2) rfl ?_
      refine zj_iload_n dk_82_28 rfl ?_
      refine zj_icmp_ne (t := 41) dk_82_29 rfl (by omega) (fun c29 => ?_) (fun c29 => ?_)
      · skip
        refine zj_iinc dk_82_41 rfl rfl ?_
        refine zi_goto (t := 10) dk_82_44 rfl ?_
        rw [e2]
        refine ih _ A (p :: B) rfl ⟨N, f, mc, P⟩ hfr (fun h' P' hf' => hQ h' ?_ hf')
        rw [List.filter_cons, decide_eq_true c29, if_pos rfl, List.filter_nil, List.append_assoc]
        exact P'
      · skip
        refine zi_aload_n dk_82_32 rfl rfl ?_
        refine zi_getf dk_82_33 fl_10_10 (by first | exact e0 | exact P.1 | exact a2) rfl ?_
        refine zj_iload_n dk_82_36 rfl ?_
        refine zi_invV dk_82_37 ml_10_48 iv_65 (ct_65 (d := d - 1) (by omega) P.1 g1 g2 (i := ((A.length : Nat) : Int)) (by omega) P.2.2.2.2 (by rw [Int.toNat_natCast]; exact a1)) (by first | exact e0 | exact P.1 | exact a2) rfl rfl rfl (Nat.le_of_ble_eq_true rfl) (by omega) rfl rfl (fun r n' h' hq => ?_)
        obtain ⟨rfl, f', q1, q2, q3, rfl, rfl⟩ := hq
        have P2 := tk_rm P q1 q2 q3
        refine zi_pop dk_82_40 rfl ?_
        refine zj_iinc dk_82_41 rfl rfl ?_
        refine zi_goto (t := 10) dk_82_44 rfl ?_
        rw [e2]
        refine ih _ A B rfl ⟨N, f', mc + 1, P2⟩ (fun a h2 h1 => by have hx := hfr a h2 h1; rw [zz_up_ne h2, zz_up_ne (zq_ne g1 (by rw [hx]; exact h1))]; exact hx) (fun h' P' hf' => hQ h' ?_ hf')
        rw [List.filter_cons, decide_eq_false (fun hx2 => hx2 c29), if_neg (by decide), List.filter_nil, List.append_nil]
        exact P'

theorem ct_82 {X : zz_X} {d n : Nat} {h : zz_H} (hd : 4 ≤ d) {tk al ea : Nat} {T : List (Nat × td)} (e0 : h tk = some (.inr (10, [.ref al]))) (P : tk_P X h al ea T) (n1 : tk ≠ ea ∧ tk ≠ al) {x : Int} (hx : -2147483648 ≤ x ∧ x < 2147483648) : zz_Ct X mm_82 d 0 0 [.ref tk, zv x] n h (fun r n' h' => r = none ∧ n' = n ∧ tk_P X h' al ea (T.filter (fun p => decide (¬ (p.2.1 = x)))) ∧ ∀ a, a ≠ al → (a ≠ ea ∨ ∃ f, h a = some (zQ 4 0 f)) → h' a = h a) := by
  refine zz_start (by decide) (ls := [some (.ref tk), some (zv x), none]) rfl ?_
  obtain ⟨N, f, mc, PF⟩ := id P
  refine zi_aload_n dk_82_0 rfl rfl ?_
  refine zi_getf dk_82_1 fl_10_10 (by first | assumption | exact zz_up_eq _ _ _ | omega | exact Ne.symm (by assumption) | (refine (zz_up_ne ?_).trans ?_ <;> first | assumption | exact zz_up_eq _ _ _ | omega | exact Ne.symm (by assumption) | (refine (zz_up_ne ?_).trans ?_ <;> first | assumption | exact zz_up_eq _ _ _ | omega | exact Ne.symm (by assumption) | (refine (zz_up_ne ?_).trans ?_ <;> first | assumption | exact zz_up_eq _ _ _ | omega | exact Ne.symm (by assumption))))) rfl ?_
  refine zi_invV dk_82_4 ml_10_16 iv_23 (ct_23 (d := d - 1) (N := 0) (f := fun _ => none) PF.1) PF.1 rfl rfl rfl (Nat.le_of_ble_eq_true rfl) (by omega) rfl rfl (fun r n' h' hq => ?_)
  obtain ⟨rfl, rfl, rfl⟩ := hq
  refine zj_iconst dk_82_7 ?_
  refine zj_isub dk_82_8 ?_
  refine zj_istore_n dk_82_9 rfl ?_
  exact lp_82 hd e0 n1 hx T.length _ T [] rfl (by rw [List.append_nil]; exact P) (fun a _ _ => rfl) (fun h2 P2 hf2 => ⟨rfl, rfl, by rw [List.append_nil] at P2; exact P2, hf2⟩)

theorem lp_63 {X : zz_X} {d n : Nat} {h0 : zz_H} (hd : 4 ≤ d) {tk al ea : Nat} (e00 : h0 tk = some (.inr (10, [.ref al]))) (n1 : tk ≠ ea ∧ tk ≠ al) {x : Int} (hx : 0 ≤ x ∧ x ≤ 1000000) {Q : Option Value → Nat → zz_H → Prop} : ∀ (k : Nat) (h : zz_H) (A B : List (Nat × td)), A.length = k → tk_P X h al ea (A ++ B) → (∀ a, a ≠ al → (a ≠ ea ∨ ∃ f, h0 a = some (zQ 4 0 f)) → h a = h0 a) → (∀ h', tk_P X h' al ea (A.filter (fun p => decide (¬ (60 < x - p.2.2.2.2.2.1 ∨ 20 < x - p.2.2.2.2.2.2))) ++ B) → (∀ a, a ≠ al → (a ≠ ea ∨ ∃ f, h0 a = some (zQ 4 0 f)) → h' a = h0 a) → Q none n h') →
    zz_Z X mm_63 d Q 0 0 10 [some (.ref tk), some (zv x), some (zv ((k : Int) - 1))] [] n h := by
  intro k
  induction k with
  | zero =>
    intro h A B hA P hfr hQ
    have hA0 : A = [] := List.length_eq_zero_iff.mp hA
    subst hA0
    refine zj_iload_n dk_63_10 rfl ?_
    refine zj_if_lt (t := 47) dk_63_11 rfl (by omega) (fun c11 => ?_) (fun c11 => ?_)
    · skip
      refine zi_return dk_63_47 rfl (hQ h P hfr)
    · omega
  | succ k ih =>
    intro h A' B hA P hfr hQ
    obtain ⟨A, p, rfl⟩ : ∃ A p, A' = A ++ [p] := ⟨A'.dropLast, A'.getLast (by intro e; rw [e] at hA; simp at hA), (List.dropLast_concat_getLast _).symm⟩
    have hk : A.length = k := by simp at hA; exact hA
    subst hk
    rw [List.append_assoc, List.singleton_append] at P
    obtain ⟨N, f, mc, P⟩ := P
    have hlen : (A ++ p :: B).length = A.length + B.length + 1 := by simp; omega
    obtain ⟨g1, g2⟩ := P.arr (by omega)
    have hlP := P.2.2.1
    obtain ⟨a1, a2, a3⟩ := P.2.2.2.1 A.length p (by rw [List.getElem?_append_right (Nat.le_refl _), Nat.sub_self]; rfl)
    have hv := a3.2.2.2.2
    have e0 : h tk = some (.inr (10, [.ref al])) := (hfr tk n1.2 (Or.inl n1.1)).trans e00
    have e1 : ((A.length + 1 : Nat) : Int) - 1 = (A.length : Int) := by omega
    have e2 : ((A.length : Nat) : Int) + -1 = (A.length : Int) - 1 := by omega
    rw [List.filter_append] at hQ
    rw [e1]
    refine zj_iload_n dk_63_10 rfl ?_
    refine zj_if_lt (t := 47) dk_63_11 rfl (by omega) (fun c11 => ?_) (fun c11 => ?_)
    · omega
    · skip
      refine zi_aload_n dk_63_14 rfl rfl ?_
      refine zi_getf dk_63_15 fl_10_10 (by first | exact e0 | exact P.1 | exact a2) rfl ?_
      refine zj_iload_n dk_63_18 rfl ?_
      refine zi_invV dk_63_19 ml_10_20 iv_57 (ct_57 (d := d - 1) (by omega) P.1 g1 (i := ((A.length : Nat) : Int)) (by omega) (by rw [Int.toNat_natCast]; exact a1)) (by first | exact e0 | exact P.1 | exact a2) rfl rfl rfl (Nat.le_of_ble_eq_true rfl) (by omega) rfl rfl (fun r n' h' hq => ?_)
      obtain ⟨rfl, rfl, rfl⟩ := hq
      refine zi_castS dk_63_22 zw_514 a2 rfl ?_
      refine zj_iload_n dk_63_25 rfl ?_
      refine zi_invV dk_63_26 ml_10_51 iv_64 (ct_64 (d := d - 1) a2 (by omega)) (by first | exact e0 | exact P.1 | exact a2) rfl rfl rfl (Nat.le_of_ble_eq_true rfl) (by omega) rfl rfl (fun r n' h' hq => ?_)
      obtain ⟨rfl, rfl, rfl⟩ := hq
      refine zj_if_eq (t := 41) dk_63_29 rfl (by split <;> omega) (fun c29 => ?_) (fun c29 => ?_)
      · skip
        refine zj_iinc dk_63_41 rfl rfl ?_
        refine zi_goto (t := 10) dk_63_44 rfl ?_
        rw [e2]
        refine ih _ A (p :: B) rfl ⟨N, f, mc, P⟩ hfr (fun h' P' hf' => hQ h' ?_ hf')
        rw [List.filter_cons, decide_eq_true (show ¬ (60 < x - p.2.2.2.2.2.1 ∨ 20 < x - p.2.2.2.2.2.2) from fun hx2 => by rw [if_pos hx2] at c29; omega), if_pos rfl, List.filter_nil, List.append_assoc]
        exact P'
      · skip
        refine zi_aload_n dk_63_32 rfl rfl ?_
        refine zi_getf dk_63_33 fl_10_10 (by first | exact e0 | exact P.1 | exact a2) rfl ?_
        refine zj_iload_n dk_63_36 rfl ?_
        refine zi_invV dk_63_37 ml_10_48 iv_65 (ct_65 (d := d - 1) (by omega) P.1 g1 g2 (i := ((A.length : Nat) : Int)) (by omega) P.2.2.2.2 (by rw [Int.toNat_natCast]; exact a1)) (by first | exact e0 | exact P.1 | exact a2) rfl rfl rfl (Nat.le_of_ble_eq_true rfl) (by omega) rfl rfl (fun r n' h' hq => ?_)
        obtain ⟨rfl, f', q1, q2, q3, rfl, rfl⟩ := hq
        have P2 := tk_rm P q1 q2 q3
        refine zi_pop dk_63_40 rfl ?_
        refine zj_iinc dk_63_41 rfl rfl ?_
        refine zi_goto (t := 10) dk_63_44 rfl ?_
        rw [e2]
        refine ih _ A B rfl ⟨N, f', mc + 1, P2⟩ (fun a h2 h1 => by have hx := hfr a h2 h1; rw [zz_up_ne h2, zz_up_ne (zq_ne g1 (by rw [hx]; exact h1))]; exact hx) (fun h' P' hf' => hQ h' ?_ hf')
        rw [List.filter_cons, decide_eq_false (fun hx2 => by rw [if_neg hx2] at c29; exact c29 rfl), if_neg (by decide), List.filter_nil, List.append_nil]
        exact P'

theorem ct_63 {X : zz_X} {d n : Nat} {h : zz_H} (hd : 4 ≤ d) {tk al ea : Nat} {T : List (Nat × td)} (e0 : h tk = some (.inr (10, [.ref al]))) (P : tk_P X h al ea T) (n1 : tk ≠ ea ∧ tk ≠ al) {x : Int} (hx : 0 ≤ x ∧ x ≤ 1000000) : zz_Ct X mm_63 d 0 0 [.ref tk, zv x] n h (fun r n' h' => r = none ∧ n' = n ∧ tk_P X h' al ea (T.filter (fun p => decide (¬ (60 < x - p.2.2.2.2.2.1 ∨ 20 < x - p.2.2.2.2.2.2)))) ∧ ∀ a, a ≠ al → (a ≠ ea ∨ ∃ f, h a = some (zQ 4 0 f)) → h' a = h a) := by
  refine zz_start (by decide) (ls := [some (.ref tk), some (zv x), none]) rfl ?_
  obtain ⟨N, f, mc, PF⟩ := id P
  refine zi_aload_n dk_63_0 rfl rfl ?_
  refine zi_getf dk_63_1 fl_10_10 (by first | assumption | exact zz_up_eq _ _ _ | omega | exact Ne.symm (by assumption) | (refine (zz_up_ne ?_).trans ?_ <;> first | assumption | exact zz_up_eq _ _ _ | omega | exact Ne.symm (by assumption) | (refine (zz_up_ne ?_).trans ?_ <;> first | assumption | exact zz_up_eq _ _ _ | omega | exact Ne.symm (by assumption) | (refine (zz_up_ne ?_).trans ?_ <;> first | assumption | exact zz_up_eq _ _ _ | omega | exact Ne.symm (by assumption))))) rfl ?_
  refine zi_invV dk_63_4 ml_10_16 iv_23 (ct_23 (d := d - 1) (N := 0) (f := fun _ => none) PF.1) PF.1 rfl rfl rfl (Nat.le_of_ble_eq_true rfl) (by omega) rfl rfl (fun r n' h' hq => ?_)
  obtain ⟨rfl, rfl, rfl⟩ := hq
  refine zj_iconst dk_63_7 ?_
  refine zj_isub dk_63_8 ?_
  refine zj_istore_n dk_63_9 rfl ?_
  exact lp_63 hd e0 n1 hx T.length _ T [] rfl (by rw [List.append_nil]; exact P) (fun a _ _ => rfl) (fun h2 P2 hf2 => ⟨rfl, rfl, by rw [List.append_nil] at P2; exact P2, hf2⟩)

