/-! Layer: covers, layOnOne, canLay -/
def pc_F (h : zz_H) (p : Nat) (ch st en : Int → Int) (bg wr sz : Int) : Prop := h p = some (.inr (2, [.ref (p + 1), .ref (p + 2), .ref (p + 3), zv bg, zv wr, zv sz])) ∧ h (p + 1) = some (zA 1 40 ch) ∧ h (p + 2) = some (zA 0 20 st) ∧ h (p + 3) = some (zA 0 20 en)
def pc_L (ch st en : Int → Int) (sz : Int) (L : List (List Int)) : Prop := sz = (L.length : Int) ∧ pr_R ch st en 40 L ∧ ch_ok ch ∧ L.length ≤ 20
theorem zS_get (g : Int → Int) : ∀ (k : Nat) (a : Int) (i : Nat), i < k → (zS g k a).getD i 0 = g (a + i)
  | 0, _, _, h => absurd h (Nat.not_lt_zero _)
  | k + 1, a, 0, _ => by
    show g a = g (a + ((0 : Nat) : Int))
    congr 1; omega
  | k + 1, a, i + 1, h => by
    show (zS g k (a + 1)).getD i 0 = _
    rw [zS_get g k (a + 1) i (by omega)]
    congr 1; omega
section PL
variable {ch st en : Int → Int} {sz : Int} {L : List (List Int)}
theorem pc_L.get (h : pc_L ch st en sz L) {k : Nat} (hk : k < L.length) : 0 ≤ st k ∧ en k = st k + (L.getD k []).length ∧ en k ≤ 40 ∧ zS ch (L.getD k []).length (st k) = L.getD k [] := by
  have e : L[k]? = some (L.getD k []) := by rw [List.getD_eq_getElem?_getD, List.getElem?_eq_getElem hk]; rfl
  exact h.2.1 k _ e
theorem pc_L.ok (h : pc_L ch st en sz L) : pc_ok ch st en sz := by
  obtain ⟨h1, h2, h3, h4⟩ := h
  refine ⟨by omega, fun k hk1 hk2 => ?_, h3⟩
  obtain ⟨j, rfl⟩ : ∃ j : Nat, k = (j : Int) := ⟨k.toNat, by omega⟩
  obtain ⟨a1, a2, a3, -⟩ := pc_L.get ⟨h1, h2, h3, h4⟩ (k := j) (by omega)
  omega
theorem pc_ln_L (h : pc_L ch st en sz L) (k : Nat) : pc_ln st en sz k = ((L.getD k []).length : Int) := by
  unfold pc_ln
  by_cases hk : k < L.length
  · obtain ⟨a1, a2, a3, -⟩ := h.get hk
    rw [if_pos (by rw [h.1]; omega)]
    omega
  · rw [if_neg (by rw [h.1]; omega), List.getD_eq_getElem?_getD, List.getElem?_eq_none (by omega)]
    rfl
theorem pc_ch_L (h : pc_L ch st en sz L) (k i : Nat) : pc_ch ch st en sz k i = (L.getD k []).getD i 0 := by
  unfold pc_ch
  by_cases hk : k < L.length
  · obtain ⟨a1, a2, a3, a4⟩ := h.get hk
    by_cases hi : i < (L.getD k []).length
    · rw [if_pos (by rw [h.1]; omega)]
      have := zS_get ch (L.getD k []).length (st k) i hi
      rw [a4] at this
      exact this.symm
    · rw [if_neg (by omega), List.getD_eq_getElem?_getD, List.getElem?_eq_none (by omega)]
      rfl
  · rw [if_neg (by rw [h.1]; omega), List.getD_eq_getElem?_getD (l := L), List.getElem?_eq_none (by omega)]
    rfl
end PL
theorem l_two (w : List Int) : (((w.length : Nat) : Int) = 2 ∧ w.getD 0 0 = 42 ∧ w.getD 1 0 = 42) ↔ w = [42, 42] := by
  constructor
  · rintro ⟨h1, h2, h3⟩
    match w, h1, h2, h3 with
    | [a, b], _, h2, h3 =>
      have h2 : a = 42 := h2
      have h3 : b = 42 := h3
      rw [h2, h3]
    | [], h1, _, _ => simp at h1
    | [_], h1, _, _ => simp at h1
    | _ :: _ :: _ :: _, h1, _, _ => simp at h1; omega
  · rintro rfl
    exact ⟨rfl, rfl, rfl⟩
def ly_H (la re : Nat) (gl gr : Int → Int) (h0 : zz_H) : zz_H := zz_up (zz_up h0 re (zA 2 41 gr)) la (zA 2 21 gl)
section LY
variable {la re : Nat} {gl gr g : Int → Int} {h0 : zz_H}
theorem ly_1 : ly_H la re gl gr h0 la = some (zA 2 21 gl) := zz_up_eq _ _ _
theorem ly_2 (hn : la ≠ re) : ly_H la re gl gr h0 re = some (zA 2 41 gr) := (zz_up_ne hn.symm).trans (zz_up_eq _ _ _)
theorem ly_o {a : Nat} (h1 : a ≠ la) (h2 : a ≠ re) : ly_H la re gl gr h0 a = h0 a := (zz_up_ne h1).trans (zz_up_ne h2)
theorem ly_s1 : zz_up (ly_H la re gl gr h0) la (zA 2 21 g) = ly_H la re g gr h0 := zz_up_up _ _ _ _
theorem ly_s2 (hn : la ≠ re) : zz_up (ly_H la re gl gr h0) re (zA 2 41 g) = ly_H la re gl g h0 := by
  unfold ly_H
  rw [zz_up_cm _ _ _ hn, zz_up_up]
theorem ly_id {h : zz_H} (h1 : h la = some (zA 2 21 gl)) (h2 : h re = some (zA 2 41 gr)) : ly_H la re gl gr h = h := by
  unfold ly_H
  rw [zz_up_same h2, zz_up_same h1]
theorem ly_F {p : Nat} {ch st en : Int → Int} {bg wr sz : Int} (F : pc_F h0 p ch st en bg wr sz) (n1 : (la < p ∨ p + 4 ≤ la) ∧ (re < p ∨ p + 4 ≤ re)) : pc_F (ly_H la re gl gr h0) p ch st en bg wr sz := by
  obtain ⟨f0, f1, f2, f3⟩ := F
  exact ⟨(ly_o (by omega) (by omega)).trans f0, (ly_o (by omega) (by omega)).trans f1, (ly_o (by omega) (by omega)).trans f2, (ly_o (by omega) (by omega)).trans f3⟩
end LY
theorem lp_106b {X : zz_X} {d n : Nat} (hd : 1 ≤ d) {ly la re p1 p2 : Nat} {h0 : zz_H} (el : h0 ly = some (.inr (4, [.ref la, .ref re]))) (nl : ly ≠ la ∧ ly ≠ re ∧ la ≠ re) {ch1 st1 en1 ch2 st2 en2 : Int → Int} {b1 w1 z1 b2 w2 z2 : Int} (F1 : pc_F h0 p1 ch1 st1 en1 b1 w1 z1) (n1 : (la < p1 ∨ p1 + 4 ≤ la) ∧ (re < p1 ∨ p1 + 4 ≤ re)) (F2 : pc_F h0 p2 ch2 st2 en2 b2 w2 z2) (n2 : (la < p2 ∨ p2 + 4 ≤ la) ∧ (re < p2 ∨ p2 + 4 ≤ re)) {P S : List (List Int)} (L1 : pc_L ch1 st1 en1 z1 P) (L2 : pc_L ch2 st2 en2 z2 S) {pi si i len : Nat} {c : Int} {gl : Int → Int} {Q : Option Value → Nat → zz_H → Prop} {R : Nat → Bool} (hr : pi < 100 ∧ si < 100 ∧ len ≤ 40) (hc : 0 ≤ c ∧ c < 65536)
    (kont : ∀ g, (∀ j : Nat, 1 ≤ j → j ≤ len → g j = bz (R (j - 1) && (decide (c = 63) || decide (c = (S.getD si []).getD (j - 1) 0)))) → (∀ j : Nat, len < j → j < 41 → g j = bz (R j)) → zz_Z X mm_106 d Q 0 0 115 [some (.ref ly), some (.ref p1), some (zv (pi : Int)), some (.ref p2), some (zv (si : Int)), some (zv (len : Int)), some (zv (i : Int)), some (zv c), some (zv ((0 : Nat) : Int))] [] n (ly_H la re gl g h0)) :
    ∀ (k : Nat) (g : Int → Int), k ≤ len → (∀ j : Nat, k < j → j ≤ len → g j = bz (R (j - 1) && (decide (c = 63) || decide (c = (S.getD si []).getD (j - 1) 0)))) → (∀ j : Nat, j ≤ k → g j = bz (R j)) → (∀ j : Nat, len < j → j < 41 → g j = bz (R j)) →
    zz_Z X mm_106 d Q 0 0 58 [some (.ref ly), some (.ref p1), some (zv (pi : Int)), some (.ref p2), some (zv (si : Int)), some (zv (len : Int)), some (zv (i : Int)), some (zv c), some (zv (k : Int))] [] n (ly_H la re gl g h0) := by
  intro k
  induction k with
  | zero =>
    intro g hk h1 h2 h3
    refine zj_iload dk_106_58 rfl ?_
    refine zj_if_le (t := 115) dk_106_60 rfl (by omega) (fun c60 => ?_) (fun c60 => ?_)
    · skip
      exact kont g (fun j hj1 hj2 => h1 j (by omega) hj2) h3
    · omega
  | succ k ih =>
    intro g hk h1 h2 h3
    have e1 : ((k + 1 : Nat) : Int) - 1 = (k : Int) := by omega
    have e2 : ((k + 1 : Nat) : Int) + -1 = (k : Int) := by omega
    have r1 := h2 k (by omega)
    have q1 := bz_rg (R k)
    have q2 := pc_ch_rg L2.ok (si : Int) (k : Int)
    rw [pc_ch_L L2 si k] at q2
    have key : ∀ v : Int, v = bz (R k && (decide (c = 63) || decide (c = (S.getD si []).getD k 0))) → zz_Z X mm_106 d Q 0 0 58 [some (.ref ly), some (.ref p1), some (zv (pi : Int)), some (.ref p2), some (zv (si : Int)), some (zv (len : Int)), some (zv (i : Int)), some (zv c), some (zv (k : Int))] [] n (ly_H la re gl (zU g ((k + 1 : Nat) : Int) v) h0) := by
      intro v hv
      refine ih _ (by omega) (fun j hj1 hj2 => ?_) (fun j hj => ?_) (fun j hj1 hj2 => ?_)
      · by_cases hjk : j = k + 1
        · subst hjk
          rw [zU_eq, hv]
          rfl
        · rw [zU_ne (by omega)]
          exact h1 j (by omega) hj2
      · rw [zU_ne (by omega)]
        exact h2 j (by omega)
      · rw [zU_ne (by omega)]
        exact h3 j hj1 hj2
    refine zj_iload dk_106_58 rfl ?_
    refine zj_if_le (t := 115) dk_106_60 rfl (by omega) (fun c60 => ?_) (fun c60 => ?_)
    · omega
    · skip
      refine zi_aload_n dk_106_63 rfl rfl ?_
      refine zi_getf dk_106_64 fl_4_15 (by first | exact (ly_o nl.1 nl.2.1).trans el | exact ly_1 | exact ly_2 nl.2.2 | exact (ly_F F1 n1).1 | exact (ly_F F2 n2).1) rfl ?_
      refine zj_iload dk_106_67 rfl ?_
      refine zi_aload_n dk_106_69 rfl rfl ?_
      refine zi_getf dk_106_70 fl_4_15 (by first | exact (ly_o nl.1 nl.2.1).trans el | exact ly_1 | exact ly_2 nl.2.2 | exact (ly_F F1 n1).1 | exact (ly_F F2 n2).1) rfl ?_
      refine zj_iload dk_106_73 rfl ?_
      refine zj_iconst dk_106_75 ?_
      refine zj_isub dk_106_76 ?_
      refine zj_zald dk_106_77 (by first | exact (ly_o nl.1 nl.2.1).trans el | exact ly_1 | exact ly_2 nl.2.2 | exact (ly_F F1 n1).1 | exact (ly_F F2 n2).1) (by omega) ?_
      rw [e1]
      refine zj_if_eq (t := 107) dk_106_78 rfl (by omega) (fun c78 => ?_) (fun c78 => ?_)
      · skip
        refine zj_iconst dk_106_107 ?_
        refine zj_zast dk_106_108 (by first | exact (ly_o nl.1 nl.2.1).trans el | exact ly_1 | exact ly_2 nl.2.2 | exact (ly_F F1 n1).1 | exact (ly_F F2 n2).1) (by omega) (by omega) ?_
        rw [ly_s2 nl.2.2]
        refine zj_iinc dk_106_109 rfl rfl ?_
        rw [e2]
        refine zi_goto (t := 58) dk_106_112 rfl ?_
        exact key _ (by (try rw [r1] at c78); cases hA : R k <;> simp_all [bz])
      · skip
        refine zj_iload dk_106_81 rfl ?_
        refine zj_bipush dk_106_83 (by decide) ?_
        refine zj_icmp_eq (t := 103) dk_106_85 rfl (by omega) (fun c85 => ?_) (fun c85 => ?_)
        · skip
          refine zj_iconst dk_106_103 ?_
          refine zi_goto (t := 108) dk_106_104 rfl ?_
          refine zj_zast dk_106_108 (by first | exact (ly_o nl.1 nl.2.1).trans el | exact ly_1 | exact ly_2 nl.2.2 | exact (ly_F F1 n1).1 | exact (ly_F F2 n2).1) (by omega) (by omega) ?_
          rw [ly_s2 nl.2.2]
          refine zj_iinc dk_106_109 rfl rfl ?_
          rw [e2]
          refine zi_goto (t := 58) dk_106_112 rfl ?_
          exact key _ (by (try rw [r1] at c78); cases hA : R k <;> simp_all [bz])
        · skip
          refine zj_iload dk_106_88 rfl ?_
          refine zi_aload_n dk_106_90 rfl rfl ?_
          refine zj_iload dk_106_91 rfl ?_
          refine zj_iload dk_106_93 rfl ?_
          refine zj_iconst dk_106_95 ?_
          refine zj_isub dk_106_96 ?_
          refine zi_invV dk_106_97 ml_4_47 iv_103 (ct_103 (d := d - 1) (ly_F F2 n2).1 (ly_F F2 n2).2.1 (ly_F F2 n2).2.2.1 (ly_F F2 n2).2.2.2 L2.ok (by omega) (by omega)) (by first | exact (ly_o nl.1 nl.2.1).trans el | exact ly_1 | exact ly_2 nl.2.2 | exact (ly_F F1 n1).1 | exact (ly_F F2 n2).1) rfl rfl rfl (Nat.le_of_ble_eq_true rfl) (by omega) rfl rfl (fun r n' h' hq => ?_)
          obtain ⟨rfl, rfl, rfl⟩ := hq
          rw [e1, pc_ch_L L2 si k]
          refine zj_icmp_ne (t := 107) dk_106_100 rfl (by omega) (fun c100 => ?_) (fun c100 => ?_)
          · skip
            refine zj_iconst dk_106_107 ?_
            refine zj_zast dk_106_108 (by first | exact (ly_o nl.1 nl.2.1).trans el | exact ly_1 | exact ly_2 nl.2.2 | exact (ly_F F1 n1).1 | exact (ly_F F2 n2).1) (by omega) (by omega) ?_
            rw [ly_s2 nl.2.2]
            refine zj_iinc dk_106_109 rfl rfl ?_
            rw [e2]
            refine zi_goto (t := 58) dk_106_112 rfl ?_
            exact key _ (by (try rw [r1] at c78); cases hA : R k <;> simp_all [bz])
          · skip
            refine zj_iconst dk_106_103 ?_
            refine zi_goto (t := 108) dk_106_104 rfl ?_
            refine zj_zast dk_106_108 (by first | exact (ly_o nl.1 nl.2.1).trans el | exact ly_1 | exact ly_2 nl.2.2 | exact (ly_F F1 n1).1 | exact (ly_F F2 n2).1) (by omega) (by omega) ?_
            rw [ly_s2 nl.2.2]
            refine zj_iinc dk_106_109 rfl rfl ?_
            rw [e2]
            refine zi_goto (t := 58) dk_106_112 rfl ?_
            exact key _ (by (try rw [r1] at c78); cases hA : R k <;> simp_all [bz])

theorem lp_106 {X : zz_X} {d n : Nat} (hd : 1 ≤ d) {ly la re p1 p2 : Nat} {h0 : zz_H} (el : h0 ly = some (.inr (4, [.ref la, .ref re]))) (nl : ly ≠ la ∧ ly ≠ re ∧ la ≠ re) {ch1 st1 en1 ch2 st2 en2 : Int → Int} {b1 w1 z1 b2 w2 z2 : Int} (F1 : pc_F h0 p1 ch1 st1 en1 b1 w1 z1) (n1 : (la < p1 ∨ p1 + 4 ≤ la) ∧ (re < p1 ∨ p1 + 4 ≤ re)) (F2 : pc_F h0 p2 ch2 st2 en2 b2 w2 z2) (n2 : (la < p2 ∨ p2 + 4 ≤ la) ∧ (re < p2 ∨ p2 + 4 ≤ re)) {P S : List (List Int)} (L1 : pc_L ch1 st1 en1 z1 P) (L2 : pc_L ch2 st2 en2 z2 S) {pi si : Nat} {gl : Int → Int} {Q : Option Value → Nat → zz_H → Prop} (hr : pi < 100 ∧ si < 100)
    (hQ : ∀ g, rw_01 g 41 → Q (some (zv (bz (sp_cov (P.getD pi []) (S.getD si []))))) n (ly_H la re gl g h0)) :
    ∀ (k i : Nat) (g : Int → Int) (R : Nat → Bool) (x7 x8 : Option Value), i + k = (P.getD pi []).length → rw_R g 41 R → (∀ m, m ≤ (S.getD si []).length → R m = sp_cv (fun j => (P.getD pi []).getD j 0) (fun j => (S.getD si []).getD j 0) i m) →
    zz_Z X mm_106 d Q 0 0 18 [some (.ref ly), some (.ref p1), some (zv (pi : Int)), some (.ref p2), some (zv (si : Int)), some (zv (((S.getD si []).length : Nat) : Int)), some (zv (i : Int)), x7, x8] [] n (ly_H la re gl g h0) := by
  have hp := pc_ln_rg L1.ok (pi : Int)
  rw [pc_ln_L L1 pi] at hp
  have hs := pc_ln_rg L2.ok (si : Int)
  rw [pc_ln_L L2 si] at hs
  intro k
  induction k with
  | zero =>
    intro i g R x7 x8 hi hg hR
    have e0 : g (((S.getD si []).length : Nat) : Int) = bz (sp_cov (P.getD pi []) (S.getD si [])) := by
      rw [hg _ (by omega), hR _ (Nat.le_refl _), show i = (P.getD pi []).length by omega]
      rfl
    refine zj_iload dk_106_18 rfl ?_
    refine zi_aload_n dk_106_20 rfl rfl ?_
    refine zj_iload_n dk_106_21 rfl ?_
    refine zi_invV dk_106_22 ml_4_43 iv_102 (ct_102 (d := d - 1) (ly_F F1 n1).1 (ly_F F1 n1).2.1 (ly_F F1 n1).2.2.1 (ly_F F1 n1).2.2.2 L1.ok (by omega)) (by first | exact (ly_o nl.1 nl.2.1).trans el | exact ly_1 | exact ly_2 nl.2.2 | exact (ly_F F1 n1).1 | exact (ly_F F2 n2).1) rfl rfl rfl (Nat.le_of_ble_eq_true rfl) (by omega) rfl rfl (fun r n' h' hq => ?_)
    obtain ⟨rfl, rfl, rfl⟩ := hq
    rw [pc_ln_L L1 pi]
    refine zj_icmp_ge (t := 128) dk_106_25 rfl (by omega) (fun c25 => ?_) (fun c25 => ?_)
    · skip
      refine zi_aload_n dk_106_128 rfl rfl ?_
      refine zi_getf dk_106_129 fl_4_15 (by first | exact (ly_o nl.1 nl.2.1).trans el | exact ly_1 | exact ly_2 nl.2.2 | exact (ly_F F1 n1).1 | exact (ly_F F2 n2).1) rfl ?_
      refine zj_iload dk_106_132 rfl ?_
      refine zj_zald dk_106_134 (by first | exact (ly_o nl.1 nl.2.1).trans el | exact ly_1 | exact ly_2 nl.2.2 | exact (ly_F F1 n1).1 | exact (ly_F F2 n2).1) (by omega) ?_
      rw [e0]
      refine zj_zreturn dk_106_135 rfl (bz_rg _) (hQ g hg.o1)
    · omega
  | succ k ih =>
    intro i g R x7 x8 hi hg hR
    have q1 := pc_ch_rg L1.ok (pi : Int) (i : Int)
    rw [pc_ch_L L1 pi i] at q1
    have e2 : ((i : Nat) : Int) + 1 = ((i + 1 : Nat) : Int) := by omega
    refine zj_iload dk_106_18 rfl ?_
    refine zi_aload_n dk_106_20 rfl rfl ?_
    refine zj_iload_n dk_106_21 rfl ?_
    refine zi_invV dk_106_22 ml_4_43 iv_102 (ct_102 (d := d - 1) (ly_F F1 n1).1 (ly_F F1 n1).2.1 (ly_F F1 n1).2.2.1 (ly_F F1 n1).2.2.2 L1.ok (by omega)) (by first | exact (ly_o nl.1 nl.2.1).trans el | exact ly_1 | exact ly_2 nl.2.2 | exact (ly_F F1 n1).1 | exact (ly_F F2 n2).1) rfl rfl rfl (Nat.le_of_ble_eq_true rfl) (by omega) rfl rfl (fun r n' h' hq => ?_)
    obtain ⟨rfl, rfl, rfl⟩ := hq
    rw [pc_ln_L L1 pi]
    refine zj_icmp_ge (t := 128) dk_106_25 rfl (by omega) (fun c25 => ?_) (fun c25 => ?_)
    · omega
    · skip
      refine zi_aload_n dk_106_28 rfl rfl ?_
      refine zj_iload_n dk_106_29 rfl ?_
      refine zj_iload dk_106_30 rfl ?_
      refine zi_invV dk_106_32 ml_4_47 iv_103 (ct_103 (d := d - 1) (ly_F F1 n1).1 (ly_F F1 n1).2.1 (ly_F F1 n1).2.2.1 (ly_F F1 n1).2.2.2 L1.ok (by omega) (by omega)) (by first | exact (ly_o nl.1 nl.2.1).trans el | exact ly_1 | exact ly_2 nl.2.2 | exact (ly_F F1 n1).1 | exact (ly_F F2 n2).1) rfl rfl rfl (Nat.le_of_ble_eq_true rfl) (by omega) rfl rfl (fun r n' h' hq => ?_)
      obtain ⟨rfl, rfl, rfl⟩ := hq
      rw [pc_ch_L L1 pi i]
      refine zj_istore dk_106_35 rfl ?_
      refine zj_iload dk_106_37 rfl ?_
      refine zj_bipush dk_106_39 (by decide) ?_
      refine zj_icmp_ne (t := 54) dk_106_41 rfl (by omega) (fun c41 => ?_) (fun c41 => ?_)
      · skip
        refine zj_iload dk_106_54 rfl ?_
        refine zj_istore dk_106_56 rfl ?_
        refine lp_106b hd el nl F1 n1 F2 n2 L1 L2 (R := R) (by omega) q1 (fun g' hg1 hg2 => ?_) (S.getD si []).length g (Nat.le_refl _) (fun j hj1 hj2 => by omega) (fun j hj => hg j (by omega)) (fun j hj1 hj2 => hg j hj2)
        refine zi_aload_n dk_106_115 rfl rfl ?_
        refine zi_getf dk_106_116 fl_4_15 ((ly_o nl.1 nl.2.1).trans el) rfl ?_
        refine zj_iconst dk_106_119 ?_
        refine zj_iconst dk_106_120 ?_
        refine zj_zast dk_106_121 (ly_2 nl.2.2) (by omega) (by omega) ?_
        rw [ly_s2 nl.2.2]
        refine zj_iinc dk_106_122 rfl rfl ?_
        refine zi_goto (t := 18) dk_106_125 rfl ?_
        rw [e2]
        refine ih (i + 1) _ (fun m => if m = 0 then false else if m ≤ (S.getD si []).length then R (m - 1) && (decide ((P.getD pi []).getD i 0 = 63) || decide ((P.getD pi []).getD i 0 = (S.getD si []).getD (m - 1) 0)) else R m) _ _ (by omega) (fun m hm => ?_) (fun m hm => ?_)
        · try dsimp only
          by_cases hm0 : m = 0
          · subst hm0
            rw [if_pos rfl]
            exact zU_eq _ _ _
          · rw [zU_ne (by omega), if_neg hm0]
            by_cases hm1 : m ≤ (S.getD si []).length
            · rw [if_pos hm1]
              exact hg1 m (by omega) hm1
            · rw [if_neg hm1]
              exact hg2 m (by omega) hm
        · try dsimp only
          unfold sp_cv
          rw [if_neg c41]
          cases m with
          | zero => rw [if_pos rfl]
          | succ m =>
            rw [if_neg (by omega), if_pos hm, Nat.add_sub_cancel, hR m (by omega)]
      · skip
        refine zi_aload_n dk_106_44 rfl rfl ?_
        refine zi_getf dk_106_45 fl_4_15 (by first | exact (ly_o nl.1 nl.2.1).trans el | exact ly_1 | exact ly_2 nl.2.2 | exact (ly_F F1 n1).1 | exact (ly_F F2 n2).1) rfl ?_
        refine zi_invS dk_106_48 ml_4_32 is_104 (ct_104 (d := d - 1) (ly_2 nl.2.2) (by omega) hg) rfl rfl (Nat.le_of_ble_eq_true rfl) (by omega) rfl rfl (fun r n' h' hq => ?_)
        obtain ⟨rfl, rfl, g', hg', rfl⟩ := hq
        rw [ly_s2 nl.2.2]
        refine zi_goto (t := 122) dk_106_51 rfl ?_
        refine zj_iinc dk_106_122 rfl rfl ?_
        refine zi_goto (t := 18) dk_106_125 rfl ?_
        rw [e2]
        refine ih (i + 1) g' (sp_any R) _ _ (by omega) hg' (fun m hm => ?_)
        unfold sp_cv
        rw [if_pos c41]
        exact sp_any_congr (fun m' hm' => hR m' (by omega))

theorem ct_106 {X : zz_X} {d n : Nat}  (hd : 1 ≤ d) {ly la re p1 p2 : Nat} {h0 : zz_H} (el : h0 ly = some (.inr (4, [.ref la, .ref re]))) (nl : ly ≠ la ∧ ly ≠ re ∧ la ≠ re) {ch1 st1 en1 ch2 st2 en2 : Int → Int} {b1 w1 z1 b2 w2 z2 : Int} (F1 : pc_F h0 p1 ch1 st1 en1 b1 w1 z1) (n1 : (la < p1 ∨ p1 + 4 ≤ la) ∧ (re < p1 ∨ p1 + 4 ≤ re)) (F2 : pc_F h0 p2 ch2 st2 en2 b2 w2 z2) (n2 : (la < p2 ∨ p2 + 4 ≤ la) ∧ (re < p2 ∨ p2 + 4 ≤ re)) {P S : List (List Int)} (L1 : pc_L ch1 st1 en1 z1 P) (L2 : pc_L ch2 st2 en2 z2 S) {pi si : Nat} {gl gr : Int → Int} (hr : pi < 100 ∧ si < 100) (hgr : rw_01 gr 41) : zz_Ct X mm_106 d 0 0 [.ref ly, .ref p1, zv (pi : Int), .ref p2, zv (si : Int)] n (ly_H la re gl gr h0) (fun r n' h' => n' = n ∧ r = some (zv (bz (sp_cov (P.getD pi []) (S.getD si [])))) ∧ ∃ g, rw_01 g 41 ∧ h' = ly_H la re gl g h0) := by
  refine zz_start (by decide) (ls := [some (.ref ly), some (.ref p1), some (zv (pi : Int)), some (.ref p2), some (zv (si : Int)), none, none, none, none]) rfl ?_
  refine zi_aload_n dk_106_0 rfl rfl ?_
  refine zj_iload dk_106_1 rfl ?_
  refine zi_invV dk_106_3 ml_4_43 iv_102 (ct_102 (d := d - 1) (ly_F F2 n2).1 (ly_F F2 n2).2.1 (ly_F F2 n2).2.2.1 (ly_F F2 n2).2.2.2 L2.ok (by omega)) (by first | exact (ly_o nl.1 nl.2.1).trans el | exact ly_1 | exact ly_2 nl.2.2 | exact (ly_F F1 n1).1 | exact (ly_F F2 n2).1) rfl rfl rfl (Nat.le_of_ble_eq_true rfl) (by omega) rfl rfl (fun r n' h' hq => ?_)
  obtain ⟨rfl, rfl, rfl⟩ := hq
  rw [pc_ln_L L2 si]
  refine zj_istore dk_106_6 rfl ?_
  refine zi_aload_n dk_106_8 rfl rfl ?_
  refine zi_getf dk_106_9 fl_4_15 (by first | exact (ly_o nl.1 nl.2.1).trans el | exact ly_1 | exact ly_2 nl.2.2 | exact (ly_F F1 n1).1 | exact (ly_F F2 n2).1) rfl ?_
  refine zi_invS dk_106_12 ml_4_18 is_100 (ct_100 (d := d - 1) (ly_2 nl.2.2) (by omega)) rfl rfl (Nat.le_of_ble_eq_true rfl) (by omega) rfl rfl (fun r n' h' hq => ?_)
  obtain ⟨rfl, rfl, g', hg', rfl⟩ := hq
  rw [ly_s2 nl.2.2]
  refine zj_iconst dk_106_15 ?_
  refine zj_istore dk_106_16 rfl ?_
  exact lp_106 hd el nl F1 n1 F2 n2 L1 L2 hr (fun g hg => ⟨rfl, rfl, g, hg, rfl⟩) (P.getD pi []).length 0 g' (fun m => m == 0) none none (by omega) hg' (fun m hm => rfl)

theorem lp_105 {X : zz_X} {d n : Nat} (hd : 2 ≤ d) {ly la re p1 p2 : Nat} {h0 : zz_H} (el : h0 ly = some (.inr (4, [.ref la, .ref re]))) (nl : ly ≠ la ∧ ly ≠ re ∧ la ≠ re) {ch1 st1 en1 ch2 st2 en2 : Int → Int} {b1 w1 z1 b2 w2 z2 : Int} (F1 : pc_F h0 p1 ch1 st1 en1 b1 w1 z1) (n1 : (la < p1 ∨ p1 + 4 ≤ la) ∧ (re < p1 ∨ p1 + 4 ≤ re)) (F2 : pc_F h0 p2 ch2 st2 en2 b2 w2 z2) (n2 : (la < p2 ∨ p2 + 4 ≤ la) ∧ (re < p2 ∨ p2 + 4 ≤ re)) {P S : List (List Int)} (L1 : pc_L ch1 st1 en1 z1 P) (L2 : pc_L ch2 st2 en2 z2 S) {pi : Nat} {Q : Option Value → Nat → zz_H → Prop} {R : Nat → Bool} (hr : pi < 100)
    (hQ : ∀ gl gr, rw_R gl 21 (fun m => if m = 0 then false else if m ≤ S.length then R (m - 1) && sp_cov (P.getD pi []) (S.getD (m - 1) []) else R m) → rw_01 gr 41 → Q none n (ly_H la re gl gr h0)) :
    ∀ (k : Nat) (g gr : Int → Int), k ≤ S.length → rw_01 gr 41 → (∀ j : Nat, k < j → j ≤ S.length → g j = bz (R (j - 1) && sp_cov (P.getD pi []) (S.getD (j - 1) []))) → (∀ j : Nat, j ≤ k → g j = bz (R j)) → (∀ j : Nat, S.length < j → j < 21 → g j = bz (R j)) →
    zz_Z X mm_105 d Q 0 0 6 [some (.ref ly), some (.ref p1), some (zv (pi : Int)), some (.ref p2), some (zv (k : Int))] [] n (ly_H la re g gr h0) := by
  have hS := L2.2.2.2
  intro k
  induction k with
  | zero =>
    intro g gr hk hgr h1 h2 h3
    refine zj_iload dk_105_6 rfl ?_
    refine zj_if_le (t := 55) dk_105_8 rfl (by omega) (fun c8 => ?_) (fun c8 => ?_)
    · skip
      refine zi_aload_n dk_105_55 rfl rfl ?_
      refine zi_getf dk_105_56 fl_4_9 (by first | exact (ly_o nl.1 nl.2.1).trans el | exact ly_1 | exact ly_2 nl.2.2 | exact (ly_F F1 n1).1 | exact (ly_F F2 n2).1) rfl ?_
      refine zj_iconst dk_105_59 ?_
      refine zj_iconst dk_105_60 ?_
      refine zj_zast dk_105_61 (by first | exact (ly_o nl.1 nl.2.1).trans el | exact ly_1 | exact ly_2 nl.2.2 | exact (ly_F F1 n1).1 | exact (ly_F F2 n2).1) (by omega) (by omega) ?_
      rw [ly_s1]
      refine zi_return dk_105_62 rfl (hQ _ _ (fun m hm => ?_) hgr)
      try dsimp only
      by_cases hm0 : m = 0
      · subst hm0
        rw [if_pos rfl]
        exact zU_eq _ _ _
      · rw [zU_ne (by omega), if_neg hm0]
        by_cases hm1 : m ≤ S.length
        · rw [if_pos hm1]
          exact h1 m (by omega) hm1
        · rw [if_neg hm1]
          exact h3 m (by omega) hm
    · omega
  | succ k ih =>
    intro g gr hk hgr h1 h2 h3
    have e1 : ((k + 1 : Nat) : Int) - 1 = (k : Int) := by omega
    have e2 : ((k + 1 : Nat) : Int) + -1 = (k : Int) := by omega
    have r1 := h2 k (by omega)
    have q1 := bz_rg (R k)
    have q2 := bz_rg (sp_cov (P.getD pi []) (S.getD k []))
    have key : ∀ (v : Int) (gr' : Int → Int), rw_01 gr' 41 → v = bz (R k && sp_cov (P.getD pi []) (S.getD k [])) → zz_Z X mm_105 d Q 0 0 6 [some (.ref ly), some (.ref p1), some (zv (pi : Int)), some (.ref p2), some (zv (k : Int))] [] n (ly_H la re (zU g ((k + 1 : Nat) : Int) v) gr' h0) := by
      intro v gr' hgr' hv
      refine ih _ _ (by omega) hgr' (fun j hj1 hj2 => ?_) (fun j hj => ?_) (fun j hj1 hj2 => ?_)
      · by_cases hjk : j = k + 1
        · subst hjk
          rw [zU_eq, hv]
          rfl
        · rw [zU_ne (by omega)]
          exact h1 j (by omega) hj2
      · rw [zU_ne (by omega)]
        exact h2 j (by omega)
      · rw [zU_ne (by omega)]
        exact h3 j hj1 hj2
    refine zj_iload dk_105_6 rfl ?_
    refine zj_if_le (t := 55) dk_105_8 rfl (by omega) (fun c8 => ?_) (fun c8 => ?_)
    · omega
    · skip
      refine zi_aload_n dk_105_11 rfl rfl ?_
      refine zi_getf dk_105_12 fl_4_9 (by first | exact (ly_o nl.1 nl.2.1).trans el | exact ly_1 | exact ly_2 nl.2.2 | exact (ly_F F1 n1).1 | exact (ly_F F2 n2).1) rfl ?_
      refine zj_iload dk_105_15 rfl ?_
      refine zi_aload_n dk_105_17 rfl rfl ?_
      refine zi_getf dk_105_18 fl_4_9 (by first | exact (ly_o nl.1 nl.2.1).trans el | exact ly_1 | exact ly_2 nl.2.2 | exact (ly_F F1 n1).1 | exact (ly_F F2 n2).1) rfl ?_
      refine zj_iload dk_105_21 rfl ?_
      refine zj_iconst dk_105_23 ?_
      refine zj_isub dk_105_24 ?_
      refine zj_zald dk_105_25 (by first | exact (ly_o nl.1 nl.2.1).trans el | exact ly_1 | exact ly_2 nl.2.2 | exact (ly_F F1 n1).1 | exact (ly_F F2 n2).1) (by omega) ?_
      rw [e1]
      refine zj_if_eq (t := 47) dk_105_26 rfl (by omega) (fun c26 => ?_) (fun c26 => ?_)
      · skip
        refine zj_iconst dk_105_47 ?_
        refine zj_zast dk_105_48 (by first | exact (ly_o nl.1 nl.2.1).trans el | exact ly_1 | exact ly_2 nl.2.2 | exact (ly_F F1 n1).1 | exact (ly_F F2 n2).1) (by omega) (by omega) ?_
        rw [ly_s1]
        refine zj_iinc dk_105_49 rfl rfl ?_
        rw [e2]
        refine zi_goto (t := 6) dk_105_52 rfl ?_
        exact key _ _ (by assumption) (by (try rw [r1] at c26); cases hA : R k <;> simp_all [bz])
      · skip
        refine zi_aload_n dk_105_29 rfl rfl ?_
        refine zi_aload_n dk_105_30 rfl rfl ?_
        refine zj_iload_n dk_105_31 rfl ?_
        refine zi_aload_n dk_105_32 rfl rfl ?_
        refine zj_iload dk_105_33 rfl ?_
        refine zj_iconst dk_105_35 ?_
        refine zj_isub dk_105_36 ?_
        rw [e1]
        refine zi_invV dk_105_37 ml_4_39 iv_106 (ct_106 (d := d - 1) (by omega) el nl F1 n1 F2 n2 L1 L2 (pi := pi) (si := k) (by omega) hgr) (by first | exact (ly_o nl.1 nl.2.1).trans el | exact ly_1 | exact ly_2 nl.2.2 | exact (ly_F F1 n1).1 | exact (ly_F F2 n2).1) rfl rfl rfl (Nat.le_of_ble_eq_true rfl) (by omega) rfl rfl (fun r n' h' hq => ?_)
        obtain ⟨rfl, rfl, gr', hgr', rfl⟩ := hq
        refine zj_if_eq (t := 47) dk_105_40 rfl (by omega) (fun c40 => ?_) (fun c40 => ?_)
        · skip
          refine zj_iconst dk_105_47 ?_
          refine zj_zast dk_105_48 (by first | exact (ly_o nl.1 nl.2.1).trans el | exact ly_1 | exact ly_2 nl.2.2 | exact (ly_F F1 n1).1 | exact (ly_F F2 n2).1) (by omega) (by omega) ?_
          rw [ly_s1]
          refine zj_iinc dk_105_49 rfl rfl ?_
          rw [e2]
          refine zi_goto (t := 6) dk_105_52 rfl ?_
          exact key _ _ (by assumption) (by (try rw [r1] at c26); cases hA : R k <;> simp_all [bz])
        · skip
          refine zj_iconst dk_105_43 ?_
          refine zi_goto (t := 48) dk_105_44 rfl ?_
          refine zj_zast dk_105_48 (by first | exact (ly_o nl.1 nl.2.1).trans el | exact ly_1 | exact ly_2 nl.2.2 | exact (ly_F F1 n1).1 | exact (ly_F F2 n2).1) (by omega) (by omega) ?_
          rw [ly_s1]
          refine zj_iinc dk_105_49 rfl rfl ?_
          rw [e2]
          refine zi_goto (t := 6) dk_105_52 rfl ?_
          exact key _ _ (by assumption) (by (try rw [r1] at c26); cases hA : R k <;> simp_all [bz])

theorem ct_105 {X : zz_X} {d n : Nat}  (hd : 2 ≤ d) {ly la re p1 p2 : Nat} {h0 : zz_H} (el : h0 ly = some (.inr (4, [.ref la, .ref re]))) (nl : ly ≠ la ∧ ly ≠ re ∧ la ≠ re) {ch1 st1 en1 ch2 st2 en2 : Int → Int} {b1 w1 z1 b2 w2 z2 : Int} (F1 : pc_F h0 p1 ch1 st1 en1 b1 w1 z1) (n1 : (la < p1 ∨ p1 + 4 ≤ la) ∧ (re < p1 ∨ p1 + 4 ≤ re)) (F2 : pc_F h0 p2 ch2 st2 en2 b2 w2 z2) (n2 : (la < p2 ∨ p2 + 4 ≤ la) ∧ (re < p2 ∨ p2 + 4 ≤ re)) {P S : List (List Int)} (L1 : pc_L ch1 st1 en1 z1 P) (L2 : pc_L ch2 st2 en2 z2 S) {pi : Nat} {gl gr : Int → Int} {R : Nat → Bool} (hr : pi < 100) (hgl : rw_R gl 21 R) (hgr : rw_01 gr 41) : zz_Ct X mm_105 d 0 0 [.ref ly, .ref p1, zv (pi : Int), .ref p2] n (ly_H la re gl gr h0) (fun r n' h' => n' = n ∧ r = none ∧ ∃ gl' gr', rw_R gl' 21 (fun m => if m = 0 then false else if m ≤ S.length then R (m - 1) && sp_cov (P.getD pi []) (S.getD (m - 1) []) else R m) ∧ rw_01 gr' 41 ∧ h' = ly_H la re gl' gr' h0) := by
  refine zz_start (by decide) (ls := [some (.ref ly), some (.ref p1), some (zv (pi : Int)), some (.ref p2), none]) rfl ?_
  have hz := L2.1
  have hS := L2.2.2.2
  subst hz
  refine zi_aload_n dk_105_0 rfl rfl ?_
  refine zi_getf dk_105_1 fl_4_22 (by first | exact (ly_o nl.1 nl.2.1).trans el | exact ly_1 | exact ly_2 nl.2.2 | exact (ly_F F1 n1).1 | exact (ly_F F2 n2).1) rfl ?_
  refine zj_istore dk_105_4 rfl ?_
  exact lp_105 hd el nl F1 n1 F2 n2 L1 L2 hr (fun gl gr h1 h2 => ⟨rfl, rfl, gl, gr, h1, h2, rfl⟩) S.length gl gr (Nat.le_refl _) hgr (fun j hj1 hj2 => by omega) (fun j hj => hgl j (by omega)) (fun j hj1 hj2 => hgl j hj2)

theorem lp_99 {X : zz_X} {d n : Nat} (hd : 3 ≤ d) {ly la re p1 p2 : Nat} {h0 : zz_H} (el : h0 ly = some (.inr (4, [.ref la, .ref re]))) (nl : ly ≠ la ∧ ly ≠ re ∧ la ≠ re) {ch1 st1 en1 ch2 st2 en2 : Int → Int} {b1 w1 z1 b2 w2 z2 : Int} (F1 : pc_F h0 p1 ch1 st1 en1 b1 w1 z1) (n1 : (la < p1 ∨ p1 + 4 ≤ la) ∧ (re < p1 ∨ p1 + 4 ≤ re)) (F2 : pc_F h0 p2 ch2 st2 en2 b2 w2 z2) (n2 : (la < p2 ∨ p2 + 4 ≤ la) ∧ (re < p2 ∨ p2 + 4 ≤ re)) {P S : List (List Int)} (L1 : pc_L ch1 st1 en1 z1 P) (L2 : pc_L ch2 st2 en2 z2 S) {Q : Option Value → Nat → zz_H → Prop}
    (hQ : ∀ gl gr, rw_01 gl 21 → rw_01 gr 41 → Q (some (zv (bz (sp_fits P S)))) n (ly_H la re gl gr h0)) :
    ∀ (k i : Nat) (gl gr : Int → Int) (R : Nat → Bool), i + k = P.length → rw_R gl 21 R → rw_01 gr 41 → (∀ m, m ≤ S.length → R m = sp_ly P S i m) →
    zz_Z X mm_99 d Q 0 0 9 [some (.ref ly), some (.ref p1), some (.ref p2), some (zv (i : Int))] [] n (ly_H la re gl gr h0) := by
  have hP := L1.2.2.2
  have hS := L2.2.2.2
  have hz1 := L1.1
  have hz2 := L2.1
  intro k
  induction k with
  | zero =>
    intro i gl gr R hi hgl hgr hR
    have e0 : gl ((S.length : Nat) : Int) = bz (sp_fits P S) := by
      rw [hgl _ (by omega), hR _ (Nat.le_refl _), show i = P.length by omega]
      rfl
    refine zj_iload_n dk_99_9 rfl ?_
    refine zi_aload_n dk_99_10 rfl rfl ?_
    refine zi_getf dk_99_11 fl_4_22 (by first | exact (ly_o nl.1 nl.2.1).trans el | exact ly_1 | exact ly_2 nl.2.2 | exact (ly_F F1 n1).1 | exact (ly_F F2 n2).1) rfl ?_
    refine zj_icmp_ge (t := 48) dk_99_14 rfl (by omega) (fun c14 => ?_) (fun c14 => ?_)
    · skip
      refine zi_aload_n dk_99_48 rfl rfl ?_
      refine zi_getf dk_99_49 fl_4_9 (by first | exact (ly_o nl.1 nl.2.1).trans el | exact ly_1 | exact ly_2 nl.2.2 | exact (ly_F F1 n1).1 | exact (ly_F F2 n2).1) rfl ?_
      refine zi_aload_n dk_99_52 rfl rfl ?_
      refine zi_getf dk_99_53 fl_4_22 (by first | exact (ly_o nl.1 nl.2.1).trans el | exact ly_1 | exact ly_2 nl.2.2 | exact (ly_F F1 n1).1 | exact (ly_F F2 n2).1) rfl ?_
      rw [hz2]
      refine zj_zald dk_99_56 (by first | exact (ly_o nl.1 nl.2.1).trans el | exact ly_1 | exact ly_2 nl.2.2 | exact (ly_F F1 n1).1 | exact (ly_F F2 n2).1) (by omega) ?_
      rw [e0]
      refine zj_zreturn dk_99_57 rfl (bz_rg _) (hQ gl gr hgl.o1 hgr)
    · omega
  | succ k ih =>
    intro i gl gr R hi hgl hgr hR
    have e2 : ((i : Nat) : Int) + 1 = ((i + 1 : Nat) : Int) := by omega
    have ht := l_two (P.getD i [])
    rw [← pc_ln_L L1 i, ← pc_ch_L L1 i 0, ← pc_ch_L L1 i 1] at ht
    have ht : (pc_ln st1 en1 z1 (i : Int) = 2 ∧ pc_ch ch1 st1 en1 z1 (i : Int) 0 = 42 ∧ pc_ch ch1 st1 en1 z1 (i : Int) 1 = 42) ↔ P.getD i [] = [42, 42] := ht
    have e3 : (if pc_ln st1 en1 z1 (i : Int) = 2 ∧ pc_ch ch1 st1 en1 z1 (i : Int) 0 = 42 ∧ pc_ch ch1 st1 en1 z1 (i : Int) 1 = 42 then (1 : Int) else 0) = bz (decide (P.getD i [] = [42, 42])) := by
      by_cases hx : P.getD i [] = [42, 42]
      · rw [if_pos (ht.mpr hx), decide_eq_true hx]; rfl
      · rw [if_neg (fun h => hx (ht.mp h)), decide_eq_false hx]; rfl
    have q1 := bz_rg (decide (P.getD i [] = [42, 42]))
    refine zj_iload_n dk_99_9 rfl ?_
    refine zi_aload_n dk_99_10 rfl rfl ?_
    refine zi_getf dk_99_11 fl_4_22 (by first | exact (ly_o nl.1 nl.2.1).trans el | exact ly_1 | exact ly_2 nl.2.2 | exact (ly_F F1 n1).1 | exact (ly_F F2 n2).1) rfl ?_
    refine zj_icmp_ge (t := 48) dk_99_14 rfl (by omega) (fun c14 => ?_) (fun c14 => ?_)
    · omega
    · skip
      refine zi_aload_n dk_99_17 rfl rfl ?_
      refine zj_iload_n dk_99_18 rfl ?_
      refine zi_invV dk_99_19 ml_4_28 iv_101 (ct_101 (d := d - 1) (by omega) (ly_F F1 n1).1 (ly_F F1 n1).2.1 (ly_F F1 n1).2.2.1 (ly_F F1 n1).2.2.2 L1.ok (by omega)) (by first | exact (ly_o nl.1 nl.2.1).trans el | exact ly_1 | exact ly_2 nl.2.2 | exact (ly_F F1 n1).1 | exact (ly_F F2 n2).1) rfl rfl rfl (Nat.le_of_ble_eq_true rfl) (by omega) rfl rfl (fun r n' h' hq => ?_)
      obtain ⟨rfl, rfl, rfl⟩ := hq
      rw [e3]
      refine zj_if_eq (t := 35) dk_99_22 rfl (by omega) (fun c22 => ?_) (fun c22 => ?_)
      · skip
        refine zi_aload_n dk_99_35 rfl rfl ?_
        refine zi_aload_n dk_99_36 rfl rfl ?_
        refine zj_iload_n dk_99_37 rfl ?_
        refine zi_aload_n dk_99_38 rfl rfl ?_
        refine zi_invV dk_99_39 ml_4_35 iv_105 (ct_105 (d := d - 1) (by omega) el nl F1 n1 F2 n2 L1 L2 (pi := i) (by omega) hgl hgr) (by first | exact (ly_o nl.1 nl.2.1).trans el | exact ly_1 | exact ly_2 nl.2.2 | exact (ly_F F1 n1).1 | exact (ly_F F2 n2).1) rfl rfl rfl (Nat.le_of_ble_eq_true rfl) (by omega) rfl rfl (fun r n' h' hq => ?_)
        obtain ⟨rfl, rfl, g', gr', hg', hgr', rfl⟩ := hq
        refine zj_iinc dk_99_42 rfl rfl ?_
        refine zi_goto (t := 9) dk_99_45 rfl ?_
        rw [e2]
        have hne : ¬ P.getD i [] = [42, 42] := of_decide_eq_false (bz_eq0.mp c22)
        refine ih (i + 1) g' gr' _ (by omega) hg' hgr' (fun m hm => ?_)
        try dsimp only
        unfold sp_ly
        rw [if_neg hne]
        cases m with
        | zero => rw [if_pos rfl]
        | succ m =>
          rw [if_neg (by omega), if_pos hm, Nat.add_sub_cancel, hR m (by omega)]
      · skip
        refine zi_aload_n dk_99_25 rfl rfl ?_
        refine zi_getf dk_99_26 fl_4_9 (by first | exact (ly_o nl.1 nl.2.1).trans el | exact ly_1 | exact ly_2 nl.2.2 | exact (ly_F F1 n1).1 | exact (ly_F F2 n2).1) rfl ?_
        refine zi_invS dk_99_29 ml_4_32 is_104 (ct_104 (d := d - 1) ly_1 (by omega) hgl) rfl rfl (Nat.le_of_ble_eq_true rfl) (by omega) rfl rfl (fun r n' h' hq => ?_)
        obtain ⟨rfl, rfl, g', hg', rfl⟩ := hq
        rw [ly_s1]
        refine zi_goto (t := 42) dk_99_32 rfl ?_
        refine zj_iinc dk_99_42 rfl rfl ?_
        refine zi_goto (t := 9) dk_99_45 rfl ?_
        rw [e2]
        have hne : P.getD i [] = [42, 42] := of_decide_eq_true (bz_ne0.mp c22)
        refine ih (i + 1) g' gr (sp_any R) (by omega) hg' hgr (fun m hm => ?_)
        unfold sp_ly
        rw [if_pos hne]
        exact sp_any_congr (fun m' hm' => hR m' (by omega))

theorem ct_99 {X : zz_X} {d n : Nat}  (hd : 3 ≤ d) {ly la re p1 p2 : Nat} {h0 : zz_H} (el : h0 ly = some (.inr (4, [.ref la, .ref re]))) (nl : ly ≠ la ∧ ly ≠ re ∧ la ≠ re) {ch1 st1 en1 ch2 st2 en2 : Int → Int} {b1 w1 z1 b2 w2 z2 : Int} (F1 : pc_F h0 p1 ch1 st1 en1 b1 w1 z1) (n1 : (la < p1 ∨ p1 + 4 ≤ la) ∧ (re < p1 ∨ p1 + 4 ≤ re)) (F2 : pc_F h0 p2 ch2 st2 en2 b2 w2 z2) (n2 : (la < p2 ∨ p2 + 4 ≤ la) ∧ (re < p2 ∨ p2 + 4 ≤ re)) {P S : List (List Int)} (L1 : pc_L ch1 st1 en1 z1 P) (L2 : pc_L ch2 st2 en2 z2 S) {gl gr : Int → Int} (hgl : rw_01 gl 21) (hgr : rw_01 gr 41) : zz_Ct X mm_99 d 0 0 [.ref ly, .ref p1, .ref p2] n (ly_H la re gl gr h0) (fun r n' h' => n' = n ∧ r = some (zv (bz (sp_fits P S))) ∧ ∃ gl' gr', rw_01 gl' 21 ∧ rw_01 gr' 41 ∧ h' = ly_H la re gl' gr' h0) := by
  refine zz_start (by decide) (ls := [some (.ref ly), some (.ref p1), some (.ref p2), none]) rfl ?_
  refine zi_aload_n dk_99_0 rfl rfl ?_
  refine zi_getf dk_99_1 fl_4_9 (by first | exact (ly_o nl.1 nl.2.1).trans el | exact ly_1 | exact ly_2 nl.2.2 | exact (ly_F F1 n1).1 | exact (ly_F F2 n2).1) rfl ?_
  refine zi_invS dk_99_4 ml_4_18 is_100 (ct_100 (d := d - 1) ly_1 (by omega)) rfl rfl (Nat.le_of_ble_eq_true rfl) (by omega) rfl rfl (fun r n' h' hq => ?_)
  obtain ⟨rfl, rfl, g', hg', rfl⟩ := hq
  rw [ly_s1]
  refine zj_iconst dk_99_7 ?_
  refine zj_istore_n dk_99_8 rfl ?_
  exact lp_99 hd el nl F1 n1 F2 n2 L1 L2 (fun gl gr h1 h2 => ⟨rfl, rfl, gl, gr, h1, h2, rfl⟩) P.length 0 g' gr _ (by omega) hg' hgr (fun m hm => rfl)

