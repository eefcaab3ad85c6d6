/-! the model: roles, conditions, call -/
def ic_in (g : Int → Int) : Nat → Int → Int → Int
  | 0, _, all => all
  | k + 1, r, all => ic_in g k (r + 1) (if zb_bit all r = true then zb_or all (g r) else all)
def ic_out (g : Int → Int) : Nat → Int → Int
  | 0, all => all
  | k + 1, all => ic_out g k (ic_in g 8 0 all)
theorem zb_bit_t {s r : Int} (h : zb_and (zb_shr s r) 1 = 1) : zb_bit s r = true := decide_eq_true h
theorem zb_bit_f {s r : Int} (h : ¬ zb_and (zb_shr s r) 1 = 1) : ¬ zb_bit s r = true := fun hh => h (of_decide_eq_true hh)
def ak_of (who old : Int) : Int := if who < 0 then -1 else if old = 1 then who + 8 else who
def hd_m (B : Nat → Int → Int) (who : Int) : Int := if 0 ≤ who then ic_out (B 1) 8 (B 2 who) else 0
theorem lp_132i {X : zz_X} {d n : Nat} {m : Nat} {V : Nat → Int} {B : Nat → Int → Int} {h0 : zz_H} {st p : Int} {Q : Option Value → Nat → zz_H → Prop} : ∀ (k : Nat) (r all : Int), r + k = 8 → 0 ≤ r → (∀ r', zz_Z X mm_132 d Q 0 0 50 [some (.ref m), some (zv st), some (zv (ic_in (B 1) k r all)), some (zv p), some (zv r')] [] n (md_H m V B h0)) →
    zz_Z X mm_132 d Q 0 0 13 [some (.ref m), some (zv st), some (zv all), some (zv p), some (zv r)] [] n (md_H m V B h0) := by
  intro k
  induction k with
  | zero =>
    intro r all hk hr hQ
    refine zj_iload dk_132_13 rfl ?_
    refine zj_bipush dk_132_15 (by decide) ?_
    refine zj_icmp_ge (t := 50) dk_132_17 rfl (by omega) (fun c17 => ?_) (fun c17 => ?_)
    · skip
      exact hQ _
    · omega
  | succ k ih =>
    intro r all hk hr hQ
    unfold ic_in at hQ
    have hrg := zb_and_rg (zb_shr all r) 1
    refine zj_iload dk_132_13 rfl ?_
    refine zj_bipush dk_132_15 (by decide) ?_
    refine zj_icmp_ge (t := 50) dk_132_17 rfl (by omega) (fun c17 => ?_) (fun c17 => ?_)
    · omega
    · skip
      refine zj_iload_n dk_132_20 rfl ?_
      refine zj_iload dk_132_21 rfl ?_
      refine zj_ishr dk_132_23 ?_
      refine zj_iconst dk_132_24 ?_
      refine zj_iand dk_132_25 ?_
      refine zj_iconst dk_132_26 ?_
      refine zj_icmp_ne (t := 42) dk_132_27 rfl (by omega) (fun c27 => ?_) (fun c27 => ?_)
      · skip
        refine zj_iload_n dk_132_42 rfl ?_
        refine zj_istore_n dk_132_43 rfl ?_
        refine zj_iinc dk_132_44 rfl rfl ?_
        refine zi_goto (t := 13) dk_132_47 rfl ?_
        exact ih _ _ (by omega) (by omega) (fun r' => by have hh := hQ r'; first | (rw [if_pos (zb_bit_t (by assumption))] at hh; exact hh) | (rw [if_neg (zb_bit_f (by assumption))] at hh; exact hh))
      · skip
        refine zj_iload_n dk_132_30 rfl ?_
        refine zi_aload_n dk_132_31 rfl rfl ?_
        refine zi_getf dk_132_32 fl_13_7 md_0 rfl ?_
        refine zj_iload dk_132_35 rfl ?_
        refine md_iald (k := 1) (N := 8) dk_132_37 (by decide) rfl rfl (by omega) ?_
        refine zj_ior dk_132_38 ?_
        refine zi_goto (t := 43) dk_132_39 rfl ?_
        refine zj_istore_n dk_132_43 rfl ?_
        refine zj_iinc dk_132_44 rfl rfl ?_
        refine zi_goto (t := 13) dk_132_47 rfl ?_
        exact ih _ _ (by omega) (by omega) (fun r' => by have hh := hQ r'; first | (rw [if_pos (zb_bit_t (by assumption))] at hh; exact hh) | (rw [if_neg (zb_bit_f (by assumption))] at hh; exact hh))

theorem lp_132 {X : zz_X} {d n : Nat} {m : Nat} {V : Nat → Int} {B : Nat → Int → Int} {h0 : zz_H} {st : Int} {Q : Option Value → Nat → zz_H → Prop} : ∀ (k : Nat) (p all : Int) (x4 : Option Value), p + k = 8 → 0 ≤ p → Q (some (zv (ic_out (B 1) k all))) n (md_H m V B h0) →
    zz_Z X mm_132 d Q 0 0 4 [some (.ref m), some (zv st), some (zv all), some (zv p), x4] [] n (md_H m V B h0) := by
  intro k
  induction k with
  | zero =>
    intro p all x4 hk hp hQ
    refine zj_iload_n dk_132_4 rfl ?_
    refine zj_bipush dk_132_5 (by decide) ?_
    refine zj_icmp_ge (t := 56) dk_132_7 rfl (by omega) (fun c7 => ?_) (fun c7 => ?_)
    · skip
      refine zj_iload_n dk_132_56 rfl ?_
      refine zj_ireturn dk_132_57 rfl hQ
    · omega
  | succ k ih =>
    intro p all x4 hk hp hQ
    unfold ic_out at hQ
    refine zj_iload_n dk_132_4 rfl ?_
    refine zj_bipush dk_132_5 (by decide) ?_
    refine zj_icmp_ge (t := 56) dk_132_7 rfl (by omega) (fun c7 => ?_) (fun c7 => ?_)
    · omega
    · skip
      refine zj_iconst dk_132_10 ?_
      refine zj_istore dk_132_11 rfl ?_
      refine lp_132i 8 0 all (by omega) (by omega) (fun r' => ?_)
      refine zj_iinc dk_132_50 rfl rfl ?_
      refine zi_goto (t := 4) dk_132_53 rfl ?_
      exact ih _ _ _ (by omega) (by omega) hQ

theorem ct_132 {X : zz_X} {d n : Nat}  {m : Nat} {V : Nat → Int} {B : Nat → Int → Int} {h0 : zz_H} {st : Int} : zz_Ct X mm_132 d 0 0 [.ref m, zv st] n (md_H m V B h0) (zp (some (zv (ic_out (B 1) 8 st))) n (md_H m V B h0)) := by
  refine zz_start (by decide) (ls := [some (.ref m), some (zv st), none, none, none]) rfl ?_
  refine zj_iload_n dk_132_0 rfl ?_
  refine zj_istore_n dk_132_1 rfl ?_
  refine zj_iconst dk_132_2 ?_
  refine zj_istore_n dk_132_3 rfl ?_
  exact lp_132 8 0 st none (by omega) (by omega) ⟨rfl, rfl, rfl⟩

theorem ct_131 {X : zz_X} {d n : Nat} (hd : 1 ≤ d) {m : Nat} {V : Nat → Int} {B : Nat → Int → Int} {h0 : zz_H} {r0 s0 : Int} (hr : -2147483648 ≤ r0 ∧ r0 < 2147483648) (hs : -2147483648 ≤ s0 ∧ s0 < 2147483648) : zz_Ct X mm_131 d 0 0 [.ref m, zv r0, zv s0] n (md_H m V B h0) (fun r n' h' => n' = n ∧ ((((0 ≤ r0 ∧ r0 < 8) ∧ (0 ≤ s0 ∧ s0 < 8) ∧ zb_bit (ic_out (B 1) 8 (zb_shl 1 r0)) s0 = false) ∧ r = some (zv 1) ∧ h' = md_H m V (va_up B 1 (zU (B 1) r0 (zb_or (B 1 r0) (zb_shl 1 s0)))) h0) ∨ (¬ ((0 ≤ r0 ∧ r0 < 8) ∧ (0 ≤ s0 ∧ s0 < 8) ∧ zb_bit (ic_out (B 1) 8 (zb_shl 1 r0)) s0 = false) ∧ r = some (zv 0) ∧ h' = md_H m V B h0))) := by
  refine zz_start (by decide) (ls := [some (.ref m), some (zv r0), some (zv s0)]) rfl ?_
  have hrg := zb_and_rg (zb_shr (ic_out (B 1) 8 (zb_shl 1 r0)) s0) 1
  refine zj_iload_n dk_131_0 rfl ?_
  refine zj_if_lt (t := 35) dk_131_1 rfl (by omega) (fun c1 => ?_) (fun c1 => ?_)
  · skip
    refine zj_iconst dk_131_35 ?_
    refine zj_zreturn dk_131_36 rfl (by omega) ⟨rfl, Or.inr ⟨fun hh => by first | omega | (have h9 := zb_bit_t (s := ic_out (B 1) 8 (zb_shl 1 r0)) (r := s0) (by assumption); rw [hh.2.2] at h9; cases h9), rfl, rfl⟩⟩
  · skip
    refine zj_iload_n dk_131_4 rfl ?_
    refine zj_bipush dk_131_5 (by decide) ?_
    refine zj_icmp_gt (t := 35) dk_131_7 rfl (by omega) (fun c7 => ?_) (fun c7 => ?_)
    · skip
      refine zj_iconst dk_131_35 ?_
      refine zj_zreturn dk_131_36 rfl (by omega) ⟨rfl, Or.inr ⟨fun hh => by first | omega | (have h9 := zb_bit_t (s := ic_out (B 1) 8 (zb_shl 1 r0)) (r := s0) (by assumption); rw [hh.2.2] at h9; cases h9), rfl, rfl⟩⟩
    · skip
      refine zj_iload_n dk_131_10 rfl ?_
      refine zj_if_lt (t := 35) dk_131_11 rfl (by omega) (fun c11 => ?_) (fun c11 => ?_)
      · skip
        refine zj_iconst dk_131_35 ?_
        refine zj_zreturn dk_131_36 rfl (by omega) ⟨rfl, Or.inr ⟨fun hh => by first | omega | (have h9 := zb_bit_t (s := ic_out (B 1) 8 (zb_shl 1 r0)) (r := s0) (by assumption); rw [hh.2.2] at h9; cases h9), rfl, rfl⟩⟩
      · skip
        refine zj_iload_n dk_131_14 rfl ?_
        refine zj_bipush dk_131_15 (by decide) ?_
        refine zj_icmp_gt (t := 35) dk_131_17 rfl (by omega) (fun c17 => ?_) (fun c17 => ?_)
        · skip
          refine zj_iconst dk_131_35 ?_
          refine zj_zreturn dk_131_36 rfl (by omega) ⟨rfl, Or.inr ⟨fun hh => by first | omega | (have h9 := zb_bit_t (s := ic_out (B 1) 8 (zb_shl 1 r0)) (r := s0) (by assumption); rw [hh.2.2] at h9; cases h9), rfl, rfl⟩⟩
        · skip
          refine zi_aload_n dk_131_20 rfl rfl ?_
          refine zj_iconst dk_131_21 ?_
          refine zj_iload_n dk_131_22 rfl ?_
          refine zj_ishl dk_131_23 ?_
          refine zi_invV dk_131_24 ml_13_160 iv_132 (ct_132 (d := d - 1)) md_0 rfl rfl rfl (Nat.le_of_ble_eq_true rfl) (by omega) rfl rfl (fun r n' h' hq => ?_)
          obtain ⟨rfl, rfl, rfl⟩ := hq
          refine zj_iload_n dk_131_27 rfl ?_
          refine zj_ishr dk_131_28 ?_
          refine zj_iconst dk_131_29 ?_
          refine zj_iand dk_131_30 ?_
          refine zj_iconst dk_131_31 ?_
          refine zj_icmp_ne (t := 37) dk_131_32 rfl (by omega) (fun c32 => ?_) (fun c32 => ?_)
          · skip
            refine zi_aload_n dk_131_37 rfl rfl ?_
            refine zi_getf dk_131_38 fl_13_7 md_0 rfl ?_
            refine zj_iload_n dk_131_41 rfl ?_
            refine zi_dup2 dk_131_42 rfl rfl ?_
            refine md_iald (k := 1) (N := 8) dk_131_43 (by decide) rfl rfl (by omega) ?_
            refine zj_iconst dk_131_44 ?_
            refine zj_iload_n dk_131_45 rfl ?_
            refine zj_ishl dk_131_46 ?_
            refine zj_ior dk_131_47 ?_
            refine md_iast (k := 1) (N := 8) dk_131_48 (by decide) rfl rfl (by omega) ?_
            refine zj_iconst dk_131_49 ?_
            refine zj_zreturn dk_131_50 rfl (by omega) ⟨rfl, Or.inl ⟨⟨by omega, by omega, decide_eq_false c32⟩, rfl, rfl⟩⟩
          · skip
            refine zj_iconst dk_131_35 ?_
            refine zj_zreturn dk_131_36 rfl (by omega) ⟨rfl, Or.inr ⟨fun hh => by first | omega | (have h9 := zb_bit_t (s := ic_out (B 1) 8 (zb_shl 1 r0)) (r := s0) (by assumption); rw [hh.2.2] at h9; cases h9), rfl, rfl⟩⟩

theorem ct_154 {X : zz_X} {d n : Nat}  (hd : 1 ≤ d) {m : Nat} {V : Nat → Int} {B : Nat → Int → Int} {h0 : zz_H} {sz : Int} (hsz : sz ≤ 16) (hw : ex_W (B 17) (B 18) (B 19) sz) {k who old arg : Int} (hk : 0 ≤ k ∧ k < sz) (hns : B 17 k < 4 ∨ 6 < B 17 k) (hwho : -1 ≤ who ∧ who ≤ 5) (hold : old = 0 ∨ old = 1) (harg : -2147483648 ≤ arg ∧ arg < 2147483648) : zz_Ct X mm_154 d 0 0 [.ref m, zv k, zv who, zv old, zv arg] n (md_H m V B h0) (zp (some (zv (ex_sv (B 17 k) (B 18 k) (B 19 k) (ak_of who old) (hd_m B who) arg))) n (md_H m V B h0)) := by
  refine zz_start (by decide) (ls := [some (.ref m), some (zv k), some (zv who), some (zv old), some (zv arg)]) rfl ?_
  have hrg := zb_and_rg (zb_shr (ic_out (B 1) 8 (B 2 who)) (B 18 k)) 1
  obtain ⟨w1, w2, w3, w4, w5, w6⟩ := hw k hk.1 hk.2
  have hop : B 17 k = 0 ∨ B 17 k = 1 ∨ B 17 k = 2 ∨ B 17 k = 3 ∨ B 17 k = 7 ∨ B 17 k = 8 ∨ B 17 k = 9 := by omega
  rcases hop with hop | hop | hop | hop | hop | hop | hop
  · refine zi_aload_n dk_154_0 rfl rfl ?_
    refine zi_getf dk_154_1 fl_13_59 md_0 rfl ?_
    refine zj_iload_n dk_154_4 rfl ?_
    refine md_iald (k := 17) (N := 16) dk_154_5 (by decide) rfl rfl (by omega) ?_
    rw [hop]
    refine zj_tabIn (t := 56) dk_154_6 (by decide) rfl rfl ?_
    refine zj_iconst dk_154_56 ?_
    refine zj_ireturn dk_154_57 rfl ⟨by rw [exs_0], rfl, rfl⟩
  · refine zi_aload_n dk_154_0 rfl rfl ?_
    refine zi_getf dk_154_1 fl_13_59 md_0 rfl ?_
    refine zj_iload_n dk_154_4 rfl ?_
    refine md_iald (k := 17) (N := 16) dk_154_5 (by decide) rfl rfl (by omega) ?_
    rw [hop]
    refine zj_tabIn (t := 58) dk_154_6 (by decide) rfl rfl ?_
    refine zj_iload_n dk_154_58 rfl ?_
    refine zj_if_lt (t := 66) dk_154_59 rfl (by omega) (fun c59 => ?_) (fun c59 => ?_)
    · skip
      refine zj_iconst dk_154_66 ?_
      refine zi_invS dk_154_67 ml_13_163 is_155 (ct_155 (d := d - 1) (by omega)) rfl rfl (Nat.le_of_ble_eq_true rfl) (by omega) rfl rfl (fun r n' h' hq => ?_)
      obtain ⟨rfl, rfl, rfl⟩ := hq
      refine zj_ireturn dk_154_70 rfl ⟨by rw [exs_1]; congr 2; unfold ak_of; (repeat' split) <;> omega, rfl, rfl⟩
    · skip
      refine zj_iconst dk_154_62 ?_
      refine zi_goto (t := 67) dk_154_63 rfl ?_
      refine zi_invS dk_154_67 ml_13_163 is_155 (ct_155 (d := d - 1) (by omega)) rfl rfl (Nat.le_of_ble_eq_true rfl) (by omega) rfl rfl (fun r n' h' hq => ?_)
      obtain ⟨rfl, rfl, rfl⟩ := hq
      refine zj_ireturn dk_154_70 rfl ⟨by rw [exs_1]; congr 2; unfold ak_of; (repeat' split) <;> omega, rfl, rfl⟩
  · refine zi_aload_n dk_154_0 rfl rfl ?_
    refine zi_getf dk_154_1 fl_13_59 md_0 rfl ?_
    refine zj_iload_n dk_154_4 rfl ?_
    refine md_iald (k := 17) (N := 16) dk_154_5 (by decide) rfl rfl (by omega) ?_
    rw [hop]
    refine zj_tabIn (t := 71) dk_154_6 (by decide) rfl rfl ?_
    refine zj_iload_n dk_154_71 rfl ?_
    refine zj_if_lt (t := 83) dk_154_72 rfl (by omega) (fun c72 => ?_) (fun c72 => ?_)
    · skip
      refine zj_iconst dk_154_83 ?_
      refine zi_invS dk_154_84 ml_13_163 is_155 (ct_155 (d := d - 1) (by omega)) rfl rfl (Nat.le_of_ble_eq_true rfl) (by omega) rfl rfl (fun r n' h' hq => ?_)
      obtain ⟨rfl, rfl, rfl⟩ := hq
      refine zj_ireturn dk_154_87 rfl ⟨by rw [exs_2]; congr 2; unfold ak_of; (repeat' split) <;> omega, rfl, rfl⟩
    · skip
      refine zj_iload_n dk_154_75 rfl ?_
      refine zj_if_ne (t := 83) dk_154_76 rfl (by omega) (fun c76 => ?_) (fun c76 => ?_)
      · skip
        refine zj_iconst dk_154_83 ?_
        refine zi_invS dk_154_84 ml_13_163 is_155 (ct_155 (d := d - 1) (by omega)) rfl rfl (Nat.le_of_ble_eq_true rfl) (by omega) rfl rfl (fun r n' h' hq => ?_)
        obtain ⟨rfl, rfl, rfl⟩ := hq
        refine zj_ireturn dk_154_87 rfl ⟨by rw [exs_2]; congr 2; unfold ak_of; (repeat' split) <;> omega, rfl, rfl⟩
      · skip
        refine zj_iconst dk_154_79 ?_
        refine zi_goto (t := 84) dk_154_80 rfl ?_
        refine zi_invS dk_154_84 ml_13_163 is_155 (ct_155 (d := d - 1) (by omega)) rfl rfl (Nat.le_of_ble_eq_true rfl) (by omega) rfl rfl (fun r n' h' hq => ?_)
        obtain ⟨rfl, rfl, rfl⟩ := hq
        refine zj_ireturn dk_154_87 rfl ⟨by rw [exs_2]; congr 2; unfold ak_of; (repeat' split) <;> omega, rfl, rfl⟩
  · refine zi_aload_n dk_154_0 rfl rfl ?_
    refine zi_getf dk_154_1 fl_13_59 md_0 rfl ?_
    refine zj_iload_n dk_154_4 rfl ?_
    refine md_iald (k := 17) (N := 16) dk_154_5 (by decide) rfl rfl (by omega) ?_
    rw [hop]
    refine zj_tabIn (t := 88) dk_154_6 (by decide) rfl rfl ?_
    refine zj_iload_n dk_154_88 rfl ?_
    refine zj_if_lt (t := 119) dk_154_89 rfl (by omega) (fun c89 => ?_) (fun c89 => ?_)
    · skip
      refine zj_iconst dk_154_119 ?_
      refine zi_invS dk_154_120 ml_13_163 is_155 (ct_155 (d := d - 1) (by omega)) rfl rfl (Nat.le_of_ble_eq_true rfl) (by omega) rfl rfl (fun r n' h' hq => ?_)
      obtain ⟨rfl, rfl, rfl⟩ := hq
      refine zj_ireturn dk_154_123 rfl ⟨by rw [exs_3]; congr 2; unfold ak_of hd_m; first | (rw [if_pos (show who < 0 by omega), if_neg (by omega)]; done) | (rw [if_neg (show ¬ who < 0 by omega), if_pos (show 0 ≤ who by omega)]; first | (rw [zb_bit_t (by assumption), if_pos (by constructor; (split <;> omega); rfl)]; done) | (rw [show zb_bit (ic_out (B 1) 8 (B 2 who)) (B 18 k) = false from decide_eq_false (by assumption), if_neg (fun hh => absurd hh.2 (by decide))])), rfl, rfl⟩
    · skip
      refine zi_aload_n dk_154_92 rfl rfl ?_
      refine zi_aload_n dk_154_93 rfl rfl ?_
      refine zi_getf dk_154_94 fl_13_13 md_0 rfl ?_
      refine zj_iload_n dk_154_97 rfl ?_
      refine md_iald (k := 2) (N := 6) dk_154_98 (by decide) rfl rfl (by omega) ?_
      refine zi_invV dk_154_99 ml_13_160 iv_132 (ct_132 (d := d - 1)) md_0 rfl rfl rfl (Nat.le_of_ble_eq_true rfl) (by omega) rfl rfl (fun r n' h' hq => ?_)
      obtain ⟨rfl, rfl, rfl⟩ := hq
      refine zi_aload_n dk_154_102 rfl rfl ?_
      refine zi_getf dk_154_103 fl_13_62 md_0 rfl ?_
      refine zj_iload_n dk_154_106 rfl ?_
      refine md_iald (k := 18) (N := 16) dk_154_107 (by decide) rfl rfl (by omega) ?_
      refine zj_ishr dk_154_108 ?_
      refine zj_iconst dk_154_109 ?_
      refine zj_iand dk_154_110 ?_
      refine zj_iconst dk_154_111 ?_
      refine zj_icmp_ne (t := 119) dk_154_112 rfl (by omega) (fun c112 => ?_) (fun c112 => ?_)
      · skip
        refine zj_iconst dk_154_119 ?_
        refine zi_invS dk_154_120 ml_13_163 is_155 (ct_155 (d := d - 1) (by omega)) rfl rfl (Nat.le_of_ble_eq_true rfl) (by omega) rfl rfl (fun r n' h' hq => ?_)
        obtain ⟨rfl, rfl, rfl⟩ := hq
        refine zj_ireturn dk_154_123 rfl ⟨by rw [exs_3]; congr 2; unfold ak_of hd_m; first | (rw [if_pos (show who < 0 by omega), if_neg (by omega)]; done) | (rw [if_neg (show ¬ who < 0 by omega), if_pos (show 0 ≤ who by omega)]; first | (rw [zb_bit_t (by assumption), if_pos (by constructor; (split <;> omega); rfl)]; done) | (rw [show zb_bit (ic_out (B 1) 8 (B 2 who)) (B 18 k) = false from decide_eq_false (by assumption), if_neg (fun hh => absurd hh.2 (by decide))])), rfl, rfl⟩
      · skip
        refine zj_iconst dk_154_115 ?_
        refine zi_goto (t := 120) dk_154_116 rfl ?_
        refine zi_invS dk_154_120 ml_13_163 is_155 (ct_155 (d := d - 1) (by omega)) rfl rfl (Nat.le_of_ble_eq_true rfl) (by omega) rfl rfl (fun r n' h' hq => ?_)
        obtain ⟨rfl, rfl, rfl⟩ := hq
        refine zj_ireturn dk_154_123 rfl ⟨by rw [exs_3]; congr 2; unfold ak_of hd_m; first | (rw [if_pos (show who < 0 by omega), if_neg (by omega)]; done) | (rw [if_neg (show ¬ who < 0 by omega), if_pos (show 0 ≤ who by omega)]; first | (rw [zb_bit_t (by assumption), if_pos (by constructor; (split <;> omega); rfl)]; done) | (rw [show zb_bit (ic_out (B 1) 8 (B 2 who)) (B 18 k) = false from decide_eq_false (by assumption), if_neg (fun hh => absurd hh.2 (by decide))])), rfl, rfl⟩
  · refine zi_aload_n dk_154_0 rfl rfl ?_
    refine zi_getf dk_154_1 fl_13_59 md_0 rfl ?_
    refine zj_iload_n dk_154_4 rfl ?_
    refine md_iald (k := 17) (N := 16) dk_154_5 (by decide) rfl rfl (by omega) ?_
    rw [hop]
    refine zj_tabIn (t := 124) dk_154_6 (by decide) rfl rfl ?_
    refine zj_iload_n dk_154_124 rfl ?_
    refine zj_if_lt (t := 138) dk_154_125 rfl (by omega) (fun c125 => ?_) (fun c125 => ?_)
    · skip
      refine zj_iconst dk_154_138 ?_
      refine zi_invS dk_154_139 ml_13_163 is_155 (ct_155 (d := d - 1) (by omega)) rfl rfl (Nat.le_of_ble_eq_true rfl) (by omega) rfl rfl (fun r n' h' hq => ?_)
      obtain ⟨rfl, rfl, rfl⟩ := hq
      refine zj_ireturn dk_154_142 rfl ⟨by rw [exs_7]; congr 2; unfold ak_of; (repeat' split) <;> omega, rfl, rfl⟩
    · skip
      refine zj_iload_n dk_154_128 rfl ?_
      refine zj_iload dk_154_129 rfl ?_
      refine zj_icmp_ne (t := 138) dk_154_131 rfl (by omega) (fun c131 => ?_) (fun c131 => ?_)
      · skip
        refine zj_iconst dk_154_138 ?_
        refine zi_invS dk_154_139 ml_13_163 is_155 (ct_155 (d := d - 1) (by omega)) rfl rfl (Nat.le_of_ble_eq_true rfl) (by omega) rfl rfl (fun r n' h' hq => ?_)
        obtain ⟨rfl, rfl, rfl⟩ := hq
        refine zj_ireturn dk_154_142 rfl ⟨by rw [exs_7]; congr 2; unfold ak_of; (repeat' split) <;> omega, rfl, rfl⟩
      · skip
        refine zj_iconst dk_154_134 ?_
        refine zi_goto (t := 139) dk_154_135 rfl ?_
        refine zi_invS dk_154_139 ml_13_163 is_155 (ct_155 (d := d - 1) (by omega)) rfl rfl (Nat.le_of_ble_eq_true rfl) (by omega) rfl rfl (fun r n' h' hq => ?_)
        obtain ⟨rfl, rfl, rfl⟩ := hq
        refine zj_ireturn dk_154_142 rfl ⟨by rw [exs_7]; congr 2; unfold ak_of; (repeat' split) <;> omega, rfl, rfl⟩
  · refine zi_aload_n dk_154_0 rfl rfl ?_
    refine zi_getf dk_154_1 fl_13_59 md_0 rfl ?_
    refine zj_iload_n dk_154_4 rfl ?_
    refine md_iald (k := 17) (N := 16) dk_154_5 (by decide) rfl rfl (by omega) ?_
    rw [hop]
    refine zj_tabIn (t := 143) dk_154_6 (by decide) rfl rfl ?_
    refine zj_iload dk_154_143 rfl ?_
    refine zi_aload_n dk_154_145 rfl rfl ?_
    refine zi_getf dk_154_146 fl_13_62 md_0 rfl ?_
    refine zj_iload_n dk_154_149 rfl ?_
    refine md_iald (k := 18) (N := 16) dk_154_150 (by decide) rfl rfl (by omega) ?_
    refine zj_icmp_ge (t := 158) dk_154_151 rfl (by omega) (fun c151 => ?_) (fun c151 => ?_)
    · skip
      refine zj_iconst dk_154_158 ?_
      refine zi_invS dk_154_159 ml_13_163 is_155 (ct_155 (d := d - 1) (by omega)) rfl rfl (Nat.le_of_ble_eq_true rfl) (by omega) rfl rfl (fun r n' h' hq => ?_)
      obtain ⟨rfl, rfl, rfl⟩ := hq
      refine zj_ireturn dk_154_162 rfl ⟨by rw [exs_8]; congr 2; (repeat' split) <;> omega, rfl, rfl⟩
    · skip
      refine zj_iconst dk_154_154 ?_
      refine zi_goto (t := 159) dk_154_155 rfl ?_
      refine zi_invS dk_154_159 ml_13_163 is_155 (ct_155 (d := d - 1) (by omega)) rfl rfl (Nat.le_of_ble_eq_true rfl) (by omega) rfl rfl (fun r n' h' hq => ?_)
      obtain ⟨rfl, rfl, rfl⟩ := hq
      refine zj_ireturn dk_154_162 rfl ⟨by rw [exs_8]; congr 2; (repeat' split) <;> omega, rfl, rfl⟩
  · refine zi_aload_n dk_154_0 rfl rfl ?_
    refine zi_getf dk_154_1 fl_13_59 md_0 rfl ?_
    refine zj_iload_n dk_154_4 rfl ?_
    refine md_iald (k := 17) (N := 16) dk_154_5 (by decide) rfl rfl (by omega) ?_
    rw [hop]
    refine zj_tabOut (t := 163) dk_154_6 (by decide) rfl ?_
    refine zj_iload dk_154_163 rfl ?_
    refine zj_if_ne (t := 172) dk_154_165 rfl (by omega) (fun c165 => ?_) (fun c165 => ?_)
    · skip
      refine zi_aload_n dk_154_172 rfl rfl ?_
      refine zi_getf dk_154_173 fl_13_65 md_0 rfl ?_
      refine zj_iload_n dk_154_176 rfl ?_
      refine md_iald (k := 19) (N := 16) dk_154_177 (by decide) rfl rfl (by omega) ?_
      refine zj_iload dk_154_178 rfl ?_
      refine zj_idiv dk_154_180 (by omega) ?_
      refine zi_aload_n dk_154_181 rfl rfl ?_
      refine zi_getf dk_154_182 fl_13_62 md_0 rfl ?_
      refine zj_iload_n dk_154_185 rfl ?_
      refine md_iald (k := 18) (N := 16) dk_154_186 (by decide) rfl rfl (by omega) ?_
      refine zj_icmp_lt (t := 194) dk_154_187 rfl (by have := zb_div_rg (B 19 k) arg; omega) (fun c187 => ?_) (fun c187 => ?_)
      · skip
        refine zj_iconst dk_154_194 ?_
        refine zi_invS dk_154_195 ml_13_163 is_155 (ct_155 (d := d - 1) (by omega)) rfl rfl (Nat.le_of_ble_eq_true rfl) (by omega) rfl rfl (fun r n' h' hq => ?_)
        obtain ⟨rfl, rfl, rfl⟩ := hq
        refine zj_ireturn dk_154_198 rfl ⟨by rw [exs_9]; congr 2; (repeat' split) <;> omega, rfl, rfl⟩
      · skip
        refine zj_iconst dk_154_190 ?_
        refine zi_goto (t := 195) dk_154_191 rfl ?_
        refine zi_invS dk_154_195 ml_13_163 is_155 (ct_155 (d := d - 1) (by omega)) rfl rfl (Nat.le_of_ble_eq_true rfl) (by omega) rfl rfl (fun r n' h' hq => ?_)
        obtain ⟨rfl, rfl, rfl⟩ := hq
        refine zj_ireturn dk_154_198 rfl ⟨by rw [exs_9]; congr 2; (repeat' split) <;> omega, rfl, rfl⟩
    · skip
      refine zj_iconst dk_154_168 ?_
      refine zi_goto (t := 198) dk_154_169 rfl ?_
      refine zj_ireturn dk_154_198 rfl ⟨by rw [exs_9]; congr 2; (repeat' split) <;> omega, rfl, rfl⟩

theorem lp_153 {X : zz_X} {d n : Nat} (hd : 2 ≤ d) {m : Nat} {V : Nat → Int} {B0 : Nat → Int → Int} {h0 : zz_H} {sz : Int} (hsz : sz ≤ 16) (hw0 : ex_W (B0 17) (B0 18) (B0 19) sz) {e who old arg : Int} (he : 0 ≤ e ∧ e < sz) (hwho : -1 ≤ who ∧ who ≤ 5) (hold : old = 0 ∨ old = 1) (harg : -2147483648 ≤ arg ∧ arg < 2147483648) {Q : Option Value → Nat → zz_H → Prop} : ∀ (k : Nat) (i : Int) (B : Nat → Int → Int) (x6 x7 x8 : Option Value), ax [20] B0 B → ex_V (B 20) → i + k = e + 1 → 0 ≤ i → (∀ B', ax [20] B0 B' → ex_V (B' 20) → B' 20 e = ex_run (B0 17) (B0 18) (B0 19) (ak_of who old) (hd_m B0 who) arg k i (B 20) e → Q (some (zv (B' 20 e))) n (md_H m V B' h0)) →
    zz_Z X mm_153 d Q 0 0 3 [some (.ref m), some (zv e), some (zv who), some (zv old), some (zv arg), some (zv i), x6, x7, x8] [] n (md_H m V B h0) := by
  intro k
  induction k with
  | zero =>
    intro i B x6 x7 x8 hax hv hk hi hQ
    refine zj_iload dk_153_3 rfl ?_
    refine zj_iload_n dk_153_5 rfl ?_
    refine zj_icmp_gt (t := 211) dk_153_6 rfl (by omega) (fun c6 => ?_) (fun c6 => ?_)
    · skip
      refine zi_aload_n dk_153_211 rfl rfl ?_
      refine zi_getf dk_153_212 fl_13_68 md_0 rfl ?_
      refine zj_iload_n dk_153_215 rfl ?_
      refine md_iald (k := 20) (N := 16) dk_153_216 (by decide) rfl rfl (by omega) ?_
      refine zj_ireturn dk_153_217 rfl (hQ B hax hv rfl)
    · omega
  | succ k ih =>
    intro i B x6 x7 x8 hax hv hk hi hQ
    have e17 : B 17 = B0 17 := hax 17 (by decide)
    have e18 : B 18 = B0 18 := hax 18 (by decide)
    have e19 : B 19 = B0 19 := hax 19 (by decide)
    have ehd : hd_m B who = hd_m B0 who := by unfold hd_m; rw [hax 1 (by decide), hax 2 (by decide)]
    have hw : ex_W (B 17) (B 18) (B 19) sz := by rw [e17, e18, e19]; exact hw0
    obtain ⟨w1, w2, w3, w4, w5, w6⟩ := hw i hi (by omega)
    have hop : B 17 i < 4 ∨ 6 < B 17 i ∨ B 17 i = 4 ∨ B 17 i = 5 ∨ B 17 i = 6 := by omega
    rcases hop with hop | hop | hop | hop | hop
    · refine zj_iload dk_153_3 rfl ?_
      refine zj_iload_n dk_153_5 rfl ?_
      refine zj_icmp_gt (t := 211) dk_153_6 rfl (by omega) (fun c6 => ?_) (fun c6 => ?_)
      · omega
      · skip
        refine zi_aload_n dk_153_9 rfl rfl ?_
        refine zi_getf dk_153_10 fl_13_59 md_0 rfl ?_
        refine zj_iload dk_153_13 rfl ?_
        refine md_iald (k := 17) (N := 16) dk_153_15 (by decide) rfl rfl (by omega) ?_
        refine zj_iconst dk_153_16 ?_
        refine zj_icmp_lt (t := 36) dk_153_17 rfl (by omega) (fun c17 => ?_) (fun c17 => ?_)
        · skip
          refine zj_iconst dk_153_36 ?_
          refine zj_istore dk_153_37 rfl ?_
          refine zj_iload dk_153_39 rfl ?_
          refine zj_if_eq (t := 59) dk_153_41 rfl (by omega) (fun c41 => ?_) (fun c41 => ?_)
          · skip
            refine zj_iconst dk_153_59 ?_
            refine zj_istore dk_153_60 rfl ?_
            refine zi_aload_n dk_153_62 rfl rfl ?_
            refine zi_getf dk_153_63 fl_13_59 md_0 rfl ?_
            refine zj_iload dk_153_66 rfl ?_
            refine md_iald (k := 17) (N := 16) dk_153_68 (by decide) rfl rfl (by omega) ?_
            refine zj_iconst dk_153_69 ?_
            refine zj_icmp_eq (t := 85) dk_153_70 rfl (by omega) (fun c70 => ?_) (fun c70 => ?_)
            · omega
            · skip
              refine zi_aload_n dk_153_73 rfl rfl ?_
              refine zi_getf dk_153_74 fl_13_59 md_0 rfl ?_
              refine zj_iload dk_153_77 rfl ?_
              refine md_iald (k := 17) (N := 16) dk_153_79 (by decide) rfl rfl (by omega) ?_
              refine zj_bipush dk_153_80 (by decide) ?_
              refine zj_icmp_ne (t := 100) dk_153_82 rfl (by omega) (fun c82 => ?_) (fun c82 => ?_)
              · skip
                refine zj_iconst dk_153_100 ?_
                refine zj_istore dk_153_101 rfl ?_
                refine zj_iload dk_153_103 rfl ?_
                refine zj_if_ne (t := 128) dk_153_105 rfl (by omega) (fun c105 => ?_) (fun c105 => ?_)
                · omega
                · skip
                  refine zi_aload_n dk_153_108 rfl rfl ?_
                  refine zi_getf dk_153_109 fl_13_68 md_0 rfl ?_
                  refine zj_iload dk_153_112 rfl ?_
                  refine zi_aload_n dk_153_114 rfl rfl ?_
                  refine zj_iload dk_153_115 rfl ?_
                  refine zj_iload_n dk_153_117 rfl ?_
                  refine zj_iload_n dk_153_118 rfl ?_
                  refine zj_iload dk_153_119 rfl ?_
                  refine zi_invV dk_153_121 ml_13_167 iv_154 (ct_154 (d := d - 1) (by omega) hsz hw ⟨hi, by omega⟩ (by omega) hwho hold harg) md_0 rfl rfl rfl (Nat.le_of_ble_eq_true rfl) (by omega) rfl rfl (fun r n' h' hq => ?_)
                  obtain ⟨rfl, rfl, rfl⟩ := hq
                  have hsr := ex_sv_rg (B 17 i) (B 18 i) (B 19 i) (ak_of who old) (hd_m B who) arg
                  refine md_iast (k := 20) (N := 16) dk_153_124 (by decide) rfl rfl (by omega) ?_
                  refine zi_goto (t := 205) dk_153_125 rfl ?_
                  refine zj_iinc dk_153_205 rfl rfl ?_
                  refine zi_goto (t := 3) dk_153_208 rfl ?_
                  refine ih (i + 1) _ _ _ _ (hax.up (by decide)) (fun j h1 h2 => ?_) (by omega) (by omega) (fun B' g1 g2 g3 => hQ B' g1 g2 (g3.trans ?_))
                  · show 0 ≤ zU (B 20) i _ j ∧ zU (B 20) i _ j ≤ 2
                    exact zU_rg (hv j h1 h2) (by omega)
                  · show ex_run (B0 17) (B0 18) (B0 19) (ak_of who old) (hd_m B0 who) arg k (i + 1) (zU (B 20) i _) e = ex_run (B0 17) (B0 18) (B0 19) (ak_of who old) (hd_m B0 who) arg k (i + 1) (zU (B 20) i (ex_step (B0 17) (B0 18) (B0 19) (ak_of who old) (hd_m B0 who) arg (B 20) i)) e
                    rw [← e17, ← e18, ← e19, ← ehd]
                    congr 2
                    unfold ex_step
                    rw [if_neg (by omega)]
              · omega
          · omega
        · omega
    · refine zj_iload dk_153_3 rfl ?_
      refine zj_iload_n dk_153_5 rfl ?_
      refine zj_icmp_gt (t := 211) dk_153_6 rfl (by omega) (fun c6 => ?_) (fun c6 => ?_)
      · omega
      · skip
        refine zi_aload_n dk_153_9 rfl rfl ?_
        refine zi_getf dk_153_10 fl_13_59 md_0 rfl ?_
        refine zj_iload dk_153_13 rfl ?_
        refine md_iald (k := 17) (N := 16) dk_153_15 (by decide) rfl rfl (by omega) ?_
        refine zj_iconst dk_153_16 ?_
        refine zj_icmp_lt (t := 36) dk_153_17 rfl (by omega) (fun c17 => ?_) (fun c17 => ?_)
        · omega
        · skip
          refine zi_aload_n dk_153_20 rfl rfl ?_
          refine zi_getf dk_153_21 fl_13_59 md_0 rfl ?_
          refine zj_iload dk_153_24 rfl ?_
          refine md_iald (k := 17) (N := 16) dk_153_26 (by decide) rfl rfl (by omega) ?_
          refine zj_bipush dk_153_27 (by decide) ?_
          refine zj_icmp_gt (t := 36) dk_153_29 rfl (by omega) (fun c29 => ?_) (fun c29 => ?_)
          · skip
            refine zj_iconst dk_153_36 ?_
            refine zj_istore dk_153_37 rfl ?_
            refine zj_iload dk_153_39 rfl ?_
            refine zj_if_eq (t := 59) dk_153_41 rfl (by omega) (fun c41 => ?_) (fun c41 => ?_)
            · skip
              refine zj_iconst dk_153_59 ?_
              refine zj_istore dk_153_60 rfl ?_
              refine zi_aload_n dk_153_62 rfl rfl ?_
              refine zi_getf dk_153_63 fl_13_59 md_0 rfl ?_
              refine zj_iload dk_153_66 rfl ?_
              refine md_iald (k := 17) (N := 16) dk_153_68 (by decide) rfl rfl (by omega) ?_
              refine zj_iconst dk_153_69 ?_
              refine zj_icmp_eq (t := 85) dk_153_70 rfl (by omega) (fun c70 => ?_) (fun c70 => ?_)
              · omega
              · skip
                refine zi_aload_n dk_153_73 rfl rfl ?_
                refine zi_getf dk_153_74 fl_13_59 md_0 rfl ?_
                refine zj_iload dk_153_77 rfl ?_
                refine md_iald (k := 17) (N := 16) dk_153_79 (by decide) rfl rfl (by omega) ?_
                refine zj_bipush dk_153_80 (by decide) ?_
                refine zj_icmp_ne (t := 100) dk_153_82 rfl (by omega) (fun c82 => ?_) (fun c82 => ?_)
                · skip
                  refine zj_iconst dk_153_100 ?_
                  refine zj_istore dk_153_101 rfl ?_
                  refine zj_iload dk_153_103 rfl ?_
                  refine zj_if_ne (t := 128) dk_153_105 rfl (by omega) (fun c105 => ?_) (fun c105 => ?_)
                  · omega
                  · skip
                    refine zi_aload_n dk_153_108 rfl rfl ?_
                    refine zi_getf dk_153_109 fl_13_68 md_0 rfl ?_
                    refine zj_iload dk_153_112 rfl ?_
                    refine zi_aload_n dk_153_114 rfl rfl ?_
                    refine zj_iload dk_153_115 rfl ?_
                    refine zj_iload_n dk_153_117 rfl ?_
                    refine zj_iload_n dk_153_118 rfl ?_
                    refine zj_iload dk_153_119 rfl ?_
                    refine zi_invV dk_153_121 ml_13_167 iv_154 (ct_154 (d := d - 1) (by omega) hsz hw ⟨hi, by omega⟩ (by omega) hwho hold harg) md_0 rfl rfl rfl (Nat.le_of_ble_eq_true rfl) (by omega) rfl rfl (fun r n' h' hq => ?_)
                    obtain ⟨rfl, rfl, rfl⟩ := hq
                    have hsr := ex_sv_rg (B 17 i) (B 18 i) (B 19 i) (ak_of who old) (hd_m B who) arg
                    refine md_iast (k := 20) (N := 16) dk_153_124 (by decide) rfl rfl (by omega) ?_
                    refine zi_goto (t := 205) dk_153_125 rfl ?_
                    refine zj_iinc dk_153_205 rfl rfl ?_
                    refine zi_goto (t := 3) dk_153_208 rfl ?_
                    refine ih (i + 1) _ _ _ _ (hax.up (by decide)) (fun j h1 h2 => ?_) (by omega) (by omega) (fun B' g1 g2 g3 => hQ B' g1 g2 (g3.trans ?_))
                    · show 0 ≤ zU (B 20) i _ j ∧ zU (B 20) i _ j ≤ 2
                      exact zU_rg (hv j h1 h2) (by omega)
                    · show ex_run (B0 17) (B0 18) (B0 19) (ak_of who old) (hd_m B0 who) arg k (i + 1) (zU (B 20) i _) e = ex_run (B0 17) (B0 18) (B0 19) (ak_of who old) (hd_m B0 who) arg k (i + 1) (zU (B 20) i (ex_step (B0 17) (B0 18) (B0 19) (ak_of who old) (hd_m B0 who) arg (B 20) i)) e
                      rw [← e17, ← e18, ← e19, ← ehd]
                      congr 2
                      unfold ex_step
                      rw [if_neg (by omega)]
                · omega
            · omega
          · omega
    · refine zj_iload dk_153_3 rfl ?_
      refine zj_iload_n dk_153_5 rfl ?_
      refine zj_icmp_gt (t := 211) dk_153_6 rfl (by omega) (fun c6 => ?_) (fun c6 => ?_)
      · omega
      · skip
        refine zi_aload_n dk_153_9 rfl rfl ?_
        refine zi_getf dk_153_10 fl_13_59 md_0 rfl ?_
        refine zj_iload dk_153_13 rfl ?_
        refine md_iald (k := 17) (N := 16) dk_153_15 (by decide) rfl rfl (by omega) ?_
        refine zj_iconst dk_153_16 ?_
        refine zj_icmp_lt (t := 36) dk_153_17 rfl (by omega) (fun c17 => ?_) (fun c17 => ?_)
        · omega
        · skip
          refine zi_aload_n dk_153_20 rfl rfl ?_
          refine zi_getf dk_153_21 fl_13_59 md_0 rfl ?_
          refine zj_iload dk_153_24 rfl ?_
          refine md_iald (k := 17) (N := 16) dk_153_26 (by decide) rfl rfl (by omega) ?_
          refine zj_bipush dk_153_27 (by decide) ?_
          refine zj_icmp_gt (t := 36) dk_153_29 rfl (by omega) (fun c29 => ?_) (fun c29 => ?_)
          · omega
          · skip
            refine zj_iconst dk_153_32 ?_
            refine zi_goto (t := 37) dk_153_33 rfl ?_
            refine zj_istore dk_153_37 rfl ?_
            refine zj_iload dk_153_39 rfl ?_
            refine zj_if_eq (t := 59) dk_153_41 rfl (by omega) (fun c41 => ?_) (fun c41 => ?_)
            · omega
            · skip
              have a5 := w5 (by omega)
              have va := hv (B 18 i) (by omega) (by omega)
              refine zi_aload_n dk_153_44 rfl rfl ?_
              refine zi_getf dk_153_45 fl_13_68 md_0 rfl ?_
              refine zi_aload_n dk_153_48 rfl rfl ?_
              refine zi_getf dk_153_49 fl_13_62 md_0 rfl ?_
              refine zj_iload dk_153_52 rfl ?_
              refine md_iald (k := 18) (N := 16) dk_153_54 (by decide) rfl rfl (by omega) ?_
              refine md_iald (k := 20) (N := 16) dk_153_55 (by decide) rfl rfl (by omega) ?_
              refine zi_goto (t := 60) dk_153_56 rfl ?_
              refine zj_istore dk_153_60 rfl ?_
              refine zi_aload_n dk_153_62 rfl rfl ?_
              refine zi_getf dk_153_63 fl_13_59 md_0 rfl ?_
              refine zj_iload dk_153_66 rfl ?_
              refine md_iald (k := 17) (N := 16) dk_153_68 (by decide) rfl rfl (by omega) ?_
              refine zj_iconst dk_153_69 ?_
              refine zj_icmp_eq (t := 85) dk_153_70 rfl (by omega) (fun c70 => ?_) (fun c70 => ?_)
              · omega
              · skip
                refine zi_aload_n dk_153_73 rfl rfl ?_
                refine zi_getf dk_153_74 fl_13_59 md_0 rfl ?_
                refine zj_iload dk_153_77 rfl ?_
                refine md_iald (k := 17) (N := 16) dk_153_79 (by decide) rfl rfl (by omega) ?_
                refine zj_bipush dk_153_80 (by decide) ?_
                refine zj_icmp_ne (t := 100) dk_153_82 rfl (by omega) (fun c82 => ?_) (fun c82 => ?_)
                · skip
                  refine zj_iconst dk_153_100 ?_
                  refine zj_istore dk_153_101 rfl ?_
                  refine zj_iload dk_153_103 rfl ?_
                  refine zj_if_ne (t := 128) dk_153_105 rfl (by omega) (fun c105 => ?_) (fun c105 => ?_)
                  · skip
                    refine zj_iload dk_153_128 rfl ?_
                    refine zj_iconst dk_153_130 ?_
                    refine zj_icmp_ne (t := 145) dk_153_131 rfl (by omega) (fun c131 => ?_) (fun c131 => ?_)
                    · skip
                      refine zi_aload_n dk_153_145 rfl rfl ?_
                      refine zi_getf dk_153_146 fl_13_59 md_0 rfl ?_
                      refine zj_iload dk_153_149 rfl ?_
                      refine md_iald (k := 17) (N := 16) dk_153_151 (by decide) rfl rfl (by omega) ?_
                      refine zj_iconst dk_153_152 ?_
                      refine zj_icmp_ne (t := 170) dk_153_153 rfl (by omega) (fun c153 => ?_) (fun c153 => ?_)
                      · omega
                      · skip
                        refine zi_aload_n dk_153_156 rfl rfl ?_
                        refine zi_getf dk_153_157 fl_13_68 md_0 rfl ?_
                        refine zj_iload dk_153_160 rfl ?_
                        refine zj_iconst dk_153_162 ?_
                        refine zj_iload dk_153_163 rfl ?_
                        refine zj_isub dk_153_165 ?_
                        refine md_iast (k := 20) (N := 16) dk_153_166 (by decide) rfl rfl (by omega) ?_
                        refine zi_goto (t := 205) dk_153_167 rfl ?_
                        refine zj_iinc dk_153_205 rfl rfl ?_
                        refine zi_goto (t := 3) dk_153_208 rfl ?_
                        refine ih (i + 1) _ _ _ _ (hax.up (by decide)) (fun j h1 h2 => ?_) (by omega) (by omega) (fun B' g1 g2 g3 => hQ B' g1 g2 (g3.trans ?_))
                        · show 0 ≤ zU (B 20) i _ j ∧ zU (B 20) i _ j ≤ 2
                          exact zU_rg (hv j h1 h2) (by omega)
                        · show ex_run (B0 17) (B0 18) (B0 19) (ak_of who old) (hd_m B0 who) arg k (i + 1) (zU (B 20) i _) e = ex_run (B0 17) (B0 18) (B0 19) (ak_of who old) (hd_m B0 who) arg k (i + 1) (zU (B 20) i (ex_step (B0 17) (B0 18) (B0 19) (ak_of who old) (hd_m B0 who) arg (B 20) i)) e
                          rw [← e17, ← e18, ← e19, ← ehd]
                          congr 2
                          unfold ex_step
                          rw [if_pos (by omega)]
                          unfold ex_jv
                          (repeat' split) <;> omega
                    · skip
                      refine zi_aload_n dk_153_134 rfl rfl ?_
                      refine zi_getf dk_153_135 fl_13_68 md_0 rfl ?_
                      refine zj_iload dk_153_138 rfl ?_
                      refine zj_iconst dk_153_140 ?_
                      refine md_iast (k := 20) (N := 16) dk_153_141 (by decide) rfl rfl (by omega) ?_
                      refine zi_goto (t := 205) dk_153_142 rfl ?_
                      refine zj_iinc dk_153_205 rfl rfl ?_
                      refine zi_goto (t := 3) dk_153_208 rfl ?_
                      refine ih (i + 1) _ _ _ _ (hax.up (by decide)) (fun j h1 h2 => ?_) (by omega) (by omega) (fun B' g1 g2 g3 => hQ B' g1 g2 (g3.trans ?_))
                      · show 0 ≤ zU (B 20) i _ j ∧ zU (B 20) i _ j ≤ 2
                        exact zU_rg (hv j h1 h2) (by omega)
                      · show ex_run (B0 17) (B0 18) (B0 19) (ak_of who old) (hd_m B0 who) arg k (i + 1) (zU (B 20) i _) e = ex_run (B0 17) (B0 18) (B0 19) (ak_of who old) (hd_m B0 who) arg k (i + 1) (zU (B 20) i (ex_step (B0 17) (B0 18) (B0 19) (ak_of who old) (hd_m B0 who) arg (B 20) i)) e
                        rw [← e17, ← e18, ← e19, ← ehd]
                        congr 2
                        unfold ex_step
                        rw [if_pos (by omega)]
                        unfold ex_jv
                        (repeat' split) <;> omega
                  · omega
                · omega
    · refine zj_iload dk_153_3 rfl ?_
      refine zj_iload_n dk_153_5 rfl ?_
      refine zj_icmp_gt (t := 211) dk_153_6 rfl (by omega) (fun c6 => ?_) (fun c6 => ?_)
      · omega
      · skip
        refine zi_aload_n dk_153_9 rfl rfl ?_
        refine zi_getf dk_153_10 fl_13_59 md_0 rfl ?_
        refine zj_iload dk_153_13 rfl ?_
        refine md_iald (k := 17) (N := 16) dk_153_15 (by decide) rfl rfl (by omega) ?_
        refine zj_iconst dk_153_16 ?_
        refine zj_icmp_lt (t := 36) dk_153_17 rfl (by omega) (fun c17 => ?_) (fun c17 => ?_)
        · omega
        · skip
          refine zi_aload_n dk_153_20 rfl rfl ?_
          refine zi_getf dk_153_21 fl_13_59 md_0 rfl ?_
          refine zj_iload dk_153_24 rfl ?_
          refine md_iald (k := 17) (N := 16) dk_153_26 (by decide) rfl rfl (by omega) ?_
          refine zj_bipush dk_153_27 (by decide) ?_
          refine zj_icmp_gt (t := 36) dk_153_29 rfl (by omega) (fun c29 => ?_) (fun c29 => ?_)
          · omega
          · skip
            refine zj_iconst dk_153_32 ?_
            refine zi_goto (t := 37) dk_153_33 rfl ?_
            refine zj_istore dk_153_37 rfl ?_
            refine zj_iload dk_153_39 rfl ?_
            refine zj_if_eq (t := 59) dk_153_41 rfl (by omega) (fun c41 => ?_) (fun c41 => ?_)
            · omega
            · skip
              have a5 := w5 (by omega)
              have va := hv (B 18 i) (by omega) (by omega)
              refine zi_aload_n dk_153_44 rfl rfl ?_
              refine zi_getf dk_153_45 fl_13_68 md_0 rfl ?_
              refine zi_aload_n dk_153_48 rfl rfl ?_
              refine zi_getf dk_153_49 fl_13_62 md_0 rfl ?_
              refine zj_iload dk_153_52 rfl ?_
              refine md_iald (k := 18) (N := 16) dk_153_54 (by decide) rfl rfl (by omega) ?_
              refine md_iald (k := 20) (N := 16) dk_153_55 (by decide) rfl rfl (by omega) ?_
              refine zi_goto (t := 60) dk_153_56 rfl ?_
              refine zj_istore dk_153_60 rfl ?_
              refine zi_aload_n dk_153_62 rfl rfl ?_
              refine zi_getf dk_153_63 fl_13_59 md_0 rfl ?_
              refine zj_iload dk_153_66 rfl ?_
              refine md_iald (k := 17) (N := 16) dk_153_68 (by decide) rfl rfl (by omega) ?_
              refine zj_iconst dk_153_69 ?_
              refine zj_icmp_eq (t := 85) dk_153_70 rfl (by omega) (fun c70 => ?_) (fun c70 => ?_)
              · skip
                have a6 := w6 (by omega)
                have vb := hv (B 19 i) (by omega) (by omega)
                refine zi_aload_n dk_153_85 rfl rfl ?_
                refine zi_getf dk_153_86 fl_13_68 md_0 rfl ?_
                refine zi_aload_n dk_153_89 rfl rfl ?_
                refine zi_getf dk_153_90 fl_13_65 md_0 rfl ?_
                refine zj_iload dk_153_93 rfl ?_
                refine md_iald (k := 19) (N := 16) dk_153_95 (by decide) rfl rfl (by omega) ?_
                refine md_iald (k := 20) (N := 16) dk_153_96 (by decide) rfl rfl (by omega) ?_
                refine zi_goto (t := 101) dk_153_97 rfl ?_
                refine zj_istore dk_153_101 rfl ?_
                refine zj_iload dk_153_103 rfl ?_
                refine zj_if_ne (t := 128) dk_153_105 rfl (by omega) (fun c105 => ?_) (fun c105 => ?_)
                · skip
                  refine zj_iload dk_153_128 rfl ?_
                  refine zj_iconst dk_153_130 ?_
                  refine zj_icmp_ne (t := 145) dk_153_131 rfl (by omega) (fun c131 => ?_) (fun c131 => ?_)
                  · skip
                    refine zi_aload_n dk_153_145 rfl rfl ?_
                    refine zi_getf dk_153_146 fl_13_59 md_0 rfl ?_
                    refine zj_iload dk_153_149 rfl ?_
                    refine md_iald (k := 17) (N := 16) dk_153_151 (by decide) rfl rfl (by omega) ?_
                    refine zj_iconst dk_153_152 ?_
                    refine zj_icmp_ne (t := 170) dk_153_153 rfl (by omega) (fun c153 => ?_) (fun c153 => ?_)
                    · skip
                      refine zi_aload_n dk_153_170 rfl rfl ?_
                      refine zi_getf dk_153_171 fl_13_68 md_0 rfl ?_
                      refine zj_iload dk_153_174 rfl ?_
                      refine zj_iload dk_153_176 rfl ?_
                      refine zi_aload_n dk_153_178 rfl rfl ?_
                      refine zi_getf dk_153_179 fl_13_59 md_0 rfl ?_
                      refine zj_iload dk_153_182 rfl ?_
                      refine md_iald (k := 17) (N := 16) dk_153_184 (by decide) rfl rfl (by omega) ?_
                      refine zj_iconst dk_153_185 ?_
                      refine zj_icmp_ne (t := 193) dk_153_186 rfl (by omega) (fun c186 => ?_) (fun c186 => ?_)
                      · omega
                      · skip
                        refine zj_iconst dk_153_189 ?_
                        refine zi_goto (t := 194) dk_153_190 rfl ?_
                        refine zj_icmp_ne (t := 202) dk_153_194 rfl (by omega) (fun c194 => ?_) (fun c194 => ?_)
                        · skip
                          refine zj_iload dk_153_202 rfl ?_
                          refine md_iast (k := 20) (N := 16) dk_153_204 (by decide) rfl rfl (by omega) ?_
                          refine zj_iinc dk_153_205 rfl rfl ?_
                          refine zi_goto (t := 3) dk_153_208 rfl ?_
                          refine ih (i + 1) _ _ _ _ (hax.up (by decide)) (fun j h1 h2 => ?_) (by omega) (by omega) (fun B' g1 g2 g3 => hQ B' g1 g2 (g3.trans ?_))
                          · show 0 ≤ zU (B 20) i _ j ∧ zU (B 20) i _ j ≤ 2
                            exact zU_rg (hv j h1 h2) (by omega)
                          · show ex_run (B0 17) (B0 18) (B0 19) (ak_of who old) (hd_m B0 who) arg k (i + 1) (zU (B 20) i _) e = ex_run (B0 17) (B0 18) (B0 19) (ak_of who old) (hd_m B0 who) arg k (i + 1) (zU (B 20) i (ex_step (B0 17) (B0 18) (B0 19) (ak_of who old) (hd_m B0 who) arg (B 20) i)) e
                            rw [← e17, ← e18, ← e19, ← ehd]
                            congr 2
                            unfold ex_step
                            rw [if_pos (by omega)]
                            unfold ex_jv
                            (repeat' split) <;> omega
                        · skip
                          refine zj_iload dk_153_197 rfl ?_
                          refine zi_goto (t := 204) dk_153_199 rfl ?_
                          refine md_iast (k := 20) (N := 16) dk_153_204 (by decide) rfl rfl (by omega) ?_
                          refine zj_iinc dk_153_205 rfl rfl ?_
                          refine zi_goto (t := 3) dk_153_208 rfl ?_
                          refine ih (i + 1) _ _ _ _ (hax.up (by decide)) (fun j h1 h2 => ?_) (by omega) (by omega) (fun B' g1 g2 g3 => hQ B' g1 g2 (g3.trans ?_))
                          · show 0 ≤ zU (B 20) i _ j ∧ zU (B 20) i _ j ≤ 2
                            exact zU_rg (hv j h1 h2) (by omega)
                          · show ex_run (B0 17) (B0 18) (B0 19) (ak_of who old) (hd_m B0 who) arg k (i + 1) (zU (B 20) i _) e = ex_run (B0 17) (B0 18) (B0 19) (ak_of who old) (hd_m B0 who) arg k (i + 1) (zU (B 20) i (ex_step (B0 17) (B0 18) (B0 19) (ak_of who old) (hd_m B0 who) arg (B 20) i)) e
                            rw [← e17, ← e18, ← e19, ← ehd]
                            congr 2
                            unfold ex_step
                            rw [if_pos (by omega)]
                            unfold ex_jv
                            (repeat' split) <;> omega
                    · omega
                  · skip
                    refine zi_aload_n dk_153_134 rfl rfl ?_
                    refine zi_getf dk_153_135 fl_13_68 md_0 rfl ?_
                    refine zj_iload dk_153_138 rfl ?_
                    refine zj_iconst dk_153_140 ?_
                    refine md_iast (k := 20) (N := 16) dk_153_141 (by decide) rfl rfl (by omega) ?_
                    refine zi_goto (t := 205) dk_153_142 rfl ?_
                    refine zj_iinc dk_153_205 rfl rfl ?_
                    refine zi_goto (t := 3) dk_153_208 rfl ?_
                    refine ih (i + 1) _ _ _ _ (hax.up (by decide)) (fun j h1 h2 => ?_) (by omega) (by omega) (fun B' g1 g2 g3 => hQ B' g1 g2 (g3.trans ?_))
                    · show 0 ≤ zU (B 20) i _ j ∧ zU (B 20) i _ j ≤ 2
                      exact zU_rg (hv j h1 h2) (by omega)
                    · show ex_run (B0 17) (B0 18) (B0 19) (ak_of who old) (hd_m B0 who) arg k (i + 1) (zU (B 20) i _) e = ex_run (B0 17) (B0 18) (B0 19) (ak_of who old) (hd_m B0 who) arg k (i + 1) (zU (B 20) i (ex_step (B0 17) (B0 18) (B0 19) (ak_of who old) (hd_m B0 who) arg (B 20) i)) e
                      rw [← e17, ← e18, ← e19, ← ehd]
                      congr 2
                      unfold ex_step
                      rw [if_pos (by omega)]
                      unfold ex_jv
                      (repeat' split) <;> omega
                · omega
              · omega
    · refine zj_iload dk_153_3 rfl ?_
      refine zj_iload_n dk_153_5 rfl ?_
      refine zj_icmp_gt (t := 211) dk_153_6 rfl (by omega) (fun c6 => ?_) (fun c6 => ?_)
      · omega
      · skip
        refine zi_aload_n dk_153_9 rfl rfl ?_
        refine zi_getf dk_153_10 fl_13_59 md_0 rfl ?_
        refine zj_iload dk_153_13 rfl ?_
        refine md_iald (k := 17) (N := 16) dk_153_15 (by decide) rfl rfl (by omega) ?_
        refine zj_iconst dk_153_16 ?_
        refine zj_icmp_lt (t := 36) dk_153_17 rfl (by omega) (fun c17 => ?_) (fun c17 => ?_)
        · omega
        · skip
          refine zi_aload_n dk_153_20 rfl rfl ?_
          refine zi_getf dk_153_21 fl_13_59 md_0 rfl ?_
          refine zj_iload dk_153_24 rfl ?_
          refine md_iald (k := 17) (N := 16) dk_153_26 (by decide) rfl rfl (by omega) ?_
          refine zj_bipush dk_153_27 (by decide) ?_
          refine zj_icmp_gt (t := 36) dk_153_29 rfl (by omega) (fun c29 => ?_) (fun c29 => ?_)
          · omega
          · skip
            refine zj_iconst dk_153_32 ?_
            refine zi_goto (t := 37) dk_153_33 rfl ?_
            refine zj_istore dk_153_37 rfl ?_
            refine zj_iload dk_153_39 rfl ?_
            refine zj_if_eq (t := 59) dk_153_41 rfl (by omega) (fun c41 => ?_) (fun c41 => ?_)
            · omega
            · skip
              have a5 := w5 (by omega)
              have va := hv (B 18 i) (by omega) (by omega)
              refine zi_aload_n dk_153_44 rfl rfl ?_
              refine zi_getf dk_153_45 fl_13_68 md_0 rfl ?_
              refine zi_aload_n dk_153_48 rfl rfl ?_
              refine zi_getf dk_153_49 fl_13_62 md_0 rfl ?_
              refine zj_iload dk_153_52 rfl ?_
              refine md_iald (k := 18) (N := 16) dk_153_54 (by decide) rfl rfl (by omega) ?_
              refine md_iald (k := 20) (N := 16) dk_153_55 (by decide) rfl rfl (by omega) ?_
              refine zi_goto (t := 60) dk_153_56 rfl ?_
              refine zj_istore dk_153_60 rfl ?_
              refine zi_aload_n dk_153_62 rfl rfl ?_
              refine zi_getf dk_153_63 fl_13_59 md_0 rfl ?_
              refine zj_iload dk_153_66 rfl ?_
              refine md_iald (k := 17) (N := 16) dk_153_68 (by decide) rfl rfl (by omega) ?_
              refine zj_iconst dk_153_69 ?_
              refine zj_icmp_eq (t := 85) dk_153_70 rfl (by omega) (fun c70 => ?_) (fun c70 => ?_)
              · omega
              · skip
                refine zi_aload_n dk_153_73 rfl rfl ?_
                refine zi_getf dk_153_74 fl_13_59 md_0 rfl ?_
                refine zj_iload dk_153_77 rfl ?_
                refine md_iald (k := 17) (N := 16) dk_153_79 (by decide) rfl rfl (by omega) ?_
                refine zj_bipush dk_153_80 (by decide) ?_
                refine zj_icmp_ne (t := 100) dk_153_82 rfl (by omega) (fun c82 => ?_) (fun c82 => ?_)
                · omega
                · skip
                  have a6 := w6 (by omega)
                  have vb := hv (B 19 i) (by omega) (by omega)
                  refine zi_aload_n dk_153_85 rfl rfl ?_
                  refine zi_getf dk_153_86 fl_13_68 md_0 rfl ?_
                  refine zi_aload_n dk_153_89 rfl rfl ?_
                  refine zi_getf dk_153_90 fl_13_65 md_0 rfl ?_
                  refine zj_iload dk_153_93 rfl ?_
                  refine md_iald (k := 19) (N := 16) dk_153_95 (by decide) rfl rfl (by omega) ?_
                  refine md_iald (k := 20) (N := 16) dk_153_96 (by decide) rfl rfl (by omega) ?_
                  refine zi_goto (t := 101) dk_153_97 rfl ?_
                  refine zj_istore dk_153_101 rfl ?_
                  refine zj_iload dk_153_103 rfl ?_
                  refine zj_if_ne (t := 128) dk_153_105 rfl (by omega) (fun c105 => ?_) (fun c105 => ?_)
                  · skip
                    refine zj_iload dk_153_128 rfl ?_
                    refine zj_iconst dk_153_130 ?_
                    refine zj_icmp_ne (t := 145) dk_153_131 rfl (by omega) (fun c131 => ?_) (fun c131 => ?_)
                    · skip
                      refine zi_aload_n dk_153_145 rfl rfl ?_
                      refine zi_getf dk_153_146 fl_13_59 md_0 rfl ?_
                      refine zj_iload dk_153_149 rfl ?_
                      refine md_iald (k := 17) (N := 16) dk_153_151 (by decide) rfl rfl (by omega) ?_
                      refine zj_iconst dk_153_152 ?_
                      refine zj_icmp_ne (t := 170) dk_153_153 rfl (by omega) (fun c153 => ?_) (fun c153 => ?_)
                      · skip
                        refine zi_aload_n dk_153_170 rfl rfl ?_
                        refine zi_getf dk_153_171 fl_13_68 md_0 rfl ?_
                        refine zj_iload dk_153_174 rfl ?_
                        refine zj_iload dk_153_176 rfl ?_
                        refine zi_aload_n dk_153_178 rfl rfl ?_
                        refine zi_getf dk_153_179 fl_13_59 md_0 rfl ?_
                        refine zj_iload dk_153_182 rfl ?_
                        refine md_iald (k := 17) (N := 16) dk_153_184 (by decide) rfl rfl (by omega) ?_
                        refine zj_iconst dk_153_185 ?_
                        refine zj_icmp_ne (t := 193) dk_153_186 rfl (by omega) (fun c186 => ?_) (fun c186 => ?_)
                        · skip
                          refine zj_iconst dk_153_193 ?_
                          refine zj_icmp_ne (t := 202) dk_153_194 rfl (by omega) (fun c194 => ?_) (fun c194 => ?_)
                          · skip
                            refine zj_iload dk_153_202 rfl ?_
                            refine md_iast (k := 20) (N := 16) dk_153_204 (by decide) rfl rfl (by omega) ?_
                            refine zj_iinc dk_153_205 rfl rfl ?_
                            refine zi_goto (t := 3) dk_153_208 rfl ?_
                            refine ih (i + 1) _ _ _ _ (hax.up (by decide)) (fun j h1 h2 => ?_) (by omega) (by omega) (fun B' g1 g2 g3 => hQ B' g1 g2 (g3.trans ?_))
                            · show 0 ≤ zU (B 20) i _ j ∧ zU (B 20) i _ j ≤ 2
                              exact zU_rg (hv j h1 h2) (by omega)
                            · show ex_run (B0 17) (B0 18) (B0 19) (ak_of who old) (hd_m B0 who) arg k (i + 1) (zU (B 20) i _) e = ex_run (B0 17) (B0 18) (B0 19) (ak_of who old) (hd_m B0 who) arg k (i + 1) (zU (B 20) i (ex_step (B0 17) (B0 18) (B0 19) (ak_of who old) (hd_m B0 who) arg (B 20) i)) e
                              rw [← e17, ← e18, ← e19, ← ehd]
                              congr 2
                              unfold ex_step
                              rw [if_pos (by omega)]
                              unfold ex_jv
                              (repeat' split) <;> omega
                          · skip
                            refine zj_iload dk_153_197 rfl ?_
                            refine zi_goto (t := 204) dk_153_199 rfl ?_
                            refine md_iast (k := 20) (N := 16) dk_153_204 (by decide) rfl rfl (by omega) ?_
                            refine zj_iinc dk_153_205 rfl rfl ?_
                            refine zi_goto (t := 3) dk_153_208 rfl ?_
                            refine ih (i + 1) _ _ _ _ (hax.up (by decide)) (fun j h1 h2 => ?_) (by omega) (by omega) (fun B' g1 g2 g3 => hQ B' g1 g2 (g3.trans ?_))
                            · show 0 ≤ zU (B 20) i _ j ∧ zU (B 20) i _ j ≤ 2
                              exact zU_rg (hv j h1 h2) (by omega)
                            · show ex_run (B0 17) (B0 18) (B0 19) (ak_of who old) (hd_m B0 who) arg k (i + 1) (zU (B 20) i _) e = ex_run (B0 17) (B0 18) (B0 19) (ak_of who old) (hd_m B0 who) arg k (i + 1) (zU (B 20) i (ex_step (B0 17) (B0 18) (B0 19) (ak_of who old) (hd_m B0 who) arg (B 20) i)) e
                              rw [← e17, ← e18, ← e19, ← ehd]
                              congr 2
                              unfold ex_step
                              rw [if_pos (by omega)]
                              unfold ex_jv
                              (repeat' split) <;> omega
                        · omega
                      · omega
                    · skip
                      refine zi_aload_n dk_153_134 rfl rfl ?_
                      refine zi_getf dk_153_135 fl_13_68 md_0 rfl ?_
                      refine zj_iload dk_153_138 rfl ?_
                      refine zj_iconst dk_153_140 ?_
                      refine md_iast (k := 20) (N := 16) dk_153_141 (by decide) rfl rfl (by omega) ?_
                      refine zi_goto (t := 205) dk_153_142 rfl ?_
                      refine zj_iinc dk_153_205 rfl rfl ?_
                      refine zi_goto (t := 3) dk_153_208 rfl ?_
                      refine ih (i + 1) _ _ _ _ (hax.up (by decide)) (fun j h1 h2 => ?_) (by omega) (by omega) (fun B' g1 g2 g3 => hQ B' g1 g2 (g3.trans ?_))
                      · show 0 ≤ zU (B 20) i _ j ∧ zU (B 20) i _ j ≤ 2
                        exact zU_rg (hv j h1 h2) (by omega)
                      · show ex_run (B0 17) (B0 18) (B0 19) (ak_of who old) (hd_m B0 who) arg k (i + 1) (zU (B 20) i _) e = ex_run (B0 17) (B0 18) (B0 19) (ak_of who old) (hd_m B0 who) arg k (i + 1) (zU (B 20) i (ex_step (B0 17) (B0 18) (B0 19) (ak_of who old) (hd_m B0 who) arg (B 20) i)) e
                        rw [← e17, ← e18, ← e19, ← ehd]
                        congr 2
                        unfold ex_step
                        rw [if_pos (by omega)]
                        unfold ex_jv
                        (repeat' split) <;> omega
                  · omega

theorem ct_153 {X : zz_X} {d n : Nat}  (hd : 2 ≤ d) {m : Nat} {V : Nat → Int} {B : Nat → Int → Int} {h0 : zz_H} {sz : Int} (hsz : sz ≤ 16) (hw : ex_W (B 17) (B 18) (B 19) sz) (hv : ex_V (B 20)) {e who old arg : Int} (he : 0 ≤ e ∧ e < sz) (hwho : -1 ≤ who ∧ who ≤ 5) (hold : old = 0 ∨ old = 1) (harg : -2147483648 ≤ arg ∧ arg < 2147483648) : zz_Ct X mm_153 d 0 0 [.ref m, zv e, zv who, zv old, zv arg] n (md_H m V B h0) (fun r n' h' => n' = n ∧ r = some (zv (ex_run (B 17) (B 18) (B 19) (ak_of who old) (hd_m B who) arg (e + 1).toNat 0 (fun _ => 0) e)) ∧ (0 ≤ (ex_run (B 17) (B 18) (B 19) (ak_of who old) (hd_m B who) arg (e + 1).toNat 0 (fun _ => 0) e) ∧ (ex_run (B 17) (B 18) (B 19) (ak_of who old) (hd_m B who) arg (e + 1).toNat 0 (fun _ => 0) e) ≤ 2) ∧ ∃ B', ax [20] B B' ∧ ex_V (B' 20) ∧ h' = md_H m V B' h0) := by
  refine zz_start (by decide) (ls := [some (.ref m), some (zv e), some (zv who), some (zv old), some (zv arg), none, none, none, none]) rfl ?_
  refine zj_iconst dk_153_0 ?_
  refine zj_istore dk_153_1 rfl ?_
  refine lp_153 hd hsz hw he hwho hold harg (e + 1).toNat 0 B none none none ax.rf hv (by omega) (by omega) (fun B' g1 g2 g3 => ?_)
  have hx := g2 e he.1 (by omega)
  rw [g3, ex_ext hw (e + 1).toNat 0 (B 20) (fun _ => 0) (by omega) (by omega) (fun j h1 h2 => by omega) e he.1 (by omega)] at hx ⊢
  exact ⟨rfl, rfl, hx, B', g1, g2, rfl⟩

def md_T (B : Nat → Int → Int) : Prop := (∀ t, 0 ≤ t → t < 6 → (-1 ≤ B 34 t ∧ B 34 t ≤ 5) ∧ (-1 ≤ B 35 t ∧ B 35 t ≤ 5) ∧ (-1 ≤ B 36 t ∧ B 36 t < 16)) ∧ ∀ i, 0 ≤ i → i < 24 → (B 37 i = 0 ∨ B 37 i = 1) ∧ (-1 ≤ B 38 i ∧ B 38 i < 16)
def mc_at (B : Nat → Int → Int) (op i : Int) : Int := if B 38 (4 * i + op) < 0 then B 36 i else B 38 (4 * i + op)
def gl_run (B : Nat → Int → Int) (op : Int) : Nat → Int → Int → Int
  | 0, _, g => g
  | k + 1, t, g => if t < 0 then g else gl_run B op k (B 34 t) (if g < 0 ∧ 0 ≤ B 35 t ∧ B 37 (4 * B 35 t + op) = 1 then mc_at B op (B 35 t) else g)
def wl_run (B : Nat → Int → Int) (op : Int) : Nat → Int → Int
  | 0, w => w
  | k + 1, w => if 0 ≤ w ∧ B 37 (4 * w + op) = 0 then wl_run B op k (B 34 w) else w
theorem mc_at_rg {B : Nat → Int → Int} (T : md_T B) {op i : Int} (ho : 0 ≤ op ∧ op < 4) (hi : 0 ≤ i ∧ i ≤ 5) : -1 ≤ mc_at B op i ∧ mc_at B op i < 16 := by
  have h1 := (T.1 i hi.1 (by omega)).2.2
  have h2 := (T.2 (4 * i + op) (by omega) (by omega)).2
  unfold mc_at
  split <;> omega
theorem gl_rg {B : Nat → Int → Int} (T : md_T B) {op : Int} (ho : 0 ≤ op ∧ op < 4) : ∀ (k : Nat) (t g : Int), t ≤ 5 → (-1 ≤ g ∧ g < 16) → -1 ≤ gl_run B op k t g ∧ gl_run B op k t g < 16
  | 0, _, _, _, h => h
  | k + 1, t, g, ht, h => by
    unfold gl_run
    by_cases h0 : t < 0
    · rw [if_pos h0]; exact h
    · rw [if_neg h0]
      have h1 := T.1 t (by omega) (by omega)
      refine gl_rg T ho k _ _ (by omega) ?_
      by_cases hc : g < 0 ∧ 0 ≤ B 35 t ∧ B 37 (4 * B 35 t + op) = 1
      · rw [if_pos hc]; exact mc_at_rg T ho ⟨hc.2.1, by omega⟩
      · rw [if_neg hc]; exact h
theorem wl_rg {B : Nat → Int → Int} (T : md_T B) {op : Int} : ∀ (k : Nat) (w : Int), (-1 ≤ w ∧ w ≤ 5) → -1 ≤ wl_run B op k w ∧ wl_run B op k w ≤ 5
  | 0, _, h => h
  | k + 1, w, h => by
    unfold wl_run
    by_cases hc : 0 ≤ w ∧ B 37 (4 * w + op) = 0
    · rw [if_pos hc]; exact wl_rg T k _ (T.1 w hc.1 (by omega)).1
    · rw [if_neg hc]; exact h
theorem lp_152 {X : zz_X} {d n : Nat} {m : Nat} {V : Nat → Int} {B : Nat → Int → Int} {h0 : zz_H} (T : md_T B) {ty w op : Int} (ho : 0 ≤ op ∧ op < 4) {Q : Option Value → Nat → zz_H → Prop} : ∀ (k : Nat) (t i g : Int) (x7 : Option Value), i + k = 6 → 0 ≤ i → (-1 ≤ t ∧ t ≤ 5) → Q (some (zv (gl_run B op k t g))) n (md_H m V B h0) → (-1 ≤ g ∧ g < 16) →
    zz_Z X mm_152 d Q 0 0 36 [some (.ref m), some (zv ty), some (zv w), some (zv op), some (zv g), some (zv t), some (zv i), x7] [] n (md_H m V B h0) := by
  intro k
  induction k with
  | zero =>
    intro t i g x7 hk hi ht hQ hg
    refine zj_iload dk_152_36 rfl ?_
    refine zj_bipush dk_152_38 (by decide) ?_
    refine zj_icmp_ge (t := 133) dk_152_40 rfl (by omega) (fun c40 => ?_) (fun c40 => ?_)
    · skip
      refine zj_iload dk_152_133 rfl ?_
      refine zj_ireturn dk_152_135 rfl hQ
    · omega
  | succ k ih =>
    intro t i g x7 hk hi ht hQ hg
    unfold gl_run at hQ
    by_cases ht0 : t < 0
    · rw [if_pos ht0] at hQ
      refine zj_iload dk_152_36 rfl ?_
      refine zj_bipush dk_152_38 (by decide) ?_
      refine zj_icmp_ge (t := 133) dk_152_40 rfl (by omega) (fun c40 => ?_) (fun c40 => ?_)
      · omega
      · skip
        refine zj_iload dk_152_43 rfl ?_
        refine zj_if_lt (t := 133) dk_152_45 rfl (by omega) (fun c45 => ?_) (fun c45 => ?_)
        · skip
          refine zj_iload dk_152_133 rfl ?_
          refine zj_ireturn dk_152_135 rfl hQ
        · omega
    rw [if_neg ht0] at hQ
    have t1 := T.1 t (by omega) (by omega)
    have key : ∀ g2 x7, g2 = (if g < 0 ∧ 0 ≤ B 35 t ∧ B 37 (4 * B 35 t + op) = 1 then mc_at B op (B 35 t) else g) → zz_Z X mm_152 d Q 0 0 118 [some (.ref m), some (zv ty), some (zv w), some (zv op), some (zv g2), some (zv t), some (zv i), x7] [] n (md_H m V B h0) := by
      intro g2 x7 hg2
      refine zi_aload_n dk_152_118 rfl rfl ?_
      refine zi_getf dk_152_119 fl_13_110 md_0 rfl ?_
      refine zj_iload dk_152_122 rfl ?_
      refine md_iald (k := 34) (N := 6) dk_152_124 (by decide) rfl rfl (by omega) ?_
      refine zj_istore dk_152_125 rfl ?_
      refine zj_iinc dk_152_127 rfl rfl ?_
      refine zi_goto (t := 36) dk_152_130 rfl ?_
      exact ih _ _ _ _ (by omega) (by omega) (by omega) (by rw [← hg2] at hQ; exact hQ) (by rw [hg2]; split; exact mc_at_rg T ho (by omega); exact hg)
    refine zj_iload dk_152_36 rfl ?_
    refine zj_bipush dk_152_38 (by decide) ?_
    refine zj_icmp_ge (t := 133) dk_152_40 rfl (by omega) (fun c40 => ?_) (fun c40 => ?_)
    · omega
    · skip
      refine zj_iload dk_152_43 rfl ?_
      refine zj_if_lt (t := 133) dk_152_45 rfl (by omega) (fun c45 => ?_) (fun c45 => ?_)
      · omega
      · skip
        refine zi_aload_n dk_152_48 rfl rfl ?_
        refine zi_getf dk_152_49 fl_13_113 md_0 rfl ?_
        refine zj_iload dk_152_52 rfl ?_
        refine md_iald (k := 35) (N := 6) dk_152_54 (by decide) rfl rfl (by omega) ?_
        refine zj_istore dk_152_55 rfl ?_
        refine zj_iload dk_152_57 rfl ?_
        refine zj_if_lt (t := 118) dk_152_59 rfl (by omega) (fun c59 => ?_) (fun c59 => ?_)
        · skip
          exact key _ _ (by unfold mc_at; (repeat' split) <;> omega)
        · skip
          have d1 := T.2 (4 * B 35 t + op) (by omega) (by omega)
          have f1 := T.1 (B 35 t) (by omega) (by omega)
          refine zi_aload_n dk_152_62 rfl rfl ?_
          refine zi_getf dk_152_63 fl_13_119 md_0 rfl ?_
          refine zj_iconst dk_152_66 ?_
          refine zj_iload dk_152_67 rfl ?_
          refine zj_imul dk_152_69 ?_
          refine zj_iload_n dk_152_70 rfl ?_
          refine zj_iadd dk_152_71 ?_
          refine md_zald (k := 37) (N := 24) dk_152_72 (by decide) rfl rfl (by omega) ?_
          refine zj_if_eq (t := 118) dk_152_73 rfl (by omega) (fun c73 => ?_) (fun c73 => ?_)
          · skip
            exact key _ _ (by unfold mc_at; (repeat' split) <;> omega)
          · skip
            refine zj_iload dk_152_76 rfl ?_
            refine zj_if_ge (t := 95) dk_152_78 rfl (by omega) (fun c78 => ?_) (fun c78 => ?_)
            · skip
              refine zj_iload dk_152_95 rfl ?_
              refine zj_istore dk_152_97 rfl ?_
              refine zj_iload dk_152_99 rfl ?_
              refine zj_if_ge (t := 114) dk_152_101 rfl (by omega) (fun c101 => ?_) (fun c101 => ?_)
              · skip
                refine zj_iload dk_152_114 rfl ?_
                refine zj_istore dk_152_116 rfl ?_
                exact key _ _ (by unfold mc_at; (repeat' split) <;> omega)
              · skip
                refine zi_aload_n dk_152_104 rfl rfl ?_
                refine zi_getf dk_152_105 fl_13_116 md_0 rfl ?_
                refine zj_iload dk_152_108 rfl ?_
                refine md_iald (k := 36) (N := 6) dk_152_110 (by decide) rfl rfl (by omega) ?_
                refine zi_goto (t := 116) dk_152_111 rfl ?_
                refine zj_istore dk_152_116 rfl ?_
                exact key _ _ (by unfold mc_at; (repeat' split) <;> omega)
            · skip
              refine zi_aload_n dk_152_81 rfl rfl ?_
              refine zi_getf dk_152_82 fl_13_122 md_0 rfl ?_
              refine zj_iconst dk_152_85 ?_
              refine zj_iload dk_152_86 rfl ?_
              refine zj_imul dk_152_88 ?_
              refine zj_iload_n dk_152_89 rfl ?_
              refine zj_iadd dk_152_90 ?_
              refine md_iald (k := 38) (N := 24) dk_152_91 (by decide) rfl rfl (by omega) ?_
              refine zi_goto (t := 97) dk_152_92 rfl ?_
              refine zj_istore dk_152_97 rfl ?_
              refine zj_iload dk_152_99 rfl ?_
              refine zj_if_ge (t := 114) dk_152_101 rfl (by omega) (fun c101 => ?_) (fun c101 => ?_)
              · skip
                refine zj_iload dk_152_114 rfl ?_
                refine zj_istore dk_152_116 rfl ?_
                exact key _ _ (by unfold mc_at; (repeat' split) <;> omega)
              · skip
                refine zi_aload_n dk_152_104 rfl rfl ?_
                refine zi_getf dk_152_105 fl_13_116 md_0 rfl ?_
                refine zj_iload dk_152_108 rfl ?_
                refine md_iald (k := 36) (N := 6) dk_152_110 (by decide) rfl rfl (by omega) ?_
                refine zi_goto (t := 116) dk_152_111 rfl ?_
                refine zj_istore dk_152_116 rfl ?_
                exact key _ _ (by unfold mc_at; (repeat' split) <;> omega)

theorem ct_152 {X : zz_X} {d n : Nat}  {m : Nat} {V : Nat → Int} {B : Nat → Int → Int} {h0 : zz_H} (T : md_T B) {t w op : Int} (ho : 0 ≤ op ∧ op < 4) (ht : 0 ≤ t ∧ t ≤ 5) (hw : 0 ≤ w ∧ w ≤ 5) : zz_Ct X mm_152 d 0 0 [.ref m, zv t, zv w, zv op] n (md_H m V B h0) (zp (some (zv (gl_run B op 6 t (mc_at B op w)))) n (md_H m V B h0)) := by
  refine zz_start (by decide) (ls := [some (.ref m), some (zv t), some (zv w), some (zv op), none, none, none, none]) rfl ?_
  have d1 := T.2 (4 * w + op) (by omega) (by omega)
  have f1 := T.1 w (by omega) (by omega)
  have hmc := mc_at_rg T ho hw
  refine zi_aload_n dk_152_0 rfl rfl ?_
  refine zi_getf dk_152_1 fl_13_122 md_0 rfl ?_
  refine zj_iconst dk_152_4 ?_
  refine zj_iload_n dk_152_5 rfl ?_
  refine zj_imul dk_152_6 ?_
  refine zj_iload_n dk_152_7 rfl ?_
  refine zj_iadd dk_152_8 ?_
  refine md_iald (k := 38) (N := 24) dk_152_9 (by decide) rfl rfl (by omega) ?_
  refine zj_istore dk_152_10 rfl ?_
  refine zj_iload dk_152_12 rfl ?_
  refine zj_if_ge (t := 26) dk_152_14 rfl (by omega) (fun c14 => ?_) (fun c14 => ?_)
  · skip
    refine zj_iload dk_152_26 rfl ?_
    refine zj_istore dk_152_28 rfl ?_
    refine zj_iload_n dk_152_30 rfl ?_
    refine zj_istore dk_152_31 rfl ?_
    refine zj_iconst dk_152_33 ?_
    refine zj_istore dk_152_34 rfl ?_
    have e : mc_at B op w = B 38 (4 * w + op) := if_neg (by omega)
    rw [e] at hmc
    exact lp_152 T ho 6 t 0 _ none (by omega) (by omega) (by omega) ⟨by rw [e], rfl, rfl⟩ hmc
  · skip
    refine zi_aload_n dk_152_17 rfl rfl ?_
    refine zi_getf dk_152_18 fl_13_116 md_0 rfl ?_
    refine zj_iload_n dk_152_21 rfl ?_
    refine md_iald (k := 36) (N := 6) dk_152_22 (by decide) rfl rfl (by omega) ?_
    refine zi_goto (t := 28) dk_152_23 rfl ?_
    refine zj_istore dk_152_28 rfl ?_
    refine zj_iload_n dk_152_30 rfl ?_
    refine zj_istore dk_152_31 rfl ?_
    refine zj_iconst dk_152_33 ?_
    refine zj_istore dk_152_34 rfl ?_
    have e : mc_at B op w = B 36 w := if_pos (by omega)
    rw [e] at hmc
    exact lp_152 T ho 6 t 0 _ none (by omega) (by omega) (by omega) ⟨by rw [e], rfl, rfl⟩ hmc

theorem lp_151 {X : zz_X} {d n : Nat} {m : Nat} {V : Nat → Int} {B : Nat → Int → Int} {h0 : zz_H} (T : md_T B) {t op arg : Int} (ho : 0 ≤ op ∧ op < 4) {Q : Option Value → Nat → zz_H → Prop} : ∀ (k : Nat) (w i : Int), i + k = 6 → 0 ≤ i → (-1 ≤ w ∧ w ≤ 5) → (∀ i', zz_Z X mm_151 d Q 0 0 70 [some (.ref m), some (zv t), some (zv op), some (zv arg), some (zv (wl_run B op k w)), some (zv i'), none] [] n (md_H m V B h0)) →
    zz_Z X mm_151 d Q 0 0 29 [some (.ref m), some (zv t), some (zv op), some (zv arg), some (zv w), some (zv i), none] [] n (md_H m V B h0) := by
  intro k
  induction k with
  | zero =>
    intro w i hk hi hw hQ
    refine zj_iload dk_151_29 rfl ?_
    refine zj_bipush dk_151_31 (by decide) ?_
    refine zj_icmp_ge (t := 70) dk_151_33 rfl (by omega) (fun c33 => ?_) (fun c33 => ?_)
    · skip
      exact hQ _
    · omega
  | succ k ih =>
    intro w i hk hi hw hQ
    unfold wl_run at hQ
    refine zj_iload dk_151_29 rfl ?_
    refine zj_bipush dk_151_31 (by decide) ?_
    refine zj_icmp_ge (t := 70) dk_151_33 rfl (by omega) (fun c33 => ?_) (fun c33 => ?_)
    · omega
    · skip
      refine zj_iload dk_151_36 rfl ?_
      refine zj_if_lt (t := 70) dk_151_38 rfl (by omega) (fun c38 => ?_) (fun c38 => ?_)
      · skip
        rw [if_neg (by omega)] at hQ
        exact hQ _
      · skip
        have d1 := T.2 (4 * w + op) (by omega) (by omega)
        have f1 := T.1 w (by omega) (by omega)
        refine zi_aload_n dk_151_41 rfl rfl ?_
        refine zi_getf dk_151_42 fl_13_119 md_0 rfl ?_
        refine zj_iconst dk_151_45 ?_
        refine zj_iload dk_151_46 rfl ?_
        refine zj_imul dk_151_48 ?_
        refine zj_iload_n dk_151_49 rfl ?_
        refine zj_iadd dk_151_50 ?_
        refine md_zald (k := 37) (N := 24) dk_151_51 (by decide) rfl rfl (by omega) ?_
        refine zj_if_ne (t := 70) dk_151_52 rfl (by omega) (fun c52 => ?_) (fun c52 => ?_)
        · skip
          rw [if_neg (by omega)] at hQ
          exact hQ _
        · skip
          refine zi_aload_n dk_151_55 rfl rfl ?_
          refine zi_getf dk_151_56 fl_13_110 md_0 rfl ?_
          refine zj_iload dk_151_59 rfl ?_
          refine md_iald (k := 34) (N := 6) dk_151_61 (by decide) rfl rfl (by omega) ?_
          refine zj_istore dk_151_62 rfl ?_
          refine zj_iinc dk_151_64 rfl rfl ?_
          refine zi_goto (t := 29) dk_151_67 rfl ?_
          exact ih _ _ (by omega) (by omega) f1.1 (by rw [if_pos (by omega)] at hQ; exact hQ)

theorem ct_151 {X : zz_X} {d n : Nat}  (hd : 3 ≤ d) {m : Nat} {V : Nat → Int} {B : Nat → Int → Int} {h0 : zz_H} (T : md_T B) (hw : ex_W (B 17) (B 18) (B 19) (V 24)) (hv : ex_V (B 20)) {t op arg : Int} (ht : -2147483648 ≤ t ∧ t < 2147483648) (hop : -2147483648 ≤ op ∧ op < 2147483648) (harg : -2147483648 ≤ arg ∧ arg < 2147483648) (hs : 0 ≤ V 45 ∧ V 45 ≤ 6) (hs2 : 0 ≤ V 24 ∧ V 24 ≤ 16) (hsu : -1 ≤ V 52 ∧ V 52 ≤ 5) (hrm : V 53 = 0 ∨ V 53 = 1) (hgx : ((0 ≤ t ∧ t < V 45) ∧ (0 ≤ op ∧ op < 4) ∧ 0 ≤ (wl_run B op 6 t)) → (gl_run B op 6 t (mc_at B op (wl_run B op 6 t))) < V 24) : zz_Ct X mm_151 d 0 0 [.ref m, zv t, zv op, zv arg] n (md_H m V B h0) (fun r n' h' => n' = n ∧ ((¬ ((0 ≤ t ∧ t < V 45) ∧ (0 ≤ op ∧ op < 4) ∧ 0 ≤ (wl_run B op 6 t)) ∧ r = some (zv (-1)) ∧ h' = md_H m V B h0) ∨ (((0 ≤ t ∧ t < V 45) ∧ (0 ≤ op ∧ op < 4) ∧ 0 ≤ (wl_run B op 6 t)) ∧ ((gl_run B op 6 t (mc_at B op (wl_run B op 6 t))) < 0 ∨ (ex_run (B 17) (B 18) (B 19) (ak_of (V 52) (V 53)) (hd_m B (V 52)) arg ((gl_run B op 6 t (mc_at B op (wl_run B op 6 t))) + 1).toNat 0 (fun _ => 0) (gl_run B op 6 t (mc_at B op (wl_run B op 6 t)))) = 1) ∧ r = some (zv 1) ∧ ∃ B', ax [20] B B' ∧ ex_V (B' 20) ∧ h' = md_H m (va_up V 3 (V 3 + 1)) B' h0) ∨ (((0 ≤ t ∧ t < V 45) ∧ (0 ≤ op ∧ op < 4) ∧ 0 ≤ (wl_run B op 6 t)) ∧ ¬ ((gl_run B op 6 t (mc_at B op (wl_run B op 6 t))) < 0 ∨ (ex_run (B 17) (B 18) (B 19) (ak_of (V 52) (V 53)) (hd_m B (V 52)) arg ((gl_run B op 6 t (mc_at B op (wl_run B op 6 t))) + 1).toNat 0 (fun _ => 0) (gl_run B op 6 t (mc_at B op (wl_run B op 6 t)))) = 1) ∧ r = some (zv 0) ∧ ∃ B', ax [20] B B' ∧ ex_V (B' 20) ∧ h' = md_H m (va_up V 4 (V 4 + 1)) B' h0))) := by
  refine zz_start (by decide) (ls := [some (.ref m), some (zv t), some (zv op), some (zv arg), none, none, none]) rfl ?_
  by_cases hok0 : (0 ≤ t ∧ t < V 45) ∧ (0 ≤ op ∧ op < 4)
  · have hwl := wl_rg T (op := op) 6 t (by omega)
    have key : ((0 ≤ t ∧ t < V 45) ∧ (0 ≤ op ∧ op < 4) ∧ 0 ≤ (wl_run B op 6 t)) → ∀ (B' : Nat → Int → Int) (g z : Int), ax [20] B B' → ex_V (B' 20) → (z = 0 ∨ z = 1) → (z = 1 → ((gl_run B op 6 t (mc_at B op (wl_run B op 6 t))) < 0 ∨ (ex_run (B 17) (B 18) (B 19) (ak_of (V 52) (V 53)) (hd_m B (V 52)) arg ((gl_run B op 6 t (mc_at B op (wl_run B op 6 t))) + 1).toNat 0 (fun _ => 0) (gl_run B op 6 t (mc_at B op (wl_run B op 6 t)))) = 1)) → (z = 0 → ¬ ((gl_run B op 6 t (mc_at B op (wl_run B op 6 t))) < 0 ∨ (ex_run (B 17) (B 18) (B 19) (ak_of (V 52) (V 53)) (hd_m B (V 52)) arg ((gl_run B op 6 t (mc_at B op (wl_run B op 6 t))) + 1).toNat 0 (fun _ => 0) (gl_run B op 6 t (mc_at B op (wl_run B op 6 t)))) = 1)) → zz_Z X mm_151 d (fun r n' h' => n' = n ∧ ((¬ ((0 ≤ t ∧ t < V 45) ∧ (0 ≤ op ∧ op < 4) ∧ 0 ≤ (wl_run B op 6 t)) ∧ r = some (zv (-1)) ∧ h' = md_H m V B h0) ∨ (((0 ≤ t ∧ t < V 45) ∧ (0 ≤ op ∧ op < 4) ∧ 0 ≤ (wl_run B op 6 t)) ∧ ((gl_run B op 6 t (mc_at B op (wl_run B op 6 t))) < 0 ∨ (ex_run (B 17) (B 18) (B 19) (ak_of (V 52) (V 53)) (hd_m B (V 52)) arg ((gl_run B op 6 t (mc_at B op (wl_run B op 6 t))) + 1).toNat 0 (fun _ => 0) (gl_run B op 6 t (mc_at B op (wl_run B op 6 t)))) = 1) ∧ r = some (zv 1) ∧ ∃ B', ax [20] B B' ∧ ex_V (B' 20) ∧ h' = md_H m (va_up V 3 (V 3 + 1)) B' h0) ∨ (((0 ≤ t ∧ t < V 45) ∧ (0 ≤ op ∧ op < 4) ∧ 0 ≤ (wl_run B op 6 t)) ∧ ¬ ((gl_run B op 6 t (mc_at B op (wl_run B op 6 t))) < 0 ∨ (ex_run (B 17) (B 18) (B 19) (ak_of (V 52) (V 53)) (hd_m B (V 52)) arg ((gl_run B op 6 t (mc_at B op (wl_run B op 6 t))) + 1).toNat 0 (fun _ => 0) (gl_run B op 6 t (mc_at B op (wl_run B op 6 t)))) = 1) ∧ r = some (zv 0) ∧ ∃ B', ax [20] B B' ∧ ex_V (B' 20) ∧ h' = md_H m (va_up V 4 (V 4 + 1)) B' h0))) 0 0 118 [some (.ref m), some (zv t), some (zv op), some (zv arg), some (zv (wl_run B op 6 t)), some (zv g), some (zv z)] [] n (md_H m V B' h0) := by
      intro hok B' g z g1 g2 hz hrun hnr
      rcases hz with rfl | rfl
      · refine zi_aload_n dk_151_118 rfl rfl ?_
        refine zj_iload dk_151_119 rfl ?_
        refine zj_if_eq (t := 133) dk_151_121 rfl (by omega) (fun c121 => ?_) (fun c121 => ?_)
        · skip
          refine zi_aload_n dk_151_133 rfl rfl ?_
          refine zi_getf dk_151_134 fl_13_234 md_0 rfl ?_
          refine md_putI dk_151_137 fp_151_234 md_s3 ?_
          refine zi_aload_n dk_151_140 rfl rfl ?_
          refine zj_iload dk_151_141 rfl ?_
          refine zj_if_eq (t := 153) dk_151_143 rfl (by omega) (fun c143 => ?_) (fun c143 => ?_)
          · skip
            refine zi_aload_n dk_151_153 rfl rfl ?_
            refine zi_getf dk_151_154 fl_13_237 md_0 rfl ?_
            refine zj_iconst dk_151_157 ?_
            refine zj_iadd dk_151_158 ?_
            refine md_putI dk_151_159 fp_151_237 md_s4 ?_
            refine zj_iload dk_151_162 rfl ?_
            refine zj_if_eq (t := 171) dk_151_164 rfl (by omega) (fun c164 => ?_) (fun c164 => ?_)
            · skip
              refine zj_iconst dk_151_171 ?_
              refine zj_ireturn dk_151_172 rfl ⟨rfl, Or.inr (Or.inr ⟨hok, hnr rfl, rfl, B', g1, g2, by rw [va_up_id V 3]⟩)⟩
            · omega
          · omega
        · omega
      · refine zi_aload_n dk_151_118 rfl rfl ?_
        refine zj_iload dk_151_119 rfl ?_
        refine zj_if_eq (t := 133) dk_151_121 rfl (by omega) (fun c121 => ?_) (fun c121 => ?_)
        · omega
        · skip
          refine zi_aload_n dk_151_124 rfl rfl ?_
          refine zi_getf dk_151_125 fl_13_234 md_0 rfl ?_
          refine zj_iconst dk_151_128 ?_
          refine zj_iadd dk_151_129 ?_
          refine zi_goto (t := 137) dk_151_130 rfl ?_
          refine md_putI dk_151_137 fp_151_234 md_s3 ?_
          refine zi_aload_n dk_151_140 rfl rfl ?_
          refine zj_iload dk_151_141 rfl ?_
          refine zj_if_eq (t := 153) dk_151_143 rfl (by omega) (fun c143 => ?_) (fun c143 => ?_)
          · omega
          · skip
            refine zi_aload_n dk_151_146 rfl rfl ?_
            refine zi_getf dk_151_147 fl_13_237 md_0 rfl ?_
            refine zi_goto (t := 159) dk_151_150 rfl ?_
            refine md_putI dk_151_159 fp_151_237 md_s4 ?_
            refine zj_iload dk_151_162 rfl ?_
            refine zj_if_eq (t := 171) dk_151_164 rfl (by omega) (fun c164 => ?_) (fun c164 => ?_)
            · omega
            · skip
              refine zj_iconst dk_151_167 ?_
              refine zi_goto (t := 172) dk_151_168 rfl ?_
              refine zj_ireturn dk_151_172 rfl ⟨rfl, Or.inr (Or.inl ⟨hok, hrun rfl, rfl, B', g1, g2, by rw [show va_up (va_up V 3 (V 3 + 1)) 4 (va_up V 3 (V 3 + 1) 4) = va_up V 3 (V 3 + 1) from va_up_id _ _]⟩)⟩
    refine zj_iload_n dk_151_0 rfl ?_
    refine zj_if_lt (t := 21) dk_151_1 rfl (by omega) (fun c1 => ?_) (fun c1 => ?_)
    · omega
    · skip
      refine zj_iload_n dk_151_4 rfl ?_
      refine zi_aload_n dk_151_5 rfl rfl ?_
      refine zi_getf dk_151_6 fl_13_218 md_0 rfl ?_
      refine zj_icmp_ge (t := 21) dk_151_9 rfl (by omega) (fun c9 => ?_) (fun c9 => ?_)
      · omega
      · skip
        refine zj_iload_n dk_151_12 rfl ?_
        refine zj_if_lt (t := 21) dk_151_13 rfl (by omega) (fun c13 => ?_) (fun c13 => ?_)
        · omega
        · skip
          refine zj_iload_n dk_151_16 rfl ?_
          refine zj_iconst dk_151_17 ?_
          refine zj_icmp_le (t := 23) dk_151_18 rfl (by omega) (fun c18 => ?_) (fun c18 => ?_)
          · skip
            refine zj_iload_n dk_151_23 rfl ?_
            refine zj_istore dk_151_24 rfl ?_
            refine zj_iconst dk_151_26 ?_
            refine zj_istore dk_151_27 rfl ?_
            refine lp_151 T hok0.2 6 t 0 (by omega) (by omega) (by omega) (fun i1 => ?_)
            refine zj_iload dk_151_70 rfl ?_
            refine zj_if_ge (t := 77) dk_151_72 rfl (by omega) (fun c72 => ?_) (fun c72 => ?_)
            · skip
              have hok : ((0 ≤ t ∧ t < V 45) ∧ (0 ≤ op ∧ op < 4) ∧ 0 ≤ (wl_run B op 6 t)) := ⟨hok0.1, hok0.2, by omega⟩
              have hgr := gl_rg T hok0.2 6 t (mc_at B op (wl_run B op 6 t)) (by omega) (mc_at_rg T hok0.2 (by omega))
              refine zi_aload_n dk_151_77 rfl rfl ?_
              refine zj_iload_n dk_151_78 rfl ?_
              refine zj_iload dk_151_79 rfl ?_
              refine zj_iload_n dk_151_81 rfl ?_
              refine zi_invV dk_151_82 ml_13_224 iv_152 (ct_152 (d := d - 1) T hok0.2 (by omega) (by omega)) md_0 rfl rfl rfl (Nat.le_of_ble_eq_true rfl) (by omega) rfl rfl (fun r n' h' hq => ?_)
              obtain ⟨rfl, rfl, rfl⟩ := hq
              refine zj_istore dk_151_85 rfl ?_
              refine zj_iload dk_151_87 rfl ?_
              refine zj_if_lt (t := 111) dk_151_89 rfl (by omega) (fun c89 => ?_) (fun c89 => ?_)
              · skip
                refine zj_iconst dk_151_111 ?_
                refine zi_goto (t := 116) dk_151_112 rfl ?_
                refine zj_istore dk_151_116 rfl ?_
                exact key hok B _ 1 ax.rf hv (Or.inr rfl) (fun _ => Or.inl (by omega)) (fun hh => absurd hh (by decide))
              · skip
                refine zi_aload_n dk_151_92 rfl rfl ?_
                refine zj_iload dk_151_93 rfl ?_
                refine zi_aload_n dk_151_95 rfl rfl ?_
                refine zi_getf dk_151_96 fl_13_125 md_0 rfl ?_
                refine zi_aload_n dk_151_99 rfl rfl ?_
                refine zi_getf dk_151_100 fl_13_227 md_0 rfl ?_
                refine zj_iload_n dk_151_103 rfl ?_
                have hgl := hgx hok
                refine zi_invV dk_151_104 ml_13_231 iv_153 (ct_153 (d := d - 1) (by omega) (by omega) hw hv (by omega) hsu hrm harg) md_0 rfl rfl rfl (Nat.le_of_ble_eq_true rfl) (by omega) rfl rfl (fun r n' h' hq => ?_)
                obtain ⟨rfl, rfl, hx2, B', g1, g2, rfl⟩ := hq
                refine zj_iconst dk_151_107 ?_
                refine zj_icmp_ne (t := 115) dk_151_108 rfl (by omega) (fun c108 => ?_) (fun c108 => ?_)
                · skip
                  refine zj_iconst dk_151_115 ?_
                  refine zj_istore dk_151_116 rfl ?_
                  exact key hok B' _ 0 g1 g2 (Or.inl rfl) (fun hh => absurd hh (by decide)) (fun _ hh => by omega)
                · skip
                  refine zj_iconst dk_151_111 ?_
                  refine zi_goto (t := 116) dk_151_112 rfl ?_
                  refine zj_istore dk_151_116 rfl ?_
                  exact key hok B' _ 1 g1 g2 (Or.inr rfl) (fun _ => Or.inr (by omega)) (fun hh => absurd hh (by decide))
            · skip
              refine zj_iconst dk_151_75 ?_
              refine zj_ireturn dk_151_76 rfl ⟨rfl, Or.inl ⟨fun hh => absurd hh.2.2 (by omega), rfl, rfl⟩⟩
          · omega
  · refine zj_iload_n dk_151_0 rfl ?_
    refine zj_if_lt (t := 21) dk_151_1 rfl (by omega) (fun c1 => ?_) (fun c1 => ?_)
    · skip
      refine zj_iconst dk_151_21 ?_
      refine zj_ireturn dk_151_22 rfl ⟨rfl, Or.inl ⟨fun hh => hok0 ⟨hh.1, hh.2.1⟩, rfl, rfl⟩⟩
    · skip
      refine zj_iload_n dk_151_4 rfl ?_
      refine zi_aload_n dk_151_5 rfl rfl ?_
      refine zi_getf dk_151_6 fl_13_218 md_0 rfl ?_
      refine zj_icmp_ge (t := 21) dk_151_9 rfl (by omega) (fun c9 => ?_) (fun c9 => ?_)
      · skip
        refine zj_iconst dk_151_21 ?_
        refine zj_ireturn dk_151_22 rfl ⟨rfl, Or.inl ⟨fun hh => hok0 ⟨hh.1, hh.2.1⟩, rfl, rfl⟩⟩
      · skip
        refine zj_iload_n dk_151_12 rfl ?_
        refine zj_if_lt (t := 21) dk_151_13 rfl (by omega) (fun c13 => ?_) (fun c13 => ?_)
        · skip
          refine zj_iconst dk_151_21 ?_
          refine zj_ireturn dk_151_22 rfl ⟨rfl, Or.inl ⟨fun hh => hok0 ⟨hh.1, hh.2.1⟩, rfl, rfl⟩⟩
        · skip
          refine zj_iload_n dk_151_16 rfl ?_
          refine zj_iconst dk_151_17 ?_
          refine zj_icmp_le (t := 23) dk_151_18 rfl (by omega) (fun c18 => ?_) (fun c18 => ?_)
          · skip
            exact absurd ⟨by omega, by omega⟩ hok0
          · skip
            refine zj_iconst dk_151_21 ?_
            refine zj_ireturn dk_151_22 rfl ⟨rfl, Or.inl ⟨fun hh => hok0 ⟨hh.1, hh.2.1⟩, rfl, rfl⟩⟩

