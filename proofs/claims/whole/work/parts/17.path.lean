/-! PlainPath -/
theorem sp_dig_rg (c : Int) : -1 ≤ sp_dig c ∧ sp_dig c ≤ 15 := by
  unfold sp_dig
  (repeat' split) <;> omega
theorem ct_88 {X : zz_X} {d n : Nat} {h : zz_H} {c : Int} (hc : 0 ≤ c ∧ c < 65536) : zz_Ct X mm_88 d 0 0 [zv c] n h (zp (some (zv (sp_dig c))) n h) := by
  refine zz_start (by decide) (ls := [some (zv c)]) rfl ?_
  refine zj_iload_n dk_88_0 rfl ?_
  refine zj_bipush dk_88_1 (by decide) ?_
  refine zj_icmp_lt (t := 17) dk_88_3 rfl (by omega) (fun c3 => ?_) (fun c3 => ?_)
  · skip
    refine zj_iload_n dk_88_17 rfl ?_
    refine zj_bipush dk_88_18 (by decide) ?_
    refine zj_icmp_lt (t := 37) dk_88_20 rfl (by omega) (fun c20 => ?_) (fun c20 => ?_)
    · skip
      refine zj_iload_n dk_88_37 rfl ?_
      refine zj_bipush dk_88_38 (by decide) ?_
      refine zj_icmp_lt (t := 57) dk_88_40 rfl (by omega) (fun c40 => ?_) (fun c40 => ?_)
      · skip
        refine zj_iconst dk_88_57 ?_
        refine zj_ireturn dk_88_58 rfl ⟨by congr 2; unfold sp_dig; (repeat' split) <;> omega, rfl, rfl⟩
      · skip
        refine zj_iload_n dk_88_43 rfl ?_
        refine zj_bipush dk_88_44 (by decide) ?_
        refine zj_icmp_gt (t := 57) dk_88_46 rfl (by omega) (fun c46 => ?_) (fun c46 => ?_)
        · skip
          refine zj_iconst dk_88_57 ?_
          refine zj_ireturn dk_88_58 rfl ⟨by congr 2; unfold sp_dig; (repeat' split) <;> omega, rfl, rfl⟩
        · skip
          refine zj_iload_n dk_88_49 rfl ?_
          refine zj_bipush dk_88_50 (by decide) ?_
          refine zj_isub dk_88_52 ?_
          refine zj_bipush dk_88_53 (by decide) ?_
          refine zj_iadd dk_88_55 ?_
          refine zj_ireturn dk_88_56 rfl ⟨by congr 2; unfold sp_dig; (repeat' split) <;> omega, rfl, rfl⟩
    · skip
      refine zj_iload_n dk_88_23 rfl ?_
      refine zj_bipush dk_88_24 (by decide) ?_
      refine zj_icmp_gt (t := 37) dk_88_26 rfl (by omega) (fun c26 => ?_) (fun c26 => ?_)
      · skip
        refine zj_iload_n dk_88_37 rfl ?_
        refine zj_bipush dk_88_38 (by decide) ?_
        refine zj_icmp_lt (t := 57) dk_88_40 rfl (by omega) (fun c40 => ?_) (fun c40 => ?_)
        · skip
          refine zj_iconst dk_88_57 ?_
          refine zj_ireturn dk_88_58 rfl ⟨by congr 2; unfold sp_dig; (repeat' split) <;> omega, rfl, rfl⟩
        · skip
          refine zj_iload_n dk_88_43 rfl ?_
          refine zj_bipush dk_88_44 (by decide) ?_
          refine zj_icmp_gt (t := 57) dk_88_46 rfl (by omega) (fun c46 => ?_) (fun c46 => ?_)
          · skip
            refine zj_iconst dk_88_57 ?_
            refine zj_ireturn dk_88_58 rfl ⟨by congr 2; unfold sp_dig; (repeat' split) <;> omega, rfl, rfl⟩
          · skip
            refine zj_iload_n dk_88_49 rfl ?_
            refine zj_bipush dk_88_50 (by decide) ?_
            refine zj_isub dk_88_52 ?_
            refine zj_bipush dk_88_53 (by decide) ?_
            refine zj_iadd dk_88_55 ?_
            refine zj_ireturn dk_88_56 rfl ⟨by congr 2; unfold sp_dig; (repeat' split) <;> omega, rfl, rfl⟩
      · skip
        refine zj_iload_n dk_88_29 rfl ?_
        refine zj_bipush dk_88_30 (by decide) ?_
        refine zj_isub dk_88_32 ?_
        refine zj_bipush dk_88_33 (by decide) ?_
        refine zj_iadd dk_88_35 ?_
        refine zj_ireturn dk_88_36 rfl ⟨by congr 2; unfold sp_dig; (repeat' split) <;> omega, rfl, rfl⟩
  · skip
    refine zj_iload_n dk_88_6 rfl ?_
    refine zj_bipush dk_88_7 (by decide) ?_
    refine zj_icmp_gt (t := 17) dk_88_9 rfl (by omega) (fun c9 => ?_) (fun c9 => ?_)
    · skip
      refine zj_iload_n dk_88_17 rfl ?_
      refine zj_bipush dk_88_18 (by decide) ?_
      refine zj_icmp_lt (t := 37) dk_88_20 rfl (by omega) (fun c20 => ?_) (fun c20 => ?_)
      · skip
        refine zj_iload_n dk_88_37 rfl ?_
        refine zj_bipush dk_88_38 (by decide) ?_
        refine zj_icmp_lt (t := 57) dk_88_40 rfl (by omega) (fun c40 => ?_) (fun c40 => ?_)
        · skip
          refine zj_iconst dk_88_57 ?_
          refine zj_ireturn dk_88_58 rfl ⟨by congr 2; unfold sp_dig; (repeat' split) <;> omega, rfl, rfl⟩
        · skip
          refine zj_iload_n dk_88_43 rfl ?_
          refine zj_bipush dk_88_44 (by decide) ?_
          refine zj_icmp_gt (t := 57) dk_88_46 rfl (by omega) (fun c46 => ?_) (fun c46 => ?_)
          · skip
            refine zj_iconst dk_88_57 ?_
            refine zj_ireturn dk_88_58 rfl ⟨by congr 2; unfold sp_dig; (repeat' split) <;> omega, rfl, rfl⟩
          · skip
            refine zj_iload_n dk_88_49 rfl ?_
            refine zj_bipush dk_88_50 (by decide) ?_
            refine zj_isub dk_88_52 ?_
            refine zj_bipush dk_88_53 (by decide) ?_
            refine zj_iadd dk_88_55 ?_
            refine zj_ireturn dk_88_56 rfl ⟨by congr 2; unfold sp_dig; (repeat' split) <;> omega, rfl, rfl⟩
      · skip
        refine zj_iload_n dk_88_23 rfl ?_
        refine zj_bipush dk_88_24 (by decide) ?_
        refine zj_icmp_gt (t := 37) dk_88_26 rfl (by omega) (fun c26 => ?_) (fun c26 => ?_)
        · skip
          refine zj_iload_n dk_88_37 rfl ?_
          refine zj_bipush dk_88_38 (by decide) ?_
          refine zj_icmp_lt (t := 57) dk_88_40 rfl (by omega) (fun c40 => ?_) (fun c40 => ?_)
          · skip
            refine zj_iconst dk_88_57 ?_
            refine zj_ireturn dk_88_58 rfl ⟨by congr 2; unfold sp_dig; (repeat' split) <;> omega, rfl, rfl⟩
          · skip
            refine zj_iload_n dk_88_43 rfl ?_
            refine zj_bipush dk_88_44 (by decide) ?_
            refine zj_icmp_gt (t := 57) dk_88_46 rfl (by omega) (fun c46 => ?_) (fun c46 => ?_)
            · skip
              refine zj_iconst dk_88_57 ?_
              refine zj_ireturn dk_88_58 rfl ⟨by congr 2; unfold sp_dig; (repeat' split) <;> omega, rfl, rfl⟩
            · skip
              refine zj_iload_n dk_88_49 rfl ?_
              refine zj_bipush dk_88_50 (by decide) ?_
              refine zj_isub dk_88_52 ?_
              refine zj_bipush dk_88_53 (by decide) ?_
              refine zj_iadd dk_88_55 ?_
              refine zj_ireturn dk_88_56 rfl ⟨by congr 2; unfold sp_dig; (repeat' split) <;> omega, rfl, rfl⟩
        · skip
          refine zj_iload_n dk_88_29 rfl ?_
          refine zj_bipush dk_88_30 (by decide) ?_
          refine zj_isub dk_88_32 ?_
          refine zj_bipush dk_88_33 (by decide) ?_
          refine zj_iadd dk_88_35 ?_
          refine zj_ireturn dk_88_36 rfl ⟨by congr 2; unfold sp_dig; (repeat' split) <;> omega, rfl, rfl⟩
    · skip
      refine zj_iload_n dk_88_12 rfl ?_
      refine zj_bipush dk_88_13 (by decide) ?_
      refine zj_isub dk_88_15 ?_
      refine zj_ireturn dk_88_16 rfl ⟨by congr 2; unfold sp_dig; (repeat' split) <;> omega, rfl, rfl⟩

theorem ct_87 {X : zz_X} {d n : Nat} {h : zz_H} (hd : 1 ≤ d) {a b : Int} (ha : 0 ≤ a ∧ a < 65536) (hb : 0 ≤ b ∧ b < 65536) : zz_Ct X mm_87 d 0 0 [zv a, zv b] n h (zp (some (zv (sp_code a b))) n h) := by
  refine zz_start (by decide) (ls := [some (zv a), some (zv b), none, none, none, none]) rfl ?_
  have ra := sp_dig_rg a
  have rb := sp_dig_rg b
  refine zj_iload_n dk_87_0 rfl ?_
  refine zi_invS dk_87_1 ml_3_59 is_88 (ct_88 (d := d - 1) ha) rfl rfl (Nat.le_of_ble_eq_true rfl) (by omega) rfl rfl (fun r n' h' hq => ?_)
  obtain ⟨rfl, rfl, rfl⟩ := hq
  refine zj_istore_n dk_87_4 rfl ?_
  refine zj_iload_n dk_87_5 rfl ?_
  refine zi_invS dk_87_6 ml_3_59 is_88 (ct_88 (d := d - 1) hb) rfl rfl (Nat.le_of_ble_eq_true rfl) (by omega) rfl rfl (fun r n' h' hq => ?_)
  obtain ⟨rfl, rfl, rfl⟩ := hq
  refine zj_istore_n dk_87_9 rfl ?_
  refine zj_iload_n dk_87_10 rfl ?_
  refine zj_iconst dk_87_11 ?_
  refine zj_icmp_eq (t := 20) dk_87_12 rfl (by omega) (fun c12 => ?_) (fun c12 => ?_)
  · skip
    refine zj_iconst dk_87_20 ?_
    refine zj_ireturn dk_87_21 rfl ⟨by congr 2; unfold sp_code; (repeat' split) <;> omega, rfl, rfl⟩
  · skip
    refine zj_iload_n dk_87_15 rfl ?_
    refine zj_iconst dk_87_16 ?_
    refine zj_icmp_ne (t := 22) dk_87_17 rfl (by omega) (fun c17 => ?_) (fun c17 => ?_)
    · skip
      refine zj_bipush dk_87_22 (by decide) ?_
      refine zj_iload_n dk_87_24 rfl ?_
      refine zj_imul dk_87_25 ?_
      refine zj_iload_n dk_87_26 rfl ?_
      refine zj_iadd dk_87_27 ?_
      refine zj_istore dk_87_28 rfl ?_
      refine zj_iload dk_87_30 rfl ?_
      refine zj_bipush dk_87_32 (by decide) ?_
      refine zj_icmp_eq (t := 58) dk_87_34 rfl (by omega) (fun c34 => ?_) (fun c34 => ?_)
      · skip
        refine zj_iconst dk_87_58 ?_
        refine zi_goto (t := 63) dk_87_59 rfl ?_
        refine zj_istore dk_87_63 rfl ?_
        refine zj_iload dk_87_65 rfl ?_
        refine zi_invS dk_87_67 ml_3_63 is_14 (ct_14 (d := d - 1) (by omega)) rfl rfl (Nat.le_of_ble_eq_true rfl) (by omega) rfl rfl (fun r n' h' hq => ?_)
        obtain ⟨rfl, rfl, rfl⟩ := hq
        refine zj_if_eq (t := 83) dk_87_70 rfl (by split <;> omega) (fun c70 => ?_) (fun c70 => ?_)
        · skip
          refine zj_iconst dk_87_83 ?_
          refine zj_ireturn dk_87_84 rfl ⟨by congr 2; unfold sp_code; (repeat' split) <;> (split at c70 <;> omega), rfl, rfl⟩
        · skip
          refine zj_iload dk_87_73 rfl ?_
          refine zj_if_ne (t := 83) dk_87_75 rfl (by omega) (fun c75 => ?_) (fun c75 => ?_)
          · skip
            refine zj_iconst dk_87_83 ?_
            refine zj_ireturn dk_87_84 rfl ⟨by congr 2; unfold sp_code; (repeat' split) <;> (split at c70 <;> omega), rfl, rfl⟩
          · skip
            refine zj_iload dk_87_78 rfl ?_
            refine zi_goto (t := 84) dk_87_80 rfl ?_
            refine zj_ireturn dk_87_84 rfl ⟨by congr 2; unfold sp_code; (repeat' split) <;> (split at c70 <;> omega), rfl, rfl⟩
      · skip
        refine zj_iload dk_87_37 rfl ?_
        refine zj_bipush dk_87_39 (by decide) ?_
        refine zj_icmp_eq (t := 58) dk_87_41 rfl (by omega) (fun c41 => ?_) (fun c41 => ?_)
        · skip
          refine zj_iconst dk_87_58 ?_
          refine zi_goto (t := 63) dk_87_59 rfl ?_
          refine zj_istore dk_87_63 rfl ?_
          refine zj_iload dk_87_65 rfl ?_
          refine zi_invS dk_87_67 ml_3_63 is_14 (ct_14 (d := d - 1) (by omega)) rfl rfl (Nat.le_of_ble_eq_true rfl) (by omega) rfl rfl (fun r n' h' hq => ?_)
          obtain ⟨rfl, rfl, rfl⟩ := hq
          refine zj_if_eq (t := 83) dk_87_70 rfl (by split <;> omega) (fun c70 => ?_) (fun c70 => ?_)
          · skip
            refine zj_iconst dk_87_83 ?_
            refine zj_ireturn dk_87_84 rfl ⟨by congr 2; unfold sp_code; (repeat' split) <;> (split at c70 <;> omega), rfl, rfl⟩
          · skip
            refine zj_iload dk_87_73 rfl ?_
            refine zj_if_ne (t := 83) dk_87_75 rfl (by omega) (fun c75 => ?_) (fun c75 => ?_)
            · skip
              refine zj_iconst dk_87_83 ?_
              refine zj_ireturn dk_87_84 rfl ⟨by congr 2; unfold sp_code; (repeat' split) <;> (split at c70 <;> omega), rfl, rfl⟩
            · skip
              refine zj_iload dk_87_78 rfl ?_
              refine zi_goto (t := 84) dk_87_80 rfl ?_
              refine zj_ireturn dk_87_84 rfl ⟨by congr 2; unfold sp_code; (repeat' split) <;> (split at c70 <;> omega), rfl, rfl⟩
        · skip
          refine zj_iload dk_87_44 rfl ?_
          refine zj_bipush dk_87_46 (by decide) ?_
          refine zj_icmp_eq (t := 58) dk_87_48 rfl (by omega) (fun c48 => ?_) (fun c48 => ?_)
          · skip
            refine zj_iconst dk_87_58 ?_
            refine zi_goto (t := 63) dk_87_59 rfl ?_
            refine zj_istore dk_87_63 rfl ?_
            refine zj_iload dk_87_65 rfl ?_
            refine zi_invS dk_87_67 ml_3_63 is_14 (ct_14 (d := d - 1) (by omega)) rfl rfl (Nat.le_of_ble_eq_true rfl) (by omega) rfl rfl (fun r n' h' hq => ?_)
            obtain ⟨rfl, rfl, rfl⟩ := hq
            refine zj_if_eq (t := 83) dk_87_70 rfl (by split <;> omega) (fun c70 => ?_) (fun c70 => ?_)
            · skip
              refine zj_iconst dk_87_83 ?_
              refine zj_ireturn dk_87_84 rfl ⟨by congr 2; unfold sp_code; (repeat' split) <;> (split at c70 <;> omega), rfl, rfl⟩
            · skip
              refine zj_iload dk_87_73 rfl ?_
              refine zj_if_ne (t := 83) dk_87_75 rfl (by omega) (fun c75 => ?_) (fun c75 => ?_)
              · skip
                refine zj_iconst dk_87_83 ?_
                refine zj_ireturn dk_87_84 rfl ⟨by congr 2; unfold sp_code; (repeat' split) <;> (split at c70 <;> omega), rfl, rfl⟩
              · skip
                refine zj_iload dk_87_78 rfl ?_
                refine zi_goto (t := 84) dk_87_80 rfl ?_
                refine zj_ireturn dk_87_84 rfl ⟨by congr 2; unfold sp_code; (repeat' split) <;> (split at c70 <;> omega), rfl, rfl⟩
          · skip
            refine zj_iload dk_87_51 rfl ?_
            refine zj_bipush dk_87_53 (by decide) ?_
            refine zj_icmp_ne (t := 62) dk_87_55 rfl (by omega) (fun c55 => ?_) (fun c55 => ?_)
            · skip
              refine zj_iconst dk_87_62 ?_
              refine zj_istore dk_87_63 rfl ?_
              refine zj_iload dk_87_65 rfl ?_
              refine zi_invS dk_87_67 ml_3_63 is_14 (ct_14 (d := d - 1) (by omega)) rfl rfl (Nat.le_of_ble_eq_true rfl) (by omega) rfl rfl (fun r n' h' hq => ?_)
              obtain ⟨rfl, rfl, rfl⟩ := hq
              refine zj_if_eq (t := 83) dk_87_70 rfl (by split <;> omega) (fun c70 => ?_) (fun c70 => ?_)
              · skip
                refine zj_iconst dk_87_83 ?_
                refine zj_ireturn dk_87_84 rfl ⟨by congr 2; unfold sp_code; (repeat' split) <;> (split at c70 <;> omega), rfl, rfl⟩
              · skip
                refine zj_iload dk_87_73 rfl ?_
                refine zj_if_ne (t := 83) dk_87_75 rfl (by omega) (fun c75 => ?_) (fun c75 => ?_)
                · skip
                  refine zj_iconst dk_87_83 ?_
                  refine zj_ireturn dk_87_84 rfl ⟨by congr 2; unfold sp_code; (repeat' split) <;> (split at c70 <;> omega), rfl, rfl⟩
                · skip
                  refine zj_iload dk_87_78 rfl ?_
                  refine zi_goto (t := 84) dk_87_80 rfl ?_
                  refine zj_ireturn dk_87_84 rfl ⟨by congr 2; unfold sp_code; (repeat' split) <;> (split at c70 <;> omega), rfl, rfl⟩
            · skip
              refine zj_iconst dk_87_58 ?_
              refine zi_goto (t := 63) dk_87_59 rfl ?_
              refine zj_istore dk_87_63 rfl ?_
              refine zj_iload dk_87_65 rfl ?_
              refine zi_invS dk_87_67 ml_3_63 is_14 (ct_14 (d := d - 1) (by omega)) rfl rfl (Nat.le_of_ble_eq_true rfl) (by omega) rfl rfl (fun r n' h' hq => ?_)
              obtain ⟨rfl, rfl, rfl⟩ := hq
              refine zj_if_eq (t := 83) dk_87_70 rfl (by split <;> omega) (fun c70 => ?_) (fun c70 => ?_)
              · skip
                refine zj_iconst dk_87_83 ?_
                refine zj_ireturn dk_87_84 rfl ⟨by congr 2; unfold sp_code; (repeat' split) <;> (split at c70 <;> omega), rfl, rfl⟩
              · skip
                refine zj_iload dk_87_73 rfl ?_
                refine zj_if_ne (t := 83) dk_87_75 rfl (by omega) (fun c75 => ?_) (fun c75 => ?_)
                · skip
                  refine zj_iconst dk_87_83 ?_
                  refine zj_ireturn dk_87_84 rfl ⟨by congr 2; unfold sp_code; (repeat' split) <;> (split at c70 <;> omega), rfl, rfl⟩
                · skip
                  refine zj_iload dk_87_78 rfl ?_
                  refine zi_goto (t := 84) dk_87_80 rfl ?_
                  refine zj_ireturn dk_87_84 rfl ⟨by congr 2; unfold sp_code; (repeat' split) <;> (split at c70 <;> omega), rfl, rfl⟩
    · skip
      refine zj_iconst dk_87_20 ?_
      refine zj_ireturn dk_87_21 rfl ⟨by congr 2; unfold sp_code; (repeat' split) <;> omega, rfl, rfl⟩

def dc_Q (Q : Option Value → Nat → zz_H → Prop) (n : Nat) (H : (Int → Int) → Int → zz_H) (o : Option (List Int)) (ch : Int → Int) (wr : Int) : Prop := match o with
  | some l => Q (some (zv 1)) n (H (zW ch wr l) (wr + l.length))
  | none => ∀ ch' wr', ch_ok ch' → Q (some (zv 0)) n (H ch' wr')
theorem dc_step {Q : Option Value → Nat → zz_H → Prop} {n : Nat} {H : (Int → Int) → Int → zz_H} {o : Option (List Int)} {ch : Int → Int} {wr c : Int} (hq : dc_Q Q n H (o.map (fun l => c :: l)) ch wr) : dc_Q Q n H o (zU ch wr c) (wr + 1) := by
  cases o with
  | none => exact hq
  | some l =>
    have hq' : Q (some (zv 1)) n (H (zW (zU ch wr c) (wr + 1) l) (wr + ((l.length + 1 : Nat) : Int))) := hq
    show Q (some (zv 1)) n (H (zW (zU ch wr c) (wr + 1) l) (wr + 1 + l.length))
    rw [show wr + 1 + (l.length : Int) = wr + ((l.length + 1 : Nat) : Int) by omega]
    exact hq'
theorem dc_nil {Q : Option Value → Nat → zz_H → Prop} {n : Nat} {H : (Int → Int) → Int → zz_H} {ch : Int → Int} {wr : Int} (hq : dc_Q Q n H (some []) ch wr) : Q (some (zv 1)) n (H ch wr) := by
  have hq' : Q (some (zv 1)) n (H ch (wr + ((0 : Nat) : Int))) := hq
  rw [show wr + ((0 : Nat) : Int) = wr by omega] at hq'
  exact hq'
theorem lp_86 {X : zz_X} {d n : Nat} (hd : 2 ≤ d) {pp p t ca : Nat} {len : Int} {f : Int → Int} {h0 : zz_H} (ep : h0 pp = some (.inr (3, [.ref p]))) (op : pp < p ∨ p + 4 ≤ pp) (et : h0 t = some (.inr (1, [.ref ca, zv len]))) (ot : t < p ∨ p + 4 ≤ t) (ec : h0 ca = some (zA 1 40 f)) (oc : ca < p ∨ p + 4 ≤ ca) (hl : 0 ≤ len ∧ len ≤ 40) (hf : ∀ i, 0 ≤ i → i < len → 0 ≤ f i ∧ f i < 65536) {Q : Option Value → Nat → zz_H → Prop} {st en : Int → Int} {bg sz fr to : Int} (hto : to ≤ len) (hto0 : -2147483648 ≤ to) : ∀ (k : Nat) (i : Int) (ch : Int → Int) (wr : Int) (x5 : Option Value), to ≤ i + k → 0 ≤ i → (0 ≤ wr ∧ wr ≤ i ∧ i ≤ 50) → ch_ok ch → dc_Q Q n (fun c w => pc_H p c st en bg w sz h0) (sp_dcl (tx_at len f) to k i) ch wr →
    zz_Z X mm_86 d Q 0 0 3 [some (.ref pp), some (.ref t), some (zv fr), some (zv to), some (zv i), x5] [] n (pc_H p ch st en bg wr sz h0) := by
  intro k
  induction k with
  | zero =>
    intro i ch wr x5 hk hi hw hch hQ
    have hti : to ≤ i := by omega
    by_cases h0to : -2147483648 ≤ to
    · skip
      refine zj_iload dk_86_3 rfl ?_
      refine zj_iload_n dk_86_5 rfl ?_
      refine zj_icmp_ge (t := 83) dk_86_6 rfl (by omega) (fun c6 => ?_) (fun c6 => ?_)
      · skip
        refine zj_iconst dk_86_83 ?_
        exact zj_zreturn dk_86_84 rfl (by omega) (dc_nil (H := fun c w => pc_H p c st en bg w sz h0) hQ)
      · omega
    · exact absurd hto0 h0to
  | succ k ih =>
    intro i ch wr x5 hk hi hw hch hQ
    have hat := tx_rg hf i
    unfold sp_dcl at hQ
    refine zj_iload dk_86_3 rfl ?_
    refine zj_iload_n dk_86_5 rfl ?_
    refine zj_icmp_ge (t := 83) dk_86_6 rfl (by omega) (fun c6 => ?_) (fun c6 => ?_)
    · skip
      refine zj_iconst dk_86_83 ?_
      exact zj_zreturn dk_86_84 rfl (by omega) (dc_nil (H := fun c w => pc_H p c st en bg w sz h0) (by rw [if_pos c6] at hQ; exact hQ))
    · skip
      rw [if_neg c6] at hQ
      refine zi_aload_n dk_86_9 rfl rfl ?_
      refine zj_iload dk_86_10 rfl ?_
      refine zi_invV dk_86_12 ml_3_21 iv_25 (ct_25 (d := d - 1) ((pc_o ot).trans et) ((pc_o oc).trans ec) hl hf (by omega)) (by first | exact (pc_o op).trans ep | exact pc_0 | exact (pc_o ot).trans et | exact (pc_o oc).trans ec) rfl rfl rfl (Nat.le_of_ble_eq_true rfl) (by omega) rfl rfl (fun r n' h' hq => ?_)
      obtain ⟨rfl, rfl, rfl⟩ := hq
      refine zj_istore dk_86_15 rfl ?_
      refine zj_iload dk_86_17 rfl ?_
      refine zj_bipush dk_86_19 (by decide) ?_
      refine zj_icmp_ne (t := 60) dk_86_21 rfl (by omega) (fun c21 => ?_) (fun c21 => ?_)
      · skip
        refine zj_iload dk_86_60 rfl ?_
        refine zj_iconst dk_86_62 ?_
        refine zj_icmp_ne (t := 68) dk_86_63 rfl (by omega) (fun c63 => ?_) (fun c63 => ?_)
        · skip
          refine zi_aload_n dk_86_68 rfl rfl ?_
          refine zi_getf dk_86_69 fl_3_12 (by first | exact (pc_o op).trans ep | exact pc_0 | exact (pc_o ot).trans et | exact (pc_o oc).trans ec) rfl ?_
          refine zj_iload dk_86_72 rfl ?_
          refine zi_invV dk_86_74 ml_3_55 iv_31 (ct_31 (d := d - 1) (by omega) (by omega)) (by first | exact (pc_o op).trans ep | exact pc_0 | exact (pc_o ot).trans et | exact (pc_o oc).trans ec) rfl rfl rfl (Nat.le_of_ble_eq_true rfl) (by omega) rfl rfl (fun r n' h' hq => ?_)
          obtain ⟨rfl, rfl, rfl⟩ := hq
          refine zj_iinc dk_86_77 rfl rfl ?_
          refine zi_goto (t := 3) dk_86_80 rfl ?_
          exact ih (i + 1) _ _ _ (by omega) (by omega) (by omega) (hch.up (by omega)) (dc_step (by rw [if_neg c21] at hQ; exact hQ))
        · skip
          refine zj_iconst dk_86_66 ?_
          refine zj_zreturn dk_86_67 rfl (by omega) (by omega)
      · skip
        refine zj_iload dk_86_24 rfl ?_
        refine zj_iconst dk_86_26 ?_
        refine zj_iadd dk_86_27 ?_
        refine zj_iload_n dk_86_28 rfl ?_
        refine zj_icmp_ge (t := 54) dk_86_29 rfl (by omega) (fun c29 => ?_) (fun c29 => ?_)
        · skip
          refine zj_iconst dk_86_54 ?_
          refine zj_istore dk_86_55 rfl ?_
          refine zj_iinc dk_86_57 rfl rfl ?_
          refine zj_iload dk_86_60 rfl ?_
          refine zj_iconst dk_86_62 ?_
          refine zj_icmp_ne (t := 68) dk_86_63 rfl (by omega) (fun c63 => ?_) (fun c63 => ?_)
          · skip
            refine zi_aload_n dk_86_68 rfl rfl ?_
            refine zi_getf dk_86_69 fl_3_12 (by first | exact (pc_o op).trans ep | exact pc_0 | exact (pc_o ot).trans et | exact (pc_o oc).trans ec) rfl ?_
            refine zj_iload dk_86_72 rfl ?_
            refine zi_invV dk_86_74 ml_3_55 iv_31 (ct_31 (d := d - 1) (by omega) (by omega)) (by first | exact (pc_o op).trans ep | exact pc_0 | exact (pc_o ot).trans et | exact (pc_o oc).trans ec) rfl rfl rfl (Nat.le_of_ble_eq_true rfl) (by omega) rfl rfl (fun r n' h' hq => ?_)
            obtain ⟨rfl, rfl, rfl⟩ := hq
            refine zj_iinc dk_86_77 rfl rfl ?_
            refine zi_goto (t := 3) dk_86_80 rfl ?_
            exact absurd rfl c63
          · skip
            refine zj_iconst dk_86_66 ?_
            refine zj_zreturn dk_86_67 rfl (by omega) (by rw [if_pos c21, if_neg (by omega)] at hQ; exact hQ ch wr hch)
        · skip
          refine zi_aload_n dk_86_32 rfl rfl ?_
          refine zj_iload dk_86_33 rfl ?_
          refine zj_iconst dk_86_35 ?_
          refine zj_iadd dk_86_36 ?_
          have hat1 := tx_rg hf (i + 1)
          have hat2 := tx_rg hf (i + 2)
          refine zi_invV dk_86_37 ml_3_21 iv_25 (ct_25 (d := d - 1) ((pc_o ot).trans et) ((pc_o oc).trans ec) hl hf (by omega)) (by first | exact (pc_o op).trans ep | exact pc_0 | exact (pc_o ot).trans et | exact (pc_o oc).trans ec) rfl rfl rfl (Nat.le_of_ble_eq_true rfl) (by omega) rfl rfl (fun r n' h' hq => ?_)
          obtain ⟨rfl, rfl, rfl⟩ := hq
          refine zi_aload_n dk_86_40 rfl rfl ?_
          refine zj_iload dk_86_41 rfl ?_
          refine zj_iconst dk_86_43 ?_
          refine zj_iadd dk_86_44 ?_
          refine zi_invV dk_86_45 ml_3_21 iv_25 (ct_25 (d := d - 1) ((pc_o ot).trans et) ((pc_o oc).trans ec) hl hf (by omega)) (by first | exact (pc_o op).trans ep | exact pc_0 | exact (pc_o ot).trans et | exact (pc_o oc).trans ec) rfl rfl rfl (Nat.le_of_ble_eq_true rfl) (by omega) rfl rfl (fun r n' h' hq => ?_)
          obtain ⟨rfl, rfl, rfl⟩ := hq
          refine zi_invS dk_86_48 ml_3_51 is_87 (ct_87 (d := d - 1) (by omega) hat1 hat2) rfl rfl (Nat.le_of_ble_eq_true rfl) (by omega) rfl rfl (fun r n' h' hq => ?_)
          obtain ⟨rfl, rfl, rfl⟩ := hq
          have hcd := sp_code_rg (tx_at len f (i + 1)) (tx_at len f (i + 2))
          refine zi_goto (t := 55) dk_86_51 rfl ?_
          refine zj_istore dk_86_55 rfl ?_
          refine zj_iinc dk_86_57 rfl rfl ?_
          refine zj_iload dk_86_60 rfl ?_
          refine zj_iconst dk_86_62 ?_
          refine zj_icmp_ne (t := 68) dk_86_63 rfl (by omega) (fun c63 => ?_) (fun c63 => ?_)
          · skip
            refine zi_aload_n dk_86_68 rfl rfl ?_
            refine zi_getf dk_86_69 fl_3_12 (by first | exact (pc_o op).trans ep | exact pc_0 | exact (pc_o ot).trans et | exact (pc_o oc).trans ec) rfl ?_
            refine zj_iload dk_86_72 rfl ?_
            refine zi_invV dk_86_74 ml_3_55 iv_31 (ct_31 (d := d - 1) (by omega) (by omega)) (by first | exact (pc_o op).trans ep | exact pc_0 | exact (pc_o ot).trans et | exact (pc_o oc).trans ec) rfl rfl rfl (Nat.le_of_ble_eq_true rfl) (by omega) rfl rfl (fun r n' h' hq => ?_)
            obtain ⟨rfl, rfl, rfl⟩ := hq
            refine zj_iinc dk_86_77 rfl rfl ?_
            refine zi_goto (t := 3) dk_86_80 rfl ?_
            rw [show i + 2 + 1 = i + 3 by omega]
            exact ih (i + 3) _ _ _ (by omega) (by omega) (by omega) (hch.up (by omega)) (dc_step (by rw [if_pos c21, if_pos (by omega), if_neg c63] at hQ; exact hQ))
          · skip
            refine zj_iconst dk_86_66 ?_
            refine zj_zreturn dk_86_67 rfl (by omega) (by rw [if_pos c21, if_pos (by omega), if_pos c63] at hQ; exact hQ ch wr hch)

/-- behind decode -/
def dc_P (n : Nat) (H : (Int → Int) → Int → zz_H) (o : Option (List Int)) (ch : Int → Int) (wr : Int) : Option Value → Nat → zz_H → Prop := fun r n' h' => n' = n ∧ ((∃ l, o = some l ∧ r = some (zv 1) ∧ h' = H (zW ch wr l) (wr + l.length)) ∨ (o = none ∧ r = some (zv 0) ∧ ∃ ch' wr', ch_ok ch' ∧ h' = H ch' wr'))
theorem dc_PQ (n : Nat) (H : (Int → Int) → Int → zz_H) (o : Option (List Int)) (ch : Int → Int) (wr : Int) : dc_Q (dc_P n H o ch wr) n H o ch wr := by
  cases o with
  | none => exact fun ch' wr' hc => ⟨rfl, Or.inr ⟨rfl, rfl, ch', wr', hc, rfl⟩⟩
  | some l => exact ⟨rfl, Or.inl ⟨l, rfl, rfl, rfl⟩⟩
theorem ct_86 {X : zz_X} {d n : Nat}  (hd : 2 ≤ d) {pp p t ca : Nat} {len : Int} {f : Int → Int} {h0 : zz_H} (ep : h0 pp = some (.inr (3, [.ref p]))) (op : pp < p ∨ p + 4 ≤ pp) (et : h0 t = some (.inr (1, [.ref ca, zv len]))) (ot : t < p ∨ p + 4 ≤ t) (ec : h0 ca = some (zA 1 40 f)) (oc : ca < p ∨ p + 4 ≤ ca) (hl : 0 ≤ len ∧ len ≤ 40) (hf : ∀ i, 0 ≤ i → i < len → 0 ≤ f i ∧ f i < 65536) {ch st en : Int → Int} {bg wr sz fr to : Int} (hb : 0 ≤ fr ∧ fr ≤ to ∧ to ≤ len ∧ 0 ≤ wr ∧ wr ≤ fr) (hch : ch_ok ch) : zz_Ct X mm_86 d 0 0 [.ref pp, .ref t, zv fr, zv to] n (pc_H p ch st en bg wr sz h0) (dc_P n (fun c w => pc_H p c st en bg w sz h0) (sp_dcl (tx_at len f) to 41 fr) ch wr) := by
  refine zz_start (by decide) (ls := [some (.ref pp), some (.ref t), some (zv fr), some (zv to), none, none]) rfl ?_
  refine zj_iload_n dk_86_0 rfl ?_
  refine zj_istore dk_86_1 rfl ?_
  exact lp_86 hd ep op et ot ec oc hl hf (by omega) (by omega) 41 fr ch wr none (by omega) (by omega) (by omega) hch (dc_PQ n _ _ ch wr)

theorem ct_89 {X : zz_X} {d n : Nat}  (hd : 2 ≤ d) {pp p : Nat} {h0 : zz_H} (ep : h0 pp = some (.inr (3, [.ref p]))) (op : pp < p ∨ p + 4 ≤ pp) {ch st en : Int → Int} {bg wr sz la : Int} (hb : 0 ≤ bg ∧ bg ≤ wr ∧ wr ≤ 40) (hz : 0 ≤ sz ∧ sz ≤ 20 ∧ (wr ≠ bg → sz < 20)) (hla : la = 0 ∨ la = 1) (hch : ch_ok ch) : zz_Ct X mm_89 d 0 0 [.ref pp, zv la] n (pc_H p ch st en bg wr sz h0) (fun r n' h' => n' = n ∧ ((wr = bg ∧ r = some (zv la) ∧ h' = pc_H p ch st en bg wr sz h0) ∨
    ((wr - bg = 1 ∧ pc_dots ch (wr - bg).toNat bg = true) ∧ r = some (zv 1) ∧ h' = pc_H p ch st en bg bg sz h0) ∨
    ((wr - bg = 2 ∧ pc_dots ch (wr - bg).toNat bg = true) ∧ r = some (zv (if 0 < sz then 1 else 0)) ∧ h' = pc_H p ch st en bg bg (if 0 < sz then sz - 1 else sz) h0) ∨
    ((wr ≠ bg ∧ ¬ (wr - bg = 1 ∧ pc_dots ch (wr - bg).toNat bg = true) ∧ ¬ (wr - bg = 2 ∧ pc_dots ch (wr - bg).toNat bg = true)) ∧ r = some (zv 1) ∧ h' = pc_H p ch (zU st sz bg) (zU en sz wr) wr wr (sz + 1) h0))) := by
  refine zz_start (by decide) (ls := [some (.ref pp), some (zv la), none]) rfl ?_
  refine zi_aload_n dk_89_0 rfl rfl ?_
  refine zi_getf dk_89_1 fl_3_12 (by first | exact (pc_o op).trans ep | exact pc_0) rfl ?_
  refine zi_invV dk_89_4 ml_3_66 iv_90 (ct_90 (d := d - 1) pc_0 pc_1 pc_2 pc_3) (by first | exact (pc_o op).trans ep | exact pc_0) rfl rfl rfl (Nat.le_of_ble_eq_true rfl) (by omega) rfl rfl (fun r n' h' hq => ?_)
  obtain ⟨rfl, rfl, rfl⟩ := hq
  refine zj_if_ne (t := 12) dk_89_7 rfl (by omega) (fun c7 => ?_) (fun c7 => ?_)
  · skip
    refine zi_aload_n dk_89_12 rfl rfl ?_
    refine zi_getf dk_89_13 fl_3_12 (by first | exact (pc_o op).trans ep | exact pc_0) rfl ?_
    refine zj_iconst dk_89_16 ?_
    refine zi_invV dk_89_17 ml_3_70 iv_91 (ct_91 (d := d - 1) (by omega) pc_0 pc_1 pc_2 pc_3 (by omega) (by omega) hch) (by first | exact (pc_o op).trans ep | exact pc_0) rfl rfl rfl (Nat.le_of_ble_eq_true rfl) (by omega) rfl rfl (fun r n' h' hq => ?_)
    obtain ⟨rfl, rfl, rfl⟩ := hq
    refine zj_if_eq (t := 32) dk_89_20 rfl (by split <;> omega) (fun c20 => ?_) (fun c20 => ?_)
    · skip
      refine zi_aload_n dk_89_32 rfl rfl ?_
      refine zi_getf dk_89_33 fl_3_12 (by first | exact (pc_o op).trans ep | exact pc_0) rfl ?_
      refine zj_iconst dk_89_36 ?_
      refine zi_invV dk_89_37 ml_3_70 iv_91 (ct_91 (d := d - 1) (by omega) pc_0 pc_1 pc_2 pc_3 (by omega) (by omega) hch) (by first | exact (pc_o op).trans ep | exact pc_0) rfl rfl rfl (Nat.le_of_ble_eq_true rfl) (by omega) rfl rfl (fun r n' h' hq => ?_)
      obtain ⟨rfl, rfl, rfl⟩ := hq
      refine zj_if_eq (t := 75) dk_89_40 rfl (by split <;> omega) (fun c40 => ?_) (fun c40 => ?_)
      · skip
        refine zi_aload_n dk_89_75 rfl rfl ?_
        refine zi_getf dk_89_76 fl_3_12 (by first | exact (pc_o op).trans ep | exact pc_0) rfl ?_
        refine zi_invV dk_89_79 ml_3_82 iv_32 (ct_32 (d := d - 1) (by omega)) (by first | exact (pc_o op).trans ep | exact pc_0) rfl rfl rfl (Nat.le_of_ble_eq_true rfl) (by omega) rfl rfl (fun r n' h' hq => ?_)
        obtain ⟨rfl, rfl, rfl⟩ := hq
        refine zj_iconst dk_89_82 ?_
        refine zj_zreturn dk_89_83 rfl (by omega) ⟨rfl, Or.inr (Or.inr (Or.inr ⟨⟨by omega, by split at c20 <;> first | assumption | omega, by split at c40 <;> first | assumption | omega⟩, rfl, rfl⟩))⟩
      · skip
        refine zi_aload_n dk_89_43 rfl rfl ?_
        refine zi_getf dk_89_44 fl_3_12 (by first | exact (pc_o op).trans ep | exact pc_0) rfl ?_
        refine zi_getf dk_89_47 fl_3_76 (by first | exact (pc_o op).trans ep | exact pc_0) rfl ?_
        refine zj_if_le (t := 57) dk_89_50 rfl (by omega) (fun c50 => ?_) (fun c50 => ?_)
        · skip
          refine zj_iconst dk_89_57 ?_
          refine zj_istore_n dk_89_58 rfl ?_
          refine zi_aload_n dk_89_59 rfl rfl ?_
          refine zi_getf dk_89_60 fl_3_12 (by first | exact (pc_o op).trans ep | exact pc_0) rfl ?_
          refine zi_invV dk_89_63 ml_3_73 iv_92 (ct_92 (d := d - 1)) (by first | exact (pc_o op).trans ep | exact pc_0) rfl rfl rfl (Nat.le_of_ble_eq_true rfl) (by omega) rfl rfl (fun r n' h' hq => ?_)
          obtain ⟨rfl, rfl, rfl⟩ := hq
          refine zi_aload_n dk_89_66 rfl rfl ?_
          refine zi_getf dk_89_67 fl_3_12 (by first | exact (pc_o op).trans ep | exact pc_0) rfl ?_
          refine zi_invV dk_89_70 ml_3_79 iv_93 (ct_93 (d := d - 1) (by omega)) (by first | exact (pc_o op).trans ep | exact pc_0) rfl rfl rfl (Nat.le_of_ble_eq_true rfl) (by omega) rfl rfl (fun r n' h' hq => ?_)
          obtain ⟨rfl, rfl, rfl⟩ := hq
          refine zj_iload_n dk_89_73 rfl ?_
          refine zj_zreturn dk_89_74 rfl (by omega) ⟨rfl, Or.inr (Or.inr (Or.inl ⟨by split at c40 <;> first | assumption | omega, by first | rw [if_pos (by omega)] | rw [if_neg (by omega)], rfl⟩))⟩
        · skip
          refine zj_iconst dk_89_53 ?_
          refine zi_goto (t := 58) dk_89_54 rfl ?_
          refine zj_istore_n dk_89_58 rfl ?_
          refine zi_aload_n dk_89_59 rfl rfl ?_
          refine zi_getf dk_89_60 fl_3_12 (by first | exact (pc_o op).trans ep | exact pc_0) rfl ?_
          refine zi_invV dk_89_63 ml_3_73 iv_92 (ct_92 (d := d - 1)) (by first | exact (pc_o op).trans ep | exact pc_0) rfl rfl rfl (Nat.le_of_ble_eq_true rfl) (by omega) rfl rfl (fun r n' h' hq => ?_)
          obtain ⟨rfl, rfl, rfl⟩ := hq
          refine zi_aload_n dk_89_66 rfl rfl ?_
          refine zi_getf dk_89_67 fl_3_12 (by first | exact (pc_o op).trans ep | exact pc_0) rfl ?_
          refine zi_invV dk_89_70 ml_3_79 iv_93 (ct_93 (d := d - 1) (by omega)) (by first | exact (pc_o op).trans ep | exact pc_0) rfl rfl rfl (Nat.le_of_ble_eq_true rfl) (by omega) rfl rfl (fun r n' h' hq => ?_)
          obtain ⟨rfl, rfl, rfl⟩ := hq
          refine zj_iload_n dk_89_73 rfl ?_
          refine zj_zreturn dk_89_74 rfl (by omega) ⟨rfl, Or.inr (Or.inr (Or.inl ⟨by split at c40 <;> first | assumption | omega, by first | rw [if_pos (by omega)] | rw [if_neg (by omega)], rfl⟩))⟩
    · skip
      refine zi_aload_n dk_89_23 rfl rfl ?_
      refine zi_getf dk_89_24 fl_3_12 (by first | exact (pc_o op).trans ep | exact pc_0) rfl ?_
      refine zi_invV dk_89_27 ml_3_73 iv_92 (ct_92 (d := d - 1)) (by first | exact (pc_o op).trans ep | exact pc_0) rfl rfl rfl (Nat.le_of_ble_eq_true rfl) (by omega) rfl rfl (fun r n' h' hq => ?_)
      obtain ⟨rfl, rfl, rfl⟩ := hq
      refine zj_iconst dk_89_30 ?_
      refine zj_zreturn dk_89_31 rfl (by omega) ⟨rfl, Or.inr (Or.inl ⟨by split at c20 <;> first | assumption | omega, rfl, rfl⟩)⟩
  · skip
    refine zj_iload_n dk_89_10 rfl ?_
    refine zj_zreturn dk_89_11 rfl (by omega) ⟨rfl, Or.inl ⟨by omega, rfl, rfl⟩⟩

