/-! the model: session, series, logout, login, ask -/
def sn_of (la lb : Bool) (ia ib u i : Int) : Int := if la = true ∧ lb = true then (if ia < ib then 2 * u + i else 2 * u + 1 - i) else if la = true then (if i = 0 then 2 * u else -1) else if lb = true then (if i = 0 then 2 * u + 1 else -1) else -1
theorem ct_168 {X : zz_X} {d n : Nat}  (hd : 1 ≤ d) {m : Nat} {V : Nat → Int} {B : Nat → Int → Int} {h0 : zz_H} (R : md_R V B) {u i w : Int} (hu : -2147483648 ≤ u ∧ u < 2147483648) (hi : -2147483648 ≤ i ∧ i < 2147483648) (hw : -2147483648 ≤ w ∧ w < 2147483648) (hs : 0 ≤ V 8 ∧ V 8 ≤ 6) : zz_Ct X mm_168 d 0 0 [.ref m, zv u, zv i, zv w] n (md_H m V B h0) (fun r n' h' => n' = n ∧ h' = md_H m V B h0 ∧ ((¬ ((0 ≤ u ∧ u < V 8) ∧ (0 ≤ i ∧ i ≤ 1) ∧ (0 ≤ w ∧ w ≤ 2)) ∧ r = some (zv (-1))) ∨ (((0 ≤ u ∧ u < V 8) ∧ (0 ≤ i ∧ i ≤ 1) ∧ (0 ≤ w ∧ w ≤ 2)) ∧ (sn_of (decide (mlv V B (2 * u))) (decide (mlv V B (2 * u + 1))) (B 9 (2 * u)) (B 9 (2 * u + 1)) u i) = -1 ∧ r = some (zv (-1))) ∨ (((0 ≤ u ∧ u < V 8) ∧ (0 ≤ i ∧ i ≤ 1) ∧ (0 ≤ w ∧ w ≤ 2)) ∧ 0 ≤ (sn_of (decide (mlv V B (2 * u))) (decide (mlv V B (2 * u + 1))) (B 9 (2 * u)) (B 9 (2 * u + 1)) u i) ∧ (sn_of (decide (mlv V B (2 * u))) (decide (mlv V B (2 * u + 1))) (B 9 (2 * u)) (B 9 (2 * u + 1)) u i) < 12 ∧ r = some (zv (if w = 0 then B 9 (sn_of (decide (mlv V B (2 * u))) (decide (mlv V B (2 * u + 1))) (B 9 (2 * u)) (B 9 (2 * u + 1)) u i) else if w = 1 then B 10 (sn_of (decide (mlv V B (2 * u))) (decide (mlv V B (2 * u + 1))) (B 9 (2 * u)) (B 9 (2 * u + 1)) u i) else B 11 (sn_of (decide (mlv V B (2 * u))) (decide (mlv V B (2 * u + 1))) (B 9 (2 * u)) (B 9 (2 * u + 1)) u i)))))) := by
  refine zz_start (by decide) (ls := [some (.ref m), some (zv u), some (zv i), some (zv w), none, none, none, none, none]) rfl ?_
  have hrgu := hs
  have key : ((0 ≤ u ∧ u < V 8) ∧ (0 ≤ i ∧ i ≤ 1) ∧ (0 ≤ w ∧ w ≤ 2)) → ∀ (s x6 x7 : Int), (0 ≤ s ∧ s < 12) → s = (sn_of (decide (mlv V B (2 * u))) (decide (mlv V B (2 * u + 1))) (B 9 (2 * u)) (B 9 (2 * u + 1)) u i) → zz_Z X mm_168 d (fun r n' h' => n' = n ∧ h' = md_H m V B h0 ∧ ((¬ ((0 ≤ u ∧ u < V 8) ∧ (0 ≤ i ∧ i ≤ 1) ∧ (0 ≤ w ∧ w ≤ 2)) ∧ r = some (zv (-1))) ∨ (((0 ≤ u ∧ u < V 8) ∧ (0 ≤ i ∧ i ≤ 1) ∧ (0 ≤ w ∧ w ≤ 2)) ∧ (sn_of (decide (mlv V B (2 * u))) (decide (mlv V B (2 * u + 1))) (B 9 (2 * u)) (B 9 (2 * u + 1)) u i) = -1 ∧ r = some (zv (-1))) ∨ (((0 ≤ u ∧ u < V 8) ∧ (0 ≤ i ∧ i ≤ 1) ∧ (0 ≤ w ∧ w ≤ 2)) ∧ 0 ≤ (sn_of (decide (mlv V B (2 * u))) (decide (mlv V B (2 * u + 1))) (B 9 (2 * u)) (B 9 (2 * u + 1)) u i) ∧ (sn_of (decide (mlv V B (2 * u))) (decide (mlv V B (2 * u + 1))) (B 9 (2 * u)) (B 9 (2 * u + 1)) u i) < 12 ∧ r = some (zv (if w = 0 then B 9 (sn_of (decide (mlv V B (2 * u))) (decide (mlv V B (2 * u + 1))) (B 9 (2 * u)) (B 9 (2 * u + 1)) u i) else if w = 1 then B 10 (sn_of (decide (mlv V B (2 * u))) (decide (mlv V B (2 * u + 1))) (B 9 (2 * u)) (B 9 (2 * u + 1)) u i) else B 11 (sn_of (decide (mlv V B (2 * u))) (decide (mlv V B (2 * u + 1))) (B 9 (2 * u)) (B 9 (2 * u + 1)) u i)))))) 0 0 140 [some (.ref m), some (zv u), some (zv i), some (zv w), some (zv (2 * u)), some (zv (2 * u + 1)), some (zv x6), some (zv x7), some (zv s)] [] n (md_H m V B h0) := by
    intro hok s x6 x7 hsr hsn
    refine zj_iload_n dk_168_140 rfl ?_
    refine zj_if_ne (t := 154) dk_168_141 rfl (by omega) (fun c141 => ?_) (fun c141 => ?_)
    · skip
      refine zj_iload_n dk_168_154 rfl ?_
      refine zj_iconst dk_168_155 ?_
      refine zj_icmp_ne (t := 169) dk_168_156 rfl (by omega) (fun c156 => ?_) (fun c156 => ?_)
      · skip
        refine zi_aload_n dk_168_169 rfl rfl ?_
        refine zi_getf dk_168_170 fl_13_41 md_0 rfl ?_
        refine zj_iload dk_168_173 rfl ?_
        refine md_zald (k := 11) (N := 12) dk_168_175 (by decide) rfl rfl (by omega) ?_
        refine zj_if_eq (t := 183) dk_168_176 rfl (by have := (R.2 s hsr.1 hsr.2).2.2.2.1; omega) (fun c176 => ?_) (fun c176 => ?_)
        · skip
          refine zj_iconst dk_168_183 ?_
          refine zj_ireturn dk_168_184 rfl ⟨rfl, rfl, Or.inr (Or.inr ⟨hok, by omega, by omega, by rw [← hsn]; congr 2; (repeat' split) <;> first | rfl | omega | (have := (R.2 s hsr.1 hsr.2).2.2.2.1; omega)⟩)⟩
        · skip
          refine zj_iconst dk_168_179 ?_
          refine zi_goto (t := 184) dk_168_180 rfl ?_
          refine zj_ireturn dk_168_184 rfl ⟨rfl, rfl, Or.inr (Or.inr ⟨hok, by omega, by omega, by rw [← hsn]; congr 2; (repeat' split) <;> first | rfl | omega | (have := (R.2 s hsr.1 hsr.2).2.2.2.1; omega)⟩)⟩
      · skip
        refine zi_aload_n dk_168_159 rfl rfl ?_
        refine zi_getf dk_168_160 fl_13_38 md_0 rfl ?_
        refine zj_iload dk_168_163 rfl ?_
        refine md_iald (k := 10) (N := 12) dk_168_165 (by decide) rfl rfl (by omega) ?_
        refine zi_goto (t := 184) dk_168_166 rfl ?_
        refine zj_ireturn dk_168_184 rfl ⟨rfl, rfl, Or.inr (Or.inr ⟨hok, by omega, by omega, by rw [← hsn]; congr 2; (repeat' split) <;> first | rfl | omega | (have := (R.2 s hsr.1 hsr.2).2.2.2.1; omega)⟩)⟩
    · skip
      refine zi_aload_n dk_168_144 rfl rfl ?_
      refine zi_getf dk_168_145 fl_13_35 md_0 rfl ?_
      refine zj_iload dk_168_148 rfl ?_
      refine md_iald (k := 9) (N := 12) dk_168_150 (by decide) rfl rfl (by omega) ?_
      refine zi_goto (t := 184) dk_168_151 rfl ?_
      refine zj_ireturn dk_168_184 rfl ⟨rfl, rfl, Or.inr (Or.inr ⟨hok, by omega, by omega, by rw [← hsn]; congr 2; (repeat' split) <;> first | rfl | omega | (have := (R.2 s hsr.1 hsr.2).2.2.2.1; omega)⟩)⟩
  have key3 : ((0 ≤ u ∧ u < V 8) ∧ (0 ≤ i ∧ i ≤ 1) ∧ (0 ≤ w ∧ w ≤ 2)) → zz_Z X mm_168 d (fun r n' h' => n' = n ∧ h' = md_H m V B h0 ∧ ((¬ ((0 ≤ u ∧ u < V 8) ∧ (0 ≤ i ∧ i ≤ 1) ∧ (0 ≤ w ∧ w ≤ 2)) ∧ r = some (zv (-1))) ∨ (((0 ≤ u ∧ u < V 8) ∧ (0 ≤ i ∧ i ≤ 1) ∧ (0 ≤ w ∧ w ≤ 2)) ∧ (sn_of (decide (mlv V B (2 * u))) (decide (mlv V B (2 * u + 1))) (B 9 (2 * u)) (B 9 (2 * u + 1)) u i) = -1 ∧ r = some (zv (-1))) ∨ (((0 ≤ u ∧ u < V 8) ∧ (0 ≤ i ∧ i ≤ 1) ∧ (0 ≤ w ∧ w ≤ 2)) ∧ 0 ≤ (sn_of (decide (mlv V B (2 * u))) (decide (mlv V B (2 * u + 1))) (B 9 (2 * u)) (B 9 (2 * u + 1)) u i) ∧ (sn_of (decide (mlv V B (2 * u))) (decide (mlv V B (2 * u + 1))) (B 9 (2 * u)) (B 9 (2 * u + 1)) u i) < 12 ∧ r = some (zv (if w = 0 then B 9 (sn_of (decide (mlv V B (2 * u))) (decide (mlv V B (2 * u + 1))) (B 9 (2 * u)) (B 9 (2 * u + 1)) u i) else if w = 1 then B 10 (sn_of (decide (mlv V B (2 * u))) (decide (mlv V B (2 * u + 1))) (B 9 (2 * u)) (B 9 (2 * u + 1)) u i) else B 11 (sn_of (decide (mlv V B (2 * u))) (decide (mlv V B (2 * u + 1))) (B 9 (2 * u)) (B 9 (2 * u + 1)) u i)))))) 0 0 39 [some (.ref m), some (zv u), some (zv i), some (zv w), some (zv (2 * u)), some (zv (2 * u + 1)), none, none, none] [] n (md_H m V B h0) := by
    intro hok
    obtain ⟨a1, a2, a3, a4, a5, a6, a7⟩ := R.2 (2 * u) (by omega) (by omega)
    obtain ⟨b1, b2, b3, b4, b5, b6, b7⟩ := R.2 (2 * u + 1) (by omega) (by omega)
    by_cases hla : mlv V B (2 * u)
    · by_cases hlb : mlv V B (2 * u + 1)
      · refine zi_aload_n dk_168_39 rfl rfl ?_
        refine zj_iload dk_168_40 rfl ?_
        refine zi_invV dk_168_42 ml_13_195 iv_142 (ct_142 (d := d - 1) (by omega) a1 ⟨R.1, a5, a6⟩) md_0 rfl rfl rfl (Nat.le_of_ble_eq_true rfl) (by omega) rfl rfl (fun r n' h' hq => ?_)
        obtain ⟨rfl, rfl, rfl⟩ := hq
        rw [if_pos hla]
        refine zj_if_eq (t := 52) dk_168_45 rfl (by omega) (fun c45 => ?_) (fun c45 => ?_)
        · omega
        · skip
          refine zj_iconst dk_168_48 ?_
          refine zi_goto (t := 53) dk_168_49 rfl ?_
          refine zi_aload_n dk_168_53 rfl rfl ?_
          refine zj_iload dk_168_54 rfl ?_
          refine zi_invV dk_168_56 ml_13_195 iv_142 (ct_142 (d := d - 1) (by omega) b1 ⟨R.1, b5, b6⟩) md_0 rfl rfl rfl (Nat.le_of_ble_eq_true rfl) (by omega) rfl rfl (fun r n' h' hq => ?_)
          obtain ⟨rfl, rfl, rfl⟩ := hq
          rw [if_pos hlb]
          refine zj_if_eq (t := 66) dk_168_59 rfl (by omega) (fun c59 => ?_) (fun c59 => ?_)
          · omega
          · skip
            refine zj_iconst dk_168_62 ?_
            refine zi_goto (t := 67) dk_168_63 rfl ?_
            refine zj_iadd dk_168_67 ?_
            refine zj_istore dk_168_68 rfl ?_
            refine zj_iload_n dk_168_70 rfl ?_
            refine zj_iload dk_168_71 rfl ?_
            refine zj_icmp_lt (t := 78) dk_168_73 rfl (by omega) (fun c73 => ?_) (fun c73 => ?_)
            · skip
              refine zj_iload dk_168_78 rfl ?_
              refine zj_iconst dk_168_80 ?_
              refine zj_icmp_ne (t := 109) dk_168_81 rfl (by omega) (fun c81 => ?_) (fun c81 => ?_)
              · omega
              · skip
                refine zi_aload_n dk_168_84 rfl rfl ?_
                refine zi_getf dk_168_85 fl_13_35 md_0 rfl ?_
                refine zj_iload dk_168_88 rfl ?_
                refine md_iald (k := 9) (N := 12) dk_168_90 (by decide) rfl rfl (by omega) ?_
                refine zi_aload_n dk_168_91 rfl rfl ?_
                refine zi_getf dk_168_92 fl_13_35 md_0 rfl ?_
                refine zj_iload dk_168_95 rfl ?_
                refine md_iald (k := 9) (N := 12) dk_168_97 (by decide) rfl rfl (by omega) ?_
                refine zj_icmp_ge (t := 105) dk_168_98 rfl (by omega) (fun c98 => ?_) (fun c98 => ?_)
                · skip
                  refine zj_iconst dk_168_105 ?_
                  refine zi_goto (t := 115) dk_168_106 rfl ?_
                  refine zj_istore dk_168_115 rfl ?_
                  refine zj_iload dk_168_117 rfl ?_
                  refine zj_iload_n dk_168_119 rfl ?_
                  refine zj_if_ne (t := 127) dk_168_120 rfl (by omega) (fun c120 => ?_) (fun c120 => ?_)
                  · skip
                    refine zj_iconst dk_168_127 ?_
                    refine zj_icmp_ne (t := 136) dk_168_128 rfl (by omega) (fun c128 => ?_) (fun c128 => ?_)
                    · skip
                      refine zj_iload dk_168_136 rfl ?_
                      refine zj_istore dk_168_138 rfl ?_
                      exact key hok _ _ _ (by omega) (by unfold sn_of; rw [decide_eq_true hla, decide_eq_true hlb]; simp <;> omega)
                    · skip
                      refine zj_iload dk_168_131 rfl ?_
                      refine zi_goto (t := 138) dk_168_133 rfl ?_
                      refine zj_istore dk_168_138 rfl ?_
                      exact key hok _ _ _ (by omega) (by unfold sn_of; rw [decide_eq_true hla, decide_eq_true hlb]; simp <;> omega)
                  · skip
                    refine zj_iconst dk_168_123 ?_
                    refine zi_goto (t := 128) dk_168_124 rfl ?_
                    refine zj_icmp_ne (t := 136) dk_168_128 rfl (by omega) (fun c128 => ?_) (fun c128 => ?_)
                    · skip
                      refine zj_iload dk_168_136 rfl ?_
                      refine zj_istore dk_168_138 rfl ?_
                      exact key hok _ _ _ (by omega) (by unfold sn_of; rw [decide_eq_true hla, decide_eq_true hlb]; simp <;> omega)
                    · skip
                      refine zj_iload dk_168_131 rfl ?_
                      refine zi_goto (t := 138) dk_168_133 rfl ?_
                      refine zj_istore dk_168_138 rfl ?_
                      exact key hok _ _ _ (by omega) (by unfold sn_of; rw [decide_eq_true hla, decide_eq_true hlb]; simp <;> omega)
                · skip
                  refine zj_iconst dk_168_101 ?_
                  refine zi_goto (t := 115) dk_168_102 rfl ?_
                  refine zj_istore dk_168_115 rfl ?_
                  refine zj_iload dk_168_117 rfl ?_
                  refine zj_iload_n dk_168_119 rfl ?_
                  refine zj_if_ne (t := 127) dk_168_120 rfl (by omega) (fun c120 => ?_) (fun c120 => ?_)
                  · skip
                    refine zj_iconst dk_168_127 ?_
                    refine zj_icmp_ne (t := 136) dk_168_128 rfl (by omega) (fun c128 => ?_) (fun c128 => ?_)
                    · skip
                      refine zj_iload dk_168_136 rfl ?_
                      refine zj_istore dk_168_138 rfl ?_
                      exact key hok _ _ _ (by omega) (by unfold sn_of; rw [decide_eq_true hla, decide_eq_true hlb]; simp <;> omega)
                    · skip
                      refine zj_iload dk_168_131 rfl ?_
                      refine zi_goto (t := 138) dk_168_133 rfl ?_
                      refine zj_istore dk_168_138 rfl ?_
                      exact key hok _ _ _ (by omega) (by unfold sn_of; rw [decide_eq_true hla, decide_eq_true hlb]; simp <;> omega)
                  · skip
                    refine zj_iconst dk_168_123 ?_
                    refine zi_goto (t := 128) dk_168_124 rfl ?_
                    refine zj_icmp_ne (t := 136) dk_168_128 rfl (by omega) (fun c128 => ?_) (fun c128 => ?_)
                    · skip
                      refine zj_iload dk_168_136 rfl ?_
                      refine zj_istore dk_168_138 rfl ?_
                      exact key hok _ _ _ (by omega) (by unfold sn_of; rw [decide_eq_true hla, decide_eq_true hlb]; simp <;> omega)
                    · skip
                      refine zj_iload dk_168_131 rfl ?_
                      refine zi_goto (t := 138) dk_168_133 rfl ?_
                      refine zj_istore dk_168_138 rfl ?_
                      exact key hok _ _ _ (by omega) (by unfold sn_of; rw [decide_eq_true hla, decide_eq_true hlb]; simp <;> omega)
            · omega
      · refine zi_aload_n dk_168_39 rfl rfl ?_
        refine zj_iload dk_168_40 rfl ?_
        refine zi_invV dk_168_42 ml_13_195 iv_142 (ct_142 (d := d - 1) (by omega) a1 ⟨R.1, a5, a6⟩) md_0 rfl rfl rfl (Nat.le_of_ble_eq_true rfl) (by omega) rfl rfl (fun r n' h' hq => ?_)
        obtain ⟨rfl, rfl, rfl⟩ := hq
        rw [if_pos hla]
        refine zj_if_eq (t := 52) dk_168_45 rfl (by omega) (fun c45 => ?_) (fun c45 => ?_)
        · omega
        · skip
          refine zj_iconst dk_168_48 ?_
          refine zi_goto (t := 53) dk_168_49 rfl ?_
          refine zi_aload_n dk_168_53 rfl rfl ?_
          refine zj_iload dk_168_54 rfl ?_
          refine zi_invV dk_168_56 ml_13_195 iv_142 (ct_142 (d := d - 1) (by omega) b1 ⟨R.1, b5, b6⟩) md_0 rfl rfl rfl (Nat.le_of_ble_eq_true rfl) (by omega) rfl rfl (fun r n' h' hq => ?_)
          obtain ⟨rfl, rfl, rfl⟩ := hq
          rw [if_neg hlb]
          refine zj_if_eq (t := 66) dk_168_59 rfl (by omega) (fun c59 => ?_) (fun c59 => ?_)
          · skip
            refine zj_iconst dk_168_66 ?_
            refine zj_iadd dk_168_67 ?_
            refine zj_istore dk_168_68 rfl ?_
            refine zj_iload_n dk_168_70 rfl ?_
            refine zj_iload dk_168_71 rfl ?_
            refine zj_icmp_lt (t := 78) dk_168_73 rfl (by omega) (fun c73 => ?_) (fun c73 => ?_)
            · skip
              refine zj_iload dk_168_78 rfl ?_
              refine zj_iconst dk_168_80 ?_
              refine zj_icmp_ne (t := 109) dk_168_81 rfl (by omega) (fun c81 => ?_) (fun c81 => ?_)
              · skip
                refine zi_aload_n dk_168_109 rfl rfl ?_
                refine zj_iload dk_168_110 rfl ?_
                refine zi_invV dk_168_112 ml_13_195 iv_142 (ct_142 (d := d - 1) (by omega) a1 ⟨R.1, a5, a6⟩) md_0 rfl rfl rfl (Nat.le_of_ble_eq_true rfl) (by omega) rfl rfl (fun r n' h' hq => ?_)
                obtain ⟨rfl, rfl, rfl⟩ := hq
                rw [if_pos hla]
                refine zj_istore dk_168_115 rfl ?_
                refine zj_iload dk_168_117 rfl ?_
                refine zj_iload_n dk_168_119 rfl ?_
                refine zj_if_ne (t := 127) dk_168_120 rfl (by omega) (fun c120 => ?_) (fun c120 => ?_)
                · skip
                  refine zj_iconst dk_168_127 ?_
                  refine zj_icmp_ne (t := 136) dk_168_128 rfl (by omega) (fun c128 => ?_) (fun c128 => ?_)
                  · skip
                    refine zj_iload dk_168_136 rfl ?_
                    refine zj_istore dk_168_138 rfl ?_
                    exact key hok _ _ _ (by omega) (by unfold sn_of; rw [decide_eq_true hla, decide_eq_false hlb]; simp <;> omega)
                  · skip
                    refine zj_iload dk_168_131 rfl ?_
                    refine zi_goto (t := 138) dk_168_133 rfl ?_
                    refine zj_istore dk_168_138 rfl ?_
                    exact key hok _ _ _ (by omega) (by unfold sn_of; rw [decide_eq_true hla, decide_eq_false hlb]; simp <;> omega)
                · skip
                  refine zj_iconst dk_168_123 ?_
                  refine zi_goto (t := 128) dk_168_124 rfl ?_
                  refine zj_icmp_ne (t := 136) dk_168_128 rfl (by omega) (fun c128 => ?_) (fun c128 => ?_)
                  · skip
                    refine zj_iload dk_168_136 rfl ?_
                    refine zj_istore dk_168_138 rfl ?_
                    exact key hok _ _ _ (by omega) (by unfold sn_of; rw [decide_eq_true hla, decide_eq_false hlb]; simp <;> omega)
                  · skip
                    refine zj_iload dk_168_131 rfl ?_
                    refine zi_goto (t := 138) dk_168_133 rfl ?_
                    refine zj_istore dk_168_138 rfl ?_
                    exact key hok _ _ _ (by omega) (by unfold sn_of; rw [decide_eq_true hla, decide_eq_false hlb]; simp <;> omega)
              · omega
            · skip
              refine zj_iconst dk_168_76 ?_
              refine zj_ireturn dk_168_77 rfl ⟨rfl, rfl, Or.inr (Or.inl ⟨hok, by unfold sn_of; rw [decide_eq_true hla, decide_eq_false hlb]; simp <;> omega, rfl⟩)⟩
          · omega
    · by_cases hlb : mlv V B (2 * u + 1)
      · refine zi_aload_n dk_168_39 rfl rfl ?_
        refine zj_iload dk_168_40 rfl ?_
        refine zi_invV dk_168_42 ml_13_195 iv_142 (ct_142 (d := d - 1) (by omega) a1 ⟨R.1, a5, a6⟩) md_0 rfl rfl rfl (Nat.le_of_ble_eq_true rfl) (by omega) rfl rfl (fun r n' h' hq => ?_)
        obtain ⟨rfl, rfl, rfl⟩ := hq
        rw [if_neg hla]
        refine zj_if_eq (t := 52) dk_168_45 rfl (by omega) (fun c45 => ?_) (fun c45 => ?_)
        · skip
          refine zj_iconst dk_168_52 ?_
          refine zi_aload_n dk_168_53 rfl rfl ?_
          refine zj_iload dk_168_54 rfl ?_
          refine zi_invV dk_168_56 ml_13_195 iv_142 (ct_142 (d := d - 1) (by omega) b1 ⟨R.1, b5, b6⟩) md_0 rfl rfl rfl (Nat.le_of_ble_eq_true rfl) (by omega) rfl rfl (fun r n' h' hq => ?_)
          obtain ⟨rfl, rfl, rfl⟩ := hq
          rw [if_pos hlb]
          refine zj_if_eq (t := 66) dk_168_59 rfl (by omega) (fun c59 => ?_) (fun c59 => ?_)
          · omega
          · skip
            refine zj_iconst dk_168_62 ?_
            refine zi_goto (t := 67) dk_168_63 rfl ?_
            refine zj_iadd dk_168_67 ?_
            refine zj_istore dk_168_68 rfl ?_
            refine zj_iload_n dk_168_70 rfl ?_
            refine zj_iload dk_168_71 rfl ?_
            refine zj_icmp_lt (t := 78) dk_168_73 rfl (by omega) (fun c73 => ?_) (fun c73 => ?_)
            · skip
              refine zj_iload dk_168_78 rfl ?_
              refine zj_iconst dk_168_80 ?_
              refine zj_icmp_ne (t := 109) dk_168_81 rfl (by omega) (fun c81 => ?_) (fun c81 => ?_)
              · skip
                refine zi_aload_n dk_168_109 rfl rfl ?_
                refine zj_iload dk_168_110 rfl ?_
                refine zi_invV dk_168_112 ml_13_195 iv_142 (ct_142 (d := d - 1) (by omega) a1 ⟨R.1, a5, a6⟩) md_0 rfl rfl rfl (Nat.le_of_ble_eq_true rfl) (by omega) rfl rfl (fun r n' h' hq => ?_)
                obtain ⟨rfl, rfl, rfl⟩ := hq
                rw [if_neg hla]
                refine zj_istore dk_168_115 rfl ?_
                refine zj_iload dk_168_117 rfl ?_
                refine zj_iload_n dk_168_119 rfl ?_
                refine zj_if_ne (t := 127) dk_168_120 rfl (by omega) (fun c120 => ?_) (fun c120 => ?_)
                · skip
                  refine zj_iconst dk_168_127 ?_
                  refine zj_icmp_ne (t := 136) dk_168_128 rfl (by omega) (fun c128 => ?_) (fun c128 => ?_)
                  · skip
                    refine zj_iload dk_168_136 rfl ?_
                    refine zj_istore dk_168_138 rfl ?_
                    exact key hok _ _ _ (by omega) (by unfold sn_of; rw [decide_eq_false hla, decide_eq_true hlb]; simp <;> omega)
                  · skip
                    refine zj_iload dk_168_131 rfl ?_
                    refine zi_goto (t := 138) dk_168_133 rfl ?_
                    refine zj_istore dk_168_138 rfl ?_
                    exact key hok _ _ _ (by omega) (by unfold sn_of; rw [decide_eq_false hla, decide_eq_true hlb]; simp <;> omega)
                · skip
                  refine zj_iconst dk_168_123 ?_
                  refine zi_goto (t := 128) dk_168_124 rfl ?_
                  refine zj_icmp_ne (t := 136) dk_168_128 rfl (by omega) (fun c128 => ?_) (fun c128 => ?_)
                  · skip
                    refine zj_iload dk_168_136 rfl ?_
                    refine zj_istore dk_168_138 rfl ?_
                    exact key hok _ _ _ (by omega) (by unfold sn_of; rw [decide_eq_false hla, decide_eq_true hlb]; simp <;> omega)
                  · skip
                    refine zj_iload dk_168_131 rfl ?_
                    refine zi_goto (t := 138) dk_168_133 rfl ?_
                    refine zj_istore dk_168_138 rfl ?_
                    exact key hok _ _ _ (by omega) (by unfold sn_of; rw [decide_eq_false hla, decide_eq_true hlb]; simp <;> omega)
              · omega
            · skip
              refine zj_iconst dk_168_76 ?_
              refine zj_ireturn dk_168_77 rfl ⟨rfl, rfl, Or.inr (Or.inl ⟨hok, by unfold sn_of; rw [decide_eq_false hla, decide_eq_true hlb]; simp <;> omega, rfl⟩)⟩
        · omega
      · refine zi_aload_n dk_168_39 rfl rfl ?_
        refine zj_iload dk_168_40 rfl ?_
        refine zi_invV dk_168_42 ml_13_195 iv_142 (ct_142 (d := d - 1) (by omega) a1 ⟨R.1, a5, a6⟩) md_0 rfl rfl rfl (Nat.le_of_ble_eq_true rfl) (by omega) rfl rfl (fun r n' h' hq => ?_)
        obtain ⟨rfl, rfl, rfl⟩ := hq
        rw [if_neg hla]
        refine zj_if_eq (t := 52) dk_168_45 rfl (by omega) (fun c45 => ?_) (fun c45 => ?_)
        · skip
          refine zj_iconst dk_168_52 ?_
          refine zi_aload_n dk_168_53 rfl rfl ?_
          refine zj_iload dk_168_54 rfl ?_
          refine zi_invV dk_168_56 ml_13_195 iv_142 (ct_142 (d := d - 1) (by omega) b1 ⟨R.1, b5, b6⟩) md_0 rfl rfl rfl (Nat.le_of_ble_eq_true rfl) (by omega) rfl rfl (fun r n' h' hq => ?_)
          obtain ⟨rfl, rfl, rfl⟩ := hq
          rw [if_neg hlb]
          refine zj_if_eq (t := 66) dk_168_59 rfl (by omega) (fun c59 => ?_) (fun c59 => ?_)
          · skip
            refine zj_iconst dk_168_66 ?_
            refine zj_iadd dk_168_67 ?_
            refine zj_istore dk_168_68 rfl ?_
            refine zj_iload_n dk_168_70 rfl ?_
            refine zj_iload dk_168_71 rfl ?_
            refine zj_icmp_lt (t := 78) dk_168_73 rfl (by omega) (fun c73 => ?_) (fun c73 => ?_)
            · omega
            · skip
              refine zj_iconst dk_168_76 ?_
              refine zj_ireturn dk_168_77 rfl ⟨rfl, rfl, Or.inr (Or.inl ⟨hok, by unfold sn_of; rw [decide_eq_false hla, decide_eq_false hlb]; simp <;> omega, rfl⟩)⟩
          · omega
        · omega
  refine zi_aload_n dk_168_0 rfl rfl ?_
  refine zj_iload_n dk_168_1 rfl ?_
  refine zi_invV dk_168_2 ml_13_198 iv_140 (ct_140 (d := d - 1) hu hs) md_0 rfl rfl rfl (Nat.le_of_ble_eq_true rfl) (by omega) rfl rfl (fun r n' h' hq => ?_)
  obtain ⟨rfl, rfl, rfl⟩ := hq
  refine zj_if_eq (t := 26) dk_168_5 rfl (by split <;> omega) (fun c5 => ?_) (fun c5 => ?_)
  · skip
    refine zj_iconst dk_168_26 ?_
    refine zj_ireturn dk_168_27 rfl ⟨rfl, rfl, Or.inl ⟨fun hh => by first | omega | (rw [if_pos hh.1] at c5; omega), rfl⟩⟩
  · skip
    refine zj_iload_n dk_168_8 rfl ?_
    refine zj_if_lt (t := 26) dk_168_9 rfl (by omega) (fun c9 => ?_) (fun c9 => ?_)
    · skip
      refine zj_iconst dk_168_26 ?_
      refine zj_ireturn dk_168_27 rfl ⟨rfl, rfl, Or.inl ⟨fun hh => by first | omega | (rw [if_pos hh.1] at c5; omega), rfl⟩⟩
    · skip
      refine zj_iload_n dk_168_12 rfl ?_
      refine zj_iconst dk_168_13 ?_
      refine zj_icmp_gt (t := 26) dk_168_14 rfl (by omega) (fun c14 => ?_) (fun c14 => ?_)
      · skip
        refine zj_iconst dk_168_26 ?_
        refine zj_ireturn dk_168_27 rfl ⟨rfl, rfl, Or.inl ⟨fun hh => by first | omega | (rw [if_pos hh.1] at c5; omega), rfl⟩⟩
      · skip
        refine zj_iload_n dk_168_17 rfl ?_
        refine zj_if_lt (t := 26) dk_168_18 rfl (by omega) (fun c18 => ?_) (fun c18 => ?_)
        · skip
          refine zj_iconst dk_168_26 ?_
          refine zj_ireturn dk_168_27 rfl ⟨rfl, rfl, Or.inl ⟨fun hh => by first | omega | (rw [if_pos hh.1] at c5; omega), rfl⟩⟩
        · skip
          refine zj_iload_n dk_168_21 rfl ?_
          refine zj_iconst dk_168_22 ?_
          refine zj_icmp_le (t := 28) dk_168_23 rfl (by omega) (fun c23 => ?_) (fun c23 => ?_)
          · skip
            have hok : ((0 ≤ u ∧ u < V 8) ∧ (0 ≤ i ∧ i ≤ 1) ∧ (0 ≤ w ∧ w ≤ 2)) := ⟨by split at c5 <;> omega, by omega, by omega⟩
            obtain ⟨a1, a2, a3, a4, a5, a6, a7⟩ := R.2 (2 * u) (by omega) (by omega)
            obtain ⟨b1, b2, b3, b4, b5, b6, b7⟩ := R.2 (2 * u + 1) (by omega) (by omega)
            refine zj_iconst dk_168_28 ?_
            refine zj_iload_n dk_168_29 rfl ?_
            refine zj_imul dk_168_30 ?_
            refine zj_istore dk_168_31 rfl ?_
            refine zj_iload dk_168_33 rfl ?_
            refine zj_iconst dk_168_35 ?_
            refine zj_iadd dk_168_36 ?_
            refine zj_istore dk_168_37 rfl ?_
            exact key3 hok
          · skip
            refine zj_iconst dk_168_26 ?_
            refine zj_ireturn dk_168_27 rfl ⟨rfl, rfl, Or.inl ⟨fun hh => by first | omega | (rw [if_pos hh.1] at c5; omega), rfl⟩⟩

theorem ct_169 {X : zz_X} {d n : Nat}  (hd : 1 ≤ d) {m : Nat} {V : Nat → Int} {B : Nat → Int → Int} {h0 : zz_H} (R : md_R V B) {u i w : Int} (hu : -2147483648 ≤ u ∧ u < 2147483648) (hi : -2147483648 ≤ i ∧ i < 2147483648) (hw : -2147483648 ≤ w ∧ w < 2147483648) (hs : 0 ≤ V 8 ∧ V 8 ≤ 6) : zz_Ct X mm_169 d 0 0 [.ref m, zv u, zv i, zv w] n (md_H m V B h0) (fun r n' h' => n' = n ∧ h' = md_H m V B h0 ∧ ((¬ ((0 ≤ u ∧ u < V 8) ∧ (0 ≤ i ∧ i ≤ 1) ∧ (0 ≤ w ∧ w ≤ 1)) ∧ r = some (zv (-1))) ∨ (((0 ≤ u ∧ u < V 8) ∧ (0 ≤ i ∧ i ≤ 1) ∧ (0 ≤ w ∧ w ≤ 1)) ∧ (sn_of (decide (B 14 (2 * u) = 1)) (decide (B 14 (2 * u + 1) = 1)) (B 15 (2 * u)) (B 15 (2 * u + 1)) u i) = -1 ∧ r = some (zv (-1))) ∨ (((0 ≤ u ∧ u < V 8) ∧ (0 ≤ i ∧ i ≤ 1) ∧ (0 ≤ w ∧ w ≤ 1)) ∧ 0 ≤ (sn_of (decide (B 14 (2 * u) = 1)) (decide (B 14 (2 * u + 1) = 1)) (B 15 (2 * u)) (B 15 (2 * u + 1)) u i) ∧ (sn_of (decide (B 14 (2 * u) = 1)) (decide (B 14 (2 * u + 1) = 1)) (B 15 (2 * u)) (B 15 (2 * u + 1)) u i) < 12 ∧ r = some (zv (if w = 0 then B 15 (sn_of (decide (B 14 (2 * u) = 1)) (decide (B 14 (2 * u + 1) = 1)) (B 15 (2 * u)) (B 15 (2 * u + 1)) u i) else B 16 (sn_of (decide (B 14 (2 * u) = 1)) (decide (B 14 (2 * u + 1) = 1)) (B 15 (2 * u)) (B 15 (2 * u + 1)) u i)))))) := by
  refine zz_start (by decide) (ls := [some (.ref m), some (zv u), some (zv i), some (zv w), none, none, none, none, none]) rfl ?_
  have hrgu := hs
  have key : ((0 ≤ u ∧ u < V 8) ∧ (0 ≤ i ∧ i ≤ 1) ∧ (0 ≤ w ∧ w ≤ 1)) → ∀ (s x6 x7 : Int), (0 ≤ s ∧ s < 12) → s = (sn_of (decide (B 14 (2 * u) = 1)) (decide (B 14 (2 * u + 1) = 1)) (B 15 (2 * u)) (B 15 (2 * u + 1)) u i) → zz_Z X mm_169 d (fun r n' h' => n' = n ∧ h' = md_H m V B h0 ∧ ((¬ ((0 ≤ u ∧ u < V 8) ∧ (0 ≤ i ∧ i ≤ 1) ∧ (0 ≤ w ∧ w ≤ 1)) ∧ r = some (zv (-1))) ∨ (((0 ≤ u ∧ u < V 8) ∧ (0 ≤ i ∧ i ≤ 1) ∧ (0 ≤ w ∧ w ≤ 1)) ∧ (sn_of (decide (B 14 (2 * u) = 1)) (decide (B 14 (2 * u + 1) = 1)) (B 15 (2 * u)) (B 15 (2 * u + 1)) u i) = -1 ∧ r = some (zv (-1))) ∨ (((0 ≤ u ∧ u < V 8) ∧ (0 ≤ i ∧ i ≤ 1) ∧ (0 ≤ w ∧ w ≤ 1)) ∧ 0 ≤ (sn_of (decide (B 14 (2 * u) = 1)) (decide (B 14 (2 * u + 1) = 1)) (B 15 (2 * u)) (B 15 (2 * u + 1)) u i) ∧ (sn_of (decide (B 14 (2 * u) = 1)) (decide (B 14 (2 * u + 1) = 1)) (B 15 (2 * u)) (B 15 (2 * u + 1)) u i) < 12 ∧ r = some (zv (if w = 0 then B 15 (sn_of (decide (B 14 (2 * u) = 1)) (decide (B 14 (2 * u + 1) = 1)) (B 15 (2 * u)) (B 15 (2 * u + 1)) u i) else B 16 (sn_of (decide (B 14 (2 * u) = 1)) (decide (B 14 (2 * u + 1) = 1)) (B 15 (2 * u)) (B 15 (2 * u + 1)) u i)))))) 0 0 143 [some (.ref m), some (zv u), some (zv i), some (zv w), some (zv (2 * u)), some (zv (2 * u + 1)), some (zv x6), some (zv x7), some (zv s)] [] n (md_H m V B h0) := by
    intro hok s x6 x7 hsr hsn
    refine zj_iload_n dk_169_143 rfl ?_
    refine zj_if_ne (t := 157) dk_169_144 rfl (by omega) (fun c144 => ?_) (fun c144 => ?_)
    · skip
      refine zi_aload_n dk_169_157 rfl rfl ?_
      refine zi_getf dk_169_158 fl_13_56 md_0 rfl ?_
      refine zj_iload dk_169_161 rfl ?_
      refine md_iald (k := 16) (N := 12) dk_169_163 (by decide) rfl rfl (by omega) ?_
      refine zj_ireturn dk_169_164 rfl ⟨rfl, rfl, Or.inr (Or.inr ⟨hok, by omega, by omega, by rw [← hsn]; congr 2; (repeat' split) <;> first | rfl | omega | (have := (R.2 s hsr.1 hsr.2).2.2.2.1; omega)⟩)⟩
    · skip
      refine zi_aload_n dk_169_147 rfl rfl ?_
      refine zi_getf dk_169_148 fl_13_53 md_0 rfl ?_
      refine zj_iload dk_169_151 rfl ?_
      refine md_iald (k := 15) (N := 12) dk_169_153 (by decide) rfl rfl (by omega) ?_
      refine zi_goto (t := 164) dk_169_154 rfl ?_
      refine zj_ireturn dk_169_164 rfl ⟨rfl, rfl, Or.inr (Or.inr ⟨hok, by omega, by omega, by rw [← hsn]; congr 2; (repeat' split) <;> first | rfl | omega | (have := (R.2 s hsr.1 hsr.2).2.2.2.1; omega)⟩)⟩
  have key3 : ((0 ≤ u ∧ u < V 8) ∧ (0 ≤ i ∧ i ≤ 1) ∧ (0 ≤ w ∧ w ≤ 1)) → zz_Z X mm_169 d (fun r n' h' => n' = n ∧ h' = md_H m V B h0 ∧ ((¬ ((0 ≤ u ∧ u < V 8) ∧ (0 ≤ i ∧ i ≤ 1) ∧ (0 ≤ w ∧ w ≤ 1)) ∧ r = some (zv (-1))) ∨ (((0 ≤ u ∧ u < V 8) ∧ (0 ≤ i ∧ i ≤ 1) ∧ (0 ≤ w ∧ w ≤ 1)) ∧ (sn_of (decide (B 14 (2 * u) = 1)) (decide (B 14 (2 * u + 1) = 1)) (B 15 (2 * u)) (B 15 (2 * u + 1)) u i) = -1 ∧ r = some (zv (-1))) ∨ (((0 ≤ u ∧ u < V 8) ∧ (0 ≤ i ∧ i ≤ 1) ∧ (0 ≤ w ∧ w ≤ 1)) ∧ 0 ≤ (sn_of (decide (B 14 (2 * u) = 1)) (decide (B 14 (2 * u + 1) = 1)) (B 15 (2 * u)) (B 15 (2 * u + 1)) u i) ∧ (sn_of (decide (B 14 (2 * u) = 1)) (decide (B 14 (2 * u + 1) = 1)) (B 15 (2 * u)) (B 15 (2 * u + 1)) u i) < 12 ∧ r = some (zv (if w = 0 then B 15 (sn_of (decide (B 14 (2 * u) = 1)) (decide (B 14 (2 * u + 1) = 1)) (B 15 (2 * u)) (B 15 (2 * u + 1)) u i) else B 16 (sn_of (decide (B 14 (2 * u) = 1)) (decide (B 14 (2 * u + 1) = 1)) (B 15 (2 * u)) (B 15 (2 * u + 1)) u i)))))) 0 0 39 [some (.ref m), some (zv u), some (zv i), some (zv w), some (zv (2 * u)), some (zv (2 * u + 1)), none, none, none] [] n (md_H m V B h0) := by
    intro hok
    obtain ⟨-, -, -, -, -, -, a7, a8, a9⟩ := R.2 (2 * u) (by omega) (by omega)
    obtain ⟨-, -, -, -, -, -, b7, b8, b9⟩ := R.2 (2 * u + 1) (by omega) (by omega)
    by_cases hla : B 14 (2 * u) = 1
    · by_cases hlb : B 14 (2 * u + 1) = 1
      · refine zi_aload_n dk_169_39 rfl rfl ?_
        refine zi_getf dk_169_40 fl_13_50 md_0 rfl ?_
        refine zj_iload dk_169_43 rfl ?_
        refine md_zald (k := 14) (N := 12) dk_169_45 (by decide) rfl rfl (by omega) ?_
        refine zj_if_eq (t := 53) dk_169_46 rfl (by omega) (fun c46 => ?_) (fun c46 => ?_)
        · omega
        · skip
          refine zj_iconst dk_169_49 ?_
          refine zi_goto (t := 54) dk_169_50 rfl ?_
          refine zi_aload_n dk_169_54 rfl rfl ?_
          refine zi_getf dk_169_55 fl_13_50 md_0 rfl ?_
          refine zj_iload dk_169_58 rfl ?_
          refine md_zald (k := 14) (N := 12) dk_169_60 (by decide) rfl rfl (by omega) ?_
          refine zj_if_eq (t := 68) dk_169_61 rfl (by omega) (fun c61 => ?_) (fun c61 => ?_)
          · omega
          · skip
            refine zj_iconst dk_169_64 ?_
            refine zi_goto (t := 69) dk_169_65 rfl ?_
            refine zj_iadd dk_169_69 ?_
            refine zj_istore dk_169_70 rfl ?_
            refine zj_iload_n dk_169_72 rfl ?_
            refine zj_iload dk_169_73 rfl ?_
            refine zj_icmp_lt (t := 80) dk_169_75 rfl (by omega) (fun c75 => ?_) (fun c75 => ?_)
            · skip
              refine zj_iload dk_169_80 rfl ?_
              refine zj_iconst dk_169_82 ?_
              refine zj_icmp_ne (t := 111) dk_169_83 rfl (by omega) (fun c83 => ?_) (fun c83 => ?_)
              · omega
              · skip
                refine zi_aload_n dk_169_86 rfl rfl ?_
                refine zi_getf dk_169_87 fl_13_53 md_0 rfl ?_
                refine zj_iload dk_169_90 rfl ?_
                refine md_iald (k := 15) (N := 12) dk_169_92 (by decide) rfl rfl (by omega) ?_
                refine zi_aload_n dk_169_93 rfl rfl ?_
                refine zi_getf dk_169_94 fl_13_53 md_0 rfl ?_
                refine zj_iload dk_169_97 rfl ?_
                refine md_iald (k := 15) (N := 12) dk_169_99 (by decide) rfl rfl (by omega) ?_
                refine zj_icmp_ge (t := 107) dk_169_100 rfl (by omega) (fun c100 => ?_) (fun c100 => ?_)
                · skip
                  refine zj_iconst dk_169_107 ?_
                  refine zi_goto (t := 118) dk_169_108 rfl ?_
                  refine zj_istore dk_169_118 rfl ?_
                  refine zj_iload dk_169_120 rfl ?_
                  refine zj_iload_n dk_169_122 rfl ?_
                  refine zj_if_ne (t := 130) dk_169_123 rfl (by omega) (fun c123 => ?_) (fun c123 => ?_)
                  · skip
                    refine zj_iconst dk_169_130 ?_
                    refine zj_icmp_ne (t := 139) dk_169_131 rfl (by omega) (fun c131 => ?_) (fun c131 => ?_)
                    · skip
                      refine zj_iload dk_169_139 rfl ?_
                      refine zj_istore dk_169_141 rfl ?_
                      exact key hok _ _ _ (by omega) (by unfold sn_of; rw [decide_eq_true hla, decide_eq_true hlb]; simp <;> omega)
                    · skip
                      refine zj_iload dk_169_134 rfl ?_
                      refine zi_goto (t := 141) dk_169_136 rfl ?_
                      refine zj_istore dk_169_141 rfl ?_
                      exact key hok _ _ _ (by omega) (by unfold sn_of; rw [decide_eq_true hla, decide_eq_true hlb]; simp <;> omega)
                  · skip
                    refine zj_iconst dk_169_126 ?_
                    refine zi_goto (t := 131) dk_169_127 rfl ?_
                    refine zj_icmp_ne (t := 139) dk_169_131 rfl (by omega) (fun c131 => ?_) (fun c131 => ?_)
                    · skip
                      refine zj_iload dk_169_139 rfl ?_
                      refine zj_istore dk_169_141 rfl ?_
                      exact key hok _ _ _ (by omega) (by unfold sn_of; rw [decide_eq_true hla, decide_eq_true hlb]; simp <;> omega)
                    · skip
                      refine zj_iload dk_169_134 rfl ?_
                      refine zi_goto (t := 141) dk_169_136 rfl ?_
                      refine zj_istore dk_169_141 rfl ?_
                      exact key hok _ _ _ (by omega) (by unfold sn_of; rw [decide_eq_true hla, decide_eq_true hlb]; simp <;> omega)
                · skip
                  refine zj_iconst dk_169_103 ?_
                  refine zi_goto (t := 118) dk_169_104 rfl ?_
                  refine zj_istore dk_169_118 rfl ?_
                  refine zj_iload dk_169_120 rfl ?_
                  refine zj_iload_n dk_169_122 rfl ?_
                  refine zj_if_ne (t := 130) dk_169_123 rfl (by omega) (fun c123 => ?_) (fun c123 => ?_)
                  · skip
                    refine zj_iconst dk_169_130 ?_
                    refine zj_icmp_ne (t := 139) dk_169_131 rfl (by omega) (fun c131 => ?_) (fun c131 => ?_)
                    · skip
                      refine zj_iload dk_169_139 rfl ?_
                      refine zj_istore dk_169_141 rfl ?_
                      exact key hok _ _ _ (by omega) (by unfold sn_of; rw [decide_eq_true hla, decide_eq_true hlb]; simp <;> omega)
                    · skip
                      refine zj_iload dk_169_134 rfl ?_
                      refine zi_goto (t := 141) dk_169_136 rfl ?_
                      refine zj_istore dk_169_141 rfl ?_
                      exact key hok _ _ _ (by omega) (by unfold sn_of; rw [decide_eq_true hla, decide_eq_true hlb]; simp <;> omega)
                  · skip
                    refine zj_iconst dk_169_126 ?_
                    refine zi_goto (t := 131) dk_169_127 rfl ?_
                    refine zj_icmp_ne (t := 139) dk_169_131 rfl (by omega) (fun c131 => ?_) (fun c131 => ?_)
                    · skip
                      refine zj_iload dk_169_139 rfl ?_
                      refine zj_istore dk_169_141 rfl ?_
                      exact key hok _ _ _ (by omega) (by unfold sn_of; rw [decide_eq_true hla, decide_eq_true hlb]; simp <;> omega)
                    · skip
                      refine zj_iload dk_169_134 rfl ?_
                      refine zi_goto (t := 141) dk_169_136 rfl ?_
                      refine zj_istore dk_169_141 rfl ?_
                      exact key hok _ _ _ (by omega) (by unfold sn_of; rw [decide_eq_true hla, decide_eq_true hlb]; simp <;> omega)
            · omega
      · refine zi_aload_n dk_169_39 rfl rfl ?_
        refine zi_getf dk_169_40 fl_13_50 md_0 rfl ?_
        refine zj_iload dk_169_43 rfl ?_
        refine md_zald (k := 14) (N := 12) dk_169_45 (by decide) rfl rfl (by omega) ?_
        refine zj_if_eq (t := 53) dk_169_46 rfl (by omega) (fun c46 => ?_) (fun c46 => ?_)
        · omega
        · skip
          refine zj_iconst dk_169_49 ?_
          refine zi_goto (t := 54) dk_169_50 rfl ?_
          refine zi_aload_n dk_169_54 rfl rfl ?_
          refine zi_getf dk_169_55 fl_13_50 md_0 rfl ?_
          refine zj_iload dk_169_58 rfl ?_
          refine md_zald (k := 14) (N := 12) dk_169_60 (by decide) rfl rfl (by omega) ?_
          refine zj_if_eq (t := 68) dk_169_61 rfl (by omega) (fun c61 => ?_) (fun c61 => ?_)
          · skip
            refine zj_iconst dk_169_68 ?_
            refine zj_iadd dk_169_69 ?_
            refine zj_istore dk_169_70 rfl ?_
            refine zj_iload_n dk_169_72 rfl ?_
            refine zj_iload dk_169_73 rfl ?_
            refine zj_icmp_lt (t := 80) dk_169_75 rfl (by omega) (fun c75 => ?_) (fun c75 => ?_)
            · skip
              refine zj_iload dk_169_80 rfl ?_
              refine zj_iconst dk_169_82 ?_
              refine zj_icmp_ne (t := 111) dk_169_83 rfl (by omega) (fun c83 => ?_) (fun c83 => ?_)
              · skip
                refine zi_aload_n dk_169_111 rfl rfl ?_
                refine zi_getf dk_169_112 fl_13_50 md_0 rfl ?_
                refine zj_iload dk_169_115 rfl ?_
                refine md_zald (k := 14) (N := 12) dk_169_117 (by decide) rfl rfl (by omega) ?_
                refine zj_istore dk_169_118 rfl ?_
                refine zj_iload dk_169_120 rfl ?_
                refine zj_iload_n dk_169_122 rfl ?_
                refine zj_if_ne (t := 130) dk_169_123 rfl (by omega) (fun c123 => ?_) (fun c123 => ?_)
                · skip
                  refine zj_iconst dk_169_130 ?_
                  refine zj_icmp_ne (t := 139) dk_169_131 rfl (by omega) (fun c131 => ?_) (fun c131 => ?_)
                  · skip
                    refine zj_iload dk_169_139 rfl ?_
                    refine zj_istore dk_169_141 rfl ?_
                    exact key hok _ _ _ (by omega) (by unfold sn_of; rw [decide_eq_true hla, decide_eq_false hlb]; simp <;> omega)
                  · skip
                    refine zj_iload dk_169_134 rfl ?_
                    refine zi_goto (t := 141) dk_169_136 rfl ?_
                    refine zj_istore dk_169_141 rfl ?_
                    exact key hok _ _ _ (by omega) (by unfold sn_of; rw [decide_eq_true hla, decide_eq_false hlb]; simp <;> omega)
                · skip
                  refine zj_iconst dk_169_126 ?_
                  refine zi_goto (t := 131) dk_169_127 rfl ?_
                  refine zj_icmp_ne (t := 139) dk_169_131 rfl (by omega) (fun c131 => ?_) (fun c131 => ?_)
                  · skip
                    refine zj_iload dk_169_139 rfl ?_
                    refine zj_istore dk_169_141 rfl ?_
                    exact key hok _ _ _ (by omega) (by unfold sn_of; rw [decide_eq_true hla, decide_eq_false hlb]; simp <;> omega)
                  · skip
                    refine zj_iload dk_169_134 rfl ?_
                    refine zi_goto (t := 141) dk_169_136 rfl ?_
                    refine zj_istore dk_169_141 rfl ?_
                    exact key hok _ _ _ (by omega) (by unfold sn_of; rw [decide_eq_true hla, decide_eq_false hlb]; simp <;> omega)
              · omega
            · skip
              refine zj_iconst dk_169_78 ?_
              refine zj_ireturn dk_169_79 rfl ⟨rfl, rfl, Or.inr (Or.inl ⟨hok, by unfold sn_of; rw [decide_eq_true hla, decide_eq_false hlb]; simp <;> omega, rfl⟩)⟩
          · omega
    · by_cases hlb : B 14 (2 * u + 1) = 1
      · refine zi_aload_n dk_169_39 rfl rfl ?_
        refine zi_getf dk_169_40 fl_13_50 md_0 rfl ?_
        refine zj_iload dk_169_43 rfl ?_
        refine md_zald (k := 14) (N := 12) dk_169_45 (by decide) rfl rfl (by omega) ?_
        refine zj_if_eq (t := 53) dk_169_46 rfl (by omega) (fun c46 => ?_) (fun c46 => ?_)
        · skip
          refine zj_iconst dk_169_53 ?_
          refine zi_aload_n dk_169_54 rfl rfl ?_
          refine zi_getf dk_169_55 fl_13_50 md_0 rfl ?_
          refine zj_iload dk_169_58 rfl ?_
          refine md_zald (k := 14) (N := 12) dk_169_60 (by decide) rfl rfl (by omega) ?_
          refine zj_if_eq (t := 68) dk_169_61 rfl (by omega) (fun c61 => ?_) (fun c61 => ?_)
          · omega
          · skip
            refine zj_iconst dk_169_64 ?_
            refine zi_goto (t := 69) dk_169_65 rfl ?_
            refine zj_iadd dk_169_69 ?_
            refine zj_istore dk_169_70 rfl ?_
            refine zj_iload_n dk_169_72 rfl ?_
            refine zj_iload dk_169_73 rfl ?_
            refine zj_icmp_lt (t := 80) dk_169_75 rfl (by omega) (fun c75 => ?_) (fun c75 => ?_)
            · skip
              refine zj_iload dk_169_80 rfl ?_
              refine zj_iconst dk_169_82 ?_
              refine zj_icmp_ne (t := 111) dk_169_83 rfl (by omega) (fun c83 => ?_) (fun c83 => ?_)
              · skip
                refine zi_aload_n dk_169_111 rfl rfl ?_
                refine zi_getf dk_169_112 fl_13_50 md_0 rfl ?_
                refine zj_iload dk_169_115 rfl ?_
                refine md_zald (k := 14) (N := 12) dk_169_117 (by decide) rfl rfl (by omega) ?_
                refine zj_istore dk_169_118 rfl ?_
                refine zj_iload dk_169_120 rfl ?_
                refine zj_iload_n dk_169_122 rfl ?_
                refine zj_if_ne (t := 130) dk_169_123 rfl (by omega) (fun c123 => ?_) (fun c123 => ?_)
                · skip
                  refine zj_iconst dk_169_130 ?_
                  refine zj_icmp_ne (t := 139) dk_169_131 rfl (by omega) (fun c131 => ?_) (fun c131 => ?_)
                  · skip
                    refine zj_iload dk_169_139 rfl ?_
                    refine zj_istore dk_169_141 rfl ?_
                    exact key hok _ _ _ (by omega) (by unfold sn_of; rw [decide_eq_false hla, decide_eq_true hlb]; simp <;> omega)
                  · skip
                    refine zj_iload dk_169_134 rfl ?_
                    refine zi_goto (t := 141) dk_169_136 rfl ?_
                    refine zj_istore dk_169_141 rfl ?_
                    exact key hok _ _ _ (by omega) (by unfold sn_of; rw [decide_eq_false hla, decide_eq_true hlb]; simp <;> omega)
                · skip
                  refine zj_iconst dk_169_126 ?_
                  refine zi_goto (t := 131) dk_169_127 rfl ?_
                  refine zj_icmp_ne (t := 139) dk_169_131 rfl (by omega) (fun c131 => ?_) (fun c131 => ?_)
                  · skip
                    refine zj_iload dk_169_139 rfl ?_
                    refine zj_istore dk_169_141 rfl ?_
                    exact key hok _ _ _ (by omega) (by unfold sn_of; rw [decide_eq_false hla, decide_eq_true hlb]; simp <;> omega)
                  · skip
                    refine zj_iload dk_169_134 rfl ?_
                    refine zi_goto (t := 141) dk_169_136 rfl ?_
                    refine zj_istore dk_169_141 rfl ?_
                    exact key hok _ _ _ (by omega) (by unfold sn_of; rw [decide_eq_false hla, decide_eq_true hlb]; simp <;> omega)
              · omega
            · skip
              refine zj_iconst dk_169_78 ?_
              refine zj_ireturn dk_169_79 rfl ⟨rfl, rfl, Or.inr (Or.inl ⟨hok, by unfold sn_of; rw [decide_eq_false hla, decide_eq_true hlb]; simp <;> omega, rfl⟩)⟩
        · omega
      · refine zi_aload_n dk_169_39 rfl rfl ?_
        refine zi_getf dk_169_40 fl_13_50 md_0 rfl ?_
        refine zj_iload dk_169_43 rfl ?_
        refine md_zald (k := 14) (N := 12) dk_169_45 (by decide) rfl rfl (by omega) ?_
        refine zj_if_eq (t := 53) dk_169_46 rfl (by omega) (fun c46 => ?_) (fun c46 => ?_)
        · skip
          refine zj_iconst dk_169_53 ?_
          refine zi_aload_n dk_169_54 rfl rfl ?_
          refine zi_getf dk_169_55 fl_13_50 md_0 rfl ?_
          refine zj_iload dk_169_58 rfl ?_
          refine md_zald (k := 14) (N := 12) dk_169_60 (by decide) rfl rfl (by omega) ?_
          refine zj_if_eq (t := 68) dk_169_61 rfl (by omega) (fun c61 => ?_) (fun c61 => ?_)
          · skip
            refine zj_iconst dk_169_68 ?_
            refine zj_iadd dk_169_69 ?_
            refine zj_istore dk_169_70 rfl ?_
            refine zj_iload_n dk_169_72 rfl ?_
            refine zj_iload dk_169_73 rfl ?_
            refine zj_icmp_lt (t := 80) dk_169_75 rfl (by omega) (fun c75 => ?_) (fun c75 => ?_)
            · omega
            · skip
              refine zj_iconst dk_169_78 ?_
              refine zj_ireturn dk_169_79 rfl ⟨rfl, rfl, Or.inr (Or.inl ⟨hok, by unfold sn_of; rw [decide_eq_false hla, decide_eq_false hlb]; simp <;> omega, rfl⟩)⟩
          · omega
        · omega
  refine zi_aload_n dk_169_0 rfl rfl ?_
  refine zj_iload_n dk_169_1 rfl ?_
  refine zi_invV dk_169_2 ml_13_198 iv_140 (ct_140 (d := d - 1) hu hs) md_0 rfl rfl rfl (Nat.le_of_ble_eq_true rfl) (by omega) rfl rfl (fun r n' h' hq => ?_)
  obtain ⟨rfl, rfl, rfl⟩ := hq
  refine zj_if_eq (t := 26) dk_169_5 rfl (by split <;> omega) (fun c5 => ?_) (fun c5 => ?_)
  · skip
    refine zj_iconst dk_169_26 ?_
    refine zj_ireturn dk_169_27 rfl ⟨rfl, rfl, Or.inl ⟨fun hh => by first | omega | (rw [if_pos hh.1] at c5; omega), rfl⟩⟩
  · skip
    refine zj_iload_n dk_169_8 rfl ?_
    refine zj_if_lt (t := 26) dk_169_9 rfl (by omega) (fun c9 => ?_) (fun c9 => ?_)
    · skip
      refine zj_iconst dk_169_26 ?_
      refine zj_ireturn dk_169_27 rfl ⟨rfl, rfl, Or.inl ⟨fun hh => by first | omega | (rw [if_pos hh.1] at c5; omega), rfl⟩⟩
    · skip
      refine zj_iload_n dk_169_12 rfl ?_
      refine zj_iconst dk_169_13 ?_
      refine zj_icmp_gt (t := 26) dk_169_14 rfl (by omega) (fun c14 => ?_) (fun c14 => ?_)
      · skip
        refine zj_iconst dk_169_26 ?_
        refine zj_ireturn dk_169_27 rfl ⟨rfl, rfl, Or.inl ⟨fun hh => by first | omega | (rw [if_pos hh.1] at c5; omega), rfl⟩⟩
      · skip
        refine zj_iload_n dk_169_17 rfl ?_
        refine zj_if_lt (t := 26) dk_169_18 rfl (by omega) (fun c18 => ?_) (fun c18 => ?_)
        · skip
          refine zj_iconst dk_169_26 ?_
          refine zj_ireturn dk_169_27 rfl ⟨rfl, rfl, Or.inl ⟨fun hh => by first | omega | (rw [if_pos hh.1] at c5; omega), rfl⟩⟩
        · skip
          refine zj_iload_n dk_169_21 rfl ?_
          refine zj_iconst dk_169_22 ?_
          refine zj_icmp_le (t := 28) dk_169_23 rfl (by omega) (fun c23 => ?_) (fun c23 => ?_)
          · skip
            have hok : ((0 ≤ u ∧ u < V 8) ∧ (0 ≤ i ∧ i ≤ 1) ∧ (0 ≤ w ∧ w ≤ 1)) := ⟨by split at c5 <;> omega, by omega, by omega⟩
            obtain ⟨-, -, -, -, -, -, a7, a8, a9⟩ := R.2 (2 * u) (by omega) (by omega)
            obtain ⟨-, -, -, -, -, -, b7, b8, b9⟩ := R.2 (2 * u + 1) (by omega) (by omega)
            refine zj_iconst dk_169_28 ?_
            refine zj_iload_n dk_169_29 rfl ?_
            refine zj_imul dk_169_30 ?_
            refine zj_istore dk_169_31 rfl ?_
            refine zj_iload dk_169_33 rfl ?_
            refine zj_iconst dk_169_35 ?_
            refine zj_iadd dk_169_36 ?_
            refine zj_istore dk_169_37 rfl ?_
            exact key3 hok
          · skip
            refine zj_iconst dk_169_26 ?_
            refine zj_ireturn dk_169_27 rfl ⟨rfl, rfl, Or.inl ⟨fun hh => by first | omega | (rw [if_pos hh.1] at c5; omega), rfl⟩⟩

