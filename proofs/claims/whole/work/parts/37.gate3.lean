/-! sessions, series, users, types as the gate tells them -/
theorem GI.cv {X : zz_X} {b : Nat} {h : zz_H} {S : Nat → Int} {A : Nat → Int → Int} {E : Nat → Nat} {RL : List (Nat × rd)} {UL : List (Nat × ud)} {SL : List (Nat × sd)} {T1 T2 : List (Nat × td)} (G : GI X b h S A E RL UL SL T1 T2) {M : zz_M} {d mc ms n : Nat} {av : List Value} {Q : Option Value → Nat → zz_H → Prop} (c : zz_Ct X M d mc ms av n (cl_H b S A E h) Q) : zz_Ct X M d mc ms av n h Q := by
  have e := cl_id G.1
  exact e ▸ c
theorem GI.us {X : zz_X} {b : Nat} {h : zz_H} {S : Nat → Int} {A : Nat → Int → Int} {E : Nat → Nat} {RL : List (Nat × rd)} {UL : List (Nat × ud)} {SL : List (Nat × sd)} {T1 T2 : List (Nat × td)} (G : GI X b h S A E RL UL SL T1 T2) {i : Int} (hi : 0 ≤ i ∧ i < S 16) : ∃ p, UL[i.toNat]? = some p ∧ (UL.map Prod.fst)[i.toNat]? = some p.1 ∧ h p.1 = some (us_c p.2) ∧ us_V p.2 := by
  have hl := G.2.1.2.2.2.2.2.2.2.1.2.1
  have hlt : i.toNat < UL.length := by omega
  have e : UL[i.toNat]? = some UL[i.toNat] := List.getElem?_eq_getElem hlt
  exact ⟨_, e, by rw [List.getElem?_map, e]; rfl, G.2.2.2.2.1.2 _ (List.mem_of_getElem? e)⟩
theorem GI.sv {X : zz_X} {b : Nat} {h : zz_H} {S : Nat → Int} {A : Nat → Int → Int} {E : Nat → Nat} {RL : List (Nat × rd)} {UL : List (Nat × ud)} {SL : List (Nat × sd)} {T1 T2 : List (Nat × td)} (G : GI X b h S A E RL UL SL T1 T2) {i : Int} (hi : 0 ≤ i ∧ i < S 18) : ∃ p, SL[i.toNat]? = some p ∧ (SL.map Prod.fst)[i.toNat]? = some p.1 ∧ sv_C h p.1 p.2 ∧ sv_V p.2 := by
  have hl := G.2.1.2.2.2.2.2.2.2.1.2.2.1
  have hlt : i.toNat < SL.length := by omega
  have e : SL[i.toNat]? = some SL[i.toNat] := List.getElem?_eq_getElem hlt
  exact ⟨_, e, by rw [List.getElem?_map, e]; rfl, G.2.2.2.2.2.1.2 _ (List.mem_of_getElem? e)⟩
theorem GI.sz {X : zz_X} {b : Nat} {h : zz_H} {S : Nat → Int} {A : Nat → Int → Int} {E : Nat → Nat} {RL : List (Nat × rd)} {UL : List (Nat × ud)} {SL : List (Nat × sd)} {T1 T2 : List (Nat × td)} (G : GI X b h S A E RL UL SL T1 T2) : (0 ≤ S 14 ∧ S 14 ≤ 8) ∧ (0 ≤ S 16 ∧ S 16 ≤ 6) ∧ (0 ≤ S 18 ∧ S 18 ≤ 6) := by
  obtain ⟨-, -, -, -, -, -, -, ⟨h1, h2, h3, -⟩, h4, h5, h6, -⟩ := G.2.1
  omega
theorem gm_124 {X : zz_X} {d n : Nat} {h : zz_H} (hd : 3 ≤ d) {b : Nat} {S : Nat → Int} {A : Nat → Int → Int} {E : Nat → Nat} {RL : List (Nat × rd)} {UL : List (Nat × ud)} {SL : List (Nat × sd)} {T1 T2 : List (Nat × td)} (G : GI X b h S A E RL UL SL T1 T2) (hn : b + 64 ≤ n) {x : Int} (hx : -2147483648 ≤ x ∧ x < 2147483648) : zz_Ct X mm_124 d 0 0 [.ref b, zv x] n h (fun r n' h' => n' = n ∧ h' = h ∧ ((¬ (0 ≤ x ∧ x < S 16) ∧ r = some (zv 0)) ∨ ∃ p, (0 ≤ x ∧ x < S 16) ∧ UL[x.toNat]? = some p ∧ r = some (zv p.2.2.2.2.1))) := by
  refine zz_start (by decide) (ls := [some (.ref b), some (zv x)]) rfl ?_
  have hsz := G.sz
  refine zi_aload_n dk_124_0 rfl rfl ?_
  refine zj_iload_n dk_124_1 rfl ?_
  refine zi_invV dk_124_2 ml_0_141 iv_68 (G.cv (ct_68 (d := d - 1) (by omega) (by omega) hx)) (by first | exact G.1 0 (by decide) | exact G.1 _ (by decide)) rfl rfl rfl (Nat.le_of_ble_eq_true rfl) (by omega) rfl rfl (fun r n' h' hq => ?_)
  obtain ⟨rfl, e1, e2⟩ := hq
  rw [cl_id G.1] at e2
  have e1 := e1.symm
  have e2 := e2.symm
  subst e1
  subst e2
  refine zj_if_eq (t := 25) dk_124_5 rfl (by split <;> omega) (fun c5 => ?_) (fun c5 => ?_)
  · skip
    refine zj_iconst dk_124_25 ?_
    refine zj_ireturn dk_124_26 rfl ⟨rfl, rfl, Or.inl ⟨fun hh => by rw [if_pos hh] at c5; omega, rfl⟩⟩
  · skip
    have hxs : 0 ≤ x ∧ x < S 16 := by split at c5 <;> omega
    obtain ⟨p, m1, m2, m3, m4⟩ := G.us hxs
    refine zi_aload_n dk_124_8 rfl rfl ?_
    refine zi_getf dk_124_9 fl_0_51 (by first | exact G.1 0 (by decide) | exact G.1 _ (by decide)) rfl ?_
    refine zj_iload_n dk_124_12 rfl ?_
    refine zi_invV dk_124_13 ml_0_129 iv_57 (gt_get (d := d - 1) (by omega) (G.1 19 (by decide)) G.2.2.2.2.1.1 (by rw [List.length_map]; exact G.2.1.2.2.2.2.2.2.2.1.2.1) (by omega) m2) (by first | exact G.1 0 (by decide) | exact G.1 _ (by decide)) rfl rfl rfl (Nat.le_of_ble_eq_true rfl) (by omega) rfl rfl (fun r n' h' hq => ?_)
    obtain ⟨rfl, e1, e2⟩ := hq
    have e1 := e1.symm
    have e2 := e2.symm
    subst e1
    subst e2
    refine zi_castS dk_124_16 zw_404 m3 rfl ?_
    refine zi_getf dk_124_19 fl_0_247 m3 rfl ?_
    refine zi_goto (t := 26) dk_124_22 rfl ?_
    refine zj_ireturn dk_124_26 rfl ⟨rfl, rfl, Or.inr ⟨p, hxs, m1, rfl⟩⟩

theorem gm_122 {X : zz_X} {d n : Nat} {h : zz_H} (hd : 4 ≤ d) {b : Nat} {S : Nat → Int} {A : Nat → Int → Int} {E : Nat → Nat} {RL : List (Nat × rd)} {UL : List (Nat × ud)} {SL : List (Nat × sd)} {T1 T2 : List (Nat × td)} (G : GI X b h S A E RL UL SL T1 T2) (hn : b + 64 ≤ n) {u i w : Int} (hu : -2147483648 ≤ u ∧ u < 2147483648) (hi : -2147483648 ≤ i ∧ i < 2147483648) (hw0 : -2147483648 ≤ w ∧ w < 2147483648) : zz_Ct X mm_122 d 0 0 [.ref b, zv u, zv i, zv w] n h (fun r n' h' => n' = n ∧ h' = h ∧ ((tk_of T1 u i = none ∧ r = some (zv (-1))) ∨ ∃ p, tk_of T1 u i = some p ∧ r = some (zv (if w = 0 then p.2.2.1 else if w = 1 then p.2.2.2.1 else if w = 2 then p.2.2.2.2.1 else -1)))) := by
  refine zz_start (by decide) (ls := [some (.ref b), some (zv u), some (zv i), some (zv w), none]) rfl ?_
  have hlen := G.2.2.len1 G.2.1
  cases hf : tk_of T1 u i with
  | none =>
    refine zi_aload_n dk_122_0 rfl rfl ?_
    refine zi_getf dk_122_1 fl_0_60 (by first | exact G.1 0 (by decide) | exact G.1 _ (by decide)) rfl ?_
    refine zj_iload_n dk_122_4 rfl ?_
    refine zj_iload_n dk_122_5 rfl ?_
    refine zi_invV dk_122_6 ml_0_237 iv_79 (ct_79 (d := d - 1) (by omega) (G.1 21 (by decide)) G.t1 hu hi) (by first | exact G.1 0 (by decide) | exact G.1 _ (by decide)) rfl rfl rfl (Nat.le_of_ble_eq_true rfl) (by omega) rfl rfl (fun r n' h' hq => ?_)
    obtain ⟨rfl, e1, e2⟩ := hq
    have e1 := e1.symm
    have e2 := e2.symm
    subst e1
    subst e2
    rw [hf]
    refine zi_astore dk_122_9 rfl rfl ?_
    refine zi_aload dk_122_11 rfl rfl ?_
    refine zi_ifnonnullN (t := 18) dk_122_13 rfl ?_
    refine zj_iconst dk_122_16 ?_
    refine zj_ireturn dk_122_17 rfl ⟨rfl, rfl, Or.inl ⟨rfl, rfl⟩⟩
  | some p =>
    have mp := G.t1.mem (tk_of_mem hf).1
    have vr := mp.2.2.2.2.1
    have hw : w = 0 ∨ w = 1 ∨ w = 2 ∨ (w < 0 ∨ 2 < w) := by omega
    rcases hw with rfl | rfl | rfl | hw
    · refine zi_aload_n dk_122_0 rfl rfl ?_
      refine zi_getf dk_122_1 fl_0_60 (by first | exact G.1 0 (by decide) | exact mp.1 | exact G.1 _ (by decide)) rfl ?_
      refine zj_iload_n dk_122_4 rfl ?_
      refine zj_iload_n dk_122_5 rfl ?_
      refine zi_invV dk_122_6 ml_0_237 iv_79 (ct_79 (d := d - 1) (by omega) (G.1 21 (by decide)) G.t1 hu hi) (by first | exact G.1 0 (by decide) | exact mp.1 | exact G.1 _ (by decide)) rfl rfl rfl (Nat.le_of_ble_eq_true rfl) (by omega) rfl rfl (fun r n' h' hq => ?_)
      obtain ⟨rfl, e1, e2⟩ := hq
      have e1 := e1.symm
      have e2 := e2.symm
      subst e1
      subst e2
      rw [hf]
      refine zi_astore dk_122_9 rfl rfl ?_
      refine zi_aload dk_122_11 rfl rfl ?_
      refine zi_ifnonnullR (t := 18) dk_122_13 rfl ?_
      refine zj_iload_n dk_122_18 rfl ?_
      refine zj_tabIn (t := 44) dk_122_19 (by decide) rfl rfl ?_
      refine zi_aload dk_122_44 rfl rfl ?_
      refine zi_getf dk_122_46 fl_0_241 (by first | exact G.1 0 (by decide) | exact mp.1 | exact G.1 _ (by decide)) rfl ?_
      refine zj_ireturn dk_122_49 rfl ⟨rfl, rfl, Or.inr ⟨p, rfl, by first | rfl | (congr 2; (repeat' split) <;> omega)⟩⟩
    · refine zi_aload_n dk_122_0 rfl rfl ?_
      refine zi_getf dk_122_1 fl_0_60 (by first | exact G.1 0 (by decide) | exact mp.1 | exact G.1 _ (by decide)) rfl ?_
      refine zj_iload_n dk_122_4 rfl ?_
      refine zj_iload_n dk_122_5 rfl ?_
      refine zi_invV dk_122_6 ml_0_237 iv_79 (ct_79 (d := d - 1) (by omega) (G.1 21 (by decide)) G.t1 hu hi) (by first | exact G.1 0 (by decide) | exact mp.1 | exact G.1 _ (by decide)) rfl rfl rfl (Nat.le_of_ble_eq_true rfl) (by omega) rfl rfl (fun r n' h' hq => ?_)
      obtain ⟨rfl, e1, e2⟩ := hq
      have e1 := e1.symm
      have e2 := e2.symm
      subst e1
      subst e2
      rw [hf]
      refine zi_astore dk_122_9 rfl rfl ?_
      refine zi_aload dk_122_11 rfl rfl ?_
      refine zi_ifnonnullR (t := 18) dk_122_13 rfl ?_
      refine zj_iload_n dk_122_18 rfl ?_
      refine zj_tabIn (t := 50) dk_122_19 (by decide) rfl rfl ?_
      refine zi_aload dk_122_50 rfl rfl ?_
      refine zi_getf dk_122_52 fl_0_201 (by first | exact G.1 0 (by decide) | exact mp.1 | exact G.1 _ (by decide)) rfl ?_
      refine zj_ireturn dk_122_55 rfl ⟨rfl, rfl, Or.inr ⟨p, rfl, by first | rfl | (congr 2; (repeat' split) <;> omega)⟩⟩
    · refine zi_aload_n dk_122_0 rfl rfl ?_
      refine zi_getf dk_122_1 fl_0_60 (by first | exact G.1 0 (by decide) | exact mp.1 | exact G.1 _ (by decide)) rfl ?_
      refine zj_iload_n dk_122_4 rfl ?_
      refine zj_iload_n dk_122_5 rfl ?_
      refine zi_invV dk_122_6 ml_0_237 iv_79 (ct_79 (d := d - 1) (by omega) (G.1 21 (by decide)) G.t1 hu hi) (by first | exact G.1 0 (by decide) | exact mp.1 | exact G.1 _ (by decide)) rfl rfl rfl (Nat.le_of_ble_eq_true rfl) (by omega) rfl rfl (fun r n' h' hq => ?_)
      obtain ⟨rfl, e1, e2⟩ := hq
      have e1 := e1.symm
      have e2 := e2.symm
      subst e1
      subst e2
      rw [hf]
      refine zi_astore dk_122_9 rfl rfl ?_
      refine zi_aload dk_122_11 rfl rfl ?_
      refine zi_ifnonnullR (t := 18) dk_122_13 rfl ?_
      refine zj_iload_n dk_122_18 rfl ?_
      refine zj_tabIn (t := 56) dk_122_19 (by decide) rfl rfl ?_
      refine zi_aload dk_122_56 rfl rfl ?_
      refine zi_getf dk_122_58 fl_0_244 (by first | exact G.1 0 (by decide) | exact mp.1 | exact G.1 _ (by decide)) rfl ?_
      refine zj_if_eq (t := 68) dk_122_61 rfl (by omega) (fun c61 => ?_) (fun c61 => ?_)
      · skip
        refine zj_iconst dk_122_68 ?_
        refine zj_ireturn dk_122_69 rfl ⟨rfl, rfl, Or.inr ⟨p, rfl, by first | rfl | (congr 2; (repeat' split) <;> omega)⟩⟩
      · skip
        refine zj_iconst dk_122_64 ?_
        refine zi_goto (t := 69) dk_122_65 rfl ?_
        refine zj_ireturn dk_122_69 rfl ⟨rfl, rfl, Or.inr ⟨p, rfl, by first | rfl | (congr 2; (repeat' split) <;> omega)⟩⟩
    · refine zi_aload_n dk_122_0 rfl rfl ?_
      refine zi_getf dk_122_1 fl_0_60 (by first | exact G.1 0 (by decide) | exact mp.1 | exact G.1 _ (by decide)) rfl ?_
      refine zj_iload_n dk_122_4 rfl ?_
      refine zj_iload_n dk_122_5 rfl ?_
      refine zi_invV dk_122_6 ml_0_237 iv_79 (ct_79 (d := d - 1) (by omega) (G.1 21 (by decide)) G.t1 hu hi) (by first | exact G.1 0 (by decide) | exact mp.1 | exact G.1 _ (by decide)) rfl rfl rfl (Nat.le_of_ble_eq_true rfl) (by omega) rfl rfl (fun r n' h' hq => ?_)
      obtain ⟨rfl, e1, e2⟩ := hq
      have e1 := e1.symm
      have e2 := e2.symm
      subst e1
      subst e2
      rw [hf]
      refine zi_astore dk_122_9 rfl rfl ?_
      refine zi_aload dk_122_11 rfl rfl ?_
      refine zi_ifnonnullR (t := 18) dk_122_13 rfl ?_
      refine zj_iload_n dk_122_18 rfl ?_
      refine zj_tabOut (t := 70) dk_122_19 (by omega) rfl ?_
      refine zj_iconst dk_122_70 ?_
      refine zj_ireturn dk_122_71 rfl ⟨rfl, rfl, Or.inr ⟨p, rfl, by first | rfl | (congr 2; (repeat' split) <;> omega)⟩⟩

theorem gm_123 {X : zz_X} {d n : Nat} {h : zz_H} (hd : 4 ≤ d) {b : Nat} {S : Nat → Int} {A : Nat → Int → Int} {E : Nat → Nat} {RL : List (Nat × rd)} {UL : List (Nat × ud)} {SL : List (Nat × sd)} {T1 T2 : List (Nat × td)} (G : GI X b h S A E RL UL SL T1 T2) (hn : b + 64 ≤ n) {u i w : Int} (hu : -2147483648 ≤ u ∧ u < 2147483648) (hi : -2147483648 ≤ i ∧ i < 2147483648) (hw0 : -2147483648 ≤ w ∧ w < 2147483648) : zz_Ct X mm_123 d 0 0 [.ref b, zv u, zv i, zv w] n h (fun r n' h' => n' = n ∧ h' = h ∧ ((tk_of T2 u i = none ∧ r = some (zv (-1))) ∨ ∃ p, tk_of T2 u i = some p ∧ r = some (zv (if w = 0 then p.2.2.1 else if w = 1 then p.2.2.2.1 else -1)))) := by
  refine zz_start (by decide) (ls := [some (.ref b), some (zv u), some (zv i), some (zv w), none]) rfl ?_
  have hlen := G.2.2.len2 G.2.1
  cases hf : tk_of T2 u i with
  | none =>
    refine zi_aload_n dk_123_0 rfl rfl ?_
    refine zi_getf dk_123_1 fl_0_64 (by first | exact G.1 0 (by decide) | exact G.1 _ (by decide)) rfl ?_
    refine zj_iload_n dk_123_4 rfl ?_
    refine zj_iload_n dk_123_5 rfl ?_
    refine zi_invV dk_123_6 ml_0_237 iv_79 (ct_79 (d := d - 1) (by omega) (G.1 23 (by decide)) G.t2 hu hi) (by first | exact G.1 0 (by decide) | exact G.1 _ (by decide)) rfl rfl rfl (Nat.le_of_ble_eq_true rfl) (by omega) rfl rfl (fun r n' h' hq => ?_)
    obtain ⟨rfl, e1, e2⟩ := hq
    have e1 := e1.symm
    have e2 := e2.symm
    subst e1
    subst e2
    rw [hf]
    refine zi_astore dk_123_9 rfl rfl ?_
    refine zi_aload dk_123_11 rfl rfl ?_
    refine zi_ifnonnullN (t := 18) dk_123_13 rfl ?_
    refine zj_iconst dk_123_16 ?_
    refine zj_ireturn dk_123_17 rfl ⟨rfl, rfl, Or.inl ⟨rfl, rfl⟩⟩
  | some p =>
    have mp := G.t2.mem (tk_of_mem hf).1
    have vr := mp.2.2.2.2.1
    have hw : w = 0 ∨ w = 1 ∨ (w < 0 ∨ 1 < w) := by omega
    rcases hw with rfl | rfl | hw
    · refine zi_aload_n dk_123_0 rfl rfl ?_
      refine zi_getf dk_123_1 fl_0_64 (by first | exact G.1 0 (by decide) | exact mp.1 | exact G.1 _ (by decide)) rfl ?_
      refine zj_iload_n dk_123_4 rfl ?_
      refine zj_iload_n dk_123_5 rfl ?_
      refine zi_invV dk_123_6 ml_0_237 iv_79 (ct_79 (d := d - 1) (by omega) (G.1 23 (by decide)) G.t2 hu hi) (by first | exact G.1 0 (by decide) | exact mp.1 | exact G.1 _ (by decide)) rfl rfl rfl (Nat.le_of_ble_eq_true rfl) (by omega) rfl rfl (fun r n' h' hq => ?_)
      obtain ⟨rfl, e1, e2⟩ := hq
      have e1 := e1.symm
      have e2 := e2.symm
      subst e1
      subst e2
      rw [hf]
      refine zi_astore dk_123_9 rfl rfl ?_
      refine zi_aload dk_123_11 rfl rfl ?_
      refine zi_ifnonnullR (t := 18) dk_123_13 rfl ?_
      refine zj_iload_n dk_123_18 rfl ?_
      refine zj_lookup (off := 25) (t := 44) dk_123_19 (by decide) (by omega) (by rfl) rfl ?_
      refine zi_aload dk_123_44 rfl rfl ?_
      refine zi_getf dk_123_46 fl_0_241 (by first | exact G.1 0 (by decide) | exact mp.1 | exact G.1 _ (by decide)) rfl ?_
      refine zj_ireturn dk_123_49 rfl ⟨rfl, rfl, Or.inr ⟨p, rfl, by first | rfl | (congr 2; (repeat' split) <;> omega)⟩⟩
    · refine zi_aload_n dk_123_0 rfl rfl ?_
      refine zi_getf dk_123_1 fl_0_64 (by first | exact G.1 0 (by decide) | exact mp.1 | exact G.1 _ (by decide)) rfl ?_
      refine zj_iload_n dk_123_4 rfl ?_
      refine zj_iload_n dk_123_5 rfl ?_
      refine zi_invV dk_123_6 ml_0_237 iv_79 (ct_79 (d := d - 1) (by omega) (G.1 23 (by decide)) G.t2 hu hi) (by first | exact G.1 0 (by decide) | exact mp.1 | exact G.1 _ (by decide)) rfl rfl rfl (Nat.le_of_ble_eq_true rfl) (by omega) rfl rfl (fun r n' h' hq => ?_)
      obtain ⟨rfl, e1, e2⟩ := hq
      have e1 := e1.symm
      have e2 := e2.symm
      subst e1
      subst e2
      rw [hf]
      refine zi_astore dk_123_9 rfl rfl ?_
      refine zi_aload dk_123_11 rfl rfl ?_
      refine zi_ifnonnullR (t := 18) dk_123_13 rfl ?_
      refine zj_iload_n dk_123_18 rfl ?_
      refine zj_lookup (off := 31) (t := 50) dk_123_19 (by decide) (by omega) (by rfl) rfl ?_
      refine zi_aload dk_123_50 rfl rfl ?_
      refine zi_getf dk_123_52 fl_0_201 (by first | exact G.1 0 (by decide) | exact mp.1 | exact G.1 _ (by decide)) rfl ?_
      refine zj_ireturn dk_123_55 rfl ⟨rfl, rfl, Or.inr ⟨p, rfl, by first | rfl | (congr 2; (repeat' split) <;> omega)⟩⟩
    · refine zi_aload_n dk_123_0 rfl rfl ?_
      refine zi_getf dk_123_1 fl_0_64 (by first | exact G.1 0 (by decide) | exact mp.1 | exact G.1 _ (by decide)) rfl ?_
      refine zj_iload_n dk_123_4 rfl ?_
      refine zj_iload_n dk_123_5 rfl ?_
      refine zi_invV dk_123_6 ml_0_237 iv_79 (ct_79 (d := d - 1) (by omega) (G.1 23 (by decide)) G.t2 hu hi) (by first | exact G.1 0 (by decide) | exact mp.1 | exact G.1 _ (by decide)) rfl rfl rfl (Nat.le_of_ble_eq_true rfl) (by omega) rfl rfl (fun r n' h' hq => ?_)
      obtain ⟨rfl, e1, e2⟩ := hq
      have e1 := e1.symm
      have e2 := e2.symm
      subst e1
      subst e2
      rw [hf]
      refine zi_astore dk_123_9 rfl rfl ?_
      refine zi_aload dk_123_11 rfl rfl ?_
      refine zi_ifnonnullR (t := 18) dk_123_13 rfl ?_
      refine zj_iload_n dk_123_18 rfl ?_
      refine zj_lookup (off := 37) (t := 56) dk_123_19 (by decide) (by omega) (by rw [Op.lookupswitch.offset_cons, if_neg (by omega), Op.lookupswitch.offset_cons, if_neg (by omega)]; rfl) rfl ?_
      refine zj_iconst dk_123_56 ?_
      refine zj_ireturn dk_123_57 rfl ⟨rfl, rfl, Or.inr ⟨p, rfl, by first | rfl | (congr 2; (repeat' split) <;> omega)⟩⟩

theorem gm_80 {X : zz_X} {d n : Nat} {h : zz_H} (hd : 5 ≤ d) {b : Nat} {S : Nat → Int} {A : Nat → Int → Int} {E : Nat → Nat} {RL : List (Nat × rd)} {UL : List (Nat × ud)} {SL : List (Nat × sd)} {T1 T2 : List (Nat × td)} (G : GI X b h S A E RL UL SL T1 T2) (hn : b + 64 ≤ n) {x : Int} (hx : -2147483648 ≤ x ∧ x < 2147483648) : zz_Ct X mm_80 d 0 0 [.ref b, zv x] n h (fun r n' h' => n' = n ∧ ((T1.find? (fun p => decide (p.2.2.1 = x)) = none ∧ r = some (zv 0) ∧ h' = h) ∨ ∃ q, T1.find? (fun p => decide (p.2.2.1 = x)) = some q ∧ r = some (zv 1) ∧ ∃ S', (∀ i, i < 14 → S' i = S i) ∧ GI X b h' S' A E RL UL SL (T1.filter (fun p => decide (¬ (p.2.2.1 = x)))) (T2.filter (fun p => decide (¬ (p.2.1 = q.2.1)))) ∧ mf b h h')) := by
  refine zz_start (by decide) (ls := [some (.ref b), some (zv x), none]) rfl ?_
  cases hf : T1.find? (fun p => decide (p.2.2.1 = x)) with
  | none =>
    refine zi_aload_n dk_80_0 rfl rfl ?_
    refine zi_getf dk_80_1 fl_0_60 (by first | exact G.1 0 (by decide) | exact G.1 _ (by decide)) rfl ?_
    refine zj_iload_n dk_80_4 rfl ?_
    refine zi_invV dk_80_5 ml_0_174 iv_81 (ct_81 (d := d - 1) (by omega) (G.1 21 (by decide)) G.t1 hx) (by first | exact G.1 0 (by decide) | exact G.1 _ (by decide)) rfl rfl rfl (Nat.le_of_ble_eq_true rfl) (by omega) rfl rfl (fun r n' h' hq => ?_)
    obtain ⟨rfl, e1, e2⟩ := hq
    have e1 := e1.symm
    have e2 := e2.symm
    subst e1
    subst e2
    rw [hf]
    refine zi_astore_n dk_80_8 rfl rfl ?_
    refine zi_aload_n dk_80_9 rfl rfl ?_
    refine zi_ifnonnullN (t := 15) dk_80_10 rfl ?_
    refine zj_iconst dk_80_13 ?_
    refine zj_zreturn dk_80_14 rfl (by omega) ⟨rfl, Or.inl ⟨rfl, rfl, rfl⟩⟩
  | some q =>
    have mq := G.t1.mem (List.mem_of_find?_eq_some hf)
    have lq := G.2.2.2.2.2.2.2.2.2.2.1.2.2.2 q (List.mem_append_left _ (List.mem_of_find?_eq_some hf))
    have uq := mq.2.1
    refine zz_Z.lt (fun hlt => ?_)
    refine zi_aload_n dk_80_0 rfl rfl ?_
    refine zi_getf dk_80_1 fl_0_60 (by first | exact G.1 0 (by decide) | exact G.1 _ (by decide)) rfl ?_
    refine zj_iload_n dk_80_4 rfl ?_
    refine zi_invV dk_80_5 ml_0_174 iv_81 (ct_81 (d := d - 1) (by omega) (G.1 21 (by decide)) G.t1 hx) (by first | exact G.1 0 (by decide) | exact G.1 _ (by decide)) rfl rfl rfl (Nat.le_of_ble_eq_true rfl) (by omega) rfl rfl (fun r n' h' hq => ?_)
    obtain ⟨rfl, e1, e2⟩ := hq
    have e1 := e1.symm
    have e2 := e2.symm
    subst e1
    subst e2
    rw [hf]
    refine zi_astore_n dk_80_8 rfl rfl ?_
    refine zi_aload_n dk_80_9 rfl rfl ?_
    refine zi_ifnonnullR (t := 15) dk_80_10 rfl ?_
    refine zi_aload_n dk_80_15 rfl rfl ?_
    refine zi_getf dk_80_16 fl_0_60 (by first | exact G.1 0 (by decide) | exact G.1 _ (by decide)) rfl ?_
    refine zj_iload_n dk_80_19 rfl ?_
    refine zi_invV dk_80_20 ml_0_167 iv_75 (g3_75 (d := d - 1) (by omega) G hlt hn hx) (by first | exact G.1 0 (by decide) | exact G.1 _ (by decide)) rfl rfl rfl (Nat.le_of_ble_eq_true rfl) (by omega) rfl rfl (fun r n' h' hq => ?_)
    obtain ⟨rfl, e1, S1, hS1, G, hm1, hk1⟩ := hq
    have e1 := e1.symm
    subst e1
    have mq1 := (hk1 _ _ mq.1 lq).trans mq.1
    refine zz_Z.lt (fun hlt1 => ?_)
    refine zi_aload_n dk_80_23 rfl rfl ?_
    refine zi_getf dk_80_24 fl_0_64 (by first | exact G.1 0 (by decide) | exact G.1 _ (by decide)) rfl ?_
    refine zi_aload_n dk_80_27 rfl rfl ?_
    refine zi_getf dk_80_28 fl_0_178 mq1 rfl ?_
    refine zi_invV dk_80_31 ml_0_183 iv_82 (g4_82 (d := d - 1) (by omega) G hlt1 hn (by omega)) (by first | exact G.1 0 (by decide) | exact G.1 _ (by decide)) rfl rfl rfl (Nat.le_of_ble_eq_true rfl) (by omega) rfl rfl (fun r n' h' hq => ?_)
    obtain ⟨rfl, e1, S2, hS2, G, hm2, hk2⟩ := hq
    have e1 := e1.symm
    subst e1
    refine zj_iconst dk_80_34 ?_
    refine zj_zreturn dk_80_35 rfl (by omega) ⟨rfl, Or.inr ⟨q, rfl, rfl, S2, fun i hi => (hS2 i hi).trans (hS1 i hi), G, hm1.tr hm2⟩⟩

