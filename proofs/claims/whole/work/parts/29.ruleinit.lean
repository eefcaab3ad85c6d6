/-! Rule.<init>: the pieces of a pattern -/
def sp_sp (f : Int → Int) (len : Int) : Nat → Int → List (List Int)
  | 0, _ => []
  | k + 1, p => zS f (sp_nx f len p - p).toNat p :: (if sp_nx f len p = len then [] else sp_sp f len k (sp_nx f len p + 1))
def sp_pcs (f : Int → Int) (len : Int) : List (List Int) := if len ≤ 1 then [] else sp_sp f len 41 1
theorem zS_shift {g g' : Int → Int} : ∀ (k : Nat) (a b : Int), (∀ x : Nat, x < k → g (a + x) = g' (b + x)) → zS g k a = zS g' k b
  | 0, _, _, _ => rfl
  | k + 1, a, b, h => by
    unfold zS
    have h0 := h 0 (by omega)
    rw [show a + ((0 : Nat) : Int) = a by omega, show b + ((0 : Nat) : Int) = b by omega] at h0
    rw [h0, zS_shift k (a + 1) (b + 1) (fun x hx => by
      have := h (x + 1) (by omega)
      rw [show a + 1 + (x : Int) = a + ((x + 1 : Nat) : Int) by omega, show b + 1 + (x : Int) = b + ((x + 1 : Nat) : Int) by omega]
      exact this)]
theorem pr_R.up {ch st en : Int → Int} {bd : Int} {acc : List (List Int)} (h : pr_R ch st en bd acc) {wr c : Int} (hw : bd ≤ wr) : pr_R (zU ch wr c) st en bd acc := h.write hw [c]
theorem lp_30 {X : zz_X} {d n : Nat} (hd : 3 ≤ d) {r t ca : Nat} {len ex ms : Int} {f : Int → Int} {h0 : zz_H} (er : h0 r = some (.inr (5, [.ref (r + 1), zv ex, zv ms]))) (et : h0 t = some (.inr (1, [.ref ca, zv len]))) (ot : t < r + 1 ∨ r + 1 + 4 ≤ t) (ec : h0 ca = some (zA 1 40 f)) (oc : ca < r + 1 ∨ r + 1 + 4 ≤ ca) (hl : 0 ≤ len ∧ len ≤ 40) (hf : ∀ i, 0 ≤ i → i < len → 0 ≤ f i ∧ f i < 65536) (h2 : 1 < len) {L : List (List Int)} {Q : Option Value → Nat → zz_H → Prop}
    (hQ : ∀ ch st en bg wr, ch_ok ch → pr_R ch st en 40 L → L.length ≤ 20 → Q none n (pc_H (r + 1) ch st en bg wr L.length h0)) :
    ∀ (m : Nat) (i fr : Int) (K : Nat) (ch st en : Int → Int) (bg : Int) (acc : List (List Int)), i + m = len → 1 ≤ fr → fr ≤ i → len < fr + K → (∀ x, fr ≤ x → x < i → f x ≠ 47) → ch_ok ch → pr_R ch st en bg acc → (0 ≤ bg ∧ bg ≤ fr - 1) → 2 * (acc.length : Int) + 1 ≤ fr → (∀ x : Nat, (x : Int) < i - fr → ch (bg + x) = f (fr + x)) → sp_ptl f len K fr = true → acc ++ sp_sp f len K fr = L →
    zz_Z X mm_30 d Q 0 0 28 [some (.ref r), some (.ref t), some (zv ex), some (zv ms), some (zv i)] [] n (pc_H (r + 1) ch st en bg (bg + (i - fr)) acc.length h0) := by
  intro m
  induction m with
  | zero =>
    intro i fr K ch st en bg acc hm h3 h4 hK hno hch hpr hbg hacc hcp hpt hL
    have hil : i = len := by omega
    obtain ⟨K', rfl⟩ : ∃ K', K = K' + 1 := ⟨K - 1, by omega⟩
    have e1 : sp_nx f len fr = i := sp_find_uniq f 47 _ fr i h4 (by omega) hno (fun _ => by omega)
    unfold sp_ptl at hpt
    unfold sp_sp at hL
    rw [e1] at hpt hL
    rw [if_pos hil] at hL
    have hne : fr < i := by
      by_cases hx : fr < i
      · exact hx
      · have : sp_isp f fr i = false := by
          unfold sp_isp
          rw [if_neg (by omega), decide_eq_false hx, Bool.and_false]
        rw [this, if_neg (by decide)] at hpt
        exact absurd hpt (by decide)
    have hw : zS ch (i - fr).toNat bg = zS f (i - fr).toNat fr := zS_shift _ _ _ (fun x hx => hcp x (by omega))
    have hlen := zS_len f (i - fr).toNat fr
    have hk := hpr.keep (w := zS f (i - fr).toNat fr) (wr := bg + (i - fr)) (by omega) (by rw [hlen]; omega) (by rw [hlen]; exact hw)
    have hal : (acc ++ [zS f (i - fr).toNat fr]).length = acc.length + 1 := by simp
    refine zj_iload dk_30_28 rfl ?_
    refine zi_aload_n dk_30_30 rfl rfl ?_
    refine zi_getf dk_30_31 fl_5_23 (by first | exact er | exact (pc_o (by omega)).trans er | exact (pc_o ot).trans et | exact pc_0) rfl ?_
    refine zj_icmp_gt (t := 83) dk_30_34 rfl (by omega) (fun c34 => ?_) (fun c34 => ?_)
    · omega
    · skip
      refine zi_aload_n dk_30_37 rfl rfl ?_
      refine zj_iload dk_30_38 rfl ?_
      refine zi_invV dk_30_40 ml_5_28 iv_28 (ct_28 (d := d - 1) (by omega) ((pc_o ot).trans et) ((pc_o oc).trans ec) hl hf (by omega)) (by first | exact er | exact (pc_o (by omega)).trans er | exact (pc_o ot).trans et | exact pc_0) rfl rfl rfl (Nat.le_of_ble_eq_true rfl) (by omega) rfl rfl (fun r n' h' hq => ?_)
      obtain ⟨rfl, rfl, rfl⟩ := hq
      rw [if_pos (Or.inl hil)]
      refine zj_if_ne (t := 62) dk_30_43 rfl (by omega) (fun c43 => ?_) (fun c43 => ?_)
      · skip
        refine zi_aload_n dk_30_62 rfl rfl ?_
        refine zi_getf dk_30_63 fl_5_23 (by first | exact er | exact (pc_o (by omega)).trans er | exact (pc_o ot).trans et | exact pc_0) rfl ?_
        refine zj_iconst dk_30_66 ?_
        refine zj_icmp_le (t := 77) dk_30_67 rfl (by omega) (fun c67 => ?_) (fun c67 => ?_)
        · omega
        · skip
          refine zi_aload_n dk_30_70 rfl rfl ?_
          refine zi_getf dk_30_71 fl_5_10 (by first | exact er | exact (pc_o (by omega)).trans er | exact (pc_o ot).trans et | exact pc_0) rfl ?_
          refine zi_invV dk_30_74 ml_5_40 iv_32 (ct_32 (d := d - 1) (by omega)) (by first | exact er | exact (pc_o (by omega)).trans er | exact (pc_o ot).trans et | exact pc_0) rfl rfl rfl (Nat.le_of_ble_eq_true rfl) (by omega) rfl rfl (fun r n' h' hq => ?_)
          obtain ⟨rfl, rfl, rfl⟩ := hq
          refine zj_iinc dk_30_77 rfl rfl ?_
          refine zi_goto (t := 28) dk_30_80 rfl ?_
          refine zj_iload dk_30_28 rfl ?_
          refine zi_aload_n dk_30_30 rfl rfl ?_
          refine zi_getf dk_30_31 fl_5_23 ((pc_o ot).trans et) rfl ?_
          refine zj_icmp_gt (t := 83) dk_30_34 rfl (by omega) (fun c34b => ?_) (fun c34b => by omega)
          rw [show (acc.length : Int) + 1 = (L.length : Int) by rw [← hL, hal]; omega]
          exact zi_return dk_30_83 rfl (hQ _ _ _ _ _ hch (by rw [← hL]; exact hk.mono (by omega)) (by rw [← hL, hal]; omega))
      · omega
  | succ m ih =>
    intro i fr K ch st en bg acc hm h3 h4 hK hno hch hpr hbg hacc hcp hpt hL
    have hil : ¬ i = len := by omega
    have hfi := hf i (by omega) (by omega)
    by_cases hsl : f i = 47
    · obtain ⟨K', rfl⟩ : ∃ K', K = K' + 1 := ⟨K - 1, by omega⟩
      have e1 : sp_nx f len fr = i := sp_find_uniq f 47 _ fr i h4 (by omega) hno (fun _ => hsl)
      unfold sp_ptl at hpt
      unfold sp_sp at hL
      rw [e1] at hpt hL
      rw [if_neg hil] at hL
      have hne : fr < i := by
        by_cases hx : fr < i
        · exact hx
        · have : sp_isp f fr i = false := by
            unfold sp_isp
            rw [if_neg (by omega), decide_eq_false hx, Bool.and_false]
          rw [this, if_neg (by decide)] at hpt
          exact absurd hpt (by decide)
      have hpt2 : sp_ptl f len K' (i + 1) = true := by
        split at hpt
        · (try rw [if_neg hil] at hpt); exact hpt
        · cases hpt
      have hw : zS ch (i - fr).toNat bg = zS f (i - fr).toNat fr := zS_shift _ _ _ (fun x hx => hcp x (by omega))
      have hlen := zS_len f (i - fr).toNat fr
      have hk := hpr.keep (w := zS f (i - fr).toNat fr) (wr := bg + (i - fr)) (by omega) (by rw [hlen]; omega) (by rw [hlen]; exact hw)
      have hal : (acc ++ [zS f (i - fr).toNat fr]).length = acc.length + 1 := by simp
      refine zj_iload dk_30_28 rfl ?_
      refine zi_aload_n dk_30_30 rfl rfl ?_
      refine zi_getf dk_30_31 fl_5_23 (by first | exact er | exact (pc_o (by omega)).trans er | exact (pc_o ot).trans et | exact pc_0) rfl ?_
      refine zj_icmp_gt (t := 83) dk_30_34 rfl (by omega) (fun c34 => ?_) (fun c34 => ?_)
      · omega
      · skip
        refine zi_aload_n dk_30_37 rfl rfl ?_
        refine zj_iload dk_30_38 rfl ?_
        refine zi_invV dk_30_40 ml_5_28 iv_28 (ct_28 (d := d - 1) (by omega) ((pc_o ot).trans et) ((pc_o oc).trans ec) hl hf (by omega)) (by first | exact er | exact (pc_o (by omega)).trans er | exact (pc_o ot).trans et | exact pc_0) rfl rfl rfl (Nat.le_of_ble_eq_true rfl) (by omega) rfl rfl (fun r n' h' hq => ?_)
        obtain ⟨rfl, rfl, rfl⟩ := hq
        rw [if_pos (Or.inr (by rw [tx_in (by omega) (by omega)]; exact hsl))]
        refine zj_if_ne (t := 62) dk_30_43 rfl (by omega) (fun c43 => ?_) (fun c43 => ?_)
        · skip
          refine zi_aload_n dk_30_62 rfl rfl ?_
          refine zi_getf dk_30_63 fl_5_23 (by first | exact er | exact (pc_o (by omega)).trans er | exact (pc_o ot).trans et | exact pc_0) rfl ?_
          refine zj_iconst dk_30_66 ?_
          refine zj_icmp_le (t := 77) dk_30_67 rfl (by omega) (fun c67 => ?_) (fun c67 => ?_)
          · omega
          · skip
            refine zi_aload_n dk_30_70 rfl rfl ?_
            refine zi_getf dk_30_71 fl_5_10 (by first | exact er | exact (pc_o (by omega)).trans er | exact (pc_o ot).trans et | exact pc_0) rfl ?_
            refine zi_invV dk_30_74 ml_5_40 iv_32 (ct_32 (d := d - 1) (by omega)) (by first | exact er | exact (pc_o (by omega)).trans er | exact (pc_o ot).trans et | exact pc_0) rfl rfl rfl (Nat.le_of_ble_eq_true rfl) (by omega) rfl rfl (fun r n' h' hq => ?_)
            obtain ⟨rfl, rfl, rfl⟩ := hq
            refine zj_iinc dk_30_77 rfl rfl ?_
            refine zi_goto (t := 28) dk_30_80 rfl ?_
            have hgo := ih (i + 1) (i + 1) K' ch _ _ (bg + (i - fr)) (acc ++ [zS f (i - fr).toNat fr]) (by omega) (by omega) (by omega) (by omega) (fun x hx1 hx2 => by omega) hch hk (by omega) (by omega) (fun x hx => by omega) hpt2 (by rw [List.append_assoc]; exact hL)
            rw [show (((acc ++ [zS f (i - fr).toNat fr]).length : Nat) : Int) = (acc.length : Int) + 1 by omega, show bg + (i - fr) + (i + 1 - (i + 1)) = bg + (i - fr) by omega] at hgo
            exact hgo
        · omega
    · skip
      refine zj_iload dk_30_28 rfl ?_
      refine zi_aload_n dk_30_30 rfl rfl ?_
      refine zi_getf dk_30_31 fl_5_23 (by first | exact er | exact (pc_o (by omega)).trans er | exact (pc_o ot).trans et | exact pc_0) rfl ?_
      refine zj_icmp_gt (t := 83) dk_30_34 rfl (by omega) (fun c34 => ?_) (fun c34 => ?_)
      · omega
      · skip
        refine zi_aload_n dk_30_37 rfl rfl ?_
        refine zj_iload dk_30_38 rfl ?_
        refine zi_invV dk_30_40 ml_5_28 iv_28 (ct_28 (d := d - 1) (by omega) ((pc_o ot).trans et) ((pc_o oc).trans ec) hl hf (by omega)) (by first | exact er | exact (pc_o (by omega)).trans er | exact (pc_o ot).trans et | exact pc_0) rfl rfl rfl (Nat.le_of_ble_eq_true rfl) (by omega) rfl rfl (fun r n' h' hq => ?_)
        obtain ⟨rfl, rfl, rfl⟩ := hq
        rw [if_neg (by rw [tx_in (by omega) (by omega)]; omega)]
        refine zj_if_ne (t := 62) dk_30_43 rfl (by omega) (fun c43 => ?_) (fun c43 => ?_)
        · omega
        · skip
          refine zi_aload_n dk_30_46 rfl rfl ?_
          refine zi_getf dk_30_47 fl_5_10 (by first | exact er | exact (pc_o (by omega)).trans er | exact (pc_o ot).trans et | exact pc_0) rfl ?_
          refine zi_aload_n dk_30_50 rfl rfl ?_
          refine zj_iload dk_30_51 rfl ?_
          refine zi_invV dk_30_53 ml_5_32 iv_25 (ct_25 (d := d - 1) ((pc_o ot).trans et) ((pc_o oc).trans ec) hl hf (by omega)) (by first | exact er | exact (pc_o (by omega)).trans er | exact (pc_o ot).trans et | exact pc_0) rfl rfl rfl (Nat.le_of_ble_eq_true rfl) (by omega) rfl rfl (fun r n' h' hq => ?_)
          obtain ⟨rfl, rfl, rfl⟩ := hq
          rw [tx_in (by omega) (by omega)]
          refine zi_invV dk_30_56 ml_5_36 iv_31 (ct_31 (d := d - 1) (by omega) hfi) (by first | exact er | exact (pc_o (by omega)).trans er | exact (pc_o ot).trans et | exact pc_0) rfl rfl rfl (Nat.le_of_ble_eq_true rfl) (by omega) rfl rfl (fun r n' h' hq => ?_)
          obtain ⟨rfl, rfl, rfl⟩ := hq
          refine zi_goto (t := 77) dk_30_59 rfl ?_
          refine zj_iinc dk_30_77 rfl rfl ?_
          refine zi_goto (t := 28) dk_30_80 rfl ?_
          have hgo := ih (i + 1) fr K (zU ch (bg + (i - fr)) (f i)) st en bg acc (by omega) h3 (by omega) hK (fun x hx1 hx2 => by by_cases hxi : x = i; (rw [hxi]; exact hsl); exact hno x hx1 (by omega)) (hch.up hfi) (hpr.up (by omega)) hbg hacc (fun x hx => by
            by_cases hxi : (x : Int) = i - fr
            · rw [hxi, zU_eq]; congr 1; omega
            · rw [zU_ne (by omega)]; exact hcp x (by omega)) hpt hL
          rw [show bg + (i + 1 - fr) = bg + (i - fr) + 1 by omega] at hgo
          exact hgo

theorem ct_30 {X : zz_X} {d n : Nat} {h : zz_H} (hd : 4 ≤ d) {r t ca : Nat} {len ex ms : Int} {f : Int → Int} (hn : n = r + 1) (h1 : h r = some (.inr (5, [.null, zv 0, zv 0]))) (et : h t = some (.inr (1, [.ref ca, zv len]))) (ot : t < r) (ec : h ca = some (zA 1 40 f)) (oc : ca < r) (hl : 0 < len ∧ len ≤ 40) (hf : ∀ i, 0 ≤ i → i < len → 0 ≤ f i ∧ f i < 65536) (hp : sp_pat f len = true) : zz_Ct X mm_30 d 4 86 [.ref r, .ref t, zv ex, zv ms] n h (fun r' n' h' => r' = none ∧ n' = r + 5 ∧ ∃ ch st en bg wr, ch_ok ch ∧ pr_R ch st en 40 (sp_pcs f len) ∧ (sp_pcs f len).length ≤ 20 ∧ h' = pc_H (r + 1) ch st en bg wr (sp_pcs f len).length (zz_up h r (.inr (5, [.ref (r + 1), zv ex, zv ms])))) := by
  refine zz_start (by decide) (ls := [some (.ref r), some (.ref t), some (zv ex), some (zv ms), none]) rfl ?_
  subst hn
  refine zi_aload_n dk_30_0 rfl rfl ?_
  refine zi_objI dk_30_1 zw_304 zo_i zo_c (Nat.le_of_ble_eq_true rfl) (by omega) ?_
  refine zi_aload_n dk_30_4 rfl rfl ?_
  refine zi_new dk_30_5 nw_5_7 rfl rfl ?_
  refine zi_dup dk_30_8 rfl ?_
  refine zi_invI dk_30_9 ml_5_9 ii_4 (ct_4 (d := d - 1) (by omega) rfl (zz_up_eq _ _ _)) rfl rfl (Nat.le_of_ble_eq_true rfl) (by omega) (kc' := 0) (ks' := 0) rfl rfl (fun r n' h' hq => ?_)
  obtain ⟨rfl, rfl, rfl⟩ := hq
  refine zj_putA dk_30_12 fp_30_10 ((pc_o (by omega)).trans ((zz_up_ne (by omega)).trans h1)) rfl ?_
  refine zi_aload_n dk_30_15 rfl rfl ?_
  refine zj_iload_n dk_30_16 rfl ?_
  refine zj_putI dk_30_17 fp_30_16 (zz_up_eq _ _ _) rfl ?_
  refine zi_aload_n dk_30_20 rfl rfl ?_
  refine zj_iload_n dk_30_21 rfl ?_
  refine zj_putI dk_30_22 fp_30_20 (zz_up_eq _ _ _) rfl ?_
  rw [zz_up_up, zz_up_up]
  have hhh : zz_up (pc_H (r + 1) (fun _ => 0) (fun _ => 0) (fun _ => 0) 0 0 0 (zz_up h (r + 1) (.inr (2, [.null, .null, .null, zv 0, zv 0, zv 0])))) r (.inr (5, [.ref (r + 1), zv ex, zv ms])) = pc_H (r + 1) (fun _ => 0) (fun _ => 0) (fun _ => 0) 0 0 0 (zz_up h r (.inr (5, [.ref (r + 1), zv ex, zv ms]))) := by
    funext q
    simp only [pc_H, pc_O, zz_up]
    by_cases k0 : q = r
    · subst k0; simp [Nat.add_assoc]
    · by_cases k1 : q = r + 1
      · subst k1; simp
      · simp [k0, k1]
  rw [hhh]
  have er : zz_up h r (.inr (5, [.ref (r + 1), zv ex, zv ms])) r = some (.inr (5, [.ref (r + 1), zv ex, zv ms])) := zz_up_eq _ _ _
  have et2 : zz_up h r (.inr (5, [.ref (r + 1), zv ex, zv ms])) t = some (.inr (1, [.ref ca, zv len])) := (zz_up_ne (by omega)).trans et
  have ec2 : zz_up h r (.inr (5, [.ref (r + 1), zv ex, zv ms])) ca = some (zA 1 40 f) := (zz_up_ne (by omega)).trans ec
  have hc0 : ch_ok (fun _ => 0) := fun i _ _ => ⟨Int.le_refl _, by show (0 : Int) < 65536; decide⟩
  refine zj_iconst dk_30_25 ?_
  refine zj_istore dk_30_26 rfl ?_
  by_cases h1l : len = 1
  · have hpe : sp_pcs f len = [] := by unfold sp_pcs; rw [if_pos (by omega)]
    rw [hpe]
    refine zj_iload dk_30_28 rfl ?_
    refine zi_aload_n dk_30_30 rfl rfl ?_
    refine zi_getf dk_30_31 fl_5_23 ((pc_o (by omega)).trans et2) rfl ?_
    refine zj_icmp_gt (t := 83) dk_30_34 rfl (by omega) (fun c34 => by omega) (fun c34 => ?_)
    refine zi_aload_n dk_30_37 rfl rfl ?_
    refine zj_iload dk_30_38 rfl ?_
    refine zi_invV dk_30_40 ml_5_28 iv_28 (ct_28 (d := d - 1) (by omega) ((pc_o (by omega)).trans et2) ((pc_o (by omega)).trans ec2) (by omega) hf (by omega)) ((pc_o (by omega)).trans et2) rfl rfl rfl (Nat.le_of_ble_eq_true rfl) (by omega) rfl rfl (fun r' n' h' hq => ?_)
    obtain ⟨rfl, rfl, rfl⟩ := hq
    rw [if_pos (Or.inl h1l.symm)]
    refine zj_if_ne (t := 62) dk_30_43 rfl (by omega) (fun c43 => ?_) (fun c43 => by omega)
    refine zi_aload_n dk_30_62 rfl rfl ?_
    refine zi_getf dk_30_63 fl_5_23 ((pc_o (by omega)).trans et2) rfl ?_
    refine zj_iconst dk_30_66 ?_
    refine zj_icmp_le (t := 77) dk_30_67 rfl (by omega) (fun c67 => ?_) (fun c67 => by omega)
    refine zj_iinc dk_30_77 rfl rfl ?_
    refine zi_goto (t := 28) dk_30_80 rfl ?_
    refine zj_iload dk_30_28 rfl ?_
    refine zi_aload_n dk_30_30 rfl rfl ?_
    refine zi_getf dk_30_31 fl_5_23 ((pc_o (by omega)).trans et2) rfl ?_
    refine zj_icmp_gt (t := 83) dk_30_34 rfl (by omega) (fun c34b => ?_) (fun c34b => by omega)
    exact zi_return dk_30_83 rfl ⟨rfl, rfl, _, _, _, _, _, hc0, pr_R.nil, by simp, rfl⟩
  · have hpt : sp_ptl f len 41 1 = true := by
      unfold sp_pat at hp
      simp only [Bool.and_eq_true, Bool.or_eq_true, decide_eq_true_eq] at hp
      rcases hp.2 with h | h
      · exact absurd h h1l
      · exact h
    have hL : sp_pcs f len = sp_sp f len 41 1 := by unfold sp_pcs; rw [if_neg (by omega)]
    have hgo := lp_30 (X := X) (d := d) (n := r + 1 + 4) (by omega) er et2 (by omega) ec2 (by omega) (by omega) hf (by omega) (L := sp_pcs f len) (Q := fun r' n' h' => r' = none ∧ n' = r + 5 ∧ ∃ ch st en bg wr, ch_ok ch ∧ pr_R ch st en 40 (sp_pcs f len) ∧ (sp_pcs f len).length ≤ 20 ∧ h' = pc_H (r + 1) ch st en bg wr (sp_pcs f len).length (zz_up h r (.inr (5, [.ref (r + 1), zv ex, zv ms])))) (fun ch st en bg wr q1 q2 q3 => ⟨rfl, rfl, ch, st, en, bg, wr, q1, q2, q3, rfl⟩) (len - 1).toNat 1 1 41 (fun _ => 0) (fun _ => 0) (fun _ => 0) 0 [] (by omega) (by omega) (by omega) (by omega) (fun x hx1 hx2 => by omega) hc0 pr_R.nil (by omega) (by simp) (fun x hx => by omega) hpt (by rw [hL]; rfl)
    exact hgo

