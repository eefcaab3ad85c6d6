/-! PlainPath.read -/
theorem ch_ok.write {g : Int → Int} (h : ch_ok g) : ∀ (l : List Int) (i : Int), (∀ c ∈ l, 0 ≤ c ∧ c < 65536) → ch_ok (zW g i l) := by
  intro l
  induction l generalizing g with
  | nil => intro i _; exact h
  | cons c l ih =>
    intro i hl
    exact ih (h.up (hl c List.mem_cons_self)) (i + 1) (fun x hx => hl x (List.mem_cons_of_mem _ hx))
theorem sp_dcl_rg {g : Int → Int} (hg : ∀ i, 0 ≤ g i ∧ g i < 65536) (to : Int) : ∀ (k : Nat) (i : Int) (l : List Int), sp_dcl g to k i = some l → ∀ c ∈ l, 0 ≤ c ∧ c < 65536
  | 0, i, l, h => by cases h; simp
  | k + 1, i, l, h => by
    unfold sp_dcl at h
    split at h
    · cases h; simp
    · split at h
      · split at h
        · split at h
          · cases h
          · rename_i hne
            rw [Option.map_eq_some_iff] at h
            obtain ⟨l', h3, rfl⟩ := h
            intro c hc
            rcases List.mem_cons.mp hc with rfl | hc
            · have := sp_code_rg (g (i + 1)) (g (i + 2)); omega
            · exact sp_dcl_rg hg to k (i + 3) l' h3 c hc
        · cases h
      · rw [Option.map_eq_some_iff] at h
        obtain ⟨l', h3, rfl⟩ := h
        intro c hc
        rcases List.mem_cons.mp hc with rfl | hc
        · exact hg i
        · exact sp_dcl_rg hg to k (i + 1) l' h3 c hc
theorem tx_in {len i : Int} {f : Int → Int} (h1 : 0 ≤ i) (h2 : i < len) : tx_at len f i = f i := if_pos ⟨h1, h2⟩
/-- one piece of the reading -/
theorem sp_rd_step {f : Int → Int} {len fr i : Int} {K : Nat} {acc : List (List Int)} (h1 : 1 ≤ fr) (h2 : fr ≤ i) (h3 : i ≤ len) (hl : len ≤ 40) (hno : ∀ x, fr ≤ x → x < i → f x ≠ 47) (he : i = len ∨ f i = 47) :
    sp_rd f len (K + 1) fr acc = match sp_dcl (tx_at len f) (sp_find (tx_at len f) 59 (i - fr).toNat fr) 41 fr with
      | none => none
      | some w => match sp_plc (decide (i = len)) w acc with
        | none => none
        | some acc' => if i = len then some acc' else sp_rd f len K (i + 1) acc' := by
  have e1 : sp_nx f len fr = i := sp_find_uniq f 47 _ fr i h2 (by omega) hno (fun _ => by rcases he with he | he <;> first | exact he | omega)
  have g1 := sp_find_ge (tx_at len f) 59 (i - fr).toNat fr
  have e2 : sp_dcl (tx_at len f) (sp_find (tx_at len f) 59 (i - fr).toNat fr) 41 fr = sp_dec f i 41 fr := by
    refine sp_dcl_dec _ f _ i (by omega) (fun x hx1 hx2 => tx_in hx1 (by omega)) (fun hlt => ?_) 41 41 fr (by omega) (by omega) (by omega) (by omega) (fun x hx1 hx2 => sp_find_not _ _ _ _ x hx1 hx2)
    have := sp_find_at (tx_at len f) 59 (i - fr).toNat fr (by omega)
    rw [tx_in (by omega) (by omega)] at this
    exact this
  rw [e2]
  conv => lhs; unfold sp_rd
  rw [e1]
  rfl
theorem pe_84 {X : zz_X} {d n : Nat} (hd : 4 ≤ d) {pp p t ca : Nat} {len : Int} {f : Int → Int} {h0 : zz_H} (ep : h0 pp = some (.inr (3, [.ref p]))) (op : pp < p ∨ p + 4 ≤ pp) (et : h0 t = some (.inr (1, [.ref ca, zv len]))) (ot : t < p ∨ p + 4 ≤ t) (ec : h0 ca = some (zA 1 40 f)) (oc : ca < p ∨ p + 4 ≤ ca) (hl : 0 ≤ len ∧ len ≤ 40) (hf : ∀ i, 0 ≤ i → i < len → 0 ≤ f i ∧ f i < 65536) {Q : Option Value → Nat → zz_H → Prop} {i fr la bg : Int} {ch st en : Int → Int} {acc : List (List Int)} (hb : 1 ≤ fr ∧ fr ≤ i ∧ i ≤ len) (hbg : 0 ≤ bg ∧ bg ≤ fr) (hacc : 2 * (acc.length : Int) + 1 ≤ fr) (hla : la = if i = len then 1 else 0) (hch : ch_ok ch) (hpr : pr_R ch st en bg acc)
    (o : Option (List Int)) (ho : o = sp_dcl (tx_at len f) (sp_find (tx_at len f) 59 (i - fr).toNat fr) 41 fr)
    (hF : (o = none ∨ ∃ l, o = some l ∧ sp_plc (decide (i = len)) l acc = none) → ∀ ch st en bg wr sz, ch_ok ch → Q (some (zv 0)) n (pc_H p ch st en bg wr sz h0))
    (hC : ∀ l acc' ch' st' en' bg', o = some l → sp_plc (decide (i = len)) l acc = some acc' → ch_ok ch' → pr_R ch' st' en' bg' acc' → (0 ≤ bg' ∧ bg' ≤ i) → 2 * (acc'.length : Int) + 1 ≤ i + 1 → zz_Z X mm_84 d Q 0 0 95 [some (.ref pp), some (.ref t), some (zv (i + 1)), some (zv i), some (zv la)] [] n (pc_H p ch' st' en' bg' bg' acc'.length h0)) :
    zz_Z X mm_84 d Q 0 0 63 [some (.ref pp), some (.ref t), some (zv fr), some (zv i), some (zv la)] [] n (pc_H p ch st en bg bg acc.length h0) := by
  have g1 := sp_find_ge (tx_at len f) 59 (i - fr).toNat fr
  have hla2 : la = 0 ∨ la = 1 := by rw [hla]; split <;> omega
  refine zi_aload_n dk_84_63 rfl rfl ?_
  refine zi_aload_n dk_84_64 rfl rfl ?_
  refine zj_iload_n dk_84_65 rfl ?_
  refine zi_aload_n dk_84_66 rfl rfl ?_
  refine zj_bipush dk_84_67 (by decide) ?_
  refine zj_iload_n dk_84_69 rfl ?_
  refine zj_iload_n dk_84_70 rfl ?_
  refine zi_invV dk_84_71 ml_3_39 iv_27 (ct_27 (d := d - 1) (by omega) ((pc_o ot).trans et) ((pc_o oc).trans ec) hl hf (by omega) (by omega)) (by first | exact (pc_o op).trans ep | exact pc_0 | exact (pc_o ot).trans et | exact (pc_o oc).trans ec) rfl rfl rfl (Nat.le_of_ble_eq_true rfl) (by omega) rfl rfl (fun r n' h' hq => ?_)
  obtain ⟨rfl, rfl, rfl⟩ := hq
  refine zi_invV dk_84_74 ml_3_43 iv_86 (ct_86 (d := d - 1) (by omega) ep op et ot ec oc hl hf (by omega) hch) (by first | exact (pc_o op).trans ep | exact pc_0 | exact (pc_o ot).trans et | exact (pc_o oc).trans ec) rfl rfl rfl (Nat.le_of_ble_eq_true rfl) (by omega) rfl rfl (fun r n' h' hq => ?_)
  rw [← ho] at hq
  obtain ⟨rfl, ⟨l, hl1, rfl, rfl⟩ | ⟨hn, rfl, ch2, wr2, hch2, rfl⟩⟩ := hq
  · have hlen := sp_dcl_len _ _ _ _ _ (ho.symm.trans hl1) (by omega)
    have hS := zW_zS l ch bg
    have hch2 : ch_ok (zW ch bg l) := hch.write l bg (sp_dcl_rg (tx_rg hf) _ _ _ _ (ho.symm.trans hl1))
    have hpr2 := hpr.write (wr := bg) (Int.le_refl _) l
    have hpos : l ≠ [] → fr < i := fun hne => by have := sp_dcl_pos _ _ _ _ _ (ho.symm.trans hl1) hne; omega
    have hcs := sp_plc_cases (last := decide (i = len)) (acc := acc) hS
    have hz1 : (bg + (l.length : Int) - bg).toNat = l.length := by omega
    have hne : l.length ≠ 0 → fr < i := fun hne => hpos (fun e => hne (by rw [e]; rfl))
    refine zj_if_eq (t := 89) dk_84_77 rfl (by omega) (fun c77 => absurd c77 (by decide)) (fun c77 => ?_)
    refine zi_aload_n dk_84_80 rfl rfl ?_
    refine zj_iload dk_84_81 rfl ?_
    refine zi_invV dk_84_83 ml_3_47 iv_89 (ct_89 (d := d - 1) (by omega) ep op (by omega) ⟨by omega, by omega, fun _ => by omega⟩ hla2 hch2) ((pc_o op).trans ep) rfl rfl rfl (Nat.le_of_ble_eq_true rfl) (by omega) rfl rfl (fun r n' h' hq => ?_)
    rw [hz1] at hq
    obtain ⟨rfl, ⟨q1, rfl, rfl⟩ | ⟨⟨q1, q2⟩, rfl, rfl⟩ | ⟨⟨q1, q2⟩, rfl, rfl⟩ | ⟨⟨q1, q2, q3⟩, rfl, rfl⟩⟩ := hq
    · have hl0 : l.length = 0 := by omega
      rw [if_pos hl0] at hcs
      have hle : l = [] := List.length_eq_zero_iff.mp hl0
      subst hle
      refine zj_if_ne (t := 91) dk_84_86 rfl (by omega) (fun c86 => ?_) (fun c86 => ?_)
      · have hil : i = len := by
          rcases Classical.em (i = len) with h | h
          · exact h
          · rw [if_neg h] at hla; exact absurd hla c86
        rw [decide_eq_true hil, if_pos rfl] at hcs
        rw [show bg + ((([] : List Int).length : Nat) : Int) = bg by simp]
        have hg := hC [] acc ch st en bg hl1 (by rw [decide_eq_true hil]; exact hcs) hch hpr (by omega) (by omega)
        refine zj_iload_n dk_84_91 rfl ?_
        refine zj_iconst dk_84_92 ?_
        refine zj_iadd dk_84_93 ?_
        refine zj_istore_n dk_84_94 rfl ?_
        exact hg
      · have hil : ¬ i = len := fun h => by rw [if_pos h] at hla; omega
        rw [decide_eq_false hil, if_neg (by decide)] at hcs
        refine zj_iconst dk_84_89 ?_
        exact zj_zreturn dk_84_90 rfl (by omega) (hF (Or.inr ⟨[], hl1, by rw [decide_eq_false hil]; exact hcs⟩) _ _ _ _ _ _ hch2)
    · have hl0 : l.length = 1 := by omega
      rw [if_neg (by omega), if_pos ⟨hl0, by rw [← hl0]; exact q2⟩] at hcs
      refine zj_if_ne (t := 91) dk_84_86 rfl (by omega) (fun c86 => ?_) (fun c86 => by omega)
      have hg := hC l acc _ st en bg hl1 hcs hch2 hpr2 (by omega) (by omega)
      refine zj_iload_n dk_84_91 rfl ?_
      refine zj_iconst dk_84_92 ?_
      refine zj_iadd dk_84_93 ?_
      refine zj_istore_n dk_84_94 rfl ?_
      exact hg
    · have hl0 : l.length = 2 := by omega
      rw [if_neg (by omega), if_neg (by omega), if_pos ⟨hl0, by rw [← hl0]; exact q2⟩] at hcs
      by_cases ha : acc = []
      · subst ha
        rw [if_pos rfl] at hcs
        refine zj_if_ne (t := 91) dk_84_86 rfl (by split <;> omega) (fun c86 => absurd rfl c86) (fun c86 => ?_)
        refine zj_iconst dk_84_89 ?_
        exact zj_zreturn dk_84_90 rfl (by omega) (hF (Or.inr ⟨l, hl1, hcs⟩) _ _ _ _ _ _ hch2)
      · have hap : 0 < acc.length := List.length_pos_iff.mpr ha
        rw [if_neg ha] at hcs
        rw [if_pos (by omega : (0 : Int) < acc.length), if_pos (by omega : (0 : Int) < acc.length)]
        have hdl : acc.dropLast.length = acc.length - 1 := List.length_dropLast
        have hg := hC l acc.dropLast _ st en bg hl1 hcs hch2 hpr2.drop (by omega) (by omega)
        rw [show ((acc.dropLast.length : Nat) : Int) = (acc.length : Int) - 1 by omega] at hg
        refine zj_if_ne (t := 91) dk_84_86 rfl (by omega) (fun c86 => ?_) (fun c86 => by omega)
        refine zj_iload_n dk_84_91 rfl ?_
        refine zj_iconst dk_84_92 ?_
        refine zj_iadd dk_84_93 ?_
        refine zj_istore_n dk_84_94 rfl ?_
        exact hg
    · have hl0 : l.length ≠ 0 := by omega
      have hlt := hne hl0
      rw [if_neg hl0, if_neg (fun hx => q2 ⟨by omega, by rw [hx.1]; exact hx.2⟩), if_neg (fun hx => q3 ⟨by omega, by rw [hx.1]; exact hx.2⟩)] at hcs
      have hal : (acc ++ [l]).length = acc.length + 1 := by simp
      have hg := hC l (acc ++ [l]) _ _ _ (bg + l.length) hl1 hcs hch2 (hpr2.keep (by omega) rfl hS) (by omega) (by omega)
      rw [show (((acc ++ [l]).length : Nat) : Int) = (acc.length : Int) + 1 by omega] at hg
      refine zj_if_ne (t := 91) dk_84_86 rfl (by omega) (fun c86 => ?_) (fun c86 => by omega)
      refine zj_iload_n dk_84_91 rfl ?_
      refine zj_iconst dk_84_92 ?_
      refine zj_iadd dk_84_93 ?_
      refine zj_istore_n dk_84_94 rfl ?_
      exact hg
  · refine zj_if_eq (t := 89) dk_84_77 rfl (by omega) (fun c77 => ?_) (fun c77 => absurd rfl c77)
    refine zj_iconst dk_84_89 ?_
    exact zj_zreturn dk_84_90 rfl (by omega) (hF (Or.inl hn) _ _ _ _ _ _ hch2)

def rd_Q (Q : Option Value → Nat → zz_H → Prop) (n p : Nat) (h0 : zz_H) (o : Option (List (List Int))) : Prop := match o with
  | some L => ∀ ch st en bg wr, ch_ok ch → pr_R ch st en 40 L → L.length ≤ 20 → Q (some (zv 1)) n (pc_H p ch st en bg wr L.length h0)
  | none => ∀ ch st en bg wr sz, ch_ok ch → Q (some (zv 0)) n (pc_H p ch st en bg wr sz h0)
theorem lp_84 {X : zz_X} {d n : Nat} (hd : 4 ≤ d) {pp p t ca : Nat} {len : Int} {f : Int → Int} {h0 : zz_H} (ep : h0 pp = some (.inr (3, [.ref p]))) (op : pp < p ∨ p + 4 ≤ pp) (et : h0 t = some (.inr (1, [.ref ca, zv len]))) (ot : t < p ∨ p + 4 ≤ t) (ec : h0 ca = some (zA 1 40 f)) (oc : ca < p ∨ p + 4 ≤ ca) (hl : 0 ≤ len ∧ len ≤ 40) (hf : ∀ i, 0 ≤ i → i < len → 0 ≤ f i ∧ f i < 65536) {Q : Option Value → Nat → zz_H → Prop} : ∀ (m : Nat) (i fr : Int) (K : Nat) (ch st en : Int → Int) (bg : Int) (acc : List (List Int)) (x4 : Option Value), i + m = len → 1 ≤ fr → fr ≤ i → len < fr + K → (∀ x, fr ≤ x → x < i → f x ≠ 47) → ch_ok ch → pr_R ch st en bg acc → (0 ≤ bg ∧ bg ≤ fr) → 2 * (acc.length : Int) + 1 ≤ fr → rd_Q Q n p h0 (sp_rd f len K fr acc) →
    zz_Z X mm_84 d Q 0 0 32 [some (.ref pp), some (.ref t), some (zv fr), some (zv i), x4] [] n (pc_H p ch st en bg bg acc.length h0) := by
  intro m
  induction m with
  | zero =>
    intro i fr K ch st en bg acc x4 hm h1 h2 hK hno hch hpr hbg hacc hQ
    have hil : i = len := by omega
    obtain ⟨K', rfl⟩ : ∃ K', K = K' + 1 := ⟨K - 1, by omega⟩
    rw [sp_rd_step h1 h2 (by omega) hl.2 hno (Or.inl hil)] at hQ
    refine zj_iload_n dk_84_32 rfl ?_
    refine zi_aload_n dk_84_33 rfl rfl ?_
    refine zi_getf dk_84_34 fl_3_31 (by first | exact (pc_o op).trans ep | exact pc_0 | exact (pc_o ot).trans et | exact (pc_o oc).trans ec) rfl ?_
    refine zj_icmp_gt (t := 101) dk_84_37 rfl (by omega) (fun c37 => ?_) (fun c37 => ?_)
    · omega
    · skip
      refine zi_aload_n dk_84_40 rfl rfl ?_
      refine zj_iload_n dk_84_41 rfl ?_
      refine zi_invV dk_84_42 ml_3_35 iv_28 (ct_28 (d := d - 1) (by omega) ((pc_o ot).trans et) ((pc_o oc).trans ec) hl hf (by omega)) (by first | exact (pc_o op).trans ep | exact pc_0 | exact (pc_o ot).trans et | exact (pc_o oc).trans ec) rfl rfl rfl (Nat.le_of_ble_eq_true rfl) (by omega) rfl rfl (fun r n' h' hq => ?_)
      obtain ⟨rfl, rfl, rfl⟩ := hq
      rw [if_pos (Or.inl hil)]
      refine zj_if_eq (t := 95) dk_84_45 rfl (by omega) (fun c45 => ?_) (fun c45 => ?_)
      · omega
      · skip
        refine zj_iload_n dk_84_48 rfl ?_
        refine zi_aload_n dk_84_49 rfl rfl ?_
        refine zi_getf dk_84_50 fl_3_31 (by first | exact (pc_o op).trans ep | exact pc_0 | exact (pc_o ot).trans et | exact (pc_o oc).trans ec) rfl ?_
        refine zj_icmp_ne (t := 60) dk_84_53 rfl (by omega) (fun c53 => ?_) (fun c53 => ?_)
        · omega
        · skip
          refine zj_iconst dk_84_56 ?_
          refine zi_goto (t := 61) dk_84_57 rfl ?_
          refine zj_istore dk_84_61 rfl ?_
          refine pe_84 hd ep op et ot ec oc hl hf (by omega) hbg hacc (by rw [if_pos hil]) hch hpr _ rfl (fun hx => ?_) (fun l acc' ch' st' en' bg' hl1 hp hch' hpr' hbg' hacc' => ?_)
          · rcases hx with hx | ⟨l, hx, hp⟩
            · rw [hx] at hQ; exact hQ
            · rw [hx] at hQ; dsimp only at hQ; rw [hp] at hQ; exact hQ
          · rw [hl1] at hQ
            dsimp only at hQ
            rw [hp] at hQ
            dsimp only at hQ
            rw [if_pos hil] at hQ
            refine zj_iinc dk_84_95 rfl rfl ?_
            refine zi_goto (t := 32) dk_84_98 rfl ?_
            refine zj_iload_n dk_84_32 rfl ?_
            refine zi_aload_n dk_84_33 rfl rfl ?_
            refine zi_getf dk_84_34 fl_3_31 ((pc_o ot).trans et) rfl ?_
            refine zj_icmp_gt (t := 101) dk_84_37 rfl (by omega) (fun c37 => ?_) (fun c37 => by omega)
            refine zj_iconst dk_84_101 ?_
            exact zj_zreturn dk_84_102 rfl (by omega) (hQ _ _ _ _ _ hch' (hpr'.mono (by omega)) (by omega))
  | succ m ih =>
    intro i fr K ch st en bg acc x4 hm h1 h2 hK hno hch hpr hbg hacc hQ
    have hil : ¬ i = len := by omega
    by_cases hsl : f i = 47
    · obtain ⟨K', rfl⟩ : ∃ K', K = K' + 1 := ⟨K - 1, by omega⟩
      rw [sp_rd_step h1 h2 (by omega) hl.2 hno (Or.inr hsl)] at hQ
      refine zj_iload_n dk_84_32 rfl ?_
      refine zi_aload_n dk_84_33 rfl rfl ?_
      refine zi_getf dk_84_34 fl_3_31 (by first | exact (pc_o op).trans ep | exact pc_0 | exact (pc_o ot).trans et | exact (pc_o oc).trans ec) rfl ?_
      refine zj_icmp_gt (t := 101) dk_84_37 rfl (by omega) (fun c37 => ?_) (fun c37 => ?_)
      · omega
      · skip
        refine zi_aload_n dk_84_40 rfl rfl ?_
        refine zj_iload_n dk_84_41 rfl ?_
        refine zi_invV dk_84_42 ml_3_35 iv_28 (ct_28 (d := d - 1) (by omega) ((pc_o ot).trans et) ((pc_o oc).trans ec) hl hf (by omega)) (by first | exact (pc_o op).trans ep | exact pc_0 | exact (pc_o ot).trans et | exact (pc_o oc).trans ec) rfl rfl rfl (Nat.le_of_ble_eq_true rfl) (by omega) rfl rfl (fun r n' h' hq => ?_)
        obtain ⟨rfl, rfl, rfl⟩ := hq
        rw [if_pos (Or.inr (by rw [tx_in (by omega) (by omega)]; exact hsl))]
        refine zj_if_eq (t := 95) dk_84_45 rfl (by omega) (fun c45 => ?_) (fun c45 => ?_)
        · omega
        · skip
          refine zj_iload_n dk_84_48 rfl ?_
          refine zi_aload_n dk_84_49 rfl rfl ?_
          refine zi_getf dk_84_50 fl_3_31 (by first | exact (pc_o op).trans ep | exact pc_0 | exact (pc_o ot).trans et | exact (pc_o oc).trans ec) rfl ?_
          refine zj_icmp_ne (t := 60) dk_84_53 rfl (by omega) (fun c53 => ?_) (fun c53 => ?_)
          · skip
            refine zj_iconst dk_84_60 ?_
            refine zj_istore dk_84_61 rfl ?_
            refine pe_84 hd ep op et ot ec oc hl hf (by omega) hbg hacc (by rw [if_neg hil]) hch hpr _ rfl (fun hx => ?_) (fun l acc' ch' st' en' bg' hl1 hp hch' hpr' hbg' hacc' => ?_)
            · rcases hx with hx | ⟨l, hx, hp⟩
              · rw [hx] at hQ; exact hQ
              · rw [hx] at hQ; dsimp only at hQ; rw [hp] at hQ; exact hQ
            · rw [hl1] at hQ
              dsimp only at hQ
              rw [hp] at hQ
              dsimp only at hQ
              rw [if_neg hil] at hQ
              refine zj_iinc dk_84_95 rfl rfl ?_
              refine zi_goto (t := 32) dk_84_98 rfl ?_
              exact ih (i + 1) (i + 1) K' ch' st' en' bg' acc' _ (by omega) (by omega) (by omega) (by omega) (fun x hx1 hx2 => by omega) hch' hpr' (by omega) hacc' hQ
          · omega
    · skip
      refine zj_iload_n dk_84_32 rfl ?_
      refine zi_aload_n dk_84_33 rfl rfl ?_
      refine zi_getf dk_84_34 fl_3_31 (by first | exact (pc_o op).trans ep | exact pc_0 | exact (pc_o ot).trans et | exact (pc_o oc).trans ec) rfl ?_
      refine zj_icmp_gt (t := 101) dk_84_37 rfl (by omega) (fun c37 => ?_) (fun c37 => ?_)
      · omega
      · skip
        refine zi_aload_n dk_84_40 rfl rfl ?_
        refine zj_iload_n dk_84_41 rfl ?_
        refine zi_invV dk_84_42 ml_3_35 iv_28 (ct_28 (d := d - 1) (by omega) ((pc_o ot).trans et) ((pc_o oc).trans ec) hl hf (by omega)) (by first | exact (pc_o op).trans ep | exact pc_0 | exact (pc_o ot).trans et | exact (pc_o oc).trans ec) rfl rfl rfl (Nat.le_of_ble_eq_true rfl) (by omega) rfl rfl (fun r n' h' hq => ?_)
        obtain ⟨rfl, rfl, rfl⟩ := hq
        rw [if_neg (by rw [tx_in (by omega) (by omega)]; omega)]
        refine zj_if_eq (t := 95) dk_84_45 rfl (by omega) (fun c45 => ?_) (fun c45 => ?_)
        · skip
          refine zj_iinc dk_84_95 rfl rfl ?_
          refine zi_goto (t := 32) dk_84_98 rfl ?_
          exact ih (i + 1) fr K ch st en bg acc x4 (by omega) h1 (by omega) hK (fun x hx1 hx2 => by by_cases hxi : x = i; (rw [hxi]; exact hsl); exact hno x hx1 (by omega)) hch hpr hbg hacc hQ
        · omega

/-- behind read -/
def rd_P (n p : Nat) (h0 : zz_H) (o : Option (List (List Int))) : Option Value → Nat → zz_H → Prop := fun r n' h' => n' = n ∧ ((∃ L ch st en bg wr, o = some L ∧ r = some (zv 1) ∧ ch_ok ch ∧ pr_R ch st en 40 L ∧ L.length ≤ 20 ∧ h' = pc_H p ch st en bg wr L.length h0) ∨ (o = none ∧ r = some (zv 0) ∧ ∃ ch st en bg wr sz, ch_ok ch ∧ h' = pc_H p ch st en bg wr sz h0))
theorem rd_PQ (n p : Nat) (h0 : zz_H) (o : Option (List (List Int))) : rd_Q (rd_P n p h0 o) n p h0 o := by
  cases o with
  | none => exact fun ch st en bg wr sz hc => ⟨rfl, Or.inr ⟨rfl, rfl, ch, st, en, bg, wr, sz, hc, rfl⟩⟩
  | some L => exact fun ch st en bg wr hc hp hl => ⟨rfl, Or.inl ⟨L, ch, st, en, bg, wr, rfl, rfl, hc, hp, hl, rfl⟩⟩
theorem ct_84 {X : zz_X} {d n : Nat}  (hd : 5 ≤ d) {pp p t ca : Nat} {len : Int} {f : Int → Int} {h0 : zz_H} (ep : h0 pp = some (.inr (3, [.ref p]))) (op : pp < p ∨ p + 4 ≤ pp) (et : h0 t = some (.inr (1, [.ref ca, zv len]))) (ot : t < p ∨ p + 4 ≤ t) (ec : h0 ca = some (zA 1 40 f)) (oc : ca < p ∨ p + 4 ≤ ca) (hl : 0 ≤ len ∧ len ≤ 40) (hf : ∀ i, 0 ≤ i → i < len → 0 ≤ f i ∧ f i < 65536) {ch st en : Int → Int} {bg wr sz : Int} (hch : ch_ok ch) : zz_Ct X mm_84 d 0 0 [.ref pp, .ref t] n (pc_H p ch st en bg wr sz h0) (rd_P n p h0 (sp_read f len)) := by
  refine zz_start (by decide) (ls := [some (.ref pp), some (.ref t), none, none, none]) rfl ?_
  have hat := tx_rg hf 0
  have hR := rd_PQ n p h0 (sp_read f len)
  have hfe : sp_find (tx_at len f) 92 len.toNat 0 = sp_find f 92 len.toNat 0 := sp_find_congr _ _ _ _ _ (fun x h1 h2 => tx_in h1 (by omega))
  refine zi_aload_n dk_84_0 rfl rfl ?_
  refine zi_getf dk_84_1 fl_3_12 (by first | exact (pc_o op).trans ep | exact pc_0 | exact (pc_o ot).trans et | exact (pc_o oc).trans ec) rfl ?_
  refine zi_invV dk_84_4 ml_3_18 iv_85 (ct_85 (d := d - 1)) (by first | exact (pc_o op).trans ep | exact pc_0 | exact (pc_o ot).trans et | exact (pc_o oc).trans ec) rfl rfl rfl (Nat.le_of_ble_eq_true rfl) (by omega) rfl rfl (fun r n' h' hq => ?_)
  obtain ⟨rfl, rfl, rfl⟩ := hq
  refine zi_aload_n dk_84_7 rfl rfl ?_
  refine zj_iconst dk_84_8 ?_
  refine zi_invV dk_84_9 ml_3_21 iv_25 (ct_25 (d := d - 1) ((pc_o ot).trans et) ((pc_o oc).trans ec) hl hf (by omega)) (by first | exact (pc_o op).trans ep | exact pc_0 | exact (pc_o ot).trans et | exact (pc_o oc).trans ec) rfl rfl rfl (Nat.le_of_ble_eq_true rfl) (by omega) rfl rfl (fun r n' h' hq => ?_)
  obtain ⟨rfl, rfl, rfl⟩ := hq
  refine zj_bipush dk_84_12 (by decide) ?_
  refine zj_icmp_ne (t := 26) dk_84_14 rfl (by omega) (fun c14 => ?_) (fun c14 => ?_)
  · skip
    have hn : sp_read f len = none := by
      unfold sp_read
      by_cases hl0 : len = 0
      · rw [if_pos (Or.inl hl0)]
      · rw [tx_in (by omega) (by omega)] at c14
        rw [if_pos (Or.inr c14)]
    rw [hn] at hR ⊢
    refine zj_iconst dk_84_26 ?_
    exact zj_zreturn dk_84_27 rfl (by omega) (hR _ _ _ _ _ _ hch)
  · skip
    refine zi_aload_n dk_84_17 rfl rfl ?_
    refine zj_bipush dk_84_18 (by decide) ?_
    refine zi_invV dk_84_20 ml_3_27 iv_26 (ct_26 (d := d - 1) (by omega) ((pc_o ot).trans et) ((pc_o oc).trans ec) hl hf (by omega)) (by first | exact (pc_o op).trans ep | exact pc_0 | exact (pc_o ot).trans et | exact (pc_o oc).trans ec) rfl rfl rfl (Nat.le_of_ble_eq_true rfl) (by omega) rfl rfl (fun r n' h' hq => ?_)
    obtain ⟨rfl, rfl, rfl⟩ := hq
    rw [hfe]
    refine zj_if_eq (t := 28) dk_84_23 rfl (by split <;> omega) (fun c23 => ?_) (fun c23 => ?_)
    · skip
      have h0len : 0 < len := by rcases Classical.em (0 < len) with h | h; exact h; (unfold tx_at at c14; rw [if_neg (by omega)] at c14; omega)
      rw [tx_in (by omega) h0len] at c14
      have hfn : ¬ sp_find f 92 len.toNat 0 < len := by split at c23 <;> omega
      refine zj_iconst dk_84_28 ?_
      refine zj_istore_n dk_84_29 rfl ?_
      refine zj_iconst dk_84_30 ?_
      refine zj_istore_n dk_84_31 rfl ?_
      refine lp_84 (by omega) ep op et ot ec oc hl hf (len - 1).toNat 1 1 41 ch st en 0 [] none (by omega) (by omega) (by omega) (by omega) (fun x h1 h2 => by omega) hch pr_R.nil (by omega) (by simp) ?_
      unfold sp_read at hR
      rw [if_neg (by omega), if_neg hfn] at hR
      unfold sp_read
      rw [if_neg (by omega), if_neg hfn]
      exact hR
    · skip
      have hn : sp_read f len = none := by
        unfold sp_read
        split
        · rfl
        · rw [if_pos (by split at c23 <;> omega)]
      rw [hn] at hR ⊢
      refine zj_iconst dk_84_26 ?_
      exact zj_zreturn dk_84_27 rfl (by omega) (hR _ _ _ _ _ _ hch)

