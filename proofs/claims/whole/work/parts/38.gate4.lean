/-! conditions of the gate: isTrue, types, call -/
theorem ex_ext {o a b : Int → Int} {sz ask held arg : Int} (hw : ex_W o a b sz) : ∀ (k : Nat) (i : Int) (v v' : Int → Int), 0 ≤ i → i + k ≤ sz → (∀ j, 0 ≤ j → j < i → v j = v' j) → ∀ j, 0 ≤ j → j < i + k → ex_run o a b ask held arg k i v j = ex_run o a b ask held arg k i v' j := by
  intro k
  induction k with
  | zero => intro i v v' h0 hs hv j hj hjk; exact hv j hj (by omega)
  | succ k ih =>
    intro i v v' h0 hs hv j hj hjk
    refine ih (i + 1) _ _ (by omega) (by omega) (fun q hq hqi => ?_) j hj (by omega)
    obtain ⟨-, -, -, -, w5, w6⟩ := hw i h0 (by omega)
    by_cases hqe : q = i
    · subst hqe
      rw [zU_eq, zU_eq]
      unfold ex_step
      by_cases hc : o q = 4 ∨ o q = 5 ∨ o q = 6
      · rw [if_pos hc, if_pos hc]
        have ha := w5 (by omega)
        rw [hv _ ha.1 ha.2]
        unfold ex_jv
        by_cases h4 : o q = 4
        · rw [if_pos h4, if_pos h4]
        · have hb := w6 (by omega)
          rw [hv _ hb.1 hb.2]
      · rw [if_neg hc, if_neg hc]
    · rw [zU_ne hqe, zU_ne hqe]
      exact hv q hq (by omega)
def tr_of (o a b : Int → Int) (sz ask held arg c : Int) : Int := if 0 ≤ c ∧ c < sz then (if ex_run o a b ask held arg (c + 1).toNat 0 (fun _ => 0) c = 1 then 1 else 0) else 0
def us_gv (UL : List (Nat × ud)) (k : Nat) : Int := match UL[k]? with
  | none => 0
  | some p => p.2.1
theorem us_gv_some {UL : List (Nat × ud)} {k : Nat} {p : Nat × ud} (h : UL[k]? = some p) : us_gv UL k = p.2.1 := by
  unfold us_gv
  rw [h]
def hd_of (g : Int → Int) (UL : List (Nat × ud)) (k : Int) : Int := if 0 ≤ k ∧ k < (UL.length : Int) then rl_inc g (us_gv UL k.toNat) 8 0 0 else 0
abbrev sv_dc (x : sd) (op : Int) : Prop := 0 ≤ op ∧ op < 4 ∧ x.2.2.2.1 op = 1
def sv_cd (x : sd) (op : Int) : Int := if sv_dc x op then (if x.2.2.2.2 op ≠ -1 then x.2.2.2.2 op else x.2.2.1) else -1
def sl_at (SL : List (Nat × sd)) (t : Int) : Option (Nat × sd) := if 0 ≤ t then SL[t.toNat]? else none
theorem sl_at_some {SL : List (Nat × sd)} {t : Int} {p : Nat × sd} (ht : 0 ≤ t) (h : SL[t.toNat]? = some p) : sl_at SL t = some p := by
  unfold sl_at
  rw [if_pos ht]
  exact h
theorem sl_at_none {SL : List (Nat × sd)} {t : Int} (h : ¬ (0 ≤ t ∧ t < (SL.length : Int))) : sl_at SL t = none := by
  unfold sl_at
  by_cases ht : 0 ≤ t
  · rw [if_pos ht]
    exact List.getElem?_eq_none (by omega)
  · rw [if_neg ht]
theorem sl_at_mem {SL : List (Nat × sd)} {t : Int} {p : Nat × sd} (h : sl_at SL t = some p) : p ∈ SL ∧ 0 ≤ t ∧ t < (SL.length : Int) := by
  unfold sl_at at h
  by_cases ht : 0 ≤ t
  · rw [if_pos ht] at h
    have := (List.getElem?_eq_some_iff.mp h).1
    exact ⟨List.mem_of_getElem? h, ht, by omega⟩
  · rw [if_neg ht] at h
    cases h
def cd_at (SL : List (Nat × sd)) (t op : Int) : Int := match sl_at SL t with
  | none => -1
  | some p => sv_cd p.2 op
def ty_of (SL : List (Nat × sd)) (op : Int) : Nat → Int → Int
  | 0, _ => -1
  | k + 1, t => match sl_at SL t with
    | none => -1
    | some p => if sv_dc p.2 op then t else ty_of SL op k p.2.1
def cf_of (SL : List (Nat × sd)) (op : Int) : Nat → Int → Int
  | 0, _ => -1
  | k + 1, t => match sl_at SL t with
    | none => -1
    | some p => if cd_at SL p.2.2.1 op = -1 then cf_of SL op k p.2.1 else cd_at SL p.2.2.1 op
theorem sv_cd_rg {x : sd} {op : Int} (V : sv_V x) : -1 ≤ sv_cd x op ∧ sv_cd x op < 16 := by
  obtain ⟨-, -, v3, -, v5⟩ := V
  unfold sv_cd
  by_cases hc : sv_dc x op
  · rw [if_pos hc]
    have := v5 op hc.1 hc.2.1
    split <;> omega
  · rw [if_neg hc]; omega
theorem cd_at_rg {SL : List (Nat × sd)} {t op : Int} (V : ∀ p ∈ SL, sv_V p.2) : -1 ≤ cd_at SL t op ∧ cd_at SL t op < 16 := by
  unfold cd_at
  split
  · omega
  · rename_i p hp
    exact sv_cd_rg (V p (sl_at_mem hp).1)
theorem cf_of_rg {SL : List (Nat × sd)} {op : Int} (V : ∀ p ∈ SL, sv_V p.2) : ∀ (k : Nat) (t : Int), -1 ≤ cf_of SL op k t ∧ cf_of SL op k t < 16
  | 0, _ => by unfold cf_of; omega
  | k + 1, t => by
    unfold cf_of
    split
    · omega
    · rename_i p hp
      have := cf_of_rg (op := op) V k p.2.1
      have := cd_at_rg (t := p.2.2.1) (op := op) V
      split <;> omega
theorem ty_of_rg {SL : List (Nat × sd)} {op : Int} : ∀ (k : Nat) (t : Int), ty_of SL op k t = -1 ∨ (0 ≤ ty_of SL op k t ∧ ty_of SL op k t < (SL.length : Int))
  | 0, _ => by unfold ty_of; omega
  | k + 1, t => by
    unfold ty_of
    split
    · omega
    · rename_i p hp
      have := ty_of_rg (SL := SL) (op := op) k p.2.1
      have := (sl_at_mem hp).2
      split <;> omega
theorem gi_P.a15 {S : Nat → Int} {A : Nat → Int → Int} {RL : List (Nat × rd)} {UL : List (Nat × ud)} {SL : List (Nat × sd)} {T1 T2 : List (Nat × td)} {v : Int → Int} (P : gi_P S A RL UL SL T1 T2) (hv : ex_V v) : gi_P S (va_up A 15 v) RL UL SL T1 T2 := by
  obtain ⟨p1, p2, p3, p4, p5, p6, p7⟩ := P
  exact ⟨p1, p2, p3, hv, p5, p6, p7⟩
theorem kp.cl {b : Nat} {h : zz_H} {S : Nat → Int} {A : Nat → Int → Int} {E : Nat → Nat} : kp b h (cl_H b S A E h) := fun a _ _ hb => cl_o (Or.inr (by omega))
theorem kp.tr {b : Nat} {h1 h2 h3 : zz_H} (k : kp b h1 h2) (k' : kp b h2 h3) : kp b h1 h3 := fun a x ha hb => by
  have e := k a x ha hb
  rw [k' a x (e.trans ha) hb, e]
theorem tr_01 (o a b : Int → Int) (sz ask held arg c : Int) : tr_of o a b sz ask held arg c = 0 ∨ tr_of o a b sz ask held arg c = 1 := by
  unfold tr_of
  (repeat' split) <;> omega
theorem kp.rf {b : Nat} {h : zz_H} : kp b h h := fun _ _ _ _ => rfl
theorem gm_107 {X : zz_X} {d n : Nat} {h : zz_H} (hd : 5 ≤ d) {b : Nat} {S : Nat → Int} {A : Nat → Int → Int} {E : Nat → Nat} {RL : List (Nat × rd)} {UL : List (Nat × ud)} {SL : List (Nat × sd)} {T1 T2 : List (Nat × td)} (G : GI X b h S A E RL UL SL T1 T2) (hn : b + 64 ≤ n) {c ask arg : Int} (hc : -2147483648 ≤ c ∧ c < 2147483648) (hask : -1 ≤ ask ∧ ask ≤ 13) (harg : -2147483648 ≤ arg ∧ arg < 2147483648) : zz_Ct X mm_107 d 0 0 [.ref b, zv c, zv ask, zv arg] n h (fun r n' h' => n' = n ∧ r = some (zv (tr_of (A 12) (A 13) (A 14) (S 13) ask (hd_of (A 17) UL (if 8 ≤ ask then ask - 8 else ask)) arg c)) ∧ ∃ v', GI X b h' S (va_up A 15 v') E RL UL SL T1 T2 ∧ mf b h h' ∧ kp b h h') := by
  refine zz_start (by decide) (ls := [some (.ref b), some (zv c), some (zv ask), some (zv arg), none, none]) rfl ?_
  have hsz := G.sz
  have hlU := G.2.1.2.2.2.2.2.2.2.1.2.1
  have hz := G.2.1.2.2.1.1
  have hw := G.2.1.2.2.1.2
  have hv := G.2.1.2.2.2.1
  have key : ∀ (x4 hd' : Int), hd' = hd_of (A 17) UL (if 8 ≤ ask then ask - 8 else ask) → zz_Z X mm_107 d (fun r n' h' => n' = n ∧ r = some (zv (tr_of (A 12) (A 13) (A 14) (S 13) ask (hd_of (A 17) UL (if 8 ≤ ask then ask - 8 else ask)) arg c)) ∧ ∃ v', GI X b h' S (va_up A 15 v') E RL UL SL T1 T2 ∧ mf b h h' ∧ kp b h h') 0 0 53 [some (.ref b), some (zv c), some (zv ask), some (zv arg), some (zv x4), some (zv hd')] [] n h := by
    intro x4 hd' hhd
    rw [← hhd]
    refine zi_aload_n dk_107_53 rfl rfl ?_
    refine zi_getf dk_107_54 fl_0_33 (by first | exact G.1 0 (by decide) | exact G.1 _ (by decide)) rfl ?_
    refine zj_iload_n dk_107_57 rfl ?_
    refine zj_iload_n dk_107_58 rfl ?_
    refine zj_iload dk_107_59 rfl ?_
    refine zj_iload_n dk_107_61 rfl ?_
    refine zi_invV dk_107_62 ml_0_288 iv_109 (ct_109 (d := d - 1) (by omega) (G.1 11 (by decide)) (G.1 12 (by decide)) (G.1 13 (by decide)) (G.1 14 (by decide)) (G.1 15 (by decide)) hz hw hv hc (by omega) harg) (by first | exact G.1 0 (by decide) | exact G.1 _ (by decide)) rfl rfl rfl (Nat.le_of_ble_eq_true rfl) (by omega) rfl rfl (fun r n' h' hq => ?_)
    obtain ⟨rfl, ⟨hc1, rfl, e1⟩ | ⟨hc1, rfl, v', hv', e1⟩⟩ := hq
    · have e1 := e1.symm
      subst e1
      refine zj_zreturn dk_107_65 rfl (by omega) ⟨rfl, by unfold tr_of; rw [if_neg hc1], A 15, ?_, mf.rf _ _, kp.rf⟩
      rw [va_up_id]
      exact G
    · have e2 : h' = cl_H b S (va_up A 15 v') E h := by rw [e1, ← cl_a15, cl_id G.1]
      subst e2
      have G2 := G.st (G.2.1.a15 hv')
      refine zj_zreturn dk_107_65 rfl (by unfold bz; split <;> omega) ⟨rfl, ?_, v', G2.1, G2.2.1, kp.cl⟩
      unfold tr_of
      rw [if_pos hc1, ex_ext hw (c + 1).toNat 0 (A 15) (fun _ => 0) (by omega) (by omega) (fun j h1 h2 => by omega) c hc1.1 (by omega)]
      unfold bz
      by_cases hx : ex_run (A 12) (A 13) (A 14) ask hd' arg (c + 1).toNat 0 (fun _ => 0) c = 1
      · rw [decide_eq_true hx, if_pos hx]; rfl
      · rw [decide_eq_false hx, if_neg hx]; rfl
  have key2 : ∀ (x : Int), x = (if 8 ≤ ask then ask - 8 else ask) → zz_Z X mm_107 d (fun r n' h' => n' = n ∧ r = some (zv (tr_of (A 12) (A 13) (A 14) (S 13) ask (hd_of (A 17) UL (if 8 ≤ ask then ask - 8 else ask)) arg c)) ∧ ∃ v', GI X b h' S (va_up A 15 v') E RL UL SL T1 T2 ∧ mf b h h' ∧ kp b h h') 0 0 16 [some (.ref b), some (zv c), some (zv ask), some (zv arg), some (zv x), none] [] n h := by
    intro x hx
    have hxr : -1 ≤ x ∧ x ≤ 13 := by split at hx <;> omega
    refine zi_aload_n dk_107_16 rfl rfl ?_
    refine zj_iload dk_107_17 rfl ?_
    refine zi_invV dk_107_19 ml_0_141 iv_68 (G.cv (ct_68 (d := d - 1) (by omega) (by omega) (by omega))) (by first | exact G.1 0 (by decide) | exact G.1 _ (by decide)) rfl rfl rfl (Nat.le_of_ble_eq_true rfl) (by omega) rfl rfl (fun r n' h' hq => ?_)
    obtain ⟨rfl, e1, e2⟩ := hq
    rw [cl_id G.1] at e2
    have e1 := e1.symm
    have e2 := e2.symm
    subst e1
    subst e2
    refine zj_if_eq (t := 50) dk_107_22 rfl (by split <;> omega) (fun c22 => ?_) (fun c22 => ?_)
    · skip
      refine zj_iconst dk_107_50 ?_
      refine zj_istore dk_107_51 rfl ?_
      exact key _ _ (by rw [← hx]; unfold hd_of; rw [← hlU]; rw [if_neg (fun hh => by rw [if_pos hh] at c22; omega)])
    · skip
      have hxs : 0 ≤ x ∧ x < S 16 := by split at c22 <;> omega
      obtain ⟨p, m1, m2, m3, m4⟩ := G.us hxs
      refine zi_aload_n dk_107_25 rfl rfl ?_
      refine zi_getf dk_107_26 fl_0_40 (by first | exact G.1 0 (by decide) | exact G.1 _ (by decide)) rfl ?_
      refine zi_aload_n dk_107_29 rfl rfl ?_
      refine zi_getf dk_107_30 fl_0_51 (by first | exact G.1 0 (by decide) | exact G.1 _ (by decide)) rfl ?_
      refine zj_iload dk_107_33 rfl ?_
      refine zi_invV dk_107_35 ml_0_129 iv_57 (gt_get (d := d - 1) (by omega) (G.1 19 (by decide)) G.2.2.2.2.1.1 (by rw [List.length_map]; exact G.2.1.2.2.2.2.2.2.2.1.2.1) (by omega) m2) (by first | exact G.1 0 (by decide) | exact G.1 _ (by decide)) rfl rfl rfl (Nat.le_of_ble_eq_true rfl) (by omega) rfl rfl (fun r n' h' hq => ?_)
      obtain ⟨rfl, e1, e2⟩ := hq
      have e1 := e1.symm
      have e2 := e2.symm
      subst e1
      subst e2
      refine zi_castS dk_107_38 zw_404 m3 rfl ?_
      refine zi_getf dk_107_41 fl_0_282 m3 rfl ?_
      refine zi_invV dk_107_44 ml_0_285 iv_108 (ct_108 (d := d - 1) (by omega) (G.1 16 (by decide)) (G.1 17 (by decide))) (by first | exact G.1 0 (by decide) | exact G.1 _ (by decide)) rfl rfl rfl (Nat.le_of_ble_eq_true rfl) (by omega) rfl rfl (fun r n' h' hq => ?_)
      obtain ⟨rfl, e1, e2⟩ := hq
      have e1 := e1.symm
      have e2 := e2.symm
      subst e1
      subst e2
      refine zi_goto (t := 51) dk_107_47 rfl ?_
      refine zj_istore dk_107_51 rfl ?_
      exact key _ _ (by rw [← hx]; unfold hd_of; rw [← hlU]; rw [if_pos hxs, us_gv_some m1])
  refine zj_iload_n dk_107_0 rfl ?_
  refine zj_bipush dk_107_1 (by decide) ?_
  refine zj_icmp_lt (t := 13) dk_107_3 rfl (by omega) (fun c3 => ?_) (fun c3 => ?_)
  · skip
    refine zj_iload_n dk_107_13 rfl ?_
    refine zj_istore dk_107_14 rfl ?_
    exact key2 _ (by first | rw [if_pos (by omega)] | rw [if_neg (by omega)])
  · skip
    refine zj_iload_n dk_107_6 rfl ?_
    refine zj_bipush dk_107_7 (by decide) ?_
    refine zj_isub dk_107_9 ?_
    refine zi_goto (t := 14) dk_107_10 rfl ?_
    refine zj_istore dk_107_14 rfl ?_
    exact key2 _ (by first | rw [if_pos (by omega)] | rw [if_neg (by omega)])

theorem gm_116 {X : zz_X} {d n : Nat} {h : zz_H} (hd : 4 ≤ d) {b : Nat} {S : Nat → Int} {A : Nat → Int → Int} {E : Nat → Nat} {RL : List (Nat × rd)} {UL : List (Nat × ud)} {SL : List (Nat × sd)} {T1 T2 : List (Nat × td)} (G : GI X b h S A E RL UL SL T1 T2) (hn : b + 64 ≤ n) {t op : Int} (ht : -2147483648 ≤ t ∧ t < 2147483648) (hop : -2147483648 ≤ op ∧ op < 2147483648) : zz_Ct X mm_116 d 0 0 [.ref b, zv t, zv op] n h (zp (some (zv (cd_at SL t op))) n h) := by
  refine zz_start (by decide) (ls := [some (.ref b), some (zv t), some (zv op)]) rfl ?_
  have hsz := G.sz
  have hlS := G.2.1.2.2.2.2.2.2.2.1.2.2.1
  refine zi_aload_n dk_116_0 rfl rfl ?_
  refine zj_iload_n dk_116_1 rfl ?_
  refine zi_invV dk_116_2 ml_0_123 iv_53 (G.cv (ct_53 (d := d - 1) (by omega) (by omega) ht)) (by first | exact G.1 0 (by decide) | exact G.1 _ (by decide)) rfl rfl rfl (Nat.le_of_ble_eq_true rfl) (by omega) rfl rfl (fun r n' h' hq => ?_)
  obtain ⟨rfl, e1, e2⟩ := hq
  rw [cl_id G.1] at e2
  have e1 := e1.symm
  have e2 := e2.symm
  subst e1
  subst e2
  refine zj_if_eq (t := 26) dk_116_5 rfl (by split <;> omega) (fun c5 => ?_) (fun c5 => ?_)
  · skip
    refine zj_iconst dk_116_26 ?_
    refine zj_ireturn dk_116_27 rfl ⟨by unfold cd_at; rw [sl_at_none (fun hh => by rw [if_pos (by omega)] at c5; omega)], rfl, rfl⟩
  · skip
    have hts : 0 ≤ t ∧ t < S 18 := by split at c5 <;> omega
    obtain ⟨p, m1, m2, m3, m4⟩ := G.sv hts
    refine zi_aload_n dk_116_8 rfl rfl ?_
    refine zi_getf dk_116_9 fl_0_54 (by first | exact G.1 0 (by decide) | exact G.1 _ (by decide)) rfl ?_
    refine zj_iload_n dk_116_12 rfl ?_
    refine zi_invV dk_116_13 ml_0_129 iv_57 (gt_get (d := d - 1) (by omega) (G.1 20 (by decide)) G.2.2.2.2.2.1.1 (by rw [List.length_map]; exact G.2.1.2.2.2.2.2.2.2.1.2.2.1) (by omega) m2) (by first | exact G.1 0 (by decide) | exact G.1 _ (by decide)) rfl rfl rfl (Nat.le_of_ble_eq_true rfl) (by omega) rfl rfl (fun r n' h' hq => ?_)
    obtain ⟨rfl, e1, e2⟩ := hq
    have e1 := e1.symm
    have e2 := e2.symm
    subst e1
    subst e2
    refine zi_castS dk_116_16 zw_454 m3.1 rfl ?_
    refine zj_iload_n dk_116_19 rfl ?_
    refine zi_invV dk_116_20 ml_0_301 iv_117 (ct_117 (d := d - 1) (by omega) m3.1 m3.2.1 m3.2.2 m4.2.2.2.1 hop m4.2.2.2.2) m3.1 rfl rfl rfl (Nat.le_of_ble_eq_true rfl) (by omega) rfl rfl (fun r n' h' hq => ?_)
    obtain ⟨rfl, e1, e2⟩ := hq
    have e1 := e1.symm
    have e2 := e2.symm
    subst e1
    subst e2
    refine zi_goto (t := 27) dk_116_23 rfl ?_
    refine zj_ireturn dk_116_27 rfl ⟨by unfold cd_at; rw [sl_at_some hts.1 m1]; rfl, rfl, rfl⟩

theorem lp_114 {X : zz_X} {d n : Nat} {h : zz_H} (hd : 5 ≤ d) {b : Nat} {S : Nat → Int} {A : Nat → Int → Int} {E : Nat → Nat} {RL : List (Nat × rd)} {UL : List (Nat × ud)} {SL : List (Nat × sd)} {T1 T2 : List (Nat × td)} (G : GI X b h S A E RL UL SL T1 T2) (hn : b + 64 ≤ n) {ty op : Int} (hop : -2147483648 ≤ op ∧ op < 2147483648) {Q : Option Value → Nat → zz_H → Prop} : ∀ (k : Nat) (t i : Int) (x5 : Option Value), i + k = 6 → 0 ≤ i → -2147483648 ≤ t ∧ t < 2147483648 → Q (some (zv (ty_of SL op k t))) n h →
    zz_Z X mm_114 d Q 0 0 5 [some (.ref b), some (zv ty), some (zv op), some (zv t), some (zv i), x5] [] n h := by
  have hsz := G.sz
  have hlS := G.2.1.2.2.2.2.2.2.2.1.2.2.1
  intro k
  induction k with
  | zero =>
    intro t i x5 hk hi ht hQ
    unfold ty_of at hQ
    refine zj_iload dk_114_5 rfl ?_
    refine zj_bipush dk_114_7 (by decide) ?_
    refine zj_icmp_ge (t := 56) dk_114_9 rfl (by omega) (fun c9 => ?_) (fun c9 => ?_)
    · skip
      refine zj_iconst dk_114_56 ?_
      refine zj_ireturn dk_114_57 rfl hQ
    · omega
  | succ k ih =>
    intro t i x5 hk hi ht0 hQ
    have ht := ht0
    unfold ty_of at hQ
    refine zj_iload dk_114_5 rfl ?_
    refine zj_bipush dk_114_7 (by decide) ?_
    refine zj_icmp_ge (t := 56) dk_114_9 rfl (by omega) (fun c9 => ?_) (fun c9 => ?_)
    · omega
    · skip
      refine zi_aload_n dk_114_12 rfl rfl ?_
      refine zj_iload_n dk_114_13 rfl ?_
      refine zi_invV dk_114_14 ml_0_123 iv_53 (G.cv (ct_53 (d := d - 1) (by omega) (by omega) ht)) (by first | exact G.1 0 (by decide) | exact G.1 _ (by decide)) rfl rfl rfl (Nat.le_of_ble_eq_true rfl) (by omega) rfl rfl (fun r n' h' hq => ?_)
      obtain ⟨rfl, e1, e2⟩ := hq
      rw [cl_id G.1] at e2
      have e1 := e1.symm
      have e2 := e2.symm
      subst e1
      subst e2
      refine zj_if_eq (t := 56) dk_114_17 rfl (by split <;> omega) (fun c17 => ?_) (fun c17 => ?_)
      · skip
        refine zj_iconst dk_114_56 ?_
        refine zj_ireturn dk_114_57 rfl (by rw [sl_at_none (fun hh => by rw [if_pos (by omega)] at c17; omega)] at hQ; exact hQ)
      · skip
        have hts : 0 ≤ t ∧ t < S 18 := by split at c17 <;> omega
        obtain ⟨p, m1, m2, m3, m4⟩ := G.sv hts
        rw [sl_at_some hts.1 m1] at hQ
        dsimp only at hQ
        refine zi_aload_n dk_114_20 rfl rfl ?_
        refine zi_getf dk_114_21 fl_0_54 (by first | exact G.1 0 (by decide) | exact G.1 _ (by decide)) rfl ?_
        refine zj_iload_n dk_114_24 rfl ?_
        refine zi_invV dk_114_25 ml_0_129 iv_57 (gt_get (d := d - 1) (by omega) (G.1 20 (by decide)) G.2.2.2.2.2.1.1 (by rw [List.length_map]; exact G.2.1.2.2.2.2.2.2.2.1.2.2.1) (by omega) m2) (by first | exact G.1 0 (by decide) | exact G.1 _ (by decide)) rfl rfl rfl (Nat.le_of_ble_eq_true rfl) (by omega) rfl rfl (fun r n' h' hq => ?_)
        obtain ⟨rfl, e1, e2⟩ := hq
        have e1 := e1.symm
        have e2 := e2.symm
        subst e1
        subst e2
        refine zi_castS dk_114_28 zw_454 m3.1 rfl ?_
        refine zi_astore dk_114_31 rfl rfl ?_
        refine zi_aload dk_114_33 rfl rfl ?_
        refine zj_iload_n dk_114_35 rfl ?_
        refine zi_invV dk_114_36 ml_0_292 iv_115 (ct_115 (d := d - 1) (by omega) m3.1 m3.2.1 m3.2.2 m4.2.2.2.1 hop) m3.1 rfl rfl rfl (Nat.le_of_ble_eq_true rfl) (by omega) rfl rfl (fun r n' h' hq => ?_)
        obtain ⟨rfl, e1, e2⟩ := hq
        have e1 := e1.symm
        have e2 := e2.symm
        subst e1
        subst e2
        refine zj_if_eq (t := 44) dk_114_39 rfl (by split <;> omega) (fun c39 => ?_) (fun c39 => ?_)
        · skip
          refine zi_aload dk_114_44 rfl rfl ?_
          refine zi_getf dk_114_46 fl_0_295 m3.1 rfl ?_
          refine zj_istore_n dk_114_49 rfl ?_
          refine zj_iinc dk_114_50 rfl rfl ?_
          refine zi_goto (t := 5) dk_114_53 rfl ?_
          exact ih _ _ _ (by omega) (by omega) (by have := m4.1; omega) (by rw [if_neg (show ¬ sv_dc p.2 op from fun hh => by unfold sv_dc at hh; rw [if_pos hh] at c39; omega)] at hQ; exact hQ)
        · skip
          refine zj_iload_n dk_114_42 rfl ?_
          refine zj_ireturn dk_114_43 rfl (by rw [if_pos (show sv_dc p.2 op from by unfold sv_dc; split at c39 <;> first | assumption | omega)] at hQ; exact hQ)

theorem gm_114 {X : zz_X} {d n : Nat} {h : zz_H} (hd : 5 ≤ d) {b : Nat} {S : Nat → Int} {A : Nat → Int → Int} {E : Nat → Nat} {RL : List (Nat × rd)} {UL : List (Nat × ud)} {SL : List (Nat × sd)} {T1 T2 : List (Nat × td)} (G : GI X b h S A E RL UL SL T1 T2) (hn : b + 64 ≤ n) {t op : Int} (ht : -2147483648 ≤ t ∧ t < 2147483648) (hop : -2147483648 ≤ op ∧ op < 2147483648) : zz_Ct X mm_114 d 0 0 [.ref b, zv t, zv op] n h (zp (some (zv (ty_of SL op 6 t))) n h) := by
  refine zz_start (by decide) (ls := [some (.ref b), some (zv t), some (zv op), none, none, none]) rfl ?_
  refine zj_iload_n dk_114_0 rfl ?_
  refine zj_istore_n dk_114_1 rfl ?_
  refine zj_iconst dk_114_2 ?_
  refine zj_istore dk_114_3 rfl ?_
  exact lp_114 hd G hn hop 6 t 0 _ (by omega) (by omega) ht ⟨rfl, rfl, rfl⟩

theorem lp_118 {X : zz_X} {d n : Nat} {h : zz_H} (hd : 5 ≤ d) {b : Nat} {S : Nat → Int} {A : Nat → Int → Int} {E : Nat → Nat} {RL : List (Nat × rd)} {UL : List (Nat × ud)} {SL : List (Nat × sd)} {T1 T2 : List (Nat × td)} (G : GI X b h S A E RL UL SL T1 T2) (hn : b + 64 ≤ n) {ty op : Int} (hop : -2147483648 ≤ op ∧ op < 2147483648) {Q : Option Value → Nat → zz_H → Prop} : ∀ (k : Nat) (t i : Int) (x5 x6 : Option Value), i + k = 6 → 0 ≤ i → -2147483648 ≤ t ∧ t < 2147483648 → Q (some (zv (cf_of SL op k t))) n h →
    zz_Z X mm_118 d Q 0 0 5 [some (.ref b), some (zv ty), some (zv op), some (zv t), some (zv i), x5, x6] [] n h := by
  have hsz := G.sz
  have hlS := G.2.1.2.2.2.2.2.2.2.1.2.2.1
  intro k
  induction k with
  | zero =>
    intro t i x5 x6 hk hi ht hQ
    unfold cf_of at hQ
    refine zj_iload dk_118_5 rfl ?_
    refine zj_bipush dk_118_7 (by decide) ?_
    refine zj_icmp_ge (t := 66) dk_118_9 rfl (by omega) (fun c9 => ?_) (fun c9 => ?_)
    · skip
      refine zj_iconst dk_118_66 ?_
      refine zj_ireturn dk_118_67 rfl hQ
    · omega
  | succ k ih =>
    intro t i x5 x6 hk hi ht0 hQ
    have ht := ht0
    unfold cf_of at hQ
    refine zj_iload dk_118_5 rfl ?_
    refine zj_bipush dk_118_7 (by decide) ?_
    refine zj_icmp_ge (t := 66) dk_118_9 rfl (by omega) (fun c9 => ?_) (fun c9 => ?_)
    · omega
    · skip
      refine zi_aload_n dk_118_12 rfl rfl ?_
      refine zj_iload_n dk_118_13 rfl ?_
      refine zi_invV dk_118_14 ml_0_123 iv_53 (G.cv (ct_53 (d := d - 1) (by omega) (by omega) ht)) (by first | exact G.1 0 (by decide) | exact G.1 _ (by decide)) rfl rfl rfl (Nat.le_of_ble_eq_true rfl) (by omega) rfl rfl (fun r n' h' hq => ?_)
      obtain ⟨rfl, e1, e2⟩ := hq
      rw [cl_id G.1] at e2
      have e1 := e1.symm
      have e2 := e2.symm
      subst e1
      subst e2
      refine zj_if_eq (t := 66) dk_118_17 rfl (by split <;> omega) (fun c17 => ?_) (fun c17 => ?_)
      · skip
        refine zj_iconst dk_118_66 ?_
        refine zj_ireturn dk_118_67 rfl (by rw [sl_at_none (fun hh => by rw [if_pos (by omega)] at c17; omega)] at hQ; exact hQ)
      · skip
        have hts : 0 ≤ t ∧ t < S 18 := by split at c17 <;> omega
        obtain ⟨p, m1, m2, m3, m4⟩ := G.sv hts
        rw [sl_at_some hts.1 m1] at hQ
        dsimp only at hQ
        refine zi_aload_n dk_118_20 rfl rfl ?_
        refine zi_getf dk_118_21 fl_0_54 (by first | exact G.1 0 (by decide) | exact G.1 _ (by decide)) rfl ?_
        refine zj_iload_n dk_118_24 rfl ?_
        refine zi_invV dk_118_25 ml_0_129 iv_57 (gt_get (d := d - 1) (by omega) (G.1 20 (by decide)) G.2.2.2.2.2.1.1 (by rw [List.length_map]; exact G.2.1.2.2.2.2.2.2.2.1.2.2.1) (by omega) m2) (by first | exact G.1 0 (by decide) | exact G.1 _ (by decide)) rfl rfl rfl (Nat.le_of_ble_eq_true rfl) (by omega) rfl rfl (fun r n' h' hq => ?_)
        obtain ⟨rfl, e1, e2⟩ := hq
        have e1 := e1.symm
        have e2 := e2.symm
        subst e1
        subst e2
        refine zi_castS dk_118_28 zw_454 m3.1 rfl ?_
        refine zi_astore dk_118_31 rfl rfl ?_
        refine zi_aload_n dk_118_33 rfl rfl ?_
        refine zi_aload dk_118_34 rfl rfl ?_
        refine zi_getf dk_118_36 fl_0_298 m3.1 rfl ?_
        refine zj_iload_n dk_118_39 rfl ?_
        refine zi_invV dk_118_40 ml_0_210 iv_116 (gm_116 (d := d - 1) (by omega) G hn (by have := m4.2.1; omega) hop) (by first | exact G.1 0 (by decide) | exact G.1 _ (by decide)) rfl rfl rfl (Nat.le_of_ble_eq_true rfl) (by omega) rfl rfl (fun r n' h' hq => ?_)
        obtain ⟨rfl, e1, e2⟩ := hq
        have e1 := e1.symm
        have e2 := e2.symm
        subst e1
        subst e2
        have hcr := cd_at_rg (t := p.2.2.1) (op := op) (fun q hq => (G.2.2.2.2.2.1.2 q hq).2)
        refine zj_istore dk_118_43 rfl ?_
        refine zj_iload dk_118_45 rfl ?_
        refine zj_iconst dk_118_47 ?_
        refine zj_icmp_eq (t := 54) dk_118_48 rfl (by omega) (fun c48 => ?_) (fun c48 => ?_)
        · skip
          refine zi_aload dk_118_54 rfl rfl ?_
          refine zi_getf dk_118_56 fl_0_295 m3.1 rfl ?_
          refine zj_istore_n dk_118_59 rfl ?_
          refine zj_iinc dk_118_60 rfl rfl ?_
          refine zi_goto (t := 5) dk_118_63 rfl ?_
          exact ih _ _ _ _ (by omega) (by omega) (by have := m4.1; omega) (by rw [if_pos c48] at hQ; exact hQ)
        · skip
          refine zj_iload dk_118_51 rfl ?_
          refine zj_ireturn dk_118_53 rfl (by rw [if_neg c48] at hQ; exact hQ)

theorem gm_118 {X : zz_X} {d n : Nat} {h : zz_H} (hd : 5 ≤ d) {b : Nat} {S : Nat → Int} {A : Nat → Int → Int} {E : Nat → Nat} {RL : List (Nat × rd)} {UL : List (Nat × ud)} {SL : List (Nat × sd)} {T1 T2 : List (Nat × td)} (G : GI X b h S A E RL UL SL T1 T2) (hn : b + 64 ≤ n) {t op : Int} (ht : -2147483648 ≤ t ∧ t < 2147483648) (hop : -2147483648 ≤ op ∧ op < 2147483648) : zz_Ct X mm_118 d 0 0 [.ref b, zv t, zv op] n h (zp (some (zv (cf_of SL op 6 t))) n h) := by
  refine zz_start (by decide) (ls := [some (.ref b), some (zv t), some (zv op), none, none, none, none]) rfl ?_
  refine zj_iload_n dk_118_0 rfl ?_
  refine zj_istore_n dk_118_1 rfl ?_
  refine zj_iconst dk_118_2 ?_
  refine zj_istore dk_118_3 rfl ?_
  exact lp_118 hd G hn hop 6 t 0 _ _ (by omega) (by omega) ht ⟨rfl, rfl, rfl⟩

def gd_of (SL : List (Nat × sd)) (t op : Int) : Int := if cd_at SL (ty_of SL op 6 t) op = -1 then cf_of SL op 6 t else cd_at SL (ty_of SL op 6 t) op
theorem gm_113 {X : zz_X} {d n : Nat} {h : zz_H} (hd : 6 ≤ d) {b : Nat} {S : Nat → Int} {A : Nat → Int → Int} {E : Nat → Nat} {RL : List (Nat × rd)} {UL : List (Nat × ud)} {SL : List (Nat × sd)} {T1 T2 : List (Nat × td)} (G : GI X b h S A E RL UL SL T1 T2) (hn : b + 64 ≤ n) {t op x : Int} (ht : -2147483648 ≤ t ∧ t < 2147483648) (hop : -2147483648 ≤ op ∧ op < 2147483648) (hx : -2147483648 ≤ x ∧ x < 2147483648) : zz_Ct X mm_113 d 0 0 [.ref b, zv t, zv op, zv x] n h (fun r n' h' => n' = n ∧ ((¬ ((0 ≤ op ∧ op < 4) ∧ ty_of SL op 6 t ≠ -1) ∧ r = some (zv (-1)) ∧ h' = h) ∨ (((0 ≤ op ∧ op < 4) ∧ ty_of SL op 6 t ≠ -1) ∧ (gd_of SL t op = -1 ∨ tr_of (A 12) (A 13) (A 14) (S 13) (S 0) (hd_of (A 17) UL (if 8 ≤ S 0 then S 0 - 8 else S 0)) x (gd_of SL t op) = 1) ∧ r = some (zv 1) ∧ ∃ v', GI X b h' (va_up S 5 (S 5 + 1)) (va_up A 15 v') E RL UL SL T1 T2 ∧ mf b h h') ∨ (((0 ≤ op ∧ op < 4) ∧ ty_of SL op 6 t ≠ -1) ∧ ¬ (gd_of SL t op = -1 ∨ tr_of (A 12) (A 13) (A 14) (S 13) (S 0) (hd_of (A 17) UL (if 8 ≤ S 0 then S 0 - 8 else S 0)) x (gd_of SL t op) = 1) ∧ r = some (zv 0) ∧ ∃ v', GI X b h' (va_up S 6 (S 6 + 1)) (va_up A 15 v') E RL UL SL T1 T2 ∧ mf b h h'))) := by
  refine zz_start (by decide) (ls := [some (.ref b), some (zv t), some (zv op), some (zv x), none, none]) rfl ?_
  have hsz := G.sz
  have hlS := G.2.1.2.2.2.2.2.2.2.1.2.2.1
  have V : ∀ p ∈ SL, sv_V p.2 := fun q hq => (G.2.2.2.2.2.1.2 q hq).2
  have hs0 := G.2.1.2.2.2.2.2.2.1.2.1
  have htr := ty_of_rg (SL := SL) (op := op) 6 t
  have hcr := cd_at_rg (t := ty_of SL op 6 t) (op := op) V
  have hfr := cf_of_rg (op := op) V 6 t
  have key : ((0 ≤ op ∧ op < 4) ∧ ty_of SL op 6 t ≠ -1) → ∀ g, g = gd_of SL t op → (-1 ≤ g ∧ g < 16) → zz_Z X mm_113 d (fun r n' h' => n' = n ∧ ((¬ ((0 ≤ op ∧ op < 4) ∧ ty_of SL op 6 t ≠ -1) ∧ r = some (zv (-1)) ∧ h' = h) ∨ (((0 ≤ op ∧ op < 4) ∧ ty_of SL op 6 t ≠ -1) ∧ (gd_of SL t op = -1 ∨ tr_of (A 12) (A 13) (A 14) (S 13) (S 0) (hd_of (A 17) UL (if 8 ≤ S 0 then S 0 - 8 else S 0)) x (gd_of SL t op) = 1) ∧ r = some (zv 1) ∧ ∃ v', GI X b h' (va_up S 5 (S 5 + 1)) (va_up A 15 v') E RL UL SL T1 T2 ∧ mf b h h') ∨ (((0 ≤ op ∧ op < 4) ∧ ty_of SL op 6 t ≠ -1) ∧ ¬ (gd_of SL t op = -1 ∨ tr_of (A 12) (A 13) (A 14) (S 13) (S 0) (hd_of (A 17) UL (if 8 ≤ S 0 then S 0 - 8 else S 0)) x (gd_of SL t op) = 1) ∧ r = some (zv 0) ∧ ∃ v', GI X b h' (va_up S 6 (S 6 + 1)) (va_up A 15 v') E RL UL SL T1 T2 ∧ mf b h h'))) 0 0 48 [some (.ref b), some (zv t), some (zv op), some (zv x), some (zv (ty_of SL op 6 t)), some (zv g)] [] n h := by
    intro hok g hg hgr
    rw [← hg]
    refine zj_iload dk_113_48 rfl ?_
    refine zj_iconst dk_113_50 ?_
    refine zj_icmp_eq (t := 68) dk_113_51 rfl (by omega) (fun c51 => ?_) (fun c51 => ?_)
    · skip
      refine zi_aload_n dk_113_68 rfl rfl ?_
      refine zi_dup dk_113_69 rfl ?_
      refine zi_getf dk_113_70 fl_0_220 (by first | exact G.1 0 (by decide) | exact G.1 _ (by decide)) rfl ?_
      refine zj_iconst dk_113_73 ?_
      refine zj_iadd dk_113_74 ?_
      have G2 := G.g5 (x := S 5 + 1) (G.2.1.s48 (by decide))
      refine zj_putI dk_113_75 fp_113_220 (by first | exact G.1 0 (by decide) | exact G.1 _ (by decide)) rfl ?_
      refine zj_iconst dk_113_78 ?_
      refine zj_ireturn dk_113_79 rfl ⟨rfl, Or.inr (Or.inl ⟨hok, Or.inl c51, rfl, A 15, by rw [va_up_id]; exact G2.1, G2.2.1⟩)⟩
    · skip
      refine zi_aload_n dk_113_54 rfl rfl ?_
      refine zj_iload dk_113_55 rfl ?_
      refine zi_aload_n dk_113_57 rfl rfl ?_
      refine zi_getf dk_113_58 fl_0_67 (by first | exact G.1 0 (by decide) | exact G.1 _ (by decide)) rfl ?_
      refine zj_iload_n dk_113_61 rfl ?_
      refine zi_invV dk_113_62 ml_0_216 iv_107 (gm_107 (d := d - 1) (by omega) G hn (by omega) hs0 hx) (by first | exact G.1 0 (by decide) | exact G.1 _ (by decide)) rfl rfl rfl (Nat.le_of_ble_eq_true rfl) (by omega) rfl rfl (fun r n' h' hq => ?_)
      obtain ⟨rfl, rfl, v', G, hm, hk⟩ := hq
      refine zj_if_eq (t := 80) dk_113_65 rfl (by have := tr_01 (A 12) (A 13) (A 14) (S 13) (S 0) (hd_of (A 17) UL (if 8 ≤ S 0 then S 0 - 8 else S 0)) x g; omega) (fun c65 => ?_) (fun c65 => ?_)
      · skip
        refine zi_aload_n dk_113_80 rfl rfl ?_
        refine zi_dup dk_113_81 rfl ?_
        refine zi_getf dk_113_82 fl_0_223 (by first | exact G.1 0 (by decide) | exact G.1 _ (by decide)) rfl ?_
        refine zj_iconst dk_113_85 ?_
        refine zj_iadd dk_113_86 ?_
        have G2 := G.g6 (x := S 6 + 1) (G.2.1.s48 (by decide))
        refine zj_putI dk_113_87 fp_113_223 (by first | exact G.1 0 (by decide) | exact G.1 _ (by decide)) rfl ?_
        refine zj_iconst dk_113_90 ?_
        refine zj_ireturn dk_113_91 rfl ⟨rfl, Or.inr (Or.inr ⟨hok, fun hh => by rcases hh with hh | hh; exact c51 hh; rw [hh] at c65; omega, rfl, v', G2.1, hm.tr G2.2.1⟩)⟩
      · skip
        refine zi_aload_n dk_113_68 rfl rfl ?_
        refine zi_dup dk_113_69 rfl ?_
        refine zi_getf dk_113_70 fl_0_220 (by first | exact G.1 0 (by decide) | exact G.1 _ (by decide)) rfl ?_
        refine zj_iconst dk_113_73 ?_
        refine zj_iadd dk_113_74 ?_
        have G2 := G.g5 (x := S 5 + 1) (G.2.1.s48 (by decide))
        refine zj_putI dk_113_75 fp_113_220 (by first | exact G.1 0 (by decide) | exact G.1 _ (by decide)) rfl ?_
        refine zj_iconst dk_113_78 ?_
        refine zj_ireturn dk_113_79 rfl ⟨rfl, Or.inr (Or.inl ⟨hok, Or.inr (by rcases tr_01 (A 12) (A 13) (A 14) (S 13) (S 0) (hd_of (A 17) UL (if 8 ≤ S 0 then S 0 - 8 else S 0)) x g with hh | hh; exact absurd hh c65; exact hh), rfl, v', G2.1, hm.tr G2.2.1⟩)⟩
  refine zj_iload_n dk_113_0 rfl ?_
  refine zi_invS dk_113_1 ml_0_126 is_56 (ct_56 (d := d - 1) hop) rfl rfl (Nat.le_of_ble_eq_true rfl) (by omega) rfl rfl (fun r n' h' hq => ?_)
  obtain ⟨rfl, e1, e2⟩ := hq
  have e1 := e1.symm
  have e2 := e2.symm
  subst e1
  subst e2
  refine zj_if_ne (t := 9) dk_113_4 rfl (by split <;> omega) (fun c4 => ?_) (fun c4 => ?_)
  · skip
    refine zi_aload_n dk_113_9 rfl rfl ?_
    refine zj_iload_n dk_113_10 rfl ?_
    refine zj_iload_n dk_113_11 rfl ?_
    refine zi_invV dk_113_12 ml_0_207 iv_114 (gm_114 (d := d - 1) (by omega) G hn ht hop) (by first | exact G.1 0 (by decide) | exact G.1 _ (by decide)) rfl rfl rfl (Nat.le_of_ble_eq_true rfl) (by omega) rfl rfl (fun r n' h' hq => ?_)
    obtain ⟨rfl, e1, e2⟩ := hq
    have e1 := e1.symm
    have e2 := e2.symm
    subst e1
    subst e2
    refine zj_istore dk_113_15 rfl ?_
    refine zj_iload dk_113_17 rfl ?_
    refine zj_iconst dk_113_19 ?_
    refine zj_icmp_ne (t := 25) dk_113_20 rfl (by omega) (fun c20 => ?_) (fun c20 => ?_)
    · skip
      refine zi_aload_n dk_113_25 rfl rfl ?_
      refine zj_iload dk_113_26 rfl ?_
      refine zj_iload_n dk_113_28 rfl ?_
      refine zi_invV dk_113_29 ml_0_210 iv_116 (gm_116 (d := d - 1) (by omega) G hn (by omega) hop) (by first | exact G.1 0 (by decide) | exact G.1 _ (by decide)) rfl rfl rfl (Nat.le_of_ble_eq_true rfl) (by omega) rfl rfl (fun r n' h' hq => ?_)
      obtain ⟨rfl, e1, e2⟩ := hq
      have e1 := e1.symm
      have e2 := e2.symm
      subst e1
      subst e2
      refine zj_istore dk_113_32 rfl ?_
      refine zj_iload dk_113_34 rfl ?_
      refine zj_iconst dk_113_36 ?_
      refine zj_icmp_ne (t := 48) dk_113_37 rfl (by omega) (fun c37 => ?_) (fun c37 => ?_)
      · skip
        exact key ⟨by split at c4 <;> omega, by omega⟩ _ (by unfold gd_of; first | rw [if_pos (by omega)] | rw [if_neg (by omega)]) (by omega)
      · skip
        refine zi_aload_n dk_113_40 rfl rfl ?_
        refine zj_iload_n dk_113_41 rfl ?_
        refine zj_iload_n dk_113_42 rfl ?_
        refine zi_invV dk_113_43 ml_0_213 iv_118 (gm_118 (d := d - 1) (by omega) G hn ht hop) (by first | exact G.1 0 (by decide) | exact G.1 _ (by decide)) rfl rfl rfl (Nat.le_of_ble_eq_true rfl) (by omega) rfl rfl (fun r n' h' hq => ?_)
        obtain ⟨rfl, e1, e2⟩ := hq
        have e1 := e1.symm
        have e2 := e2.symm
        subst e1
        subst e2
        refine zj_istore dk_113_46 rfl ?_
        exact key ⟨by split at c4 <;> omega, by omega⟩ _ (by unfold gd_of; first | rw [if_pos (by omega)] | rw [if_neg (by omega)]) (by omega)
    · skip
      refine zj_iconst dk_113_23 ?_
      refine zj_ireturn dk_113_24 rfl ⟨rfl, Or.inl ⟨fun hh => hh.2 (by omega), rfl, rfl⟩⟩
  · skip
    refine zj_iconst dk_113_7 ?_
    refine zj_ireturn dk_113_8 rfl ⟨rfl, Or.inl ⟨fun hh => by rw [if_pos hh.1] at c4; omega, rfl, rfl⟩⟩

