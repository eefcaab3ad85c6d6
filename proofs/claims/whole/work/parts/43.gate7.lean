/-! what stays in the gate's own cells; reading, laying, deciding -/
section GQ
variable {X : zz_X} {b n d : Nat} {h : zz_H} {S : Nat → Int} {A : Nat → Int → Int} {E : Nat → Nat} {RL : List (Nat × rd)} {UL : List (Nat × ud)} {SL : List (Nat × sd)} {T1 T2 : List (Nat × td)}
theorem gm_12 (hd : 2 ≤ d) (G : GI X b h S A E RL UL SL T1 T2) {c : Int} (hc : -2147483648 ≤ c ∧ c < 2147483648) : zz_Ct X mm_12 d 0 0 [.ref b, zv c] n h (fun r n' h' => n' = n ∧ (((33 ≤ c ∧ c ≤ 126 ∧ S 9 < 40) ∧ r = some (zv 1) ∧ GI X b h' (va_up S 9 (S 9 + 1)) (va_up A 2 (zU (A 2) (S 9) c)) E RL UL SL T1 T2 ∧ mf b h h') ∨ (¬ (33 ≤ c ∧ c ≤ 126 ∧ S 9 < 40) ∧ r = some (zv 0) ∧ h' = h))) := by
  refine (G.cv (ct_12 hd G.2.1.1 G.tx hc)).post ?_
  rintro r n' h' ⟨h1, ⟨h2, h3, rfl⟩ | ⟨h2, h3, h4⟩⟩
  · have G2 := G.st (G.2.1.ty ⟨h2.1, h2.2.1⟩ h2.2.2)
    exact ⟨h1, Or.inl ⟨h2, h3, G2.1, G2.2.1⟩⟩
  · exact ⟨h1, Or.inr ⟨h2, h3, h4.trans (cl_id G.1)⟩⟩
theorem gm_15 (hd : 1 ≤ d) (G : GI X b h S A E RL UL SL T1 T2)  : zz_Ct X mm_15 d 0 0 [.ref b] n h (fun r n' h' => n' = n ∧ r = none ∧ GI X b h' (va_up S 9 0) A E RL UL SL T1 T2 ∧ mf b h h') := by
  refine (G.cv (ct_15 hd G.2.1.1 G.tx)).post ?_
  rintro r n' h' ⟨h1, h2, rfl⟩
  have G2 := G.st G.2.1.s9
  exact ⟨h2, h1, G2.1, G2.2.1⟩
theorem gm_17 (hd : 3 ≤ d) (G : GI X b h S A E RL UL SL T1 T2) {op x y : Int} (hop : -2147483648 ≤ op ∧ op < 2147483648) (hx : -2147483648 ≤ x ∧ x < 2147483648) (hy : -2147483648 ≤ y ∧ y < 2147483648) : zz_Ct X mm_17 d 0 0 [.ref b, zv op, zv x, zv y] n h (fun r n' h' => n' = n ∧ (((S 13 < 16 ∧ (0 ≤ op ∧ op ≤ 9) ∧ ex_ct op x y (S 13) = 1) ∧ r = some (zv (S 13)) ∧ GI X b h' (va_up S 13 (S 13 + 1)) (va_up (va_up (va_up A 12 (zU (A 12) (S 13) op)) 13 (zU (A 13) (S 13) x)) 14 (zU (A 14) (S 13) y)) E RL UL SL T1 T2 ∧ mf b h h') ∨ (¬ (S 13 < 16 ∧ (0 ≤ op ∧ op ≤ 9) ∧ ex_ct op x y (S 13) = 1) ∧ r = some (zv (-1)) ∧ h' = h))) := by
  refine (G.cv (ct_17 hd G.2.1.2.2.1.1 G.2.1.2.2.1.2 hop hx hy)).post ?_
  rintro r n' h' ⟨h1, ⟨h2, h3, rfl⟩ | ⟨h2, h3, h4⟩⟩
  · have G2 := G.st (G.2.1.ex hx hy h2)
    exact ⟨h1, Or.inl ⟨h2, h3, G2.1, G2.2.1⟩⟩
  · exact ⟨h1, Or.inr ⟨h2, h3, h4.trans (cl_id G.1)⟩⟩
theorem gm_43 (hd : 3 ≤ d) (G : GI X b h S A E RL UL SL T1 T2) {r0 s0 : Int} (hr : -2147483648 ≤ r0 ∧ r0 < 2147483648) (hs : -2147483648 ≤ s0 ∧ s0 < 2147483648) : zz_Ct X mm_43 d 0 0 [.ref b, zv r0, zv s0] n h (fun r n' h' => n' = n ∧ ((((0 ≤ r0 ∧ r0 < 8) ∧ (0 ≤ s0 ∧ s0 < 8) ∧ zb_bit (A 17 r0) s0 = false) ∧ r = some (zv 1) ∧ ∃ g', (∀ j, 0 ≤ j → j < 8 → g' j = rl_add (A 17) r0 s0 j) ∧ GI X b h' S (va_up A 17 g') E RL UL SL T1 T2 ∧ mf b h h') ∨ (¬ ((0 ≤ r0 ∧ r0 < 8) ∧ (0 ≤ s0 ∧ s0 < 8) ∧ zb_bit (A 17 r0) s0 = false) ∧ r = some (zv 0) ∧ h' = h))) := by
  refine (G.cv (ct_43 hd G.2.1.2.2.2.2.1 hr hs)).post ?_
  rintro r n' h' ⟨h1, ⟨h2, h3, g', hg', rfl⟩ | ⟨h2, h3, h4⟩⟩
  · have hV := rl_add_V (r := r0) G.2.1.2.2.2.2.1 h2.2.1
    have G2 := G.st (G.2.1.ro (g := g') (fun i h5 h6 => by rw [hg' i h5 h6]; exact hV i h5 h6))
    exact ⟨h1, Or.inl ⟨h2, h3, g', hg', G2.1, G2.2.1⟩⟩
  · exact ⟨h1, Or.inr ⟨h2, h3, h4.trans (cl_id G.1)⟩⟩
theorem gm_119 (hd : 0 ≤ d) (G : GI X b h S A E RL UL SL T1 T2)  : zz_Ct X mm_119 d 0 0 [.ref b] n h (fun r n' h' => n' = n ∧ ((S 1 = 0 ∧ r = some (zv 0) ∧ h' = h) ∨ (S 1 = 1 ∧ r = some (zv 1) ∧ GI X b h' (va_up (va_up S 1 0) 0 (-1)) A E RL UL SL T1 T2 ∧ mf b h h'))) := by
  refine (G.cv (ct_119 G.2.1.2.2.2.2.2.2.1.1)).post ?_
  rintro r n' h' ⟨h1, ⟨h2, h3, h4⟩ | ⟨h2, h3, rfl⟩⟩
  · exact ⟨h1, Or.inl ⟨h2, h3, h4.trans (cl_id G.1)⟩⟩
  · have G2 := G.st G.2.1.cl
    exact ⟨h1, Or.inr ⟨h2, h3, G2.1, G2.2.1⟩⟩
theorem gi_P.pp {S' : Nat → Int} {A' : Nat → Int → Int} (P : gi_P S A RL UL SL T1 T2) (hS : ∀ i, i ≠ 10 → i ≠ 11 → i ≠ 12 → S' i = S i) (hA : ∀ j, j ≠ 5 → j ≠ 6 → j ≠ 7 → A' j = A j) (hc : ch_ok (A' 5)) : gi_P S' A' RL UL SL T1 T2 := by
  obtain ⟨p1, p2, ⟨p3, p3b⟩, p4, p5, ⟨p6, p6b, p6c⟩, p7⟩ := P
  have s : ∀ i, i ≠ 10 → i ≠ 11 → i ≠ 12 → S i = S' i := fun i h1 h2 h3 => (hS i h1 h2 h3).symm
  have a : ∀ i, i ≠ 5 → i ≠ 6 → i ≠ 7 → A i = A' i := fun i h1 h2 h3 => (hA i h1 h2 h3).symm
  rw [s 9 (by decide) (by decide) (by decide)] at p1 p2
  rw [a 2 (by decide) (by decide) (by decide)] at p2
  rw [s 13 (by decide) (by decide) (by decide)] at p3 p3b
  rw [a 12 (by decide) (by decide) (by decide), a 13 (by decide) (by decide) (by decide), a 14 (by decide) (by decide) (by decide)] at p3b
  rw [a 15 (by decide) (by decide) (by decide)] at p4
  rw [a 17 (by decide) (by decide) (by decide)] at p5
  rw [a 9 (by decide) (by decide) (by decide)] at p6b
  rw [a 10 (by decide) (by decide) (by decide)] at p6c
  rw [s 0 (by decide) (by decide) (by decide), s 1 (by decide) (by decide) (by decide), s 2 (by decide) (by decide) (by decide), s 3 (by decide) (by decide) (by decide), s 14 (by decide) (by decide) (by decide), s 16 (by decide) (by decide) (by decide), s 18 (by decide) (by decide) (by decide), s 20 (by decide) (by decide) (by decide), s 22 (by decide) (by decide) (by decide)] at p7
  exact ⟨p1, p2, ⟨p3, p3b⟩, p4, p5, ⟨hc, p6b, p6c⟩, p7⟩
theorem gi_P.ly {gl gr : Int → Int} (P : gi_P S A RL UL SL T1 T2) (hl : rw_01 gl 21) (hr : rw_01 gr 41) : gi_P S (va_up (va_up A 10 gr) 9 gl) RL UL SL T1 T2 := by
  obtain ⟨p1, p2, p3, p4, p5, ⟨p6, -, -⟩, p7⟩ := P
  exact ⟨p1, p2, p3, p4, p5, ⟨p6, hl, hr⟩, p7⟩
theorem up3n {x y z : Int} : ∀ i, i ≠ 10 → i ≠ 11 → i ≠ 12 → va_up (va_up (va_up S 10 x) 11 y) 12 z i = S i := fun i h1 h2 h3 => by rw [va_up_ne _ _ h3, va_up_ne _ _ h2, va_up_ne _ _ h1]
theorem up3a {x y z : Int → Int} : ∀ i, i ≠ 5 → i ≠ 6 → i ≠ 7 → va_up (va_up (va_up A 5 x) 6 y) 7 z i = A i := fun i h1 h2 h3 => by rw [va_up_ne _ _ h3, va_up_ne _ _ h2, va_up_ne _ _ h1]
theorem gm_84 (hd : 5 ≤ d) (G : GI X b h S A E RL UL SL T1 T2) : zz_Ct X mm_84 d 0 0 [.ref (b + 3), .ref (b + 1)] n h (fun r n' h' => n' = n ∧ ∃ S' A', (∀ i, i ≠ 10 → i ≠ 11 → i ≠ 12 → S' i = S i) ∧ (∀ j, j ≠ 5 → j ≠ 6 → j ≠ 7 → A' j = A j) ∧ GI X b h' S' A' E RL UL SL T1 T2 ∧ mf b h h' ∧ ((∃ L, sp_read (A 2) (S 9) = some L ∧ r = some (zv 1) ∧ pc_L (A' 5) (A' 6) (A' 7) (S' 12) L) ∨ (sp_read (A 2) (S 9) = none ∧ r = some (zv 0)))) := by
  have e0 : pc_H (b + 4) (A 5) (A 6) (A 7) (S 10) (S 11) (S 12) h = h := pc_id (G.1 4 (by decide)) (G.1 5 (by decide)) (G.1 6 (by decide)) (G.1 7 (by decide))
  have hc := ct_84 (X := X) (d := d) (n := n) hd (h0 := h) (p := b + 4) (ch := A 5) (st := A 6) (en := A 7) (bg := S 10) (wr := S 11) (sz := S 12) (G.1 3 (by decide)) (by omega) (G.1 1 (by decide)) (by omega) (G.1 2 (by decide)) (by omega) G.2.1.1 G.tx G.2.1.2.2.2.2.2.1.1
  rw [e0] at hc
  refine hc.post ?_
  have key : ∀ (ch st en : Int → Int) (x y z : Int), ch_ok ch → GI X b (pc_H (b + 4) ch st en x y z h) (va_up (va_up (va_up S 10 x) 11 y) 12 z) (va_up (va_up (va_up A 5 ch) 6 st) 7 en) E RL UL SL T1 T2 ∧ mf b h (pc_H (b + 4) ch st en x y z h) := by
    intro ch st en x y z hch
    have e1 := cl_pc (b := b) (S := S) (A := A) (E := E) (h0 := h) (ch := ch) (st := st) (en := en) (x := x) (y := y) (z := z)
    rw [cl_id G.1] at e1
    rw [e1]
    have G2 := G.st (G.2.1.pp (S' := va_up (va_up (va_up S 10 x) 11 y) 12 z) (A' := va_up (va_up (va_up A 5 ch) 6 st) 7 en) up3n up3a hch)
    exact ⟨G2.1, G2.2.1⟩
  rintro r n' h' ⟨h1, ⟨L, ch, st, en, bg, wr, h2, h3, h4, h5, h6, rfl⟩ | ⟨h2, h3, ch, st, en, bg, wr, sz, h4, rfl⟩⟩
  · have k := key ch st en bg wr L.length h4
    exact ⟨h1, _, _, up3n, up3a, k.1, k.2, Or.inl ⟨L, h2, h3, rfl, h5, h4, h6⟩⟩
  · have k := key ch st en bg wr sz h4
    exact ⟨h1, _, _, up3n, up3a, k.1, k.2, Or.inr ⟨h2, h3⟩⟩
theorem gm_99 (hd : 3 ≤ d) (G : GI X b h S A E RL UL SL T1 T2) {p : Nat × rd} (hp : p ∈ RL) {L : List (List Int)} (hL : pc_L (A 5) (A 6) (A 7) (S 12) L) : zz_Ct X mm_99 d 0 0 [.ref (b + 8), .ref (p.1 + 1), .ref (b + 4)] n h (fun r n' h' => n' = n ∧ r = some (zv (bz (sp_fits p.2.1 L))) ∧ ∃ gl gr, GI X b h' S (va_up (va_up A 10 gr) 9 gl) E RL UL SL T1 T2 ∧ mf b h h' ∧ kp b h h') := by
  have hb := G.2.2.2.2.2.2.2.2.2.2.1.1 _ hp
  obtain ⟨⟨c0, ch, st, en, bg, wr, F, PL⟩, -⟩ := G.2.2.2.1.2 _ hp
  have key : ∀ (gl gr : Int → Int), ly_H (b + 9) (b + 10) gl gr h = cl_H b S (va_up (va_up A 10 gr) 9 gl) E h := by
    intro gl gr
    have e1 := cl_ly (b := b) (S := S) (A := A) (E := E) (h0 := h) (gl := gl) (gr := gr)
    rw [cl_id G.1] at e1
    exact e1
  have e0 : ly_H (b + 9) (b + 10) (A 9) (A 10) h = h := by
    rw [key, va_up_id, va_up_id, cl_id G.1]
  have hc := ct_99 (X := X) (d := d) (n := n) hd (h0 := h) (ly := b + 8) (la := b + 9) (re := b + 10) (p1 := p.1 + 1) (p2 := b + 4) (G.1 8 (by decide)) (by omega) F (by omega) (F2 := ⟨G.1 4 (by decide), G.1 5 (by decide), G.1 6 (by decide), G.1 7 (by decide)⟩) (by omega) PL hL G.2.1.2.2.2.2.2.1.2.1 G.2.1.2.2.2.2.2.1.2.2
  rw [e0] at hc
  refine hc.post ?_
  rintro r n' h' ⟨h1, h2, gl, gr, h3, h4, rfl⟩
  rw [key]
  have G2 := G.st (G.2.1.ly h3 h4)
  exact ⟨h1, h2, gl, gr, G2.1, G2.2.1, kp.cl⟩
end GQ
def fr_of (L : List (List Int)) (me : Int) : List (Nat × rd) → Int → Int
  | [], _ => -1
  | p :: R, i => if zb_bit p.2.2.2 me = true ∧ sp_fits p.2.1 L = true then i else fr_of L me R (i + 1)
theorem fr_rg (L : List (List Int)) (me : Int) : ∀ (R : List (Nat × rd)) (i : Int), fr_of L me R i = -1 ∨ (i ≤ fr_of L me R i ∧ fr_of L me R i < i + R.length)
  | [], _ => Or.inl rfl
  | p :: R, i => by
    have := fr_rg L me R (i + 1)
    unfold fr_of
    rw [List.length_cons]
    split <;> omega
def ax (ks : List Nat) (A A' : Nat → Int → Int) : Prop := ∀ j, j ∉ ks → A' j = A j
theorem ax.rf {ks : List Nat} {A : Nat → Int → Int} : ax ks A A := fun _ _ => rfl
theorem ax.tr {ks ks' : List Nat} {A A' A'' : Nat → Int → Int} (h1 : ax ks A A') (h2 : ax ks' A' A'') (hs : ∀ j ∈ ks', j ∈ ks) : ax ks A A'' := fun j hj => (h2 j (fun hh => hj (hs j hh))).trans (h1 j hj)
theorem ax.up {ks : List Nat} {A A' : Nat → Int → Int} {k : Nat} {g : Int → Int} (h1 : ax ks A A') (hk : k ∈ ks) : ax ks A (va_up A' k g) := fun j hj => by
  rw [va_up_ne _ _ (fun e => hj (by rw [e]; exact hk))]
  exact h1 j hj
theorem lp_97 {X : zz_X} {d n b : Nat} (hd : 4 ≤ d) {S : Nat → Int} {E : Nat → Nat} {RL : List (Nat × rd)} {UL : List (Nat × ud)} {SL : List (Nat × sd)} {T1 T2 : List (Nat × td)} (hn : b + 64 ≤ n) {me : Int} {L : List (List Int)} {Q : Option Value → Nat → zz_H → Prop} : ∀ (k i : Nat) (h : zz_H) (A : Nat → Int → Int) (x3 : Option Value), i + k = RL.length → GI X b h S A E RL UL SL T1 T2 → pc_L (A 5) (A 6) (A 7) (S 12) L → (∀ h' A', GI X b h' S A' E RL UL SL T1 T2 → ax [9, 10] A A' → mf b h h' → kp b h h' → Q (some (zv (fr_of L me (RL.drop i) i))) n h') →
    zz_Z X mm_97 d Q 0 0 2 [some (.ref b), some (zv me), some (zv (i : Int)), x3] [] n h := by
  intro k
  induction k with
  | zero =>
    intro i h A x3 hk G hL hQ
    have hsz := G.sz
    have hlR := G.2.1.2.2.2.2.2.2.2.1.1
    rw [List.drop_eq_nil_of_le (by omega)] at hQ
    refine zj_iload_n dk_97_2 rfl ?_
    refine zi_aload_n dk_97_3 rfl rfl ?_
    refine zi_getf dk_97_4 fl_0_47 (by first | exact G.1 0 (by decide) | exact G.1 _ (by decide)) rfl ?_
    refine zi_invV dk_97_7 ml_0_82 iv_23 (ct_23 (d := d - 1) (N := 0) (f := fun _ => none) (G.1 18 (by decide))) (by first | exact G.1 0 (by decide) | exact G.1 _ (by decide)) rfl rfl rfl (Nat.le_of_ble_eq_true rfl) (by omega) rfl rfl (fun r n' h' hq => ?_)
    obtain ⟨rfl, e1, e2⟩ := hq
    have e1 := e1.symm
    have e2 := e2.symm
    subst e1
    subst e2
    refine zj_icmp_ge (t := 62) dk_97_10 rfl (by omega) (fun c10 => ?_) (fun c10 => ?_)
    · skip
      refine zj_iconst dk_97_62 ?_
      refine zj_ireturn dk_97_63 rfl (hQ h A G ax.rf (mf.rf _ _) kp.rf)
    · omega
  | succ k ih =>
    intro i h A x3 hk G hL hQ
    have hsz := G.sz
    have hlR := G.2.1.2.2.2.2.2.2.2.1.1
    refine zj_iload_n dk_97_2 rfl ?_
    refine zi_aload_n dk_97_3 rfl rfl ?_
    refine zi_getf dk_97_4 fl_0_47 (by first | exact G.1 0 (by decide) | exact G.1 _ (by decide)) rfl ?_
    refine zi_invV dk_97_7 ml_0_82 iv_23 (ct_23 (d := d - 1) (N := 0) (f := fun _ => none) (G.1 18 (by decide))) (by first | exact G.1 0 (by decide) | exact G.1 _ (by decide)) rfl rfl rfl (Nat.le_of_ble_eq_true rfl) (by omega) rfl rfl (fun r n' h' hq => ?_)
    obtain ⟨rfl, e1, e2⟩ := hq
    have e1 := e1.symm
    have e2 := e2.symm
    subst e1
    subst e2
    refine zj_icmp_ge (t := 62) dk_97_10 rfl (by omega) (fun c10 => ?_) (fun c10 => ?_)
    · omega
    · skip
      obtain ⟨p, m1, m2, m3, m4, m5⟩ := G.ru (i := (i : Int)) (by omega)
      rw [Int.toNat_natCast] at m1
      have hp := List.mem_of_getElem? m1
      rw [List.drop_eq_getElem_cons (by omega)] at hQ
      have hpe : RL[i]'(by omega) = p := (List.getElem?_eq_some_iff.mp m1).2
      rw [hpe] at hQ
      have c0 := m3.1
      have hb1 := bz_rg (zb_bit p.2.2.2 me)
      have hb2 := bz_rg (sp_fits p.2.1 L)
      unfold fr_of at hQ
      refine zi_aload_n dk_97_13 rfl rfl ?_
      refine zi_getf dk_97_14 fl_0_47 (by first | exact G.1 0 (by decide) | exact G.1 _ (by decide)) rfl ?_
      refine zj_iload_n dk_97_17 rfl ?_
      refine zi_invV dk_97_18 ml_0_129 iv_57 (gt_get (d := d - 1) (by omega) (G.1 18 (by decide)) G.2.2.2.1.1 (by rw [List.length_map]; exact G.2.1.2.2.2.2.2.2.2.1.1) (by omega) m2) (by first | exact G.1 0 (by decide) | exact G.1 _ (by decide)) rfl rfl rfl (Nat.le_of_ble_eq_true rfl) (by omega) rfl rfl (fun r n' h' hq => ?_)
      obtain ⟨rfl, e1, e2⟩ := hq
      have e1 := e1.symm
      have e2 := e2.symm
      subst e1
      subst e2
      refine zi_castS dk_97_21 zw_299 c0 rfl ?_
      refine zi_astore_n dk_97_24 rfl rfl ?_
      refine zi_aload_n dk_97_25 rfl rfl ?_
      refine zj_iload_n dk_97_26 rfl ?_
      refine zi_invV dk_97_27 ml_0_279 iv_98 (ct_98 (d := d - 1) c0) c0 rfl rfl rfl (Nat.le_of_ble_eq_true rfl) (by omega) rfl rfl (fun r n' h' hq => ?_)
      obtain ⟨rfl, e1, e2⟩ := hq
      have e1 := e1.symm
      have e2 := e2.symm
      subst e1
      subst e2
      refine zj_if_eq (t := 56) dk_97_30 rfl (by omega) (fun c30 => ?_) (fun c30 => ?_)
      · skip
        refine zj_iinc dk_97_56 rfl rfl ?_
        refine zi_goto (t := 2) dk_97_59 rfl ?_
        exact ih (i + 1) h A _ (by omega) G hL (by rw [if_neg (fun hh => by rw [hh.1] at c30; exact absurd c30 (by decide))] at hQ; exact hQ)
      · skip
        refine zi_aload_n dk_97_33 rfl rfl ?_
        refine zi_getf dk_97_34 fl_0_26 (by first | exact G.1 0 (by decide) | exact G.1 _ (by decide)) rfl ?_
        refine zi_aload_n dk_97_37 rfl rfl ?_
        refine zi_getf dk_97_38 fl_0_226 c0 rfl ?_
        refine zi_aload_n dk_97_41 rfl rfl ?_
        refine zi_getf dk_97_42 fl_0_19 (by first | exact G.1 0 (by decide) | exact G.1 _ (by decide)) rfl ?_
        refine zi_getf dk_97_45 fl_0_230 (G.1 3 (by decide)) rfl ?_
        refine zi_invV dk_97_48 ml_0_233 iv_99 (gm_99 (d := d - 1) (by omega) G hp hL) (G.1 8 (by decide)) rfl rfl rfl (Nat.le_of_ble_eq_true rfl) (by omega) rfl rfl (fun r n' h' hq => ?_)
        obtain ⟨rfl, rfl, gl, gr, G2, hm, hk⟩ := hq
        refine zj_if_eq (t := 56) dk_97_51 rfl (by omega) (fun c51 => ?_) (fun c51 => ?_)
        · skip
          refine zj_iinc dk_97_56 rfl rfl ?_
          refine zi_goto (t := 2) dk_97_59 rfl ?_
          exact ih (i + 1) _ _ _ (by omega) G2 hL (by rw [if_neg (fun hh => by rw [hh.2] at c51; exact absurd c51 (by decide))] at hQ; exact fun h2 A2 g1 g2 g3 g4 => hQ h2 A2 g1 (((ax.rf.up (by decide)).up (by decide)).tr g2 (fun _ hh => hh)) (hm.tr g3) (hk.tr g4))
        · skip
          refine zj_iload_n dk_97_54 rfl ?_
          refine zj_ireturn dk_97_55 rfl (by rw [if_pos ⟨by cases hx : zb_bit p.2.2.2 me with | true => rfl | false => (rw [hx] at c30; exact absurd rfl c30), by cases hx : sp_fits p.2.1 L with | true => rfl | false => (rw [hx] at c51; exact absurd rfl c51)⟩] at hQ; exact hQ _ _ G2 ((ax.rf.up (by decide)).up (by decide)) hm hk)

theorem gm_97 {X : zz_X} {d n : Nat} {h : zz_H} (hd : 4 ≤ d) {b : Nat} {S : Nat → Int} {A : Nat → Int → Int} {E : Nat → Nat} {RL : List (Nat × rd)} {UL : List (Nat × ud)} {SL : List (Nat × sd)} {T1 T2 : List (Nat × td)} (G : GI X b h S A E RL UL SL T1 T2) (hn : b + 64 ≤ n) {me : Int} {L : List (List Int)} (hL : pc_L (A 5) (A 6) (A 7) (S 12) L) : zz_Ct X mm_97 d 0 0 [.ref b, zv me] n h (fun r n' h' => n' = n ∧ r = some (zv (fr_of L me RL 0)) ∧ ∃ A', GI X b h' S A' E RL UL SL T1 T2 ∧ ax [9, 10] A A' ∧ mf b h h' ∧ kp b h h') := by
  refine zz_start (by decide) (ls := [some (.ref b), some (zv me), none, none]) rfl ?_
  refine zj_iconst dk_97_0 ?_
  refine zj_istore_n dk_97_1 rfl ?_
  exact lp_97 hd hn RL.length 0 h A none (by omega) G hL (fun h' A' g1 g2 g3 g4 => ⟨rfl, rfl, A', g1, g2, g3, g4⟩)

