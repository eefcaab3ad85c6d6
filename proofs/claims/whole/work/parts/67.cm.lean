/-! both sides, command by command -/
def LI (X : zz_X) (b n : Nat) (h : zz_H) (t : Nat) : Prop := b + 64 ≤ n ∧ ∃ V B S A E RL UL SL T1 T2, GI X b h S A E RL UL SL T1 T2 ∧ md_H (b + 25) V B h = h ∧ RX V B S A RL UL SL T1 T2 ∧ S 2 ≤ 100 * (t : Int) ∧ S 3 ≤ 6 * (t : Int)
def P2 (X : zz_X) (b t d : Nat) (M : zz_M) (av : List Value) : Option Value → Nat → zz_H → Prop := fun r n' h' => ∃ z, r = some (zv z) ∧ (∃ fs, h' (b + 25) = some (.inr (13, fs))) ∧ zz_Ct X M d 0 0 av n' h' (fun r2 n2 h2 => r2 = some (zv z) ∧ LI X b n2 h2 (t + 1))
def P3 (X : zz_X) (b t d : Nat) (M : zz_M) (av : List Value) : Option Value → Nat → zz_H → Prop := fun r n' h' => r = none ∧ (∃ fs, h' (b + 25) = some (.inr (13, fs))) ∧ zz_Ct X M d 0 0 av n' h' (fun r2 n2 h2 => r2 = none ∧ LI X b n2 h2 (t + 1))
section CM
variable {X : zz_X} {b d n t : Nat} {h h' : zz_H} {V V' : Nat → Int} {B B' : Nat → Int → Int} {S S' : Nat → Int} {A A' : Nat → Int → Int} {E : Nat → Nat} {RL : List (Nat × rd)} {UL : List (Nat × ud)} {SL : List (Nat × sd)} {T1 T2 : List (Nat × td)}
theorem md_mf (hM : md_H (b + 25) V B h = h) (k : mf b h h') : md_H (b + 25) V B h' = h' := by
  funext a
  by_cases h1 : a = b + 25
  · subst h1
    rw [md_0, k _ (by omega) (by omega), ← congrFun hM (b + 25), md_0]
  · by_cases h2 : b + 25 < a ∧ a < b + 25 + 39
    · rw [k a (by omega) (by omega), ← congrFun hM a]
      unfold md_H
      rw [if_neg h1, if_neg h1, if_pos h2, if_pos h2]
    · exact md_o (by omega)
theorem md_md {m : Nat} : md_H m V' B' (md_H m V B h) = md_H m V' B' h := by
  funext a
  unfold md_H
  by_cases h1 : a = m
  · rw [if_pos h1, if_pos h1]
  · by_cases h2 : m < a ∧ a < m + 39
    · simp only [if_neg h1, if_pos h2]
    · simp only [if_neg h1, if_neg h2]
theorem md_fs {m : Nat} (hM : md_H m V B h = h) : ∃ fs, h m = some (.inr (13, fs)) := ⟨_, (congrFun hM m).symm.trans md_0⟩
theorem GI.md (G : GI X b h S A E RL UL SL T1 T2) (hM : md_H (b + 25) V B h = h) : GI X b (md_H (b + 25) V' B' h) S A E RL UL SL T1 T2 := by
  obtain ⟨g1, g2, g3⟩ := G
  have he := g3.1.2
  refine ⟨fun j hj => ?_, g2, g3.fr (fun a ci vs ha => ?_) (fun a ha => md_o (by omega))⟩
  · rw [md_o (by omega)]
    exact g1 j hj
  · by_cases h1 : a = b + 25
    · subst h1
      rw [← congrFun hM (b + 25), md_0] at ha
      injection ha with ha
      injection ha with ha
      injection ha with ha1 ha2
      subst ha1
      exact ⟨_, md_0⟩
    · by_cases h2 : b + 25 < a ∧ a < b + 25 + 39
      · rw [← congrFun hM a] at ha
        unfold md_H at ha
        rw [if_neg h1, if_pos h2] at ha
        unfold zA at ha
        injection ha with ha
        cases ha
      · exact ⟨vs, by rw [md_o (by omega)]; exact ha⟩
theorem LI.mk (hn : b + 64 ≤ n) (G : GI X b h S A E RL UL SL T1 T2) (hM : md_H (b + 25) V B h = h) (R : RX V' B' S A RL UL SL T1 T2) (h2 : S 2 ≤ 100 * (t : Int)) (h3 : S 3 ≤ 6 * (t : Int)) : LI X b n (md_H (b + 25) V' B' h) t :=
  ⟨hn, V', B', S, A, E, RL, UL, SL, T1, T2, G.md hM, md_md, R, h2, h3⟩
theorem LI.mk0 (hn : b + 64 ≤ n) (G : GI X b h S A E RL UL SL T1 T2) (hM : md_H (b + 25) V B h = h) (R : RX V B S A RL UL SL T1 T2) (h2 : S 2 ≤ 100 * (t : Int)) (h3 : S 3 ≤ 6 * (t : Int)) : LI X b n h (t + 1) :=
  ⟨hn, V, B, S, A, E, RL, UL, SL, T1, T2, G, hM, R, by omega, by omega⟩
theorem RX.cgS (R : RX V B S A RL UL SL T1 T2) (hS : ∀ i, i < 14 → i ≠ 10 → i ≠ 11 → i ≠ 12 → S' i = S i) : RX V B S' A RL UL SL T1 T2 :=
  R.cg (fun _ _ _ _ => rfl) ax.rf R.2.2.2.2.1.1 R.2.2.2.2.1.2 hS ax.rf
theorem up_S {k : Nat} {y : Int} (h1 : S' k = y) (h2 : ∀ i, i < 14 → i ≠ k → S' i = S i) : ∀ i, i < 14 → i ≠ 10 → i ≠ 11 → i ≠ 12 → S' i = va_up S k y i := fun i hi _ _ _ => by
  by_cases e : i = k
  · subst e; rw [va_up_self]; exact h1
  · rw [va_up_ne _ _ e]; exact h2 i hi e
theorem cm_type (hd : 2 ≤ d) (ht : t ≤ 600) (L : LI X b n h t) {c : Int} (hc : -2147483648 ≤ c ∧ c < 2147483648) : zz_Ct X mm_12 d 0 0 [.ref b, zv c] n h (P2 X b t d mm_127 [.ref (b + 25), zv c]) := by
  obtain ⟨hn, V, B, S, A, E, RL, UL, SL, T1, T2, G, hM, R, l2, l3⟩ := L
  obtain ⟨p9, pch, ⟨p13, pW⟩, pV, pRl, -, ⟨p1, p0, p2, p3⟩, ⟨p14, p16, p18, -, -⟩, ⟨q1, q2, q3, -, -⟩⟩ := G.2.1
  obtain ⟨⟨c0, c1, c2, c3, c4, c5, c6, c51, c29, c24⟩, ⟨n1, n2, n3⟩, ⟨u1, u2, u3, u4⟩, ⟨d1, d2, d3, d4⟩, ⟨m20, m22⟩, -, pp, us, ss, -, -⟩ := id R
  refine (gm_12 hd G hc).post (fun r n' h' hq => ?_)
  obtain ⟨rfl, hq⟩ := hq
  rcases hq with ⟨a1, rfl, G', k⟩ | ⟨a1, rfl, rfl⟩
  · have hM' := md_mf hM k
    refine ⟨1, rfl, md_fs hM', ?_⟩
    have c9 := ct_127 (X := X) (d := d) (n := n') (m := b + 25) (V := V) (B := B) (h0 := h') hc (by rw [c29]; exact p9)
    rw [hM'] at c9
    refine c9.post (fun r9 n9 h9 hq2 => ?_)
    obtain ⟨rfl, hq2⟩ := hq2
    rcases hq2 with ⟨b1, rfl, rfl⟩ | ⟨b1, rfl, rfl⟩
    · exact ⟨rfl, LI.mk hn G' hM' (R.type c) (by show S 2 ≤ _; omega) (by show S 3 ≤ _; omega)⟩
    · exact absurd ⟨a1.1, a1.2.1, by omega⟩ b1
  · refine ⟨0, rfl, md_fs hM, ?_⟩
    have c9 := ct_127 (X := X) (d := d) (n := n') (m := b + 25) (V := V) (B := B) (h0 := h') hc (by rw [c29]; exact p9)
    rw [hM] at c9
    refine c9.post (fun r9 n9 h9 hq2 => ?_)
    obtain ⟨rfl, hq2⟩ := hq2
    rcases hq2 with ⟨b1, rfl, rfl⟩ | ⟨b1, rfl, rfl⟩
    · exact absurd ⟨b1.1, b1.2.1, by omega⟩ a1
    · exact ⟨rfl, LI.mk0 hn G hM R l2 l3⟩
theorem cm_clear (hd : 1 ≤ d) (ht : t ≤ 600) (L : LI X b n h t)  : zz_Ct X mm_15 d 0 0 [.ref b] n h (P3 X b t d mm_128 [.ref (b + 25)]) := by
  obtain ⟨hn, V, B, S, A, E, RL, UL, SL, T1, T2, G, hM, R, l2, l3⟩ := L
  obtain ⟨p9, pch, ⟨p13, pW⟩, pV, pRl, -, ⟨p1, p0, p2, p3⟩, ⟨p14, p16, p18, -, -⟩, ⟨q1, q2, q3, -, -⟩⟩ := G.2.1
  obtain ⟨⟨c0, c1, c2, c3, c4, c5, c6, c51, c29, c24⟩, ⟨n1, n2, n3⟩, ⟨u1, u2, u3, u4⟩, ⟨d1, d2, d3, d4⟩, ⟨m20, m22⟩, -, pp, us, ss, -, -⟩ := id R
  refine (gm_15 hd G).post (fun r n' h' hq => ?_)
  obtain ⟨rfl, rfl, G', k⟩ := hq
  have hM' := md_mf hM k
  refine ⟨rfl, md_fs hM', ?_⟩
  have c9 := ct_128 (X := X) (d := d) (n := n') (m := b + 25) (V := V) (B := B) (h0 := h') 
  rw [hM'] at c9
  refine c9.post (fun r9 n9 h9 hq2 => ?_)
  obtain ⟨rfl, rfl, rfl⟩ := hq2
  exact ⟨rfl, LI.mk hn G' hM' R.clear (by show S 2 ≤ _; omega) (by show S 3 ≤ _; omega)⟩
theorem cm_expr (hd : 3 ≤ d) (ht : t ≤ 600) (L : LI X b n h t) {op x y : Int} (hop : -2147483648 ≤ op ∧ op < 2147483648) (hx : -2147483648 ≤ x ∧ x < 2147483648) (hy : -2147483648 ≤ y ∧ y < 2147483648) : zz_Ct X mm_17 d 0 0 [.ref b, zv op, zv x, zv y] n h (P2 X b t d mm_129 [.ref (b + 25), zv op, zv x, zv y]) := by
  obtain ⟨hn, V, B, S, A, E, RL, UL, SL, T1, T2, G, hM, R, l2, l3⟩ := L
  obtain ⟨p9, pch, ⟨p13, pW⟩, pV, pRl, -, ⟨p1, p0, p2, p3⟩, ⟨p14, p16, p18, -, -⟩, ⟨q1, q2, q3, -, -⟩⟩ := G.2.1
  obtain ⟨⟨c0, c1, c2, c3, c4, c5, c6, c51, c29, c24⟩, ⟨n1, n2, n3⟩, ⟨u1, u2, u3, u4⟩, ⟨d1, d2, d3, d4⟩, ⟨m20, m22⟩, -, pp, us, ss, -, -⟩ := id R
  refine (gm_17 hd G hop hx hy).post (fun r n' h' hq => ?_)
  obtain ⟨rfl, hq⟩ := hq
  rcases hq with ⟨a1, rfl, G', k⟩ | ⟨a1, rfl, rfl⟩
  · have hM' := md_mf hM k
    refine ⟨_, rfl, md_fs hM', ?_⟩
    have c9 := ct_129 (X := X) (d := d) (n := n') (m := b + 25) (V := V) (B := B) (h0 := h') (by omega) hop hx hy (by rw [c24]; exact p13)
    rw [hM'] at c9
    refine c9.post (fun r9 n9 h9 hq2 => ?_)
    obtain ⟨rfl, hq2⟩ := hq2
    rcases hq2 with ⟨b1, rfl, rfl⟩ | ⟨b1, rfl, rfl⟩
    · exact ⟨by rw [c24], LI.mk hn G' hM' (R.expr op x y) (by show S 2 ≤ _; omega) (by show S 3 ≤ _; omega)⟩
    · exact absurd (by rw [c24]; exact a1) b1
  · refine ⟨-1, rfl, md_fs hM, ?_⟩
    have c9 := ct_129 (X := X) (d := d) (n := n') (m := b + 25) (V := V) (B := B) (h0 := h') (by omega) hop hx hy (by rw [c24]; exact p13)
    rw [hM] at c9
    refine c9.post (fun r9 n9 h9 hq2 => ?_)
    obtain ⟨rfl, hq2⟩ := hq2
    rcases hq2 with ⟨b1, rfl, rfl⟩ | ⟨b1, rfl, rfl⟩
    · exact absurd (by rw [← c24]; exact b1) a1
    · exact ⟨rfl, LI.mk0 hn G hM R l2 l3⟩
theorem cm_rule (hd : 8 ≤ d) (ht : t ≤ 600) (L : LI X b n h t) {ex ms : Int} (hex : -2147483648 ≤ ex ∧ ex < 2147483648) (hms : -2147483648 ≤ ms ∧ ms < 2147483648) : zz_Ct X mm_22 d 6 104 [.ref b, zv ex, zv ms] n h (P2 X b t d mm_133 [.ref (b + 25), zv ex, zv ms]) := by
  obtain ⟨hn, V, B, S, A, E, RL, UL, SL, T1, T2, G, hM, R, l2, l3⟩ := L
  obtain ⟨p9, pch, ⟨p13, pW⟩, pV, pRl, -, ⟨p1, p0, p2, p3⟩, ⟨p14, p16, p18, -, -⟩, ⟨q1, q2, q3, -, -⟩⟩ := G.2.1
  obtain ⟨⟨c0, c1, c2, c3, c4, c5, c6, c51, c29, c24⟩, ⟨n1, n2, n3⟩, ⟨u1, u2, u3, u4⟩, ⟨d1, d2, d3, d4⟩, ⟨m20, m22⟩, -, pp, us, ss, -, -⟩ := id R
  refine (gm_22 hd G hn hex hms).post (fun r n' h' hq => ?_)
  rcases hq with ⟨a1, rfl, rfl, rfl⟩ | ⟨a1, rfl, hnn, S', E', s1, s2, G', k⟩
  · refine ⟨-1, rfl, md_fs hM, ?_⟩
    have c9 := ct_133 (X := X) (d := d) (n := n') (m := b + 25) (V := V) (B := B) (h0 := h') (by omega) ⟨by rw [c29]; exact p9, fun i i1 i2 => by rw [d1]; exact pch i i1 (by omega)⟩ hex hms (by omega) (by omega)
    rw [hM] at c9
    refine c9.post (fun r9 n9 h9 hq2 => ?_)
    obtain ⟨rfl, hq2⟩ := hq2
    rcases hq2 with ⟨b1, rfl, rfl⟩ | ⟨b1, -⟩
    · exact ⟨rfl, LI.mk0 hn G hM R l2 l3⟩
    · exact absurd ⟨by omega, by omega, b1.2.2.1, by rw [← d1, ← c29]; exact b1.2.2.2⟩ a1
  · have hM' := md_mf hM k
    refine ⟨_, rfl, md_fs hM', ?_⟩
    have c9 := ct_133 (X := X) (d := d) (n := n') (m := b + 25) (V := V) (B := B) (h0 := h') (by omega) ⟨by rw [c29]; exact p9, fun i i1 i2 => by rw [d1]; exact pch i i1 (by omega)⟩ hex hms (by omega) (by omega)
    rw [hM'] at c9
    refine c9.post (fun r9 n9 h9 hq2 => ?_)
    obtain ⟨rfl, hq2⟩ := hq2
    rcases hq2 with ⟨b1, -⟩ | ⟨b1, rfl, B1, g1, g2, g3, rfl⟩
    · exact absurd ⟨by omega, by omega, a1.2.2.1, by rw [d1, c29]; exact a1.2.2.2⟩ b1
    · exact ⟨by rw [n2], LI.mk (by omega) G' hM' ((R.rule p9 pch a1 g1 g2 g3).cgS (up_S s1 s2)) (by rw [s2 2 (by decide) (by decide)]; omega) (by rw [s2 3 (by decide) (by decide)]; omega)⟩
theorem cm_role (hd : 3 ≤ d) (ht : t ≤ 600) (L : LI X b n h t) {r0 s0 : Int} (hr0 : -2147483648 ≤ r0 ∧ r0 < 2147483648) (hs0 : -2147483648 ≤ s0 ∧ s0 < 2147483648) : zz_Ct X mm_43 d 0 0 [.ref b, zv r0, zv s0] n h (P2 X b t d mm_131 [.ref (b + 25), zv r0, zv s0]) := by
  obtain ⟨hn, V, B, S, A, E, RL, UL, SL, T1, T2, G, hM, R, l2, l3⟩ := L
  obtain ⟨p9, pch, ⟨p13, pW⟩, pV, pRl, -, ⟨p1, p0, p2, p3⟩, ⟨p14, p16, p18, -, -⟩, ⟨q1, q2, q3, -, -⟩⟩ := G.2.1
  obtain ⟨⟨c0, c1, c2, c3, c4, c5, c6, c51, c29, c24⟩, ⟨n1, n2, n3⟩, ⟨u1, u2, u3, u4⟩, ⟨d1, d2, d3, d4⟩, ⟨m20, m22⟩, -, pp, us, ss, -, -⟩ := id R
  refine (gm_43 hd G hr0 hs0).post (fun r n' h' hq => ?_)
  obtain ⟨rfl, hq⟩ := hq
  rcases hq with ⟨a1, rfl, g', hg, G', k⟩ | ⟨a1, rfl, rfl⟩
  · have hM' := md_mf hM k
    refine ⟨1, rfl, md_fs hM', ?_⟩
    have c9 := ct_131 (X := X) (d := d) (n := n') (m := b + 25) (V := V) (B := B) (h0 := h') (by omega) hr0 hs0
    rw [hM'] at c9
    refine c9.post (fun r9 n9 h9 hq2 => ?_)
    obtain ⟨rfl, hq2⟩ := hq2
    rcases hq2 with ⟨b1, rfl, rfl⟩ | ⟨b1, rfl, rfl⟩
    · exact ⟨rfl, LI.mk hn G' hM' (R.role a1.1 a1.2.1 hg) (by omega) (by omega)⟩
    · exact absurd ⟨a1.1, a1.2.1, by rw [R.bit a1.1]; exact a1.2.2⟩ b1
  · refine ⟨0, rfl, md_fs hM, ?_⟩
    have c9 := ct_131 (X := X) (d := d) (n := n') (m := b + 25) (V := V) (B := B) (h0 := h') (by omega) hr0 hs0
    rw [hM] at c9
    refine c9.post (fun r9 n9 h9 hq2 => ?_)
    obtain ⟨rfl, hq2⟩ := hq2
    rcases hq2 with ⟨b1, rfl, rfl⟩ | ⟨b1, rfl, rfl⟩
    · exact absurd ⟨b1.1, b1.2.1, by rw [← R.bit b1.1]; exact b1.2.2⟩ a1
    · exact ⟨rfl, LI.mk0 hn G hM R l2 l3⟩
theorem cm_user (hd : 8 ≤ d) (ht : t ≤ 600) (L : LI X b n h t) {pw rl sc : Int} (hpw : -2147483648 ≤ pw ∧ pw < 2147483648) (hrl : -2147483648 ≤ rl ∧ rl < 2147483648) (hsc : -2147483648 ≤ sc ∧ sc < 2147483648) : zz_Ct X mm_46 d 2 21 [.ref b, zv pw, zv rl, zv sc] n h (P2 X b t d mm_136 [.ref (b + 25), zv pw, zv rl, zv sc]) := by
  obtain ⟨hn, V, B, S, A, E, RL, UL, SL, T1, T2, G, hM, R, l2, l3⟩ := L
  obtain ⟨p9, pch, ⟨p13, pW⟩, pV, pRl, -, ⟨p1, p0, p2, p3⟩, ⟨p14, p16, p18, -, -⟩, ⟨q1, q2, q3, -, -⟩⟩ := G.2.1
  obtain ⟨⟨c0, c1, c2, c3, c4, c5, c6, c51, c29, c24⟩, ⟨n1, n2, n3⟩, ⟨u1, u2, u3, u4⟩, ⟨d1, d2, d3, d4⟩, ⟨m20, m22⟩, -, pp, us, ss, -, -⟩ := id R
  refine (gm_46 hd G hn hpw hrl hsc (by omega)).post (fun r n' h' hq => ?_)
  rcases hq with ⟨a1, rfl, rfl, rfl⟩ | ⟨a1, rfl, hnn, S', E', s1, s2, G', k⟩
  · refine ⟨-1, rfl, md_fs hM, ?_⟩
    have c9 := ct_136 (X := X) (d := d) (n := n') (m := b + 25) (V := V) (B := B) (h0 := h') (by omega) hrl hsc (by omega) (pw := pw)
    rw [hM] at c9
    refine c9.post (fun r9 n9 h9 hq2 => ?_)
    obtain ⟨rfl, hq2⟩ := hq2
    rcases hq2 with ⟨b1, rfl, rfl⟩ | ⟨b1, -⟩
    · exact ⟨rfl, LI.mk0 hn G hM R l2 l3⟩
    · exact absurd ⟨by omega, b1.2⟩ a1
  · have hM' := md_mf hM k
    refine ⟨_, rfl, md_fs hM', ?_⟩
    have c9 := ct_136 (X := X) (d := d) (n := n') (m := b + 25) (V := V) (B := B) (h0 := h') (by omega) hrl hsc (by omega) (pw := pw)
    rw [hM'] at c9
    refine c9.post (fun r9 n9 h9 hq2 => ?_)
    obtain ⟨rfl, hq2⟩ := hq2
    rcases hq2 with ⟨b1, -⟩ | ⟨b1, rfl, rfl⟩
    · exact absurd ⟨by omega, a1.2⟩ b1
    · exact ⟨by rw [n1], LI.mk (by omega) G' hM' ((R.user a1 p3 (hs_of_rg _ _ _ (by omega))).cgS (up_S s1 s2)) (by rw [s2 2 (by decide) (by decide)]; omega) (by omega)⟩
theorem cm_serv (hd : 8 ≤ d) (ht : t ≤ 600) (L : LI X b n h t) {pa fa c : Int} (hpa : -2147483648 ≤ pa ∧ pa < 2147483648) (hfa : -2147483648 ≤ fa ∧ fa < 2147483648) (hc : -2147483648 ≤ c ∧ c < 2147483648) : zz_Ct X mm_50 d 4 28 [.ref b, zv pa, zv fa, zv c] n h (P2 X b t d mm_148 [.ref (b + 25), zv pa, zv fa, zv c]) := by
  obtain ⟨hn, V, B, S, A, E, RL, UL, SL, T1, T2, G, hM, R, l2, l3⟩ := L
  obtain ⟨p9, pch, ⟨p13, pW⟩, pV, pRl, -, ⟨p1, p0, p2, p3⟩, ⟨p14, p16, p18, -, -⟩, ⟨q1, q2, q3, -, -⟩⟩ := G.2.1
  obtain ⟨⟨c0, c1, c2, c3, c4, c5, c6, c51, c29, c24⟩, ⟨n1, n2, n3⟩, ⟨u1, u2, u3, u4⟩, ⟨d1, d2, d3, d4⟩, ⟨m20, m22⟩, -, pp, us, ss, -, -⟩ := id R
  refine (gm_50 hd G hn hpa hfa hc).post (fun r n' h' hq => ?_)
  rcases hq with ⟨a1, rfl, rfl, rfl⟩ | ⟨a1, rfl, hnn, S', E', s2, G', k⟩
  · refine ⟨-1, rfl, md_fs hM, ?_⟩
    have c9 := ct_148 (X := X) (d := d) (n := n') (m := b + 25) (V := V) (B := B) (h0 := h') (by omega) hpa hfa hc (by omega) (by omega)
    rw [hM] at c9
    refine c9.post (fun r9 n9 h9 hq2 => ?_)
    obtain ⟨rfl, hq2⟩ := hq2
    rcases hq2 with ⟨b1, rfl, rfl⟩ | ⟨b1, -⟩
    · exact ⟨rfl, LI.mk0 hn G hM R l2 l3⟩
    · exact absurd ⟨by omega, by omega, by omega, by omega⟩ a1
  · have hM' := md_mf hM k
    refine ⟨_, rfl, md_fs hM', ?_⟩
    have c9 := ct_148 (X := X) (d := d) (n := n') (m := b + 25) (V := V) (B := B) (h0 := h') (by omega) hpa hfa hc (by omega) (by omega)
    rw [hM'] at c9
    refine c9.post (fun r9 n9 h9 hq2 => ?_)
    obtain ⟨rfl, hq2⟩ := hq2
    rcases hq2 with ⟨b1, -⟩ | ⟨b1, rfl, rfl⟩
    · exact absurd ⟨by omega, by omega, by omega, by omega⟩ b1
    · exact ⟨by rw [n3], LI.mk (by omega) G' hM' ((R.serv a1.1 (by omega) (by omega) (by omega) (by omega)).cgS (fun i hi _ _ _ => s2 i hi)) (by rw [s2 2 (by decide)]; omega) (by rw [s2 3 (by decide)]; omega)⟩
theorem cm_decl (hd : 3 ≤ d) (ht : t ≤ 600) (L : LI X b n h t) {ty op c : Int} (hty : -2147483648 ≤ ty ∧ ty < 2147483648) (hop : -2147483648 ≤ op ∧ op < 2147483648) (hc : -2147483648 ≤ c ∧ c < 2147483648) : zz_Ct X mm_55 d 0 0 [.ref b, zv ty, zv op, zv c] n h (P2 X b t d mm_150 [.ref (b + 25), zv ty, zv op, zv c]) := by
  obtain ⟨hn, V, B, S, A, E, RL, UL, SL, T1, T2, G, hM, R, l2, l3⟩ := L
  obtain ⟨p9, pch, ⟨p13, pW⟩, pV, pRl, -, ⟨p1, p0, p2, p3⟩, ⟨p14, p16, p18, -, -⟩, ⟨q1, q2, q3, -, -⟩⟩ := G.2.1
  obtain ⟨⟨c0, c1, c2, c3, c4, c5, c6, c51, c29, c24⟩, ⟨n1, n2, n3⟩, ⟨u1, u2, u3, u4⟩, ⟨d1, d2, d3, d4⟩, ⟨m20, m22⟩, -, pp, us, ss, -, -⟩ := id R
  have hdc : ∀ i, 0 ≤ i → i < 24 → B 37 i = 0 ∨ B 37 i = 1 := fun i i1 i2 => (ss.2.2.2.1.2 i i1 i2).1
  refine (gm_55 hd G hn hty hop hc).post (fun r n' h' hq => ?_)
  obtain ⟨rfl, hq⟩ := hq
  rcases hq with ⟨a1, rfl, rfl⟩ | ⟨a1, p, a2, hq⟩
  · refine ⟨0, rfl, md_fs hM, ?_⟩
    have c9 := ct_150 (X := X) (d := d) (n := n') (m := b + 25) (V := V) (B := B) (h0 := h') (by omega) hty hop hc (by omega) (by omega) hdc
    rw [hM] at c9
    refine c9.post (fun r9 n9 h9 hq2 => ?_)
    obtain ⟨rfl, hq2⟩ := hq2
    rcases hq2 with ⟨b1, rfl, rfl⟩ | ⟨b1, -⟩
    · exact ⟨rfl, LI.mk0 hn G hM R l2 l3⟩
    · exact absurd ⟨by omega, b1.2.1, by omega⟩ a1
  · have ht2 : 0 ≤ ty ∧ ty < (SL.length : Int) := by omega
    obtain ⟨p', e1, -, -, e2⟩ := ss.get ht2
    rw [a2] at e1
    injection e1 with e1
    subst e1
    have e3 := (e2 op a1.2.1.1 a1.2.1.2).1
    rcases hq with ⟨a3, rfl, rfl⟩ | ⟨a3, rfl, G', k⟩
    · refine ⟨0, rfl, md_fs hM, ?_⟩
      have c9 := ct_150 (X := X) (d := d) (n := n') (m := b + 25) (V := V) (B := B) (h0 := h') (by omega) hty hop hc (by omega) (by omega) hdc
      rw [hM] at c9
      refine c9.post (fun r9 n9 h9 hq2 => ?_)
      obtain ⟨rfl, hq2⟩ := hq2
      rcases hq2 with ⟨b1, -⟩ | ⟨b1, ⟨b2, rfl, rfl⟩ | ⟨b2, -⟩⟩
      · exact absurd ⟨by omega, a1.2.1, by omega⟩ b1
      · exact ⟨rfl, LI.mk0 hn G hM R l2 l3⟩
      · exact absurd (e3.trans b2) a3
    · have hM' := md_mf hM k
      refine ⟨1, rfl, md_fs hM', ?_⟩
      have c9 := ct_150 (X := X) (d := d) (n := n') (m := b + 25) (V := V) (B := B) (h0 := h') (by omega) hty hop hc (by omega) (by omega) hdc
      rw [hM'] at c9
      refine c9.post (fun r9 n9 h9 hq2 => ?_)
      obtain ⟨rfl, hq2⟩ := hq2
      rcases hq2 with ⟨b1, -⟩ | ⟨b1, ⟨b2, -⟩ | ⟨b2, rfl, rfl⟩⟩
      · exact absurd ⟨by omega, a1.2.1, by omega⟩ b1
      · exact absurd (e3.symm.trans a3) b2
      · exact ⟨rfl, LI.mk hn G' hM' (R.decl ht2 a1.2.1 (by omega) (by omega) a2) (by omega) (by omega)⟩
theorem cm_tick (hd : 5 ≤ d) (ht : t ≤ 600) (L : LI X b n h t) {x : Int} (hx : -2147483648 ≤ x ∧ x < 2147483648) : zz_Ct X mm_62 d 0 0 [.ref b, zv x] n h (P2 X b t d mm_147 [.ref (b + 25), zv x]) := by
  obtain ⟨hn, V, B, S, A, E, RL, UL, SL, T1, T2, G, hM, R, l2, l3⟩ := L
  obtain ⟨p9, pch, ⟨p13, pW⟩, pV, pRl, -, ⟨p1, p0, p2, p3⟩, ⟨p14, p16, p18, -, -⟩, ⟨q1, q2, q3, -, -⟩⟩ := G.2.1
  obtain ⟨⟨c0, c1, c2, c3, c4, c5, c6, c51, c29, c24⟩, ⟨n1, n2, n3⟩, ⟨u1, u2, u3, u4⟩, ⟨d1, d2, d3, d4⟩, ⟨m20, m22⟩, -, pp, us, ss, -, -⟩ := id R
  refine (gm_62 hd G hn hx (by omega)).post (fun r n' h' hq => ?_)
  obtain ⟨rfl, hq⟩ := hq
  rcases hq with ⟨a1, rfl, S', s1, s2, G', k⟩ | ⟨a1, rfl, rfl⟩
  · have hM' := md_mf hM k
    refine ⟨1, rfl, md_fs hM', ?_⟩
    have c9 := ct_147 (X := X) (d := d) (n := n') (m := b + 25) (V := V) (B := B) (h0 := h') hx
    rw [hM'] at c9
    refine c9.post (fun r9 n9 h9 hq2 => ?_)
    obtain ⟨rfl, hq2⟩ := hq2
    rcases hq2 with ⟨b1, rfl, rfl⟩ | ⟨b1, -⟩
    · exact ⟨rfl, LI.mk hn G' hM' ((R.tick a1.1).cgS (up_S s1 s2)) (by omega) (by rw [s2 3 (by decide) (by decide)]; omega)⟩
    · exact absurd a1 b1
  · refine ⟨0, rfl, md_fs hM, ?_⟩
    have c9 := ct_147 (X := X) (d := d) (n := n') (m := b + 25) (V := V) (B := B) (h0 := h') hx
    rw [hM] at c9
    refine c9.post (fun r9 n9 h9 hq2 => ?_)
    obtain ⟨rfl, hq2⟩ := hq2
    rcases hq2 with ⟨b1, -⟩ | ⟨b1, rfl, rfl⟩
    · exact absurd b1 a1
    · exact ⟨rfl, LI.mk0 hn G hM R l2 l3⟩
theorem cm_login (hd : 10 ≤ d) (ht : t ≤ 600) (L : LI X b n h t) {u pw sid rm : Int} (hu : -2147483648 ≤ u ∧ u < 2147483648) (hpw : -2147483648 ≤ pw ∧ pw < 2147483648) (hsid : -2147483648 ≤ sid ∧ sid < 2147483648) (hrm : rm = 0 ∨ rm = 1) : zz_Ct X mm_67 d 4 42 [.ref b, zv u, zv pw, zv sid, zv rm] n h (P2 X b t d mm_139 [.ref (b + 25), zv u, zv pw, zv sid, zv rm]) := by
  obtain ⟨hn, V, B, S, A, E, RL, UL, SL, T1, T2, G, hM, R, l2, l3⟩ := L
  obtain ⟨p9, pch, ⟨p13, pW⟩, pV, pRl, -, ⟨p1, p0, p2, p3⟩, ⟨p14, p16, p18, -, -⟩, ⟨q1, q2, q3, -, -⟩⟩ := G.2.1
  obtain ⟨⟨c0, c1, c2, c3, c4, c5, c6, c51, c29, c24⟩, ⟨n1, n2, n3⟩, ⟨u1, u2, u3, u4⟩, ⟨d1, d2, d3, d4⟩, ⟨m20, m22⟩, -, pp, us, ss, -, -⟩ := id R
  refine (gm_67 hd G hn hu hpw hsid hrm (by omega)).post (fun r n' h' hq => ?_)
  obtain ⟨hnn, hq⟩ := hq
  rcases hq with ⟨a1, rfl, rfl⟩ | ⟨p, a1, a2, hq⟩
  · refine ⟨-1, rfl, md_fs hM, ?_⟩
    have c9 := ct_139 (X := X) (d := d) (n := n') (m := b + 25) (V := V) (B := B) (h0 := h') (by omega) (R.mdR p2 p3) R.mdU hu hsid hrm (by omega) (by omega) (pw := pw)
    rw [hM] at c9
    refine c9.post (fun r9 n9 h9 hq2 => ?_)
    obtain ⟨rfl, hq2⟩ := hq2
    rcases hq2 with ⟨b1, rfl, rfl⟩ | ⟨b1, -⟩
    · exact ⟨rfl, LI.mk0 (by omega) G hM R l2 l3⟩
    · exact absurd (by omega) a1
  · have hul : 0 ≤ u ∧ u < (UL.length : Int) := by omega
    have e := R.uget hul.1 a2
    have e3 : p.2.2.1 = B 3 u := by rw [e]
    have e4 : p.2.2.2.1 = B 4 u := by rw [e]
    have e5 : p.2.2.2.2.1 = B 5 u := by rw [e]
    have e6 : p.2.2.2.2.2.1 = B 6 u := by rw [e]
    have e7 : p.2.2.2.2.2.2 = B 7 u := by rw [e]
    rw [e3, e4, e5, e6, e7] at hq
    rcases hq with ⟨a3, rfl, rfl⟩ | ⟨a3, a4, a5, rfl, G', k⟩ | ⟨a3, a4, a5, rfl, G', k⟩ | ⟨a3, a4, D, x, v, S', E', hx, rfl, s2, k, hfin⟩
    · refine ⟨-2, rfl, md_fs hM, ?_⟩
      have c9 := ct_139 (X := X) (d := d) (n := n') (m := b + 25) (V := V) (B := B) (h0 := h') (by omega) (R.mdR p2 p3) R.mdU hu hsid hrm (by omega) (by omega) (pw := pw)
      rw [hM] at c9
      refine c9.post (fun r9 n9 h9 hq2 => ?_)
      obtain ⟨rfl, hq2⟩ := hq2
      rcases hq2 with ⟨b1, -⟩ | ⟨b1, ⟨b2, rfl, rfl⟩ | ⟨b2, -⟩ | ⟨b2, -⟩ | ⟨b2, -⟩⟩
      · exact absurd (by omega) b1
      · exact ⟨rfl, LI.mk0 (by omega) G hM R l2 l3⟩
      all_goals exact absurd (by omega) b2
    · have hM' := md_mf hM k
      refine ⟨-3, rfl, md_fs hM', ?_⟩
      have c9 := ct_139 (X := X) (d := d) (n := n') (m := b + 25) (V := V) (B := B) (h0 := h') (by omega) (R.mdR p2 p3) R.mdU hu hsid hrm (by omega) (by omega) (pw := pw)
      rw [hM'] at c9
      refine c9.post (fun r9 n9 h9 hq2 => ?_)
      obtain ⟨rfl, hq2⟩ := hq2
      rcases hq2 with ⟨b1, -⟩ | ⟨b1, ⟨b2, -⟩ | ⟨b2, b3, b4, rfl, rfl⟩ | ⟨b2, b3, b4, -⟩ | ⟨b2, b3, -⟩⟩
      · exact absurd (by omega) b1
      · exact absurd (by omega) a3
      · have R' := R.wrong hul a2 b4
        rw [e3, e4, e5, e6, e7] at R'
        exact ⟨rfl, LI.mk (by omega) G' hM' R' (by omega) (by omega)⟩
      · omega
      · exact absurd b3 a4
    · have hM' := md_mf hM k
      refine ⟨-3, rfl, md_fs hM', ?_⟩
      have c9 := ct_139 (X := X) (d := d) (n := n') (m := b + 25) (V := V) (B := B) (h0 := h') (by omega) (R.mdR p2 p3) R.mdU hu hsid hrm (by omega) (by omega) (pw := pw)
      rw [hM'] at c9
      refine c9.post (fun r9 n9 h9 hq2 => ?_)
      obtain ⟨rfl, hq2⟩ := hq2
      rcases hq2 with ⟨b1, -⟩ | ⟨b1, ⟨b2, -⟩ | ⟨b2, b3, b4, -⟩ | ⟨b2, b3, b4, rfl, rfl⟩ | ⟨b2, b3, -⟩⟩
      · exact absurd (by omega) b1
      · exact absurd (by omega) a3
      · omega
      · have R' := R.lock hul a2 p2
        rw [e3, e4, e5] at R'
        exact ⟨rfl, LI.mk (by omega) G' hM' R' (by show S 2 ≤ _; omega) (by show S 3 ≤ _; omega)⟩
      · exact absurd b3 a4
    · have hM' := md_mf hM k
      refine ⟨D + 1, rfl, md_fs hM', ?_⟩
      have c9 := ct_139 (X := X) (d := d) (n := n') (m := b + 25) (V := V) (B := B) (h0 := h') (by omega) (R.mdR p2 p3) R.mdU hu hsid hrm (by omega) (by omega) (pw := pw)
      rw [hM'] at c9
      refine c9.post (fun r9 n9 h9 hq2 => ?_)
      obtain ⟨rfl, hq2⟩ := hq2
      rcases hq2 with ⟨b1, -⟩ | ⟨b1, ⟨b2, -⟩ | ⟨b2, b3, -⟩ | ⟨b2, b3, -⟩ | ⟨b2, b3, V1, B1, B2, m1, m2, rfl, hfin2⟩⟩
      · exact absurd (by omega) b1
      · exact absurd (by omega) a3
      · exact absurd a4 b3
      · exact absurd a4 b3
      · rw [← e3, ← e4, ← e5, ← e7] at hx
        obtain ⟨R1, eD⟩ := R.good hul a2 p3 (hs_of_rg _ _ _ (by omega)) hx m1
        have hD : S 3 ≤ D ∧ D ≤ S 3 + 1 := by rcases hx with ⟨_, h, _⟩ | ⟨_, h, _⟩ <;> omega
        have hlen : 0 ≤ u ∧ u < ((UL.set u.toNat (p.1, x)).length : Int) := by rw [List.length_set]; exact hul
        have R2 := R1.outs (sid := sid) m2
        have R3 := R2.mkS (re := 0) v hlen (by show 0 ≤ S 2; omega) (by show 0 ≤ D; omega) (Or.inl rfl)
        rcases hfin with ⟨f1, f2, G'⟩ | ⟨f1, f2, w, G'⟩
        · rcases hfin2 with ⟨g1, rfl⟩ | ⟨g1, -⟩
          · refine ⟨by rw [eD], LI.mk (by omega) G' hM' (RX.cgS R3 (fun i hi _ _ _ => ?_)) (by rw [s2 2 (by decide) (by decide)]; omega) (by omega)⟩
            by_cases e : i = 3
            · subst e; exact f2
            · rw [s2 i hi e]
              show S i = va_up (va_up S 3 D) 3 _ i
              rw [va_up_ne _ _ e, va_up_ne _ _ e]
          · omega
        · rcases hfin2 with ⟨g1, -⟩ | ⟨g1, rfl⟩
          · omega
          · have R4 := R3.mkR w hlen (by show 0 ≤ D + 2; omega)
            refine ⟨by rw [eD], LI.mk (by omega) G' hM' (V' := va_up V1 0 (V1 0 + 4)) (B' := mt_B (mk_B B2 (ms_of V1 B2 u) (V1 0) 0 (V1 1)) (mt_of B2 u) (V1 0 + 2)) ?_ (by rw [s2 2 (by decide) (by decide)]; omega) (by omega)⟩
            have e4 : va_up (va_up V1 0 (V1 0 + 2)) 0 ((va_up V1 0 (V1 0 + 2)) 0 + 2) = va_up V1 0 (V1 0 + 4) := by
              funext i
              unfold va_up
              by_cases hi : i = 0
              · rw [if_pos hi, if_pos hi, if_pos rfl]; omega
              · rw [if_neg hi, if_neg hi, if_neg hi]
            rw [e4] at R4
            refine RX.cgS (S := va_up (va_up (va_up S 3 D) 3 (D + 2)) 3 (D + 4)) ?_ (fun i hi _ _ _ => ?_)
            · have e5 : va_up (va_up (va_up S 3 D) 3 ((va_up S 3 D) 3 + 2)) 3 ((va_up (va_up S 3 D) 3 ((va_up S 3 D) 3 + 2)) 3 + 2) = va_up (va_up (va_up S 3 D) 3 (D + 2)) 3 (D + 4) := by
                have e6 : (va_up S 3 D) 3 = D := va_up_self _ _ _
                rw [e6, va_up_self, show D + 2 + 2 = D + 4 by omega]
              rw [e5] at R4
              have e7 : (va_up (va_up S 3 D) 3 ((va_up S 3 D) 3 + 2)) 3 + 1 = D + 3 := by
                have e6 : (va_up S 3 D) 3 = D := va_up_self _ _ _
                rw [e6, va_up_self]; omega
              have e8 : (va_up (va_up S 3 D) 3 ((va_up S 3 D) 3 + 2)) 3 + 2 = D + 4 := by
                have e6 : (va_up S 3 D) 3 = D := va_up_self _ _ _
                rw [e6, va_up_self]; omega
              rw [e7, e8] at R4
              exact R4
            · by_cases e : i = 3
              · subst e; exact f2
              · rw [s2 i hi e, va_up_ne _ _ e, va_up_ne _ _ e, va_up_ne _ _ e]
theorem cm_logout (hd : 5 ≤ d) (ht : t ≤ 600) (L : LI X b n h t) {x : Int} (hx : -2147483648 ≤ x ∧ x < 2147483648) : zz_Ct X mm_80 d 0 0 [.ref b, zv x] n h (P2 X b t d mm_145 [.ref (b + 25), zv x]) := by
  obtain ⟨hn, V, B, S, A, E, RL, UL, SL, T1, T2, G, hM, R, l2, l3⟩ := L
  obtain ⟨p9, pch, ⟨p13, pW⟩, pV, pRl, -, ⟨p1, p0, p2, p3⟩, ⟨p14, p16, p18, -, -⟩, ⟨q1, q2, q3, -, -⟩⟩ := G.2.1
  obtain ⟨⟨c0, c1, c2, c3, c4, c5, c6, c51, c29, c24⟩, ⟨n1, n2, n3⟩, ⟨u1, u2, u3, u4⟩, ⟨d1, d2, d3, d4⟩, ⟨m20, m22⟩, -, pp, us, ss, -, -⟩ := id R
  refine (gm_80 hd G hn hx).post (fun r n' h' hq => ?_)
  obtain ⟨rfl, hq⟩ := hq
  have hlo := R.logout (sid := x)
  rcases hq with ⟨a1, rfl, rfl⟩ | ⟨q, a1, rfl, S', s2, G', k⟩
  · refine ⟨0, rfl, md_fs hM, ?_⟩
    have c9 := ct_145 (X := X) (d := d) (n := n') (m := b + 25) (V := V) (B := B) (h0 := h') (by omega) (R.mdR p2 p3) hx
    rw [hM] at c9
    refine c9.post (fun r9 n9 h9 hq2 => ?_)
    obtain ⟨rfl, hq2⟩ := hq2
    rcases hq2 with ⟨b1, rfl, rfl⟩ | ⟨b1, -⟩
    · exact ⟨rfl, LI.mk0 hn G hM R l2 l3⟩
    · rcases hlo with ⟨-, h2⟩ | ⟨q, h1, -⟩
      · omega
      · rw [a1] at h1; exact absurd h1 (by simp)
  · have hM' := md_mf hM k
    refine ⟨1, rfl, md_fs hM', ?_⟩
    have c9 := ct_145 (X := X) (d := d) (n := n') (m := b + 25) (V := V) (B := B) (h0 := h') (by omega) (R.mdR p2 p3) hx
    rw [hM'] at c9
    refine c9.post (fun r9 n9 h9 hq2 => ?_)
    obtain ⟨rfl, hq2⟩ := hq2
    rcases hlo with ⟨h1, -⟩ | ⟨q', h1, h2, R'⟩
    · rw [a1] at h1; exact absurd h1 (by simp)
    · rw [a1] at h1
      injection h1 with h1
      subst h1
      rcases hq2 with ⟨b1, -⟩ | ⟨b1, rfl, rfl⟩
      · omega
      · exact ⟨rfl, LI.mk hn G' hM' (R'.cgS (fun i hi _ _ _ => s2 i hi)) (by rw [s2 2 (by decide)]; omega) (by rw [s2 3 (by decide)]; omega)⟩
theorem cm_open (hd : 11 ≤ d) (ht : t ≤ 600) (L : LI X b n h t) {me sid sec ser tok : Int} (hme : -2147483648 ≤ me ∧ me < 2147483648) (hsid : -2147483648 ≤ sid ∧ sid < 2147483648) (hsec : -2147483648 ≤ sec ∧ sec < 2147483648) (hser : -2147483648 ≤ ser ∧ ser < 2147483648) (htok : -2147483648 ≤ tok ∧ tok < 2147483648) : zz_Ct X mm_83 d 2 21 [.ref b, zv me, zv sid, zv sec, zv ser, zv tok] n h (P2 X b t d mm_156 [.ref (b + 25), zv me, zv sid, zv sec, zv ser, zv tok]) := by
  obtain ⟨hn, V, B, S, A, E, RL, UL, SL, T1, T2, G, hM, R, l2, l3⟩ := L
  obtain ⟨p9, pch, ⟨p13, pW⟩, pV, pRl, -, ⟨p1, p0, p2, p3⟩, ⟨p14, p16, p18, -, -⟩, ⟨q1, q2, q3, -, -⟩⟩ := G.2.1
  obtain ⟨⟨c0, c1, c2, c3, c4, c5, c6, c51, c29, c24⟩, ⟨n1, n2, n3⟩, ⟨u1, u2, u3, u4⟩, ⟨d1, d2, d3, d4⟩, ⟨m20, m22⟩, -, pp, us, ss, -, -⟩ := id R
  refine (gm_83 hd G hn hme hsid hsec hser htok (by omega)).post (fun r n' h' hq => ?_)
  obtain ⟨hnn, hq⟩ := hq
  rcases hq with ⟨a1, rfl, rfl⟩ | ⟨a1, a2, rfl, S', A', s1, s2, ha, G', k⟩ | ⟨a1, L, ask, pr, S1, T1', T2', SF, r', S', A', E', a2, hk, hde, rfl, s1, s2, ha, G', k⟩
  · refine ⟨-1, rfl, md_fs hM, ?_⟩
    have c9 := ct_156 (X := X) (d := d) (n := n') (m := b + 25) (V := V) (B := B) (h0 := h') (by omega) pp n2 ⟨by rw [c29]; exact p9, fun i i1 i2 => by rw [d1]; exact pch i i1 (by omega)⟩ m22 (R.mdR p2 p3) (by rw [d2, d3, d4, c24]; exact pW) m20 (by omega) (by omega) (by rw [c51]; exact p1) hme hsid hsec hser htok
    rw [hM] at c9
    refine c9.post (fun r9 n9 h9 hq2 => ?_)
    obtain ⟨rfl, hq2⟩ := hq2
    rcases hq2 with ⟨b1, rfl, rfl⟩ | ⟨b1, -⟩
    · exact ⟨rfl, LI.mk0 (by omega) G hM R l2 l3⟩
    · exact absurd ⟨b1.1, by omega⟩ a1
  · have hM' := md_mf hM k
    refine ⟨400, rfl, md_fs hM', ?_⟩
    have c9 := ct_156 (X := X) (d := d) (n := n') (m := b + 25) (V := V) (B := B) (h0 := h') (by omega) pp n2 ⟨by rw [c29]; exact p9, fun i i1 i2 => by rw [d1]; exact pch i i1 (by omega)⟩ m22 (R.mdR p2 p3) (by rw [d2, d3, d4, c24]; exact pW) m20 (by omega) (by omega) (by rw [c51]; exact p1) hme hsid hsec hser htok
    rw [hM'] at c9
    refine c9.post (fun r9 n9 h9 hq2 => ?_)
    obtain ⟨rfl, hq2⟩ := hq2
    rcases hq2 with ⟨b1, -⟩ | ⟨b1, x, BR, g1, g2, ⟨g3, rfl, rfl⟩ | ⟨L, _, _, _, _, _, _, g3, -⟩⟩
    · exact absurd ⟨a1.1, by omega⟩ b1
    · refine ⟨rfl, LI.mk (by omega) G' hM' (R.clear.cg (fun i h35 _ _ => ?_) (g1.wk (by decide)) (by rw [g1 20 (by decide)]; exact m20) g2 (fun i hi i1 i2 i3 => ?_) (ha.wk (by decide))) (by rw [s2 2 (by decide) (by decide) (by decide) (by decide) (by decide)]; omega) (by rw [s2 3 (by decide) (by decide) (by decide) (by decide) (by decide)]; omega)⟩
      · unfold va_up
        by_cases h29 : i = 29
        · rw [if_pos h29, if_pos h29]
        · rw [if_neg h29, if_neg h29, if_neg h35]
      · by_cases e : i = 9
        · subst e; rw [va_up_self]; exact s1
        · rw [va_up_ne _ _ e]; exact s2 i hi e i1 i2 i3
    · rw [d1, c29, a2] at g3
      exact absurd g3 (by simp)
  · have hM' := md_mf hM k
    refine ⟨_, rfl, md_fs hM', ?_⟩
    have c9 := ct_156 (X := X) (d := d) (n := n') (m := b + 25) (V := V) (B := B) (h0 := h') (by omega) pp n2 ⟨by rw [c29]; exact p9, fun i i1 i2 => by rw [d1]; exact pch i i1 (by omega)⟩ m22 (R.mdR p2 p3) (by rw [d2, d3, d4, c24]; exact pW) m20 (by omega) (by omega) (by rw [c51]; exact p1) hme hsid hsec hser htok
    rw [hM'] at c9
    refine c9.post (fun r9 n9 h9 hq2 => ?_)
    obtain ⟨rfl, hq2⟩ := hq2
    rcases hq2 with ⟨b1, -⟩ | ⟨b1, x, BR, g1, g2, ⟨g3, -⟩ | ⟨L2, s, V1, B1, r2', V2, B2, g3, g4, g5, rfl, g6, g7, rfl⟩⟩
    · exact absurd ⟨a1.1, by omega⟩ b1
    · rw [d1, c29, a2] at g3
      exact absurd g3 (by simp)
    · rw [d1, c29, a2] at g3
      injection g3 with g3
      subst g3
      have R0 : RX (va_up (va_up V 35 x) 29 0) BR (va_up S 9 0) A RL UL SL T1 T2 := R.clear.cg (fun i h35 _ _ => by
        unfold va_up
        by_cases h29 : i = 29
        · rw [if_pos h29, if_pos h29]
        · rw [if_neg h29, if_neg h29, if_neg h35]) (g1.wk (by decide)) (by rw [g1 20 (by decide)]; exact m20) g2 (fun _ _ _ _ _ => rfl) ax.rf
      obtain ⟨R1, k1, k2, k3, k4, k5⟩ := R0.ask p2.1 p3.1 hk g4
      have hS1 : S1 13 = S 13 ∧ S1 2 = S 2 ∧ S1 3 ≤ S 3 + 3 := by
        rcases hk with ⟨_, _, _, _, _, _, h, _⟩ | ⟨_, _, ⟨_, _, h, _⟩ | ⟨_, _, _, _, ⟨_, _, h, _⟩ | ⟨_, _, h, _⟩⟩⟩ <;> subst h
        · exact ⟨rfl, rfl, by omega⟩
        · exact ⟨rfl, rfl, by omega⟩
        · exact ⟨rfl, rfl, by show S 3 ≤ _; omega⟩
        · exact ⟨rfl, rfl, by show S 3 + 3 ≤ _; omega⟩
      have hSF : SF 2 = S1 2 ∧ SF 3 = S1 3 := by
        rcases hde with ⟨_, _, h⟩ | ⟨_, ⟨_, _, h⟩ | ⟨_, _, _, ⟨_, _, h⟩ | ⟨_, _, h⟩⟩⟩ <;> subst h <;> exact ⟨rfl, rfl⟩
      obtain ⟨e1, R2⟩ := R1.deci pRl hS1.1 k1 k2 k3 k5 hde g5
      subst e1
      refine ⟨rfl, LI.mk (by omega) G' hM' (R2.cg (fun _ _ _ _ => rfl) (g6.wk (by decide)) g7 (by rw [g6 22 (by decide)]; exact R1.2.2.2.2.1.2) (fun i hi i1 i2 i3 => ?_) (ha.wk (by decide))) (by rw [s2 2 (by decide) (by decide) (by decide) (by decide) (by decide)]; omega) (by rw [s2 3 (by decide) (by decide) (by decide) (by decide) (by decide)]; omega)⟩
      by_cases e : i = 9
      · subst e; rw [va_up_self]; exact s1
      · rw [va_up_ne _ _ e]; exact s2 i hi e i1 i2 i3
theorem cm_call (hd : 6 ≤ d) (ht : t ≤ 600) (L : LI X b n h t) {ty op x : Int} (hty : -2147483648 ≤ ty ∧ ty < 2147483648) (hop : -2147483648 ≤ op ∧ op < 2147483648) (hx : -2147483648 ≤ x ∧ x < 2147483648) : zz_Ct X mm_113 d 0 0 [.ref b, zv ty, zv op, zv x] n h (P2 X b t d mm_151 [.ref (b + 25), zv ty, zv op, zv x]) := by
  obtain ⟨hn, V, B, S, A, E, RL, UL, SL, T1, T2, G, hM, R, l2, l3⟩ := L
  obtain ⟨p9, pch, ⟨p13, pW⟩, pV, pRl, -, ⟨p1, p0, p2, p3⟩, ⟨p14, p16, p18, -, -⟩, ⟨q1, q2, q3, -, -⟩⟩ := G.2.1
  obtain ⟨⟨c0, c1, c2, c3, c4, c5, c6, c51, c29, c24⟩, ⟨n1, n2, n3⟩, ⟨u1, u2, u3, u4⟩, ⟨d1, d2, d3, d4⟩, ⟨m20, m22⟩, -, pp, us, ss, -, -⟩ := id R
  have hgx : ((0 ≤ ty ∧ ty < V 45) ∧ (0 ≤ op ∧ op < 4) ∧ 0 ≤ (wl_run B op 6 ty)) → (gl_run B op 6 ty (mc_at B op (wl_run B op 6 ty))) < V 24 := fun hh => by
    rcases R.call pRl (x := x) hh.2.1 (by omega : 0 ≤ ty ∧ ty < (SL.length : Int)) with ⟨_, h⟩ | ⟨_, _, h, _⟩
    · omega
    · exact h
  refine (gm_113 hd G hn hty hop hx).post (fun r n' h' hq => ?_)
  obtain ⟨rfl, hq⟩ := hq
  rcases hq with ⟨a1, rfl, rfl⟩ | ⟨a1, a2, rfl, v', G', k⟩ | ⟨a1, a2, rfl, v', G', k⟩
  · refine ⟨-1, rfl, md_fs hM, ?_⟩
    have c9 := ct_151 (X := X) (d := d) (n := n') (m := b + 25) (V := V) (B := B) (h0 := h') (by omega) R.mdT (by rw [d2, d3, d4, c24]; exact pW) m20 hty hop hx (by omega) (by omega) (by omega) u3 hgx
    rw [hM] at c9
    refine c9.post (fun r9 n9 h9 hq2 => ?_)
    obtain ⟨rfl, hq2⟩ := hq2
    have hno : ((0 ≤ ty ∧ ty < V 45) ∧ (0 ≤ op ∧ op < 4) ∧ 0 ≤ (wl_run B op 6 ty)) → False := fun hh => by
      rcases R.call pRl (x := x) hh.2.1 (by omega : 0 ≤ ty ∧ ty < (SL.length : Int)) with ⟨_, h⟩ | ⟨h, _⟩
      · omega
      · exact a1 ⟨hh.2.1, h⟩
    rcases hq2 with ⟨b1, rfl, rfl⟩ | ⟨b1, -⟩ | ⟨b1, -⟩
    · exact ⟨rfl, LI.mk0 hn G hM R l2 l3⟩
    · exact absurd b1 hno
    · exact absurd b1 hno
  all_goals
    have hin : 0 ≤ ty ∧ ty < (SL.length : Int) := by
      rcases Classical.em (0 ≤ ty ∧ ty < (SL.length : Int)) with h | h
      · exact h
      · exact absurd (ty_no h) a1.2
    have hcl := R.call pRl (x := x) a1.1 hin
    rcases hcl with ⟨h1, -⟩ | ⟨h1, h2, h3, h4⟩
    · exact absurd h1 a1.2
    have hyes : (0 ≤ ty ∧ ty < V 45) ∧ (0 ≤ op ∧ op < 4) ∧ 0 ≤ (wl_run B op 6 ty) := ⟨by omega, a1.1, h2⟩
    have hM' := md_mf hM k
    refine ⟨_, rfl, md_fs hM', ?_⟩
    have c9 := ct_151 (X := X) (d := d) (n := n') (m := b + 25) (V := V) (B := B) (h0 := h') (by omega) R.mdT (by rw [d2, d3, d4, c24]; exact pW) m20 hty hop hx (by omega) (by omega) (by omega) u3 hgx
    rw [hM'] at c9
    refine c9.post (fun r9 n9 h9 hq2 => ?_)
    obtain ⟨rfl, hq2⟩ := hq2
    rcases hq2 with ⟨b1, -⟩ | ⟨b1, b2, rfl, B2, g1, g2, rfl⟩ | ⟨b1, b2, rfl, B2, g1, g2, rfl⟩
    · exact absurd hyes b1
    · first
        | exact ⟨rfl, LI.mk hn G' hM' (R.runs.cg (fun _ _ _ _ => rfl) (g1.wk (by decide)) g2 (by rw [g1 22 (by decide)]; exact m22) (fun _ _ _ _ _ => rfl) (ax.rf.up (by decide))) (by show S 2 ≤ _; omega) (by show S 3 ≤ _; omega)⟩
        | exact absurd (h4.2 b2) a2
    · first
        | exact absurd (h4.1 a2) b2
        | exact ⟨rfl, LI.mk hn G' hM' (R.keeps.cg (fun _ _ _ _ => rfl) (g1.wk (by decide)) g2 (by rw [g1 22 (by decide)]; exact m22) (fun _ _ _ _ _ => rfl) (ax.rf.up (by decide))) (by show S 2 ≤ _; omega) (by show S 3 ≤ _; omega)⟩
theorem cm_close (hd : 0 ≤ d) (ht : t ≤ 600) (L : LI X b n h t)  : zz_Ct X mm_119 d 0 0 [.ref b] n h (P2 X b t d mm_165 [.ref (b + 25)]) := by
  obtain ⟨hn, V, B, S, A, E, RL, UL, SL, T1, T2, G, hM, R, l2, l3⟩ := L
  obtain ⟨p9, pch, ⟨p13, pW⟩, pV, pRl, -, ⟨p1, p0, p2, p3⟩, ⟨p14, p16, p18, -, -⟩, ⟨q1, q2, q3, -, -⟩⟩ := G.2.1
  obtain ⟨⟨c0, c1, c2, c3, c4, c5, c6, c51, c29, c24⟩, ⟨n1, n2, n3⟩, ⟨u1, u2, u3, u4⟩, ⟨d1, d2, d3, d4⟩, ⟨m20, m22⟩, -, pp, us, ss, -, -⟩ := id R
  refine (gm_119 hd G).post (fun r n' h' hq => ?_)
  obtain ⟨rfl, hq⟩ := hq
  rcases hq with ⟨a1, rfl, rfl⟩ | ⟨a1, rfl, G', k⟩
  · refine ⟨0, rfl, md_fs hM, ?_⟩
    have c9 := ct_165 (X := X) (d := d) (n := n') (m := b + 25) (V := V) (B := B) (h0 := h') (by rw [c51]; exact p1)
    rw [hM] at c9
    refine c9.post (fun r9 n9 h9 hq2 => ?_)
    obtain ⟨rfl, rfl, rfl⟩ := hq2
    exact ⟨by rw [c51, a1], LI.mk hn G hM (R.close0 a1) (by omega) (by omega)⟩
  · have hM' := md_mf hM k
    refine ⟨1, rfl, md_fs hM', ?_⟩
    have c9 := ct_165 (X := X) (d := d) (n := n') (m := b + 25) (V := V) (B := B) (h0 := h') (by rw [c51]; exact p1)
    rw [hM'] at c9
    refine c9.post (fun r9 n9 h9 hq2 => ?_)
    obtain ⟨rfl, rfl, rfl⟩ := hq2
    exact ⟨by rw [c51, a1], LI.mk hn G' hM' R.close1 (by show S 2 ≤ _; omega) (by show S 3 ≤ _; omega)⟩
theorem cm_who (hd : 0 ≤ d) (ht : t ≤ 600) (L : LI X b n h t)  : zz_Ct X mm_120 d 0 0 [.ref b] n h (P2 X b t d mm_166 [.ref (b + 25)]) := by
  obtain ⟨hn, V, B, S, A, E, RL, UL, SL, T1, T2, G, hM, R, l2, l3⟩ := L
  obtain ⟨p9, pch, ⟨p13, pW⟩, pV, pRl, -, ⟨p1, p0, p2, p3⟩, ⟨p14, p16, p18, -, -⟩, ⟨q1, q2, q3, -, -⟩⟩ := G.2.1
  obtain ⟨⟨c0, c1, c2, c3, c4, c5, c6, c51, c29, c24⟩, ⟨n1, n2, n3⟩, ⟨u1, u2, u3, u4⟩, ⟨d1, d2, d3, d4⟩, ⟨m20, m22⟩, -, pp, us, ss, -, -⟩ := id R
  have c8 := ct_120 (X := X) (d := d) (n := n) (b := b) (S := S) (A := A) (E := E) (h0 := h)
  rw [cl_id G.1] at c8
  refine c8.post (fun r n' h' hq => ?_)
  obtain ⟨rfl, rfl, rfl⟩ := hq
  refine ⟨_, rfl, md_fs hM, ?_⟩
  have c9 := ct_166 (X := X) (d := d) (n := n') (m := b + 25) (V := V) (B := B) (h0 := h') (by omega) u3
  rw [hM] at c9
  refine c9.post (fun r9 n9 h9 hq2 => ?_)
  obtain ⟨rfl, rfl, rfl⟩ := hq2
  exact ⟨by rw [u1]; rfl, LI.mk0 hn G hM R l2 l3⟩
theorem cm_count (hd : 0 ≤ d) (ht : t ≤ 600) (L : LI X b n h t) {k : Int} (hk : -2147483648 ≤ k ∧ k < 2147483648) : zz_Ct X mm_125 d 0 0 [.ref b, zv k] n h (P2 X b t d mm_171 [.ref (b + 25), zv k]) := by
  obtain ⟨hn, V, B, S, A, E, RL, UL, SL, T1, T2, G, hM, R, l2, l3⟩ := L
  obtain ⟨p9, pch, ⟨p13, pW⟩, pV, pRl, -, ⟨p1, p0, p2, p3⟩, ⟨p14, p16, p18, -, -⟩, ⟨q1, q2, q3, -, -⟩⟩ := G.2.1
  obtain ⟨⟨c0, c1, c2, c3, c4, c5, c6, c51, c29, c24⟩, ⟨n1, n2, n3⟩, ⟨u1, u2, u3, u4⟩, ⟨d1, d2, d3, d4⟩, ⟨m20, m22⟩, -, pp, us, ss, -, -⟩ := id R
  have c8 := ct_125 (X := X) (d := d) (n := n) (b := b) (S := S) (A := A) (E := E) (h0 := h) hk
  rw [cl_id G.1] at c8
  refine c8.post (fun r n' h' hq => ?_)
  obtain ⟨rfl, rfl, rfl⟩ := hq
  refine ⟨_, rfl, md_fs hM, ?_⟩
  have c9 := ct_171 (X := X) (d := d) (n := n') (m := b + 25) (V := V) (B := B) (h0 := h') hk
  rw [hM] at c9
  refine c9.post (fun r9 n9 h9 hq2 => ?_)
  obtain ⟨rfl, rfl, rfl⟩ := hq2
  exact ⟨by rw [c0, c1, c2, c3, c4, c5, c6], LI.mk0 hn G hM R l2 l3⟩
theorem cm_fits (hd : 6 ≤ d) (ht : t ≤ 600) (L : LI X b n h t) {r0 : Int} (hr0 : -2147483648 ≤ r0 ∧ r0 < 2147483648) : zz_Ct X mm_121 d 0 0 [.ref b, zv r0] n h (P2 X b t d mm_167 [.ref (b + 25), zv r0]) := by
  obtain ⟨hn, V, B, S, A, E, RL, UL, SL, T1, T2, G, hM, R, l2, l3⟩ := L
  obtain ⟨p9, pch, ⟨p13, pW⟩, pV, pRl, -, ⟨p1, p0, p2, p3⟩, ⟨p14, p16, p18, -, -⟩, ⟨q1, q2, q3, -, -⟩⟩ := G.2.1
  obtain ⟨⟨c0, c1, c2, c3, c4, c5, c6, c51, c29, c24⟩, ⟨n1, n2, n3⟩, ⟨u1, u2, u3, u4⟩, ⟨d1, d2, d3, d4⟩, ⟨m20, m22⟩, -, pp, us, ss, -, -⟩ := id R
  refine (gm_121 hd G hn hr0).post (fun r n' h' hq => ?_)
  obtain ⟨rfl, hq⟩ := hq
  rcases hq with ⟨a1, rfl, rfl⟩ | ⟨a1, S', A', s2, ha, G', k, hr⟩
  · refine ⟨-1, rfl, md_fs hM, ?_⟩
    have c9 := ct_167 (X := X) (d := d) (n := n') (m := b + 25) (V := V) (B := B) (h0 := h') (by omega) pp n2 ⟨by rw [c29]; exact p9, fun i i1 i2 => by rw [d1]; exact pch i i1 (by omega)⟩ m22 hr0
    rw [hM] at c9
    refine c9.post (fun r9 n9 h9 hq2 => ?_)
    obtain ⟨rfl, hq2⟩ := hq2
    rcases hq2 with ⟨b1, rfl, rfl⟩ | ⟨b1, -⟩
    · exact ⟨rfl, LI.mk0 hn G hM R l2 l3⟩
    · exact absurd b1 a1
  · have hM' := md_mf hM k
    have hz : ∃ z, r = some (zv z) ∧ ((sp_read (A 2) (S 9) = none ∧ z = -2) ∨ ∃ L p, sp_read (A 2) (S 9) = some L ∧ RL[r0.toNat]? = some p ∧ z = bz (sp_fits p.2.1 L)) := by
      rcases hr with ⟨h1, h2⟩ | ⟨L, p, h1, h2, h3⟩
      · exact ⟨-2, h2, Or.inl ⟨h1, rfl⟩⟩
      · exact ⟨_, h3, Or.inr ⟨L, p, h1, h2, rfl⟩⟩
    obtain ⟨z, rfl, hz⟩ := hz
    refine ⟨z, rfl, md_fs hM', ?_⟩
    have c9 := ct_167 (X := X) (d := d) (n := n') (m := b + 25) (V := V) (B := B) (h0 := h') (by omega) pp n2 ⟨by rw [c29]; exact p9, fun i i1 i2 => by rw [d1]; exact pch i i1 (by omega)⟩ m22 hr0
    rw [hM'] at c9
    refine c9.post (fun r9 n9 h9 hq2 => ?_)
    obtain ⟨rfl, hq2⟩ := hq2
    rcases hq2 with ⟨b1, -⟩ | ⟨b1, x, B2, g1, g2, rfl, g3⟩
    · exact absurd a1 b1
    · refine ⟨?_, LI.mk hn G' hM' (R.cg (fun i h35 _ _ => va_up_ne _ _ h35) (g1.wk (by decide)) (by rw [g1 20 (by decide)]; exact m20) g2 (fun i hi i1 i2 i3 => s2 i i1 i2 i3) (ha.wk (by decide))) (by rw [s2 2 (by decide) (by decide) (by decide)]; omega) (by rw [s2 3 (by decide) (by decide) (by decide)]; omega)⟩
      rw [d1, c29] at g3
      rcases hz with ⟨h1, h2⟩ | ⟨L, p, h1, h2, h3⟩
      · rcases g3 with ⟨g4, g5⟩ | ⟨L, p, g4, -⟩
        · rw [g5, h2]
        · rw [h1] at g4; exact absurd g4 (by simp)
      · rcases g3 with ⟨g4, -⟩ | ⟨L', p', g4, g5, g6⟩
        · rw [h1] at g4; exact absurd g4 (by simp)
        · rw [h1] at g4
          rw [h2] at g5
          injection g4 with g4
          injection g5 with g5
          subst g4 g5
          rw [g6, h3]
theorem cm_ses (hd : 4 ≤ d) (ht : t ≤ 600) (L : LI X b n h t) {u i w : Int} (hu : -2147483648 ≤ u ∧ u < 2147483648) (hi : -2147483648 ≤ i ∧ i < 2147483648) (hw : -2147483648 ≤ w ∧ w < 2147483648) : zz_Ct X mm_122 d 0 0 [.ref b, zv u, zv i, zv w] n h (P2 X b t d mm_168 [.ref (b + 25), zv u, zv i, zv w]) := by
  obtain ⟨hn, V, B, S, A, E, RL, UL, SL, T1, T2, G, hM, R, l2, l3⟩ := L
  obtain ⟨p9, pch, ⟨p13, pW⟩, pV, pRl, -, ⟨p1, p0, p2, p3⟩, ⟨p14, p16, p18, -, -⟩, ⟨q1, q2, q3, -, -⟩⟩ := G.2.1
  obtain ⟨⟨c0, c1, c2, c3, c4, c5, c6, c51, c29, c24⟩, ⟨n1, n2, n3⟩, ⟨u1, u2, u3, u4⟩, ⟨d1, d2, d3, d4⟩, ⟨m20, m22⟩, -, pp, us, ss, -, -⟩ := id R
  refine (gm_122 hd G hn hu hi hw).post (fun r n' h' hq => ?_)
  obtain ⟨rfl, rfl, hq⟩ := hq
  have hz : ∃ z, r = some (zv z) ∧ ((tk_of T1 u i = none ∧ z = -1) ∨ ∃ p, tk_of T1 u i = some p ∧ z = (if w = 0 then p.2.2.1 else if w = 1 then p.2.2.2.1 else if w = 2 then p.2.2.2.2.1 else -1)) := by
    rcases hq with ⟨h1, h2⟩ | ⟨p, h1, h2⟩
    · exact ⟨-1, h2, Or.inl ⟨h1, rfl⟩⟩
    · exact ⟨_, h2, Or.inr ⟨p, h1, rfl⟩⟩
  obtain ⟨z, rfl, hz⟩ := hz
  refine ⟨z, rfl, md_fs hM, ?_⟩
  have c9 := ct_168 (X := X) (d := d) (n := n') (m := b + 25) (V := V) (B := B) (h0 := h') (by omega) (R.mdR p2 p3) hu hi hw (by omega)
  rw [hM] at c9
  refine c9.post (fun r9 n9 h9 hq2 => ?_)
  obtain ⟨rfl, rfl, hq2⟩ := hq2
  refine ⟨?_, LI.mk0 hn G hM R l2 l3⟩
  by_cases hin : (0 ≤ u ∧ u < V 8) ∧ (0 ≤ i ∧ i ≤ 1)
  · rcases R.ses (u := u) (i := i) (by omega) hin.2 with ⟨h1, h2⟩ | ⟨p, h1, h2, h3⟩
    · have hz1 : z = -1 := by
        rcases hz with ⟨_, h⟩ | ⟨p, h, _⟩
        · exact h
        · rw [h1] at h; exact absurd h (by simp)
      rw [hz1]
      rcases hq2 with ⟨_, h⟩ | ⟨_, _, h⟩ | ⟨_, h, _⟩
      · exact h
      · exact h
      · omega
    · rcases hz with ⟨h, _⟩ | ⟨p', h, hz⟩
      · rw [h1] at h; exact absurd h (by simp)
      rw [h1] at h
      injection h with h
      subst h
      have k1 : p.2.2.1 = B 9 (sn_of (decide (mlv V B (2 * u))) (decide (mlv V B (2 * u + 1))) (B 9 (2 * u)) (B 9 (2 * u + 1)) u i) := by rw [← h3]
      have k2 : p.2.2.2.1 = B 10 (sn_of (decide (mlv V B (2 * u))) (decide (mlv V B (2 * u + 1))) (B 9 (2 * u)) (B 9 (2 * u + 1)) u i) := by rw [← h3]
      have k3 : p.2.2.2.2.1 = B 11 (sn_of (decide (mlv V B (2 * u))) (decide (mlv V B (2 * u + 1))) (B 9 (2 * u)) (B 9 (2 * u + 1)) u i) := by rw [← h3]
      rcases hq2 with ⟨hb, h⟩ | ⟨_, h, _⟩ | ⟨hb, _, _, h⟩
      · rw [h, hz]
        have hw2 : ¬ (0 ≤ w ∧ w ≤ 2) := fun hw2 => hb ⟨hin.1, hin.2, hw2⟩
        congr 2
        (repeat' split) <;> omega
      · omega
      · rw [h, hz]
        congr 2
        (repeat' split) <;> omega
  · have hno : tk_of T1 u i = none := by
      by_cases hu2 : 0 ≤ u ∧ u < (UL.length : Int)
      · exact (R.two (u := u) (i := i) (by omega) (fun h => hin ⟨by omega, h⟩)).1
      · exact (R.nos hu2).1
    have hz1 : z = -1 := by
      rcases hz with ⟨_, h⟩ | ⟨p, h, _⟩
      · exact h
      · rw [hno] at h; exact absurd h (by simp)
    rw [hz1]
    rcases hq2 with ⟨_, h⟩ | ⟨hb, _⟩ | ⟨hb, _⟩
    · exact h
    · exact absurd ⟨hb.1, hb.2.1⟩ hin
    · exact absurd ⟨hb.1, hb.2.1⟩ hin
theorem cm_ser (hd : 4 ≤ d) (ht : t ≤ 600) (L : LI X b n h t) {u i w : Int} (hu : -2147483648 ≤ u ∧ u < 2147483648) (hi : -2147483648 ≤ i ∧ i < 2147483648) (hw : -2147483648 ≤ w ∧ w < 2147483648) : zz_Ct X mm_123 d 0 0 [.ref b, zv u, zv i, zv w] n h (P2 X b t d mm_169 [.ref (b + 25), zv u, zv i, zv w]) := by
  obtain ⟨hn, V, B, S, A, E, RL, UL, SL, T1, T2, G, hM, R, l2, l3⟩ := L
  obtain ⟨p9, pch, ⟨p13, pW⟩, pV, pRl, -, ⟨p1, p0, p2, p3⟩, ⟨p14, p16, p18, -, -⟩, ⟨q1, q2, q3, -, -⟩⟩ := G.2.1
  obtain ⟨⟨c0, c1, c2, c3, c4, c5, c6, c51, c29, c24⟩, ⟨n1, n2, n3⟩, ⟨u1, u2, u3, u4⟩, ⟨d1, d2, d3, d4⟩, ⟨m20, m22⟩, -, pp, us, ss, -, -⟩ := id R
  refine (gm_123 hd G hn hu hi hw).post (fun r n' h' hq => ?_)
  obtain ⟨rfl, rfl, hq⟩ := hq
  have hz : ∃ z, r = some (zv z) ∧ ((tk_of T2 u i = none ∧ z = -1) ∨ ∃ p, tk_of T2 u i = some p ∧ z = (if w = 0 then p.2.2.1 else if w = 1 then p.2.2.2.1 else -1)) := by
    rcases hq with ⟨h1, h2⟩ | ⟨p, h1, h2⟩
    · exact ⟨-1, h2, Or.inl ⟨h1, rfl⟩⟩
    · exact ⟨_, h2, Or.inr ⟨p, h1, rfl⟩⟩
  obtain ⟨z, rfl, hz⟩ := hz
  refine ⟨z, rfl, md_fs hM, ?_⟩
  have c9 := ct_169 (X := X) (d := d) (n := n') (m := b + 25) (V := V) (B := B) (h0 := h') (by omega) (R.mdR p2 p3) hu hi hw (by omega)
  rw [hM] at c9
  refine c9.post (fun r9 n9 h9 hq2 => ?_)
  obtain ⟨rfl, rfl, hq2⟩ := hq2
  refine ⟨?_, LI.mk0 hn G hM R l2 l3⟩
  by_cases hin : (0 ≤ u ∧ u < V 8) ∧ (0 ≤ i ∧ i ≤ 1)
  · rcases R.ser (u := u) (i := i) (by omega) hin.2 with ⟨h1, h2⟩ | ⟨p, h1, h2, h3⟩
    · have hz1 : z = -1 := by
        rcases hz with ⟨_, h⟩ | ⟨p, h, _⟩
        · exact h
        · rw [h1] at h; exact absurd h (by simp)
      rw [hz1]
      rcases hq2 with ⟨_, h⟩ | ⟨_, _, h⟩ | ⟨_, h, _⟩
      · exact h
      · exact h
      · omega
    · rcases hz with ⟨h, _⟩ | ⟨p', h, hz⟩
      · rw [h1] at h; exact absurd h (by simp)
      rw [h1] at h
      injection h with h
      subst h
      obtain ⟨k1, k2⟩ := h3
      rcases hq2 with ⟨hb, h⟩ | ⟨_, h, _⟩ | ⟨hb, _, _, h⟩
      · rw [h, hz]
        have hw2 : ¬ (0 ≤ w ∧ w ≤ 1) := fun hw2 => hb ⟨hin.1, hin.2, hw2⟩
        congr 2
        (repeat' split) <;> omega
      · omega
      · rw [h, hz]
        congr 2
        (repeat' split) <;> omega
  · have hno : tk_of T2 u i = none := by
      by_cases hu2 : 0 ≤ u ∧ u < (UL.length : Int)
      · exact (R.two (u := u) (i := i) (by omega) (fun h => hin ⟨by omega, h⟩)).2
      · exact (R.nos hu2).2
    have hz1 : z = -1 := by
      rcases hz with ⟨_, h⟩ | ⟨p, h, _⟩
      · exact h
      · rw [hno] at h; exact absurd h (by simp)
    rw [hz1]
    rcases hq2 with ⟨_, h⟩ | ⟨hb, _⟩ | ⟨hb, _⟩
    · exact h
    · exact absurd ⟨hb.1, hb.2.1⟩ hin
    · exact absurd ⟨hb.1, hb.2.1⟩ hin
theorem cm_hash (hd : 3 ≤ d) (ht : t ≤ 600) (L : LI X b n h t) {x : Int} (hx : -2147483648 ≤ x ∧ x < 2147483648) : zz_Ct X mm_124 d 0 0 [.ref b, zv x] n h (P2 X b t d mm_170 [.ref (b + 25), zv x]) := by
  obtain ⟨hn, V, B, S, A, E, RL, UL, SL, T1, T2, G, hM, R, l2, l3⟩ := L
  obtain ⟨p9, pch, ⟨p13, pW⟩, pV, pRl, -, ⟨p1, p0, p2, p3⟩, ⟨p14, p16, p18, -, -⟩, ⟨q1, q2, q3, -, -⟩⟩ := G.2.1
  obtain ⟨⟨c0, c1, c2, c3, c4, c5, c6, c51, c29, c24⟩, ⟨n1, n2, n3⟩, ⟨u1, u2, u3, u4⟩, ⟨d1, d2, d3, d4⟩, ⟨m20, m22⟩, -, pp, us, ss, -, -⟩ := id R
  refine (gm_124 hd G hn hx).post (fun r n' h' hq => ?_)
  obtain ⟨rfl, rfl, hq⟩ := hq
  have hz : r = some (zv (if 0 ≤ x ∧ x < V 8 then B 5 x else 0)) := by
    rcases hq with ⟨h1, h2⟩ | ⟨p, h1, h2, h3⟩
    · rw [if_neg (by omega)]; exact h2
    · rw [if_pos (by omega), h3, R.uget h1.1 h2]
  subst hz
  refine ⟨_, rfl, md_fs hM, ?_⟩
  have c9 := ct_170 (X := X) (d := d) (n := n') (m := b + 25) (V := V) (B := B) (h0 := h') (by omega) hx (by omega)
  rw [hM] at c9
  refine c9.post (fun r9 n9 h9 hq2 => ?_)
  obtain ⟨rfl, rfl, rfl⟩ := hq2
  exact ⟨rfl, LI.mk0 hn G hM R l2 l3⟩
end CM
