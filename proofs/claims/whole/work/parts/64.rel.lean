/-! the whole relation, and what each command does to it -/
def RU (UL : List (Nat × ud)) (b2 b3 b4 b5 b6 b7 : Int → Int) : Prop :=
  (∀ (k : Nat) (p : Nat × ud), UL[k]? = some p → p.2 = (b2 k, b3 k, b4 k, b5 k, b6 k, b7 k)) ∧ (∀ i, (UL.length : Int) ≤ i → i < 6 → b6 i = 0 ∧ b7 i = 0) ∧ UL.length ≤ 6 ∧ ∀ u, 0 ≤ u → u < 6 → (0 ≤ b2 u ∧ b2 u ≤ 255) ∧ (b3 u = 0 ∨ b3 u = 1) ∧ (-2147483648 ≤ b4 u ∧ b4 u < 2147483648) ∧ (-2147483648 ≤ b5 u ∧ b5 u < 2147483648) ∧ (0 ≤ b6 u ∧ b6 u < 3) ∧ (0 ≤ b7 u ∧ b7 u ≤ 1000000)
def RP (RL : List (Nat × rd)) (sz : Int) (b30 b31 b32 b33 : Int → Int) : Prop :=
  (∀ (k : Nat) (p : Nat × rd), RL[k]? = some p → ∃ f len, p.2.1 = sp_pcs f len ∧ sp_pat f len = true ∧ b31 k = len ∧ (1 ≤ len ∧ len ≤ 40) ∧ (∀ j, 0 ≤ j → j < len → b30 (40 * k + j) = f j ∧ 33 ≤ f j ∧ f j ≤ 126) ∧ p.2.2.1 = b32 k ∧ p.2.2.2 = b33 k ∧ (0 ≤ b32 k ∧ b32 k < sz) ∧ (1 ≤ b33 k ∧ b33 k ≤ 15)) ∧ RL.length ≤ 8
def RX (V : Nat → Int) (B : Nat → Int → Int) (S : Nat → Int) (A : Nat → Int → Int) (RL : List (Nat × rd)) (UL : List (Nat × ud)) (SL : List (Nat × sd)) (T1 T2 : List (Nat × td)) : Prop :=
  (V 0 = S 3 ∧ V 1 = S 2 ∧ V 2 = S 4 ∧ V 3 = S 5 ∧ V 4 = S 6 ∧ V 5 = S 7 ∧ V 6 = S 8 ∧ V 51 = S 1 ∧ V 29 = S 9 ∧ V 24 = S 13) ∧ (V 8 = (UL.length : Int) ∧ V 40 = (RL.length : Int) ∧ V 45 = (SL.length : Int)) ∧
  (S 0 = ak_of (V 52) (V 53) ∧ (-1 ≤ V 52 ∧ V 52 < V 8) ∧ (V 53 = 0 ∨ V 53 = 1) ∧ (V 51 = 0 → V 52 = -1)) ∧ (B 21 = A 2 ∧ B 17 = A 12 ∧ B 18 = A 13 ∧ B 19 = A 14) ∧ (ex_V (B 20) ∧ ch_ok (B 22)) ∧ RR (A 17) (B 1) ∧ RP RL (V 24) (B 30) (B 31) (B 32) (B 33) ∧ RU UL (B 2) (B 3) (B 4) (B 5) (B 6) (B 7) ∧ RS SL (V 24) B ∧ R1 T1 (V 1) (V 0) (V 8) (B 8) (B 9) (B 10) (B 11) (B 12) (B 13) ∧ R2 T2 (V 1) (V 0) (V 8) (B 14) (B 15) (B 16)
theorem RP.mono {RL : List (Nat × rd)} {sz sz' : Int} {b30 b31 b32 b33 : Int → Int} (R : RP RL sz b30 b31 b32 b33) (h : sz ≤ sz') : RP RL sz' b30 b31 b32 b33 := by
  refine ⟨fun k p hk => ?_, R.2⟩
  obtain ⟨f, len, a1, a2, a3, a4, a5, a6, a7, a8, a9⟩ := R.1 k p hk
  exact ⟨f, len, a1, a2, a3, a4, a5, a6, a7, ⟨a8.1, by omega⟩, a9⟩
section RX
variable {V V' : Nat → Int} {B B' : Nat → Int → Int} {S S' : Nat → Int} {A A' : Nat → Int → Int} {RL : List (Nat × rd)} {UL : List (Nat × ud)} {SL : List (Nat × sd)} {T1 T2 : List (Nat × td)}
theorem RX.cg (R : RX V B S A RL UL SL T1 T2) (hV : ∀ i, i ≠ 35 → i ≠ 54 → i ≠ 55 → V' i = V i) (hB : ax [20, 22, 23, 24, 25, 26, 27, 28, 29] B B') (h20 : ex_V (B' 20)) (h22 : ch_ok (B' 22)) (hS : ∀ i, i < 14 → i ≠ 10 → i ≠ 11 → i ≠ 12 → S' i = S i) (hA : ax [5, 6, 7, 9, 10, 15] A A') : RX V' B' S' A' RL UL SL T1 T2 := by
  obtain ⟨C, N, U, BB, M, r, p, u, s, x1, x2⟩ := R
  unfold RX
  rw [hV 0 (by decide) (by decide) (by decide), hV 1 (by decide) (by decide) (by decide), hV 2 (by decide) (by decide) (by decide), hV 3 (by decide) (by decide) (by decide), hV 4 (by decide) (by decide) (by decide), hV 5 (by decide) (by decide) (by decide), hV 6 (by decide) (by decide) (by decide), hV 51 (by decide) (by decide) (by decide), hV 29 (by decide) (by decide) (by decide), hV 24 (by decide) (by decide) (by decide), hV 8 (by decide) (by decide) (by decide), hV 40 (by decide) (by decide) (by decide), hV 45 (by decide) (by decide) (by decide), hV 52 (by decide) (by decide) (by decide), hV 53 (by decide) (by decide) (by decide)]
  rw [hS 0 (by decide) (by decide) (by decide) (by decide), hS 1 (by decide) (by decide) (by decide) (by decide), hS 2 (by decide) (by decide) (by decide) (by decide), hS 3 (by decide) (by decide) (by decide) (by decide), hS 4 (by decide) (by decide) (by decide) (by decide), hS 5 (by decide) (by decide) (by decide) (by decide), hS 6 (by decide) (by decide) (by decide) (by decide), hS 7 (by decide) (by decide) (by decide) (by decide), hS 8 (by decide) (by decide) (by decide) (by decide), hS 9 (by decide) (by decide) (by decide) (by decide), hS 13 (by decide) (by decide) (by decide) (by decide)]
  rw [hA 2 (by decide), hA 12 (by decide), hA 13 (by decide), hA 14 (by decide), hA 17 (by decide)]
  rw [hB 1 (by decide), hB 2 (by decide), hB 3 (by decide), hB 4 (by decide), hB 5 (by decide), hB 6 (by decide), hB 7 (by decide), hB 8 (by decide), hB 9 (by decide), hB 10 (by decide), hB 11 (by decide), hB 12 (by decide), hB 13 (by decide), hB 14 (by decide), hB 15 (by decide), hB 16 (by decide), hB 17 (by decide), hB 18 (by decide), hB 19 (by decide), hB 21 (by decide), hB 30 (by decide), hB 31 (by decide), hB 32 (by decide), hB 33 (by decide)]
  exact ⟨C, N, U, BB, ⟨h20, h22⟩, r, p, u, s.cg ⟨hB 34 (by decide), hB 35 (by decide), hB 36 (by decide), hB 37 (by decide), hB 38 (by decide)⟩, x1, x2⟩
theorem RX.type (R : RX V B S A RL UL SL T1 T2) (c : Int) : RX (va_up V 29 (V 29 + 1)) (va_up B 21 (zU (B 21) (V 29) c)) (va_up S 9 (S 9 + 1)) (va_up A 2 (zU (A 2) (S 9) c)) RL UL SL T1 T2 := by
  obtain ⟨⟨c0, c1, c2, c3, c4, c5, c6, c51, c29, c24⟩, N, U, ⟨d1, d2, d3, d4⟩, M, r, p, u, s, x1, x2⟩ := R
  exact ⟨⟨c0, c1, c2, c3, c4, c5, c6, c51, (by show V 29 + 1 = S 9 + 1; rw [c29]), c24⟩, N, U, ⟨(by show zU (B 21) (V 29) c = zU (A 2) (S 9) c; rw [d1, c29]), d2, d3, d4⟩, M, r, p, u, s.cg ⟨rfl, rfl, rfl, rfl, rfl⟩, x1, x2⟩
theorem RX.clear (R : RX V B S A RL UL SL T1 T2) : RX (va_up V 29 0) B (va_up S 9 0) A RL UL SL T1 T2 := by
  obtain ⟨⟨c0, c1, c2, c3, c4, c5, c6, c51, c29, c24⟩, N, U, D, M, r, p, u, s, x1, x2⟩ := R
  exact ⟨⟨c0, c1, c2, c3, c4, c5, c6, c51, rfl, c24⟩, N, U, D, M, r, p, u, s, x1, x2⟩
theorem RX.expr (R : RX V B S A RL UL SL T1 T2) (op x y : Int) : RX (va_up V 24 (V 24 + 1)) (va_up (va_up (va_up B 17 (zU (B 17) (V 24) op)) 18 (zU (B 18) (V 24) x)) 19 (zU (B 19) (V 24) y)) (va_up S 13 (S 13 + 1)) (va_up (va_up (va_up A 12 (zU (A 12) (S 13) op)) 13 (zU (A 13) (S 13) x)) 14 (zU (A 14) (S 13) y)) RL UL SL T1 T2 := by
  obtain ⟨⟨c0, c1, c2, c3, c4, c5, c6, c51, c29, c24⟩, N, U, ⟨d1, d2, d3, d4⟩, M, r, p, u, s, x1, x2⟩ := R
  exact ⟨⟨c0, c1, c2, c3, c4, c5, c6, c51, c29, (by show V 24 + 1 = S 13 + 1; rw [c24])⟩, N, U, ⟨d1, (by show zU (B 17) (V 24) op = zU (A 12) (S 13) op; rw [d2, c24]), (by show zU (B 18) (V 24) x = zU (A 13) (S 13) x; rw [d3, c24]), (by show zU (B 19) (V 24) y = zU (A 14) (S 13) y; rw [d4, c24])⟩, M, r, p.mono (by show V 24 ≤ V 24 + 1; omega), u, (s.mono (by show V 24 ≤ V 24 + 1; omega)).cg ⟨rfl, rfl, rfl, rfl, rfl⟩, x1, x2⟩
theorem RX.rule (R : RX V B S A RL UL SL T1 T2) {n : Nat} {ex ms : Int} {B1 : Nat → Int → Int} (hb : 0 ≤ S 9 ∧ S 9 ≤ 40) (hc : ∀ i, 0 ≤ i → i < S 9 → 33 ≤ A 2 i ∧ A 2 i ≤ 126) (hok : RL.length < 8 ∧ (0 ≤ ex ∧ ex < S 13) ∧ (1 ≤ ms ∧ ms ≤ 15) ∧ sp_pat (A 2) (S 9) = true) (g1 : ax [30] B B1) (g2 : ∀ j, 0 ≤ j → j < V 29 → B1 30 (40 * V 40 + j) = B 21 j) (g3 : ∀ x, x < 40 * V 40 ∨ 40 * V 40 + 40 ≤ x → B1 30 x = B 30 x) :
    RX (va_up (va_up V 29 0) 40 (V 40 + 1)) (va_up (va_up (va_up B1 31 (zU (B 31) (V 40) (V 29))) 32 (zU (B 32) (V 40) ex)) 33 (zU (B 33) (V 40) ms)) (va_up S 9 0) A (RL ++ [(n, (sp_pcs (A 2) (S 9), ex, ms))]) UL SL T1 T2 := by
  obtain ⟨⟨c0, c1, c2, c3, c4, c5, c6, c51, c29, c24⟩, ⟨n1, n2, n3⟩, U, ⟨d1, d2, d3, d4⟩, M, r, p, u, s, x1, x2⟩ := R
  have hlen : S 9 ≠ 0 := by
    intro e
    have := hok.2.2.2
    rw [e] at this
    unfold sp_pat at this
    simp at this
  have e1 : B1 1 = B 1 := g1 1 (by decide)
  have e2 : B1 2 = B 2 := g1 2 (by decide)
  have e3 : B1 3 = B 3 := g1 3 (by decide)
  have e4 : B1 4 = B 4 := g1 4 (by decide)
  have e5 : B1 5 = B 5 := g1 5 (by decide)
  have e6 : B1 6 = B 6 := g1 6 (by decide)
  have e7 : B1 7 = B 7 := g1 7 (by decide)
  refine ⟨⟨c0, c1, c2, c3, c4, c5, c6, c51, rfl, c24⟩, ⟨n1, ?_, n3⟩, U, ⟨(g1 21 (by decide)).trans d1, (g1 17 (by decide)).trans d2, (g1 18 (by decide)).trans d3, (g1 19 (by decide)).trans d4⟩, ⟨?_, ?_⟩, ?_, ?_, ?_, s.cg ⟨g1 34 (by decide), g1 35 (by decide), g1 36 (by decide), g1 37 (by decide), g1 38 (by decide)⟩, ?_, ?_⟩
  · show V 40 + 1 = _
    rw [n2, List.length_append]
    simp
  · show ex_V (B1 20)
    rw [g1 20 (by decide)]
    exact M.1
  · show ch_ok (B1 22)
    rw [g1 22 (by decide)]
    exact M.2
  · show RR (A 17) (B1 1)
    rw [e1]
    exact r
  · refine ⟨fun k q hk => ?_, by rw [List.length_append]; simp; omega⟩
    show ∃ f len, q.2.1 = sp_pcs f len ∧ sp_pat f len = true ∧ zU (B 31) (V 40) (V 29) k = len ∧ (1 ≤ len ∧ len ≤ 40) ∧ (∀ j, 0 ≤ j → j < len → B1 30 (40 * k + j) = f j ∧ 33 ≤ f j ∧ f j ≤ 126) ∧ q.2.2.1 = zU (B 32) (V 40) ex k ∧ q.2.2.2 = zU (B 33) (V 40) ms k ∧ (0 ≤ zU (B 32) (V 40) ex k ∧ zU (B 32) (V 40) ex k < V 24) ∧ (1 ≤ zU (B 33) (V 40) ms k ∧ zU (B 33) (V 40) ms k ≤ 15)
    rcases Nat.lt_or_ge k RL.length with hlt | hge
    · rw [List.getElem?_append_left hlt] at hk
      obtain ⟨f, len, a1, a2, a3, a4, a5, a6, a7, a8, a9⟩ := p.1 k q hk
      rw [zU_ne (by omega), zU_ne (by omega), zU_ne (by omega)]
      refine ⟨f, len, a1, a2, a3, a4, fun j j1 j2 => ?_, a6, a7, a8, a9⟩
      rw [g3 _ (by omega)]
      exact a5 j j1 j2
    · rw [List.getElem?_append_right hge] at hk
      have hke : k = RL.length := by
        rcases Nat.eq_or_lt_of_le hge with e | e
        · exact e.symm
        · rw [List.getElem?_eq_none (by simp; omega)] at hk
          exact absurd hk (by simp)
      subst hke
      simp at hk
      subst hk
      rw [← n2, zU_eq, zU_eq, zU_eq]
      refine ⟨A 2, S 9, rfl, hok.2.2.2, c29, by omega, fun j j1 j2 => ?_, rfl, rfl, by omega, by omega⟩
      rw [g2 j j1 (by omega), d1]
      exact ⟨rfl, hc j j1 j2⟩
  · show RU UL (B1 2) (B1 3) (B1 4) (B1 5) (B1 6) (B1 7)
    rw [e2, e3, e4, e5, e6, e7]
    exact u
  · show R1 T1 (V 1) (V 0) (V 8) (B1 8) (B1 9) (B1 10) (B1 11) (B1 12) (B1 13)
    rw [g1 8 (by decide), g1 9 (by decide), g1 10 (by decide), g1 11 (by decide), g1 12 (by decide), g1 13 (by decide)]
    exact x1
  · show R2 T2 (V 1) (V 0) (V 8) (B1 14) (B1 15) (B1 16)
    rw [g1 14 (by decide), g1 15 (by decide), g1 16 (by decide)]
    exact x2
theorem RX.role (R : RX V B S A RL UL SL T1 T2) {r0 s0 : Int} {g' : Int → Int} (hr : 0 ≤ r0 ∧ r0 < 8) (hs : 0 ≤ s0 ∧ s0 < 8) (hg : ∀ j, 0 ≤ j → j < 8 → g' j = rl_add (A 17) r0 s0 j) : RX V (va_up B 1 (zU (B 1) r0 (zb_or (B 1 r0) (zb_shl 1 s0)))) S (va_up A 17 g') RL UL SL T1 T2 := by
  obtain ⟨C, N, U, D, M, r, p, u, s, x1, x2⟩ := R
  exact ⟨C, N, U, D, M, r.add hr hs hg, p, u, s.cg ⟨rfl, rfl, rfl, rfl, rfl⟩, x1, x2⟩
theorem RX.bit (R : RX V B S A RL UL SL T1 T2) {r0 : Int} (hr : 0 ≤ r0 ∧ r0 < 8) : ic_out (B 1) 8 (zb_shl 1 r0) = A 17 r0 := R.2.2.2.2.2.1.eq hr
theorem RU.app {UL : List (Nat × ud)} {b2 b3 b4 b5 b6 b7 : Int → Int} (R : RU UL b2 b3 b4 b5 b6 b7) {n : Nat} {rl sc sa hh : Int} (hl : UL.length < 6) (h1 : 0 ≤ rl ∧ rl ≤ 255) (h2 : sc = 0 ∨ sc = 1) (h3 : -2147483648 ≤ sa ∧ sa < 2147483648) (h4 : -2147483648 ≤ hh ∧ hh < 2147483648) : RU (UL ++ [(n, (rl, sc, sa, hh, 0, 0))]) (zU b2 (UL.length : Int) rl) (zU b3 (UL.length : Int) sc) (zU b4 (UL.length : Int) sa) (zU b5 (UL.length : Int) hh) b6 b7 := by
  obtain ⟨r1, r2, r3, r4⟩ := R
  refine ⟨fun k p hk => ?_, fun i i1 i2 => ?_, by rw [List.length_append]; simp; omega, fun w w1 w2 => ?_⟩
  · rcases Nat.lt_or_ge k UL.length with hlt | hge
    · rw [List.getElem?_append_left hlt] at hk
      rw [zU_ne (by omega), zU_ne (by omega), zU_ne (by omega), zU_ne (by omega)]
      exact r1 k p hk
    · rw [List.getElem?_append_right hge] at hk
      have hke : k = UL.length := by
        rcases Nat.eq_or_lt_of_le hge with e | e
        · exact e.symm
        · rw [List.getElem?_eq_none (by simp; omega)] at hk
          exact absurd hk (by simp)
      subst hke
      simp at hk
      subst hk
      obtain ⟨q1, q2⟩ := r2 (UL.length : Int) (by omega) (by omega)
      rw [zU_eq, zU_eq, zU_eq, zU_eq, q1, q2]
  · rw [List.length_append] at i1
    simp at i1
    exact r2 i (by omega) i2
  · obtain ⟨a1, a2, a3, a4, a5, a6⟩ := r4 w w1 w2
    unfold zU
    refine ⟨?_, ?_, ?_, ?_, a5, a6⟩ <;> (split <;> omega)
theorem RU.set {UL : List (Nat × ud)} {b2 b3 b4 b5 b6 b7 c3 c4 c5 c6 c7 : Int → Int} (R : RU UL b2 b3 b4 b5 b6 b7) {u : Int} {p : Nat × ud} {y : ud} (hu : 0 ≤ u ∧ u < (UL.length : Int)) (hy : y = (b2 u, c3 u, c4 u, c5 u, c6 u, c7 u)) (hc : ∀ i, i ≠ u → c3 i = b3 i ∧ c4 i = b4 i ∧ c5 i = b5 i ∧ c6 i = b6 i ∧ c7 i = b7 i) (hr : (c3 u = 0 ∨ c3 u = 1) ∧ (-2147483648 ≤ c4 u ∧ c4 u < 2147483648) ∧ (-2147483648 ≤ c5 u ∧ c5 u < 2147483648) ∧ (0 ≤ c6 u ∧ c6 u < 3) ∧ (0 ≤ c7 u ∧ c7 u ≤ 1000000)) : RU (UL.set u.toNat (p.1, y)) b2 c3 c4 c5 c6 c7 := by
  obtain ⟨r1, r2, r3, r4⟩ := R
  refine ⟨fun k q hk => ?_, fun i i1 i2 => ?_, by simpa using r3, fun w w1 w2 => ?_⟩
  · rw [List.getElem?_set] at hk
    by_cases e : u.toNat = k
    · rw [if_pos e, if_pos (by omega)] at hk
      injection hk with hk
      subst hk
      have hku : (k : Int) = u := by omega
      rw [hku]
      exact hy
    · rw [if_neg e] at hk
      obtain ⟨q1, q2, q3, q4, q5⟩ := hc k (by omega)
      rw [q1, q2, q3, q4, q5]
      exact r1 k q hk
  · rw [List.length_set] at i1
    obtain ⟨q1, q2, q3, q4, q5⟩ := hc i (by omega)
    rw [q4, q5]
    exact r2 i i1 i2
  · by_cases e : w = u
    · subst e
      exact ⟨(r4 w w1 w2).1, hr⟩
    · obtain ⟨q1, q2, q3, q4, q5⟩ := hc w e
      rw [q1, q2, q3, q4, q5]
      exact r4 w w1 w2
theorem RX.user (R : RX V B S A RL UL SL T1 T2) {n : Nat} {pw rl sc : Int} (hok : UL.length < 6 ∧ (0 ≤ rl ∧ rl ≤ 255) ∧ (sc = 0 ∨ sc = 1)) (h3 : 0 ≤ S 3 ∧ S 3 ≤ 100000) (hh : -2147483648 ≤ hs_of pw sc (S 3 + 1) ∧ hs_of pw sc (S 3 + 1) < 2147483648) : RX (va_up (va_up V 0 (V 0 + 1)) 8 (V 8 + 1)) (va_up (va_up (va_up (va_up B 2 (zU (B 2) (V 8) rl)) 3 (zU (B 3) (V 8) sc)) 4 (zU (B 4) (V 8) (V 0 + 1))) 5 (zU (B 5) (V 8) (hs_of pw sc (V 0 + 1)))) (va_up S 3 (S 3 + 1)) A RL (UL ++ [(n, (rl, sc, S 3 + 1, hs_of pw sc (S 3 + 1), 0, 0))]) SL T1 T2 := by
  obtain ⟨⟨c0, c1, c2, c3, c4, c5, c6, c51, c29, c24⟩, ⟨n1, n2, n3⟩, ⟨u1, u2, u3, u4⟩, D, M, r, p, u, s, x1, x2⟩ := R
  refine ⟨⟨(by show V 0 + 1 = S 3 + 1; rw [c0]), c1, c2, c3, c4, c5, c6, c51, c29, c24⟩, ⟨?_, n2, n3⟩, ⟨u1, ⟨u2.1, ?_⟩, u3, u4⟩, D, M, r, p, ?_, s.cg ⟨rfl, rfl, rfl, rfl, rfl⟩, ?_, ?_⟩
  · show V 8 + 1 = _
    rw [n1, List.length_append]
    simp
  · show V 52 < V 8 + 1
    omega
  · show RU _ (zU (B 2) (V 8) rl) (zU (B 3) (V 8) sc) (zU (B 4) (V 8) (V 0 + 1)) (zU (B 5) (V 8) (hs_of pw sc (V 0 + 1))) (B 6) (B 7)
    rw [n1, c0]
    exact u.app hok.1 hok.2.1 hok.2.2 (by omega) hh
  · exact x1.up (by show V 0 ≤ V 0 + 1; omega) (by show V 8 ≤ V 8 + 1; omega)
  · exact x2.up (Int.le_refl _) (by show V 0 ≤ V 0 + 1; omega) (by show V 8 ≤ V 8 + 1; omega)
theorem RX.serv (R : RX V B S A RL UL SL T1 T2) {n : Nat} {pa fa c : Int} (hl : SL.length < 6) (hp : -1 ≤ pa ∧ pa < (SL.length : Int)) (hf : -1 ≤ fa ∧ fa < (SL.length : Int)) (hc : -1 ≤ c ∧ c < S 13) (hz : S 13 ≤ 16) : RX (va_up V 45 (V 45 + 1)) (va_up (va_up (va_up B 34 (zU (B 34) (V 45) pa)) 35 (zU (B 35) (V 45) fa)) 36 (zU (B 36) (V 45) c)) S A RL UL (SL ++ [(n, (pa, fa, c, (fun _ => 0), (fun _ => 0)))]) T1 T2 := by
  obtain ⟨⟨c0, c1, c2, c3, c4, c5, c6, c51, c29, c24⟩, ⟨n1, n2, n3⟩, U, D, M, r, p, u, s, x1, x2⟩ := R
  refine ⟨⟨c0, c1, c2, c3, c4, c5, c6, c51, c29, c24⟩, ⟨n1, n2, ?_⟩, U, D, M, r, p, u, ?_, x1, x2⟩
  · show V 45 + 1 = _
    rw [n3, List.length_append]
    simp
  · refine s.app hl hp hf (by show -1 ≤ c ∧ c < V 24; omega) (by show V 24 ≤ 16; omega) ?_ ?_ ?_ rfl rfl
    · show zU (B 34) (V 45) pa = _
      rw [n3]
    · show zU (B 35) (V 45) fa = _
      rw [n3]
    · show zU (B 36) (V 45) c = _
      rw [n3]
theorem RX.decl (R : RX V B S A RL UL SL T1 T2) {t op c : Int} {p : Nat × sd} (ht : 0 ≤ t ∧ t < (SL.length : Int)) (ho : 0 ≤ op ∧ op < 4) (hc : -1 ≤ c ∧ c < S 13) (hz : S 13 ≤ 16) (hp : SL[t.toNat]? = some p) : RX V (va_up (va_up B 37 (zU (B 37) (4 * t + op) 1)) 38 (zU (B 38) (4 * t + op) c)) S A RL UL (SL.set t.toNat (p.1, (p.2.1, p.2.2.1, p.2.2.2.1, zU p.2.2.2.2.1 op 1, zU p.2.2.2.2.2 op c))) T1 T2 := by
  obtain ⟨⟨c0, c1, c2, c3, c4, c5, c6, c51, c29, c24⟩, ⟨n1, n2, n3⟩, U, D, M, r, pp, u, s, x1, x2⟩ := R
  exact ⟨⟨c0, c1, c2, c3, c4, c5, c6, c51, c29, c24⟩, ⟨n1, n2, n3.trans (by rw [List.length_set])⟩, U, D, M, r, pp, u, s.dec ht ho (by omega) (by omega) hp rfl rfl rfl rfl rfl, x1, x2⟩
theorem RX.tick (R : RX V B S A RL UL SL T1 T2) {x : Int} (hx : 1 ≤ x) : RX (va_up V 1 (V 1 + x)) B (va_up S 2 (S 2 + x)) A RL UL SL (T1.filter (fun p => decide (¬ (60 < S 2 + x - p.2.2.2.2.2.1 ∨ 20 < S 2 + x - p.2.2.2.2.2.2)))) T2 := by
  obtain ⟨⟨c0, c1, c2, c3, c4, c5, c6, c51, c29, c24⟩, N, U, D, M, r, p, u, s, x1, x2⟩ := R
  refine ⟨⟨c0, (by show V 1 + x = S 2 + x; rw [c1]), c2, c3, c4, c5, c6, c51, c29, c24⟩, N, U, D, M, r, p, u, s, ?_, x2.up (by show V 1 ≤ V 1 + x; omega) (Int.le_refl _) (Int.le_refl _)⟩
  rw [← c1]
  exact x1.tick hx
theorem RX.uget (R : RX V B S A RL UL SL T1 T2) {u : Int} {p : Nat × ud} (hu : 0 ≤ u) (hp : UL[u.toNat]? = some p) : p.2 = (B 2 u, B 3 u, B 4 u, B 5 u, B 6 u, B 7 u) := by
  have := R.2.2.2.2.2.2.2.1.1 u.toNat p hp
  rw [Int.toNat_of_nonneg hu] at this
  exact this
theorem RX.wrong (R : RX V B S A RL UL SL T1 T2) {u : Int} {p : Nat × ud} (hu : 0 ≤ u ∧ u < (UL.length : Int)) (hp : UL[u.toNat]? = some p) (h2 : B 6 u < 2) : RX V (va_up B 6 (zU (B 6) u (B 6 u + 1))) S A RL (UL.set u.toNat (p.1, (p.2.1, p.2.2.1, p.2.2.2.1, p.2.2.2.2.1, p.2.2.2.2.2.1 + 1, p.2.2.2.2.2.2))) SL T1 T2 := by
  have e := R.uget hu.1 hp
  obtain ⟨C, ⟨n1, n2, n3⟩, U, D, M, r, pp, us, s, x1, x2⟩ := R
  have ur := us.2.2.2 u hu.1 (by have := us.2.2.1; omega)
  refine ⟨C, ⟨n1.trans (by rw [List.length_set]), n2, n3⟩, U, D, M, r, pp, ?_, s.cg ⟨rfl, rfl, rfl, rfl, rfl⟩, x1, x2⟩
  refine us.set hu ?_ (fun i hi => ⟨rfl, rfl, rfl, zU_ne hi, rfl⟩) ⟨ur.2.1, ur.2.2.1, ur.2.2.2.1, ?_, ur.2.2.2.2.2⟩
  · rw [e]
    show (B 2 u, B 3 u, B 4 u, B 5 u, B 6 u + 1, B 7 u) = (B 2 u, B 3 u, B 4 u, B 5 u, zU (B 6) u (B 6 u + 1) u, B 7 u)
    rw [zU_eq]
  · show 0 ≤ zU (B 6) u (B 6 u + 1) u ∧ zU (B 6) u (B 6 u + 1) u < 3
    rw [zU_eq]
    omega
theorem RX.lock (R : RX V B S A RL UL SL T1 T2) {u : Int} {p : Nat × ud} (hu : 0 ≤ u ∧ u < (UL.length : Int)) (hp : UL[u.toNat]? = some p) (h2 : 0 ≤ S 2 ∧ S 2 ≤ 100000) : RX (va_up V 6 (V 6 + 1)) (va_up (va_up B 6 (zU (B 6) u 0)) 7 (zU (B 7) u (V 1 + 10))) (va_up S 8 (S 8 + 1)) A RL (UL.set u.toNat (p.1, (p.2.1, p.2.2.1, p.2.2.2.1, p.2.2.2.2.1, 0, S 2 + 10))) SL T1 T2 := by
  have e := R.uget hu.1 hp
  obtain ⟨⟨c0, c1, c2, c3, c4, c5, c6, c51, c29, c24⟩, ⟨n1, n2, n3⟩, U, D, M, r, pp, us, s, x1, x2⟩ := R
  have ur := us.2.2.2 u hu.1 (by have := us.2.2.1; omega)
  refine ⟨⟨c0, c1, c2, c3, c4, c5, (by show V 6 + 1 = S 8 + 1; rw [c6]), c51, c29, c24⟩, ⟨n1.trans (by rw [List.length_set]), n2, n3⟩, U, D, M, r, pp, ?_, s.cg ⟨rfl, rfl, rfl, rfl, rfl⟩, x1, x2⟩
  refine us.set hu ?_ (fun i hi => ⟨rfl, rfl, rfl, zU_ne hi, zU_ne hi⟩) ⟨ur.2.1, ur.2.2.1, ur.2.2.2.1, ?_, ?_⟩
  · rw [e]
    show (B 2 u, B 3 u, B 4 u, B 5 u, 0, S 2 + 10) = (B 2 u, B 3 u, B 4 u, B 5 u, zU (B 6) u 0 u, zU (B 7) u (V 1 + 10) u)
    rw [zU_eq, zU_eq, c1]
  · show 0 ≤ zU (B 6) u 0 u ∧ zU (B 6) u 0 u < 3
    rw [zU_eq]
    omega
  · show 0 ≤ zU (B 7) u (V 1 + 10) u ∧ zU (B 7) u (V 1 + 10) u ≤ 1000000
    rw [zU_eq]
    omega
/-- the password was right: the scheme is brought up -/
theorem RX.good (R : RX V B S A RL UL SL T1 T2) {u pw : Int} {p : Nat × ud} {x : ud} {D : Int} {V1 : Nat → Int} {B1 : Nat → Int → Int} (hu : 0 ≤ u ∧ u < (UL.length : Int)) (hp : UL[u.toNat]? = some p) (h3 : 0 ≤ S 3 ∧ S 3 ≤ 100000) (hh : -2147483648 ≤ hs_of pw 1 (S 3 + 1) ∧ hs_of pw 1 (S 3 + 1) < 2147483648)
    (hx : (p.2.2.1 = 0 ∧ D = S 3 + 1 ∧ x = (p.2.1, 1, S 3 + 1, hs_of pw 1 (S 3 + 1), 0, p.2.2.2.2.2.2)) ∨ (p.2.2.1 ≠ 0 ∧ D = S 3 ∧ x = (p.2.1, p.2.2.1, p.2.2.2.1, p.2.2.2.2.1, 0, p.2.2.2.2.2.2)))
    (hm : (B 3 u = 0 ∧ V1 = va_up V 0 (V 0 + 1) ∧ B1 = (va_up (va_up (va_up (va_up B 6 (zU (B 6) u 0)) 3 (zU (B 3) u 1)) 4 (zU (B 4) u (V 0 + 1))) 5 (zU (B 5) u (hs_of pw 1 (V 0 + 1))))) ∨ (B 3 u ≠ 0 ∧ V1 = V ∧ B1 = (va_up B 6 (zU (B 6) u 0)))) :
    RX V1 B1 (va_up S 3 D) A RL (UL.set u.toNat (p.1, x)) SL T1 T2 ∧ V1 0 = D := by
  have e := R.uget hu.1 hp
  obtain ⟨⟨c0, c1, c2, c3, c4, c5, c6, c51, c29, c24⟩, ⟨n1, n2, n3⟩, U, BB, M, r, pp, us, s, x1, x2⟩ := R
  have ur := us.2.2.2 u hu.1 (by have := us.2.2.1; omega)
  have e3 : p.2.2.1 = B 3 u := by rw [e]
  rcases hx with ⟨x1', x2', x3'⟩ | ⟨x1', x2', x3'⟩
  · rcases hm with ⟨m1, rfl, rfl⟩ | ⟨m1, _⟩
    · subst x2'
      refine ⟨⟨⟨(by show V 0 + 1 = S 3 + 1; rw [c0]), c1, c2, c3, c4, c5, c6, c51, c29, c24⟩, ⟨n1.trans (by rw [List.length_set]), n2, n3⟩, U, BB, M, r, pp, ?_, s.cg ⟨rfl, rfl, rfl, rfl, rfl⟩, x1.up (by show V 0 ≤ V 0 + 1; omega) (Int.le_refl _), x2.up (Int.le_refl _) (by show V 0 ≤ V 0 + 1; omega) (Int.le_refl _)⟩, by show V 0 + 1 = S 3 + 1; rw [c0]⟩
      refine us.set hu ?_ (fun i hi => ⟨zU_ne hi, zU_ne hi, zU_ne hi, zU_ne hi, rfl⟩) ⟨?_, ?_, ?_, ?_, ur.2.2.2.2.2⟩
      · rw [x3', e]
        show (B 2 u, 1, S 3 + 1, hs_of pw 1 (S 3 + 1), 0, B 7 u) = (B 2 u, zU (B 3) u 1 u, zU (B 4) u (V 0 + 1) u, zU (B 5) u (hs_of pw 1 (V 0 + 1)) u, zU (B 6) u 0 u, B 7 u)
        rw [zU_eq, zU_eq, zU_eq, zU_eq, c0]
      · show zU (B 3) u 1 u = 0 ∨ zU (B 3) u 1 u = 1
        rw [zU_eq]
        exact Or.inr rfl
      · show -2147483648 ≤ zU (B 4) u (V 0 + 1) u ∧ zU (B 4) u (V 0 + 1) u < 2147483648
        rw [zU_eq]
        omega
      · show -2147483648 ≤ zU (B 5) u (hs_of pw 1 (V 0 + 1)) u ∧ zU (B 5) u (hs_of pw 1 (V 0 + 1)) u < 2147483648
        rw [zU_eq, c0]
        exact hh
      · show 0 ≤ zU (B 6) u 0 u ∧ zU (B 6) u 0 u < 3
        rw [zU_eq]
        omega
    · exact absurd (e3.symm.trans x1') m1
  · rcases hm with ⟨m1, _⟩ | ⟨m1, rfl, rfl⟩
    · exact absurd (e3.trans m1) x1'
    · subst x2'
      refine ⟨⟨⟨c0, c1, c2, c3, c4, c5, c6, c51, c29, c24⟩, ⟨n1.trans (by rw [List.length_set]), n2, n3⟩, U, BB, M, r, pp, ?_, s.cg ⟨rfl, rfl, rfl, rfl, rfl⟩, x1, x2⟩, c0⟩
      refine us.set hu ?_ (fun i hi => ⟨rfl, rfl, rfl, zU_ne hi, rfl⟩) ⟨ur.2.1, ur.2.2.1, ur.2.2.2.1, ?_, ur.2.2.2.2.2⟩
      · rw [x3', e]
        show (B 2 u, B 3 u, B 4 u, B 5 u, 0, B 7 u) = (B 2 u, B 3 u, B 4 u, B 5 u, zU (B 6) u 0 u, B 7 u)
        rw [zU_eq]
      · show 0 ≤ zU (B 6) u 0 u ∧ zU (B 6) u 0 u < 3
        rw [zU_eq]
        omega
/-- a session of another number ends -/
theorem RX.outs (R : RX V B S A RL UL SL T1 T2) {sid : Int} {B2 : Nat → Int → Int} (h2 : B2 = (if 0 ≤ (sb_run (fun s => decide (mlv V B s ∧ B 9 s = sid)) 12 0 (-1)) then va_up B 8 (zU (B 8) (sb_run (fun s => decide (mlv V B s ∧ B 9 s = sid)) 12 0 (-1)) 0) else B)) : RX V B2 S A RL UL SL (T1.filter (fun p => decide (¬ (p.2.2.1 = sid)))) T2 := by
  obtain ⟨C, N, U, BB, M, r, pp, us, s, x1, x2⟩ := R
  rcases x1.out (x := sid) (Q := fun s => decide (mlv V B s ∧ B 9 s = sid)) (fun _ => rfl) with ⟨h1, h3, h4⟩ | ⟨q, h1, h3, h4, h5, h6, h7⟩
  · rw [if_neg (by omega)] at h2
    subst h2
    exact ⟨C, N, U, BB, M, r, pp, us, s, h4, x2⟩
  · rw [if_pos h4.1] at h2
    subst h2
    exact ⟨C, N, U, BB, M, r, pp, us, s.cg ⟨rfl, rfl, rfl, rfl, rfl⟩, h7, x2⟩
theorem RX.mkS (R : RX V B S A RL UL SL T1 T2) {u re : Int} (v : Nat) (hu : 0 ≤ u ∧ u < (UL.length : Int)) (h2 : 0 ≤ S 2) (h3 : 0 ≤ S 3) (hre : re = 0 ∨ re = 1) : RX (va_up V 0 (V 0 + 2)) (mk_B B (ms_of V B u) (V 0) re (V 1)) (va_up S 3 (S 3 + 2)) A RL UL SL (tk_end T1 u ++ [(v, (u, S 3 + 1, S 3 + 2, re, S 2, S 2))]) T2 := by
  obtain ⟨⟨c0, c1, c2, c3, c4, c5, c6, c51, c29, c24⟩, ⟨n1, n2, n3⟩, U, BB, M, r, pp, us, s, x1, x2⟩ := R
  have hul := us.2.2.1
  refine ⟨⟨(by show V 0 + 2 = S 3 + 2; rw [c0]), c1, c2, c3, c4, c5, c6, c51, c29, c24⟩, ⟨n1, n2, n3⟩, U, BB, M, r, pp, us, s.cg ⟨rfl, rfl, rfl, rfl, rfl⟩, ?_, x2.up (Int.le_refl _) (by show V 0 ≤ V 0 + 2; omega) (Int.le_refl _)⟩
  rw [← c0, ← c1]
  exact x1.mk v (by omega) (by show u < V 8; omega) (by omega) (by omega) hre rfl
theorem RX.mkR (R : RX V B S A RL UL SL T1 T2) {u : Int} (v : Nat) (hu : 0 ≤ u ∧ u < (UL.length : Int)) (h3 : 0 ≤ S 3) : RX (va_up V 0 (V 0 + 2)) (mt_B B (mt_of B u) (V 0)) (va_up S 3 (S 3 + 2)) A RL UL SL T1 (tk_end T2 u ++ [(v, (u, S 3 + 1, S 3 + 2, 0, S 2, S 2))]) := by
  obtain ⟨⟨c0, c1, c2, c3, c4, c5, c6, c51, c29, c24⟩, ⟨n1, n2, n3⟩, U, BB, M, r, pp, us, s, x1, x2⟩ := R
  have hul := us.2.2.1
  refine ⟨⟨(by show V 0 + 2 = S 3 + 2; rw [c0]), c1, c2, c3, c4, c5, c6, c51, c29, c24⟩, ⟨n1, n2, n3⟩, U, BB, M, r, pp, us, s.cg ⟨rfl, rfl, rfl, rfl, rfl⟩, x1.up (by show V 0 ≤ V 0 + 2; omega) (Int.le_refl _), ?_⟩
  rw [← c0, ← c1]
  exact x2.mk v (by omega) (by show u < V 8; omega) (by omega) rfl
theorem RX.logout (R : RX V B S A RL UL SL T1 T2) {sid : Int} : (T1.find? (fun p => decide (p.2.2.1 = sid)) = none ∧ sb_run (fun s => decide (mlv V B s ∧ B 9 s = sid)) 12 0 (-1) = -1) ∨ ∃ q, T1.find? (fun p => decide (p.2.2.1 = sid)) = some q ∧ (0 ≤ sb_run (fun s => decide (mlv V B s ∧ B 9 s = sid)) 12 0 (-1) ∧ sb_run (fun s => decide (mlv V B s ∧ B 9 s = sid)) 12 0 (-1) < 12) ∧ RX V (va_up (va_up B 8 (zU (B 8) (sb_run (fun s => decide (mlv V B s ∧ B 9 s = sid)) 12 0 (-1)) 0)) 14 (zU (zU (B 14) (2 * ((sb_run (fun s => decide (mlv V B s ∧ B 9 s = sid)) 12 0 (-1)) / 2)) 0) (2 * ((sb_run (fun s => decide (mlv V B s ∧ B 9 s = sid)) 12 0 (-1)) / 2) + 1) 0)) S A RL UL SL (T1.filter (fun p => decide (¬ (p.2.2.1 = sid)))) (T2.filter (fun p => decide (¬ (p.2.1 = q.2.1)))) := by
  obtain ⟨C, N, U, BB, M, r, pp, us, s, x1, x2⟩ := R
  rcases x1.out (x := sid) (Q := fun s => decide (mlv V B s ∧ B 9 s = sid)) (fun _ => rfl) with ⟨h1, h3, h4⟩ | ⟨q, h1, h3, h4, h5, h6, h7⟩
  · exact Or.inl ⟨h1, h3⟩
  · refine Or.inr ⟨q, h1, h4, C, N, U, BB, M, r, pp, us, s.cg ⟨rfl, rfl, rfl, rfl, rfl⟩, h7, ?_⟩
    have hq : q.2.1 = (sb_run (fun s => decide (mlv V B s ∧ B 9 s = sid)) 12 0 (-1)) / 2 := by rw [← h6]
    rw [hq]
    exact x2.thf (by omega) rfl rfl
theorem RX.runs (R : RX V B S A RL UL SL T1 T2) : RX (va_up V 3 (V 3 + 1)) B (va_up S 5 (S 5 + 1)) A RL UL SL T1 T2 := by
  obtain ⟨⟨c0, c1, c2, c3, c4, c5, c6, c51, c29, c24⟩, N, U, D, M, r, p, u, s, x1, x2⟩ := R
  exact ⟨⟨c0, c1, c2, (by show V 3 + 1 = S 5 + 1; rw [c3]), c4, c5, c6, c51, c29, c24⟩, N, U, D, M, r, p, u, s, x1, x2⟩
theorem RX.keeps (R : RX V B S A RL UL SL T1 T2) : RX (va_up V 4 (V 4 + 1)) B (va_up S 6 (S 6 + 1)) A RL UL SL T1 T2 := by
  obtain ⟨⟨c0, c1, c2, c3, c4, c5, c6, c51, c29, c24⟩, N, U, D, M, r, p, u, s, x1, x2⟩ := R
  exact ⟨⟨c0, c1, c2, c3, (by show V 4 + 1 = S 6 + 1; rw [c4]), c5, c6, c51, c29, c24⟩, N, U, D, M, r, p, u, s, x1, x2⟩
theorem RX.close0 (R : RX V B S A RL UL SL T1 T2) (h : S 1 = 0) : RX (va_up (va_up (va_up V 51 0) 52 (-1)) 53 0) B S A RL UL SL T1 T2 := by
  obtain ⟨⟨c0, c1, c2, c3, c4, c5, c6, c51, c29, c24⟩, N, ⟨u1, u2, u3, u4⟩, D, M, r, p, u, s, x1, x2⟩ := R
  have h52 := u4 (c51.trans h)
  refine ⟨⟨c0, c1, c2, c3, c4, c5, c6, h.symm, c29, c24⟩, N, ⟨?_, ⟨by show (-1 : Int) ≤ -1; omega, by show -1 < V 8; omega⟩, Or.inl rfl, fun _ => rfl⟩, D, M, r, p, u, s, x1, x2⟩
  rw [u1, h52]
  rfl
theorem RX.close1 (R : RX V B S A RL UL SL T1 T2) : RX (va_up (va_up (va_up V 51 0) 52 (-1)) 53 0) B (va_up (va_up S 1 0) 0 (-1)) A RL UL SL T1 T2 := by
  obtain ⟨⟨c0, c1, c2, c3, c4, c5, c6, c51, c29, c24⟩, N, ⟨u1, u2, u3, u4⟩, D, M, r, p, u, s, x1, x2⟩ := R
  exact ⟨⟨c0, c1, c2, c3, c4, c5, c6, rfl, c29, c24⟩, N, ⟨rfl, ⟨by show (-1 : Int) ≤ -1; omega, by show -1 < V 8; omega⟩, Or.inl rfl, fun _ => rfl⟩, D, M, r, p, u, s, x1, x2⟩
theorem RX.mdR (R : RX V B S A RL UL SL T1 T2) (h2 : 0 ≤ S 2 ∧ S 2 ≤ 100000) (h3 : 0 ≤ S 3 ∧ S 3 ≤ 100000) : md_R V B := by
  obtain ⟨⟨c0, c1, c2, c3, c4, c5, c6, c51, c29, c24⟩, N, U, D, M, r, p, u, s, x1, ⟨w, y1, y2, y3, y4⟩⟩ := R
  refine ⟨by omega, fun i i1 i2 => ?_⟩
  obtain ⟨a1, a2, a3, a4, a5, a6⟩ := x1.2.1 i ⟨i1, i2⟩
  obtain ⟨b1, b2, b3⟩ := y2 i ⟨i1, i2⟩
  exact ⟨a1, by omega, by omega, a4, by omega, by omega, b1, by omega, by omega⟩
theorem RX.mdU (R : RX V B S A RL UL SL T1 T2) : md_U B := R.2.2.2.2.2.2.2.1.2.2.2
theorem RX.mdT (R : RX V B S A RL UL SL T1 T2) : md_T B := R.2.2.2.2.2.2.2.2.1.2.2.2.1
theorem RX.ses (R : RX V B S A RL UL SL T1 T2) {u i : Int} (hu : 0 ≤ u ∧ u ≤ 5) (hi : 0 ≤ i ∧ i ≤ 1) : (tk_of T1 u i = none ∧ (sn_of (decide (mlv V B (2 * u))) (decide (mlv V B (2 * u + 1))) (B 9 (2 * u)) (B 9 (2 * u + 1)) u i) = -1) ∨ ∃ p, tk_of T1 u i = some p ∧ (0 ≤ (sn_of (decide (mlv V B (2 * u))) (decide (mlv V B (2 * u + 1))) (B 9 (2 * u)) (B 9 (2 * u + 1)) u i) ∧ (sn_of (decide (mlv V B (2 * u))) (decide (mlv V B (2 * u + 1))) (B 9 (2 * u)) (B 9 (2 * u + 1)) u i) < 12) ∧ f1 (B 9) (B 10) (B 11) (B 12) (B 13) (sn_of (decide (mlv V B (2 * u))) (decide (mlv V B (2 * u + 1))) (B 9 (2 * u)) (B 9 (2 * u + 1)) u i) = p.2 :=
  R.2.2.2.2.2.2.2.2.2.1.1.sn hu hi (decide_eq_true_iff ) (decide_eq_true_iff )
theorem RX.ser (R : RX V B S A RL UL SL T1 T2) {u i : Int} (hu : 0 ≤ u ∧ u ≤ 5) (hi : 0 ≤ i ∧ i ≤ 1) : (tk_of T2 u i = none ∧ (sn_of (decide (B 14 (2 * u) = 1)) (decide (B 14 (2 * u + 1) = 1)) (B 15 (2 * u)) (B 15 (2 * u + 1)) u i) = -1) ∨ ∃ p, tk_of T2 u i = some p ∧ (0 ≤ (sn_of (decide (B 14 (2 * u) = 1)) (decide (B 14 (2 * u + 1) = 1)) (B 15 (2 * u)) (B 15 (2 * u + 1)) u i) ∧ (sn_of (decide (B 14 (2 * u) = 1)) (decide (B 14 (2 * u + 1) = 1)) (B 15 (2 * u)) (B 15 (2 * u + 1)) u i) < 12) ∧ p.2.2.1 = B 15 (sn_of (decide (B 14 (2 * u) = 1)) (decide (B 14 (2 * u + 1) = 1)) (B 15 (2 * u)) (B 15 (2 * u + 1)) u i) ∧ p.2.2.2.1 = B 16 (sn_of (decide (B 14 (2 * u) = 1)) (decide (B 14 (2 * u + 1) = 1)) (B 15 (2 * u)) (B 15 (2 * u + 1)) u i) := by
  obtain ⟨w, y1, y2, y3, y4⟩ := R.2.2.2.2.2.2.2.2.2.2
  rcases y1.sn hu hi (decide_eq_true_iff) (decide_eq_true_iff) with h | ⟨p, h1, h2, h3⟩
  · exact Or.inl h
  · refine Or.inr ⟨p, h1, h2, ?_, ?_⟩ <;> rw [← h3]
/-- no ticket of one who is no user -/
theorem RX.nos (R : RX V B S A RL UL SL T1 T2) {u i : Int} (hu : ¬ (0 ≤ u ∧ u < (UL.length : Int))) : tk_of T1 u i = none ∧ tk_of T2 u i = none := by
  obtain ⟨C, ⟨n1, n2, n3⟩, U, D, M, r, p, us, s, x1, ⟨w, y1, y2, y3, y4⟩⟩ := R
  have k1 : T1.filter (fun p => decide (p.2.1 = u)) = [] := by
    refine List.filter_eq_nil_iff.2 (fun p hp => ?_)
    obtain ⟨s, a1, a2, a3⟩ := x1.1.at hp
    have h1 := x1.2.2 s a1 a2
    have h2 : p.2.1 = s / 2 := by rw [← a3]
    simp
    omega
  have k2 : T2.filter (fun p => decide (p.2.1 = u)) = [] := by
    refine List.filter_eq_nil_iff.2 (fun p hp => ?_)
    obtain ⟨s, a1, a2, a3⟩ := y1.at hp
    have h1 := (y3 s a1 a2).1
    have h2 : p.2.1 = s / 2 := by rw [← a3]
    simp
    omega
  unfold tk_of
  rw [k1, k2]
  constructor <;> (split <;> simp)
theorem RX.two (R : RX V B S A RL UL SL T1 T2) {u i : Int} (hu : 0 ≤ u ∧ u ≤ 5) (hi : ¬ (0 ≤ i ∧ i ≤ 1)) : tk_of T1 u i = none ∧ tk_of T2 u i = none := by
  obtain ⟨C, N, U, D, M, r, p, us, s, x1, ⟨w, y1, y2, y3, y4⟩⟩ := R
  have k1 : ((T1.filter (fun p => decide (p.2.1 = u))).map Prod.snd).length ≤ 2 := by
    rcases x1.1.us hu with ⟨_, _, h⟩ | ⟨_, _, h⟩ | ⟨_, _, h⟩ | ⟨_, _, _, h⟩ | ⟨_, _, _, h⟩ <;> (rw [h]; simp)
  have k2 : ((T2.filter (fun p => decide (p.2.1 = u))).map Prod.snd).length ≤ 2 := by
    rcases y1.us hu with ⟨_, _, h⟩ | ⟨_, _, h⟩ | ⟨_, _, h⟩ | ⟨_, _, _, h⟩ | ⟨_, _, _, h⟩ <;> (rw [h]; simp)
  rw [List.length_map] at k1 k2
  unfold tk_of
  by_cases h : 0 ≤ i
  · rw [if_pos h, if_pos h]
    exact ⟨List.getElem?_eq_none (by omega), List.getElem?_eq_none (by omega)⟩
  · rw [if_neg h, if_neg h]
    exact ⟨rfl, rfl⟩
end RX
