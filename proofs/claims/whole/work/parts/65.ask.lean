/-! who asks, and what is decided -/
abbrev sbm (V : Nat → Int) (B : Nat → Int → Int) (sid : Int) : Int := sb_run (fun s => decide (mlv V B s ∧ B 9 s = sid)) 12 0 (-1)
abbrev srm (B : Nat → Int → Int) (ser : Int) : Int := sb_run (fun s => decide (B 14 s = 1 ∧ B 15 s = ser)) 12 0 (-1)
def ask_M (V : Nat → Int) (B : Nat → Int → Int) (sid ser tok s : Int) (V1 : Nat → Int) (B1 : Nat → Int → Int) : Prop :=
  ((0 ≤ sbm V B sid ∧ sbm V B sid < 12) ∧ s = sbm V B sid ∧ V1 = va_up (va_up V 54 (sbm V B sid / 2)) 55 (B 11 (sbm V B sid)) ∧ B1 = va_up B 13 (zU (B 13) (sbm V B sid) (V 1))) ∨
  (sbm V B sid = -1 ∧ srm B ser = -1 ∧ s = -1 ∧ V1 = va_up (va_up V 54 (-1)) 55 0 ∧ B1 = B) ∨
  (sbm V B sid = -1 ∧ (0 ≤ srm B ser ∧ srm B ser < 12) ∧ B 16 (srm B ser) = tok ∧ s = -1 ∧ V1 = va_up (va_up (va_up V 54 (srm B ser / 2)) 55 1) 0 (V 0 + 3) ∧ B1 = mk_B (va_up B 16 (zU (B 16) (srm B ser) (V 0 + 1))) (ms_of V B (srm B ser / 2)) (V 0 + 1) 1 (V 1)) ∨
  (sbm V B sid = -1 ∧ (0 ≤ srm B ser ∧ srm B ser < 12) ∧ B 16 (srm B ser) ≠ tok ∧ s = -1 ∧ V1 = va_up (va_up (va_up V 54 (-1)) 55 0) 5 (V 5 + 1) ∧ B1 = va_up (va_up B 14 (zU (zU (B 14) (2 * (srm B ser / 2)) 0) (2 * (srm B ser / 2) + 1) 0)) 8 (zU (zU (B 8) (srm B ser / 2 * 2) 0) (srm B ser / 2 * 2 + 1) 0))
section AK
variable {V V' : Nat → Int} {B B' : Nat → Int → Int} {S S' : Nat → Int} {A A' : Nat → Int → Int} {RL : List (Nat × rd)} {UL : List (Nat × ud)} {SL : List (Nat × sd)} {T1 T2 : List (Nat × td)}
theorem RX.hd (R : RX V B S A RL UL SL T1 T2) (ha : rl_V (A 17)) {who old : Int} (hw : -1 ≤ who ∧ who < V 8) (ho : old = 0 ∨ old = 1) : hd_of (A 17) UL (if 8 ≤ ak_of who old then ak_of who old - 8 else ak_of who old) = hd_m B who := by
  obtain ⟨C, ⟨n1, n2, n3⟩, U, D, M, r, p, us, s, x1, x2⟩ := R
  have hul := us.2.2.1
  by_cases h : 0 ≤ who
  · have e : (if 8 ≤ ak_of who old then ak_of who old - 8 else ak_of who old) = who := by
      rcases ho with h0 | h1
      · have e0 : ak_of who old = who := by
          unfold ak_of
          rw [if_neg (show ¬ who < 0 by omega), if_neg (show ¬ old = 1 by omega)]
        rw [e0, if_neg (by omega)]
      · have e0 : ak_of who old = who + 8 := by
          unfold ak_of
          rw [if_neg (show ¬ who < 0 by omega), if_pos h1]
        rw [e0, if_pos (by omega)]
        omega
    rw [e]
    unfold hd_of hd_m
    rw [if_pos (by omega), if_pos h]
    have hl : who.toNat < UL.length := by omega
    have hg := us.1 who.toNat _ (List.getElem?_eq_getElem hl)
    rw [Int.toNat_of_nonneg h] at hg
    have e2 : us_gv UL who.toNat = B 2 who := by
      unfold us_gv
      rw [List.getElem?_eq_getElem hl]
      show (UL[who.toNat]).2.1 = _
      rw [hg]
    rw [e2]
    have ur := us.2.2.2 who h (by omega)
    exact r.held ha (by omega)
  · have e0 : ak_of who old = -1 := by
      unfold ak_of
      rw [if_pos (show who < 0 by omega)]
    rw [e0, if_neg (by decide)]
    unfold hd_of hd_m
    rw [if_neg (by omega), if_neg h]
/-- whether a condition is true -/
theorem RX.tru (R : RX V B S A RL UL SL T1 T2) (ha : rl_V (A 17)) {who old arg c : Int} (hw : -1 ≤ who ∧ who < V 8) (ho : old = 0 ∨ old = 1) (hc : 0 ≤ c ∧ c < S 13) : (tr_of (A 12) (A 13) (A 14) (S 13) (ak_of who old) (hd_of (A 17) UL (if 8 ≤ ak_of who old then ak_of who old - 8 else ak_of who old)) arg c = 1 ↔ ex_run (B 17) (B 18) (B 19) (ak_of who old) (hd_m B who) arg (c + 1).toNat 0 (fun _ => 0) c = 1) := by
  rw [R.hd ha hw ho]
  obtain ⟨C, N, U, ⟨d1, d2, d3, d4⟩, M, r, p, us, s, x1, x2⟩ := R
  rw [d2, d3, d4]
  unfold tr_of
  rw [if_pos hc]
  split
  · rename_i h; exact ⟨fun _ => h, fun _ => rfl⟩
  · rename_i h; exact ⟨fun h2 => absurd h2 (by decide), fun h2 => absurd h2 h⟩
theorem RX.ask (R : RX V B (va_up S 9 0) A RL UL SL T1 T2) {n : Nat} {sid sec ser tok ask pr s : Int} {S1 V1 : Nat → Int} {B1 : Nat → Int → Int} {T1' T2' : List (Nat × td)} (h2 : 0 ≤ S 2) (h3 : 0 ≤ S 3) (hk : ak_P n S T1 T2 sid sec ser tok ask pr S1 T1' T2') (hm : ask_M V B sid ser tok s V1 B1) :
    RX V1 B1 (va_up S1 9 0) A RL UL SL T1' T2' ∧ ask = ak_of (V1 54) (V1 55) ∧ (-1 ≤ V1 54 ∧ V1 54 < V1 8) ∧ (V1 55 = 0 ∨ V1 55 = 1) ∧ (pr = 0 ∨ pr = 1) ∧ (pr = 0 ↔ (s < 0 ∨ B1 10 s ≠ sec)) := by
  obtain ⟨⟨c0, c1, c2, c3, c4, c5, c6, c51, c29, c24⟩, ⟨n1, n2, n3⟩, U, D, M, r, p, us, ss, x1, x2⟩ := R
  have c0 : V 0 = S 3 := c0
  have c1 : V 1 = S 2 := c1
  have c5 : V 5 = S 7 := c5
  have hul := us.2.2.1
  have hO := x1.out (x := sid) (Q := fun s => decide (mlv V B s ∧ B 9 s = sid)) (fun _ => rfl)
  have hB := x2.by (x := ser) (Q := fun s => decide (B 14 s = 1 ∧ B 15 s = ser)) (fun _ => rfl)
  rcases hk with ⟨k, q, k1, k2, k3, k4, k5, k6, k7⟩ | ⟨k1, k2, kk⟩
  · rcases hO with ⟨o1, _⟩ | ⟨q', o1, o2, o3, o4, o5, o6⟩
    · rw [k1] at o1
      exact absurd o1 (by simp)
    rw [k1] at o1
    injection o1 with o1
    subst o1
    rcases hm with ⟨m1, m2, m3, m4⟩ | ⟨m1, _⟩ | ⟨m1, _⟩ | ⟨m1, _⟩
    · subst m2 m3 m4 k5 k6 k7
      have e1 : q.2.1 = sbm V B sid / 2 := by rw [← o5]
      have e2 : q.2.2.2.2.1 = B 11 (sbm V B sid) := by rw [← o5]
      have e3 : q.2.2.2.1 = B 10 (sbm V B sid) := by rw [← o5]
      have hlt := x1.2.2 _ o3 o4
      have h11 := (x1.2.1 _ o3).2.2.2.1
      refine ⟨⟨⟨c0, c1, c2, c3, c4, c5, c6, c51, c29, c24⟩, ⟨n1, n2, n3⟩, U, D, M, r, p, us, ss.cg ⟨rfl, rfl, rfl, rfl, rfl⟩, ?_, x2⟩, ?_, ?_, h11, ?_, ?_⟩
      · rw [← c1]
        exact x1.use k2 o3 o4 o5
      · show ask = ak_of (sbm V B sid / 2) (B 11 (sbm V B sid))
        rw [k3, e1, e2]
        unfold ak_of
        rw [if_neg (show ¬ sbm V B sid / 2 < 0 by omega)]
      · show -1 ≤ sbm V B sid / 2 ∧ sbm V B sid / 2 < V 8
        exact ⟨by omega, hlt⟩
      · rw [k4]
        split
        · exact Or.inr rfl
        · exact Or.inl rfl
      · show pr = 0 ↔ (sbm V B sid < 0 ∨ B 10 (sbm V B sid) ≠ sec)
        rw [k4, e3]
        split
        · constructor
          · intro h; exact absurd h (by decide)
          · intro h; omega
        · rename_i hne
          exact ⟨fun _ => Or.inr hne, fun _ => rfl⟩
    all_goals (have o3 : 0 ≤ sbm V B sid ∧ sbm V B sid < 12 := o3; omega)
  · rcases hO with ⟨o1, o2, o3⟩ | ⟨q', o1, _⟩
    · subst k2
      have hpr : ∀ s : Int, s = -1 → ((0 : Int) = 0 ↔ (s < 0 ∨ B1 10 s ≠ sec)) := fun s hs => ⟨fun _ => Or.inl (by omega), fun _ => rfl⟩
      rcases kk with ⟨k3, k4, k5, k6, k7⟩ | ⟨k, q, k3, k4, kk⟩
      · rcases hB with ⟨b1, b2⟩ | ⟨q', b1, _⟩
        · rcases hm with ⟨m1, _⟩ | ⟨m1, m2, m3, m4, m5⟩ | ⟨m1, m2, _⟩ | ⟨m1, m2, _⟩
          · exact absurd m1.1 (by unfold sbm; omega)
          · subst m4 m5 k5 k6 k7
            exact ⟨⟨⟨c0, c1, c2, c3, c4, c5, c6, c51, c29, c24⟩, ⟨n1, n2, n3⟩, U, D, M, r, p, us, ss, x1, x2⟩, k4, ⟨by show (-1 : Int) ≤ -1; omega, by show -1 < V 8; omega⟩, Or.inl rfl, Or.inl rfl, hpr s m3⟩
          · exact absurd m2.1 (by unfold srm; omega)
          · exact absurd m2.1 (by unfold srm; omega)
        · rw [k3] at b1
          exact absurd b1 (by simp)
      · rcases hB with ⟨b1, _⟩ | ⟨q', b1, b2, b3, b4, b5, b6, b7⟩
        · rw [k3] at b1
          exact absurd b1 (by simp)
        · rw [k3] at b1
          injection b1 with b1
          subst b1
          have b3 : 0 ≤ srm B ser ∧ srm B ser < 12 := b3
          have b5 : q.2.1 = srm B ser / 2 := b5
          have b7 : q.2.2.2.1 = B 16 (srm B ser) := b7
          have hlt : srm B ser / 2 < V 8 := by
            obtain ⟨w, y1, y2, y3, y4⟩ := x2
            exact (y3 _ b3 b4).1
          rcases kk with ⟨k5, k6, k7, k8, k9⟩ | ⟨k5, k6, k7, k8, k9⟩
          · rcases hm with ⟨m1, _⟩ | ⟨m1, m2, _⟩ | ⟨m1, m2, m3, _⟩ | ⟨m1, m2, m3, m4, m5, m6⟩
            · exact absurd m1.1 (by unfold sbm; omega)
            · exact absurd m2 (by omega)
            · exact absurd (b7.trans m3) k5
            · subst m5 m6 k7 k8 k9
              refine ⟨⟨⟨c0, c1, c2, c3, c4, (by show V 5 + 1 = S 7 + 1; rw [c5]), c6, c51, c29, c24⟩, ⟨n1, n2, n3⟩, U, D, M, r, p, us, ss.cg ⟨rfl, rfl, rfl, rfl, rfl⟩, ?_, ?_⟩, k6, ⟨by show (-1 : Int) ≤ -1; omega, by show -1 < V 8; omega⟩, Or.inl rfl, Or.inl rfl, hpr s m4⟩
              · rw [b5]
                exact x1.thf (by omega) (by omega) (by omega)
              · rw [b5]
                exact x2.thf (by omega) rfl rfl
          · rcases hm with ⟨m1, _⟩ | ⟨m1, m2, _⟩ | ⟨m1, m2, m3, m4, m5, m6⟩ | ⟨m1, m2, m3, _⟩
            · exact absurd m1.1 (by unfold sbm; omega)
            · exact absurd m2 (by omega)
            · subst m5 m6 k7 k8 k9
              have x1' : R1 T1 (V 1) (V 0 + 1) (V 8) (B 8) (B 9) (B 10) (B 11) (B 12) (B 13) := x1.up (by omega) (Int.le_refl _)
              have x2' : R2 T2 (V 1) (V 0 + 1) (V 8) (B 14) (B 15) (B 16) := x2.up (Int.le_refl _) (by omega) (Int.le_refl _)
              have y1 := x1'.mk (u := srm B ser / 2) (s0 := ms_of V B (srm B ser / 2)) (re := 1) n (by omega) hlt (by omega) (by omega) (Or.inr rfl) rfl
              have y2 := (x2'.tok (s0 := srm B ser) (x := V 0 + 1) k4 b3 b4 b5 b6 (by omega)).up (t' := V 1) (dr' := V 0 + 3) (ul' := V 8) (Int.le_refl _) (by omega) (Int.le_refl _)
              refine ⟨⟨⟨(by show V 0 + 3 = S 3 + 3; rw [c0]), c1, c2, c3, c4, c5, c6, c51, c29, c24⟩, ⟨n1, n2, n3⟩, U, D, M, r, p, us, ss.cg ⟨rfl, rfl, rfl, rfl, rfl⟩, ?_, ?_⟩, ?_, ?_, Or.inr rfl, Or.inl rfl, hpr s m4⟩
              · rw [b5, ← c0, ← c1, show V 0 + 2 = V 0 + 1 + 1 by omega, show V 0 + 3 = V 0 + 1 + 2 by omega]
                have := y1
                rw [show V 0 + 3 = V 0 + 1 + 2 by omega] at *
                exact this
              · rw [← c0]
                exact y2
              · show ask = ak_of (srm B ser / 2) 1
                rw [k6, b5]
                unfold ak_of
                rw [if_neg (show ¬ srm B ser / 2 < 0 by omega), if_pos rfl]
              · show -1 ≤ srm B ser / 2 ∧ srm B ser / 2 < V 8
                omega
            · exact absurd (b7.symm.trans k5) m3
    · rw [k1] at o1
      exact absurd o1 (by simp)
/-- what the model decides -/
def dec_M (V1 : Nat → Int) (B1 : Nat → Int → Int) (RL : List (Nat × rd)) (L : List (List Int)) (me sec s : Int) (V' : Nat → Int) (r : Int) : Prop :=
  ((2 ≤ me ∧ (s < 0 ∨ B1 10 s ≠ sec)) ∧ r = 419 ∧ V' = V1) ∨ (¬ (2 ≤ me ∧ (s < 0 ∨ B1 10 s ≠ sec)) ∧ ((fr_of L me RL 0 = -1 ∧ r = 403 ∧ V' = V1) ∨ ∃ p, fr_of L me RL 0 ≠ -1 ∧ RL[(fr_of L me RL 0).toNat]? = some p ∧
    ((ex_run (B1 17) (B1 18) (B1 19) (ak_of (V1 54) (V1 55)) (hd_m B1 (V1 54)) (L.length : Int) (p.2.2.1 + 1).toNat 0 (fun _ => 0) p.2.2.1 = 1 ∧ r = 200 + fr_of L me RL 0 ∧ V' = va_up (va_up (va_up (va_up V1 51 1) 52 (V1 54)) 53 (V1 55)) 2 (V1 2 + 1)) ∨ (ex_run (B1 17) (B1 18) (B1 19) (ak_of (V1 54) (V1 55)) (hd_m B1 (V1 54)) (L.length : Int) (p.2.2.1 + 1).toNat 0 (fun _ => 0) p.2.2.1 ≠ 1 ∧ r = (if V1 54 < 0 then 401 else 403) ∧ V' = V1))))
theorem RX.deci (R : RX V B (va_up S' 9 0) A RL UL SL T1 T2) (ha : rl_V (A 17)) (h13 : S' 13 = S 13) {L : List (List Int)} {me sec s ask pr r1 r2 : Int} {SF V1 : Nat → Int} (hask : ask = ak_of (V 54) (V 55)) (hw : -1 ≤ V 54 ∧ V 54 < V 8) (ho : V 55 = 0 ∨ V 55 = 1) (hpr : pr = 0 ↔ (s < 0 ∨ B 10 s ≠ sec)) (hc : de_P A S RL UL L me ask pr S' SF r1) (hm : dec_M V B RL L me sec s V1 r2) : r2 = r1 ∧ RX V1 B (va_up SF 9 0) A RL UL SL T1 T2 := by
  have h419 : (2 ≤ me ∧ pr = 0) ↔ (2 ≤ me ∧ (s < 0 ∨ B 10 s ≠ sec)) := by rw [hpr]
  rcases hc with ⟨a1, a2, a3⟩ | ⟨a1, hc⟩
  · rcases hm with ⟨m1, m2, m3⟩ | ⟨m1, _⟩
    · subst a2 a3 m2 m3
      exact ⟨rfl, R⟩
    · exact absurd (h419.1 a1) m1
  · rcases hm with ⟨m1, _⟩ | ⟨m1, hm⟩
    · exact absurd (h419.2 m1) a1
    · rcases hc with ⟨a2, a3, a4⟩ | ⟨p, a2, a3, hc⟩
      · rcases hm with ⟨m2, m3, m4⟩ | ⟨p, m2, _⟩
        · subst a3 a4 m3 m4
          exact ⟨rfl, R⟩
        · exact absurd a2 m2
      · rcases hm with ⟨m2, _⟩ | ⟨p', m2, m3, hm⟩
        · exact absurd m2 a2
        · rw [a3] at m3
          injection m3 with m3
          subst m3
          have hp := R.2.2.2.2.2.2.1.1 _ p a3
          obtain ⟨f, len, g1, g2, g3, g4, g5, g6, g7, g8, g9⟩ := hp
          have c24 : V 24 = S' 13 := R.1.2.2.2.2.2.2.2.2.2
          have ht := R.tru ha (arg := (L.length : Int)) (c := p.2.2.1) hw ho (by show 0 ≤ p.2.2.1 ∧ p.2.2.1 < S' 13; omega)
          rw [show (va_up S' 9 0) 13 = S 13 from h13, ← hask] at ht
          rw [← hask] at hm
          rcases hc with ⟨a4, a5, a6⟩ | ⟨a4, a5, a6⟩
          · rcases hm with ⟨m4, m5, m6⟩ | ⟨m4, _⟩
            · subst a5 a6 m5 m6
              refine ⟨rfl, ?_⟩
              obtain ⟨⟨c0, c1, c2, c3, c4, c5, c6, c51, c29, c24⟩, N, U, D, M, r, p, u, s, x1, x2⟩ := R
              exact ⟨⟨c0, c1, (by show V 2 + 1 = S' 4 + 1; exact congrArg (· + 1) c2), c3, c4, c5, c6, rfl, c29, c24⟩, N, ⟨hask, hw, ho, fun h => absurd h (by show ¬ (1 : Int) = 0; decide)⟩, D, M, r, p, u, s, x1, x2⟩
            · exact absurd (ht.1 a4) m4
          · rcases hm with ⟨m4, _⟩ | ⟨m4, m5, m6⟩
            · exact absurd (ht.2 m4) a4
            · subst a5 a6 m5 m6
              refine ⟨?_, R⟩
              rw [hask]
              unfold ak_of
              by_cases h0 : V1 54 < 0
              · rw [if_pos h0, if_pos h0, if_pos rfl]
              · rw [if_neg h0, if_neg h0, if_neg]
                split <;> omega
/-- whether a method runs -/
theorem RX.call (R : RX V B S A RL UL SL T1 T2) (ha : rl_V (A 17)) {t op x : Int} (ho : 0 ≤ op ∧ op < 4) (ht : 0 ≤ t ∧ t < (SL.length : Int)) : (ty_of SL op 6 t = -1 ∧ wl_run B op 6 t = -1) ∨ (ty_of SL op 6 t ≠ -1 ∧ 0 ≤ wl_run B op 6 t ∧ gl_run B op 6 t (mc_at B op (wl_run B op 6 t)) < V 24 ∧ ((gd_of SL t op = -1 ∨ tr_of (A 12) (A 13) (A 14) (S 13) (S 0) (hd_of (A 17) UL (if 8 ≤ S 0 then S 0 - 8 else S 0)) x (gd_of SL t op) = 1) ↔ ((gl_run B op 6 t (mc_at B op (wl_run B op 6 t))) < 0 ∨ (ex_run (B 17) (B 18) (B 19) (ak_of (V 52) (V 53)) (hd_m B (V 52)) x ((gl_run B op 6 t (mc_at B op (wl_run B op 6 t))) + 1).toNat 0 (fun _ => 0) (gl_run B op 6 t (mc_at B op (wl_run B op 6 t)))) = 1))) := by
  have R' := R
  obtain ⟨⟨c0, c1, c2, c3, c4, c5, c6, c51, c29, c24⟩, N, ⟨u1, u2, u3, u4⟩, D, M, r, p, u, s, x1, x2⟩ := R
  rcases s.gd ho ht with h | ⟨h1, h2, h3, h4, h5⟩
  · exact Or.inl h
  · refine Or.inr ⟨h1, h2, by omega, ?_⟩
    rw [h3]
    by_cases hg : gd_of SL t op = -1
    · exact ⟨fun _ => Or.inl (by omega), fun _ => Or.inl hg⟩
    · have := R'.tru ha (arg := x) (c := gd_of SL t op) u2 u3 (by omega)
      rw [← u1] at this ⊢
      exact ⟨fun h => by rcases h with h | h; exact absurd h hg; exact Or.inr (this.1 h), fun h => by rcases h with h | h; omega; exact Or.inr (this.2 h)⟩
theorem ty_no {op t : Int} (ht : ¬ (0 ≤ t ∧ t < (SL.length : Int))) : ty_of SL op 6 t = -1 := by
  unfold ty_of sl_at
  by_cases h : 0 ≤ t
  · rw [if_pos h, List.getElem?_eq_none (by omega)]
  · rw [if_neg h]
end AK
