/-! open -/
/-- who asks, and what asking changes -/
def ak_P (n : Nat) (S : Nat → Int) (T1 T2 : List (Nat × td)) (sid sec ser tok ask pr : Int) (S1 : Nat → Int) (T1' T2' : List (Nat × td)) : Prop :=
  (∃ k q, T1.find? (fun p => decide (p.2.2.1 = sid)) = some q ∧ T1[k]? = some q ∧ ask = (if q.2.2.2.2.1 = 1 then q.2.1 + 8 else q.2.1) ∧ pr = (if q.2.2.2.1 = sec then 1 else 0) ∧ S1 = S ∧ T1' = T1.set k (q.1, (q.2.1, q.2.2.1, q.2.2.2.1, q.2.2.2.2.1, q.2.2.2.2.2.1, S 2)) ∧ T2' = T2) ∨
  (T1.find? (fun p => decide (p.2.2.1 = sid)) = none ∧ pr = 0 ∧ ((T2.find? (fun p => decide (p.2.2.1 = ser)) = none ∧ ask = -1 ∧ S1 = S ∧ T1' = T1 ∧ T2' = T2) ∨ ∃ k q, T2.find? (fun p => decide (p.2.2.1 = ser)) = some q ∧ T2[k]? = some q ∧
    ((q.2.2.2.1 ≠ tok ∧ ask = -1 ∧ S1 = va_up S 7 (S 7 + 1) ∧ T1' = (T1.filter (fun p => decide (¬ (p.2.1 = q.2.1)))) ∧ T2' = (T2.filter (fun p => decide (¬ (p.2.1 = q.2.1))))) ∨ (q.2.2.2.1 = tok ∧ ask = q.2.1 + 8 ∧ S1 = va_up S 3 (S 3 + 3) ∧ T1' = tk_end T1 q.2.1 ++ [(n, (q.2.1, S 3 + 2, S 3 + 3, 1, S 2, S 2))] ∧ T2' = T2.set k (q.1, (q.2.1, q.2.2.1, S 3 + 1, q.2.2.2.2.1, q.2.2.2.2.2.1, q.2.2.2.2.2.2))))))
/-- what is answered then -/
def de_P (A : Nat → Int → Int) (S : Nat → Int) (RL : List (Nat × rd)) (UL : List (Nat × ud)) (L : List (List Int)) (me ask pr : Int) (S1 SF : Nat → Int) (r : Int) : Prop :=
  ((2 ≤ me ∧ pr = 0) ∧ r = 419 ∧ SF = S1) ∨ (¬ (2 ≤ me ∧ pr = 0) ∧ (((fr_of L me RL 0) = -1 ∧ r = 403 ∧ SF = S1) ∨ ∃ p, (fr_of L me RL 0) ≠ -1 ∧ RL[(fr_of L me RL 0).toNat]? = some p ∧ ((tr_of (A 12) (A 13) (A 14) (S 13) ask (hd_of (A 17) UL (if 8 ≤ ask then ask - 8 else ask)) (L.length : Int) p.2.2.1 = 1 ∧ r = 200 + (fr_of L me RL 0) ∧ SF = va_up (va_up (va_up S1 1 1) 0 ask) 4 (S1 4 + 1)) ∨ (tr_of (A 12) (A 13) (A 14) (S 13) ask (hd_of (A 17) UL (if 8 ≤ ask then ask - 8 else ask)) (L.length : Int) p.2.2.1 ≠ 1 ∧ r = (if ask = -1 then 401 else 403) ∧ SF = S1))))
theorem va_cg {S S' : Nat → Int} {k i : Nat} {x y : Int} (hxy : x = y) (h : i ≠ k → S i = S' i) : va_up S k x i = va_up S' k y i := by
  by_cases hi : i = k
  · subst hi; rw [va_up_self, va_up_self]; exact hxy
  · rw [va_up_ne _ _ hi, va_up_ne _ _ hi]; exact h hi
theorem gm_83 {X : zz_X} {d n : Nat} {h : zz_H} (hd : 11 ≤ d) {b : Nat} {S : Nat → Int} {A : Nat → Int → Int} {E : Nat → Nat} {RL : List (Nat × rd)} {UL : List (Nat × ud)} {SL : List (Nat × sd)} {T1 T2 : List (Nat × td)} (G : GI X b h S A E RL UL SL T1 T2) (hn : b + 64 ≤ n) {me sid sec ser tok : Int} (hme : -2147483648 ≤ me ∧ me < 2147483648) (hsid : -2147483648 ≤ sid ∧ sid < 2147483648) (hsec : -2147483648 ≤ sec ∧ sec < 2147483648) (hser : -2147483648 ≤ ser ∧ ser < 2147483648) (htok : -2147483648 ≤ tok ∧ tok < 2147483648) (h3 : S 3 ≤ 80000) : zz_Ct X mm_83 d 2 21 [.ref b, zv me, zv sid, zv sec, zv ser, zv tok] n h (fun r n' h' => n ≤ n' ∧ ((¬ ((0 ≤ me ∧ me < 4) ∧ S 1 = 0) ∧ r = some (zv (-1)) ∧ h' = h) ∨ (((0 ≤ me ∧ me < 4) ∧ S 1 = 0) ∧ sp_read (A 2) (S 9) = none ∧ r = some (zv 400) ∧ ∃ S' A', S' 9 = 0 ∧ (∀ i, i < 14 → i ≠ 9 → i ≠ 10 → i ≠ 11 → i ≠ 12 → S' i = S i) ∧ ax [5, 6, 7] A A' ∧ GI X b h' S' A' E RL UL SL T1 T2 ∧ mf b h h') ∨ (((0 ≤ me ∧ me < 4) ∧ S 1 = 0) ∧ ∃ L ask pr S1 T1' T2' SF r' S' A' E', sp_read (A 2) (S 9) = some L ∧ ak_P n S T1 T2 sid sec ser tok ask pr S1 T1' T2' ∧ de_P A S RL UL L me ask pr S1 SF r' ∧ r = some (zv r') ∧ S' 9 = 0 ∧ (∀ i, i < 14 → i ≠ 9 → i ≠ 10 → i ≠ 11 → i ≠ 12 → S' i = SF i) ∧ ax [5, 6, 7, 9, 10, 15] A A' ∧ GI X b h' S' A' E' RL UL SL T1' T2' ∧ mf b h h'))) := by
  refine zz_start (by decide) (ls := [some (.ref b), some (zv me), some (zv sid), some (zv sec), some (zv ser), some (zv tok), none, none, none, none]) rfl ?_
  have hr := G.rg
  have hso := G.2.1.2.2.2.2.2.2.1.1
  have key : ((0 ≤ me ∧ me < 4) ∧ S 1 = 0) → ∀ (kc ks n2 : Nat) (h2 : zz_H) (S2 S1 : Nat → Int) (A2 : Nat → Int → Int) (E2 : Nat → Nat) (T1' T2' : List (Nat × td)) (L : List (List Int)) (ask pr : Int) (x6 x7 : Option Value), sp_read (A 2) (S 9) = some L → ak_P n S T1 T2 sid sec ser tok ask pr S1 T1' T2' → n ≤ n2 → GI X b h2 S2 A2 E2 RL UL SL T1' T2' → mf b h h2 → ax [5, 6, 7] A A2 → pc_L (A2 5) (A2 6) (A2 7) (S2 12) L → S2 9 = 0 → (∀ i, i < 14 → i ≠ 9 → i ≠ 10 → i ≠ 11 → i ≠ 12 → S2 i = S1 i) → S2 13 = S 13 → (-1 ≤ ask ∧ ask ≤ 13) → (pr = 0 ∨ pr = 1) → zz_Z X mm_83 d (fun r n' h' => n ≤ n' ∧ ((¬ ((0 ≤ me ∧ me < 4) ∧ S 1 = 0) ∧ r = some (zv (-1)) ∧ h' = h) ∨ (((0 ≤ me ∧ me < 4) ∧ S 1 = 0) ∧ sp_read (A 2) (S 9) = none ∧ r = some (zv 400) ∧ ∃ S' A', S' 9 = 0 ∧ (∀ i, i < 14 → i ≠ 9 → i ≠ 10 → i ≠ 11 → i ≠ 12 → S' i = S i) ∧ ax [5, 6, 7] A A' ∧ GI X b h' S' A' E RL UL SL T1 T2 ∧ mf b h h') ∨ (((0 ≤ me ∧ me < 4) ∧ S 1 = 0) ∧ ∃ L ask pr S1 T1' T2' SF r' S' A' E', sp_read (A 2) (S 9) = some L ∧ ak_P n S T1 T2 sid sec ser tok ask pr S1 T1' T2' ∧ de_P A S RL UL L me ask pr S1 SF r' ∧ r = some (zv r') ∧ S' 9 = 0 ∧ (∀ i, i < 14 → i ≠ 9 → i ≠ 10 → i ≠ 11 → i ≠ 12 → S' i = SF i) ∧ ax [5, 6, 7, 9, 10, 15] A A' ∧ GI X b h' S' A' E' RL UL SL T1' T2' ∧ mf b h h'))) kc ks 102 [some (.ref b), some (zv me), some (zv sid), some (zv sec), some (zv ser), some (zv tok), x6, x7, some (zv ask), some (zv pr)] [] n2 h2 := by
    intro hok kc ks n2 h2 S2 S1 A2 E2 T1' T2' L ask pr x6 x7 hL hak hn1 G hm2 hx2 hpl h92 hS2 h13 hask hpr
    have hn2 : b + 64 ≤ n2 := by omega
    refine zj_iload_n dk_83_102 rfl ?_
    refine zj_iconst dk_83_103 ?_
    refine zj_icmp_lt (t := 116) dk_83_104 rfl (by omega) (fun c104 => ?_) (fun c104 => ?_)
    · skip
      have hno : ¬ (2 ≤ me ∧ pr = 0) := by omega
      refine zi_aload_n dk_83_116 rfl rfl ?_
      refine zj_iload_n dk_83_117 rfl ?_
      refine zj_iload dk_83_118 rfl ?_
      refine zi_invV dk_83_120 ml_0_204 iv_96 (gm_96 (d := d - 1) (by omega) G hn2 hpl hask) (by first | exact G.1 0 (by decide) | exact G.1 _ (by decide)) rfl rfl rfl (Nat.le_of_ble_eq_true rfl) (by omega) rfl rfl (fun r n' h' hq => ?_)
      rename zz_H => h5
      rename Nat => n5
      obtain ⟨rfl, A3, hx3, hm3, hq⟩ := hq
      rw [hx2 12 (by decide), hx2 13 (by decide), hx2 14 (by decide), hx2 17 (by decide), h13] at hq
      have hx4 : ax [5, 6, 7, 9, 10, 15] A A3 := fun j hj => (hx3 j (fun hh => hj (by revert hh; simp; omega))).trans (hx2 j (fun hh => hj (by revert hh; simp; omega)))
      obtain ⟨hf, rfl, G⟩ | ⟨p, hf, hp, ⟨ht, rfl, G⟩ | ⟨ht, rfl, G⟩⟩ := hq
      · exact zj_ireturn dk_83_123 rfl ⟨hn1, Or.inr (Or.inr ⟨hok, L, ask, pr, S1, T1', T2', S1, 403, S2, A3, E2, hL, hak, Or.inr ⟨hno, Or.inl ⟨hf, rfl, rfl⟩⟩, rfl, h92, hS2, hx4, G, hm2.tr hm3⟩)⟩
      · exact zj_ireturn dk_83_123 rfl ⟨hn1, Or.inr (Or.inr ⟨hok, L, ask, pr, S1, T1', T2', va_up (va_up (va_up S1 1 1) 0 ask) 4 (S1 4 + 1), _, va_up (va_up (va_up S2 1 1) 0 ask) 4 (S2 4 + 1), A3, E2, hL, hak, Or.inr ⟨hno, Or.inr ⟨p, hf, hp, Or.inl ⟨ht, rfl, rfl⟩⟩⟩, rfl, h92, fun i hi a1 a2 a3 a4 => va_cg (by rw [hS2 4 (by decide) (by decide) (by decide) (by decide) (by decide)]) (fun _ => va_cg rfl (fun _ => va_cg rfl (fun _ => hS2 i hi a1 a2 a3 a4))), hx4, G, hm2.tr hm3⟩)⟩
      · exact zj_ireturn dk_83_123 rfl ⟨hn1, Or.inr (Or.inr ⟨hok, L, ask, pr, S1, T1', T2', S1, _, S2, A3, E2, hL, hak, Or.inr ⟨hno, Or.inr ⟨p, hf, hp, Or.inr ⟨ht, rfl, rfl⟩⟩⟩, rfl, h92, hS2, hx4, G, hm2.tr hm3⟩)⟩
    · skip
      refine zj_iload dk_83_107 rfl ?_
      refine zj_if_ne (t := 116) dk_83_109 rfl (by omega) (fun c109 => ?_) (fun c109 => ?_)
      · skip
        have hno : ¬ (2 ≤ me ∧ pr = 0) := by omega
        refine zi_aload_n dk_83_116 rfl rfl ?_
        refine zj_iload_n dk_83_117 rfl ?_
        refine zj_iload dk_83_118 rfl ?_
        refine zi_invV dk_83_120 ml_0_204 iv_96 (gm_96 (d := d - 1) (by omega) G hn2 hpl hask) (by first | exact G.1 0 (by decide) | exact G.1 _ (by decide)) rfl rfl rfl (Nat.le_of_ble_eq_true rfl) (by omega) rfl rfl (fun r n' h' hq => ?_)
        rename zz_H => h5
        rename Nat => n5
        obtain ⟨rfl, A3, hx3, hm3, hq⟩ := hq
        rw [hx2 12 (by decide), hx2 13 (by decide), hx2 14 (by decide), hx2 17 (by decide), h13] at hq
        have hx4 : ax [5, 6, 7, 9, 10, 15] A A3 := fun j hj => (hx3 j (fun hh => hj (by revert hh; simp; omega))).trans (hx2 j (fun hh => hj (by revert hh; simp; omega)))
        obtain ⟨hf, rfl, G⟩ | ⟨p, hf, hp, ⟨ht, rfl, G⟩ | ⟨ht, rfl, G⟩⟩ := hq
        · exact zj_ireturn dk_83_123 rfl ⟨hn1, Or.inr (Or.inr ⟨hok, L, ask, pr, S1, T1', T2', S1, 403, S2, A3, E2, hL, hak, Or.inr ⟨hno, Or.inl ⟨hf, rfl, rfl⟩⟩, rfl, h92, hS2, hx4, G, hm2.tr hm3⟩)⟩
        · exact zj_ireturn dk_83_123 rfl ⟨hn1, Or.inr (Or.inr ⟨hok, L, ask, pr, S1, T1', T2', va_up (va_up (va_up S1 1 1) 0 ask) 4 (S1 4 + 1), _, va_up (va_up (va_up S2 1 1) 0 ask) 4 (S2 4 + 1), A3, E2, hL, hak, Or.inr ⟨hno, Or.inr ⟨p, hf, hp, Or.inl ⟨ht, rfl, rfl⟩⟩⟩, rfl, h92, fun i hi a1 a2 a3 a4 => va_cg (by rw [hS2 4 (by decide) (by decide) (by decide) (by decide) (by decide)]) (fun _ => va_cg rfl (fun _ => va_cg rfl (fun _ => hS2 i hi a1 a2 a3 a4))), hx4, G, hm2.tr hm3⟩)⟩
        · exact zj_ireturn dk_83_123 rfl ⟨hn1, Or.inr (Or.inr ⟨hok, L, ask, pr, S1, T1', T2', S1, _, S2, A3, E2, hL, hak, Or.inr ⟨hno, Or.inr ⟨p, hf, hp, Or.inr ⟨ht, rfl, rfl⟩⟩⟩, rfl, h92, hS2, hx4, G, hm2.tr hm3⟩)⟩
      · skip
        refine zj_sipush dk_83_112 (by decide) ?_
        refine zj_ireturn dk_83_115 rfl ⟨hn1, Or.inr (Or.inr ⟨hok, L, ask, pr, S1, T1', T2', S1, 419, S2, A2, E2, hL, hak, Or.inl ⟨by omega, rfl, rfl⟩, rfl, h92, hS2, fun j hj => hx2 j (fun hh => hj (by revert hh; simp; omega)), G, hm2⟩)⟩
  refine zj_iload_n dk_83_0 rfl ?_
  refine zj_if_lt (t := 16) dk_83_1 rfl (by omega) (fun c1 => ?_) (fun c1 => ?_)
  · skip
    refine zj_iconst dk_83_16 ?_
    refine zj_ireturn dk_83_17 rfl ⟨Nat.le_refl _, Or.inl ⟨by omega, rfl, rfl⟩⟩
  · skip
    refine zj_iload_n dk_83_4 rfl ?_
    refine zj_iconst dk_83_5 ?_
    refine zj_icmp_ge (t := 16) dk_83_6 rfl (by omega) (fun c6 => ?_) (fun c6 => ?_)
    · skip
      refine zj_iconst dk_83_16 ?_
      refine zj_ireturn dk_83_17 rfl ⟨Nat.le_refl _, Or.inl ⟨by omega, rfl, rfl⟩⟩
    · skip
      refine zi_aload_n dk_83_9 rfl rfl ?_
      refine zi_getf dk_83_10 fl_0_186 (by first | exact G.1 0 (by decide) | exact G.1 _ (by decide)) rfl ?_
      refine zj_if_eq (t := 18) dk_83_13 rfl (by omega) (fun c13 => ?_) (fun c13 => ?_)
      · skip
        have hok : ((0 ≤ me ∧ me < 4) ∧ S 1 = 0) := by omega
        refine zi_aload_n dk_83_18 rfl rfl ?_
        refine zi_getf dk_83_19 fl_0_19 (by first | exact G.1 0 (by decide) | exact G.1 _ (by decide)) rfl ?_
        refine zi_aload_n dk_83_22 rfl rfl ?_
        refine zi_getf dk_83_23 fl_0_12 (by first | exact G.1 0 (by decide) | exact G.1 _ (by decide)) rfl ?_
        refine zi_invV dk_83_26 ml_0_190 iv_84 (gm_84 (d := d - 1) (by omega) G) (G.1 3 (by decide)) rfl rfl rfl (Nat.le_of_ble_eq_true rfl) (by omega) rfl rfl (fun r n' h' hq => ?_)
        rename zz_H => h5
        obtain ⟨rfl, S1, A1, hS1, hA1, G, hm1, ⟨L, hL, rfl, hpl⟩ | ⟨hL, rfl⟩⟩ := hq
        all_goals have hA1' : ax [5, 6, 7] A A1 := fun j hj => hA1 j (fun e => hj (by rw [e]; decide)) (fun e => hj (by rw [e]; decide)) (fun e => hj (by rw [e]; decide))
        · skip
          cases hf : T1.find? (fun p => decide (p.2.2.1 = sid)) with
          | none =>
            refine zj_istore dk_83_29 rfl ?_
            refine zi_aload_n dk_83_31 rfl rfl ?_
            refine zi_getf dk_83_32 fl_0_12 (by first | exact G.1 0 (by decide) | exact G.1 _ (by decide)) rfl ?_
            refine zi_invV dk_83_35 ml_0_75 iv_16 (ct_16 (d := d - 1) (G.1 1 (by decide)) (G.1 2 (by decide)) G.2.1.1 G.tx) (G.1 1 (by decide)) rfl rfl rfl (Nat.le_of_ble_eq_true rfl) (by omega) rfl rfl (fun r n' h' hq => ?_)
            rename zz_H => h6
            obtain ⟨rfl, rfl, e6⟩ := hq
            have e7 := (cl_t (b := b) (S := S1) (A := A1) (E := E) (h0 := h5) (x := 0))
            rw [cl_id G.1] at e7
            have e8 := (e6.trans e7).symm
            subst e8
            have G6 := G.st G.2.1.s9
            obtain ⟨G, hm2, -⟩ := G6
            refine zj_iload dk_83_38 rfl ?_
            have hSx : ∀ i, i < 14 → i ≠ 9 → i ≠ 10 → i ≠ 11 → i ≠ 12 → va_up S1 9 0 i = S i := fun i _ a1 a2 a3 a4 => (va_up_ne _ _ a1).trans (hS1 i a2 a3 a4)
            refine zj_if_ne (t := 47) dk_83_40 rfl (by omega) (fun c40 => ?_) (fun c40 => ?_)
            · skip
              refine zi_aload_n dk_83_47 rfl rfl ?_
              refine zi_getf dk_83_48 fl_0_60 (by first | exact G.1 0 (by decide) | exact G.1 _ (by decide)) rfl ?_
              refine zj_iload_n dk_83_51 rfl ?_
              refine zi_invV dk_83_52 ml_0_174 iv_81 (ct_81 (d := d - 1) (by omega) (G.1 21 (by decide)) G.t1 hsid) (G.1 21 (by decide)) rfl rfl rfl (Nat.le_of_ble_eq_true rfl) (by omega) rfl rfl (fun r n' h' hq => ?_)
              obtain ⟨rfl, e1, e2⟩ := hq
              have e1 := e1.symm
              have e2 := e2.symm
              subst e1
              subst e2
              rw [hf]
              refine zi_astore dk_83_55 rfl rfl ?_
              refine zi_aload dk_83_57 rfl rfl ?_
              refine zi_ifnullN (t := 71) dk_83_59 rfl ?_
              refine zi_aload_n dk_83_71 rfl rfl ?_
              refine zj_iload dk_83_72 rfl ?_
              refine zj_iload dk_83_74 rfl ?_
              refine zi_invV dk_83_76 ml_0_197 iv_95 (gm_95 (d := d - 1) (by omega) G hn hser htok (by show S1 3 ≤ _; rw [hS1 3 (by decide) (by decide) (by decide)]; omega)) (by first | exact G.1 0 (by decide) | exact G.1 _ (by decide)) rfl rfl rfl (Nat.le_of_ble_eq_true rfl) (by omega) (kc' := 0) (ks' := 0) rfl rfl (fun r n' h' hq => ?_)
              rename zz_H => h7
              rename Nat => n7
              have y2 : va_up S1 9 0 2 = S 2 := hSx 2 (by decide) (by decide) (by decide) (by decide) (by decide)
              have y3 : va_up S1 9 0 3 = S 3 := hSx 3 (by decide) (by decide) (by decide) (by decide) (by decide)
              have y7 : va_up S1 9 0 7 = S 7 := hSx 7 (by decide) (by decide) (by decide) (by decide) (by decide)
              have y13 : va_up S1 9 0 13 = S 13 := hSx 13 (by decide) (by decide) (by decide) (by decide) (by decide)
              rw [y2, y3, y7] at hq
              obtain ⟨hn7, ⟨hf2, rfl, e9⟩ | ⟨k, q, hf2, hk, ⟨ht, rfl, S3, h37, hS3, G3, hm3⟩ | ⟨ht, rfl, S3, E3, h33, hS3, G3, hm3⟩⟩⟩ := hq
              · have e9 := e9.symm
                subst e9
                refine zj_istore dk_83_79 rfl ?_
                refine zi_aload dk_83_81 rfl rfl ?_
                refine zi_ifnullN (t := 99) dk_83_83 rfl ?_
                refine zj_iconst dk_83_99 ?_
                refine zj_istore dk_83_100 rfl ?_
                exact key hok _ _ _ _ _ S _ _ _ _ L (-1) 0 _ _ hL (Or.inr ⟨hf, rfl, Or.inl ⟨hf2, rfl, rfl, rfl, rfl⟩⟩) hn7 G (hm1.tr hm2) hA1' hpl (va_up_self _ _ _) hSx y13 (by omega) (Or.inl rfl)
              · skip
                refine zj_istore dk_83_79 rfl ?_
                refine zi_aload dk_83_81 rfl rfl ?_
                refine zi_ifnullN (t := 99) dk_83_83 rfl ?_
                refine zj_iconst dk_83_99 ?_
                refine zj_istore dk_83_100 rfl ?_
                refine key hok _ _ _ _ _ _ _ _ _ _ L (-1) 0 _ _ hL (Or.inr ⟨hf, rfl, Or.inr ⟨k, q, hf2, hk, Or.inl ⟨ht, rfl, rfl, rfl, rfl⟩⟩⟩) hn7 G3 ((hm1.tr hm2).tr hm3) hA1' (by rw [hS3 12 (by decide) (by decide)]; exact hpl) ((hS3 9 (by decide) (by decide)).trans (va_up_self _ _ _)) (fun i hi a1 a2 a3 a4 => ?_) ((hS3 13 (by decide) (by decide)).trans y13) (by omega) (Or.inl rfl)
                by_cases hi7 : i = 7
                · subst hi7; rw [va_up_self]; exact h37
                · rw [va_up_ne _ _ hi7, hS3 i hi hi7]; exact hSx i hi a1 a2 a3 a4
              · have uq := (G.t2.mem (List.mem_of_find?_eq_some hf2)).2.1
                refine zj_istore dk_83_79 rfl ?_
                refine zi_aload dk_83_81 rfl rfl ?_
                refine zi_ifnullN (t := 99) dk_83_83 rfl ?_
                refine zj_iconst dk_83_99 ?_
                refine zj_istore dk_83_100 rfl ?_
                refine key hok _ _ _ _ _ _ _ _ _ _ L (q.2.1 + 8) 0 _ _ hL (Or.inr ⟨hf, rfl, Or.inr ⟨k, q, hf2, hk, Or.inr ⟨ht, rfl, rfl, rfl, rfl⟩⟩⟩) hn7 G3 ((hm1.tr hm2).tr hm3) hA1' (by rw [hS3 12 (by decide) (by decide)]; exact hpl) ((hS3 9 (by decide) (by decide)).trans (va_up_self _ _ _)) (fun i hi a1 a2 a3 a4 => ?_) ((hS3 13 (by decide) (by decide)).trans y13) (by omega) (Or.inl rfl)
                by_cases hi7 : i = 3
                · subst hi7; rw [va_up_self]; exact h33
                · rw [va_up_ne _ _ hi7, hS3 i hi hi7]; exact hSx i hi a1 a2 a3 a4
            · omega
          | some q =>
            have hqm := List.mem_of_find?_eq_some hf
            obtain ⟨k, hk⟩ := List.getElem?_of_mem hqm
            refine zj_istore dk_83_29 rfl ?_
            refine zi_aload_n dk_83_31 rfl rfl ?_
            refine zi_getf dk_83_32 fl_0_12 (by first | exact G.1 0 (by decide) | exact G.1 _ (by decide)) rfl ?_
            refine zi_invV dk_83_35 ml_0_75 iv_16 (ct_16 (d := d - 1) (G.1 1 (by decide)) (G.1 2 (by decide)) G.2.1.1 G.tx) (G.1 1 (by decide)) rfl rfl rfl (Nat.le_of_ble_eq_true rfl) (by omega) rfl rfl (fun r n' h' hq => ?_)
            rename zz_H => h6
            obtain ⟨rfl, rfl, e6⟩ := hq
            have e7 := (cl_t (b := b) (S := S1) (A := A1) (E := E) (h0 := h5) (x := 0))
            rw [cl_id G.1] at e7
            have e8 := (e6.trans e7).symm
            subst e8
            have G6 := G.st G.2.1.s9
            obtain ⟨G, hm2, -⟩ := G6
            refine zj_iload dk_83_38 rfl ?_
            have hSx : ∀ i, i < 14 → i ≠ 9 → i ≠ 10 → i ≠ 11 → i ≠ 12 → va_up S1 9 0 i = S i := fun i _ a1 a2 a3 a4 => (va_up_ne _ _ a1).trans (hS1 i a2 a3 a4)
            refine zj_if_ne (t := 47) dk_83_40 rfl (by omega) (fun c40 => ?_) (fun c40 => ?_)
            · skip
              refine zi_aload_n dk_83_47 rfl rfl ?_
              refine zi_getf dk_83_48 fl_0_60 (by first | exact G.1 0 (by decide) | exact G.1 _ (by decide)) rfl ?_
              refine zj_iload_n dk_83_51 rfl ?_
              refine zi_invV dk_83_52 ml_0_174 iv_81 (ct_81 (d := d - 1) (by omega) (G.1 21 (by decide)) G.t1 hsid) (G.1 21 (by decide)) rfl rfl rfl (Nat.le_of_ble_eq_true rfl) (by omega) rfl rfl (fun r n' h' hq => ?_)
              obtain ⟨rfl, e1, e2⟩ := hq
              have e1 := e1.symm
              have e2 := e2.symm
              subst e1
              subst e2
              rw [hf]
              refine zi_astore dk_83_55 rfl rfl ?_
              refine zi_aload dk_83_57 rfl rfl ?_
              refine zi_ifnullR (t := 71) dk_83_59 rfl ?_
              refine zi_aload_n dk_83_62 rfl rfl ?_
              refine zi_aload dk_83_63 rfl rfl ?_
              refine zi_invV dk_83_65 ml_0_193 iv_94 (gm_94 (d := d - 1) G hn hk) (by first | exact G.1 0 (by decide) | exact G.1 _ (by decide)) rfl rfl rfl (Nat.le_of_ble_eq_true rfl) (by omega) rfl rfl (fun r n' h' hq => ?_)
              have mq := (G.t1.mem hqm).2
              have uq := mq.1
              have rq := mq.2.2.2.1
              have tq := mq.2.2.1
              rename zz_H => h7
              have y2 : va_up S1 9 0 2 = S 2 := hSx 2 (by decide) (by decide) (by decide) (by decide) (by decide)
              have y13 : va_up S1 9 0 13 = S 13 := hSx 13 (by decide) (by decide) (by decide) (by decide) (by decide)
              rw [y2] at hq
              obtain ⟨rfl, rfl, G3, hm3⟩ := hq
              have mq2 := G3.t1.mem (List.mem_of_getElem? (set_self hk))
              change _ = some (Sum.inr (9, [zv q.2.1, zv q.2.2.1, zv q.2.2.2.1, zv q.2.2.2.2.1, zv q.2.2.2.2.2.1, zv (S 2)])) ∧ _ at mq2
              refine zi_goto (t := 79) dk_83_68 rfl ?_
              refine zj_istore dk_83_79 rfl ?_
              refine zi_aload dk_83_81 rfl rfl ?_
              refine zi_ifnullR (t := 99) dk_83_83 rfl ?_
              refine zi_aload dk_83_86 rfl rfl ?_
              refine zi_getf dk_83_88 fl_0_201 mq2.1 rfl ?_
              refine zj_iload_n dk_83_91 rfl ?_
              refine zj_icmp_ne (t := 99) dk_83_92 rfl (by omega) (fun c92 => ?_) (fun c92 => ?_)
              · skip
                refine zj_iconst dk_83_99 ?_
                refine zj_istore dk_83_100 rfl ?_
                exact key hok _ _ _ _ _ S _ _ _ _ L _ _ _ _ hL (Or.inl ⟨k, q, hf, hk, rfl, by first | rw [if_pos (by omega)] | rw [if_neg (by omega)], rfl, rfl, rfl⟩) (Nat.le_refl _) G3 ((hm1.tr hm2).tr hm3) hA1' hpl (va_up_self _ _ _) hSx y13 (by split <;> omega) (by omega)
              · skip
                refine zj_iconst dk_83_95 ?_
                refine zi_goto (t := 100) dk_83_96 rfl ?_
                refine zj_istore dk_83_100 rfl ?_
                exact key hok _ _ _ _ _ S _ _ _ _ L _ _ _ _ hL (Or.inl ⟨k, q, hf, hk, rfl, by first | rw [if_pos (by omega)] | rw [if_neg (by omega)], rfl, rfl, rfl⟩) (Nat.le_refl _) G3 ((hm1.tr hm2).tr hm3) hA1' hpl (va_up_self _ _ _) hSx y13 (by split <;> omega) (by omega)
            · omega
        · skip
          refine zj_istore dk_83_29 rfl ?_
          refine zi_aload_n dk_83_31 rfl rfl ?_
          refine zi_getf dk_83_32 fl_0_12 (by first | exact G.1 0 (by decide) | exact G.1 _ (by decide)) rfl ?_
          refine zi_invV dk_83_35 ml_0_75 iv_16 (ct_16 (d := d - 1) (G.1 1 (by decide)) (G.1 2 (by decide)) G.2.1.1 G.tx) (G.1 1 (by decide)) rfl rfl rfl (Nat.le_of_ble_eq_true rfl) (by omega) rfl rfl (fun r n' h' hq => ?_)
          rename zz_H => h6
          obtain ⟨rfl, rfl, e6⟩ := hq
          have e7 := (cl_t (b := b) (S := S1) (A := A1) (E := E) (h0 := h5) (x := 0))
          rw [cl_id G.1] at e7
          have e8 := (e6.trans e7).symm
          subst e8
          have G6 := G.st G.2.1.s9
          obtain ⟨G, hm2, -⟩ := G6
          refine zj_iload dk_83_38 rfl ?_
          have hSx : ∀ i, i < 14 → i ≠ 9 → i ≠ 10 → i ≠ 11 → i ≠ 12 → va_up S1 9 0 i = S i := fun i _ a1 a2 a3 a4 => (va_up_ne _ _ a1).trans (hS1 i a2 a3 a4)
          refine zj_if_ne (t := 47) dk_83_40 rfl (by omega) (fun c40 => ?_) (fun c40 => ?_)
          · omega
          · skip
            refine zj_sipush dk_83_43 (by decide) ?_
            refine zj_ireturn dk_83_46 rfl ⟨Nat.le_refl _, Or.inr (Or.inl ⟨hok, hL, rfl, _, A1, va_up_self _ _ _, hSx, hA1', G, hm1.tr hm2⟩)⟩
      · skip
        refine zj_iconst dk_83_16 ?_
        refine zj_ireturn dk_83_17 rfl ⟨Nat.le_refl _, Or.inl ⟨by omega, rfl, rfl⟩⟩

