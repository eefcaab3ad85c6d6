/-! lists of rules, users, services grow; a service, a user, a ticket changes -/
theorem us_el {h : zz_H} {v : Nat} {x : ud} (hv : h v = some (us_c x)) : zz_el h v := ⟨8, _, _, hv, rfl, by decide +kernel⟩
theorem sv_el {h : zz_H} {v : Nat} {x : sd} (hv : sv_C h v x) : zz_el h v := ⟨11, _, _, hv.1, rfl, by decide +kernel⟩
theorem ru_el {h : zz_H} {v : Nat} {x : rd} (hv : ru_C h v x) : zz_el h v := ⟨5, _, _, hv.1, rfl, by decide +kernel⟩
theorem up_lt {h : zz_H} {n : Nat} {e : va_E} (hlt : ∀ a e, h a = some e → a < n) : ∀ a e', zz_up h n e a = some e' → a < n + 1 := fun a e' ha => by
  by_cases hx : a = n
  · omega
  · rw [zz_up_ne hx] at ha
    have := hlt _ _ ha
    omega
theorem nd_ne {α : Type} {L : List (Nat × α)} (h : (L.map Prod.fst).Nodup) {i j : Nat} {p q : Nat × α} (hi : L[i]? = some p) (hj : L[j]? = some q) (hne : i ≠ j) : p.1 ≠ q.1 := by
  obtain ⟨hi1, hi2⟩ := List.getElem?_eq_some_iff.mp hi
  obtain ⟨hj1, hj2⟩ := List.getElem?_eq_some_iff.mp hj
  have hp := List.pairwise_iff_getElem.mp h
  rcases Nat.lt_or_gt_of_ne hne with hlt | hlt
  · have := hp i j (by rw [List.length_map]; exact hi1) (by rw [List.length_map]; exact hj1) hlt
    rw [List.getElem_map, List.getElem_map, hi2, hj2] at this
    exact this
  · have := hp j i (by rw [List.length_map]; exact hj1) (by rw [List.length_map]; exact hi1) hlt
    rw [List.getElem_map, List.getElem_map, hi2, hj2] at this
    exact this.symm
theorem set_fst {α : Type} {L : List (Nat × α)} {k : Nat} {p : Nat × α} {x : α} (hk : L[k]? = some p) : (L.set k (p.1, x)).map Prod.fst = L.map Prod.fst := by
  refine List.ext_getElem? (fun i => ?_)
  rw [List.getElem?_map, List.getElem?_map, List.getElem?_set]
  by_cases hx : k = i
  · subst hx
    rw [if_pos rfl, if_pos (List.getElem?_eq_some_iff.mp hk).1, hk]
    rfl
  · rw [if_neg hx]
theorem set_at {α : Type} {L : List (Nat × α)} {k i : Nat} {p q : Nat × α} {x : α} (hk : L[k]? = some p) (hq : (L.set k (p.1, x))[i]? = some q) : (i = k ∧ q = (p.1, x)) ∨ (i ≠ k ∧ L[i]? = some q) := by
  rw [List.getElem?_set] at hq
  by_cases hx : k = i
  · subst hx
    rw [if_pos rfl, if_pos (List.getElem?_eq_some_iff.mp hk).1] at hq
    cases hq
    exact Or.inl ⟨rfl, rfl⟩
  · rw [if_neg hx] at hq
    exact Or.inr ⟨Ne.symm hx, hq⟩
section GL
variable {X : zz_X} {b n : Nat} {h h' : zz_H} {S : Nat → Int} {A : Nat → Int → Int} {E : Nat → Nat} {RL : List (Nat × rd)} {UL : List (Nat × ud)} {SL : List (Nat × sd)} {T1 T2 : List (Nat × td)}
theorem gi_l0 {ea' : Nat} {RL' : List (Nat × rd)} (D : gi_D X b h E RL UL SL T1 T2) (hlt : ∀ a e, h a = some e → a < n) (hn : b + 64 ≤ n) (c : cp h h') (P' : ru_P X h' ea' RL') (hfr : ∀ a, a < n → a ≠ b + 18 → (a ≠ E 0 ∨ ∃ f, h a = some (zQ 4 0 f)) → h' a = h a) (he : ea' = E 0 ∨ n ≤ ea') (hlo : ∀ p ∈ RL', b + 64 ≤ p.1) : gi_D X b h' (va_up E 0 ea') RL' UL SL T1 T2 := by
  obtain ⟨-, o1, o2, o3, o4, o5, -⟩ := gi_oth (kk := 0) (al := b + 18) D hlt c (by decide) (by omega) hfr
  obtain ⟨e1, e2⟩ := gi_E (kk := 0) (ea' := ea') D hlt hn (by decide) he
  obtain ⟨⟨-, d00⟩, d1, d2, d3, d4, d5, d6, d7, ⟨l1, l2, l3, l4⟩, d9, d10, d11⟩ := D
  exact ⟨⟨o5, d00⟩, P', o1 (by decide), o2 (by decide), o3 (by decide), o4 (by decide), e1, e2, ⟨hlo, l2, l3, l4⟩, ⟨d9, d10, d11⟩⟩
theorem gi_P.l0 {p : Nat × rd} {y : Int} (P : gi_P S A RL UL SL T1 T2) (hL : RL.length < 8) : gi_P (va_up (va_up S 14 (S 14 + 1)) 15 y) A (RL ++ [p]) UL SL T1 T2 := by
  obtain ⟨p1, p2, p3, p4, p5, p6, p7, ⟨p8, p9, p10, p11⟩, p13, p14, p15, p16⟩ := P
  exact ⟨p1, p2, p3, p4, p5, p6, p7, ⟨(by show S 14 + 1 = _; rw [List.length_append, p8]; simp), p9, p10, p11⟩, (by rw [List.length_append]; simp; omega), p14, p15, p16⟩
theorem g0_33 {d : Nat} (hd : 7 ≤ d) (G : GI X b h S A E RL UL SL T1 T2) (hlt : ∀ a e, h a = some e → a < n) (hn : b + 64 ≤ n) {v : Nat} {x : rd} (hv : ru_C h v x) (hx : ru_V x) (hvb : b + 64 ≤ v) (hL : RL.length < 8) : zz_Ct X mm_33 d 1 15 [.ref (b + 18), .ref v] n h (fun r n' h' => r = some (zv 1) ∧ n ≤ n' ∧ ∃ S' E', (∀ i, i < 14 → S' i = S i) ∧ GI X b h' S' A E' (RL ++ [(v, x)]) UL SL T1 T2 ∧ mf b h h') := by
  have hE := G.2.2.2.2.2.2.2.2.2.1 0 (by decide)
  have hz := G.2.2.1.2
  refine (gt_add hd (G.1 18 (by decide)) G.2.2.2.1.1 (by rw [List.length_map]; exact G.2.1.2.2.2.2.2.2.2.1.1) (by rw [List.length_map]; omega) (ru_el hv) hlt).post ?_
  rintro r n' h' ⟨hr, ea', N', f', rfl, g1, g2, ⟨kd0, N0, f0, hq0⟩, c⟩
  have hea : ea' < b ∨ b + 64 ≤ ea' := by rcases g2 with ⟨e1, -⟩ | ⟨e1, -⟩ <;> omega
  have he1 : ea' = E 0 ∨ n ≤ ea' := by rcases g2 with ⟨e1, -⟩ | ⟨e1, -⟩; exact Or.inl e1; exact Or.inr (by omega)
  have eH : zz_up (zz_up h ea' (zQ 3 N' f')) (b + 18) (.inr (12, [.ref ea', zv (S 14 + 1), zv (S 15 + 1)])) = cl_H b (va_up (va_up S 14 (S 14 + 1)) 15 (S 15 + 1)) A (va_up E 0 ea') (zz_up h ea' (zQ 3 N' f')) := by
    rw [← cl_l0, ← cl_dy (by omega), cl_id G.1]
  rw [eH] at g1 c ⊢
  have hfr : ∀ a, a < n → a ≠ b + 18 → (a ≠ E 0 ∨ ∃ f, h a = some (zQ 4 0 f)) → cl_H b (va_up (va_up S 14 (S 14 + 1)) 15 (S 15 + 1)) A (va_up E 0 ea') (zz_up h ea' (zQ 3 N' f')) a = h a := fun a h1 h2 h3 => by
    rw [← eH, zz_up_ne h2]
    refine zz_up_ne ?_
    rcases g2 with ⟨e1, -, N, f, e3⟩ | ⟨e1, -⟩
    · rcases h3 with h3 | ⟨f4, h3⟩
      · rw [e1]; exact h3
      · intro e
        rw [e, e1, e3] at h3
        unfold zQ at h3
        injection h3 with h3; injection h3 with h3; injection h3 with h3 h4; exact absurd h3 (by decide)
    · omega
  have hA : cl_A b (va_up (va_up S 14 (S 14 + 1)) 15 (S 15 + 1)) A (va_up E 0 ea') (cl_H b (va_up (va_up S 14 (S 14 + 1)) 15 (S 15 + 1)) A (va_up E 0 ea') (zz_up h ea' (zQ 3 N' f'))) := cl_AH
  clear eH
  generalize cl_H b (va_up (va_up S 14 (S 14 + 1)) 15 (S 15 + 1)) A (va_up E 0 ea') (zz_up h ea' (zQ 3 N' f')) = h' at *
  obtain ⟨-, -, -, -, -, -, k1, k2⟩ := gi_oth (kk := 0) (al := b + 18) G.2.2 hlt c (by decide) (by omega) hfr
  have keep : ∀ (q : Nat) (y : rd), b + 64 ≤ q → ru_C h q y → ru_V y → ru_C h' q y ∧ ru_V y := fun q y hb C W => by
        exact ⟨by
          obtain ⟨a1, ch, st, en, bg, wr, ⟨f0, f1, f2, f3⟩, a3⟩ := C
          exact ⟨by rw [k1 _ _ a1 hb]; exact a1, ch, st, en, bg, wr, ⟨by rw [k1 _ _ f0 (by omega)]; exact f0, by rw [k2 _ _ _ _ f1 (by omega)]; exact f1, by rw [k2 _ _ _ _ f2 (by omega)]; exact f2, by rw [k2 _ _ _ _ f3 (by omega)]; exact f3⟩, a3⟩, W⟩
  have P' : ru_P X h' ea' (RL ++ [(v, x)]) := ⟨by rw [List.map_append]; exact g1, fun p hp => by
    rcases List.mem_append.mp hp with hp | hp
    · exact keep _ _ (G.2.2.2.2.2.2.2.2.2.2.1.1 p hp) (G.2.2.2.1.2 p hp).1 (G.2.2.2.1.2 p hp).2
    · rw [List.mem_singleton.mp hp]; exact keep _ _ hvb hv hx⟩
  have D := gi_l0 G.2.2 hlt hn c P' hfr he1 (fun p hp => by
    rcases List.mem_append.mp hp with hp | hp
    · exact G.2.2.2.2.2.2.2.2.2.2.1.1 p hp
    · rw [List.mem_singleton.mp hp]; exact hvb)
  exact ⟨hr, by rcases g2 with ⟨-, e1, -⟩ | ⟨-, e1⟩ <;> omega, _, _, up14 (by decide) (by decide), ⟨hA, G.2.1.l0 hL, D⟩, fun a h1 h2 => hfr a (by omega) (by omega) (Or.inl (by omega))⟩
theorem gi_l1 {ea' : Nat} {UL' : List (Nat × ud)} (D : gi_D X b h E RL UL SL T1 T2) (hlt : ∀ a e, h a = some e → a < n) (hn : b + 64 ≤ n) (c : cp h h') (P' : us_P X h' ea' UL') (hfr : ∀ a, a < n → a ≠ b + 19 → (a ≠ E 1 ∨ ∃ f, h a = some (zQ 4 0 f)) → h' a = h a) (he : ea' = E 1 ∨ n ≤ ea') (hlo : ∀ p ∈ UL', b + 64 ≤ p.1) (hnd : (UL'.map Prod.fst).Nodup) : gi_D X b h' (va_up E 1 ea') RL UL' SL T1 T2 := by
  obtain ⟨o0, -, o2, o3, o4, o5, -⟩ := gi_oth (kk := 1) (al := b + 19) D hlt c (by decide) (by omega) hfr
  obtain ⟨e1, e2⟩ := gi_E (kk := 1) (ea' := ea') D hlt hn (by decide) he
  obtain ⟨⟨-, d00⟩, d1, d2, d3, d4, d5, d6, d7, ⟨l1, l2, l3, l4⟩, d9, d10, d11⟩ := D
  exact ⟨⟨o5, d00⟩, o0 (by decide), P', o2 (by decide), o3 (by decide), o4 (by decide), e1, e2, ⟨l1, hlo, l3, l4⟩, ⟨hnd, d10, d11⟩⟩
theorem gi_P.l1 {p : Nat × ud} {y : Int} (P : gi_P S A RL UL SL T1 T2) (hL : UL.length < 6) : gi_P (va_up (va_up S 16 (S 16 + 1)) 17 y) A RL (UL ++ [p]) SL T1 T2 := by
  obtain ⟨p1, p2, p3, p4, p5, p6, p7, ⟨p8, p9, p10, p11⟩, p13, p14, p15, p16⟩ := P
  exact ⟨p1, p2, p3, p4, p5, p6, p7, ⟨p8, (by show S 16 + 1 = _; rw [List.length_append, p9]; simp), p10, p11⟩, p13, (by rw [List.length_append]; simp; omega), p15, p16⟩
theorem g1_33 {d : Nat} (hd : 7 ≤ d) (G : GI X b h S A E RL UL SL T1 T2) (hlt : ∀ a e, h a = some e → a < n) (hn : b + 64 ≤ n) {v : Nat} {x : ud} (hv : h v = some (us_c x)) (hx : us_V x) (hvb : b + 64 ≤ v) (hnv : v ∉ UL.map Prod.fst) (hL : UL.length < 6) : zz_Ct X mm_33 d 1 15 [.ref (b + 19), .ref v] n h (fun r n' h' => r = some (zv 1) ∧ n ≤ n' ∧ ∃ S' E', (∀ i, i < 14 → S' i = S i) ∧ GI X b h' S' A E' RL (UL ++ [(v, x)]) SL T1 T2 ∧ mf b h h') := by
  have hE := G.2.2.2.2.2.2.2.2.2.1 1 (by decide)
  have hz := G.2.2.1.2
  refine (gt_add hd (G.1 19 (by decide)) G.2.2.2.2.1.1 (by rw [List.length_map]; exact G.2.1.2.2.2.2.2.2.2.1.2.1) (by rw [List.length_map]; omega) (us_el hv) hlt).post ?_
  rintro r n' h' ⟨hr, ea', N', f', rfl, g1, g2, ⟨kd0, N0, f0, hq0⟩, c⟩
  have hea : ea' < b ∨ b + 64 ≤ ea' := by rcases g2 with ⟨e1, -⟩ | ⟨e1, -⟩ <;> omega
  have he1 : ea' = E 1 ∨ n ≤ ea' := by rcases g2 with ⟨e1, -⟩ | ⟨e1, -⟩; exact Or.inl e1; exact Or.inr (by omega)
  have eH : zz_up (zz_up h ea' (zQ 3 N' f')) (b + 19) (.inr (12, [.ref ea', zv (S 16 + 1), zv (S 17 + 1)])) = cl_H b (va_up (va_up S 16 (S 16 + 1)) 17 (S 17 + 1)) A (va_up E 1 ea') (zz_up h ea' (zQ 3 N' f')) := by
    rw [← cl_l1, ← cl_dy (by omega), cl_id G.1]
  rw [eH] at g1 c ⊢
  have hfr : ∀ a, a < n → a ≠ b + 19 → (a ≠ E 1 ∨ ∃ f, h a = some (zQ 4 0 f)) → cl_H b (va_up (va_up S 16 (S 16 + 1)) 17 (S 17 + 1)) A (va_up E 1 ea') (zz_up h ea' (zQ 3 N' f')) a = h a := fun a h1 h2 h3 => by
    rw [← eH, zz_up_ne h2]
    refine zz_up_ne ?_
    rcases g2 with ⟨e1, -, N, f, e3⟩ | ⟨e1, -⟩
    · rcases h3 with h3 | ⟨f4, h3⟩
      · rw [e1]; exact h3
      · intro e
        rw [e, e1, e3] at h3
        unfold zQ at h3
        injection h3 with h3; injection h3 with h3; injection h3 with h3 h4; exact absurd h3 (by decide)
    · omega
  have hA : cl_A b (va_up (va_up S 16 (S 16 + 1)) 17 (S 17 + 1)) A (va_up E 1 ea') (cl_H b (va_up (va_up S 16 (S 16 + 1)) 17 (S 17 + 1)) A (va_up E 1 ea') (zz_up h ea' (zQ 3 N' f'))) := cl_AH
  clear eH
  generalize cl_H b (va_up (va_up S 16 (S 16 + 1)) 17 (S 17 + 1)) A (va_up E 1 ea') (zz_up h ea' (zQ 3 N' f')) = h' at *
  obtain ⟨-, -, -, -, -, -, k1, k2⟩ := gi_oth (kk := 1) (al := b + 19) G.2.2 hlt c (by decide) (by omega) hfr
  have keep : ∀ (q : Nat) (y : ud), b + 64 ≤ q → h q = some (us_c y) → us_V y → h' q = some (us_c y) ∧ us_V y := fun q y hb C W => by
        exact ⟨by rw [k1 _ _ C hb]; exact C, W⟩
  have P' : us_P X h' ea' (UL ++ [(v, x)]) := ⟨by rw [List.map_append]; exact g1, fun p hp => by
    rcases List.mem_append.mp hp with hp | hp
    · exact keep _ _ (G.2.2.2.2.2.2.2.2.2.2.1.2.1 p hp) (G.2.2.2.2.1.2 p hp).1 (G.2.2.2.2.1.2 p hp).2
    · rw [List.mem_singleton.mp hp]; exact keep _ _ hvb hv hx⟩
  have D := gi_l1 G.2.2 hlt hn c P' hfr he1 (fun p hp => by
    rcases List.mem_append.mp hp with hp | hp
    · exact G.2.2.2.2.2.2.2.2.2.2.1.2.1 p hp
    · rw [List.mem_singleton.mp hp]; exact hvb) (by rw [List.map_append]; exact List.nodup_append.mpr ⟨G.2.2.2.2.2.2.2.2.2.2.2.1, by simp, fun a ha c hc e => hnv (by rw [List.map_cons, List.map_nil, List.mem_singleton] at hc; have hc2 : a = v := e.trans hc; rw [← hc2]; exact ha)⟩)
  exact ⟨hr, by rcases g2 with ⟨-, e1, -⟩ | ⟨-, e1⟩ <;> omega, _, _, up14 (by decide) (by decide), ⟨hA, G.2.1.l1 hL, D⟩, fun a h1 h2 => hfr a (by omega) (by omega) (Or.inl (by omega))⟩
theorem gi_l2 {ea' : Nat} {SL' : List (Nat × sd)} (D : gi_D X b h E RL UL SL T1 T2) (hlt : ∀ a e, h a = some e → a < n) (hn : b + 64 ≤ n) (c : cp h h') (P' : sv_P X h' ea' SL') (hfr : ∀ a, a < n → a ≠ b + 20 → (a ≠ E 2 ∨ ∃ f, h a = some (zQ 4 0 f)) → h' a = h a) (he : ea' = E 2 ∨ n ≤ ea') (hlo : ∀ p ∈ SL', b + 64 ≤ p.1) (hnd : (SL'.map Prod.fst).Nodup) : gi_D X b h' (va_up E 2 ea') RL UL SL' T1 T2 := by
  obtain ⟨o0, o1, -, o3, o4, o5, -⟩ := gi_oth (kk := 2) (al := b + 20) D hlt c (by decide) (by omega) hfr
  obtain ⟨e1, e2⟩ := gi_E (kk := 2) (ea' := ea') D hlt hn (by decide) he
  obtain ⟨⟨-, d00⟩, d1, d2, d3, d4, d5, d6, d7, ⟨l1, l2, l3, l4⟩, d9, d10, d11⟩ := D
  exact ⟨⟨o5, d00⟩, o0 (by decide), o1 (by decide), P', o3 (by decide), o4 (by decide), e1, e2, ⟨l1, l2, hlo, l4⟩, ⟨d9, hnd, d11⟩⟩
theorem gi_P.l2 {p : Nat × sd} {y : Int} (P : gi_P S A RL UL SL T1 T2) (hL : SL.length < 6) : gi_P (va_up (va_up S 18 (S 18 + 1)) 19 y) A RL UL (SL ++ [p]) T1 T2 := by
  obtain ⟨p1, p2, p3, p4, p5, p6, p7, ⟨p8, p9, p10, p11⟩, p13, p14, p15, p16⟩ := P
  exact ⟨p1, p2, p3, p4, p5, p6, p7, ⟨p8, p9, (by show S 18 + 1 = _; rw [List.length_append, p10]; simp), p11⟩, p13, p14, (by rw [List.length_append]; simp; omega), p16⟩
theorem g2_33 {d : Nat} (hd : 7 ≤ d) (G : GI X b h S A E RL UL SL T1 T2) (hlt : ∀ a e, h a = some e → a < n) (hn : b + 64 ≤ n) {v : Nat} {x : sd} (hv : sv_C h v x) (hx : sv_V x) (hvb : b + 64 ≤ v) (hnv : v ∉ SL.map Prod.fst) (hL : SL.length < 6) : zz_Ct X mm_33 d 1 15 [.ref (b + 20), .ref v] n h (fun r n' h' => r = some (zv 1) ∧ n ≤ n' ∧ ∃ S' E', (∀ i, i < 14 → S' i = S i) ∧ GI X b h' S' A E' RL UL (SL ++ [(v, x)]) T1 T2 ∧ mf b h h') := by
  have hE := G.2.2.2.2.2.2.2.2.2.1 2 (by decide)
  have hz := G.2.2.1.2
  refine (gt_add hd (G.1 20 (by decide)) G.2.2.2.2.2.1.1 (by rw [List.length_map]; exact G.2.1.2.2.2.2.2.2.2.1.2.2.1) (by rw [List.length_map]; omega) (sv_el hv) hlt).post ?_
  rintro r n' h' ⟨hr, ea', N', f', rfl, g1, g2, ⟨kd0, N0, f0, hq0⟩, c⟩
  have hea : ea' < b ∨ b + 64 ≤ ea' := by rcases g2 with ⟨e1, -⟩ | ⟨e1, -⟩ <;> omega
  have he1 : ea' = E 2 ∨ n ≤ ea' := by rcases g2 with ⟨e1, -⟩ | ⟨e1, -⟩; exact Or.inl e1; exact Or.inr (by omega)
  have eH : zz_up (zz_up h ea' (zQ 3 N' f')) (b + 20) (.inr (12, [.ref ea', zv (S 18 + 1), zv (S 19 + 1)])) = cl_H b (va_up (va_up S 18 (S 18 + 1)) 19 (S 19 + 1)) A (va_up E 2 ea') (zz_up h ea' (zQ 3 N' f')) := by
    rw [← cl_l2, ← cl_dy (by omega), cl_id G.1]
  rw [eH] at g1 c ⊢
  have hfr : ∀ a, a < n → a ≠ b + 20 → (a ≠ E 2 ∨ ∃ f, h a = some (zQ 4 0 f)) → cl_H b (va_up (va_up S 18 (S 18 + 1)) 19 (S 19 + 1)) A (va_up E 2 ea') (zz_up h ea' (zQ 3 N' f')) a = h a := fun a h1 h2 h3 => by
    rw [← eH, zz_up_ne h2]
    refine zz_up_ne ?_
    rcases g2 with ⟨e1, -, N, f, e3⟩ | ⟨e1, -⟩
    · rcases h3 with h3 | ⟨f4, h3⟩
      · rw [e1]; exact h3
      · intro e
        rw [e, e1, e3] at h3
        unfold zQ at h3
        injection h3 with h3; injection h3 with h3; injection h3 with h3 h4; exact absurd h3 (by decide)
    · omega
  have hA : cl_A b (va_up (va_up S 18 (S 18 + 1)) 19 (S 19 + 1)) A (va_up E 2 ea') (cl_H b (va_up (va_up S 18 (S 18 + 1)) 19 (S 19 + 1)) A (va_up E 2 ea') (zz_up h ea' (zQ 3 N' f'))) := cl_AH
  clear eH
  generalize cl_H b (va_up (va_up S 18 (S 18 + 1)) 19 (S 19 + 1)) A (va_up E 2 ea') (zz_up h ea' (zQ 3 N' f')) = h' at *
  obtain ⟨-, -, -, -, -, -, k1, k2⟩ := gi_oth (kk := 2) (al := b + 20) G.2.2 hlt c (by decide) (by omega) hfr
  have keep : ∀ (q : Nat) (y : sd), b + 64 ≤ q → sv_C h q y → sv_V y → sv_C h' q y ∧ sv_V y := fun q y hb C W => by
        exact ⟨⟨by rw [k1 _ _ C.1 hb]; exact C.1, by rw [k2 _ _ _ _ C.2.1 (by omega)]; exact C.2.1, by rw [k2 _ _ _ _ C.2.2 (by omega)]; exact C.2.2⟩, W⟩
  have P' : sv_P X h' ea' (SL ++ [(v, x)]) := ⟨by rw [List.map_append]; exact g1, fun p hp => by
    rcases List.mem_append.mp hp with hp | hp
    · exact keep _ _ (G.2.2.2.2.2.2.2.2.2.2.1.2.2.1 p hp) (G.2.2.2.2.2.1.2 p hp).1 (G.2.2.2.2.2.1.2 p hp).2
    · rw [List.mem_singleton.mp hp]; exact keep _ _ hvb hv hx⟩
  have D := gi_l2 G.2.2 hlt hn c P' hfr he1 (fun p hp => by
    rcases List.mem_append.mp hp with hp | hp
    · exact G.2.2.2.2.2.2.2.2.2.2.1.2.2.1 p hp
    · rw [List.mem_singleton.mp hp]; exact hvb) (by rw [List.map_append]; exact List.nodup_append.mpr ⟨G.2.2.2.2.2.2.2.2.2.2.2.2.1, by simp, fun a ha c hc e => hnv (by rw [List.map_cons, List.map_nil, List.mem_singleton] at hc; have hc2 : a = v := e.trans hc; rw [← hc2]; exact ha)⟩)
  exact ⟨hr, by rcases g2 with ⟨-, e1, -⟩ | ⟨-, e1⟩ <;> omega, _, _, up14 (by decide) (by decide), ⟨hA, G.2.1.l2 hL, D⟩, fun a h1 h2 => hfr a (by omega) (by omega) (Or.inl (by omega))⟩
theorem zA_ne {h : zz_H} {a c kd N kd' N' : Nat} {g g' : Int → Int} (h1 : h a = some (zA kd N g)) (h2 : h c = some (zA kd' N' g')) (hne : kd ≠ kd' ∨ N ≠ N') : a ≠ c := fun e => by
  rw [e, h2] at h1
  unfold zA at h1
  injection h1 with h1; injection h1 with h1; injection h1 with h3 h4; injection h4 with h4 h5
  omega
theorem zAQ_ne {h : zz_H} {a c kd N kd' N' : Nat} {g : Int → Int} {f : Nat → Option Nat} (h1 : h a = some (zA kd N g)) (h2 : h c = some (zQ kd' N' f)) : a ≠ c := fun e => by
  rw [e, h2] at h1
  unfold zA zQ at h1
  injection h1 with h1; injection h1 with h1; injection h1 with h3 h4; injection h4 with h4 h5; cases h5
theorem ob_ne {h : zz_H} {a c ci cj : Nat} {vs ws : List Value} (h1 : h a = some (.inr (ci, vs))) (h2 : h c = some (.inr (cj, ws))) (hne : ci ≠ cj) : a ≠ c := fun e => by
  rw [e, h2] at h1
  injection h1 with h1; injection h1 with h1; injection h1 with h3 h4
  exact hne h3.symm
/-- a service's rows change -/
theorem GI.svu (G : GI X b h S A E RL UL SL T1 T2) {k : Nat} {p : Nat × sd} (hk : SL[k]? = some p) {dc cn : Int → Int} (V : sv_V (p.2.1, p.2.2.1, p.2.2.2.1, dc, cn)) : GI X b (zz_up (zz_up h (p.1 + 1) (zA 2 4 dc)) (p.1 + 2) (zA 0 4 cn)) S A E RL UL (SL.set k (p.1, (p.2.1, p.2.2.1, p.2.2.2.1, dc, cn))) T1 T2 ∧ mf b h (zz_up (zz_up h (p.1 + 1) (zA 2 4 dc)) (p.1 + 2) (zA 0 4 cn)) := by
  have hb := G.2.2.2.2.2.2.2.2.2.2.1.2.2.1 p (List.mem_of_getElem? hk)
  obtain ⟨⟨c0, c1, c2⟩, -⟩ := G.2.2.2.2.2.1.2 p (List.mem_of_getElem? hk)
  have k0 : ∀ a, a ≠ p.1 + 1 → a ≠ p.1 + 2 → zz_up (zz_up h (p.1 + 1) (zA 2 4 dc)) (p.1 + 2) (zA 0 4 cn) a = h a := fun a h1 h2 => by rw [zz_up_ne h2, zz_up_ne h1]
  have e1 : zz_up (zz_up h (p.1 + 1) (zA 2 4 dc)) (p.1 + 2) (zA 0 4 cn) (p.1 + 1) = some (zA 2 4 dc) := by rw [zz_up_ne (by omega), zz_up_eq]
  have e2 : zz_up (zz_up h (p.1 + 1) (zA 2 4 dc)) (p.1 + 2) (zA 0 4 cn) (p.1 + 2) = some (zA 0 4 cn) := zz_up_eq _ _ _
  generalize zz_up (zz_up h (p.1 + 1) (zA 2 4 dc)) (p.1 + 2) (zA 0 4 cn) = h' at *
  have ko : ∀ a x, h a = some (.inr x) → h' a = h a := fun a x ha => k0 a (zz_ne1 ha c1) (zz_ne1 ha c2)
  have kq : ∀ a kd N f, h a = some (zQ kd N f) → h' a = h a := fun a kd N f ha => k0 a (zAQ_ne c1 ha).symm (zAQ_ne c2 ha).symm
  have kz : ∀ a kd N g, h a = some (zA kd N g) → N ≠ 4 → h' a = h a := fun a kd N g ha hN => k0 a (zA_ne ha c1 (Or.inr hN)) (zA_ne ha c2 (Or.inr hN))
  have c : cp h h' := fun a ci vs ha => ⟨vs, (ko _ _ ha).trans ha⟩
  have kE : ∀ j, j < 5 → h' (E j) = h (E j) := fun j hj => by
    obtain ⟨kd, N, f, hq⟩ := G.2.2.qE j hj
    exact kq _ _ _ _ hq
  refine ⟨⟨fun j hj => by rw [k0 _ (by omega) (by omega)]; exact G.1 j hj, ?_, ?_⟩, fun a h1 h2 => k0 a (by omega) (by omega)⟩
  · obtain ⟨p1, p2, p3, p4, p5, p6, p7, ⟨p8, p9, p10, p11⟩, p13, p14, p15, p16⟩ := G.2.1
    exact ⟨p1, p2, p3, p4, p5, p6, p7, ⟨p8, p9, by rw [List.length_set]; exact p10, p11⟩, p13, p14, by rw [List.length_set]; exact p15, p16⟩
  · obtain ⟨⟨⟨f, d0⟩, d00⟩, d1, d2, d3, d4, d5, d6, d7, ⟨l1, l2, l3, l4⟩, d9, d10, d11⟩ := G.2.2
    refine ⟨⟨⟨f, by rw [kq _ _ _ _ d0]; exact d0⟩, d00⟩, d1.fr c (kE 0 (by decide)) (fun p hp => ?_), d2.fr c (kE 1 (by decide)) (fun p hp => ko _ _ (d2.2 p hp).1), ⟨by rw [set_fst hk]; exact d3.1.fr c (kE 2 (by decide)), fun q hq => ?_⟩, d4.fr c (kE 3 (by decide)) (fun p hp => ko _ _ (d4.mem hp).1), d5.fr c (kE 4 (by decide)) (fun p hp => ko _ _ (d5.mem hp).1), d6, d7, ⟨l1, l2, fun q hq => ?_, l4⟩, d9, by rw [set_fst hk]; exact d10, d11⟩
    · obtain ⟨⟨a1, ch, st, en, bg, wr, ⟨f0, f1, f2, f3⟩, a3⟩, a4⟩ := d1.2 p hp
      intro i hi
      rcases (show i = 0 ∨ i = 1 ∨ i = 2 ∨ i = 3 ∨ i = 4 by omega) with rfl | rfl | rfl | rfl | rfl
      · exact ko _ _ a1
      · exact ko _ _ f0
      · exact kz _ _ _ _ f1 (by decide)
      · exact kz _ _ _ _ f2 (by decide)
      · exact kz _ _ _ _ f3 (by decide)
    · obtain ⟨i, hi⟩ := List.getElem?_of_mem hq
      rcases set_at hk hi with ⟨-, rfl⟩ | ⟨hne, hi⟩
      · exact ⟨⟨by rw [ko _ _ c0]; exact c0, e1, e2⟩, V⟩
      · obtain ⟨⟨b0, b1, b2⟩, b3⟩ := d3.2 q (List.mem_of_getElem? hi)
        have hne2 := nd_ne d10 hi hk hne
        exact ⟨⟨by rw [ko _ _ b0]; exact b0, by rw [k0 _ (by omega) (zA_ne b1 c2 (Or.inl (by decide)))]; exact b1, by rw [k0 _ (zA_ne b2 c1 (Or.inl (by decide))) (by omega)]; exact b2⟩, b3⟩
    · obtain ⟨i, hi⟩ := List.getElem?_of_mem hq
      rcases set_at hk hi with ⟨-, rfl⟩ | ⟨hne, hi⟩
      · exact hb
      · exact l3 q (List.mem_of_getElem? hi)
theorem tk_D.set {ea k : Nat} {T : List (Nat × td)} {p : Nat × td} {x : td} (D : tk_D X h ea T) (c : cp h h') (he : h' ea = h ea) (hk : T[k]? = some p) (hx : h' p.1 = some (td_c x)) (V : td_V x) (ho : ∀ i q, i ≠ k → T[i]? = some q → h' q.1 = h q.1) : tk_D X h' ea (T.set k (p.1, x)) := by
  obtain ⟨N, f, p2, p3, p4, p5⟩ := D
  refine ⟨N, f, by rw [he]; exact p2, by rw [List.length_set]; exact p3, fun i q hi => ?_, fun i w hw => c.el (p5 i w hw)⟩
  rcases set_at hk hi with ⟨rfl, rfl⟩ | ⟨hne, hi⟩
  · exact ⟨(p4 _ p hk).1, hx, V⟩
  · rw [ho i q hne hi]
    exact p4 i q hi
theorem ndl {T1 T2 : List (Nat × td)} (h : ((T1 ++ T2).map Prod.fst).Nodup) : (T1.map Prod.fst).Nodup := h.sublist (List.Sublist.map _ (List.sublist_append_left _ _))
theorem ndr {T1 T2 : List (Nat × td)} (h : ((T1 ++ T2).map Prod.fst).Nodup) : (T2.map Prod.fst).Nodup := h.sublist (List.Sublist.map _ (List.sublist_append_right _ _))
theorem nda {T1 T2 : List (Nat × td)} (h : ((T1 ++ T2).map Prod.fst).Nodup) {p q : Nat × td} (hp : p ∈ T1) (hq : q ∈ T2) : p.1 ≠ q.1 := by
  rw [List.map_append] at h
  exact (List.nodup_append.mp h).2.2 _ (List.mem_map_of_mem hp) _ (List.mem_map_of_mem hq)
theorem tkc.set {T : List (Nat × td)} {k : Nat} {p : Nat × td} {x : td} (h : tkc T) (hk : T[k]? = some p) (hu : x.1 = p.2.1) : tkc (T.set k (p.1, x)) := fun u => by
  have e : ∀ (T : List (Nat × td)) (k : Nat), T[k]? = some p → ((T.set k (p.1, x)).filter (fun p => decide (p.2.1 = u))).length = (T.filter (fun p => decide (p.2.1 = u))).length := by
    intro T
    induction T with
    | nil => intro k hk; simp at hk
    | cons q T ih =>
      intro k hk
      cases k with
      | zero =>
        have : q = p := by simpa using hk
        subst this
        rw [List.set_cons_zero, List.filter_cons, List.filter_cons]
        dsimp only
        rw [hu]
        by_cases hx : q.2.1 = u
        · rw [decide_eq_true hx, if_pos rfl, if_pos rfl]; rfl
        · rw [decide_eq_false hx, if_neg (by decide), if_neg (by decide)]
      | succ k =>
        have hk2 : T[k]? = some p := by simpa using hk
        rw [List.set_cons_succ, List.filter_cons, List.filter_cons]
        by_cases hx : q.2.1 = u
        · rw [decide_eq_true hx, if_pos rfl, if_pos rfl, List.length_cons, List.length_cons, ih k hk2]
        · rw [decide_eq_false hx, if_neg (by decide), if_neg (by decide), ih k hk2]
  rw [e T k hk]
  exact h u
theorem GI.usu (G : GI X b h S A E RL UL SL T1 T2) {k : Nat} {p : Nat × ud} (hk : UL[k]? = some p) {x : ud} (V : us_V x) : GI X b (zz_up h p.1 (us_c x)) S A E RL (UL.set k (p.1, x)) SL T1 T2 ∧ mf b h (zz_up h p.1 (us_c x)) ∧ cp h (zz_up h p.1 (us_c x)) := by
  have hb := G.2.2.2.2.2.2.2.2.2.2.1.2.1 p (List.mem_of_getElem? hk)
  obtain ⟨c0, -⟩ := G.2.2.2.2.1.2 p (List.mem_of_getElem? hk)
  have k0 : ∀ a, a ≠ p.1 → zz_up h p.1 (us_c x) a = h a := fun a h1 => zz_up_ne h1
  have e1 : zz_up h p.1 (us_c x) p.1 = some (us_c x) := zz_up_eq _ _ _
  generalize zz_up h p.1 (us_c x) = h' at *
  have ko : ∀ a ci vs, h a = some (.inr (ci, vs)) → ci ≠ 8 → h' a = h a := fun a ci vs ha hc => k0 a (ob_ne ha c0 hc)
  have kq : ∀ a kd N f, h a = some (zQ kd N f) → h' a = h a := fun a kd N f ha => k0 a (zz_ne2 c0 ha).symm
  have kz : ∀ a kd N g, h a = some (zA kd N g) → h' a = h a := fun a kd N g ha => k0 a (zz_ne1 c0 ha).symm
  have c : cp h h' := fun a ci vs ha => by
    by_cases hx : a = p.1
    · subst hx
      rw [c0] at ha
      cases ha
      exact ⟨_, e1⟩
    · exact ⟨vs, (k0 a hx).trans ha⟩
  have kE : ∀ j, j < 5 → h' (E j) = h (E j) := fun j hj => by
    obtain ⟨kd, N, f, hq⟩ := G.2.2.qE j hj
    exact kq _ _ _ _ hq
  refine ⟨⟨fun j hj => by rw [k0 _ (by omega)]; exact G.1 j hj, ?_, ?_⟩, fun a h1 h2 => k0 a (by omega), c⟩
  · obtain ⟨p1, p2, p3, p4, p5, p6, p7, ⟨p8, p9, p10⟩, p13, p14, p15⟩ := G.2.1
    exact ⟨p1, p2, p3, p4, p5, p6, p7, ⟨p8, by rw [List.length_set]; exact p9, p10⟩, p13, by rw [List.length_set]; exact p14, p15⟩
  · obtain ⟨⟨⟨f, d0⟩, d00⟩, d1, d2, d3, d4, d5, d6, d7, ⟨l1, l2, l3, l4⟩, d9, d10, d11⟩ := G.2.2
    refine ⟨⟨⟨f, by rw [kq _ _ _ _ d0]; exact d0⟩, d00⟩, d1.fr c (kE 0 (by decide)) (fun q hq => ?R), ⟨by rw [set_fst hk]; exact d2.1.fr c (kE 1 (by decide)), fun q hq => ?U⟩, d3.fr c (kE 2 (by decide)) (fun q hq => ⟨ko _ _ _ (d3.2 q hq).1.1 (by decide), kz _ _ _ _ (d3.2 q hq).1.2.1, kz _ _ _ _ (d3.2 q hq).1.2.2⟩), d4.fr c (kE 3 (by decide)) (fun q hq => ko _ _ _ (d4.mem hq).1 (by decide)), d5.fr c (kE 4 (by decide)) (fun q hq => ko _ _ _ (d5.mem hq).1 (by decide)), d6, d7, ⟨l1, fun q hq => ?L, l3, l4⟩, ⟨by rw [set_fst hk]; exact d9, d10, d11⟩⟩
    case R =>
      obtain ⟨⟨a1, ch, st, en, bg, wr, ⟨f0, f1, f2, f3⟩, a3⟩, a4⟩ := d1.2 q hq
      intro i hi
      rcases (show i = 0 ∨ i = 1 ∨ i = 2 ∨ i = 3 ∨ i = 4 by omega) with rfl | rfl | rfl | rfl | rfl
      · exact ko _ _ _ a1 (by decide)
      · exact ko _ _ _ f0 (by decide)
      · exact kz _ _ _ _ f1
      · exact kz _ _ _ _ f2
      · exact kz _ _ _ _ f3
    case U =>
      obtain ⟨i, hi⟩ := List.getElem?_of_mem hq
      rcases set_at hk hi with ⟨-, rfl⟩ | ⟨hne, hi⟩
      · exact ⟨e1, V⟩
      · rw [k0 _ (nd_ne d9 hi hk hne)]
        exact d2.2 q (List.mem_of_getElem? hi)
    case L =>
      obtain ⟨i, hi⟩ := List.getElem?_of_mem hq
      rcases set_at hk hi with ⟨-, rfl⟩ | ⟨hne, hi⟩
      · exact hb
      · exact l2 q (List.mem_of_getElem? hi)
theorem GI.t1u (G : GI X b h S A E RL UL SL T1 T2) {k : Nat} {p : Nat × td} (hk : T1[k]? = some p) {x : td} (V : td_V x) (hu : x.1 = p.2.1) : GI X b (zz_up h p.1 (td_c x)) S A E RL UL SL (T1.set k (p.1, x)) T2 ∧ mf b h (zz_up h p.1 (td_c x)) ∧ cp h (zz_up h p.1 (td_c x)) := by
  have hb := G.2.2.2.2.2.2.2.2.2.2.1.2.2.2 p (List.mem_append_left _ (List.mem_of_getElem? hk))
  obtain ⟨c0, -⟩ := G.2.2.2.2.2.2.1.mem (List.mem_of_getElem? hk)
  have k0 : ∀ a, a ≠ p.1 → zz_up h p.1 (td_c x) a = h a := fun a h1 => zz_up_ne h1
  have e1 : zz_up h p.1 (td_c x) p.1 = some (td_c x) := zz_up_eq _ _ _
  generalize zz_up h p.1 (td_c x) = h' at *
  have ko : ∀ a ci vs, h a = some (.inr (ci, vs)) → ci ≠ 9 → h' a = h a := fun a ci vs ha hc => k0 a (ob_ne ha c0 hc)
  have kq : ∀ a kd N f, h a = some (zQ kd N f) → h' a = h a := fun a kd N f ha => k0 a (zz_ne2 c0 ha).symm
  have kz : ∀ a kd N g, h a = some (zA kd N g) → h' a = h a := fun a kd N g ha => k0 a (zz_ne1 c0 ha).symm
  have c : cp h h' := fun a ci vs ha => by
    by_cases hx : a = p.1
    · subst hx
      rw [c0] at ha
      cases ha
      exact ⟨_, e1⟩
    · exact ⟨vs, (k0 a hx).trans ha⟩
  have kE : ∀ j, j < 5 → h' (E j) = h (E j) := fun j hj => by
    obtain ⟨kd, N, f, hq⟩ := G.2.2.qE j hj
    exact kq _ _ _ _ hq
  refine ⟨⟨fun j hj => by rw [k0 _ (by omega)]; exact G.1 j hj, ?_, ?_⟩, fun a h1 h2 => k0 a (by omega), c⟩
  · obtain ⟨p1, p2, p3, p4, p5, p6, p7, ⟨p8, p9, p10, p11, p12⟩, p13, p14, p15, p16, p17⟩ := G.2.1
    exact ⟨p1, p2, p3, p4, p5, p6, p7, ⟨p8, p9, p10, by rw [List.length_set]; exact p11, p12⟩, p13, p14, p15, p16.set hk hu, p17⟩
  · obtain ⟨⟨⟨f, d0⟩, d00⟩, d1, d2, d3, d4, d5, d6, d7, ⟨l1, l2, l3, l4⟩, d9, d10, d11⟩ := G.2.2
    refine ⟨⟨⟨f, by rw [kq _ _ _ _ d0]; exact d0⟩, d00⟩, d1.fr c (kE 0 (by decide)) (fun q hq => ?R), d2.fr c (kE 1 (by decide)) (fun q hq => ko _ _ _ (d2.2 q hq).1 (by decide)), d3.fr c (kE 2 (by decide)) (fun q hq => ⟨ko _ _ _ (d3.2 q hq).1.1 (by decide), kz _ _ _ _ (d3.2 q hq).1.2.1, kz _ _ _ _ (d3.2 q hq).1.2.2⟩), d4.set c (kE 3 (by decide)) hk e1 V (fun i q hne hi => k0 _ (nd_ne (ndl d11) hi hk hne)), d5.fr c (kE 4 (by decide)) (fun q hq => k0 _ (nda d11 (List.mem_of_getElem? hk) hq).symm), d6, d7, ⟨l1, l2, l3, fun q hq => ?L⟩, ⟨d9, d10, by rw [List.map_append, set_fst hk, ← List.map_append]; exact d11⟩⟩
    case R =>
      obtain ⟨⟨a1, ch, st, en, bg, wr, ⟨f0, f1, f2, f3⟩, a3⟩, a4⟩ := d1.2 q hq
      intro i hi
      rcases (show i = 0 ∨ i = 1 ∨ i = 2 ∨ i = 3 ∨ i = 4 by omega) with rfl | rfl | rfl | rfl | rfl
      · exact ko _ _ _ a1 (by decide)
      · exact ko _ _ _ f0 (by decide)
      · exact kz _ _ _ _ f1
      · exact kz _ _ _ _ f2
      · exact kz _ _ _ _ f3
    case L =>
      rcases List.mem_append.mp hq with hq | hq
      · obtain ⟨i, hi⟩ := List.getElem?_of_mem hq
        rcases set_at hk hi with ⟨-, rfl⟩ | ⟨hne, hi⟩
        · exact hb
        · exact l4 q (List.mem_append_left _ (List.mem_of_getElem? hi))
      · exact l4 q (List.mem_append_right _ hq)
theorem GI.t2u (G : GI X b h S A E RL UL SL T1 T2) {k : Nat} {p : Nat × td} (hk : T2[k]? = some p) {x : td} (V : td_V x) (hu : x.1 = p.2.1) : GI X b (zz_up h p.1 (td_c x)) S A E RL UL SL T1 (T2.set k (p.1, x)) ∧ mf b h (zz_up h p.1 (td_c x)) ∧ cp h (zz_up h p.1 (td_c x)) := by
  have hb := G.2.2.2.2.2.2.2.2.2.2.1.2.2.2 p (List.mem_append_right _ (List.mem_of_getElem? hk))
  obtain ⟨c0, -⟩ := G.2.2.2.2.2.2.2.1.mem (List.mem_of_getElem? hk)
  have k0 : ∀ a, a ≠ p.1 → zz_up h p.1 (td_c x) a = h a := fun a h1 => zz_up_ne h1
  have e1 : zz_up h p.1 (td_c x) p.1 = some (td_c x) := zz_up_eq _ _ _
  generalize zz_up h p.1 (td_c x) = h' at *
  have ko : ∀ a ci vs, h a = some (.inr (ci, vs)) → ci ≠ 9 → h' a = h a := fun a ci vs ha hc => k0 a (ob_ne ha c0 hc)
  have kq : ∀ a kd N f, h a = some (zQ kd N f) → h' a = h a := fun a kd N f ha => k0 a (zz_ne2 c0 ha).symm
  have kz : ∀ a kd N g, h a = some (zA kd N g) → h' a = h a := fun a kd N g ha => k0 a (zz_ne1 c0 ha).symm
  have c : cp h h' := fun a ci vs ha => by
    by_cases hx : a = p.1
    · subst hx
      rw [c0] at ha
      cases ha
      exact ⟨_, e1⟩
    · exact ⟨vs, (k0 a hx).trans ha⟩
  have kE : ∀ j, j < 5 → h' (E j) = h (E j) := fun j hj => by
    obtain ⟨kd, N, f, hq⟩ := G.2.2.qE j hj
    exact kq _ _ _ _ hq
  refine ⟨⟨fun j hj => by rw [k0 _ (by omega)]; exact G.1 j hj, ?_, ?_⟩, fun a h1 h2 => k0 a (by omega), c⟩
  · obtain ⟨p1, p2, p3, p4, p5, p6, p7, ⟨p8, p9, p10, p11, p12⟩, p13, p14, p15, p16, p17⟩ := G.2.1
    exact ⟨p1, p2, p3, p4, p5, p6, p7, ⟨p8, p9, p10, p11, by rw [List.length_set]; exact p12⟩, p13, p14, p15, p16, p17.set hk hu⟩
  · obtain ⟨⟨⟨f, d0⟩, d00⟩, d1, d2, d3, d4, d5, d6, d7, ⟨l1, l2, l3, l4⟩, d9, d10, d11⟩ := G.2.2
    refine ⟨⟨⟨f, by rw [kq _ _ _ _ d0]; exact d0⟩, d00⟩, d1.fr c (kE 0 (by decide)) (fun q hq => ?R), d2.fr c (kE 1 (by decide)) (fun q hq => ko _ _ _ (d2.2 q hq).1 (by decide)), d3.fr c (kE 2 (by decide)) (fun q hq => ⟨ko _ _ _ (d3.2 q hq).1.1 (by decide), kz _ _ _ _ (d3.2 q hq).1.2.1, kz _ _ _ _ (d3.2 q hq).1.2.2⟩), d4.fr c (kE 3 (by decide)) (fun q hq => k0 _ (nda d11 hq (List.mem_of_getElem? hk))), d5.set c (kE 4 (by decide)) hk e1 V (fun i q hne hi => k0 _ (nd_ne (ndr d11) hi hk hne)), d6, d7, ⟨l1, l2, l3, fun q hq => ?L⟩, ⟨d9, d10, by rw [List.map_append, set_fst hk, ← List.map_append]; exact d11⟩⟩
    case R =>
      obtain ⟨⟨a1, ch, st, en, bg, wr, ⟨f0, f1, f2, f3⟩, a3⟩, a4⟩ := d1.2 q hq
      intro i hi
      rcases (show i = 0 ∨ i = 1 ∨ i = 2 ∨ i = 3 ∨ i = 4 by omega) with rfl | rfl | rfl | rfl | rfl
      · exact ko _ _ _ a1 (by decide)
      · exact ko _ _ _ f0 (by decide)
      · exact kz _ _ _ _ f1
      · exact kz _ _ _ _ f2
      · exact kz _ _ _ _ f3
    case L =>
      rcases List.mem_append.mp hq with hq | hq
      · exact l4 q (List.mem_append_left _ hq)
      · obtain ⟨i, hi⟩ := List.getElem?_of_mem hq
        rcases set_at hk hi with ⟨-, rfl⟩ | ⟨hne, hi⟩
        · exact hb
        · exact l4 q (List.mem_append_right _ (List.mem_of_getElem? hi))
end GL
