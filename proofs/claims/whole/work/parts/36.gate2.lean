/-! the gate's own cells change -/
theorem cl_cp {b : Nat} {S S' : Nat → Int} {A A' : Nat → Int → Int} {E E' : Nat → Nat} {h0 : zz_H} : cp (cl_H b S A E h0) (cl_H b S' A' E' h0) := fun a ci vs ha => by
  by_cases hx : a < b ∨ b + 25 ≤ a
  · exact ⟨vs, by rw [cl_o hx] at ha ⊢; exact ha⟩
  · obtain ⟨j, rfl⟩ : ∃ j, a = b + j := ⟨a - b, by omega⟩
    have hj : j < 25 := by omega
    rw [cl_at hj] at ha ⊢
    rcases (show j = 0 ∨ j = 1 ∨ j = 2 ∨ j = 3 ∨ j = 4 ∨ j = 5 ∨ j = 6 ∨ j = 7 ∨ j = 8 ∨ j = 9 ∨ j = 10 ∨ j = 11 ∨ j = 12 ∨ j = 13 ∨ j = 14 ∨ j = 15 ∨ j = 16 ∨ j = 17 ∨ j = 18 ∨ j = 19 ∨ j = 20 ∨ j = 21 ∨ j = 22 ∨ j = 23 ∨ j = 24 by omega) with rfl | rfl | rfl | rfl | rfl | rfl | rfl | rfl | rfl | rfl | rfl | rfl | rfl | rfl | rfl | rfl | rfl | rfl | rfl | rfl | rfl | rfl | rfl | rfl | rfl <;> first | (cases ha; exact ⟨_, rfl⟩) | (exfalso; injection ha with ha; unfold zA at ha; cases ha)
section GS
variable {X : zz_X} {b n : Nat} {h : zz_H} {S S' : Nat → Int} {A A' : Nat → Int → Int} {E : Nat → Nat} {RL : List (Nat × rd)} {UL : List (Nat × ud)} {SL : List (Nat × sd)} {T1 T2 : List (Nat × td)}
theorem GI.st (G : GI X b h S A E RL UL SL T1 T2) (P : gi_P S' A' RL UL SL T1 T2) : GI X b (cl_H b S' A' E h) S' A' E RL UL SL T1 T2 ∧ mf b h (cl_H b S' A' E h) ∧ cp h (cl_H b S' A' E h) := by
  have c : cp h (cl_H b S' A' E h) := by
    have := cl_cp (b := b) (S := S) (S' := S') (A := A) (A' := A') (E := E) (E' := E) (h0 := h)
    rw [cl_id G.1] at this
    exact this
  exact ⟨⟨cl_AH, P, G.2.2.fr c (fun a ha => cl_o (by have := G.2.2.1.2; omega))⟩, fun a h1 h2 => cl_o (by omega), c⟩
theorem GI.fresh (G : GI X b h S A E RL UL SL T1 T2) (hlt : ∀ a e, h a = some e → a < n) (hn : b + 64 ≤ n) (e : va_E) : GI X b (zz_up h n e) S A E RL UL SL T1 T2 ∧ mf b h (zz_up h n e) ∧ cp h (zz_up h n e) := by
  have c : cp h (zz_up h n e) := cp.up (fun ci vs hx => absurd (hlt _ _ hx) (Nat.lt_irrefl _))
  have hE := G.2.2.lt hlt
  have hk : ∀ a, a < n → zz_up h n e a = h a := fun a ha => zz_up_ne (Nat.ne_of_lt ha)
  refine ⟨⟨fun j hj => by rw [hk _ (by omega)]; exact G.1 j hj, G.2.1, ?_⟩, fun a h1 h2 => hk a (by omega), c⟩
  obtain ⟨⟨⟨f, d0⟩, d00⟩, d1, d2, d3, d4, d5, d6, d7, ⟨l1, l2, l3, l4⟩, d9⟩ := G.2.2
  refine ⟨⟨⟨f, by rw [hk _ (hlt _ _ d0)]; exact d0⟩, d00⟩, d1.fr c (hk _ (hE 0 (by decide))) (fun p hp => ru_k (b := b) (d1.2 p hp).1 (l1 p hp) (fun a x ha _ => hk a (hlt _ _ ha)) (fun a kd N g ha _ => hk a (hlt _ _ ha))), d2.fr c (hk _ (hE 1 (by decide))) (fun p hp => hk _ (hlt _ _ (d2.2 p hp).1)), d3.fr c (hk _ (hE 2 (by decide))) (fun p hp => ?_), d4.fr c (hk _ (hE 3 (by decide))) (fun p hp => hk _ (hlt _ _ (d4.mem hp).1)), d5.fr c (hk _ (hE 4 (by decide))) (fun p hp => hk _ (hlt _ _ (d5.mem hp).1)), d6, d7, ⟨l1, l2, l3, l4⟩, d9⟩
  obtain ⟨⟨s1, s2, s3⟩, -⟩ := d3.2 p hp
  exact ⟨hk _ (hlt _ _ s1), hk _ (hlt _ _ s2), hk _ (hlt _ _ s3)⟩
theorem GI.fv (G : GI X b h S A E RL UL SL T1 T2) (hlt : ∀ a e, h a = some e → a < n) : n ∉ (T1 ++ T2).map Prod.fst := fun hm => by
  obtain ⟨p, hp, rfl⟩ := List.mem_map.mp hm
  rcases List.mem_append.mp hp with hp | hp
  · exact absurd (hlt _ _ (G.2.2.2.2.2.2.1.mem hp).1) (Nat.lt_irrefl _)
  · exact absurd (hlt _ _ (G.2.2.2.2.2.2.2.1.mem hp).1) (Nat.lt_irrefl _)
theorem GI.g0 {x : Int} (G : GI X b h S A E RL UL SL T1 T2) (P : gi_P (va_up S 0 x) A RL UL SL T1 T2) : GI X b (zz_up h b (.inr (0, [.ref (b + 1), .ref (b + 3), .ref (b + 8), .ref (b + 11), .ref (b + 16), .ref (b + 18), .ref (b + 19), .ref (b + 20), .ref (b + 21), .ref (b + 23), zv x, zv (S 1), zv (S 2), zv (S 3), zv (S 4), zv (S 5), zv (S 6), zv (S 7), zv (S 8)]))) (va_up S 0 x) A E RL UL SL T1 T2 ∧ mf b h (zz_up h b (.inr (0, [.ref (b + 1), .ref (b + 3), .ref (b + 8), .ref (b + 11), .ref (b + 16), .ref (b + 18), .ref (b + 19), .ref (b + 20), .ref (b + 21), .ref (b + 23), zv x, zv (S 1), zv (S 2), zv (S 3), zv (S 4), zv (S 5), zv (S 6), zv (S 7), zv (S 8)]))) ∧ cp h (zz_up h b (.inr (0, [.ref (b + 1), .ref (b + 3), .ref (b + 8), .ref (b + 11), .ref (b + 16), .ref (b + 18), .ref (b + 19), .ref (b + 20), .ref (b + 21), .ref (b + 23), zv x, zv (S 1), zv (S 2), zv (S 3), zv (S 4), zv (S 5), zv (S 6), zv (S 7), zv (S 8)]))) := by
  have e := cl_g0 (b := b) (S := S) (A := A) (E := E) (h0 := h) (x := x)
  rw [cl_id G.1] at e
  rw [e]
  exact G.st P
theorem GI.g1 {x : Int} (G : GI X b h S A E RL UL SL T1 T2) (P : gi_P (va_up S 1 x) A RL UL SL T1 T2) : GI X b (zz_up h b (.inr (0, [.ref (b + 1), .ref (b + 3), .ref (b + 8), .ref (b + 11), .ref (b + 16), .ref (b + 18), .ref (b + 19), .ref (b + 20), .ref (b + 21), .ref (b + 23), zv (S 0), zv x, zv (S 2), zv (S 3), zv (S 4), zv (S 5), zv (S 6), zv (S 7), zv (S 8)]))) (va_up S 1 x) A E RL UL SL T1 T2 ∧ mf b h (zz_up h b (.inr (0, [.ref (b + 1), .ref (b + 3), .ref (b + 8), .ref (b + 11), .ref (b + 16), .ref (b + 18), .ref (b + 19), .ref (b + 20), .ref (b + 21), .ref (b + 23), zv (S 0), zv x, zv (S 2), zv (S 3), zv (S 4), zv (S 5), zv (S 6), zv (S 7), zv (S 8)]))) ∧ cp h (zz_up h b (.inr (0, [.ref (b + 1), .ref (b + 3), .ref (b + 8), .ref (b + 11), .ref (b + 16), .ref (b + 18), .ref (b + 19), .ref (b + 20), .ref (b + 21), .ref (b + 23), zv (S 0), zv x, zv (S 2), zv (S 3), zv (S 4), zv (S 5), zv (S 6), zv (S 7), zv (S 8)]))) := by
  have e := cl_g1 (b := b) (S := S) (A := A) (E := E) (h0 := h) (x := x)
  rw [cl_id G.1] at e
  rw [e]
  exact G.st P
theorem GI.g2 {x : Int} (G : GI X b h S A E RL UL SL T1 T2) (P : gi_P (va_up S 2 x) A RL UL SL T1 T2) : GI X b (zz_up h b (.inr (0, [.ref (b + 1), .ref (b + 3), .ref (b + 8), .ref (b + 11), .ref (b + 16), .ref (b + 18), .ref (b + 19), .ref (b + 20), .ref (b + 21), .ref (b + 23), zv (S 0), zv (S 1), zv x, zv (S 3), zv (S 4), zv (S 5), zv (S 6), zv (S 7), zv (S 8)]))) (va_up S 2 x) A E RL UL SL T1 T2 ∧ mf b h (zz_up h b (.inr (0, [.ref (b + 1), .ref (b + 3), .ref (b + 8), .ref (b + 11), .ref (b + 16), .ref (b + 18), .ref (b + 19), .ref (b + 20), .ref (b + 21), .ref (b + 23), zv (S 0), zv (S 1), zv x, zv (S 3), zv (S 4), zv (S 5), zv (S 6), zv (S 7), zv (S 8)]))) ∧ cp h (zz_up h b (.inr (0, [.ref (b + 1), .ref (b + 3), .ref (b + 8), .ref (b + 11), .ref (b + 16), .ref (b + 18), .ref (b + 19), .ref (b + 20), .ref (b + 21), .ref (b + 23), zv (S 0), zv (S 1), zv x, zv (S 3), zv (S 4), zv (S 5), zv (S 6), zv (S 7), zv (S 8)]))) := by
  have e := cl_g2 (b := b) (S := S) (A := A) (E := E) (h0 := h) (x := x)
  rw [cl_id G.1] at e
  rw [e]
  exact G.st P
theorem GI.g3 {x : Int} (G : GI X b h S A E RL UL SL T1 T2) (P : gi_P (va_up S 3 x) A RL UL SL T1 T2) : GI X b (zz_up h b (.inr (0, [.ref (b + 1), .ref (b + 3), .ref (b + 8), .ref (b + 11), .ref (b + 16), .ref (b + 18), .ref (b + 19), .ref (b + 20), .ref (b + 21), .ref (b + 23), zv (S 0), zv (S 1), zv (S 2), zv x, zv (S 4), zv (S 5), zv (S 6), zv (S 7), zv (S 8)]))) (va_up S 3 x) A E RL UL SL T1 T2 ∧ mf b h (zz_up h b (.inr (0, [.ref (b + 1), .ref (b + 3), .ref (b + 8), .ref (b + 11), .ref (b + 16), .ref (b + 18), .ref (b + 19), .ref (b + 20), .ref (b + 21), .ref (b + 23), zv (S 0), zv (S 1), zv (S 2), zv x, zv (S 4), zv (S 5), zv (S 6), zv (S 7), zv (S 8)]))) ∧ cp h (zz_up h b (.inr (0, [.ref (b + 1), .ref (b + 3), .ref (b + 8), .ref (b + 11), .ref (b + 16), .ref (b + 18), .ref (b + 19), .ref (b + 20), .ref (b + 21), .ref (b + 23), zv (S 0), zv (S 1), zv (S 2), zv x, zv (S 4), zv (S 5), zv (S 6), zv (S 7), zv (S 8)]))) := by
  have e := cl_g3 (b := b) (S := S) (A := A) (E := E) (h0 := h) (x := x)
  rw [cl_id G.1] at e
  rw [e]
  exact G.st P
theorem GI.g4 {x : Int} (G : GI X b h S A E RL UL SL T1 T2) (P : gi_P (va_up S 4 x) A RL UL SL T1 T2) : GI X b (zz_up h b (.inr (0, [.ref (b + 1), .ref (b + 3), .ref (b + 8), .ref (b + 11), .ref (b + 16), .ref (b + 18), .ref (b + 19), .ref (b + 20), .ref (b + 21), .ref (b + 23), zv (S 0), zv (S 1), zv (S 2), zv (S 3), zv x, zv (S 5), zv (S 6), zv (S 7), zv (S 8)]))) (va_up S 4 x) A E RL UL SL T1 T2 ∧ mf b h (zz_up h b (.inr (0, [.ref (b + 1), .ref (b + 3), .ref (b + 8), .ref (b + 11), .ref (b + 16), .ref (b + 18), .ref (b + 19), .ref (b + 20), .ref (b + 21), .ref (b + 23), zv (S 0), zv (S 1), zv (S 2), zv (S 3), zv x, zv (S 5), zv (S 6), zv (S 7), zv (S 8)]))) ∧ cp h (zz_up h b (.inr (0, [.ref (b + 1), .ref (b + 3), .ref (b + 8), .ref (b + 11), .ref (b + 16), .ref (b + 18), .ref (b + 19), .ref (b + 20), .ref (b + 21), .ref (b + 23), zv (S 0), zv (S 1), zv (S 2), zv (S 3), zv x, zv (S 5), zv (S 6), zv (S 7), zv (S 8)]))) := by
  have e := cl_g4 (b := b) (S := S) (A := A) (E := E) (h0 := h) (x := x)
  rw [cl_id G.1] at e
  rw [e]
  exact G.st P
theorem GI.g5 {x : Int} (G : GI X b h S A E RL UL SL T1 T2) (P : gi_P (va_up S 5 x) A RL UL SL T1 T2) : GI X b (zz_up h b (.inr (0, [.ref (b + 1), .ref (b + 3), .ref (b + 8), .ref (b + 11), .ref (b + 16), .ref (b + 18), .ref (b + 19), .ref (b + 20), .ref (b + 21), .ref (b + 23), zv (S 0), zv (S 1), zv (S 2), zv (S 3), zv (S 4), zv x, zv (S 6), zv (S 7), zv (S 8)]))) (va_up S 5 x) A E RL UL SL T1 T2 ∧ mf b h (zz_up h b (.inr (0, [.ref (b + 1), .ref (b + 3), .ref (b + 8), .ref (b + 11), .ref (b + 16), .ref (b + 18), .ref (b + 19), .ref (b + 20), .ref (b + 21), .ref (b + 23), zv (S 0), zv (S 1), zv (S 2), zv (S 3), zv (S 4), zv x, zv (S 6), zv (S 7), zv (S 8)]))) ∧ cp h (zz_up h b (.inr (0, [.ref (b + 1), .ref (b + 3), .ref (b + 8), .ref (b + 11), .ref (b + 16), .ref (b + 18), .ref (b + 19), .ref (b + 20), .ref (b + 21), .ref (b + 23), zv (S 0), zv (S 1), zv (S 2), zv (S 3), zv (S 4), zv x, zv (S 6), zv (S 7), zv (S 8)]))) := by
  have e := cl_g5 (b := b) (S := S) (A := A) (E := E) (h0 := h) (x := x)
  rw [cl_id G.1] at e
  rw [e]
  exact G.st P
theorem GI.g6 {x : Int} (G : GI X b h S A E RL UL SL T1 T2) (P : gi_P (va_up S 6 x) A RL UL SL T1 T2) : GI X b (zz_up h b (.inr (0, [.ref (b + 1), .ref (b + 3), .ref (b + 8), .ref (b + 11), .ref (b + 16), .ref (b + 18), .ref (b + 19), .ref (b + 20), .ref (b + 21), .ref (b + 23), zv (S 0), zv (S 1), zv (S 2), zv (S 3), zv (S 4), zv (S 5), zv x, zv (S 7), zv (S 8)]))) (va_up S 6 x) A E RL UL SL T1 T2 ∧ mf b h (zz_up h b (.inr (0, [.ref (b + 1), .ref (b + 3), .ref (b + 8), .ref (b + 11), .ref (b + 16), .ref (b + 18), .ref (b + 19), .ref (b + 20), .ref (b + 21), .ref (b + 23), zv (S 0), zv (S 1), zv (S 2), zv (S 3), zv (S 4), zv (S 5), zv x, zv (S 7), zv (S 8)]))) ∧ cp h (zz_up h b (.inr (0, [.ref (b + 1), .ref (b + 3), .ref (b + 8), .ref (b + 11), .ref (b + 16), .ref (b + 18), .ref (b + 19), .ref (b + 20), .ref (b + 21), .ref (b + 23), zv (S 0), zv (S 1), zv (S 2), zv (S 3), zv (S 4), zv (S 5), zv x, zv (S 7), zv (S 8)]))) := by
  have e := cl_g6 (b := b) (S := S) (A := A) (E := E) (h0 := h) (x := x)
  rw [cl_id G.1] at e
  rw [e]
  exact G.st P
theorem GI.g7 {x : Int} (G : GI X b h S A E RL UL SL T1 T2) (P : gi_P (va_up S 7 x) A RL UL SL T1 T2) : GI X b (zz_up h b (.inr (0, [.ref (b + 1), .ref (b + 3), .ref (b + 8), .ref (b + 11), .ref (b + 16), .ref (b + 18), .ref (b + 19), .ref (b + 20), .ref (b + 21), .ref (b + 23), zv (S 0), zv (S 1), zv (S 2), zv (S 3), zv (S 4), zv (S 5), zv (S 6), zv x, zv (S 8)]))) (va_up S 7 x) A E RL UL SL T1 T2 ∧ mf b h (zz_up h b (.inr (0, [.ref (b + 1), .ref (b + 3), .ref (b + 8), .ref (b + 11), .ref (b + 16), .ref (b + 18), .ref (b + 19), .ref (b + 20), .ref (b + 21), .ref (b + 23), zv (S 0), zv (S 1), zv (S 2), zv (S 3), zv (S 4), zv (S 5), zv (S 6), zv x, zv (S 8)]))) ∧ cp h (zz_up h b (.inr (0, [.ref (b + 1), .ref (b + 3), .ref (b + 8), .ref (b + 11), .ref (b + 16), .ref (b + 18), .ref (b + 19), .ref (b + 20), .ref (b + 21), .ref (b + 23), zv (S 0), zv (S 1), zv (S 2), zv (S 3), zv (S 4), zv (S 5), zv (S 6), zv x, zv (S 8)]))) := by
  have e := cl_g7 (b := b) (S := S) (A := A) (E := E) (h0 := h) (x := x)
  rw [cl_id G.1] at e
  rw [e]
  exact G.st P
theorem GI.g8 {x : Int} (G : GI X b h S A E RL UL SL T1 T2) (P : gi_P (va_up S 8 x) A RL UL SL T1 T2) : GI X b (zz_up h b (.inr (0, [.ref (b + 1), .ref (b + 3), .ref (b + 8), .ref (b + 11), .ref (b + 16), .ref (b + 18), .ref (b + 19), .ref (b + 20), .ref (b + 21), .ref (b + 23), zv (S 0), zv (S 1), zv (S 2), zv (S 3), zv (S 4), zv (S 5), zv (S 6), zv (S 7), zv x]))) (va_up S 8 x) A E RL UL SL T1 T2 ∧ mf b h (zz_up h b (.inr (0, [.ref (b + 1), .ref (b + 3), .ref (b + 8), .ref (b + 11), .ref (b + 16), .ref (b + 18), .ref (b + 19), .ref (b + 20), .ref (b + 21), .ref (b + 23), zv (S 0), zv (S 1), zv (S 2), zv (S 3), zv (S 4), zv (S 5), zv (S 6), zv (S 7), zv x]))) ∧ cp h (zz_up h b (.inr (0, [.ref (b + 1), .ref (b + 3), .ref (b + 8), .ref (b + 11), .ref (b + 16), .ref (b + 18), .ref (b + 19), .ref (b + 20), .ref (b + 21), .ref (b + 23), zv (S 0), zv (S 1), zv (S 2), zv (S 3), zv (S 4), zv (S 5), zv (S 6), zv (S 7), zv x]))) := by
  have e := cl_g8 (b := b) (S := S) (A := A) (E := E) (h0 := h) (x := x)
  rw [cl_id G.1] at e
  rw [e]
  exact G.st P
theorem gi_P.s3 {x : Int} (P : gi_P S A RL UL SL T1 T2) (hx : 0 ≤ x ∧ x ≤ 100000) : gi_P (va_up S 3 x) A RL UL SL T1 T2 := by
  obtain ⟨p1, p2, p3, p4, p5, p6, ⟨p7, p8, p9, p10⟩, p11⟩ := P
  exact ⟨p1, p2, p3, p4, p5, p6, ⟨p7, p8, p9, hx⟩, p11⟩
theorem gi_P.s2 {x : Int} (P : gi_P S A RL UL SL T1 T2) (hx : 0 ≤ x ∧ x ≤ 100000) : gi_P (va_up S 2 x) A RL UL SL T1 T2 := by
  obtain ⟨p1, p2, p3, p4, p5, p6, ⟨p7, p8, p9, p10⟩, p11⟩ := P
  exact ⟨p1, p2, p3, p4, p5, p6, ⟨p7, p8, hx, p10⟩, p11⟩
theorem gi_P.s48 {x : Int} {i : Nat} (P : gi_P S A RL UL SL T1 T2) (hi : 4 ≤ i ∧ i ≤ 8) : gi_P (va_up S i x) A RL UL SL T1 T2 := by
  rcases (show i = 4 ∨ i = 5 ∨ i = 6 ∨ i = 7 ∨ i = 8 by omega) with rfl | rfl | rfl | rfl | rfl <;> exact P
theorem GI.rg (G : GI X b h S A E RL UL SL T1 T2) : (0 ≤ S 2 ∧ S 2 ≤ 100000) ∧ (0 ≤ S 3 ∧ S 3 ≤ 100000) := G.2.1.2.2.2.2.2.2.1.2.2
end GS
theorem gd_47 {X : zz_X} {d n : Nat} {h : zz_H} {b : Nat} {S : Nat → Int} {A : Nat → Int → Int} {E : Nat → Nat} {RL : List (Nat × rd)} {UL : List (Nat × ud)} {SL : List (Nat × sd)} {T1 T2 : List (Nat × td)} (G : GI X b h S A E RL UL SL T1 T2) (hn : b + 64 ≤ n) (h3 : S 3 ≤ 99999) : zz_Ct X mm_47 d 0 0 [.ref b] n h (fun r n' h' => r = some (zv (S 3 + 1)) ∧ n' = n ∧ GI X b h' (va_up S 3 (S 3 + 1)) A E RL UL SL T1 T2 ∧ mf b h h' ∧ cp h h') := by
  refine zz_start (by decide) (ls := [some (.ref b)]) rfl ?_
  have hr := G.rg
  have G2 := G.g3 (x := S 3 + 1) (G.2.1.s3 (by omega))
  refine zi_aload_n dk_47_0 rfl rfl ?_
  refine zi_dup dk_47_1 rfl ?_
  refine zi_getf dk_47_2 fl_0_256 (by first | exact G.1 0 (by decide) | exact G.1 _ (by decide)) rfl ?_
  refine zj_iconst dk_47_5 ?_
  refine zj_iadd dk_47_6 ?_
  refine zj_putI dk_47_7 fp_47_256 (by first | exact G.1 0 (by decide) | exact G.1 _ (by decide)) rfl ?_
  obtain ⟨G, hm, hc⟩ := G2
  refine zi_aload_n dk_47_10 rfl rfl ?_
  refine zi_getf dk_47_11 fl_0_256 (by first | exact G.1 0 (by decide) | exact G.1 _ (by decide)) rfl ?_
  refine zj_ireturn dk_47_14 rfl ⟨rfl, rfl, G, hm, hc⟩

theorem g3_76 {X : zz_X} {d n : Nat} {h : zz_H} (hd : 9 ≤ d) {b : Nat} {S : Nat → Int} {A : Nat → Int → Int} {E : Nat → Nat} {RL : List (Nat × rd)} {UL : List (Nat × ud)} {SL : List (Nat × sd)} {T1 T2 : List (Nat × td)} (G : GI X b h S A E RL UL SL T1 T2) (hn : b + 64 ≤ n) {u re : Int} (hu : 0 ≤ u ∧ u ≤ 5) (hre : re = 0 ∨ re = 1) (h3 : S 3 ≤ 90000) : zz_Ct X mm_76 d 2 21 [.ref b, .ref (b + 21), zv u, zv re] n h (fun r n' h' => r = some (zv (S 3 + 1)) ∧ n ≤ n' ∧ ∃ S' E', S' 3 = S 3 + 2 ∧ (∀ i, i < 14 → i ≠ 3 → S' i = S i) ∧ GI X b h' S' A E' RL UL SL (tk_end T1 u ++ [(n, (u, S 3 + 1, S 3 + 1 + 1, re, S 2, S 2))]) T2 ∧ mf b h h') := by
  refine zz_start (by decide) (ls := [some (.ref b), some (.ref (b + 21)), some (zv u), some (zv re), none, none]) rfl ?_
  have hr := G.rg
  have hlt0 : True := trivial
  refine zi_aload_n dk_76_0 rfl rfl ?_
  refine zi_invV dk_76_1 ml_0_106 iv_47 (gd_47 (d := d - 1) G hn (by omega)) (by first | exact G.1 0 (by decide) | exact G.1 _ (by decide)) rfl rfl rfl (Nat.le_of_ble_eq_true rfl) (by omega) rfl rfl (fun r n' h' hq => ?_)
  obtain ⟨rfl, rfl, G, hm1, hc1⟩ := hq
  refine zj_istore dk_76_4 rfl ?_
  refine zi_aload_n dk_76_6 rfl rfl ?_
  refine zi_invV dk_76_7 ml_0_106 iv_47 (gd_47 (d := d - 1) G hn (by rw [va_up_self]; omega)) (by first | exact G.1 0 (by decide) | exact G.1 _ (by decide)) rfl rfl rfl (Nat.le_of_ble_eq_true rfl) (by omega) rfl rfl (fun r n' h' hq => ?_)
  obtain ⟨rfl, rfl, G, hm2, hc2⟩ := hq
  rw [va_up_self] at G ⊢
  refine zz_Z.lt (fun hlt => ?_)
  have G3 := G.fresh hlt hn (td_c (u, S 3 + 1, S 3 + 1 + 1, re, S 2, S 2))
  have hfv := G.fv hlt
  refine zj_istore dk_76_10 rfl ?_
  refine zi_aload_n dk_76_12 rfl rfl ?_
  refine zi_new dk_76_13 nw_0_179 (kc' := 1) (ks' := 15) rfl rfl ?_
  refine zi_dup dk_76_16 rfl ?_
  refine zj_iload_n dk_76_17 rfl ?_
  refine zj_iload dk_76_18 rfl ?_
  refine zj_iload dk_76_20 rfl ?_
  refine zj_iload_n dk_76_22 rfl ?_
  refine zi_aload_n dk_76_23 rfl rfl ?_
  refine zi_getf dk_76_24 fl_0_134 ((zz_up_ne (by omega)).trans (G.1 0 (by decide))) rfl ?_
  refine zi_invI dk_76_27 ml_0_259 ii_77 (ct_77 (d := d - 1) (by omega) (zz_up_eq _ _ _) hre) rfl rfl (Nat.le_of_ble_eq_true rfl) (by omega) rfl rfl (fun r n' h' hq => ?_)
  obtain ⟨rfl, rfl, rfl⟩ := hq
  rw [zz_up_up]
  obtain ⟨G, hm3, hc3⟩ := G3
  refine zz_Z.lt (fun hlt2 => ?_)
  refine zi_invV dk_76_30 ml_0_262 iv_78 (g3_78 (d := d - 1) (by omega) G hlt2 (by omega) (zz_up_eq _ _ _) ⟨hu, by dsimp only; omega, by dsimp only; omega, hre, by dsimp only; omega, by dsimp only; omega⟩ hn hfv) (G.1 21 (by decide)) rfl rfl rfl (Nat.le_of_ble_eq_true rfl) (by omega) (kc' := 0) (ks' := 0) rfl rfl (fun r n' h' hq => ?_)
  obtain ⟨rfl, hn2, S', E', hS', G, hm4, hk4⟩ := hq
  refine zj_iload dk_76_33 rfl ?_
  refine zj_ireturn dk_76_35 rfl ⟨rfl, by omega, S', E', (hS' 3 (by decide)).trans (by rw [va_up_self]; omega), fun i hi hne => (hS' i hi).trans (by rw [va_up_ne _ _ hne, va_up_ne _ _ hne]), G, ((hm1.tr hm2).tr hm3).tr hm4⟩

theorem g4_76 {X : zz_X} {d n : Nat} {h : zz_H} (hd : 9 ≤ d) {b : Nat} {S : Nat → Int} {A : Nat → Int → Int} {E : Nat → Nat} {RL : List (Nat × rd)} {UL : List (Nat × ud)} {SL : List (Nat × sd)} {T1 T2 : List (Nat × td)} (G : GI X b h S A E RL UL SL T1 T2) (hn : b + 64 ≤ n) {u re : Int} (hu : 0 ≤ u ∧ u ≤ 5) (hre : re = 0 ∨ re = 1) (h3 : S 3 ≤ 90000) : zz_Ct X mm_76 d 2 21 [.ref b, .ref (b + 23), zv u, zv re] n h (fun r n' h' => r = some (zv (S 3 + 1)) ∧ n ≤ n' ∧ ∃ S' E', S' 3 = S 3 + 2 ∧ (∀ i, i < 14 → i ≠ 3 → S' i = S i) ∧ GI X b h' S' A E' RL UL SL T1 (tk_end T2 u ++ [(n, (u, S 3 + 1, S 3 + 1 + 1, re, S 2, S 2))]) ∧ mf b h h') := by
  refine zz_start (by decide) (ls := [some (.ref b), some (.ref (b + 23)), some (zv u), some (zv re), none, none]) rfl ?_
  have hr := G.rg
  have hlt0 : True := trivial
  refine zi_aload_n dk_76_0 rfl rfl ?_
  refine zi_invV dk_76_1 ml_0_106 iv_47 (gd_47 (d := d - 1) G hn (by omega)) (by first | exact G.1 0 (by decide) | exact G.1 _ (by decide)) rfl rfl rfl (Nat.le_of_ble_eq_true rfl) (by omega) rfl rfl (fun r n' h' hq => ?_)
  obtain ⟨rfl, rfl, G, hm1, hc1⟩ := hq
  refine zj_istore dk_76_4 rfl ?_
  refine zi_aload_n dk_76_6 rfl rfl ?_
  refine zi_invV dk_76_7 ml_0_106 iv_47 (gd_47 (d := d - 1) G hn (by rw [va_up_self]; omega)) (by first | exact G.1 0 (by decide) | exact G.1 _ (by decide)) rfl rfl rfl (Nat.le_of_ble_eq_true rfl) (by omega) rfl rfl (fun r n' h' hq => ?_)
  obtain ⟨rfl, rfl, G, hm2, hc2⟩ := hq
  rw [va_up_self] at G ⊢
  refine zz_Z.lt (fun hlt => ?_)
  have G3 := G.fresh hlt hn (td_c (u, S 3 + 1, S 3 + 1 + 1, re, S 2, S 2))
  have hfv := G.fv hlt
  refine zj_istore dk_76_10 rfl ?_
  refine zi_aload_n dk_76_12 rfl rfl ?_
  refine zi_new dk_76_13 nw_0_179 (kc' := 1) (ks' := 15) rfl rfl ?_
  refine zi_dup dk_76_16 rfl ?_
  refine zj_iload_n dk_76_17 rfl ?_
  refine zj_iload dk_76_18 rfl ?_
  refine zj_iload dk_76_20 rfl ?_
  refine zj_iload_n dk_76_22 rfl ?_
  refine zi_aload_n dk_76_23 rfl rfl ?_
  refine zi_getf dk_76_24 fl_0_134 ((zz_up_ne (by omega)).trans (G.1 0 (by decide))) rfl ?_
  refine zi_invI dk_76_27 ml_0_259 ii_77 (ct_77 (d := d - 1) (by omega) (zz_up_eq _ _ _) hre) rfl rfl (Nat.le_of_ble_eq_true rfl) (by omega) rfl rfl (fun r n' h' hq => ?_)
  obtain ⟨rfl, rfl, rfl⟩ := hq
  rw [zz_up_up]
  obtain ⟨G, hm3, hc3⟩ := G3
  refine zz_Z.lt (fun hlt2 => ?_)
  refine zi_invV dk_76_30 ml_0_262 iv_78 (g4_78 (d := d - 1) (by omega) G hlt2 (by omega) (zz_up_eq _ _ _) ⟨hu, by dsimp only; omega, by dsimp only; omega, hre, by dsimp only; omega, by dsimp only; omega⟩ hn hfv) (G.1 23 (by decide)) rfl rfl rfl (Nat.le_of_ble_eq_true rfl) (by omega) (kc' := 0) (ks' := 0) rfl rfl (fun r n' h' hq => ?_)
  obtain ⟨rfl, hn2, S', E', hS', G, hm4, hk4⟩ := hq
  refine zj_iload dk_76_33 rfl ?_
  refine zj_ireturn dk_76_35 rfl ⟨rfl, by omega, S', E', (hS' 3 (by decide)).trans (by rw [va_up_self]; omega), fun i hi hne => (hS' i hi).trans (by rw [va_up_ne _ _ hne, va_up_ne _ _ hne]), G, ((hm1.tr hm2).tr hm3).tr hm4⟩

theorem gm_62 {X : zz_X} {d n : Nat} {h : zz_H} (hd : 5 ≤ d) {b : Nat} {S : Nat → Int} {A : Nat → Int → Int} {E : Nat → Nat} {RL : List (Nat × rd)} {UL : List (Nat × ud)} {SL : List (Nat × sd)} {T1 T2 : List (Nat × td)} (G : GI X b h S A E RL UL SL T1 T2) (hn : b + 64 ≤ n) {x : Int} (hx : -2147483648 ≤ x ∧ x < 2147483648) (h2 : S 2 ≤ 90000) : zz_Ct X mm_62 d 0 0 [.ref b, zv x] n h (fun r n' h' => n' = n ∧ (((1 ≤ x ∧ x ≤ 100) ∧ r = some (zv 1) ∧ ∃ S', S' 2 = S 2 + x ∧ (∀ i, i < 14 → i ≠ 2 → S' i = S i) ∧ GI X b h' S' A E RL UL SL (T1.filter (fun p => decide (¬ (60 < S 2 + x - p.2.2.2.2.2.1 ∨ 20 < S 2 + x - p.2.2.2.2.2.2)))) T2 ∧ mf b h h') ∨ (¬ (1 ≤ x ∧ x ≤ 100) ∧ r = some (zv 0) ∧ h' = h))) := by
  refine zz_start (by decide) (ls := [some (.ref b), some (zv x)]) rfl ?_
  have hr := G.rg
  refine zj_iload_n dk_62_0 rfl ?_
  refine zj_iconst dk_62_1 ?_
  refine zj_icmp_lt (t := 11) dk_62_2 rfl (by omega) (fun c2 => ?_) (fun c2 => ?_)
  · skip
    refine zj_iconst dk_62_11 ?_
    refine zj_zreturn dk_62_12 rfl (by omega) ⟨rfl, Or.inr ⟨by omega, rfl, rfl⟩⟩
  · skip
    refine zj_iload_n dk_62_5 rfl ?_
    refine zj_bipush dk_62_6 (by decide) ?_
    refine zj_icmp_le (t := 13) dk_62_8 rfl (by omega) (fun c8 => ?_) (fun c8 => ?_)
    · skip
      refine zi_aload_n dk_62_13 rfl rfl ?_
      refine zi_dup dk_62_14 rfl ?_
      refine zi_getf dk_62_15 fl_0_134 (by first | exact G.1 0 (by decide) | exact G.1 _ (by decide)) rfl ?_
      refine zj_iload_n dk_62_18 rfl ?_
      refine zj_iadd dk_62_19 ?_
      have G2 := G.g2 (x := S 2 + x) (G.2.1.s2 (by omega))
      refine zj_putI dk_62_20 fp_62_134 (by first | exact G.1 0 (by decide) | exact G.1 _ (by decide)) rfl ?_
      obtain ⟨G, hm, hc⟩ := G2
      refine zz_Z.lt (fun hlt => ?_)
      refine zi_aload_n dk_62_23 rfl rfl ?_
      refine zi_getf dk_62_24 fl_0_60 (by first | exact G.1 0 (by decide) | exact G.1 _ (by decide)) rfl ?_
      refine zi_aload_n dk_62_27 rfl rfl ?_
      refine zi_getf dk_62_28 fl_0_134 (by first | exact G.1 0 (by decide) | exact G.1 _ (by decide)) rfl ?_
      show zz_Z _ _ _ _ _ _ _ _ [zv (S 2 + x), .ref (b + 21)] _ _
      refine zi_invV dk_62_31 ml_0_137 iv_63 (g3_63 (d := d - 1) (by omega) G hlt hn (by omega)) (by first | exact G.1 0 (by decide) | exact G.1 _ (by decide)) rfl rfl rfl (Nat.le_of_ble_eq_true rfl) (by omega) rfl rfl (fun r n' h' hq => ?_)
      obtain ⟨rfl, rfl, S', hS', G, hm2, hk2⟩ := hq
      refine zj_iconst dk_62_34 ?_
      refine zj_zreturn dk_62_35 rfl (by omega) ⟨rfl, Or.inl ⟨by omega, rfl, S', (hS' 2 (by decide)).trans (va_up_self _ _ _), fun i hi hne => (hS' i hi).trans (va_up_ne _ _ hne), G, hm.tr hm2⟩⟩
    · skip
      refine zj_iconst dk_62_11 ?_
      refine zj_zreturn dk_62_12 rfl (by omega) ⟨rfl, Or.inr ⟨by omega, rfl, rfl⟩⟩

