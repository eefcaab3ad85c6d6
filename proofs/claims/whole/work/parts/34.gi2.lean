/-! the lists change one at a time -/
section GK
variable {X : zz_X} {b n : Nat} {h h' : zz_H} {S : Nat → Int} {A : Nat → Int → Int} {E : Nat → Nat} {RL : List (Nat × rd)} {UL : List (Nat × ud)} {SL : List (Nat × sd)} {T1 T2 : List (Nat × td)}
theorem gi_D.lt (D : gi_D X b h E RL UL SL T1 T2) (hlt : ∀ a e, h a = some e → a < n) : ∀ j, j < 5 → E j < n := by
  obtain ⟨-, d1, d2, d3, d4, d5, -⟩ := D
  intro j hj
  obtain ⟨k0, N0, f0, q0⟩ := d1.1.q
  obtain ⟨k1, N1, f1, q1⟩ := d2.1.q
  obtain ⟨k2, N2, f2, q2⟩ := d3.1.q
  obtain ⟨k3, N3, f3, q3⟩ := d4.q
  obtain ⟨k4, N4, f4, q4⟩ := d5.q
  rcases (show j = 0 ∨ j = 1 ∨ j = 2 ∨ j = 3 ∨ j = 4 by omega) with rfl | rfl | rfl | rfl | rfl
  · exact hlt _ _ q0
  · exact hlt _ _ q1
  · exact hlt _ _ q2
  · exact hlt _ _ q3
  · exact hlt _ _ q4
theorem gi_D.qE (D : gi_D X b h E RL UL SL T1 T2) : ∀ j, j < 5 → ∃ kd N f, h (E j) = some (zQ kd N f) := by
  obtain ⟨-, d1, d2, d3, d4, d5, -⟩ := D
  intro j hj
  rcases (show j = 0 ∨ j = 1 ∨ j = 2 ∨ j = 3 ∨ j = 4 by omega) with rfl | rfl | rfl | rfl | rfl
  · exact d1.1.q
  · exact d2.1.q
  · exact d3.1.q
  · exact d4.q
  · exact d5.q
theorem ru_k {h h' : zz_H} {p : Nat × rd} {b : Nat} (C : ru_C h p.1 p.2) (hb : b + 64 ≤ p.1) (k1 : ∀ a x, h a = some (.inr x) → b + 64 ≤ a → h' a = h a) (k2 : ∀ a kd N g, h a = some (zA kd N g) → b + 64 ≤ a → h' a = h a) : ∀ k, k < 5 → h' (p.1 + k) = h (p.1 + k) := by
  obtain ⟨c0, ch, st, en, bg, wr, ⟨f0, f1, f2, f3⟩, -⟩ := C
  intro k hk
  rcases (show k = 0 ∨ k = 1 ∨ k = 2 ∨ k = 3 ∨ k = 4 by omega) with rfl | rfl | rfl | rfl | rfl
  · exact k1 _ _ c0 hb
  · exact k1 _ _ f0 (by omega)
  · exact k2 _ _ _ _ f1 (by omega)
  · exact k2 _ _ _ _ f2 (by omega)
  · exact k2 _ _ _ _ f3 (by omega)
/-- what lies in the other lists stays where one list's array and object change -/
theorem gi_oth {kk al : Nat} (D : gi_D X b h E RL UL SL T1 T2) (hlt : ∀ a e, h a = some e → a < n) (c : cp h h') (hkk : kk < 5) (hal : b ≤ al ∧ al < b + 25) (hfr : ∀ a, a < n → a ≠ al → (a ≠ E kk ∨ ∃ f, h a = some (zQ 4 0 f)) → h' a = h a) :
    (kk ≠ 0 → ru_P X h' (E 0) RL) ∧ (kk ≠ 1 → us_P X h' (E 1) UL) ∧ (kk ≠ 2 → sv_P X h' (E 2) SL) ∧ (kk ≠ 3 → tk_D X h' (E 3) T1) ∧ (kk ≠ 4 → tk_D X h' (E 4) T2) ∧ (∃ f, h' (zz_e X) = some (zQ 4 0 f)) ∧ (∀ a x, h a = some (.inr x) → b + 64 ≤ a → h' a = h a) ∧ (∀ a kd N g, h a = some (zA kd N g) → b + 64 ≤ a → h' a = h a) := by
  obtain ⟨k1, k2, k3, k4⟩ := gi_k D hlt hal.2 (D.qE kk hkk) hfr (D.lt hlt)
  obtain ⟨⟨⟨f, d0⟩, d00⟩, d1, d2, d3, d4, d5, d6, d7, ⟨l1, l2, l3, l4⟩, d9⟩ := D
  have kE : ∀ j, j < 5 → j ≠ kk → h' (E j) = h (E j) := fun j hj hne => by
    rcases k4 j kk hj hkk hne rfl with hx | hx
    · exact hx
    · rcases d7 j hj with hz | hz <;> omega
  refine ⟨fun hk => d1.fr c (kE 0 (by decide) (Ne.symm hk)) (fun p hp => ru_k (d1.2 p hp).1 (l1 p hp) k1 k2), fun hk => d2.fr c (kE 1 (by decide) (Ne.symm hk)) (fun p hp => k1 _ _ (d2.2 p hp).1 (l2 p hp)), fun hk => d3.fr c (kE 2 (by decide) (Ne.symm hk)) (fun p hp => ?_), fun hk => d4.fr c (kE 3 (by decide) (Ne.symm hk)) (fun p hp => k1 _ _ (d4.mem hp).1 (l4 p (List.mem_append_left _ hp))), fun hk => d5.fr c (kE 4 (by decide) (Ne.symm hk)) (fun p hp => k1 _ _ (d5.mem hp).1 (l4 p (List.mem_append_right _ hp))), ?_, k1, k2⟩
  · obtain ⟨⟨s1, s2, s3⟩, -⟩ := d3.2 p hp
    have := l3 p hp
    exact ⟨k1 _ _ s1 this, k2 _ _ _ _ s2 (by omega), k2 _ _ _ _ s3 (by omega)⟩
  · rcases k3 with hx | hx
    · exact ⟨f, by rw [hx]; exact d0⟩
    · omega
theorem gi_E {kk ea' : Nat} (D : gi_D X b h E RL UL SL T1 T2) (hlt : ∀ a e, h a = some e → a < n) (hn : b + 64 ≤ n) (hkk : kk < 5) (he : ea' = E kk ∨ n ≤ ea') : (∀ j k, j < 5 → k < 5 → j ≠ k → va_up E kk ea' j = va_up E kk ea' k → va_up E kk ea' j = zz_e X) ∧ (∀ j, j < 5 → va_up E kk ea' j = zz_e X ∨ b + 64 ≤ va_up E kk ea' j) := by
  have hE := D.lt hlt
  obtain ⟨-, -, -, -, -, -, d6, d7, -⟩ := D
  rcases he with rfl | he
  · have : va_up E kk (E kk) = E := by
      funext j
      unfold va_up
      split
      · rename_i hj; rw [hj]
      · rfl
    rw [this]
    exact ⟨d6, d7⟩
  · refine ⟨fun j k hj hk hjk hx => ?_, fun j hj => ?_⟩
    · by_cases h1 : j = kk
      · subst h1
        rw [va_up_self, va_up_ne _ _ (Ne.symm hjk)] at hx
        have := hE k hk
        omega
      · rw [va_up_ne _ _ h1] at hx ⊢
        by_cases h2 : k = kk
        · subst h2
          rw [va_up_self] at hx
          have := hE j hj
          omega
        · rw [va_up_ne _ _ h2] at hx
          exact d6 j k hj hk hjk hx
    · by_cases h1 : j = kk
      · subst h1
        rw [va_up_self]
        exact Or.inr (by omega)
      · rw [va_up_ne _ _ h1]
        exact d7 j hj
/-- the sessions -/
theorem gi_t1 {ea' : Nat} {T1' : List (Nat × td)} (D : gi_D X b h E RL UL SL T1 T2) (hlt : ∀ a e, h a = some e → a < n) (hn : b + 64 ≤ n) (c : cp h h') (P' : tk_D X h' ea' T1') (hfr : ∀ a, a < n → a ≠ b + 22 → (a ≠ E 3 ∨ ∃ f, h a = some (zQ 4 0 f)) → h' a = h a) (he : ea' = E 3 ∨ n ≤ ea') (hlo : ∀ p ∈ T1' ++ T2, b + 64 ≤ p.1) (hnd : ((T1' ++ T2).map Prod.fst).Nodup) : gi_D X b h' (va_up E 3 ea') RL UL SL T1' T2 := by
  obtain ⟨o0, o1, o2, -, o4, o5, -⟩ := gi_oth (kk := 3) (al := b + 22) D hlt c (by decide) (by omega) hfr
  obtain ⟨e1, e2⟩ := gi_E (kk := 3) (ea' := ea') D hlt hn (by decide) he
  obtain ⟨⟨-, d00⟩, d1, d2, d3, d4, d5, d6, d7, ⟨l1, l2, l3, l4⟩, d9, d10, -⟩ := D
  exact ⟨⟨o5, d00⟩, o0 (by decide), o1 (by decide), o2 (by decide), P', o4 (by decide), e1, e2, ⟨l1, l2, l3, hlo⟩, d9, d10, hnd⟩
theorem gi_t2 {ea' : Nat} {T2' : List (Nat × td)} (D : gi_D X b h E RL UL SL T1 T2) (hlt : ∀ a e, h a = some e → a < n) (hn : b + 64 ≤ n) (c : cp h h') (P' : tk_D X h' ea' T2') (hfr : ∀ a, a < n → a ≠ b + 24 → (a ≠ E 4 ∨ ∃ f, h a = some (zQ 4 0 f)) → h' a = h a) (he : ea' = E 4 ∨ n ≤ ea') (hlo : ∀ p ∈ T1 ++ T2', b + 64 ≤ p.1) (hnd : ((T1 ++ T2').map Prod.fst).Nodup) : gi_D X b h' (va_up E 4 ea') RL UL SL T1 T2' := by
  obtain ⟨o0, o1, o2, o3, -, o5, -⟩ := gi_oth (kk := 4) (al := b + 24) D hlt c (by decide) (by omega) hfr
  obtain ⟨e1, e2⟩ := gi_E (kk := 4) (ea' := ea') D hlt hn (by decide) he
  obtain ⟨⟨-, d00⟩, d1, d2, d3, d4, d5, d6, d7, ⟨l1, l2, l3, l4⟩, d9, d10, -⟩ := D
  exact ⟨⟨o5, d00⟩, o0 (by decide), o1 (by decide), o2 (by decide), o3 (by decide), P', e1, e2, ⟨l1, l2, l3, hlo⟩, d9, d10, hnd⟩
end GK
