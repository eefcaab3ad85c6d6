/-! the gate's whole state: its own cells, what they hold, and the lists -/
def tkc (T : List (Nat × td)) : Prop := ∀ u : Int, (T.filter (fun p => decide (p.2.1 = u))).length ≤ 2
def gi_P (S : Nat → Int) (A : Nat → Int → Int) (RL : List (Nat × rd)) (UL : List (Nat × ud)) (SL : List (Nat × sd)) (T1 T2 : List (Nat × td)) : Prop :=
  (0 ≤ S 9 ∧ S 9 ≤ 40) ∧ (∀ i, 0 ≤ i → i < S 9 → 33 ≤ A 2 i ∧ A 2 i ≤ 126) ∧ ((0 ≤ S 13 ∧ S 13 ≤ 16) ∧ ex_W (A 12) (A 13) (A 14) (S 13)) ∧ ex_V (A 15) ∧ rl_V (A 17) ∧ (ch_ok (A 5) ∧ rw_01 (A 9) 21 ∧ rw_01 (A 10) 41) ∧
  ((S 1 = 0 ∨ S 1 = 1) ∧ (-1 ≤ S 0 ∧ S 0 ≤ 13) ∧ (0 ≤ S 2 ∧ S 2 ≤ 100000) ∧ (0 ≤ S 3 ∧ S 3 ≤ 100000)) ∧ (S 14 = (RL.length : Int) ∧ S 16 = (UL.length : Int) ∧ S 18 = (SL.length : Int) ∧ S 20 = (T1.length : Int) ∧ S 22 = (T2.length : Int)) ∧ (RL.length ≤ 8 ∧ UL.length ≤ 6 ∧ SL.length ≤ 6 ∧ tkc T1 ∧ tkc T2)
def gi_D (X : zz_X) (b : Nat) (h : zz_H) (E : Nat → Nat) (RL : List (Nat × rd)) (UL : List (Nat × ud)) (SL : List (Nat × sd)) (T1 T2 : List (Nat × td)) : Prop :=
  ((∃ f, h (zz_e X) = some (zQ 4 0 f)) ∧ zz_e X < b) ∧ ru_P X h (E 0) RL ∧ us_P X h (E 1) UL ∧ sv_P X h (E 2) SL ∧ tk_D X h (E 3) T1 ∧ tk_D X h (E 4) T2 ∧
  (∀ j k, j < 5 → k < 5 → j ≠ k → E j = E k → E j = zz_e X) ∧ (∀ j, j < 5 → E j = zz_e X ∨ b + 64 ≤ E j) ∧
  ((∀ p ∈ RL, b + 64 ≤ p.1) ∧ (∀ p ∈ UL, b + 64 ≤ p.1) ∧ (∀ p ∈ SL, b + 64 ≤ p.1) ∧ (∀ p ∈ T1 ++ T2, b + 64 ≤ p.1)) ∧ ((UL.map Prod.fst).Nodup ∧ (SL.map Prod.fst).Nodup ∧ ((T1 ++ T2).map Prod.fst).Nodup)
def GI (X : zz_X) (b : Nat) (h : zz_H) (S : Nat → Int) (A : Nat → Int → Int) (E : Nat → Nat) (RL : List (Nat × rd)) (UL : List (Nat × ud)) (SL : List (Nat × sd)) (T1 T2 : List (Nat × td)) : Prop :=
  cl_A b S A E h ∧ gi_P S A RL UL SL T1 T2 ∧ gi_D X b h E RL UL SL T1 T2
/-- the model's cells stay -/
def mf (b : Nat) (h h' : zz_H) : Prop := ∀ a, b + 25 ≤ a → a < b + 64 → h' a = h a
theorem mf.rf (b : Nat) (h : zz_H) : mf b h h := fun _ _ _ => rfl
theorem mf.tr {b : Nat} {h1 h2 h3 : zz_H} (a : mf b h1 h2) (c : mf b h2 h3) : mf b h1 h3 := fun q h4 h5 => (c q h4 h5).trans (a q h4 h5)
theorem tkc_len : ∀ {T : List (Nat × td)}, tkc T → (∀ p ∈ T, td_V p.2) → T.length ≤ 12 := by
  intro T hc hv
  have key : ∀ (T : List (Nat × td)), (∀ p ∈ T, td_V p.2) → T.length = (T.filter (fun p => decide (p.2.1 = 0))).length + (T.filter (fun p => decide (p.2.1 = 1))).length + (T.filter (fun p => decide (p.2.1 = 2))).length + (T.filter (fun p => decide (p.2.1 = 3))).length + (T.filter (fun p => decide (p.2.1 = 4))).length + (T.filter (fun p => decide (p.2.1 = 5))).length := by
    intro T
    induction T with
    | nil => intro _; rfl
    | cons p T ih =>
      intro hv
      have ih := ih (fun q hq => hv q (List.mem_cons_of_mem _ hq))
      have h1 := (hv p List.mem_cons_self).1
      have hu : p.2.1 = 0 ∨ p.2.1 = 1 ∨ p.2.1 = 2 ∨ p.2.1 = 3 ∨ p.2.1 = 4 ∨ p.2.1 = 5 := by omega
      rcases hu with hu | hu | hu | hu | hu | hu <;> (simp only [List.filter_cons, hu, List.length_cons]; simp; omega)
  have h0 := hc 0
  have h1 := hc 1
  have h2 := hc 2
  have h3 := hc 3
  have h4 := hc 4
  have h5 := hc 5
  have := key T hv
  omega
section GD
variable {X : zz_X} {b n : Nat} {h h' : zz_H} {S : Nat → Int} {A : Nat → Int → Int} {E : Nat → Nat} {RL : List (Nat × rd)} {UL : List (Nat × ud)} {SL : List (Nat × sd)} {T1 T2 : List (Nat × td)}
theorem gi_D.len1 (D : gi_D X b h E RL UL SL T1 T2) (P : gi_P S A RL UL SL T1 T2) : T1.length ≤ 12 := tkc_len P.2.2.2.2.2.2.2.2.2.2.2.1 (fun _ hp => (D.2.2.2.2.1.mem hp).2)
theorem gi_D.len2 (D : gi_D X b h E RL UL SL T1 T2) (P : gi_P S A RL UL SL T1 T2) : T2.length ≤ 12 := tkc_len P.2.2.2.2.2.2.2.2.2.2.2.2 (fun _ hp => (D.2.2.2.2.2.1.mem hp).2)
/-- all that lies beyond the gate's and the model's cells stays -/
theorem gi_D.fr (D : gi_D X b h E RL UL SL T1 T2) (c : cp h h') (k : ∀ a, (a = zz_e X ∨ b + 64 ≤ a) → h' a = h a) : gi_D X b h' E RL UL SL T1 T2 := by
  obtain ⟨⟨⟨f, d0⟩, d00⟩, d1, d2, d3, d4, d5, d6, d7, ⟨l1, l2, l3, l4⟩, d9⟩ := D
  have kE : ∀ j, j < 5 → h' (E j) = h (E j) := fun j hj => k _ (d7 j hj)
  exact ⟨⟨⟨f, by rw [k _ (Or.inl rfl)]; exact d0⟩, d00⟩, d1.fr c (kE 0 (by decide)) (fun p hp i hi => k _ (Or.inr (by have := l1 p hp; omega))), d2.fr c (kE 1 (by decide)) (fun p hp => k _ (Or.inr (l2 p hp))), d3.fr c (kE 2 (by decide)) (fun p hp => ⟨k _ (Or.inr (l3 p hp)), k _ (Or.inr (by have := l3 p hp; omega)), k _ (Or.inr (by have := l3 p hp; omega))⟩), d4.fr c (kE 3 (by decide)) (fun p hp => k _ (Or.inr (l4 p (List.mem_append_left _ hp)))), d5.fr c (kE 4 (by decide)) (fun p hp => k _ (Or.inr (l4 p (List.mem_append_right _ hp)))), d6, d7, ⟨l1, l2, l3, l4⟩, d9⟩
/-- what a change of one list's array and object leaves -/
theorem gi_k {ea al : Nat} (D : gi_D X b h E RL UL SL T1 T2) (hlt : ∀ a e, h a = some e → a < n) (hal : al < b + 25) (hea : ∃ kd N f, h ea = some (zQ kd N f)) (hfr : ∀ a, a < n → a ≠ al → (a ≠ ea ∨ ∃ f, h a = some (zQ 4 0 f)) → h' a = h a) (hnE : ∀ j, j < 5 → E j < n) :
    (∀ a x, h a = some (.inr x) → b + 64 ≤ a → h' a = h a) ∧ (∀ a kd N g, h a = some (zA kd N g) → b + 64 ≤ a → h' a = h a) ∧ (h' (zz_e X) = h (zz_e X) ∨ al = zz_e X) ∧ (∀ j k, j < 5 → k < 5 → j ≠ k → ea = E k → h' (E j) = h (E j) ∨ E j = al) := by
  obtain ⟨kd0, N0, f0, hq⟩ := hea
  obtain ⟨⟨⟨f, d0⟩, d00⟩, -, -, -, -, -, d6, d7, -⟩ := D
  refine ⟨fun a x ha hlo => hfr a (hlt _ _ ha) (by omega) (Or.inl (zz_ne2 ha hq)), fun a kd N g ha hlo => hfr a (hlt _ _ ha) (by omega) (Or.inl ?_), ?_, fun j k hj hk hjk hek => ?_⟩
  · intro e
    subst e
    rw [ha] at hq
    unfold zA zQ at hq
    injection hq with hq; injection hq with hq; injection hq with h1 h2; injection h2 with h3 h4; cases h4
  · by_cases hx : al = zz_e X
    · exact Or.inr hx
    · exact Or.inl (hfr _ (hlt _ _ d0) (fun e => hx e.symm) (Or.inr ⟨f, d0⟩))
  · by_cases hx : E j = al
    · exact Or.inr hx
    · left
      by_cases he : E j = ea
      · have hz := d6 j k hj hk hjk (he.trans hek)
        rw [hz]
        exact hfr _ (hlt _ _ d0) (by rw [← hz]; exact hx) (Or.inr ⟨f, d0⟩)
      · rcases d7 j hj with hz | hz
        · rw [hz]
          exact hfr _ (hlt _ _ d0) (by rw [← hz]; exact hx) (Or.inr ⟨f, d0⟩)
        · by_cases hn : E j < n
          · exact hfr _ hn (by omega) (Or.inl he)
          · exact absurd (hnE j hj) hn
end GD
