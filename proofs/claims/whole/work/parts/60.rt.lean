/-! sorted lists of tickets beside slots -/
theorem so_ext {α : Type} {k : α → Int} : ∀ {l1 l2 : List α}, l1.Pairwise (fun a b => k a < k b) → l2.Pairwise (fun a b => k a < k b) → (∀ x, x ∈ l1 ↔ x ∈ l2) → l1 = l2 := by
  intro l1
  induction l1 with
  | nil =>
    intro l2 _ _ h
    cases l2 with
    | nil => rfl
    | cons b l2 => exact absurd ((h b).2 List.mem_cons_self) (by simp)
  | cons a l1 ih =>
    intro l2 h1 h2 h
    cases l2 with
    | nil => exact absurd ((h a).1 List.mem_cons_self) (by simp)
    | cons b l2 =>
      have h1' := List.pairwise_cons.1 h1
      have h2' := List.pairwise_cons.1 h2
      have hab : a = b := by
        rcases List.mem_cons.1 ((h a).1 List.mem_cons_self) with e | e
        · exact e
        · rcases List.mem_cons.1 ((h b).2 List.mem_cons_self) with e2 | e2
          · exact e2.symm
          · have := h1'.1 b e2
            have := h2'.1 a e
            omega
      subst hab
      congr 1
      refine ih h1'.2 h2'.2 (fun x => ⟨fun hx => ?_, fun hx => ?_⟩)
      · rcases List.mem_cons.1 ((h x).1 (List.mem_cons_of_mem _ hx)) with e | e
        · subst e
          have := h1'.1 x hx
          omega
        · exact e
      · rcases List.mem_cons.1 ((h x).2 (List.mem_cons_of_mem _ hx)) with e | e
        · subst e
          have := h2'.1 x hx
          omega
        · exact e
def RT (T : List (Nat × td)) (P : Int → Prop) (F : Int → td) : Prop :=
  T.Pairwise (fun p q => p.2.2.1 < q.2.2.1) ∧ (∀ x, (∃ p, p ∈ T ∧ p.2 = x) ↔ ∃ s, (0 ≤ s ∧ s < 12) ∧ P s ∧ F s = x) ∧
  (∀ s s', (0 ≤ s ∧ s < 12) → (0 ≤ s' ∧ s' < 12) → P s → P s' → (F s).2.1 = (F s').2.1 → s = s') ∧ ∀ s, (0 ≤ s ∧ s < 12) → (F s).1 = s / 2
section RT
variable {T : List (Nat × td)} {P P' : Int → Prop} {F F' : Int → td}
theorem RT.nil (hF : ∀ s, (0 ≤ s ∧ s < 12) → (F s).1 = s / 2) (hP : ∀ s, (0 ≤ s ∧ s < 12) → ¬ P s) : RT [] P F := by
  refine ⟨List.Pairwise.nil, fun x => ⟨fun ⟨p, hp, _⟩ => absurd hp (by simp), fun ⟨s, hs, hp, _⟩ => absurd hp (hP s hs)⟩, fun s s' hs _ hp => absurd hp (hP s hs), hF⟩
theorem RT.cg (R : RT T P F) (h1 : ∀ s, (0 ≤ s ∧ s < 12) → (P s ↔ P' s)) (h2 : ∀ s, (0 ≤ s ∧ s < 12) → P s → F s = F' s) (h3 : ∀ s, (0 ≤ s ∧ s < 12) → (F' s).1 = s / 2) : RT T P' F' := by
  obtain ⟨r1, r2, r3, r4⟩ := R
  refine ⟨r1, fun x => (r2 x).trans ⟨fun ⟨s, hs, hp, hf⟩ => ⟨s, hs, (h1 s hs).1 hp, (h2 s hs hp).symm.trans hf⟩, fun ⟨s, hs, hp, hf⟩ => ⟨s, hs, (h1 s hs).2 hp, (h2 s hs ((h1 s hs).2 hp)).trans hf⟩⟩, fun s s' hs hs' hp hp' he => ?_, h3⟩
  have q := (h1 s hs).2 hp
  have q' := (h1 s' hs').2 hp'
  exact r3 s s' hs hs' q q' (by rw [h2 s hs q, h2 s' hs' q']; exact he)
theorem RT.fil (R : RT T P F) (c : td → Bool) : RT (T.filter (fun p => c p.2)) (fun s => P s ∧ c (F s) = true) F := by
  obtain ⟨r1, r2, r3, r4⟩ := R
  refine ⟨r1.filter _, fun x => ⟨fun ⟨p, hp, hx⟩ => ?_, fun ⟨s, hs, ⟨hp, hc⟩, hx⟩ => ?_⟩, fun s s' hs hs' hp hp' he => r3 s s' hs hs' hp.1 hp'.1 he, r4⟩
  · obtain ⟨h1, h2⟩ := List.mem_filter.1 hp
    obtain ⟨s, hs, hp, hf⟩ := (r2 x).1 ⟨p, h1, hx⟩
    exact ⟨s, hs, ⟨hp, by rw [hf, ← hx]; exact h2⟩, hf⟩
  · obtain ⟨p, h1, h2⟩ := (r2 x).2 ⟨s, hs, hp, hx⟩
    exact ⟨p, List.mem_filter.2 ⟨h1, by rw [h2, ← hx]; exact hc⟩, h2⟩
theorem RT.app (R : RT T P F) {s0 : Int} {x : td} (v : Nat) (hs : 0 ≤ s0 ∧ s0 < 12) (hn : ¬ P s0) (hx : x.1 = s0 / 2) (hid : ∀ s, (0 ≤ s ∧ s < 12) → P s → (F s).2.1 < x.2.1) : RT (T ++ [(v, x)]) (fun s => s = s0 ∨ P s) (fun s => if s = s0 then x else F s) := by
  obtain ⟨r1, r2, r3, r4⟩ := R
  refine ⟨?_, fun y => ⟨fun ⟨p, hp, hy⟩ => ?_, fun ⟨s, hs', hp, hy⟩ => ?_⟩, fun s s' hs hs' hp hp' he => ?_, fun s hs' => ?_⟩
  · refine List.pairwise_append.2 ⟨r1, List.pairwise_singleton _ _, fun p hp q hq => ?_⟩
    obtain ⟨s, hs', hp', hf⟩ := (r2 p.2).1 ⟨p, hp, rfl⟩
    rw [List.mem_singleton.1 hq, ← hf]
    exact hid s hs' hp'
  · rcases List.mem_append.1 hp with h1 | h1
    · obtain ⟨s, hs', hp', hf⟩ := (r2 y).1 ⟨p, h1, hy⟩
      have hne : s ≠ s0 := fun e => hn (e ▸ hp')
      exact ⟨s, hs', Or.inr hp', by dsimp only; rw [if_neg hne]; exact hf⟩
    · refine ⟨s0, hs, Or.inl rfl, ?_⟩
      dsimp only
      rw [if_pos rfl, ← hy, List.mem_singleton.1 h1]
  · dsimp only at hy
    by_cases e : s = s0
    · rw [if_pos e] at hy
      exact ⟨(v, x), by simp, hy⟩
    · rw [if_neg e] at hy
      rcases hp with e2 | hp
      · exact absurd e2 e
      · obtain ⟨p, h1, h2⟩ := (r2 y).2 ⟨s, hs', hp, hy⟩
        exact ⟨p, List.mem_append_left _ h1, h2⟩
  · dsimp only at he
    by_cases e : s = s0 <;> by_cases e' : s' = s0
    · omega
    · rw [if_pos e, if_neg e'] at he
      rcases hp' with e2 | hp'
      · exact absurd e2 e'
      · have := hid s' hs' hp'
        omega
    · rw [if_neg e, if_pos e'] at he
      rcases hp with e2 | hp
      · exact absurd e2 e
      · have := hid s hs hp
        omega
    · rw [if_neg e, if_neg e'] at he
      rcases hp with e2 | hp
      · exact absurd e2 e
      · rcases hp' with e2 | hp'
        · exact absurd e2 e'
        · exact r3 s s' hs hs' hp hp' he
  · dsimp only
    split
    · rename_i e
      rw [e, hx]
    · exact r4 s hs'
theorem RT.at (R : RT T P F) {p : Nat × td} (hp : p ∈ T) : ∃ s, (0 ≤ s ∧ s < 12) ∧ P s ∧ F s = p.2 := (R.2.1 p.2).1 ⟨p, hp, rfl⟩
theorem RT.inj (R : RT T P F) : ∀ (i j : Nat) (p q : Nat × td), T[i]? = some p → T[j]? = some q → p.2.2.1 = q.2.2.1 → i = j := by
  intro i j p q hi hj he
  obtain ⟨hi1, hi2⟩ := List.getElem?_eq_some_iff.1 hi
  obtain ⟨hj1, hj2⟩ := List.getElem?_eq_some_iff.1 hj
  rcases Nat.lt_trichotomy i j with h | h | h
  · have := List.pairwise_iff_getElem.1 R.1 i j hi1 hj1 h
    rw [hi2, hj2] at this
    omega
  · exact h
  · have := List.pairwise_iff_getElem.1 R.1 j i hj1 hi1 h
    rw [hi2, hj2] at this
    omega
theorem RT.set (R : RT T P F) {k : Nat} {q : Nat × td} {s0 : Int} {y : td} (hk : T[k]? = some q) (hs : 0 ≤ s0 ∧ s0 < 12) (hp : P s0) (hf : F s0 = q.2) (hy1 : y.1 = q.2.1) (hy2 : y.2.1 = q.2.2.1) : RT (T.set k (q.1, y)) P (fun s => if s = s0 then y else F s) := by
  have inj := R.inj
  obtain ⟨r1, r2, r3, r4⟩ := R
  obtain ⟨hk1, hk2⟩ := List.getElem?_eq_some_iff.1 hk
  refine ⟨?_, fun x => ⟨fun ⟨p, hp', hx⟩ => ?_, fun ⟨s, hs', hp', hx⟩ => ?_⟩, fun s s' hs1 hs2 hp1 hp2 he => ?_, fun s hs' => ?_⟩
  · have key : ∀ (i : Nat) (hi : i < (T.set k (q.1, y)).length), ((T.set k (q.1, y))[i]'hi).2.2.1 = (T[i]'(by simpa using hi)).2.2.1 := by
      intro i hi
      rw [List.getElem_set]
      split
      · rename_i e
        subst e
        rw [hk2]
        exact hy2
      · rfl
    refine List.pairwise_iff_getElem.2 (fun i j hi hj hij => ?_)
    rw [key, key]
    exact List.pairwise_iff_getElem.1 r1 i j _ _ hij
  · obtain ⟨i, hi⟩ := List.mem_iff_getElem?.1 hp'
    rw [List.getElem?_set] at hi
    split at hi
    · rename_i e
      first | injection hi with hi | (rw [if_pos hk1] at hi; injection hi with hi)
      refine ⟨s0, hs, hp, ?_⟩
      dsimp only
      rw [if_pos rfl, ← hx, ← hi]
    · rename_i e
      have hm := List.mem_iff_getElem?.2 ⟨i, hi⟩
      obtain ⟨s, a1, a2, a3⟩ := (r2 x).1 ⟨p, hm, hx⟩
      refine ⟨s, a1, a2, ?_⟩
      have hne : s ≠ s0 := by
        intro e2
        rw [e2, hf, ← hx] at a3
        exact e (inj k i q p hk hi (by rw [a3]))
      dsimp only
      rw [if_neg hne]
      exact a3
  · dsimp only at hx
    by_cases e : s = s0
    · rw [if_pos e] at hx
      refine ⟨(q.1, y), List.mem_iff_getElem?.2 ⟨k, ?_⟩, hx⟩
      rw [List.getElem?_set, if_pos rfl, if_pos hk1]
    · rw [if_neg e] at hx
      obtain ⟨p, a1, a2⟩ := (r2 x).2 ⟨s, hs', hp', hx⟩
      obtain ⟨i, hi⟩ := List.mem_iff_getElem?.1 a1
      refine ⟨p, List.mem_iff_getElem?.2 ⟨i, ?_⟩, a2⟩
      have hne : k ≠ i := by
        intro e2
        subst e2
        rw [hk] at hi
        injection hi with hi
        refine e (r3 s s0 hs' hs hp' hp ?_)
        rw [hx, ← a2, ← hi, hf]
      rw [List.getElem?_set, if_neg hne]
      exact hi
  · dsimp only at he
    have hq : (F s0).2.1 = y.2.1 := by rw [hf, hy2]
    by_cases e : s = s0 <;> by_cases e' : s' = s0
    · omega
    · rw [if_pos e, if_neg e', ← hq] at he
      exact absurd (r3 s' s0 hs2 hs hp2 hp he.symm) e'
    · rw [if_neg e, if_pos e', ← hq] at he
      exact absurd (r3 s s0 hs1 hs hp1 hp he) e
    · rw [if_neg e, if_neg e'] at he
      exact r3 s s' hs1 hs2 hp1 hp2 he
  · dsimp only
    split
    · rename_i e
      rw [hy1, ← hf, e]
      exact r4 s0 hs
    · exact r4 s hs'
theorem sb_sp {Q : Int → Bool} : ∀ (k : Nat) (i f : Int), (sb_run Q k i f = f ∧ ∀ s, i ≤ s → s < i + k → Q s = false) ∨ ((i ≤ sb_run Q k i f ∧ sb_run Q k i f < i + k) ∧ Q (sb_run Q k i f) = true) := by
  intro k
  induction k with
  | zero => intro i f; exact Or.inl ⟨rfl, fun s h1 h2 => by omega⟩
  | succ k ih =>
    intro i f
    unfold sb_run
    rcases ih (i + 1) (if Q i = true then i else f) with ⟨h1, h2⟩ | ⟨h1, h2⟩
    · by_cases hq : Q i = true
      · rw [if_pos hq] at h1 ⊢
        right
        rw [h1]
        exact ⟨by omega, hq⟩
      · rw [if_neg hq] at h1 ⊢
        left
        refine ⟨h1, fun s a1 a2 => ?_⟩
        by_cases e : s = i
        · subst e
          simpa using hq
        · exact h2 s (by omega) (by omega)
    · exact Or.inr ⟨by omega, h2⟩
theorem RT.sb (R : RT T P F) {x : Int} {Q : Int → Bool} (hQ : ∀ s, (0 ≤ s ∧ s < 12) → (Q s = true ↔ P s ∧ (F s).2.1 = x)) : (T.find? (fun p => decide (p.2.2.1 = x)) = none ∧ sb_run Q 12 0 (-1) = -1 ∧ ∀ s, (0 ≤ s ∧ s < 12) → P s → (F s).2.1 ≠ x) ∨ ∃ q, T.find? (fun p => decide (p.2.2.1 = x)) = some q ∧ q ∈ T ∧ (0 ≤ sb_run Q 12 0 (-1) ∧ sb_run Q 12 0 (-1) < 12) ∧ P (sb_run Q 12 0 (-1)) ∧ F (sb_run Q 12 0 (-1)) = q.2 ∧ q.2.2.1 = x := by
  obtain ⟨r1, r2, r3, r4⟩ := R
  rcases hf : T.find? (fun p => decide (p.2.2.1 = x)) with _ | q
  · left
    have hn : ∀ s, (0 ≤ s ∧ s < 12) → P s → (F s).2.1 ≠ x := by
      intro s hs hp he
      obtain ⟨p, h1, h2⟩ := (r2 (F s)).2 ⟨s, hs, hp, rfl⟩
      have := List.find?_eq_none.1 hf p h1
      rw [h2] at this
      exact this (by simpa using he)
    refine ⟨hf, ?_, hn⟩
    rcases sb_sp (Q := Q) 12 0 (-1) with ⟨h1, _⟩ | ⟨h1, h2⟩
    · exact h1
    · obtain ⟨a1, a2⟩ := (hQ _ (by omega)).1 h2
      exact absurd a2 (hn _ (by omega) a1)
  · right
    have hm := List.mem_of_find?_eq_some hf
    have hx : q.2.2.1 = x := by simpa using List.find?_some hf
    obtain ⟨s, hs, hp, he⟩ := (r2 q.2).1 ⟨q, hm, rfl⟩
    rcases sb_sp (Q := Q) 12 0 (-1) with ⟨_, h2⟩ | ⟨h1, h2⟩
    · have := (hQ s hs).2 ⟨hp, by rw [he]; exact hx⟩
      rw [h2 s (by omega) (by omega)] at this
      exact absurd this (by decide)
    · obtain ⟨a1, a2⟩ := (hQ _ (by omega)).1 h2
      have e : sb_run Q 12 0 (-1) = s := r3 _ s (by omega) hs a1 hp (by rw [a2, he, hx])
      refine ⟨q, hf, hm, by omega, a1, by rw [e]; exact he, hx⟩
theorem RT.us (R : RT T P F) {u : Int} (hu : 0 ≤ u ∧ u ≤ 5) : (¬ P (2 * u) ∧ ¬ P (2 * u + 1) ∧ (T.filter (fun p => decide (p.2.1 = u))).map Prod.snd = []) ∨ (P (2 * u) ∧ ¬ P (2 * u + 1) ∧ (T.filter (fun p => decide (p.2.1 = u))).map Prod.snd = [F (2 * u)]) ∨ (¬ P (2 * u) ∧ P (2 * u + 1) ∧ (T.filter (fun p => decide (p.2.1 = u))).map Prod.snd = [F (2 * u + 1)]) ∨ (P (2 * u) ∧ P (2 * u + 1) ∧ (F (2 * u)).2.1 < (F (2 * u + 1)).2.1 ∧ (T.filter (fun p => decide (p.2.1 = u))).map Prod.snd = [F (2 * u), F (2 * u + 1)]) ∨ (P (2 * u) ∧ P (2 * u + 1) ∧ (F (2 * u + 1)).2.1 < (F (2 * u)).2.1 ∧ (T.filter (fun p => decide (p.2.1 = u))).map Prod.snd = [F (2 * u + 1), F (2 * u)]) := by
  have R2 := R.fil (fun x => decide (x.1 = u))
  obtain ⟨r1, r2, r3, r4⟩ := R2
  have hs : ((T.filter (fun p => decide (p.2.1 = u))).map Prod.snd).Pairwise (fun a b => a.2.1 < b.2.1) := List.pairwise_map.2 r1
  have hm : ∀ x, x ∈ (T.filter (fun p => decide (p.2.1 = u))).map Prod.snd ↔ (P (2 * u) ∧ F (2 * u) = x) ∨ (P (2 * u + 1) ∧ F (2 * u + 1) = x) := by
    intro x
    rw [List.mem_map]
    refine (r2 x).trans ⟨fun ⟨s, a1, ⟨a2, a4⟩, a3⟩ => ?_, fun h => ?_⟩
    · have h4 := r4 s a1
      have : (F s).1 = u := by simpa using a4
      rcases (show s = 2 * u ∨ s = 2 * u + 1 by omega) with e | e
      · subst e; exact Or.inl ⟨a2, a3⟩
      · subst e; exact Or.inr ⟨a2, a3⟩
    · rcases h with ⟨h1, h2⟩ | ⟨h1, h2⟩
      · exact ⟨2 * u, by omega, ⟨h1, by have := r4 (2 * u) (by omega); simp; omega⟩, h2⟩
      · exact ⟨2 * u + 1, by omega, ⟨h1, by have := r4 (2 * u + 1) (by omega); simp; omega⟩, h2⟩
  have hne : P (2 * u) → P (2 * u + 1) → (F (2 * u)).2.1 ≠ (F (2 * u + 1)).2.1 := fun h1 h2 he => by
    have := R.2.2.1 (2 * u) (2 * u + 1) (by omega) (by omega) h1 h2 he
    omega
  by_cases ha : P (2 * u) <;> by_cases hb : P (2 * u + 1)
  · rcases Int.lt_or_gt_of_ne (hne ha hb) with hl | hl
    · refine Or.inr (Or.inr (Or.inr (Or.inl ⟨ha, hb, hl, so_ext (k := fun x => x.2.1) hs (by simp [hl]) (fun x => (hm x).trans ?_)⟩)))
      simp [ha, hb, eq_comm]
    · refine Or.inr (Or.inr (Or.inr (Or.inr ⟨ha, hb, hl, so_ext (k := fun x => x.2.1) hs (by simp; omega) (fun x => (hm x).trans ?_)⟩)))
      simp [ha, hb, eq_comm, or_comm]
  · refine Or.inr (Or.inl ⟨ha, hb, so_ext (k := fun x => x.2.1) hs (by simp) (fun x => (hm x).trans ?_)⟩)
    simp [ha, hb, eq_comm]
  · refine Or.inr (Or.inr (Or.inl ⟨ha, hb, so_ext (k := fun x => x.2.1) hs (by simp) (fun x => (hm x).trans ?_)⟩))
    simp [ha, hb, eq_comm]
  · refine Or.inl ⟨ha, hb, so_ext (k := fun x => x.2.1) hs (by simp) (fun x => (hm x).trans ?_)⟩
    simp [ha, hb]
theorem tk_map {u i : Int} (hi : 0 ≤ i) : (tk_of T u i).map Prod.snd = ((T.filter (fun p => decide (p.2.1 = u))).map Prod.snd)[i.toNat]? := by
  unfold tk_of
  rw [if_pos hi, List.getElem?_map]
/-- the slot that is taken next, and the list that is left for it -/
theorem RT.fin (R : RT T P F) {u e : Int} (hu : 0 ≤ u ∧ u ≤ 5) (he : (¬ P (2 * u) ∧ e = 2 * u) ∨ (P (2 * u) ∧ ¬ P (2 * u + 1) ∧ e = 2 * u + 1) ∨ (P (2 * u) ∧ P (2 * u + 1) ∧ ((F (2 * u)).2.2.2.2.2 < (F (2 * u + 1)).2.2.2.2.2 ∨ ((F (2 * u)).2.2.2.2.2 = (F (2 * u + 1)).2.2.2.2.2 ∧ (F (2 * u)).2.1 < (F (2 * u + 1)).2.1)) ∧ e = 2 * u) ∨ (P (2 * u) ∧ P (2 * u + 1) ∧ ¬ ((F (2 * u)).2.2.2.2.2 < (F (2 * u + 1)).2.2.2.2.2 ∨ ((F (2 * u)).2.2.2.2.2 = (F (2 * u + 1)).2.2.2.2.2 ∧ (F (2 * u)).2.1 < (F (2 * u + 1)).2.1)) ∧ e = 2 * u + 1)) : RT (tk_end T u) (fun s => P s ∧ s ≠ e) F := by
  have h0 := tk_map (T := T) (u := u) (i := 0) (by omega)
  have h1 := tk_map (T := T) (u := u) (i := 1) (by omega)
  have keep : (¬ P e) → RT T (fun s => P s ∧ s ≠ e) F := fun hne => R.cg (fun s hs => ⟨fun h => ⟨h, fun e2 => hne (e2 ▸ h)⟩, fun h => h.1⟩) (fun _ _ _ => rfl) R.2.2.2
  have drop : P e → (0 ≤ e ∧ e < 12) → RT (T.filter (fun r => decide (¬ (r.2.2.1 = (F e).2.1)))) (fun s => P s ∧ s ≠ e) F := fun hp hr => by
    refine (R.fil (fun x => decide (¬ (x.2.1 = (F e).2.1)))).cg (fun s hs => ⟨fun h => ⟨h.1, fun e2 => ?_⟩, fun h => ⟨h.1, ?_⟩⟩) (fun _ _ _ => rfl) R.2.2.2
    · have := h.2
      rw [e2] at this
      simp at this
    · have : (F s).2.1 ≠ (F e).2.1 := fun e3 => h.2 (R.2.2.1 s e hs hr h.1 hp e3)
      simpa using this
  rcases R.us hu with ⟨ha, hb, hl⟩ | ⟨ha, hb, hl⟩ | ⟨ha, hb, hl⟩ | ⟨ha, hb, hlt, hl⟩ | ⟨ha, hb, hlt, hl⟩
  all_goals rw [hl] at h0 h1
  · have e0 : tk_of T u 0 = none := by simpa using h0
    unfold tk_end
    rw [e0]
    refine keep ?_
    rcases he with ⟨_, h⟩ | ⟨h, _⟩ | ⟨h, _⟩ | ⟨h, _⟩
    · rw [h]; exact ha
    all_goals exact absurd h ha
  · have e1 : tk_of T u 1 = none := by simpa using h1
    have : tk_end T u = T := by unfold tk_end; rw [e1]; split <;> first | rfl | (rename_i h; exact absurd h (by simp))
    rw [this]
    refine keep ?_
    rcases he with ⟨h, _⟩ | ⟨_, _, h⟩ | ⟨_, h, _⟩ | ⟨_, h, _⟩
    · exact absurd ha h
    · rw [h]; exact hb
    all_goals exact absurd h hb
  · have e1 : tk_of T u 1 = none := by simpa using h1
    have : tk_end T u = T := by unfold tk_end; rw [e1]; split <;> first | rfl | (rename_i h; exact absurd h (by simp))
    rw [this]
    refine keep ?_
    rcases he with ⟨_, h⟩ | ⟨h, _⟩ | ⟨h, _⟩ | ⟨h, _⟩
    · rw [h]; exact ha
    all_goals exact absurd h ha
  · obtain ⟨p, e0, f0⟩ := Option.map_eq_some_iff.1 (h0.trans rfl)
    obtain ⟨q, e1, f1⟩ := Option.map_eq_some_iff.1 (h1.trans rfl)
    unfold tk_end
    rw [e0, e1]
    dsimp only
    rcases he with ⟨h, _⟩ | ⟨_, h, _⟩ | ⟨_, _, h, h2⟩ | ⟨_, _, h, h2⟩
    · exact absurd ha h
    · exact absurd hb h
    · rw [f0, f1, if_neg (by omega)]
      have := drop (by rw [h2]; exact ha) (by omega)
      rw [h2] at this ⊢
      exact this
    · rw [f0, f1, if_pos (by omega)]
      have := drop (by rw [h2]; exact hb) (by omega)
      rw [h2] at this ⊢
      exact this
  · obtain ⟨p, e0, f0⟩ := Option.map_eq_some_iff.1 (h0.trans rfl)
    obtain ⟨q, e1, f1⟩ := Option.map_eq_some_iff.1 (h1.trans rfl)
    unfold tk_end
    rw [e0, e1]
    dsimp only
    rcases he with ⟨h, _⟩ | ⟨_, h, _⟩ | ⟨_, _, h, h2⟩ | ⟨_, _, h, h2⟩
    · exact absurd ha h
    · exact absurd hb h
    · rw [f0, f1, if_pos (by omega)]
      have := drop (by rw [h2]; exact ha) (by omega)
      rw [h2] at this ⊢
      exact this
    · rw [f0, f1, if_neg (by omega)]
      have := drop (by rw [h2]; exact hb) (by omega)
      rw [h2] at this ⊢
      exact this
/-- the i-th of a user's tickets -/
theorem RT.sn (R : RT T P F) {u i : Int} (hu : 0 ≤ u ∧ u ≤ 5) (hi : 0 ≤ i ∧ i ≤ 1) {la lb : Bool} (hla : la = true ↔ P (2 * u)) (hlb : lb = true ↔ P (2 * u + 1)) : (tk_of T u i = none ∧ sn_of la lb (F (2 * u)).2.1 (F (2 * u + 1)).2.1 u i = -1) ∨ ∃ p, tk_of T u i = some p ∧ (0 ≤ sn_of la lb (F (2 * u)).2.1 (F (2 * u + 1)).2.1 u i ∧ sn_of la lb (F (2 * u)).2.1 (F (2 * u + 1)).2.1 u i < 12) ∧ F (sn_of la lb (F (2 * u)).2.1 (F (2 * u + 1)).2.1 u i) = p.2 := by
  have h0 := tk_map (T := T) (u := u) (i := i) hi.1
  have hii : i = 0 ∨ i = 1 := by omega
  unfold sn_of
  rcases R.us hu with ⟨ha, hb, hl⟩ | ⟨ha, hb, hl⟩ | ⟨ha, hb, hl⟩ | ⟨ha, hb, hlt, hl⟩ | ⟨ha, hb, hlt, hl⟩
  all_goals rw [hl] at h0
  · left
    rw [if_neg (fun h => ha (hla.1 h.1)), if_neg (fun h => ha (hla.1 h)), if_neg (fun h => hb (hlb.1 h))]
    exact ⟨by simpa using h0, rfl⟩
  · rw [if_neg (fun h => hb (hlb.1 h.2)), if_pos (hla.2 ha)]
    rcases hii with rfl | rfl
    · right
      obtain ⟨p, e0, f0⟩ := Option.map_eq_some_iff.1 (h0.trans rfl)
      exact ⟨p, e0, by rw [if_pos rfl]; omega, by rw [if_pos rfl]; exact f0.symm⟩
    · exact Or.inl ⟨by simpa using h0, rfl⟩
  · rw [if_neg (fun h => ha (hla.1 h.1)), if_neg (fun h => ha (hla.1 h)), if_pos (hlb.2 hb)]
    rcases hii with rfl | rfl
    · right
      obtain ⟨p, e0, f0⟩ := Option.map_eq_some_iff.1 (h0.trans rfl)
      exact ⟨p, e0, by rw [if_pos rfl]; omega, by rw [if_pos rfl]; exact f0.symm⟩
    · exact Or.inl ⟨by simpa using h0, rfl⟩
  · rw [if_pos ⟨hla.2 ha, hlb.2 hb⟩, if_pos hlt]
    right
    rcases hii with rfl | rfl
    · obtain ⟨p, e0, f0⟩ := Option.map_eq_some_iff.1 (h0.trans rfl)
      exact ⟨p, e0, by omega, by rw [Int.add_zero]; exact f0.symm⟩
    · obtain ⟨p, e0, f0⟩ := Option.map_eq_some_iff.1 (h0.trans rfl)
      exact ⟨p, e0, by omega, f0.symm⟩
  · rw [if_pos ⟨hla.2 ha, hlb.2 hb⟩, if_neg (by omega)]
    right
    rcases hii with rfl | rfl
    · obtain ⟨p, e0, f0⟩ := Option.map_eq_some_iff.1 (h0.trans rfl)
      exact ⟨p, e0, by omega, by rw [Int.sub_zero]; exact f0.symm⟩
    · obtain ⟨p, e0, f0⟩ := Option.map_eq_some_iff.1 (h0.trans rfl)
      exact ⟨p, e0, by omega, by rw [show 2 * u + 1 - 1 = 2 * u by omega]; exact f0.symm⟩
end RT
