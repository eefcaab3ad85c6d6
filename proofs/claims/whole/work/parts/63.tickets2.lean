/-! sessions and series: each command's change -/
abbrev rg (s : Int) : Prop := 0 ≤ s ∧ s < 12
abbrev lv (t : Int) (b8 b12 b13 : Int → Int) (s : Int) : Prop := b8 s = 1 ∧ t - b12 s ≤ 60 ∧ t - b13 s ≤ 20
abbrev f1 (b9 b10 b11 b12 b13 : Int → Int) (s : Int) : td := (s / 2, b9 s, b10 s, b11 s, b12 s, b13 s)
abbrev f2 (b15 b16 : Int → Int) (w : Int → Int × Int × Int) (s : Int) : td := (s / 2, b15 s, b16 s, w s)
def R1 (T : List (Nat × td)) (t dr ul : Int) (b8 b9 b10 b11 b12 b13 : Int → Int) : Prop :=
  RT T (lv t b8 b12 b13) (f1 b9 b10 b11 b12 b13) ∧ (∀ s, rg s → (b8 s = 0 ∨ b8 s = 1) ∧ (0 ≤ b9 s ∧ b9 s ≤ dr) ∧ (0 ≤ b10 s ∧ b10 s ≤ dr) ∧ (b11 s = 0 ∨ b11 s = 1) ∧ (0 ≤ b12 s ∧ b12 s ≤ t) ∧ (0 ≤ b13 s ∧ b13 s ≤ t)) ∧ ∀ s, rg s → lv t b8 b12 b13 s → s / 2 < ul
def R2 (T : List (Nat × td)) (t dr ul : Int) (b14 b15 b16 : Int → Int) : Prop := ∃ w : Int → Int × Int × Int,
  RT T (fun s => b14 s = 1) (f2 b15 b16 w) ∧ (∀ s, rg s → (b14 s = 0 ∨ b14 s = 1) ∧ (0 ≤ b15 s ∧ b15 s ≤ dr) ∧ (0 ≤ b16 s ∧ b16 s ≤ dr)) ∧ (∀ s, rg s → b14 s = 1 → s / 2 < ul ∧ (w s).2.2 ≤ t) ∧ ∀ s s', rg s → rg s' → b14 s = 1 → b14 s' = 1 → b15 s < b15 s' → (w s).2.2 ≤ (w s').2.2
section R1
variable {T : List (Nat × td)} {t dr ul : Int} {b8 b9 b10 b11 b12 b13 b14 b15 b16 : Int → Int}
theorem R1.up (R : R1 T t dr ul b8 b9 b10 b11 b12 b13) {dr' ul' : Int} (h1 : dr ≤ dr') (h2 : ul ≤ ul') : R1 T t dr' ul' b8 b9 b10 b11 b12 b13 := by
  obtain ⟨r1, r2, r3⟩ := R
  refine ⟨r1, fun s hs => ?_, fun s hs hl => by have := r3 s hs hl; omega⟩
  obtain ⟨a1, a2, a3, a4, a5, a6⟩ := r2 s hs
  exact ⟨a1, by omega, by omega, a4, a5, a6⟩
theorem R2.up (R : R2 T t dr ul b14 b15 b16) {t' dr' ul' : Int} (h0 : t ≤ t') (h1 : dr ≤ dr') (h2 : ul ≤ ul') : R2 T t' dr' ul' b14 b15 b16 := by
  obtain ⟨w, r1, r2, r3, r4⟩ := R
  refine ⟨w, r1, fun s hs => ?_, fun s hs hl => ?_, r4⟩
  · obtain ⟨a1, a2, a3⟩ := r2 s hs
    exact ⟨a1, by omega, by omega⟩
  · have := r3 s hs hl
    omega
theorem R1.tick (R : R1 T t dr ul b8 b9 b10 b11 b12 b13) {x : Int} (hx : 1 ≤ x) : R1 (T.filter (fun p => decide (¬ (60 < t + x - p.2.2.2.2.2.1 ∨ 20 < t + x - p.2.2.2.2.2.2)))) (t + x) dr ul b8 b9 b10 b11 b12 b13 := by
  obtain ⟨r1, r2, r3⟩ := R
  refine ⟨(r1.fil (fun y => decide (¬ (60 < t + x - y.2.2.2.2.1 ∨ 20 < t + x - y.2.2.2.2.2)))).cg (fun s hs => ?_) (fun _ _ _ => rfl) (fun _ _ => rfl), fun s hs => ?_, fun s hs hl => r3 s hs ⟨hl.1, by omega, by omega⟩⟩
  · rw [decide_eq_true_iff]
    unfold lv
    dsimp only [f1]
    constructor
    · intro h; omega
    · intro h; omega
  · obtain ⟨a1, a2, a3, a4, a5, a6⟩ := r2 s hs
    exact ⟨a1, a2, a3, a4, by omega, by omega⟩
/-- one session ends by its number -/
theorem R1.out (R : R1 T t dr ul b8 b9 b10 b11 b12 b13) {x : Int} {Q : Int → Bool} (hQ : ∀ s, Q s = decide (lv t b8 b12 b13 s ∧ b9 s = x)) : (T.find? (fun p => decide (p.2.2.1 = x)) = none ∧ sb_run Q 12 0 (-1) = -1 ∧ R1 (T.filter (fun p => decide (¬ (p.2.2.1 = x)))) t dr ul b8 b9 b10 b11 b12 b13) ∨ ∃ q, T.find? (fun p => decide (p.2.2.1 = x)) = some q ∧ q ∈ T ∧ rg (sb_run Q 12 0 (-1)) ∧ lv t b8 b12 b13 (sb_run Q 12 0 (-1)) ∧ f1 b9 b10 b11 b12 b13 (sb_run Q 12 0 (-1)) = q.2 ∧ R1 (T.filter (fun p => decide (¬ (p.2.2.1 = x)))) t dr ul (zU b8 (sb_run Q 12 0 (-1)) 0) b9 b10 b11 b12 b13 := by
  obtain ⟨r1, r2, r3⟩ := R
  have fl := r1.fil (fun y => decide (¬ (y.2.1 = x)))
  rcases r1.sb (x := x) (Q := Q) (fun s hs => by rw [hQ s, decide_eq_true_iff]) with ⟨h1, h2, h3⟩ | ⟨q, h1, h2, h3, h4, h5, h6⟩
  · refine Or.inl ⟨h1, h2, fl.cg (fun s hs => ⟨fun h => h.1, fun h => ⟨h, ?_⟩⟩) (fun _ _ _ => rfl) (fun _ _ => rfl), r2, r3⟩
    have := h3 s hs h
    exact decide_eq_true this
  · refine Or.inr ⟨q, h1, h2, h3, h4, h5, fl.cg (fun s hs => ?_) (fun _ _ _ => rfl) (fun _ _ => rfl), fun s hs => ?_, fun s hs hl => ?_⟩
    · rw [decide_eq_true_iff]
      unfold lv zU
      by_cases e : s = sb_run Q 12 0 (-1)
      · rw [if_pos e]
        constructor
        · intro h
          refine absurd ?_ h.2
          rw [e, h5]
          exact h6
        · intro h
          exact absurd h.1 (by decide)
      · rw [if_neg e]
        constructor
        · intro h; exact h.1
        · intro h
          refine ⟨h, fun hx => e ?_⟩
          refine r1.2.2.1 s _ hs h3 h h4 ?_
          rw [h5, h6]
          exact hx
    · obtain ⟨a1, a2, a3, a4, a5, a6⟩ := r2 s hs
      refine ⟨?_, a2, a3, a4, a5, a6⟩
      unfold zU
      split
      · exact Or.inl rfl
      · exact a1
    · refine r3 s hs ?_
      unfold lv zU at hl
      by_cases e : s = sb_run Q 12 0 (-1)
      · rw [if_pos e] at hl
        exact absurd hl.1 (by decide)
      · rw [if_neg e] at hl
        exact hl
/-- a session used -/
theorem R1.use (R : R1 T t dr ul b8 b9 b10 b11 b12 b13) {k : Nat} {q : Nat × td} {s0 : Int} (hk : T[k]? = some q) (hs : rg s0) (hl : lv t b8 b12 b13 s0) (hf : f1 b9 b10 b11 b12 b13 s0 = q.2) : R1 (T.set k (q.1, (q.2.1, q.2.2.1, q.2.2.2.1, q.2.2.2.2.1, q.2.2.2.2.2.1, t))) t dr ul b8 b9 b10 b11 b12 (zU b13 s0 t) := by
  obtain ⟨r1, r2, r3⟩ := R
  have h1 := r2 s0 hs
  refine ⟨(r1.set (y := (q.2.1, q.2.2.1, q.2.2.2.1, q.2.2.2.2.1, q.2.2.2.2.2.1, t)) hk hs hl hf rfl rfl).cg (fun s hs' => ?_) (fun s hs' _ => ?_) (fun _ _ => rfl), fun s hs' => ?_, fun s hs' hl' => ?_⟩
  · unfold lv zU
    by_cases e : s = s0
    · subst e
      rw [if_pos rfl]
      constructor
      · intro h; omega
      · intro h; exact hl
    · rw [if_neg e]
  · dsimp only [f1]
    unfold zU
    by_cases e : s = s0
    · subst e
      rw [if_pos rfl, if_pos rfl, ← hf]
    · rw [if_neg e, if_neg e]
  · obtain ⟨a1, a2, a3, a4, a5, a6⟩ := r2 s hs'
    refine ⟨a1, a2, a3, a4, a5, ?_⟩
    unfold zU
    split <;> omega
  · refine r3 s hs' ?_
    unfold lv zU at hl'
    by_cases e : s = s0
    · subst e; exact hl
    · rw [if_neg e] at hl'
      exact hl'
/-- a user's sessions end -/
theorem R1.thf (R : R1 T t dr ul b8 b9 b10 b11 b12 b13) {u a c : Int} (hu : 0 ≤ u ∧ u ≤ 5) (ha : a = 2 * u) (hc : c = 2 * u + 1) : R1 (T.filter (fun p => decide (¬ (p.2.1 = u)))) t dr ul (zU (zU b8 a 0) c 0) b9 b10 b11 b12 b13 := by
  obtain ⟨r1, r2, r3⟩ := R
  refine ⟨(r1.fil (fun y => decide (¬ (y.1 = u)))).cg (fun s hs => ?_) (fun _ _ _ => rfl) (fun _ _ => rfl), fun s hs => ?_, fun s hs hl => ?_⟩
  · rw [decide_eq_true_iff]
    unfold lv zU
    dsimp only [f1]
    by_cases e : s = c
    · rw [if_pos e]
      constructor
      · intro h; omega
      · intro h; exact absurd h.1 (by decide)
    · rw [if_neg e]
      by_cases e' : s = a
      · rw [if_pos e']
        constructor
        · intro h; omega
        · intro h; exact absurd h.1 (by decide)
      · rw [if_neg e']
        constructor
        · intro h; exact h.1
        · intro h; exact ⟨h, by omega⟩
  · obtain ⟨a1, a2, a3, a4, a5, a6⟩ := r2 s hs
    refine ⟨?_, a2, a3, a4, a5, a6⟩
    unfold zU
    (repeat' split) <;> omega
  · refine r3 s hs ?_
    unfold lv zU at hl
    by_cases e : s = c
    · rw [if_pos e] at hl
      exact absurd hl.1 (by decide)
    · rw [if_neg e] at hl
      by_cases e' : s = a
      · rw [if_pos e'] at hl
        exact absurd hl.1 (by decide)
      · rw [if_neg e'] at hl
        exact hl
theorem R2.thf (R : R2 T t dr ul b14 b15 b16) {u a c : Int} (hu : 0 ≤ u ∧ u ≤ 5) (ha : a = 2 * u) (hc : c = 2 * u + 1) : R2 (T.filter (fun p => decide (¬ (p.2.1 = u)))) t dr ul (zU (zU b14 a 0) c 0) b15 b16 := by
  obtain ⟨w, r1, r2, r3, r4⟩ := R
  have key : ∀ s, zU (zU b14 a 0) c 0 s = 1 → b14 s = 1 := by
    intro s h
    unfold zU at h
    by_cases e : s = c
    · rw [if_pos e] at h
      exact absurd h (by decide)
    · rw [if_neg e] at h
      by_cases e' : s = a
      · rw [if_pos e'] at h
        exact absurd h (by decide)
      · rw [if_neg e'] at h
        exact h
  refine ⟨w, (r1.fil (fun y => decide (¬ (y.1 = u)))).cg (fun s hs => ?_) (fun _ _ _ => rfl) (fun _ _ => rfl), fun s hs => ?_, fun s hs hl => r3 s hs (key s hl), fun s s' hs hs' hl hl' => r4 s s' hs hs' (key s hl) (key s' hl')⟩
  · rw [decide_eq_true_iff]
    dsimp only [f2]
    constructor
    · intro h
      unfold zU
      rw [if_neg (by omega), if_neg (by omega)]
      exact h.1
    · intro h
      refine ⟨key s h, fun hx => ?_⟩
      unfold zU at h
      by_cases e : s = c
      · rw [if_pos e] at h
        exact absurd h (by decide)
      · rw [if_neg e, if_pos (by omega)] at h
        exact absurd h (by decide)
  · obtain ⟨a1, a2, a3⟩ := r2 s hs
    refine ⟨?_, a2, a3⟩
    unfold zU
    (repeat' split) <;> omega
/-- a session made -/
theorem R1.mk (R : R1 T t dr ul b8 b9 b10 b11 b12 b13) {u s0 re : Int} (v : Nat) (hu : 0 ≤ u ∧ u ≤ 5) (hul : u < ul) (ht : 0 ≤ t) (hdr : 0 ≤ dr) (hre : re = 0 ∨ re = 1) (h0 : s0 = if ¬ lv t b8 b12 b13 (2 * u) then 2 * u else if ¬ lv t b8 b12 b13 (2 * u + 1) then 2 * u + 1 else if b13 (2 * u) < b13 (2 * u + 1) ∨ (b13 (2 * u) = b13 (2 * u + 1) ∧ b9 (2 * u) < b9 (2 * u + 1)) then 2 * u else 2 * u + 1) : R1 (tk_end T u ++ [(v, (u, dr + 1, dr + 2, re, t, t))]) t (dr + 2) ul (zU b8 s0 1) (zU b9 s0 (dr + 1)) (zU b10 s0 (dr + 2)) (zU b11 s0 re) (zU b12 s0 t) (zU b13 s0 t) := by
  obtain ⟨r1, r2, r3⟩ := R
  have hs0 : s0 = 2 * u ∨ s0 = 2 * u + 1 := by rw [h0]; (repeat' split) <;> omega
  have fin := r1.fin (u := u) (e := s0) hu (by
    dsimp only [f1]
    by_cases ha : lv t b8 b12 b13 (2 * u)
    · rw [if_neg (fun hh => hh ha)] at h0
      by_cases hb : lv t b8 b12 b13 (2 * u + 1)
      · rw [if_neg (fun hh => hh hb)] at h0
        by_cases hc : b13 (2 * u) < b13 (2 * u + 1) ∨ (b13 (2 * u) = b13 (2 * u + 1) ∧ b9 (2 * u) < b9 (2 * u + 1))
        · rw [if_pos hc] at h0
          exact Or.inr (Or.inr (Or.inl ⟨ha, hb, hc, h0⟩))
        · rw [if_neg hc] at h0
          exact Or.inr (Or.inr (Or.inr ⟨ha, hb, hc, h0⟩))
      · rw [if_pos hb] at h0
        exact Or.inr (Or.inl ⟨ha, hb, h0⟩)
    · rw [if_pos ha] at h0
      exact Or.inl ⟨ha, h0⟩)
  have ap := fin.app (s0 := s0) (x := (u, dr + 1, dr + 2, re, t, t)) v (by omega) (fun h => h.2 rfl) (by show u = s0 / 2; omega) (fun s hs _ => by show b9 s < dr + 1; have := (r2 s hs).2.1; omega)
  refine ⟨ap.cg (fun s hs => ?_) (fun s hs _ => ?_) (fun _ _ => rfl), fun s hs => ?_, fun s hs hl => ?_⟩
  · unfold lv zU
    by_cases e : s = s0
    · rw [if_pos e, if_pos e, if_pos e]
      exact ⟨fun _ => by omega, fun _ => Or.inl e⟩
    · rw [if_neg e, if_neg e, if_neg e]
      exact ⟨fun h => by rcases h with h | h; exact absurd h e; exact h.1, fun h => Or.inr ⟨h, e⟩⟩
  · dsimp only [f1]
    unfold zU
    by_cases e : s = s0
    · rw [if_pos e, if_pos e, if_pos e, if_pos e, if_pos e, if_pos e, show s / 2 = u by omega]
    · rw [if_neg e, if_neg e, if_neg e, if_neg e, if_neg e, if_neg e]
  · obtain ⟨a1, a2, a3, a4, a5, a6⟩ := r2 s hs
    unfold zU
    refine ⟨?_, ?_, ?_, ?_, ?_, ?_⟩ <;> (split <;> omega)
  · by_cases e : s = s0
    · omega
    · refine r3 s hs ?_
      unfold lv zU at hl
      rw [if_neg e, if_neg e, if_neg e] at hl
      exact hl
/-- a series made -/
theorem R2.mk (R : R2 T t dr ul b14 b15 b16) {u s0 : Int} (v : Nat) (hu : 0 ≤ u ∧ u ≤ 5) (hul : u < ul) (hdr : 0 ≤ dr) (h0 : s0 = if b14 (2 * u) = 0 then 2 * u else if b14 (2 * u + 1) = 0 then 2 * u + 1 else if b15 (2 * u) < b15 (2 * u + 1) then 2 * u else 2 * u + 1) : R2 (tk_end T u ++ [(v, (u, dr + 1, dr + 2, 0, t, t))]) t (dr + 2) ul (zU b14 s0 1) (zU b15 s0 (dr + 1)) (zU b16 s0 (dr + 2)) := by
  obtain ⟨w, r1, r2, r3, r4⟩ := R
  have ra := r2 (2 * u) (by omega)
  have rb := r2 (2 * u + 1) (by omega)
  have hs0 : s0 = 2 * u ∨ s0 = 2 * u + 1 := by rw [h0]; (repeat' split) <;> omega
  have fin := r1.fin (u := u) (e := s0) hu (by
    dsimp only [f2]
    by_cases ha : b14 (2 * u) = 0
    · rw [if_pos ha] at h0
      exact Or.inl ⟨by omega, h0⟩
    · rw [if_neg ha] at h0
      by_cases hb : b14 (2 * u + 1) = 0
      · rw [if_pos hb] at h0
        exact Or.inr (Or.inl ⟨by omega, by omega, h0⟩)
      · rw [if_neg hb] at h0
        have hne : b15 (2 * u) ≠ b15 (2 * u + 1) := fun he => by
          have := r1.2.2.1 (2 * u) (2 * u + 1) (by omega) (by omega) (by show b14 (2 * u) = 1; omega) (by show b14 (2 * u + 1) = 1; omega) he
          omega
        have m1 := r4 (2 * u) (2 * u + 1) (by omega) (by omega) (by omega) (by omega)
        have m2 := r4 (2 * u + 1) (2 * u) (by omega) (by omega) (by omega) (by omega)
        by_cases hc : b15 (2 * u) < b15 (2 * u + 1)
        · rw [if_pos hc] at h0
          have m1 := m1 hc
          exact Or.inr (Or.inr (Or.inl ⟨by omega, by omega, by omega, h0⟩))
        · rw [if_neg hc] at h0
          have m2 := m2 (by omega)
          exact Or.inr (Or.inr (Or.inr ⟨by omega, by omega, by omega, h0⟩)))
  have ap := fin.app (s0 := s0) (x := (u, dr + 1, dr + 2, 0, t, t)) v (by omega) (fun h => h.2 rfl) (by show u = s0 / 2; omega) (fun s hs _ => by show b15 s < dr + 1; have := (r2 s hs).2.1; omega)
  refine ⟨fun s => if s = s0 then (0, t, t) else w s, ap.cg (fun s hs => ?_) (fun s hs _ => ?_) (fun _ _ => rfl), fun s hs => ?_, fun s hs hl => ?_, fun s s' hs hs' hl hl' hlt => ?_⟩
  · unfold zU
    by_cases e : s = s0
    · rw [if_pos e]
      exact ⟨fun _ => rfl, fun _ => Or.inl e⟩
    · rw [if_neg e]
      exact ⟨fun h => by rcases h with h | h; exact absurd h e; exact h.1, fun h => Or.inr ⟨h, e⟩⟩
  · dsimp only [f2]
    unfold zU
    by_cases e : s = s0
    · rw [if_pos e, if_pos e, if_pos e, if_pos e, show s / 2 = u by omega]
    · rw [if_neg e, if_neg e, if_neg e, if_neg e]
  · obtain ⟨a1, a2, a3⟩ := r2 s hs
    unfold zU
    refine ⟨?_, ?_, ?_⟩ <;> (split <;> omega)
  · dsimp only
    by_cases e : s = s0
    · rw [if_pos e]
      exact ⟨by omega, Int.le_refl _⟩
    · rw [if_neg e]
      unfold zU at hl
      rw [if_neg e] at hl
      exact r3 s hs hl
  · dsimp only
    unfold zU at hl hl' hlt
    by_cases e : s = s0 <;> by_cases e' : s' = s0
    · rw [if_pos e, if_pos e']
      exact Int.le_refl _
    · rw [if_pos e, if_neg e'] at hlt
      have := (r2 s' hs').2.1
      omega
    · rw [if_neg e] at hl
      rw [if_neg e, if_pos e']
      exact (r3 s hs hl).2
    · rw [if_neg e] at hl
      rw [if_neg e'] at hl'
      rw [if_neg e, if_neg e'] at hlt
      rw [if_neg e, if_neg e']
      exact r4 s s' hs hs' hl hl' hlt
/-- which series has this number -/
theorem R2.by (R : R2 T t dr ul b14 b15 b16) {x : Int} {Q : Int → Bool} (hQ : ∀ s, Q s = decide (b14 s = 1 ∧ b15 s = x)) : (T.find? (fun p => decide (p.2.2.1 = x)) = none ∧ sb_run Q 12 0 (-1) = -1) ∨ ∃ q, T.find? (fun p => decide (p.2.2.1 = x)) = some q ∧ q ∈ T ∧ rg (sb_run Q 12 0 (-1)) ∧ b14 (sb_run Q 12 0 (-1)) = 1 ∧ q.2.1 = sb_run Q 12 0 (-1) / 2 ∧ q.2.2.1 = b15 (sb_run Q 12 0 (-1)) ∧ q.2.2.2.1 = b16 (sb_run Q 12 0 (-1)) := by
  obtain ⟨w, r1, r2, r3, r4⟩ := R
  rcases r1.sb (x := x) (Q := Q) (fun s hs => by rw [hQ s, decide_eq_true_iff]) with ⟨h1, h2, h3⟩ | ⟨q, h1, h2, h3, h4, h5, h6⟩
  · exact Or.inl ⟨h1, h2⟩
  · refine Or.inr ⟨q, h1, h2, h3, h4, ?_, ?_, ?_⟩ <;> rw [← h5]
/-- a series' next token -/
theorem R2.tok (R : R2 T t dr ul b14 b15 b16) {k : Nat} {q : Nat × td} {s0 x : Int} (hk : T[k]? = some q) (hs : rg s0) (hl : b14 s0 = 1) (h1 : q.2.1 = s0 / 2) (h2 : q.2.2.1 = b15 s0) (hx : 0 ≤ x ∧ x ≤ dr) : R2 (T.set k (q.1, (q.2.1, q.2.2.1, x, q.2.2.2.2.1, q.2.2.2.2.2.1, q.2.2.2.2.2.2))) t dr ul b14 b15 (zU b16 s0 x) := by
  obtain ⟨w, r1, r2, r3, r4⟩ := R
  obtain ⟨s1, a1, a2, a3⟩ := r1.at (List.mem_iff_getElem?.2 ⟨k, hk⟩)
  have e1 : s1 = s0 := r1.2.2.1 s1 s0 a1 hs a2 hl (by rw [a3, h2])
  subst e1
  have hw : w s1 = (q.2.2.2.2.1, q.2.2.2.2.2.1, q.2.2.2.2.2.2) := by rw [← a3]
  refine ⟨w, (r1.set (y := (q.2.1, q.2.2.1, x, q.2.2.2.2.1, q.2.2.2.2.2.1, q.2.2.2.2.2.2)) hk hs hl a3 rfl rfl).cg (fun s hs' => Iff.rfl) (fun s hs' _ => ?_) (fun _ _ => rfl), fun s hs' => ?_, r3, r4⟩
  · dsimp only [f2]
    unfold zU
    by_cases e : s = s1
    · subst e
      rw [if_pos rfl, if_pos rfl, hw, h1, h2]
    · rw [if_neg e, if_neg e]
  · obtain ⟨a1, a2, a3⟩ := r2 s hs'
    unfold zU
    refine ⟨a1, a2, ?_⟩
    split <;> omega
end R1
