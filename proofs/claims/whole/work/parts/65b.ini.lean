/-! the start; ranges after asking -/
theorem RX.ini {g : Int → Int} (hg : ∀ j, 0 ≤ j → j < 8 → g j = zb_shl 1 j) : RX (fun i => if i = 52 then -1 else 0) (fun _ _ => 0) (fun i => if i = 0 then -1 else 0) (va_up (fun _ _ => 0) 17 g) [] [] [] [] [] := by
  have h0 : ∀ {k : Nat} {α : Type} {p : α}, ([] : List α)[k]? = some p → False := fun h => by simp at h
  refine ⟨⟨rfl, rfl, rfl, rfl, rfl, rfl, rfl, rfl, rfl, rfl⟩, ⟨rfl, rfl, rfl⟩, ⟨rfl, ⟨by show (-1 : Int) ≤ -1; omega, by show (-1 : Int) < 0; omega⟩, Or.inl rfl, fun _ => rfl⟩, ⟨rfl, rfl, rfl, rfl⟩, ⟨fun i _ _ => (by show (0 : Int) ≤ 0 ∧ (0 : Int) ≤ 2; decide), fun i _ _ => (by show (0 : Int) ≤ 0 ∧ (0 : Int) < 65536; decide)⟩, RR.ini (a := g) hg, ⟨fun k p hk => (h0 hk).elim, by simp⟩, ⟨fun k p hk => (h0 hk).elim, fun _ _ _ => ⟨rfl, rfl⟩, by simp, fun u _ _ => ?_⟩, ⟨fun k p hk => (h0 hk).elim, fun _ _ _ => ⟨rfl, rfl⟩, by simp, ⟨fun t _ _ => ?_, fun i _ _ => ?_⟩, Int.le_refl _⟩, ⟨RT.nil (fun _ _ => rfl) (fun s _ h => absurd h.1 (by show ¬ (0 : Int) = 1; decide)), fun s _ => ?_, fun s _ h => absurd h.1 (by show ¬ (0 : Int) = 1; decide)⟩, ⟨fun _ => (0, 0, 0), RT.nil (fun _ _ => rfl) (fun s _ h => absurd h (by show ¬ (0 : Int) = 1; decide)), fun s _ => ?_, fun s _ h => absurd h (by show ¬ (0 : Int) = 1; decide), fun s s' _ _ h => absurd h (by show ¬ (0 : Int) = 1; decide)⟩⟩
  · exact ⟨⟨by show (0 : Int) ≤ 0; omega, by show (0 : Int) ≤ 255; omega⟩, Or.inl rfl, ⟨by show (-2147483648 : Int) ≤ 0; omega, by show (0 : Int) < 2147483648; omega⟩, ⟨by show (-2147483648 : Int) ≤ 0; omega, by show (0 : Int) < 2147483648; omega⟩, ⟨by show (0 : Int) ≤ 0; omega, by show (0 : Int) < 3; omega⟩, ⟨by show (0 : Int) ≤ 0; omega, by show (0 : Int) ≤ 1000000; omega⟩⟩
  · exact ⟨⟨by show (-1 : Int) ≤ 0; omega, by show (0 : Int) ≤ 5; omega⟩, ⟨by show (-1 : Int) ≤ 0; omega, by show (0 : Int) ≤ 5; omega⟩, ⟨by show (-1 : Int) ≤ 0; omega, by show (0 : Int) < 16; omega⟩⟩
  · exact ⟨Or.inl rfl, ⟨by show (-1 : Int) ≤ 0; omega, by show (0 : Int) < 16; omega⟩⟩
  · exact ⟨Or.inl rfl, ⟨Int.le_refl _, Int.le_refl _⟩, ⟨Int.le_refl _, Int.le_refl _⟩, Or.inl rfl, ⟨Int.le_refl _, Int.le_refl _⟩, ⟨Int.le_refl _, Int.le_refl _⟩⟩
  · exact ⟨Or.inl rfl, ⟨Int.le_refl _, Int.le_refl _⟩, ⟨Int.le_refl _, Int.le_refl _⟩⟩
theorem ms_rg {V : Nat → Int} {B : Nat → Int → Int} {u : Int} : ms_of V B u = 2 * u ∨ ms_of V B u = 2 * u + 1 := by
  unfold ms_of
  (repeat' split) <;> first | exact Or.inl rfl | exact Or.inr rfl
theorem ask_F {V V1 : Nat → Int} {B B1 : Nat → Int → Int} {sid ser tok s : Int} (R : md_R V B) (h : ask_M V B sid ser tok s V1 B1) : (-1 ≤ s ∧ s < 12) ∧ (0 ≤ s → 0 ≤ B1 10 s ∧ B1 10 s ≤ 1000000) ∧ (-1 ≤ V1 54 ∧ V1 54 ≤ 5) ∧ (V1 55 = 0 ∨ V1 55 = 1) ∧ (V1 24 = V 24 ∧ V1 35 = V 35 ∧ V1 40 = V 40 ∧ V1 51 = V 51 ∧ V1 52 = V 52 ∧ V1 53 = V 53) ∧ ax [8, 9, 10, 11, 12, 13, 14, 16] B B1 := by
  rcases h with ⟨h1, h2, h3, h4⟩ | ⟨h1, h2, h3, h4, h5⟩ | ⟨h1, h2, h3, h4, h5, h6⟩ | ⟨h1, h2, h3, h4, h5, h6⟩
  · subst h3 h4
    have r := R.2 s (by omega) (by omega)
    refine ⟨by omega, fun _ => r.2.2.1, ?_, ?_, ⟨rfl, rfl, rfl, rfl, rfl, rfl⟩, ax.rf.up (by decide)⟩
    · show -1 ≤ sbm V B sid / 2 ∧ sbm V B sid / 2 ≤ 5
      omega
    · rw [h2] at r
      exact r.2.2.2.1
  · subst h4 h5
    exact ⟨by omega, fun _ => by omega, ⟨by show (-1 : Int) ≤ -1; omega, by show (-1 : Int) ≤ 5; omega⟩, Or.inl rfl, ⟨rfl, rfl, rfl, rfl, rfl, rfl⟩, ax.rf⟩
  · subst h5 h6
    refine ⟨by omega, fun _ => by omega, ?_, Or.inr rfl, ⟨rfl, rfl, rfl, rfl, rfl, rfl⟩, ?_⟩
    · show -1 ≤ srm B ser / 2 ∧ srm B ser / 2 ≤ 5
      omega
    · unfold mk_B
      exact ((((((ax.rf.up (by decide)).up (by decide)).up (by decide)).up (by decide)).up (by decide)).up (by decide)).up (by decide)
  · subst h5 h6
    exact ⟨by omega, fun _ => by omega, ⟨by show (-1 : Int) ≤ -1; omega, by show (-1 : Int) ≤ 5; omega⟩, Or.inl rfl, ⟨rfl, rfl, rfl, rfl, rfl, rfl⟩, (ax.rf.up (by decide)).up (by decide)⟩
theorem md_R.cg {V V' : Nat → Int} {B B' : Nat → Int → Int} (R : md_R V B) (hV : V' 1 = V 1) (h : ax [17, 18, 19, 20, 21, 22, 23, 24, 25, 26, 27, 28, 29] B B') : md_R V' B' := by
  unfold md_R at R ⊢
  rw [hV, h 8 (by decide), h 9 (by decide), h 10 (by decide), h 11 (by decide), h 12 (by decide), h 13 (by decide), h 14 (by decide), h 15 (by decide), h 16 (by decide)]
  exact R
theorem ax.wk {ks ks' : List Nat} {A A' : Nat → Int → Int} (h : ax ks A A') (hs : ∀ j ∈ ks, j ∈ ks') : ax ks' A A' := fun j hj => h j (fun hh => hj (hs j hh))
theorem zb_m01 {m r : Int} (hm : 1 ≤ m ∧ m ≤ 15) (hr : 0 ≤ r ∧ r < 4) : zb_and (zb_shr m r) 1 = 0 ∨ zb_and (zb_shr m r) 1 = 1 := by
  have key : ∀ m : Nat, m < 16 → ∀ r : Nat, r < 4 → zb_and (zb_shr (m : Int) (r : Int)) 1 = 0 ∨ zb_and (zb_shr (m : Int) (r : Int)) 1 = 1 := by decide +kernel
  have := key m.toNat (by omega) r.toNat (by omega)
  rw [Int.toNat_of_nonneg (by omega), Int.toNat_of_nonneg hr.1] at this
  exact this
