/-! Pure: what decode and place do to the characters, and the pieces that the tables stand for -/
def zS (g : Int → Int) : Nat → Int → List Int
  | 0, _ => []
  | k + 1, i => g i :: zS g k (i + 1)
def zW (g : Int → Int) (i : Int) : List Int → Int → Int
  | [] => g
  | c :: l => zW (zU g i c) (i + 1) l
theorem zS_len (g : Int → Int) : ∀ (k : Nat) (i : Int), (zS g k i).length = k
  | 0, _ => rfl
  | k + 1, i => by simp [zS, zS_len g k (i + 1)]
theorem zS_congr {g g' : Int → Int} : ∀ (k : Nat) (i : Int), (∀ x, i ≤ x → x < i + k → g x = g' x) → zS g k i = zS g' k i
  | 0, _, _ => rfl
  | k + 1, i, h => by
    unfold zS
    rw [h i (by omega) (by omega), zS_congr k (i + 1) (fun x h1 h2 => h x (by omega) (by omega))]
theorem zW_lo : ∀ (l : List Int) (g : Int → Int) (i j : Int), j < i → zW g i l j = g j
  | [], _, _, _, _ => rfl
  | c :: l, g, i, j, h => by
    unfold zW
    rw [zW_lo l _ (i + 1) j (by omega), zU_ne (by omega)]
theorem zW_zS : ∀ (l : List Int) (g : Int → Int) (i : Int), zS (zW g i l) l.length i = l
  | [], _, _ => rfl
  | c :: l, g, i => by
    show zW (zU g i c) (i + 1) l i :: zS (zW (zU g i c) (i + 1) l) l.length (i + 1) = c :: l
    rw [zW_zS l _ (i + 1), zW_lo l _ (i + 1) i (by omega), zU_eq]
/-- characters are characters -/
def ch_ok (g : Int → Int) : Prop := ∀ i, 0 ≤ i → i < 40 → 0 ≤ g i ∧ g i < 65536
theorem ch_ok.up {g : Int → Int} (h : ch_ok g) {i c : Int} (hc : 0 ≤ c ∧ c < 65536) : ch_ok (zU g i c) := by
  intro j h1 h2
  unfold zU
  split
  · exact hc
  · exact h j h1 h2
/-- decode's own way: up to a place before which no semicolon stands -/
def sp_dcl (g : Int → Int) (to : Int) : Nat → Int → Option (List Int)
  | 0, _ => some []
  | k + 1, i => if to ≤ i then some [] else
    if g i = 37 then (if i + 2 < to then (if sp_code (g (i + 1)) (g (i + 2)) = -1 then none else (sp_dcl g to k (i + 3)).map (fun l => sp_code (g (i + 1)) (g (i + 2)) :: l)) else none)
    else (sp_dcl g to k (i + 1)).map (fun l => g i :: l)
theorem sp_code59a (b : Int) : sp_code 59 b = -1 := by
  unfold sp_code
  rw [if_pos (Or.inl (by decide))]
theorem sp_code59b (a : Int) : sp_code a 59 = -1 := by
  unfold sp_code
  rw [if_pos (Or.inr (by decide))]
theorem sp_dcl_dec (g f : Int → Int) (to q : Int) (hq : to ≤ q) (hgf : ∀ x, 0 ≤ x → x < to → g x = f x) (h59 : to < q → f to = 59) : ∀ (k k' : Nat) (i : Int), 0 ≤ i → to ≤ i + k → q ≤ i + k' → i ≤ to → (∀ x, i ≤ x → x < to → g x ≠ 59) → sp_dcl g to k i = sp_dec f q k' i := by
  have base : ∀ (k' : Nat), q ≤ to + k' → sp_dec f q k' to = some [] := by
    intro k' hk'
    cases k' with
    | zero => rfl
    | succ k' =>
      unfold sp_dec
      by_cases h1 : q ≤ to
      · rw [if_pos h1]
      · rw [if_neg h1, if_pos (h59 (by omega))]
  intro k
  induction k with
  | zero =>
    intro k' i hi0 hk hk' hit hno
    have : i = to := by omega
    subst this
    rw [base k' hk']
    rfl
  | succ k ih =>
    intro k' i hi0 hk hk' hit hno
    by_cases hto : to ≤ i
    · have : i = to := by omega
      subst this
      rw [base k' hk']
      unfold sp_dcl
      rw [if_pos (Int.le_refl _)]
    · obtain ⟨k'', rfl⟩ : ∃ k'', k' = k'' + 1 := ⟨k' - 1, by omega⟩
      unfold sp_dcl sp_dec
      have e0 := hgf i hi0 (by omega)
      rw [if_neg hto, if_neg (by omega : ¬ q ≤ i), ← e0, if_neg (hno i (by omega) (by omega))]
      by_cases h37 : g i = 37
      · rw [if_pos h37, if_pos h37]
        by_cases h2 : i + 2 < to
        · rw [if_pos h2, if_pos (by omega : i + 2 < q), hgf (i + 1) (by omega) (by omega), hgf (i + 2) (by omega) (by omega), ih k'' (i + 3) (by omega) (by omega) (by omega) (by omega) (fun x h3 h4 => hno x (by omega) h4)]
        · rw [if_neg h2]
          by_cases h3 : i + 2 < q
          · rw [if_pos h3]
            have hf := h59 (by omega)
            by_cases h4 : to = i + 1
            · rw [← h4, hf, sp_code59a, if_pos rfl]
            · have h5 : to = i + 2 := by omega
              rw [← h5, hf, sp_code59b, if_pos rfl]
          · rw [if_neg h3]
      · rw [if_neg h37, if_neg h37, ih k'' (i + 1) (by omega) (by omega) (by omega) (by omega) (fun x h3 h4 => hno x (by omega) h4)]
theorem sp_dcl_len (g : Int → Int) (to : Int) : ∀ (k : Nat) (i : Int) (l : List Int), sp_dcl g to k i = some l → i ≤ to → (l.length : Int) ≤ to - i
  | 0, i, l, h, h2 => by cases h; simp; omega
  | k + 1, i, l, h, h2 => by
    unfold sp_dcl at h
    split at h
    · cases h; simp; omega
    · split at h
      · split at h
        · split at h
          · cases h
          · rw [Option.map_eq_some_iff] at h
            obtain ⟨l', h3, rfl⟩ := h
            have := sp_dcl_len g to k (i + 3) l' h3 (by omega)
            simp; omega
        · cases h
      · rw [Option.map_eq_some_iff] at h
        obtain ⟨l', h3, rfl⟩ := h
        have := sp_dcl_len g to k (i + 1) l' h3 (by omega)
        simp; omega
theorem sp_dcl_pos (g : Int → Int) (to : Int) (k : Nat) (i : Int) (l : List Int) (h : sp_dcl g to k i = some l) (hl : l ≠ []) : i < to := by
  cases k with
  | zero => cases h; exact absurd rfl hl
  | succ k =>
    unfold sp_dcl at h
    split at h
    · cases h; exact absurd rfl hl
    · omega
theorem sp_code_rg (a b : Int) : sp_code a b = -1 ∨ (33 ≤ sp_code a b ∧ sp_code a b ≤ 126) := by
  unfold sp_code
  split
  · exact Or.inl rfl
  · split
    · rename_i h; exact Or.inr h.1
    · exact Or.inl rfl
/-- the tables stand for these pieces, all before bd -/
def pr_R (ch st en : Int → Int) (bd : Int) (acc : List (List Int)) : Prop := ∀ (k : Nat) (w : List Int), acc[k]? = some w → 0 ≤ st k ∧ en k = st k + w.length ∧ en k ≤ bd ∧ zS ch w.length (st k) = w
theorem pr_R.nil {ch st en : Int → Int} {bd : Int} : pr_R ch st en bd [] := fun k w h => by simp at h
theorem pr_R.write {ch st en : Int → Int} {bd : Int} {acc : List (List Int)} (h : pr_R ch st en bd acc) {wr : Int} (hw : bd ≤ wr) (l : List Int) : pr_R (zW ch wr l) st en bd acc := by
  intro k w hk
  obtain ⟨h1, h2, h3, h4⟩ := h k w hk
  refine ⟨h1, h2, h3, ?_⟩
  rw [← h4, zS_len]
  exact zS_congr _ _ (fun x hx1 hx2 => zW_lo _ _ _ _ (by omega))
theorem pr_R.mono {ch st en : Int → Int} {bd bd' : Int} {acc : List (List Int)} (h : pr_R ch st en bd acc) (hb : bd ≤ bd') : pr_R ch st en bd' acc := fun k w hk => by
  obtain ⟨h1, h2, h3, h4⟩ := h k w hk
  exact ⟨h1, h2, by omega, h4⟩
theorem pr_R.drop {ch st en : Int → Int} {bd : Int} {acc : List (List Int)} (h : pr_R ch st en bd acc) : pr_R ch st en bd acc.dropLast := fun k w hk => by
  refine h k w ?_
  rw [List.getElem?_dropLast] at hk
  split at hk
  · exact hk
  · cases hk
theorem pr_R.keep {ch st en : Int → Int} {bg wr : Int} {acc : List (List Int)} (h : pr_R ch st en bg acc) {w : List Int} (h0 : 0 ≤ bg) (hw : wr = bg + w.length) (hS : zS ch w.length bg = w) : pr_R ch (zU st acc.length bg) (zU en acc.length wr) wr (acc ++ [w]) := by
  intro k v hk
  by_cases hlt : k < acc.length
  · rw [List.getElem?_append_left hlt] at hk
    obtain ⟨h1, h2, h3, h4⟩ := h k v hk
    rw [zU_ne (by omega), zU_ne (by omega)]
    exact ⟨h1, h2, by omega, h4⟩
  · rw [List.getElem?_append_right (by omega)] at hk
    have hz : k - acc.length < 1 := (List.getElem?_eq_some_iff.mp hk).1
    have hk0 : k = acc.length := by omega
    subst hk0
    rw [Nat.sub_self] at hk
    cases hk
    rw [zU_eq, zU_eq]
    exact ⟨h0, hw, by omega, hS⟩
theorem pc_dots_zS (g : Int → Int) : ∀ (k : Nat) (i : Int), pc_dots g k i = true ↔ zS g k i = List.replicate k 46
  | 0, i => by simp [pc_dots, zS]
  | k + 1, i => by
    simp only [pc_dots, zS, List.replicate_succ, Bool.and_eq_true, decide_eq_true_eq, List.cons.injEq, pc_dots_zS g k (i + 1)]
/-- what place makes of the written piece -/
theorem sp_plc_cases {ch : Int → Int} {bg : Int} {w : List Int} {last : Bool} {acc : List (List Int)} (hS : zS ch w.length bg = w) :
    sp_plc last w acc = if w.length = 0 then (if last then some acc else none) else if w.length = 1 ∧ pc_dots ch 1 bg = true then some acc else if w.length = 2 ∧ pc_dots ch 2 bg = true then (if acc = [] then none else some acc.dropLast) else some (acc ++ [w]) := by
  have e1 : (w.length = 1 ∧ pc_dots ch 1 bg = true) ↔ w = [46] := by
    rw [pc_dots_zS]
    constructor
    · rintro ⟨h1, h2⟩
      rw [h1] at hS
      rw [← hS, h2]; rfl
    · rintro rfl
      exact ⟨rfl, hS⟩
  have e2 : (w.length = 2 ∧ pc_dots ch 2 bg = true) ↔ w = [46, 46] := by
    rw [pc_dots_zS]
    constructor
    · rintro ⟨h1, h2⟩
      rw [h1] at hS
      rw [← hS, h2]; rfl
    · rintro rfl
      exact ⟨rfl, hS⟩
  unfold sp_plc
  by_cases h0 : w = []
  · subst h0; simp
  · have h0' : ¬ w.length = 0 := fun h => h0 (List.length_eq_zero_iff.mp h)
    rw [if_neg h0, if_neg h0']
    by_cases h1 : w = [46]
    · rw [if_pos h1, if_pos (e1.mpr h1)]
    · rw [if_neg h1, if_neg (fun h => h1 (e1.mp h))]
      by_cases h2 : w = [46, 46]
      · rw [if_pos h2, if_pos (e2.mpr h2)]
      · rw [if_neg h2, if_neg (fun h => h2 (e2.mp h))]
