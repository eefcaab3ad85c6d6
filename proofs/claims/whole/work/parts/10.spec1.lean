/-! Pure: texts, the pieces of a path, its plain form -/
/-- the first place from i on, k places at most, with the character c -/
def sp_find (g : Int → Int) (c : Int) : Nat → Int → Int
  | 0, i => i
  | k + 1, i => if g i = c then i else sp_find g c k (i + 1)
theorem sp_find_ge (g : Int → Int) (c : Int) : ∀ (k : Nat) (i : Int), i ≤ sp_find g c k i ∧ sp_find g c k i ≤ i + k
  | 0, i => by simp [sp_find]
  | k + 1, i => by
    unfold sp_find
    have := sp_find_ge g c k (i + 1)
    split <;> omega
theorem sp_find_not (g : Int → Int) (c : Int) : ∀ (k : Nat) (i j : Int), i ≤ j → j < sp_find g c k i → g j ≠ c
  | 0, i, j, h1, h2 => by simp only [sp_find] at h2; omega
  | k + 1, i, j, h1, h2 => by
    unfold sp_find at h2
    split at h2
    · omega
    · rename_i hne
      by_cases hj : j = i
      · rw [hj]; exact hne
      · exact sp_find_not g c k (i + 1) j (by omega) h2
theorem sp_find_at (g : Int → Int) (c : Int) : ∀ (k : Nat) (i : Int), sp_find g c k i < i + k → g (sp_find g c k i) = c
  | 0, i, h => by simp only [sp_find] at h; omega
  | k + 1, i, h => by
    unfold sp_find at h ⊢
    split
    · assumption
    · rename_i hne
      rw [if_neg hne] at h
      exact sp_find_at g c k (i + 1) (by omega)
theorem sp_find_uniq (g : Int → Int) (c : Int) (k : Nat) (i j : Int) (h1 : i ≤ j) (h2 : j ≤ i + k) (h3 : ∀ x, i ≤ x → x < j → g x ≠ c) (h4 : j < i + k → g j = c) : sp_find g c k i = j := by
  have a1 := sp_find_ge g c k i
  rcases Int.lt_trichotomy (sp_find g c k i) j with h | h | h
  · exact absurd (sp_find_at g c k i (by omega)) (h3 _ (by omega) h)
  · exact h
  · exact absurd (h4 (by omega)) (sp_find_not g c k i j h1 h)
theorem sp_find_congr (g g' : Int → Int) (c : Int) : ∀ (k : Nat) (i : Int), (∀ x, i ≤ x → x < i + k → g x = g' x) → sp_find g c k i = sp_find g' c k i
  | 0, i, _ => rfl
  | k + 1, i, h => by
    unfold sp_find
    rw [h i (by omega) (by omega), sp_find_congr g g' c k (i + 1) (fun x h1 h2 => h x (by omega) (by omega))]
/-- a digit's value, or -1 -/
def sp_dig (c : Int) : Int := if 48 ≤ c ∧ c ≤ 57 then c - 48 else if 97 ≤ c ∧ c ≤ 102 then c - 87 else if 65 ≤ c ∧ c ≤ 70 then c - 55 else -1
/-- the code of two digits, or -1 -/
def sp_code (a b : Int) : Int :=
  if sp_dig a = -1 ∨ sp_dig b = -1 then -1
  else if (33 ≤ 16 * sp_dig a + sp_dig b ∧ 16 * sp_dig a + sp_dig b ≤ 126) ∧ 16 * sp_dig a + sp_dig b ≠ 47 ∧ 16 * sp_dig a + sp_dig b ≠ 92 ∧ 16 * sp_dig a + sp_dig b ≠ 37 ∧ 16 * sp_dig a + sp_dig b ≠ 59 then 16 * sp_dig a + sp_dig b else -1
/-- what the characters from i on, before q and before a semicolon, mean; none if they are bad -/
def sp_dec (f : Int → Int) (q : Int) : Nat → Int → Option (List Int)
  | 0, _ => some []
  | k + 1, i => if q ≤ i then some [] else if f i = 59 then some [] else
    if f i = 37 then (if i + 2 < q then (if sp_code (f (i + 1)) (f (i + 2)) = -1 then none else (sp_dec f q k (i + 3)).map (fun l => sp_code (f (i + 1)) (f (i + 2)) :: l)) else none)
    else (sp_dec f q k (i + 1)).map (fun l => f i :: l)
/-- a segment comes behind those that are kept; none if that makes the path bad -/
def sp_plc (last : Bool) (w : List Int) (acc : List (List Int)) : Option (List (List Int)) :=
  if w = [] then (if last then some acc else none) else if w = [46] then some acc else if w = [46, 46] then (if acc = [] then none else some acc.dropLast) else some (acc ++ [w])
/-- the next end of a piece -/
def sp_nx (f : Int → Int) (len i : Int) : Int := sp_find f 47 (len - i).toNat i
def sp_rd (f : Int → Int) (len : Int) : Nat → Int → List (List Int) → Option (List (List Int))
  | 0, _, acc => some acc
  | k + 1, p, acc => match sp_dec f (sp_nx f len p) 41 p with
    | none => none
    | some w => match sp_plc (decide (sp_nx f len p = len)) w acc with
      | none => none
      | some acc' => if sp_nx f len p = len then some acc' else sp_rd f len k (sp_nx f len p + 1) acc'
/-- the plain form of the path in the buffer -/
def sp_read (f : Int → Int) (len : Int) : Option (List (List Int)) :=
  if len = 0 ∨ f 0 ≠ 47 then none else if sp_find f 92 len.toNat 0 < len then none else sp_rd f len 41 1 []
/-! the same in two goes: all pieces first, then what falls out -/
def sp_ds (f : Int → Int) (len : Int) : Nat → Int → Option (List (List Int))
  | 0, _ => some []
  | k + 1, p => match sp_dec f (sp_nx f len p) 41 p with
    | none => none
    | some w => if sp_nx f len p = len then some [w] else (sp_ds f len k (sp_nx f len p + 1)).map (fun D => w :: D)
def sp_fold : List (List Int) → List (List Int) → Option (List (List Int))
  | [], acc => some acc
  | [w], acc => sp_plc true w acc
  | w :: w2 :: r, acc => (sp_plc false w acc).bind (sp_fold (w2 :: r))
def sp_dot (w : List Int) (acc : List (List Int)) : Option (List (List Int)) := if w = [46] then some acc else if w = [46, 46] then (if acc = [] then none else some acc.dropLast) else some (acc ++ [w])
def sp_dots : List (List Int) → List (List Int) → Option (List (List Int))
  | [], acc => some acc
  | w :: r, acc => (sp_dot w acc).bind (sp_dots r)
def sp_trim : List (List Int) → List (List Int)
  | [] => []
  | [w] => if w = [] then [] else [w]
  | w :: w2 :: r => w :: sp_trim (w2 :: r)
theorem sp_plc_dot {last : Bool} {w : List Int} {acc : List (List Int)} (hw : ¬ w = []) : sp_plc last w acc = sp_dot w acc := by
  unfold sp_plc sp_dot
  rw [if_neg hw]
theorem sp_fold_eq : ∀ (D acc : List (List Int)), sp_fold D acc = if (sp_trim D).any (fun w => decide (w = [])) = true then none else sp_dots (sp_trim D) acc
  | [], acc => by simp [sp_fold, sp_trim, sp_dots]
  | [w], acc => by
    by_cases hw : w = []
    · subst hw
      simp [sp_fold, sp_trim, sp_dots, sp_plc]
    · simp only [sp_fold, sp_trim, if_neg hw, sp_plc_dot hw, sp_dots]
      simp [hw]
  | w :: w2 :: r, acc => by
    by_cases hw : w = []
    · subst hw
      simp [sp_fold, sp_trim, sp_plc]
    · simp only [sp_fold, sp_trim, sp_plc_dot hw, sp_dots]
      simp only [List.any_cons, hw, decide_false, Bool.false_or]
      cases sp_dot w acc with
      | none => simp
      | some a =>
        simp only [Option.bind_some]
        exact sp_fold_eq (w2 :: r) a
theorem sp_ds_ne (f : Int → Int) (len : Int) (k : Nat) (p : Int) (D : List (List Int)) (h : sp_ds f len (k + 1) p = some D) : D ≠ [] := by
  unfold sp_ds at h
  split at h
  · cases h
  · split at h
    · cases h; simp
    · rw [Option.map_eq_some_iff] at h
      obtain ⟨D', -, rfl⟩ := h
      simp
theorem sp_rd_ds (f : Int → Int) (len : Int) : ∀ (k : Nat) (p : Int) (acc : List (List Int)), p ≤ len → len < p + k → sp_rd f len k p acc = (sp_ds f len k p).bind (fun D => sp_fold D acc)
  | 0, p, acc, _, _ => by simp [sp_rd, sp_ds, sp_fold]
  | k + 1, p, acc, hp, hk => by
    have hge := sp_find_ge f 47 (len - p).toNat p
    unfold sp_rd sp_ds
    cases h1 : sp_dec f (sp_nx f len p) 41 p with
    | none => rfl
    | some w =>
      by_cases hl : sp_nx f len p = len
      · simp only [hl, decide_true, if_true, Option.bind_some, sp_fold]
        cases sp_plc true w acc <;> rfl
      · simp only [if_neg hl, decide_eq_false hl]
        have hk0 : k ≠ 0 := by
          intro h0
          subst h0
          apply hl
          unfold sp_nx
          omega
        obtain ⟨k', rfl⟩ : ∃ k', k = k' + 1 := ⟨k - 1, by omega⟩
        have ih := sp_rd_ds f len (k' + 1) (sp_nx f len p + 1)
        have hlt : sp_nx f len p < len := by unfold sp_nx at hl ⊢; omega
        have hgp : p ≤ sp_nx f len p := hge.1
        cases h2 : sp_ds f len (k' + 1) (sp_nx f len p + 1) with
        | none =>
          cases h3 : sp_plc false w acc with
          | none => rfl
          | some a =>
            exact (ih a (by omega) (by omega)).trans (by rw [h2]; rfl)
        | some D =>
          have hD := sp_ds_ne _ _ _ _ _ h2
          obtain ⟨w2, r, rfl⟩ : ∃ w2 r, D = w2 :: r := by
            cases D with
            | nil => exact absurd rfl hD
            | cons a b => exact ⟨a, b, rfl⟩
          simp only [Option.map_some, Option.bind_some, sp_fold]
          cases h3 : sp_plc false w acc with
          | none => rfl
          | some a =>
            exact (ih a (by omega) (by omega)).trans (by rw [h2]; rfl)
