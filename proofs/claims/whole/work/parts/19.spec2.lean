/-! Pure: patterns laid along paths -/
/-- some m ≤ n with R m -/
def sp_any (R : Nat → Bool) : Nat → Bool
  | 0 => R 0
  | n + 1 => sp_any R n || R (n + 1)
/-- whether the first i characters of a piece (pl, given by pc) can stand for just the first n of a segment (sc) -/
def sp_cv (pc sc : Nat → Int) : Nat → Nat → Bool
  | 0, n => n == 0
  | i + 1, n => if pc i = 42 then sp_any (sp_cv pc sc i) n else match n with
    | 0 => false
    | n + 1 => sp_cv pc sc i n && (decide (pc i = 63) || decide (pc i = sc n))
theorem sp_any_congr {R S : Nat → Bool} : ∀ {n : Nat}, (∀ m, m ≤ n → R m = S m) → sp_any R n = sp_any S n
  | 0, h => h 0 (Nat.le_refl _)
  | n + 1, h => by
    unfold sp_any
    rw [sp_any_congr (n := n) (fun m hm => h m (by omega)), h (n + 1) (Nat.le_refl _)]
theorem sp_cv_congr {pc pc' sc sc' : Nat → Int} : ∀ {i n : Nat}, (∀ j, j < i → pc j = pc' j) → (∀ j, j < n → sc j = sc' j) → sp_cv pc sc i n = sp_cv pc' sc' i n
  | 0, n, _, _ => rfl
  | i + 1, n, hp, hs => by
    unfold sp_cv
    rw [hp i (by omega)]
    split
    · exact sp_any_congr (fun m hm => sp_cv_congr (fun j hj => hp j (by omega)) (fun j hj => hs j (by omega)))
    · cases n with
      | zero => rfl
      | succ n =>
        show (_ && _) = (_ && _)
        rw [sp_cv_congr (fun j hj => hp j (by omega)) (fun j hj => hs j (by omega)), hs n (by omega)]
/-- a piece covers a segment -/
def sp_cov (w s : List Int) : Bool := sp_cv (fun j => w.getD j 0) (fun j => s.getD j 0) w.length s.length
/-- whether the first p pieces can lie on just the first n segments -/
def sp_ly (P S : List (List Int)) : Nat → Nat → Bool
  | 0, n => n == 0
  | p + 1, n => if P.getD p [] = [42, 42] then sp_any (sp_ly P S p) n else match n with
    | 0 => false
    | n + 1 => sp_ly P S p n && sp_cov (P.getD p []) (S.getD n [])
def sp_fits (P S : List (List Int)) : Bool := sp_ly P S P.length S.length
