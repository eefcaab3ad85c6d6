/-! the model: its object and its 38 arrays lie in a row -/
def md_l (m : Nat) (V : Nat → Int) : List Value := [zv (V 0), zv (V 1), zv (V 2), zv (V 3), zv (V 4), zv (V 5), zv (V 6), .ref (m + 1), zv (V 8), .ref (m + 2), .ref (m + 3), .ref (m + 4), .ref (m + 5), .ref (m + 6), .ref (m + 7), .ref (m + 8), .ref (m + 9), .ref (m + 10), .ref (m + 11), .ref (m + 12), .ref (m + 13), .ref (m + 14), .ref (m + 15), .ref (m + 16), zv (V 24), .ref (m + 17), .ref (m + 18), .ref (m + 19), .ref (m + 20), zv (V 29), .ref (m + 21), .ref (m + 22), .ref (m + 23), .ref (m + 24), .ref (m + 25), zv (V 35), .ref (m + 26), .ref (m + 27), .ref (m + 28), .ref (m + 29), zv (V 40), .ref (m + 30), .ref (m + 31), .ref (m + 32), .ref (m + 33), zv (V 45), .ref (m + 34), .ref (m + 35), .ref (m + 36), .ref (m + 37), .ref (m + 38), zv (V 51), zv (V 52), zv (V 53), zv (V 54), zv (V 55)]
def md_kd (k : Nat) : Nat := match k with
  | 8 => 2
  | 11 => 2
  | 14 => 2
  | 26 => 2
  | 27 => 2
  | 28 => 2
  | 29 => 2
  | 37 => 2
  | _ => 0
def md_N (k : Nat) : Nat := match k with
  | 1 => 8
  | 2 => 6
  | 3 => 6
  | 4 => 6
  | 5 => 6
  | 6 => 6
  | 7 => 6
  | 8 => 12
  | 9 => 12
  | 10 => 12
  | 11 => 12
  | 12 => 12
  | 13 => 12
  | 14 => 12
  | 15 => 12
  | 16 => 12
  | 17 => 16
  | 18 => 16
  | 19 => 16
  | 20 => 16
  | 21 => 40
  | 22 => 40
  | 23 => 41
  | 24 => 41
  | 25 => 41
  | 26 => 42
  | 27 => 42
  | 28 => 42
  | 29 => 42
  | 30 => 320
  | 31 => 8
  | 32 => 8
  | 33 => 8
  | 34 => 6
  | 35 => 6
  | 36 => 6
  | 37 => 24
  | 38 => 24
  | _ => 0
def md_H (m : Nat) (V : Nat → Int) (B : Nat → Int → Int) (h0 : zz_H) : zz_H := fun a => if a = m then some (.inr (13, md_l m V)) else if m < a ∧ a < m + 39 then some (zA (md_kd (a - m)) (md_N (a - m)) (B (a - m))) else h0 a
section MD
variable {m : Nat} {V V' : Nat → Int} {B : Nat → Int → Int} {h0 : zz_H}
theorem md_0 : md_H m V B h0 m = some (.inr (13, md_l m V)) := if_pos rfl
theorem md_k {k : Nat} (hk : 0 < k ∧ k < 39) : md_H m V B h0 (m + k) = some (zA (md_kd k) (md_N k) (B k)) := by
  unfold md_H
  rw [if_neg (by omega), if_pos (by omega), Nat.add_sub_cancel_left]
theorem md_o {a : Nat} (ha : a < m ∨ m + 39 ≤ a) : md_H m V B h0 a = h0 a := by
  unfold md_H
  rw [if_neg (by omega), if_neg (by omega)]
theorem md_u0 : zz_up (md_H m V B h0) m (.inr (13, md_l m V')) = md_H m V' B h0 := by
  funext a
  by_cases ha : a = m
  · subst ha; rw [zz_up_eq, md_0]
  · rw [zz_up_ne ha]
    unfold md_H
    rw [if_neg ha, if_neg ha]
theorem md_uk {k : Nat} {g : Int → Int} (hk : 0 < k ∧ k < 39) : zz_up (md_H m V B h0) (m + k) (zA (md_kd k) (md_N k) g) = md_H m V (va_up B k g) h0 := by
  funext a
  by_cases ha : a = m + k
  · subst ha; rw [zz_up_eq, md_k hk, va_up_self]
  · rw [zz_up_ne ha]
    unfold md_H
    by_cases h1 : a = m
    · rw [if_pos h1, if_pos h1]
    · rw [if_neg h1, if_neg h1]
      by_cases h2 : m < a ∧ a < m + 39
      · rw [if_pos h2, if_pos h2, va_up_ne _ _ (by omega)]
      · rw [if_neg h2, if_neg h2]
theorem md_s0 {x : Int} : zz_set (md_l m V) 0 (zv x) = some (md_l m (va_up V 0 x)) := rfl
theorem md_s1 {x : Int} : zz_set (md_l m V) 1 (zv x) = some (md_l m (va_up V 1 x)) := rfl
theorem md_s2 {x : Int} : zz_set (md_l m V) 2 (zv x) = some (md_l m (va_up V 2 x)) := rfl
theorem md_s3 {x : Int} : zz_set (md_l m V) 3 (zv x) = some (md_l m (va_up V 3 x)) := rfl
theorem md_s4 {x : Int} : zz_set (md_l m V) 4 (zv x) = some (md_l m (va_up V 4 x)) := rfl
theorem md_s5 {x : Int} : zz_set (md_l m V) 5 (zv x) = some (md_l m (va_up V 5 x)) := rfl
theorem md_s6 {x : Int} : zz_set (md_l m V) 6 (zv x) = some (md_l m (va_up V 6 x)) := rfl
theorem md_s8 {x : Int} : zz_set (md_l m V) 8 (zv x) = some (md_l m (va_up V 8 x)) := rfl
theorem md_s24 {x : Int} : zz_set (md_l m V) 24 (zv x) = some (md_l m (va_up V 24 x)) := rfl
theorem md_s29 {x : Int} : zz_set (md_l m V) 29 (zv x) = some (md_l m (va_up V 29 x)) := rfl
theorem md_s35 {x : Int} : zz_set (md_l m V) 35 (zv x) = some (md_l m (va_up V 35 x)) := rfl
theorem md_s40 {x : Int} : zz_set (md_l m V) 40 (zv x) = some (md_l m (va_up V 40 x)) := rfl
theorem md_s45 {x : Int} : zz_set (md_l m V) 45 (zv x) = some (md_l m (va_up V 45 x)) := rfl
theorem md_s51 {x : Int} : zz_set (md_l m V) 51 (zv x) = some (md_l m (va_up V 51 x)) := rfl
theorem md_s52 {x : Int} : zz_set (md_l m V) 52 (zv x) = some (md_l m (va_up V 52 x)) := rfl
theorem md_s53 {x : Int} : zz_set (md_l m V) 53 (zv x) = some (md_l m (va_up V 53 x)) := rfl
theorem md_s54 {x : Int} : zz_set (md_l m V) 54 (zv x) = some (md_l m (va_up V 54 x)) := rfl
theorem md_s55 {x : Int} : zz_set (md_l m V) 55 (zv x) = some (md_l m (va_up V 55 x)) := rfl
variable {X : zz_X} {M : zz_M} {d kc ks pc q n : Nat} {Q : Option Value → Nat → zz_H → Prop} {ls : List (Option Value)} {st : List Value}
theorem md_putI {ix k : Nat} {x : Int} (hd : zz_d M pc (.putfield ix) 3 q) (hf : zz_fp M ix 13 k .int) (hs : zz_set (md_l m V) k (zv x) = some (md_l m (va_up V k x))) (kk : zz_Z X M d Q kc ks q ls st n (md_H m (va_up V k x) B h0)) : zz_Z X M d Q kc ks pc ls (zv x :: .ref m :: st) n (md_H m V B h0) :=
  zj_putI hd hf md_0 hs (by rw [md_u0]; exact kk)
theorem md_putZ {ix k : Nat} {x : Int} (hd : zz_d M pc (.putfield ix) 3 q) (hf : zz_fp M ix 13 k .boolean) (hx : x = 0 ∨ x = 1) (hs : zz_set (md_l m V) k (zv x) = some (md_l m (va_up V k x))) (kk : zz_Z X M d Q kc ks q ls st n (md_H m (va_up V k x) B h0)) : zz_Z X M d Q kc ks pc ls (zv x :: .ref m :: st) n (md_H m V B h0) :=
  zj_putZ hd hf md_0 hx hs (by rw [md_u0]; exact kk)
theorem md_lt {k : Nat} (hk : 0 < k ∧ k < 39) : md_N k < 2147483648 := by
  have : ∀ k, k < 39 → md_N k < 2147483648 := by decide +kernel
  exact this k hk.2
theorem md_iald {k N : Nat} {i : Int} (hd : zz_d M pc .iaload 1 q) (hk : 0 < k ∧ k < 39) (hkd : md_kd k = 0) (hN : md_N k = N) (hi : 0 ≤ i ∧ i < (N : Int)) (kk : zz_Z X M d Q kc ks q ls (zv (B k i) :: st) n (md_H m V B h0)) : zz_Z X M d Q kc ks pc ls (zv i :: .ref (m + k) :: st) n (md_H m V B h0) := by
  subst hN
  exact zj_iald hd (by rw [md_k hk, hkd]) ⟨hi, md_lt hk⟩ kk
theorem md_zald {k N : Nat} {i : Int} (hd : zz_d M pc .baload 1 q) (hk : 0 < k ∧ k < 39) (hkd : md_kd k = 2) (hN : md_N k = N) (hi : 0 ≤ i ∧ i < (N : Int)) (kk : zz_Z X M d Q kc ks q ls (zv (B k i) :: st) n (md_H m V B h0)) : zz_Z X M d Q kc ks pc ls (zv i :: .ref (m + k) :: st) n (md_H m V B h0) := by
  subst hN
  exact zj_zald hd (by rw [md_k hk, hkd]) ⟨hi, md_lt hk⟩ kk
theorem md_iast {k N : Nat} {i x : Int} (hd : zz_d M pc .iastore 1 q) (hk : 0 < k ∧ k < 39) (hkd : md_kd k = 0) (hN : md_N k = N) (hi : 0 ≤ i ∧ i < (N : Int)) (kk : zz_Z X M d Q kc ks q ls st n (md_H m V (va_up B k (zU (B k) i x)) h0)) : zz_Z X M d Q kc ks pc ls (zv x :: zv i :: .ref (m + k) :: st) n (md_H m V B h0) := by
  subst hN
  refine zj_iast hd (by rw [md_k hk, hkd]) ⟨hi, md_lt hk⟩ ?_
  have e := md_uk (m := m) (V := V) (B := B) (h0 := h0) (g := zU (B k) i x) hk
  rw [hkd] at e
  rw [e]
  exact kk
theorem md_zast {k N : Nat} {i x : Int} (hd : zz_d M pc .bastore 1 q) (hk : 0 < k ∧ k < 39) (hkd : md_kd k = 2) (hN : md_N k = N) (hi : 0 ≤ i ∧ i < (N : Int)) (hx : x = 0 ∨ x = 1) (kk : zz_Z X M d Q kc ks q ls st n (md_H m V (va_up B k (zU (B k) i x)) h0)) : zz_Z X M d Q kc ks pc ls (zv x :: zv i :: .ref (m + k) :: st) n (md_H m V B h0) := by
  subst hN
  refine zj_zast hd (by rw [md_k hk, hkd]) ⟨hi, md_lt hk⟩ hx ?_
  have e := md_uk (m := m) (V := V) (B := B) (h0 := h0) (g := zU (B k) i x) hk
  rw [hkd] at e
  rw [e]
  exact kk
end MD
