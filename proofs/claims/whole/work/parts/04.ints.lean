/-! The same rules with every int as an Int: zv z is the JVM int of z. -/
def zv (z : Int) : Value := .int (Int32.ofInt z)
theorem zn_to {a : Int} (ha : -2147483648 ≤ a ∧ a < 2147483648) : (Int32.ofInt a).toInt = a := Int32.toInt_ofInt_of_le (by omega) (by omega)
theorem zn_eq {a b : Int} (ha : -2147483648 ≤ a ∧ a < 2147483648) (hb : -2147483648 ≤ b ∧ b < 2147483648) : Int32.ofInt a = Int32.ofInt b ↔ a = b := by
  rw [← Int32.toInt_inj, zn_to ha, zn_to hb]
theorem zn_lt {a b : Int} (ha : -2147483648 ≤ a ∧ a < 2147483648) (hb : -2147483648 ≤ b ∧ b < 2147483648) : Int32.ofInt a < Int32.ofInt b ↔ a < b := by
  rw [Int32.lt_iff_toInt_lt, zn_to ha, zn_to hb]
theorem zn_le {a b : Int} (ha : -2147483648 ≤ a ∧ a < 2147483648) (hb : -2147483648 ≤ b ∧ b < 2147483648) : Int32.ofInt a ≤ Int32.ofInt b ↔ a ≤ b := by
  rw [Int32.le_iff_toInt_le, zn_to ha, zn_to hb]
theorem zn_rg (x : Int32) : -2147483648 ≤ x.toInt ∧ x.toInt < 2147483648 := ⟨by have := x.le_toInt; omega, by have := x.toInt_lt; omega⟩
theorem zn_z : (0 : Int32) = Int32.ofInt 0 := rfl
theorem zn_of (x : Int32) : Value.int x = zv x.toInt := by unfold zv; rw [Int32.ofInt_toInt]
theorem zn_cl {i : Int} (hi : 0 ≤ i ∧ i < 2147483648) : (Int32.ofInt i).toNatClampNeg = i.toNat := by
  show (Int32.ofInt i).toInt.toNat = _
  rw [zn_to (by omega)]
theorem zn_in {i : Int} {N : Nat} (hi : 0 ≤ i ∧ i < (N : Int)) (hN : N < 2147483648) : vp_in (Int32.ofInt i) N := by
  intro hx
  rcases hx with hx | hx
  · rw [zn_z, zn_lt (by omega) (by omega)] at hx
    omega
  · rw [zn_cl (by omega)] at hx
    omega
theorem zn_nI (N : Nat) : Value.int (nI N) = zv (N : Int) := by
  show Value.int (Int32.ofNat N) = Value.int (Int32.ofInt (N : Int))
  rw [Int32.ofInt_eq_ofNat]
theorem zn_zb {a : Int} (ha : a = 0 ∨ a = 1) : narrow .boolean (zv a) = zv a := by
  rcases ha with rfl | rfl <;> rfl
theorem zn_ch {a : Int} (ha : 0 ≤ a ∧ a < 65536) : (Int32.ofInt a).toUInt32 % 65536 = (Int32.ofInt a).toUInt32 := by
  obtain ⟨k, rfl⟩ : ∃ k : Nat, a = (k : Int) := ⟨a.toNat, by omega⟩
  rw [Int32.ofInt_eq_ofNat]
  apply UInt32.toNat_inj.mp
  have h2 : k < 65536 := by omega
  have h1 : (Int32.ofNat k).toUInt32.toNat = k := by
    show (BitVec.ofNat 32 k).toNat = k
    rw [BitVec.toNat_ofNat]; omega
  rw [UInt32.toNat_mod, h1]
  show k % 65536 = k
  omega
theorem zn_nc {a : Int} (ha : 0 ≤ a ∧ a < 65536) : narrow .char (zv a) = zv a := by
  have h1 := zn_ch ha
  show Value.int (((Int32.ofInt a).toUInt32 % 65536).toInt32) = _
  rw [h1]
  rfl
/-! what the bits of ints do, on Ints -/
def zb_and (a b : Int) : Int := (Int32.ofInt a &&& Int32.ofInt b).toInt
def zb_or (a b : Int) : Int := (Int32.ofInt a ||| Int32.ofInt b).toInt
def zb_xor (a b : Int) : Int := (Int32.ofInt a ^^^ Int32.ofInt b).toInt
def zb_shl (a b : Int) : Int := (Int32.ofInt a <<< (Int32.ofInt b &&& 31)).toInt
def zb_shr (a b : Int) : Int := (Int32.ofInt a >>> (Int32.ofInt b &&& 31)).toInt
def zb_ushr (a b : Int) : Int := (((Int32.ofInt a).toUInt32 >>> ((Int32.ofInt b).toUInt32 &&& Int32.toUInt32 31)).toInt32).toInt
def zb_div (a b : Int) : Int := (Int32.ofInt a / Int32.ofInt b).toInt
/-- an array of ints, chars or booleans by a function on Ints -/
def zA (kd N : Nat) (g : Int → Int) : va_E := .inl (kd, N, .inl (fun j => Int32.ofInt (g (j : Int))))
def zU (g : Int → Int) (i x : Int) : Int → Int := fun j => if j = i then x else g j
theorem zU_eq (g : Int → Int) (i x : Int) : zU g i x i = x := if_pos rfl
theorem zU_ne {g : Int → Int} {i j x : Int} (hj : j ≠ i) : zU g i x j = g j := if_neg hj
theorem zA_set {kd N : Nat} {g : Int → Int} {i x : Int} (hi : 0 ≤ i ∧ i < 2147483648) : (Sum.inl (kd, N, Sum.inl (upd (fun j => Int32.ofInt (g (j : Int))) (Int32.ofInt i).toNatClampNeg (Int32.ofInt x))) : va_E) = zA kd N (zU g i x) := by
  unfold zA
  congr 4
  funext j
  rw [zn_cl hi]
  unfold upd zU
  by_cases hj : j = i.toNat
  · rw [if_pos hj, if_pos (by omega)]
  · rw [if_neg hj, if_neg (by omega)]
/-- an array of references -/
def zQ (kd N : Nat) (f : Nat → Option Nat) : va_E := .inl (kd, N, .inr (.inr (.inr (.inr f))))
section ZJ
variable {X : zz_X} {M : zz_M} {d kc ks pc q n : Nat} {Q : Option Value → Nat → zz_H → Prop} {ls ls' : List (Option Value)} {st : List Value} {h : zz_H}
theorem zj_iconst {z : Int} (hd : zz_d M pc (.iconst z) 1 q) (k : zz_Z X M d Q kc ks q ls (zv z :: st) n h) : zz_Z X M d Q kc ks pc ls st n h := zi_iconst hd k
theorem zj_bipush {z : Int} (hd : zz_d M pc (.bipush z) 2 q) (hz : -128 ≤ z ∧ z < 128) (k : zz_Z X M d Q kc ks q ls (zv z :: st) n h) : zz_Z X M d Q kc ks pc ls st n h := zi_bipush hd (by apply Int32.toInt_inj.mp; rw [Int8.toInt_toInt32, Int8.toInt_ofInt_of_le (by omega) (by omega), zn_to (by omega)]) k
theorem zj_sipush {z : Int} (hd : zz_d M pc (.sipush z) 3 q) (hz : -32768 ≤ z ∧ z < 32768) (k : zz_Z X M d Q kc ks q ls (zv z :: st) n h) : zz_Z X M d Q kc ks pc ls st n h := zi_sipush hd (by apply Int32.toInt_inj.mp; rw [Int16.toInt_toInt32, Int16.toInt_ofInt_of_le (by omega) (by omega), zn_to (by omega)]) k
theorem zj_iload_n {i : Fin 4} {a : Int} (hd : zz_d M pc (.iload_n i) 1 q) (hl : ls[(i : Nat)]? = some (some (zv a))) (k : zz_Z X M d Q kc ks q ls (zv a :: st) n h) : zz_Z X M d Q kc ks pc ls st n h := zi_iload_n hd hl k
theorem zj_iload {i : Nat} {a : Int} (hd : zz_d M pc (.iload i) 2 q) (hl : ls[i]? = some (some (zv a))) (k : zz_Z X M d Q kc ks q ls (zv a :: st) n h) : zz_Z X M d Q kc ks pc ls st n h := zi_iload hd hl k
theorem zj_istore_n {i : Fin 4} {a : Int} (hd : zz_d M pc (.istore_n i) 1 q) (hl : zz_set ls (i : Nat) (some (zv a)) = some ls') (k : zz_Z X M d Q kc ks q ls' st n h) : zz_Z X M d Q kc ks pc ls (zv a :: st) n h := zi_istore_n hd hl k
theorem zj_istore {i : Nat} {a : Int} (hd : zz_d M pc (.istore i) 2 q) (hl : zz_set ls i (some (zv a)) = some ls') (k : zz_Z X M d Q kc ks q ls' st n h) : zz_Z X M d Q kc ks pc ls (zv a :: st) n h := zi_istore hd hl k
theorem zj_iinc {i : Nat} {z a : Int} (hd : zz_d M pc (.iinc i z) 3 q) (hx : ls[i]? = some (some (zv a))) (hl : zz_set ls i (some (zv (a + z))) = some ls') (k : zz_Z X M d Q kc ks q ls' st n h) : zz_Z X M d Q kc ks pc ls st n h := zi_iinc hd hx (by rw [← Int32.ofInt_add]; exact hl) k
theorem zj_iadd {a b : Int} (hd : zz_d M pc .iadd 1 q) (k : zz_Z X M d Q kc ks q ls (zv (a + b) :: st) n h) : zz_Z X M d Q kc ks pc ls (zv b :: zv a :: st) n h := zi_iadd hd (by rw [← Int32.ofInt_add]; exact k)
theorem zj_isub {a b : Int} (hd : zz_d M pc .isub 1 q) (k : zz_Z X M d Q kc ks q ls (zv (a - b) :: st) n h) : zz_Z X M d Q kc ks pc ls (zv b :: zv a :: st) n h := zi_isub hd (by rw [← Int32.ofInt_sub]; exact k)
theorem zj_imul {a b : Int} (hd : zz_d M pc .imul 1 q) (k : zz_Z X M d Q kc ks q ls (zv (a * b) :: st) n h) : zz_Z X M d Q kc ks pc ls (zv b :: zv a :: st) n h := zi_imul hd (by rw [← Int32.ofInt_mul]; exact k)
theorem zj_iand {a b : Int} (hd : zz_d M pc .iand 1 q) (k : zz_Z X M d Q kc ks q ls (zv (zb_and a b) :: st) n h) : zz_Z X M d Q kc ks pc ls (zv b :: zv a :: st) n h := zi_iand hd (by rw [zn_of]; exact k)
theorem zj_ior {a b : Int} (hd : zz_d M pc .ior 1 q) (k : zz_Z X M d Q kc ks q ls (zv (zb_or a b) :: st) n h) : zz_Z X M d Q kc ks pc ls (zv b :: zv a :: st) n h := zi_ior hd (by rw [zn_of]; exact k)
theorem zj_ixor {a b : Int} (hd : zz_d M pc .ixor 1 q) (k : zz_Z X M d Q kc ks q ls (zv (zb_xor a b) :: st) n h) : zz_Z X M d Q kc ks pc ls (zv b :: zv a :: st) n h := zi_ixor hd (by rw [zn_of]; exact k)
theorem zj_ishl {a b : Int} (hd : zz_d M pc .ishl 1 q) (k : zz_Z X M d Q kc ks q ls (zv (zb_shl a b) :: st) n h) : zz_Z X M d Q kc ks pc ls (zv b :: zv a :: st) n h := zi_ishl hd (by rw [zn_of]; exact k)
theorem zj_ishr {a b : Int} (hd : zz_d M pc .ishr 1 q) (k : zz_Z X M d Q kc ks q ls (zv (zb_shr a b) :: st) n h) : zz_Z X M d Q kc ks pc ls (zv b :: zv a :: st) n h := zi_ishr hd (by rw [zn_of]; exact k)
theorem zj_iushr {a b : Int} (hd : zz_d M pc .iushr 1 q) (k : zz_Z X M d Q kc ks q ls (zv (zb_ushr a b) :: st) n h) : zz_Z X M d Q kc ks pc ls (zv b :: zv a :: st) n h := zi_iushr hd (by rw [zn_of]; exact k)
theorem zj_idiv {a b : Int} (hd : zz_d M pc .idiv 1 q) (hb : (-2147483648 ≤ b ∧ b < 2147483648) ∧ b ≠ 0) (k : zz_Z X M d Q kc ks q ls (zv (zb_div a b) :: st) n h) : zz_Z X M d Q kc ks pc ls (zv b :: zv a :: st) n h := zi_idiv hd (by rw [zn_z, zn_eq hb.1 (by omega)]; exact hb.2) (by rw [zn_of]; exact k)
theorem zj_i2c {a : Int} (hd : zz_d M pc .i2c 1 q) (ha : 0 ≤ a ∧ a < 65536) (k : zz_Z X M d Q kc ks q ls (zv a :: st) n h) : zz_Z X M d Q kc ks pc ls (zv a :: st) n h := zi_i2c hd (by rw [zn_ch ha]; exact k)
theorem zj_if_eq {a off : Int} {t : Nat} (hd : zz_d M pc (.ifCond .eq off) 3 q) (ht : (pc : Int) + off = (t : Int)) (ha : -2147483648 ≤ a ∧ a < 2147483648) (kt : a = 0 → zz_Z X M d Q kc ks t ls st n h) (kf : ¬ a = 0 → zz_Z X M d Q kc ks q ls st n h) : zz_Z X M d Q kc ks pc ls (zv a :: st) n h :=
  zi_if_eq hd ht (fun hx => kt (by rw [zn_z, zn_eq ha (by omega)] at hx; exact hx)) (fun hx => kf (by rw [zn_z, zn_eq ha (by omega)] at hx; exact hx))
theorem zj_if_ne {a off : Int} {t : Nat} (hd : zz_d M pc (.ifCond .ne off) 3 q) (ht : (pc : Int) + off = (t : Int)) (ha : -2147483648 ≤ a ∧ a < 2147483648) (kt : ¬ a = 0 → zz_Z X M d Q kc ks t ls st n h) (kf : a = 0 → zz_Z X M d Q kc ks q ls st n h) : zz_Z X M d Q kc ks pc ls (zv a :: st) n h :=
  zi_if_ne hd ht (fun hx => kt (by rw [zn_z, zn_eq ha (by omega)] at hx; exact hx)) (fun hx => kf (by rw [zn_z, zn_eq ha (by omega)] at hx; exact hx))
theorem zj_if_lt {a off : Int} {t : Nat} (hd : zz_d M pc (.ifCond .lt off) 3 q) (ht : (pc : Int) + off = (t : Int)) (ha : -2147483648 ≤ a ∧ a < 2147483648) (kt : a < 0 → zz_Z X M d Q kc ks t ls st n h) (kf : ¬ a < 0 → zz_Z X M d Q kc ks q ls st n h) : zz_Z X M d Q kc ks pc ls (zv a :: st) n h :=
  zi_if_lt hd ht (fun hx => kt (by rw [zn_z, zn_lt ha (by omega)] at hx; exact hx)) (fun hx => kf (by rw [zn_z, zn_lt ha (by omega)] at hx; exact hx))
theorem zj_if_ge {a off : Int} {t : Nat} (hd : zz_d M pc (.ifCond .ge off) 3 q) (ht : (pc : Int) + off = (t : Int)) (ha : -2147483648 ≤ a ∧ a < 2147483648) (kt : 0 ≤ a → zz_Z X M d Q kc ks t ls st n h) (kf : ¬ 0 ≤ a → zz_Z X M d Q kc ks q ls st n h) : zz_Z X M d Q kc ks pc ls (zv a :: st) n h :=
  zi_if_ge hd ht (fun hx => kt (by rw [zn_z, zn_le (by omega) ha] at hx; exact hx)) (fun hx => kf (by rw [zn_z, zn_le (by omega) ha] at hx; exact hx))
theorem zj_if_gt {a off : Int} {t : Nat} (hd : zz_d M pc (.ifCond .gt off) 3 q) (ht : (pc : Int) + off = (t : Int)) (ha : -2147483648 ≤ a ∧ a < 2147483648) (kt : 0 < a → zz_Z X M d Q kc ks t ls st n h) (kf : ¬ 0 < a → zz_Z X M d Q kc ks q ls st n h) : zz_Z X M d Q kc ks pc ls (zv a :: st) n h :=
  zi_if_gt hd ht (fun hx => kt (by rw [zn_z, zn_lt (by omega) ha] at hx; exact hx)) (fun hx => kf (by rw [zn_z, zn_lt (by omega) ha] at hx; exact hx))
theorem zj_if_le {a off : Int} {t : Nat} (hd : zz_d M pc (.ifCond .le off) 3 q) (ht : (pc : Int) + off = (t : Int)) (ha : -2147483648 ≤ a ∧ a < 2147483648) (kt : a ≤ 0 → zz_Z X M d Q kc ks t ls st n h) (kf : ¬ a ≤ 0 → zz_Z X M d Q kc ks q ls st n h) : zz_Z X M d Q kc ks pc ls (zv a :: st) n h :=
  zi_if_le hd ht (fun hx => kt (by rw [zn_z, zn_le ha (by omega)] at hx; exact hx)) (fun hx => kf (by rw [zn_z, zn_le ha (by omega)] at hx; exact hx))
theorem zj_icmp_eq {a b off : Int} {t : Nat} (hd : zz_d M pc (.if_icmp .eq off) 3 q) (ht : (pc : Int) + off = (t : Int)) (ha : (-2147483648 ≤ a ∧ a < 2147483648) ∧ -2147483648 ≤ b ∧ b < 2147483648) (kt : a = b → zz_Z X M d Q kc ks t ls st n h) (kf : ¬ a = b → zz_Z X M d Q kc ks q ls st n h) : zz_Z X M d Q kc ks pc ls (zv b :: zv a :: st) n h :=
  zi_icmp_eq hd ht (fun hx => kt (by rw [zn_eq ha.1 ha.2] at hx; exact hx)) (fun hx => kf (by rw [zn_eq ha.1 ha.2] at hx; exact hx))
theorem zj_icmp_ne {a b off : Int} {t : Nat} (hd : zz_d M pc (.if_icmp .ne off) 3 q) (ht : (pc : Int) + off = (t : Int)) (ha : (-2147483648 ≤ a ∧ a < 2147483648) ∧ -2147483648 ≤ b ∧ b < 2147483648) (kt : ¬ a = b → zz_Z X M d Q kc ks t ls st n h) (kf : a = b → zz_Z X M d Q kc ks q ls st n h) : zz_Z X M d Q kc ks pc ls (zv b :: zv a :: st) n h :=
  zi_icmp_ne hd ht (fun hx => kt (by rw [zn_eq ha.1 ha.2] at hx; exact hx)) (fun hx => kf (by rw [zn_eq ha.1 ha.2] at hx; exact hx))
theorem zj_icmp_lt {a b off : Int} {t : Nat} (hd : zz_d M pc (.if_icmp .lt off) 3 q) (ht : (pc : Int) + off = (t : Int)) (ha : (-2147483648 ≤ a ∧ a < 2147483648) ∧ -2147483648 ≤ b ∧ b < 2147483648) (kt : a < b → zz_Z X M d Q kc ks t ls st n h) (kf : ¬ a < b → zz_Z X M d Q kc ks q ls st n h) : zz_Z X M d Q kc ks pc ls (zv b :: zv a :: st) n h :=
  zi_icmp_lt hd ht (fun hx => kt (by rw [zn_lt ha.1 ha.2] at hx; exact hx)) (fun hx => kf (by rw [zn_lt ha.1 ha.2] at hx; exact hx))
theorem zj_icmp_ge {a b off : Int} {t : Nat} (hd : zz_d M pc (.if_icmp .ge off) 3 q) (ht : (pc : Int) + off = (t : Int)) (ha : (-2147483648 ≤ a ∧ a < 2147483648) ∧ -2147483648 ≤ b ∧ b < 2147483648) (kt : b ≤ a → zz_Z X M d Q kc ks t ls st n h) (kf : ¬ b ≤ a → zz_Z X M d Q kc ks q ls st n h) : zz_Z X M d Q kc ks pc ls (zv b :: zv a :: st) n h :=
  zi_icmp_ge hd ht (fun hx => kt (by rw [zn_le ha.2 ha.1] at hx; exact hx)) (fun hx => kf (by rw [zn_le ha.2 ha.1] at hx; exact hx))
theorem zj_icmp_gt {a b off : Int} {t : Nat} (hd : zz_d M pc (.if_icmp .gt off) 3 q) (ht : (pc : Int) + off = (t : Int)) (ha : (-2147483648 ≤ a ∧ a < 2147483648) ∧ -2147483648 ≤ b ∧ b < 2147483648) (kt : b < a → zz_Z X M d Q kc ks t ls st n h) (kf : ¬ b < a → zz_Z X M d Q kc ks q ls st n h) : zz_Z X M d Q kc ks pc ls (zv b :: zv a :: st) n h :=
  zi_icmp_gt hd ht (fun hx => kt (by rw [zn_lt ha.2 ha.1] at hx; exact hx)) (fun hx => kf (by rw [zn_lt ha.2 ha.1] at hx; exact hx))
theorem zj_icmp_le {a b off : Int} {t : Nat} (hd : zz_d M pc (.if_icmp .le off) 3 q) (ht : (pc : Int) + off = (t : Int)) (ha : (-2147483648 ≤ a ∧ a < 2147483648) ∧ -2147483648 ≤ b ∧ b < 2147483648) (kt : a ≤ b → zz_Z X M d Q kc ks t ls st n h) (kf : ¬ a ≤ b → zz_Z X M d Q kc ks q ls st n h) : zz_Z X M d Q kc ks pc ls (zv b :: zv a :: st) n h :=
  zi_icmp_le hd ht (fun hx => kt (by rw [zn_le ha.1 ha.2] at hx; exact hx)) (fun hx => kf (by rw [zn_le ha.1 ha.2] at hx; exact hx))
theorem zj_iald {a N : Nat} {g : Int → Int} {i : Int} (hd : zz_d M pc .iaload 1 q) (ha : h a = some (zA 0 N g)) (hi : (0 ≤ i ∧ i < (N : Int)) ∧ N < 2147483648) (k : zz_Z X M d Q kc ks q ls (zv (g i) :: st) n h) : zz_Z X M d Q kc ks pc ls (zv i :: .ref a :: st) n h :=
  zi_iald hd ha (zn_in hi.1 hi.2) (by rw [zn_cl (by omega)]; show zz_Z X M d Q kc ks q ls (zv (g ((i.toNat : Nat) : Int)) :: st) n h; rw [Int.toNat_of_nonneg hi.1.1]; exact k)
theorem zj_cald {a N : Nat} {g : Int → Int} {i : Int} (hd : zz_d M pc .caload 1 q) (ha : h a = some (zA 1 N g)) (hi : (0 ≤ i ∧ i < (N : Int)) ∧ N < 2147483648) (k : zz_Z X M d Q kc ks q ls (zv (g i) :: st) n h) : zz_Z X M d Q kc ks pc ls (zv i :: .ref a :: st) n h :=
  zi_cald hd ha (zn_in hi.1 hi.2) (by rw [zn_cl (by omega)]; show zz_Z X M d Q kc ks q ls (zv (g ((i.toNat : Nat) : Int)) :: st) n h; rw [Int.toNat_of_nonneg hi.1.1]; exact k)
theorem zj_zald {a N : Nat} {g : Int → Int} {i : Int} (hd : zz_d M pc .baload 1 q) (ha : h a = some (zA 2 N g)) (hi : (0 ≤ i ∧ i < (N : Int)) ∧ N < 2147483648) (k : zz_Z X M d Q kc ks q ls (zv (g i) :: st) n h) : zz_Z X M d Q kc ks pc ls (zv i :: .ref a :: st) n h :=
  zi_zald hd ha (zn_in hi.1 hi.2) (by rw [zn_cl (by omega)]; show zz_Z X M d Q kc ks q ls (zv (g ((i.toNat : Nat) : Int)) :: st) n h; rw [Int.toNat_of_nonneg hi.1.1]; exact k)
theorem zj_iast {a N : Nat} {g : Int → Int} {i x : Int} (hd : zz_d M pc .iastore 1 q) (ha : h a = some (zA 0 N g)) (hi : (0 ≤ i ∧ i < (N : Int)) ∧ N < 2147483648) (k : zz_Z X M d Q kc ks q ls st n (zz_up h a (zA 0 N (zU g i x)))) : zz_Z X M d Q kc ks pc ls (zv x :: zv i :: .ref a :: st) n h :=
  zi_iast hd ha (zn_in hi.1 hi.2)  (by rw [zA_set (by omega)]; exact k)
theorem zj_cast {a N : Nat} {g : Int → Int} {i x : Int} (hd : zz_d M pc .castore 1 q) (ha : h a = some (zA 1 N g)) (hi : (0 ≤ i ∧ i < (N : Int)) ∧ N < 2147483648) (hx : 0 ≤ x ∧ x < 65536) (k : zz_Z X M d Q kc ks q ls st n (zz_up h a (zA 1 N (zU g i x)))) : zz_Z X M d Q kc ks pc ls (zv x :: zv i :: .ref a :: st) n h :=
  zi_cast hd ha (zn_in hi.1 hi.2) (zn_nc hx) (by rw [zA_set (by omega)]; exact k)
theorem zj_zast {a N : Nat} {g : Int → Int} {i x : Int} (hd : zz_d M pc .bastore 1 q) (ha : h a = some (zA 2 N g)) (hi : (0 ≤ i ∧ i < (N : Int)) ∧ N < 2147483648) (hx : x = 0 ∨ x = 1) (k : zz_Z X M d Q kc ks q ls st n (zz_up h a (zA 2 N (zU g i x)))) : zz_Z X M d Q kc ks pc ls (zv x :: zv i :: .ref a :: st) n h :=
  zi_zast hd ha (zn_in hi.1 hi.2) (zn_zb hx) (by rw [zA_set (by omega)]; exact k)
theorem zj_alen {a kd N : Nat} {g : Int → Int} {ty : FieldType} (hd : zz_d M pc .arraylength 1 q) (ha : h a = some (zA kd N g)) (ht : (zz_ty X)[kd]? = some (zz_a X kd, ty)) (k : zz_Z X M d Q kc ks q ls (zv (N : Int) :: st) n h) : zz_Z X M d Q kc ks pc ls (.ref a :: st) n h := zi_alen hd ha ht (by show zz_Z X M d Q kc ks q ls (Value.int (nI N) :: st) n h; rw [zn_nI]; exact k)
theorem zj_qlen {a kd N : Nat} {f : Nat → Option Nat} {ty : FieldType} (hd : zz_d M pc .arraylength 1 q) (ha : h a = some (zQ kd N f)) (ht : (zz_ty X)[kd]? = some (zz_a X kd, ty)) (k : zz_Z X M d Q kc ks q ls (zv (N : Int) :: st) n h) : zz_Z X M d Q kc ks pc ls (.ref a :: st) n h := zi_alen hd ha ht (by show zz_Z X M d Q kc ks q ls (Value.int (nI N) :: st) n h; rw [zn_nI]; exact k)
theorem zj_aald {a N : Nat} {f : Nat → Option Nat} {i : Int} {v : Value} (hd : zz_d M pc .aaload 1 q) (ha : h a = some (zQ 3 N f)) (hi : (0 ≤ i ∧ i < (N : Int)) ∧ N < 2147483648) (hv : va_rf (f i.toNat) = v) (k : zz_Z X M d Q kc ks q ls (v :: st) n h) : zz_Z X M d Q kc ks pc ls (zv i :: .ref a :: st) n h :=
  zi_aald hd ha (zn_in hi.1 hi.2) (by rw [zn_cl (by omega)]; exact hv) k
theorem zj_aast {a N v : Nat} {f : Nat → Option Nat} {i : Int} (hd : zz_d M pc .aastore 1 q) (ha : h a = some (zQ 3 N f)) (hv : zz_el h v) (hi : (0 ≤ i ∧ i < (N : Int)) ∧ N < 2147483648) (k : zz_Z X M d Q kc ks q ls st n (zz_up h a (zQ 3 N (va_up f i.toNat (some v))))) : zz_Z X M d Q kc ks pc ls (.ref v :: zv i :: .ref a :: st) n h :=
  zi_aast hd ha hv (zn_in hi.1 hi.2) (by rw [zn_cl (by omega)]; exact k)
theorem zj_aastN {a N : Nat} {f : Nat → Option Nat} {i : Int} (hd : zz_d M pc .aastore 1 q) (ha : h a = some (zQ 3 N f)) (hi : (0 ≤ i ∧ i < (N : Int)) ∧ N < 2147483648) (k : zz_Z X M d Q kc ks q ls st n (zz_up h a (zQ 3 N (va_up f i.toNat none)))) : zz_Z X M d Q kc ks pc ls (.null :: zv i :: .ref a :: st) n h :=
  zi_aastN hd ha (zn_in hi.1 hi.2) (by rw [zn_cl (by omega)]; exact k)
theorem zj_newi {z : Int} {N kc' ks' : Nat} (hd : zz_d M pc (.newarray .int) 2 q) (hw : Cond.arrayClass .int ∈ zz_ws) (hz : z = (N : Int)) (hb : N ≤ 100000) (hkc : kc = kc' + 1) (hks : ks = ks' + N) (k : zz_Z X M d Q kc' ks' q ls (.ref n :: st) (n + 1) (zz_up h n (zA 0 N (fun _ => 0)))) : zz_Z X M d Q kc ks pc ls (zv z :: st) n h := by
  subst hz
  exact zi_newi hd hw (by rw [zn_z, zn_lt (by omega) (by omega)]; omega) (by rw [zn_cl (by omega)]; rfl) hb hkc hks k
theorem zj_newc {z : Int} {N kc' ks' : Nat} (hd : zz_d M pc (.newarray .char) 2 q) (hw : Cond.arrayClass .char ∈ zz_ws) (hz : z = (N : Int)) (hb : N ≤ 100000) (hkc : kc = kc' + 1) (hks : ks = ks' + N) (k : zz_Z X M d Q kc' ks' q ls (.ref n :: st) (n + 1) (zz_up h n (zA 1 N (fun _ => 0)))) : zz_Z X M d Q kc ks pc ls (zv z :: st) n h := by
  subst hz
  exact zi_newc hd hw (by rw [zn_z, zn_lt (by omega) (by omega)]; omega) (by rw [zn_cl (by omega)]; rfl) hb hkc hks k
theorem zj_newz {z : Int} {N kc' ks' : Nat} (hd : zz_d M pc (.newarray .boolean) 2 q) (hw : Cond.arrayClass .boolean ∈ zz_ws) (hz : z = (N : Int)) (hb : N ≤ 100000) (hkc : kc = kc' + 1) (hks : ks = ks' + N) (k : zz_Z X M d Q kc' ks' q ls (.ref n :: st) (n + 1) (zz_up h n (zA 2 N (fun _ => 0)))) : zz_Z X M d Q kc ks pc ls (zv z :: st) n h := by
  subst hz
  exact zi_newz hd hw (by rw [zn_z, zn_lt (by omega) (by omega)]; omega) (by rw [zn_cl (by omega)]; rfl) hb hkc hks k
theorem zj_newq {z : Int} {ix N kc' ks' : Nat} (hd : zz_d M pc (.anewarray ix) 3 q) (hw : Cond.classLink M.1.cls ix "java/lang/Object" ∈ zz_ws) (hz : z = (N : Int)) (hb : N ≤ 100000) (hkc : kc = kc' + 1) (hks : ks = ks' + N) (k : zz_Z X M d Q kc' ks' q ls (.ref n :: st) (n + 1) (zz_up h n (zQ 3 N (fun _ => none)))) : zz_Z X M d Q kc ks pc ls (zv z :: st) n h := by
  subst hz
  exact zi_newq hd hw (by rw [zn_z, zn_lt (by omega) (by omega)]; omega) (by rw [zn_cl (by omega)]; rfl) hb hkc hks k
theorem zj_putI {ix ci k a : Nat} {fs fs' : List Value} {x : Int} (hd : zz_d M pc (.putfield ix) 3 q) (hf : zz_fp M ix ci k .int) (ha : h a = some (.inr (ci, fs))) (hset : zz_set fs k (zv x) = some fs') (kk : zz_Z X M d Q kc ks q ls st n (zz_up h a (.inr (ci, fs')))) : zz_Z X M d Q kc ks pc ls (zv x :: .ref a :: st) n h := zi_putf hd hf ha rfl rfl hset kk
theorem zj_putZ {ix ci k a : Nat} {fs fs' : List Value} {x : Int} (hd : zz_d M pc (.putfield ix) 3 q) (hf : zz_fp M ix ci k .boolean) (ha : h a = some (.inr (ci, fs))) (hx : x = 0 ∨ x = 1) (hset : zz_set fs k (zv x) = some fs') (kk : zz_Z X M d Q kc ks q ls st n (zz_up h a (.inr (ci, fs')))) : zz_Z X M d Q kc ks pc ls (zv x :: .ref a :: st) n h := zi_putf hd hf ha (zn_zb hx) (by rcases hx with rfl | rfl <;> rfl) hset kk
theorem zj_putA {ix ci k a x : Nat} {C : String} {fs fs' : List Value} (hd : zz_d M pc (.putfield ix) 3 q) (hf : zz_fp M ix ci k (.object C)) (ha : h a = some (.inr (ci, fs))) (hset : zz_set fs k (.ref x) = some fs') (kk : zz_Z X M d Q kc ks q ls st n (zz_up h a (.inr (ci, fs')))) : zz_Z X M d Q kc ks pc ls (.ref x :: .ref a :: st) n h := zi_putf hd hf ha rfl rfl hset kk
theorem zj_putR {ix ci k a x : Nat} {ty : FieldType} {fs fs' : List Value} (hd : zz_d M pc (.putfield ix) 3 q) (hf : zz_fp M ix ci k (.array ty)) (ha : h a = some (.inr (ci, fs))) (hset : zz_set fs k (.ref x) = some fs') (kk : zz_Z X M d Q kc ks q ls st n (zz_up h a (.inr (ci, fs')))) : zz_Z X M d Q kc ks pc ls (.ref x :: .ref a :: st) n h := zi_putf hd hf ha rfl rfl hset kk
theorem zj_ireturn {a : Int} (hd : zz_d M pc .ireturn 1 q) (hr : M.2.2.2 = some .int) (hQ : Q (some (zv a)) n h) : zz_Z X M d Q kc ks pc ls [zv a] n h := zi_ireturn hd hr rfl hQ
theorem zj_zreturn {a : Int} (hd : zz_d M pc .ireturn 1 q) (hr : M.2.2.2 = some .boolean) (ha : a = 0 ∨ a = 1) (hQ : Q (some (zv a)) n h) : zz_Z X M d Q kc ks pc ls [zv a] n h := zi_ireturn hd hr (zn_zb ha) hQ
theorem zj_creturn {a : Int} (hd : zz_d M pc .ireturn 1 q) (hr : M.2.2.2 = some .char) (ha : 0 ≤ a ∧ a < 65536) (hQ : Q (some (zv a)) n h) : zz_Z X M d Q kc ks pc ls [zv a] n h := zi_ireturn hd hr (zn_nc ha) hQ
theorem zj_tabIn {dflt lo hi off a : Int} {offs : Array Int} {len t : Nat} (hd : zz_d M pc (.tableswitch dflt lo hi offs) len q) (ha : (-2147483648 ≤ a ∧ a < 2147483648) ∧ lo ≤ a ∧ a ≤ hi) (ho : offs[(a - lo).toNat]? = some off) (ht : (pc : Int) + off = (t : Int)) (k : zz_Z X M d Q kc ks t ls st n h) : zz_Z X M d Q kc ks pc ls (zv a :: st) n h :=
  zi_tabIn hd (by rw [zn_to ha.1]; omega) (by rw [zn_to ha.1]; omega) (by rw [zn_to ha.1]; exact ho) ht k
theorem zj_tabOut {dflt lo hi a : Int} {offs : Array Int} {len t : Nat} (hd : zz_d M pc (.tableswitch dflt lo hi offs) len q) (ha : (-2147483648 ≤ a ∧ a < 2147483648) ∧ (a < lo ∨ hi < a)) (ht : (pc : Int) + dflt = (t : Int)) (k : zz_Z X M d Q kc ks t ls st n h) : zz_Z X M d Q kc ks pc ls (zv a :: st) n h :=
  zi_tabOut hd (by rw [zn_to ha.1]; exact ha.2) ht k
theorem zj_lookup {dflt off a : Int} {ps : Array (Int × Int)} {len t : Nat} (hd : zz_d M pc (.lookupswitch dflt ps) len q) (hp : (ps.toList.zip (ps.toList.drop 1)).all (fun (a, next) => a.1 < next.1) = true) (ha : -2147483648 ≤ a ∧ a < 2147483648) (ho : Op.lookupswitch.offset ps.toList dflt a = off) (ht : (pc : Int) + off = (t : Int)) (k : zz_Z X M d Q kc ks t ls st n h) : zz_Z X M d Q kc ks pc ls (zv a :: st) n h :=
  zi_lookup hd hp (by rw [zn_to ha]; exact ho) ht k
end ZJ
