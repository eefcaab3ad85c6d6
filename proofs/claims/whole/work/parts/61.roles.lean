/-! roles: what is included is the least closed set -/
abbrev IB (x : Int) : Prop := 0 ≤ x ∧ x < 256
def SB (a b : Int) : Prop := ∀ r, 0 ≤ r → r < 8 → zb_bit a r = true → zb_bit b r = true
theorem SB.rf (a : Int) : SB a a := fun _ _ _ h => h
theorem SB.tr {a b c : Int} (h1 : SB a b) (h2 : SB b c) : SB a c := fun r a1 a2 h => h2 r a1 a2 (h1 r a1 a2 h)
theorem ib_bit {x r : Int} (hx : IB x) (hr : 0 ≤ r ∧ r < 8) : zb_bit x r = x.toNat.testBit r.toNat := by
  have := zb_bit_nat x.toNat (by omega) r.toNat (by omega)
  rw [Int.toNat_of_nonneg hx.1, Int.toNat_of_nonneg hr.1] at this
  exact this
theorem ib_or {a b : Int} (ha : IB a) (hb : IB b) : IB (zb_or a b) ∧ ∀ r, 0 ≤ r → r < 8 → zb_bit (zb_or a b) r = (zb_bit a r || zb_bit b r) := by
  have e := zb_or_nat (m := a.toNat) (k := b.toNat) (by omega) (by omega)
  rw [Int.toNat_of_nonneg ha.1, Int.toNat_of_nonneg hb.1] at e
  have hlt : a.toNat ||| b.toNat < 2 ^ 8 := Nat.or_lt_two_pow (by omega) (by omega)
  have hI : IB (zb_or a b) := by rw [e]; constructor <;> omega
  refine ⟨hI, fun r h1 h2 => ?_⟩
  rw [ib_bit hI ⟨h1, h2⟩, ib_bit ha ⟨h1, h2⟩, ib_bit hb ⟨h1, h2⟩, e, Int.toNat_natCast, Nat.testBit_or]
theorem ib_ext {a b : Int} (ha : IB a) (hb : IB b) (h : ∀ r, 0 ≤ r → r < 8 → zb_bit a r = zb_bit b r) : a = b := by
  have : a.toNat = b.toNat := by
    refine Nat.eq_of_testBit_eq (fun i => ?_)
    by_cases hi : i < 8
    · have := h (i : Int) (by omega) (by omega)
      rw [ib_bit ha ⟨by omega, by omega⟩, ib_bit hb ⟨by omega, by omega⟩, Int.toNat_natCast] at this
      exact this
    · have hp : 2 ^ 8 ≤ 2 ^ i := Nat.pow_le_pow_right (by omega) (by omega)
      rw [Nat.testBit_lt_two_pow (by omega), Nat.testBit_lt_two_pow (by omega)]
  omega
theorem ib_shl {r : Int} (hr : 0 ≤ r ∧ r < 8) : IB (zb_shl 1 r) ∧ ∀ j, 0 ≤ j → j < 8 → zb_bit (zb_shl 1 r) j = decide (j = r) := by
  have key : ∀ r : Nat, r < 8 → (0 ≤ zb_shl 1 (r : Int) ∧ zb_shl 1 (r : Int) < 256) ∧ ∀ j : Nat, j < 8 → zb_bit (zb_shl 1 (r : Int)) (j : Int) = decide (j = r) := by decide +kernel
  obtain ⟨k1, k2⟩ := key r.toNat (by omega)
  rw [Int.toNat_of_nonneg hr.1] at k1 k2
  refine ⟨k1, fun j h1 h2 => ?_⟩
  have := k2 j.toNat (by omega)
  rw [Int.toNat_of_nonneg h1] at this
  rw [this]
  exact decide_eq_decide.2 (by omega)
theorem ib_zero {r : Int} (hr : 0 ≤ r ∧ r < 8) : zb_bit 0 r = false := by
  rw [ib_bit (by decide) hr]
  exact Nat.zero_testBit _
theorem SB.asymm {a b : Int} (ha : IB a) (hb : IB b) (h1 : SB a b) (h2 : SB b a) : a = b := ib_ext ha hb (fun r a1 a2 => by
  have h1 := h1 r a1 a2
  have h2 := h2 r a1 a2
  cases hx : zb_bit a r <;> cases hy : zb_bit b r
  · rfl
  · rw [hx, hy] at h2; exact absurd (h2 rfl) (by decide)
  · rw [hx, hy] at h1; exact absurd (h1 rfl) (by decide)
  · rfl)
theorem SB.orL {a b : Int} (ha : IB a) (hb : IB b) : SB a (zb_or a b) := fun r h1 h2 h => by rw [(ib_or ha hb).2 r h1 h2, h]; rfl
theorem SB.orR {a b : Int} (ha : IB a) (hb : IB b) : SB b (zb_or a b) := fun r h1 h2 h => by rw [(ib_or ha hb).2 r h1 h2, h]; simp
theorem SB.orI {a b c : Int} (ha : IB a) (hb : IB b) (h1 : SB a c) (h2 : SB b c) : SB (zb_or a b) c := fun r a1 a2 h => by
  rw [(ib_or ha hb).2 r a1 a2, Bool.or_eq_true] at h
  rcases h with h | h
  · exact h1 r a1 a2 h
  · exact h2 r a1 a2 h
theorem ic_up {g : Int → Int} (hg : rl_V g) : ∀ (k : Nat) (i all : Int), 0 ≤ i → i + k ≤ 8 → IB all → IB (ic_in g k i all) ∧ SB all (ic_in g k i all) := by
  intro k
  induction k with
  | zero => intro i all _ _ h; exact ⟨h, SB.rf _⟩
  | succ k ih =>
    intro i all h0 h1 h
    unfold ic_in
    have hgi := hg i h0 (by omega)
    by_cases hb : zb_bit all i = true
    · rw [if_pos hb]
      obtain ⟨a1, a2⟩ := ih (i + 1) (zb_or all (g i)) (by omega) (by omega) (ib_or h hgi).1
      exact ⟨a1, (SB.orL h hgi).tr a2⟩
    · rw [if_neg hb]
      exact ih (i + 1) all (by omega) (by omega) h
theorem ic_min {g : Int → Int} (hg : rl_V g) {Y : Int} (hY : ∀ r, 0 ≤ r → r < 8 → zb_bit Y r = true → SB (g r) Y) : ∀ (k : Nat) (i all : Int), 0 ≤ i → i + k ≤ 8 → IB all → SB all Y → SB (ic_in g k i all) Y := by
  intro k
  induction k with
  | zero => intro i all _ _ _ h; exact h
  | succ k ih =>
    intro i all h0 h1 h hs
    unfold ic_in
    have hgi := hg i h0 (by omega)
    by_cases hb : zb_bit all i = true
    · rw [if_pos hb]
      exact ih (i + 1) (zb_or all (g i)) (by omega) (by omega) (ib_or h hgi).1 (SB.orI h hgi hs (hY i h0 (by omega) (hs i h0 (by omega) hb)))
    · rw [if_neg hb]
      exact ih (i + 1) all (by omega) (by omega) h hs
theorem ic_fix {g : Int → Int} (hg : rl_V g) : ∀ (k : Nat) (i all : Int), 0 ≤ i → i + k ≤ 8 → IB all → ic_in g k i all = all → ∀ r, i ≤ r → r < i + k → zb_bit all r = true → SB (g r) all := by
  intro k
  induction k with
  | zero => intro i all _ _ _ _ r h1 h2; omega
  | succ k ih =>
    intro i all h0 h1 h he r hr1 hr2 hb
    unfold ic_in at he
    have hgi := hg i h0 (by omega)
    by_cases hbi : zb_bit all i = true
    · rw [if_pos hbi] at he
      have hI := (ib_or h hgi).1
      have hup := (ic_up hg k (i + 1) (zb_or all (g i)) (by omega) (by omega) hI).2
      rw [he] at hup
      have e : zb_or all (g i) = all := SB.asymm hI h hup (SB.orL h hgi)
      rw [e] at he
      by_cases hri : r = i
      · subst hri
        have := SB.orR h hgi
        rw [e] at this
        exact this
      · exact ih (i + 1) all (by omega) (by omega) h he r (by omega) (by omega) hb
    · rw [if_neg hbi] at he
      have hri : r ≠ i := fun e => hbi (e ▸ hb)
      exact ih (i + 1) all (by omega) (by omega) h he r (by omega) (by omega) hb
def ib_n (x : Int) : Int := bz (zb_bit x 0) + bz (zb_bit x 1) + bz (zb_bit x 2) + bz (zb_bit x 3) + bz (zb_bit x 4) + bz (zb_bit x 5) + bz (zb_bit x 6) + bz (zb_bit x 7)
theorem bz_le {a b : Bool} (h : a = true → b = true) : bz a ≤ bz b := by cases a <;> cases b <;> first | decide | (exact absurd (h rfl) (by decide))
theorem bz_inj {a b : Bool} (h : bz a = bz b) : a = b := by cases a <;> cases b <;> first | rfl | (exact absurd h (by decide))
theorem ib_lt {a b : Int} (ha : IB a) (hb : IB b) (h : SB a b) : a = b ∨ ib_n a < ib_n b := by
  have l0 := bz_le (h 0 (by decide) (by decide))
  have l1 := bz_le (h 1 (by decide) (by decide))
  have l2 := bz_le (h 2 (by decide) (by decide))
  have l3 := bz_le (h 3 (by decide) (by decide))
  have l4 := bz_le (h 4 (by decide) (by decide))
  have l5 := bz_le (h 5 (by decide) (by decide))
  have l6 := bz_le (h 6 (by decide) (by decide))
  have l7 := bz_le (h 7 (by decide) (by decide))
  unfold ib_n
  by_cases hs : ib_n a = ib_n b
  · left
    unfold ib_n at hs
    refine ib_ext ha hb (fun r h1 h2 => ?_)
    rcases (show r = 0 ∨ r = 1 ∨ r = 2 ∨ r = 3 ∨ r = 4 ∨ r = 5 ∨ r = 6 ∨ r = 7 by omega) with rfl | rfl | rfl | rfl | rfl | rfl | rfl | rfl <;> (refine bz_inj ?_; omega)
  · right
    unfold ib_n at hs
    omega
theorem ib_full {x : Int} (h : 8 ≤ ib_n x) : ∀ r, 0 ≤ r → r < 8 → zb_bit x r = true := by
  have k : ∀ b, bz b ≤ 1 := fun b => by cases b <;> decide
  have k0 := k (zb_bit x 0)
  have k1 := k (zb_bit x 1)
  have k2 := k (zb_bit x 2)
  have k3 := k (zb_bit x 3)
  have k4 := k (zb_bit x 4)
  have k5 := k (zb_bit x 5)
  have k6 := k (zb_bit x 6)
  have k7 := k (zb_bit x 7)
  unfold ib_n at h
  intro r h1 h2
  refine bz_inj (b := true) ?_
  show _ = (1 : Int)
  rcases (show r = 0 ∨ r = 1 ∨ r = 2 ∨ r = 3 ∨ r = 4 ∨ r = 5 ∨ r = 6 ∨ r = 7 by omega) with rfl | rfl | rfl | rfl | rfl | rfl | rfl | rfl <;> omega
theorem ib_n0 (x : Int) : 0 ≤ ib_n x := by
  have k : ∀ b, 0 ≤ bz b := fun b => by cases b <;> decide
  have k0 := k (zb_bit x 0)
  have k1 := k (zb_bit x 1)
  have k2 := k (zb_bit x 2)
  have k3 := k (zb_bit x 3)
  have k4 := k (zb_bit x 4)
  have k5 := k (zb_bit x 5)
  have k6 := k (zb_bit x 6)
  have k7 := k (zb_bit x 7)
  unfold ib_n
  omega
theorem io_fix {g : Int → Int} {all : Int} (h : ic_in g 8 0 all = all) : ∀ k, ic_out g k all = all := by
  intro k
  induction k with
  | zero => rfl
  | succ k ih => unfold ic_out; rw [h]; exact ih
theorem io_up {g : Int → Int} (hg : rl_V g) : ∀ (k : Nat) (all : Int), IB all → IB (ic_out g k all) ∧ SB all (ic_out g k all) := by
  intro k
  induction k with
  | zero => intro all h; exact ⟨h, SB.rf _⟩
  | succ k ih =>
    intro all h
    obtain ⟨a1, a2⟩ := ic_up hg 8 0 all (by omega) (by omega) h
    obtain ⟨b1, b2⟩ := ih _ a1
    exact ⟨b1, a2.tr b2⟩
theorem io_min {g : Int → Int} (hg : rl_V g) {Y : Int} (hY : ∀ r, 0 ≤ r → r < 8 → zb_bit Y r = true → SB (g r) Y) : ∀ (k : Nat) (all : Int), IB all → SB all Y → SB (ic_out g k all) Y := by
  intro k
  induction k with
  | zero => intro all _ h; exact h
  | succ k ih =>
    intro all h hs
    exact ih _ (ic_up hg 8 0 all (by omega) (by omega) h).1 (ic_min hg hY 8 0 all (by omega) (by omega) h hs)
theorem io_st {g : Int → Int} (hg : rl_V g) : ∀ (k : Nat) (all : Int), IB all → ic_in g 8 0 (ic_out g k all) = ic_out g k all ∨ (k : Int) + ib_n all ≤ ib_n (ic_out g k all) := by
  intro k
  induction k with
  | zero => intro all _; right; unfold ic_out; omega
  | succ k ih =>
    intro all h
    obtain ⟨a1, a2⟩ := ic_up hg 8 0 all (by omega) (by omega) h
    rcases ib_lt h a1 a2 with e | e
    · left
      have := io_fix e.symm (k + 1)
      rw [this]
      exact e.symm
    · unfold ic_out
      rcases ih _ a1 with e2 | e2
      · exact Or.inl e2
      · right; omega
def CL (g : Int → Int) (st X : Int) : Prop := IB X ∧ SB st X ∧ (∀ r, 0 ≤ r → r < 8 → zb_bit X r = true → SB (g r) X) ∧ ∀ Y, IB Y → SB st Y → (∀ r, 0 ≤ r → r < 8 → zb_bit Y r = true → SB (g r) Y) → SB X Y
theorem CL.un {g : Int → Int} {st X Y : Int} (h1 : CL g st X) (h2 : CL g st Y) : X = Y :=
  SB.asymm h1.1 h2.1 (h1.2.2.2 Y h2.1 h2.2.1 h2.2.2.1) (h2.2.2.2 X h1.1 h1.2.1 h1.2.2.1)
theorem io_CL {g : Int → Int} (hg : rl_V g) {st : Int} (h : IB st) : CL g st (ic_out g 8 st) := by
  obtain ⟨a1, a2⟩ := io_up hg 8 st h
  have hf : ic_in g 8 0 (ic_out g 8 st) = ic_out g 8 st := by
    rcases io_st hg 8 st h with e | e
    · exact e
    · obtain ⟨b1, b2⟩ := ic_up hg 8 0 _ (by omega) (by omega) a1
      have hn := ib_n0 st
      have hfu := ib_full (x := ic_out g 8 st) (by omega)
      exact SB.asymm b1 a1 (fun r h1 h2 _ => hfu r h1 h2) b2
  exact ⟨a1, a2, fun r h1 h2 hb => ic_fix hg 8 0 _ (by omega) (by omega) a1 hf r h1 (by omega) hb, fun Y _ hs hY => io_min hg hY 8 st h hs⟩
/-- the class's rows beside the model's -/
def RR (a g : Int → Int) : Prop := rl_V g ∧ ∀ r, 0 ≤ r → r < 8 → CL g (zb_shl 1 r) (a r)
theorem RR.eq {a g : Int → Int} (R : RR a g) {r : Int} (hr : 0 ≤ r ∧ r < 8) : ic_out g 8 (zb_shl 1 r) = a r := (io_CL R.1 (ib_shl hr).1).un (R.2 r hr.1 hr.2)
theorem RR.ini {a : Int → Int} (h : ∀ j, 0 ≤ j → j < 8 → a j = zb_shl 1 j) : RR a (fun _ => 0) := by
  refine ⟨fun _ _ _ => (by show (0 : Int) ≤ 0 ∧ (0 : Int) < 256; decide), fun r h1 h2 => ?_⟩
  rw [h r h1 h2]
  obtain ⟨a1, a2⟩ := ib_shl ⟨h1, h2⟩
  exact ⟨a1, SB.rf _, fun j j1 j2 _ k k1 k2 hk => (by rw [ib_zero ⟨k1, k2⟩] at hk; exact absurd hk (by decide)), fun Y _ hs _ => hs⟩
theorem RR.add {a a' g : Int → Int} (R : RR a g) {r s : Int} (hr : 0 ≤ r ∧ r < 8) (hs : 0 ≤ s ∧ s < 8) (ha' : ∀ j, 0 ≤ j → j < 8 → a' j = rl_add a r s j) : RR a' (zU g r (zb_or (g r) (zb_shl 1 s))) := by
  obtain ⟨hg, hc⟩ := R
  have hgr := hg r hr.1 hr.2
  obtain ⟨s1, s2⟩ := ib_shl hs
  have hor := ib_or hgr s1
  have hg' : rl_V (zU g r (zb_or (g r) (zb_shl 1 s))) := fun i h1 h2 => by
    unfold zU
    split
    · exact hor.1
    · exact hg i h1 h2
  have gle : ∀ i, SB (g i) (zU g r (zb_or (g r) (zb_shl 1 s)) i) := fun i => by
    unfold zU
    split
    · rename_i e
      rw [e]
      exact SB.orL hgr s1
    · exact SB.rf _
  have hcs := hc s hs.1 hs.2
  refine ⟨hg', fun i h1 h2 => ?_⟩
  rw [ha' i h1 h2]
  have hci := hc i h1 h2
  have hss : zb_bit (a s) s = true := hcs.2.1 s hs.1 hs.2 (by rw [s2 s hs.1 hs.2]; exact decide_eq_true rfl)
  unfold rl_add
  by_cases hb : zb_bit (a i) r = true
  · rw [if_pos hb]
    refine ⟨(ib_or hci.1 hcs.1).1, hci.2.1.tr (SB.orL hci.1 hcs.1), fun x x1 x2 hx => ?_, fun Y yi ys yc => ?_⟩
    · have hgx : SB (g x) (zb_or (a i) (a s)) := by
        rw [(ib_or hci.1 hcs.1).2 x x1 x2, Bool.or_eq_true] at hx
        rcases hx with hx | hx
        · exact (hci.2.2.1 x x1 x2 hx).tr (SB.orL hci.1 hcs.1)
        · exact (hcs.2.2.1 x x1 x2 hx).tr (SB.orR hci.1 hcs.1)
      by_cases hxr : x = r
      · subst hxr
        rw [zU_eq]
        refine SB.orI hgr s1 hgx (fun j j1 j2 hj => ?_)
        rw [s2 j j1 j2] at hj
        have := of_decide_eq_true hj
        subst this
        exact SB.orR hci.1 hcs.1 j j1 j2 hss
      · rw [zU_ne hxr]
        exact hgx
    · have yc' : ∀ x, 0 ≤ x → x < 8 → zb_bit Y x = true → SB (g x) Y := fun x x1 x2 hx => (gle x).tr (yc x x1 x2 hx)
      have y1 := hci.2.2.2 Y yi ys yc'
      have yr := yc r hr.1 hr.2 (y1 r hr.1 hr.2 hb)
      rw [zU_eq] at yr
      have y2 := hcs.2.2.2 Y yi ((SB.orR hgr s1).tr yr) yc'
      exact SB.orI hci.1 hcs.1 y1 y2
  · rw [if_neg hb]
    refine ⟨hci.1, hci.2.1, fun x x1 x2 hx => ?_, fun Y yi ys yc => hci.2.2.2 Y yi ys (fun x x1 x2 hx => (gle x).tr (yc x x1 x2 hx))⟩
    have hxr : x ≠ r := fun e => hb (e ▸ hx)
    rw [zU_ne hxr]
    exact hci.2.2.1 x x1 x2 hx
theorem rl_sp {a : Int → Int} (ha : rl_V a) {gv : Int} : ∀ (k : Nat) (i all : Int), 0 ≤ i → i + k ≤ 8 → IB all → IB (rl_inc a gv k i all) ∧ SB all (rl_inc a gv k i all) ∧ (∀ r, i ≤ r → r < i + k → zb_bit gv r = true → SB (a r) (rl_inc a gv k i all)) ∧ ∀ Y, SB all Y → (∀ r, i ≤ r → r < i + k → zb_bit gv r = true → SB (a r) Y) → SB (rl_inc a gv k i all) Y := by
  intro k
  induction k with
  | zero => intro i all _ _ h; exact ⟨h, SB.rf _, fun r h1 h2 => by omega, fun Y h1 _ => h1⟩
  | succ k ih =>
    intro i all h0 h1 h
    unfold rl_inc
    have hai := ha i h0 (by omega)
    by_cases hb : zb_bit gv i = true
    · rw [if_pos hb]
      obtain ⟨a1, a2, a3, a4⟩ := ih (i + 1) (zb_or all (a i)) (by omega) (by omega) (ib_or h hai).1
      refine ⟨a1, (SB.orL h hai).tr a2, fun r r1 r2 hr => ?_, fun Y y1 y2 => a4 Y (SB.orI h hai y1 (y2 i (by omega) (by omega) hb)) (fun r r1 r2 hr => y2 r (by omega) (by omega) hr)⟩
      by_cases e : r = i
      · subst e
        exact (SB.orR h hai).tr a2
      · exact a3 r (by omega) (by omega) hr
    · rw [if_neg hb]
      obtain ⟨a1, a2, a3, a4⟩ := ih (i + 1) all (by omega) (by omega) h
      refine ⟨a1, a2, fun r r1 r2 hr => ?_, fun Y y1 y2 => a4 Y y1 (fun r r1 r2 hr => y2 r (by omega) (by omega) hr)⟩
      by_cases e : r = i
      · subst e; exact absurd hr hb
      · exact a3 r (by omega) (by omega) hr
theorem RR.held {a g : Int → Int} (R : RR a g) (ha : rl_V a) {gv : Int} (h : IB gv) : rl_inc a gv 8 0 0 = ic_out g 8 gv := by
  obtain ⟨a1, a2, a3, a4⟩ := rl_sp ha (gv := gv) 8 0 0 (by omega) (by omega) (by decide)
  refine CL.un (g := g) (st := gv) ⟨a1, fun r h1 h2 hb => ?_, fun x x1 x2 hx => ?_, fun Y yi ys yc => ?_⟩ (io_CL R.1 h)
  · refine a3 r h1 (by omega) hb r h1 h2 ((R.2 r h1 h2).2.1 r h1 h2 ?_)
    rw [(ib_shl ⟨h1, h2⟩).2 r h1 h2]
    exact decide_eq_true rfl
  · have hcx := R.2 x x1 x2
    have key : ∃ r, (0 ≤ r ∧ r < 8) ∧ zb_bit gv r = true ∧ zb_bit (a r) x = true := by
      apply Classical.byContradiction
      intro hno
      have hz : SB (rl_inc a gv 8 0 0) (if x = 0 then 254 else 255 - (2 : Int) ^ x.toNat) := by
        refine a4 _ (fun r r1 r2 hr => by rw [ib_zero ⟨r1, r2⟩] at hr; exact absurd hr (by decide)) (fun r r1 r2 hr y y1 y2 hy => ?_)
        have hxy : y ≠ x := fun e => hno ⟨r, ⟨r1, by omega⟩, hr, e ▸ hy⟩
        have tab : ∀ x : Nat, x < 8 → ∀ y : Nat, y < 8 → y ≠ x → zb_bit (if (x : Int) = 0 then 254 else 255 - (2 : Int) ^ ((x : Int)).toNat) (y : Int) = true := by decide +kernel
        have := tab x.toNat (by omega) y.toNat (by omega) (by omega)
        rw [Int.toNat_of_nonneg x1, Int.toNat_of_nonneg y1] at this
        exact this
      have h3 := hz x x1 x2 hx
      have tab : ∀ x : Nat, x < 8 → zb_bit (if (x : Int) = 0 then 254 else 255 - (2 : Int) ^ ((x : Int)).toNat) (x : Int) = false := by decide +kernel
      have := tab x.toNat (by omega)
      rw [Int.toNat_of_nonneg x1] at this
      exact absurd (h3.symm.trans this) (by decide)
    obtain ⟨r, ⟨r1, r2⟩, hr, hx2⟩ := key
    exact ((R.2 r r1 r2).2.2.1 x x1 x2 hx2).tr (a3 r r1 (by omega) hr)
  · refine a4 Y (fun r r1 r2 hr => by rw [ib_zero ⟨r1, r2⟩] at hr; exact absurd hr (by decide)) (fun r r1 r2 hr => (R.2 r r1 (by omega)).2.2.2 Y yi (fun j j1 j2 hj => ?_) yc)
    rw [(ib_shl ⟨r1, by omega⟩).2 j j1 j2] at hj
    have := of_decide_eq_true hj
    subst this
    exact ys j j1 j2 hr
