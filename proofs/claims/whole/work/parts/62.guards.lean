/-! services: the conditions that stand at them -/
def RS (SL : List (Nat × sd)) (sz : Int) (B : Nat → Int → Int) : Prop :=
  (∀ (k : Nat) (p : Nat × sd), SL[k]? = some p → (p.2.1 = B 34 k ∧ p.2.2.1 = B 35 k ∧ p.2.2.2.1 = B 36 k) ∧ (B 34 k < k ∧ B 35 k < k ∧ B 36 k < sz) ∧ ∀ op, 0 ≤ op → op < 4 → p.2.2.2.2.1 op = B 37 (4 * k + op) ∧ p.2.2.2.2.2 op = B 38 (4 * k + op) ∧ (B 37 (4 * k + op) = 1 → B 38 (4 * k + op) < sz)) ∧ (∀ i, 4 * (SL.length : Int) ≤ i → i < 24 → B 37 i = 0 ∧ B 38 i = 0) ∧ SL.length ≤ 6 ∧ md_T B ∧ 0 ≤ sz
section RS
variable {SL : List (Nat × sd)} {sz : Int} {B : Nat → Int → Int}
theorem RS.get (R : RS SL sz B) {t : Int} (ht : 0 ≤ t ∧ t < (SL.length : Int)) : ∃ p, SL[t.toNat]? = some p ∧ (p.2.1 = B 34 t ∧ p.2.2.1 = B 35 t ∧ p.2.2.2.1 = B 36 t) ∧ (-1 ≤ B 34 t ∧ B 34 t < t ∧ -1 ≤ B 35 t ∧ B 35 t < t ∧ -1 ≤ B 36 t ∧ B 36 t < sz) ∧ ∀ op, 0 ≤ op → op < 4 → p.2.2.2.2.1 op = B 37 (4 * t + op) ∧ p.2.2.2.2.2 op = B 38 (4 * t + op) ∧ (B 37 (4 * t + op) = 1 → B 38 (4 * t + op) < sz) ∧ (B 37 (4 * t + op) = 0 ∨ B 37 (4 * t + op) = 1) ∧ -1 ≤ B 38 (4 * t + op) := by
  obtain ⟨r1, r2, r3, r4, r5⟩ := R
  have hl : t.toNat < SL.length := by omega
  obtain ⟨h1, h2, h3⟩ := r1 t.toNat _ (List.getElem?_eq_getElem hl)
  rw [Int.toNat_of_nonneg ht.1] at h1 h2 h3
  have hT := r4.1 t ht.1 (by omega)
  refine ⟨_, List.getElem?_eq_getElem hl, h1, ⟨hT.1.1, h2.1, hT.2.1.1, h2.2.1, hT.2.2.1, h2.2.2⟩, fun op o1 o2 => ?_⟩
  obtain ⟨a1, a2, a3⟩ := h3 op o1 o2
  have hT2 := r4.2 (4 * t + op) (by omega) (by omega)
  exact ⟨a1, a2, a3, hT2.1, hT2.2.1⟩
theorem RS.cd (R : RS SL sz B) {t op : Int} (ho : 0 ≤ op ∧ op < 4) (ht : t < (SL.length : Int)) : cd_at SL t op = (if 0 ≤ t ∧ B 37 (4 * t + op) = 1 then mc_at B op t else -1) ∧ -1 ≤ cd_at SL t op ∧ cd_at SL t op < sz := by
  have h0 := R.2.2.2.2
  unfold cd_at sl_at
  by_cases h : 0 ≤ t
  · obtain ⟨p, hp, ⟨p1, p2, p3⟩, q, r⟩ := R.get ⟨h, ht⟩
    rw [if_pos h, hp]
    obtain ⟨a1, a2, a3, a4, a5⟩ := r op ho.1 ho.2
    dsimp only
    unfold sv_cd sv_dc mc_at
    rw [a1, a2, p3]
    by_cases hd : B 37 (4 * t + op) = 1
    · have := a3 hd
      rw [if_pos (show 0 ≤ op ∧ op < 4 ∧ B 37 (4 * t + op) = 1 from ⟨ho.1, ho.2, hd⟩), if_pos (show 0 ≤ t ∧ B 37 (4 * t + op) = 1 from ⟨h, hd⟩)]
      refine ⟨?_, ?_, ?_⟩ <;> ((repeat' split) <;> omega)
    · rw [if_neg (show ¬ (0 ≤ op ∧ op < 4 ∧ B 37 (4 * t + op) = 1) from fun hh => hd hh.2.2), if_neg (fun hh => hd hh.2)]
      exact ⟨rfl, by omega, by omega⟩
  · rw [if_neg h, if_neg (fun hh => h hh.1)]
    exact ⟨rfl, by show (-1 : Int) ≤ -1; omega, by show (-1 : Int) < sz; omega⟩
theorem RS.wl (R : RS SL sz B) {op : Int} (ho : 0 ≤ op ∧ op < 4) : ∀ (k : Nat) (t : Int), -1 ≤ t → t < (k : Int) → t < (SL.length : Int) → (ty_of SL op k t = -1 ∧ wl_run B op k t = -1) ∨ (ty_of SL op k t = wl_run B op k t ∧ (0 ≤ wl_run B op k t ∧ wl_run B op k t < (SL.length : Int)) ∧ B 37 (4 * wl_run B op k t + op) = 1) := by
  intro k
  induction k with
  | zero => intro t h1 h2 h3; exact Or.inl ⟨rfl, by unfold wl_run; omega⟩
  | succ k ih =>
    intro t h1 h2 h3
    unfold ty_of wl_run sl_at
    by_cases h : 0 ≤ t
    · obtain ⟨p, hp, ⟨p1, p2, p3⟩, q, r⟩ := R.get ⟨h, h3⟩
      rw [if_pos h, hp]
      obtain ⟨a1, a2, a3, a4, a5⟩ := r op ho.1 ho.2
      dsimp only
      unfold sv_dc
      rw [a1]
      by_cases hd : B 37 (4 * t + op) = 1
      · rw [if_pos ⟨ho.1, ho.2, hd⟩, if_neg (by omega)]
        exact Or.inr ⟨rfl, ⟨h, h3⟩, hd⟩
      · rw [if_neg (fun hh => hd hh.2.2), if_pos (by omega), p1]
        exact ih (B 34 t) q.1 (by omega) (by omega)
    · rw [if_neg h, if_neg (by omega)]
      exact Or.inl ⟨rfl, by omega⟩
theorem RS.gl (R : RS SL sz B) {op : Int} (ho : 0 ≤ op ∧ op < 4) : ∀ (k : Nat) (t g : Int), -1 ≤ t → t < (k : Int) → t < (SL.length : Int) → -1 ≤ g → gl_run B op k t g = (if g = -1 then cf_of SL op k t else g) ∧ -1 ≤ cf_of SL op k t ∧ cf_of SL op k t < sz := by
  have h0 := R.2.2.2.2
  intro k
  induction k with
  | zero =>
    intro t g h1 h2 h3 hg
    unfold gl_run cf_of
    exact ⟨by split <;> omega, by omega, by omega⟩
  | succ k ih =>
    intro t g h1 h2 h3 hg
    unfold gl_run cf_of sl_at
    by_cases h : 0 ≤ t
    · obtain ⟨p, hp, ⟨p1, p2, p3⟩, q, r⟩ := R.get ⟨h, h3⟩
      rw [if_pos h, hp, if_neg (by omega)]
      dsimp only
      rw [p1, p2]
      obtain ⟨c1, c2, c3⟩ := R.cd (t := B 35 t) ho (by omega)
      have e : (if g < 0 ∧ 0 ≤ B 35 t ∧ B 37 (4 * B 35 t + op) = 1 then mc_at B op (B 35 t) else g) = (if g = -1 then cd_at SL (B 35 t) op else g) := by
        rw [c1]
        by_cases hx : 0 ≤ B 35 t ∧ B 37 (4 * B 35 t + op) = 1
        · rw [if_pos hx]
          by_cases hgg : g = -1
          · rw [if_pos ⟨by omega, hx⟩, if_pos hgg]
          · rw [if_neg (fun hh => hgg (by omega)), if_neg hgg]
        · rw [if_neg (fun hh => hx hh.2), if_neg hx]
          split <;> omega
      rw [e]
      obtain ⟨i1, i2, i3⟩ := ih (B 34 t) (if g = -1 then cd_at SL (B 35 t) op else g) q.1 (by omega) (by omega) (by split <;> omega)
      rw [i1]
      refine ⟨?_, ?_, ?_⟩
      · by_cases hgg : g = -1
        · rw [if_pos hgg, if_pos hgg]
        · rw [if_neg hgg, if_neg hgg, if_neg hgg]
      · split <;> omega
      · split <;> omega
    · rw [if_neg h, if_pos (by omega)]
      exact ⟨by split <;> first | omega | rfl, by show (-1 : Int) ≤ -1; omega, by show (-1 : Int) < sz; omega⟩
/-- which type runs, and what guards it -/
theorem RS.gd (R : RS SL sz B) {t op : Int} (ho : 0 ≤ op ∧ op < 4) (ht : 0 ≤ t ∧ t < (SL.length : Int)) : (ty_of SL op 6 t = -1 ∧ wl_run B op 6 t = -1) ∨ (ty_of SL op 6 t ≠ -1 ∧ 0 ≤ wl_run B op 6 t ∧ gl_run B op 6 t (mc_at B op (wl_run B op 6 t)) = gd_of SL t op ∧ -1 ≤ gd_of SL t op ∧ gd_of SL t op < sz) := by
  have hl := R.2.2.1
  rcases R.wl ho 6 t (by omega) (by omega) ht.2 with h | ⟨h1, h2, h3⟩
  · exact Or.inl h
  · right
    refine ⟨by omega, h2.1, ?_⟩
    obtain ⟨c1, c2, c3⟩ := R.cd (t := wl_run B op 6 t) ho h2.2
    rw [if_pos ⟨h2.1, h3⟩] at c1
    unfold gd_of
    rw [h1, ← c1]
    obtain ⟨g1, g2, g3⟩ := R.gl ho 6 t (cd_at SL (wl_run B op 6 t) op) (by omega) (by omega) ht.2 c2
    rw [g1]
    exact ⟨rfl, by split <;> omega, by split <;> omega⟩
theorem RS.mono (R : RS SL sz B) {sz' : Int} (h : sz ≤ sz') : RS SL sz' B := by
  obtain ⟨r1, r2, r3, r4, r5⟩ := R
  refine ⟨fun k p hp => ?_, r2, r3, r4, by omega⟩
  obtain ⟨a, b, c⟩ := r1 k p hp
  exact ⟨a, ⟨b.1, b.2.1, by omega⟩, fun op o1 o2 => ⟨(c op o1 o2).1, (c op o1 o2).2.1, fun hd => by have := (c op o1 o2).2.2 hd; omega⟩⟩
theorem RS.cg (R : RS SL sz B) {B' : Nat → Int → Int} (h : B' 34 = B 34 ∧ B' 35 = B 35 ∧ B' 36 = B 36 ∧ B' 37 = B 37 ∧ B' 38 = B 38) : RS SL sz B' := by
  obtain ⟨h1, h2, h3, h4, h5⟩ := h
  unfold RS md_T at R ⊢
  rw [h1, h2, h3, h4, h5]
  exact R
/-- a service more -/
theorem RS.app (R : RS SL sz B) {n : Nat} {pa fa c : Int} (hl : SL.length < 6) (hp : -1 ≤ pa ∧ pa < (SL.length : Int)) (hf : -1 ≤ fa ∧ fa < (SL.length : Int)) (hc : -1 ≤ c ∧ c < sz) (hz : sz ≤ 16) {B' : Nat → Int → Int} (h4 : B' 34 = zU (B 34) (SL.length : Int) pa) (h5 : B' 35 = zU (B 35) (SL.length : Int) fa) (h6 : B' 36 = zU (B 36) (SL.length : Int) c) (h7 : B' 37 = B 37) (h8 : B' 38 = B 38) : RS (SL ++ [(n, (pa, fa, c, (fun _ => 0), (fun _ => 0)))]) sz B' := by
  obtain ⟨r1, r2, r3, r4, r5⟩ := R
  refine ⟨fun k p hk => ?_, fun i h1 h2 => ?_, by simp; omega, ?_, r5⟩
  · rw [h4, h5, h6, h7, h8]
    rcases Nat.lt_or_ge k SL.length with hlt | hge
    · rw [List.getElem?_append_left hlt] at hk
      obtain ⟨a, b, c⟩ := r1 k p hk
      rw [zU_ne (by omega), zU_ne (by omega), zU_ne (by omega)]
      exact ⟨a, b, c⟩
    · rw [List.getElem?_append_right hge] at hk
      have hke : k = SL.length := by
        rcases Nat.eq_or_lt_of_le hge with e | e
        · exact e.symm
        · rw [List.getElem?_eq_none (by simp; omega)] at hk
          exact absurd hk (by simp)
      subst hke
      simp at hk
      subst hk
      rw [zU_eq, zU_eq, zU_eq]
      refine ⟨⟨rfl, rfl, rfl⟩, ⟨by omega, by omega, by omega⟩, fun op o1 o2 => ?_⟩
      have := r2 (4 * (SL.length : Int) + op) (by omega) (by omega)
      exact ⟨this.1.symm, this.2.symm, fun hh => by omega⟩
  · rw [h7, h8]
    rw [List.length_append] at h1
    simp at h1
    exact r2 i (by omega) h2
  · unfold md_T at r4 ⊢
    rw [h4, h5, h6, h7, h8]
    refine ⟨fun t t1 t2 => ?_, r4.2⟩
    obtain ⟨x, y, z⟩ := r4.1 t t1 t2
    unfold zU
    refine ⟨?_, ?_, ?_⟩ <;> (split <;> omega)
/-- a method declared -/
theorem RS.dec (R : RS SL sz B) {t op c : Int} {p : Nat × sd} (ht : 0 ≤ t ∧ t < (SL.length : Int)) (ho : 0 ≤ op ∧ op < 4) (hc : -1 ≤ c ∧ c < sz) (hz : sz ≤ 16) (hp : SL[t.toNat]? = some p) {B' : Nat → Int → Int} (h4 : B' 34 = B 34) (h5 : B' 35 = B 35) (h6 : B' 36 = B 36) (h7 : B' 37 = zU (B 37) (4 * t + op) 1) (h8 : B' 38 = zU (B 38) (4 * t + op) c) : RS (SL.set t.toNat (p.1, (p.2.1, p.2.2.1, p.2.2.2.1, zU p.2.2.2.2.1 op 1, zU p.2.2.2.2.2 op c))) sz B' := by
  obtain ⟨r1, r2, r3, r4, r5⟩ := R
  refine ⟨fun k q hk => ?_, fun i h1 h2 => ?_, by simpa using r3, ?_, r5⟩
  · rw [h4, h5, h6, h7, h8]
    rw [List.getElem?_set] at hk
    by_cases e : t.toNat = k
    · rw [if_pos e, if_pos (by omega)] at hk
      injection hk with hk
      subst hk
      rw [e] at hp
      obtain ⟨a, b, d⟩ := r1 k p hp
      refine ⟨a, b, fun o o1 o2 => ?_⟩
      dsimp only
      have hkt : (k : Int) = t := by omega
      rw [hkt] at d ⊢
      obtain ⟨d1, d2, d3⟩ := d o o1 o2
      by_cases eo : o = op
      · subst eo
        rw [zU_eq, zU_eq, zU_eq, zU_eq]
        exact ⟨rfl, rfl, fun _ => hc.2⟩
      · rw [zU_ne eo, zU_ne eo, zU_ne (by omega), zU_ne (by omega)]
        exact ⟨d1, d2, d3⟩
    · rw [if_neg e] at hk
      obtain ⟨a, b, d⟩ := r1 k q hk
      refine ⟨a, b, fun o o1 o2 => ?_⟩
      rw [zU_ne (by omega), zU_ne (by omega)]
      exact d o o1 o2
  · rw [List.length_set] at h1
    rw [h7, h8, zU_ne (by omega), zU_ne (by omega)]
    exact r2 i h1 h2
  · unfold md_T at r4 ⊢
    rw [h4, h5, h6, h7, h8]
    refine ⟨r4.1, fun i i1 i2 => ?_⟩
    obtain ⟨x, y⟩ := r4.2 i i1 i2
    unfold zU
    refine ⟨?_, ?_⟩ <;> (split <;> omega)
end RS
