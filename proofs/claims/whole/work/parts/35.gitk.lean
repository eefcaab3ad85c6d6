/-! the ticket lists, as the gate has them -/
theorem va_up_id {α : Type} (f : Nat → α) (k : Nat) : va_up f k (f k) = f := by
  funext j
  unfold va_up
  split
  · rename_i hj; rw [hj]
  · rfl
theorem tkc.filter {T : List (Nat × td)} (h : tkc T) (p : Nat × td → Bool) : tkc (T.filter p) := fun u => by
  have h1 : ((T.filter p).filter (fun p => decide (p.2.1 = u))) = ((T.filter (fun p => decide (p.2.1 = u))).filter p) := by
    rw [List.filter_filter, List.filter_filter]
    congr 1
    funext x
    exact Bool.and_comm _ _
  rw [h1]
  exact Nat.le_trans (List.length_filter_le _ _) (h u)
theorem tk_cp {X : zz_X} {n al ea ea' : Nat} {h h' : zz_H} {T T' : List (Nat × td)} (P : tk_P X h al ea T) (P' : tk_P X h' al ea' T') (hlt : ∀ a e, h a = some e → a < n) (hfr : ∀ a, a < n → a ≠ al → (a ≠ ea ∨ ∃ f, h a = some (zQ 4 0 f)) → h' a = h a) : cp h h' := fun a ci vs ha => by
  obtain ⟨kd, N, f, hq⟩ := P.q
  obtain ⟨mc, ho⟩ := P.obj
  obtain ⟨mc', ho'⟩ := P'.obj
  by_cases hal : a = al
  · subst hal
    rw [ho] at ha
    cases ha
    exact ⟨_, ho'⟩
  · exact ⟨vs, by rw [hfr a (hlt _ _ ha) hal (Or.inl (zz_ne2 ha hq))]; exact ha⟩
theorem nd_filter {T1 T2 : List (Nat × td)} (p : Nat × td → Bool) (h : ((T1 ++ T2).map Prod.fst).Nodup) : ((T1.filter p ++ T2).map Prod.fst).Nodup := h.sublist (List.Sublist.map _ (List.Sublist.append List.filter_sublist (List.Sublist.refl _)))
theorem nd_filter2 {T1 T2 : List (Nat × td)} (p : Nat × td → Bool) (h : ((T1 ++ T2).map Prod.fst).Nodup) : ((T1 ++ T2.filter p).map Prod.fst).Nodup := h.sublist (List.Sublist.map _ (List.Sublist.append (List.Sublist.refl _) List.filter_sublist))
/-- objects beyond the gate's cells stay -/
def kp (b : Nat) (h h' : zz_H) : Prop := ∀ a x, h a = some (.inr x) → b + 64 ≤ a → h' a = h a
section GT
variable {X : zz_X} {b : Nat} {h : zz_H} {S : Nat → Int} {A : Nat → Int → Int} {E : Nat → Nat} {RL : List (Nat × rd)} {UL : List (Nat × ud)} {SL : List (Nat × sd)} {T1 T2 : List (Nat × td)}
theorem GI.t1 (G : GI X b h S A E RL UL SL T1 T2) : tk_P X h (b + 22) (E 3) T1 := by
  have h1 : h (b + 22) = some (.inr (12, [.ref (E 3), zv (S 20), zv (S 21)])) := G.1 22 (by decide)
  rw [G.2.1.2.2.2.2.2.2.2.1.2.2.2.1] at h1
  exact G.2.2.2.2.2.2.1.P h1
theorem GI.t2 (G : GI X b h S A E RL UL SL T1 T2) : tk_P X h (b + 24) (E 4) T2 := by
  have h1 : h (b + 24) = some (.inr (12, [.ref (E 4), zv (S 22), zv (S 23)])) := G.1 24 (by decide)
  rw [G.2.1.2.2.2.2.2.2.2.1.2.2.2.2] at h1
  exact G.2.2.2.2.2.2.2.1.P h1
/-- the gate's own cells aren't arrays of objects -/
theorem GI.nE (G : GI X b h S A E RL UL SL T1 T2) {j : Nat} (hj : j < 25) {k : Nat} (hk : k < 5) : b + j ≠ E k := by
  obtain ⟨kd, N, f, hq⟩ := G.2.2.qE k hk
  intro e
  have h1 := G.1 j hj
  rw [e, hq] at h1
  exact cl_nq j hj h1.symm
theorem GI.frc (G : GI X b h S A E RL UL SL T1 T2) {n al k : Nat} {h' : zz_H} (hk : k < 5) (hlt : ∀ a e, h a = some e → a < n) (hfr : ∀ a, a < n → a ≠ al → (a ≠ E k ∨ ∃ f, h a = some (zQ 4 0 f)) → h' a = h a) : ∀ j, j < 25 → b + j ≠ al → h' (b + j) = h (b + j) := fun j hj hne => by
  refine hfr _ ?_ hne (Or.inl (G.nE hj hk))
  have h1 := G.1 j hj
  have hne : cl_c b S A E j ≠ none := by
    rcases (show j = 0 ∨ j = 1 ∨ j = 2 ∨ j = 3 ∨ j = 4 ∨ j = 5 ∨ j = 6 ∨ j = 7 ∨ j = 8 ∨ j = 9 ∨ j = 10 ∨ j = 11 ∨ j = 12 ∨ j = 13 ∨ j = 14 ∨ j = 15 ∨ j = 16 ∨ j = 17 ∨ j = 18 ∨ j = 19 ∨ j = 20 ∨ j = 21 ∨ j = 22 ∨ j = 23 ∨ j = 24 by omega) with rfl | rfl | rfl | rfl | rfl | rfl | rfl | rfl | rfl | rfl | rfl | rfl | rfl | rfl | rfl | rfl | rfl | rfl | rfl | rfl | rfl | rfl | rfl | rfl | rfl <;> (intro hx; cases hx)
  cases hc : cl_c b S A E j with
  | none => exact absurd hc hne
  | some e => rw [hc] at h1; exact hlt _ _ h1
theorem gi_P.t1 {T1' : List (Nat × td)} {y : Int} (P : gi_P S A RL UL SL T1 T2) (hc : tkc T1') : gi_P (va_up (va_up S 20 (T1'.length : Int)) 21 y) A RL UL SL T1' T2 := by
  obtain ⟨p1, p2, p3, p4, p5, p6, p7, ⟨p8, p9, p10, p11, p12⟩, p13, p14, p15, p16, p17⟩ := P
  exact ⟨p1, p2, p3, p4, p5, p6, p7, ⟨p8, p9, p10, rfl, p12⟩, p13, p14, p15, hc, p17⟩
theorem gi_P.t2 {T2' : List (Nat × td)} {y : Int} (P : gi_P S A RL UL SL T1 T2) (hc : tkc T2') : gi_P (va_up (va_up S 22 (T2'.length : Int)) 23 y) A RL UL SL T1 T2' := by
  obtain ⟨p1, p2, p3, p4, p5, p6, p7, ⟨p8, p9, p10, p11, p12⟩, p13, p14, p15, p16, p17⟩ := P
  exact ⟨p1, p2, p3, p4, p5, p6, p7, ⟨p8, p9, p10, p11, rfl⟩, p13, p14, p15, p16, hc⟩
theorem up14 {k y : Nat} {x z : Int} (hk : 14 ≤ k) (hy : 14 ≤ y) : ∀ i, i < 14 → va_up (va_up S k x) y z i = S i := fun i hi => by
  rw [va_up_ne _ _ (by omega), va_up_ne _ _ (by omega)]
theorem g3_75 {d n : Nat} (hd : 4 ≤ d) (G : GI X b h S A E RL UL SL T1 T2) (hlt : ∀ a e, h a = some e → a < n) (hn : b + 64 ≤ n) {x : Int} (hx : -2147483648 ≤ x ∧ x < 2147483648) : zz_Ct X mm_75 d 0 0 [.ref (b + 21), zv x] n h (fun r n' h' => r = none ∧ n' = n ∧ ∃ S', (∀ i, i < 14 → S' i = S i) ∧ GI X b h' S' A E RL UL SL (T1.filter (fun p => decide (¬ (p.2.2.1 = x)))) T2 ∧ mf b h h' ∧ kp b h h') := by
  have P := G.t1
  refine (ct_75 hd (G.1 21 (by decide)) P ⟨G.nE (by decide) (by decide), by omega⟩ hx).post ?_
  rintro r n' h' ⟨hr, hn', P', hfr⟩
  have hfr2 : ∀ a, a < n → a ≠ b + 22 → (a ≠ E 3 ∨ ∃ f, h a = some (zQ 4 0 f)) → h' a = h a := fun a _ h1 h2 => hfr a h1 h2
  have c := tk_cp P P' hlt hfr2
  obtain ⟨y, hA⟩ := cl_tk3 G.1 P' (fun j hj hne => G.frc (k := 3) (by decide) hlt hfr2 j hj (by omega))
  have D := gi_t1 G.2.2 hlt hn c P'.D hfr2 (Or.inl rfl) (fun p hp => G.2.2.2.2.2.2.2.2.2.2.1.2.2.2 p (by
    rcases List.mem_append.mp hp with hp | hp
    · exact List.mem_append_left _ (List.mem_filter.mp hp).1
    · exact List.mem_append_right _ hp)) (nd_filter _ G.2.2.2.2.2.2.2.2.2.2.2.2.2)
  rw [va_up_id] at hA D
  exact ⟨hr, hn', _, up14 (by decide) (by decide), ⟨hA, G.2.1.t1 (G.2.1.2.2.2.2.2.2.2.2.2.2.2.1.filter _), D⟩, fun a h1 h2 => hfr a (by omega) (Or.inl (by
    rcases G.2.2.2.2.2.2.2.2.2.1 3 (by decide) with hz | hz
    · have := G.2.2.1.2; omega
    · omega)), fun a x ha hb => by
      obtain ⟨kd, N, f, hq⟩ := P.q
      exact hfr a (by omega) (Or.inl (zz_ne2 ha hq))⟩
theorem g3_82 {d n : Nat} (hd : 4 ≤ d) (G : GI X b h S A E RL UL SL T1 T2) (hlt : ∀ a e, h a = some e → a < n) (hn : b + 64 ≤ n) {x : Int} (hx : -2147483648 ≤ x ∧ x < 2147483648) : zz_Ct X mm_82 d 0 0 [.ref (b + 21), zv x] n h (fun r n' h' => r = none ∧ n' = n ∧ ∃ S', (∀ i, i < 14 → S' i = S i) ∧ GI X b h' S' A E RL UL SL (T1.filter (fun p => decide (¬ (p.2.1 = x)))) T2 ∧ mf b h h' ∧ kp b h h') := by
  have P := G.t1
  refine (ct_82 hd (G.1 21 (by decide)) P ⟨G.nE (by decide) (by decide), by omega⟩ hx).post ?_
  rintro r n' h' ⟨hr, hn', P', hfr⟩
  have hfr2 : ∀ a, a < n → a ≠ b + 22 → (a ≠ E 3 ∨ ∃ f, h a = some (zQ 4 0 f)) → h' a = h a := fun a _ h1 h2 => hfr a h1 h2
  have c := tk_cp P P' hlt hfr2
  obtain ⟨y, hA⟩ := cl_tk3 G.1 P' (fun j hj hne => G.frc (k := 3) (by decide) hlt hfr2 j hj (by omega))
  have D := gi_t1 G.2.2 hlt hn c P'.D hfr2 (Or.inl rfl) (fun p hp => G.2.2.2.2.2.2.2.2.2.2.1.2.2.2 p (by
    rcases List.mem_append.mp hp with hp | hp
    · exact List.mem_append_left _ (List.mem_filter.mp hp).1
    · exact List.mem_append_right _ hp)) (nd_filter _ G.2.2.2.2.2.2.2.2.2.2.2.2.2)
  rw [va_up_id] at hA D
  exact ⟨hr, hn', _, up14 (by decide) (by decide), ⟨hA, G.2.1.t1 (G.2.1.2.2.2.2.2.2.2.2.2.2.2.1.filter _), D⟩, fun a h1 h2 => hfr a (by omega) (Or.inl (by
    rcases G.2.2.2.2.2.2.2.2.2.1 3 (by decide) with hz | hz
    · have := G.2.2.1.2; omega
    · omega)), fun a x ha hb => by
      obtain ⟨kd, N, f, hq⟩ := P.q
      exact hfr a (by omega) (Or.inl (zz_ne2 ha hq))⟩
theorem g3_63 {d n : Nat} (hd : 4 ≤ d) (G : GI X b h S A E RL UL SL T1 T2) (hlt : ∀ a e, h a = some e → a < n) (hn : b + 64 ≤ n) {x : Int} (hx : 0 ≤ x ∧ x ≤ 1000000) : zz_Ct X mm_63 d 0 0 [.ref (b + 21), zv x] n h (fun r n' h' => r = none ∧ n' = n ∧ ∃ S', (∀ i, i < 14 → S' i = S i) ∧ GI X b h' S' A E RL UL SL (T1.filter (fun p => decide (¬ (60 < x - p.2.2.2.2.2.1 ∨ 20 < x - p.2.2.2.2.2.2)))) T2 ∧ mf b h h' ∧ kp b h h') := by
  have P := G.t1
  refine (ct_63 hd (G.1 21 (by decide)) P ⟨G.nE (by decide) (by decide), by omega⟩ hx).post ?_
  rintro r n' h' ⟨hr, hn', P', hfr⟩
  have hfr2 : ∀ a, a < n → a ≠ b + 22 → (a ≠ E 3 ∨ ∃ f, h a = some (zQ 4 0 f)) → h' a = h a := fun a _ h1 h2 => hfr a h1 h2
  have c := tk_cp P P' hlt hfr2
  obtain ⟨y, hA⟩ := cl_tk3 G.1 P' (fun j hj hne => G.frc (k := 3) (by decide) hlt hfr2 j hj (by omega))
  have D := gi_t1 G.2.2 hlt hn c P'.D hfr2 (Or.inl rfl) (fun p hp => G.2.2.2.2.2.2.2.2.2.2.1.2.2.2 p (by
    rcases List.mem_append.mp hp with hp | hp
    · exact List.mem_append_left _ (List.mem_filter.mp hp).1
    · exact List.mem_append_right _ hp)) (nd_filter _ G.2.2.2.2.2.2.2.2.2.2.2.2.2)
  rw [va_up_id] at hA D
  exact ⟨hr, hn', _, up14 (by decide) (by decide), ⟨hA, G.2.1.t1 (G.2.1.2.2.2.2.2.2.2.2.2.2.2.1.filter _), D⟩, fun a h1 h2 => hfr a (by omega) (Or.inl (by
    rcases G.2.2.2.2.2.2.2.2.2.1 3 (by decide) with hz | hz
    · have := G.2.2.1.2; omega
    · omega)), fun a x ha hb => by
      obtain ⟨kd, N, f, hq⟩ := P.q
      exact hfr a (by omega) (Or.inl (zz_ne2 ha hq))⟩
theorem g4_75 {d n : Nat} (hd : 4 ≤ d) (G : GI X b h S A E RL UL SL T1 T2) (hlt : ∀ a e, h a = some e → a < n) (hn : b + 64 ≤ n) {x : Int} (hx : -2147483648 ≤ x ∧ x < 2147483648) : zz_Ct X mm_75 d 0 0 [.ref (b + 23), zv x] n h (fun r n' h' => r = none ∧ n' = n ∧ ∃ S', (∀ i, i < 14 → S' i = S i) ∧ GI X b h' S' A E RL UL SL T1 (T2.filter (fun p => decide (¬ (p.2.2.1 = x)))) ∧ mf b h h' ∧ kp b h h') := by
  have P := G.t2
  refine (ct_75 hd (G.1 23 (by decide)) P ⟨G.nE (by decide) (by decide), by omega⟩ hx).post ?_
  rintro r n' h' ⟨hr, hn', P', hfr⟩
  have hfr2 : ∀ a, a < n → a ≠ b + 24 → (a ≠ E 4 ∨ ∃ f, h a = some (zQ 4 0 f)) → h' a = h a := fun a _ h1 h2 => hfr a h1 h2
  have c := tk_cp P P' hlt hfr2
  obtain ⟨y, hA⟩ := cl_tk4 G.1 P' (fun j hj hne => G.frc (k := 4) (by decide) hlt hfr2 j hj (by omega))
  have D := gi_t2 G.2.2 hlt hn c P'.D hfr2 (Or.inl rfl) (fun p hp => G.2.2.2.2.2.2.2.2.2.2.1.2.2.2 p (by
    rcases List.mem_append.mp hp with hp | hp
    · exact List.mem_append_left _ hp
    · exact List.mem_append_right _ (List.mem_filter.mp hp).1)) (nd_filter2 _ G.2.2.2.2.2.2.2.2.2.2.2.2.2)
  rw [va_up_id] at hA D
  exact ⟨hr, hn', _, up14 (by decide) (by decide), ⟨hA, G.2.1.t2 (G.2.1.2.2.2.2.2.2.2.2.2.2.2.2.filter _), D⟩, fun a h1 h2 => hfr a (by omega) (Or.inl (by
    rcases G.2.2.2.2.2.2.2.2.2.1 4 (by decide) with hz | hz
    · have := G.2.2.1.2; omega
    · omega)), fun a x ha hb => by
      obtain ⟨kd, N, f, hq⟩ := P.q
      exact hfr a (by omega) (Or.inl (zz_ne2 ha hq))⟩
theorem g4_82 {d n : Nat} (hd : 4 ≤ d) (G : GI X b h S A E RL UL SL T1 T2) (hlt : ∀ a e, h a = some e → a < n) (hn : b + 64 ≤ n) {x : Int} (hx : -2147483648 ≤ x ∧ x < 2147483648) : zz_Ct X mm_82 d 0 0 [.ref (b + 23), zv x] n h (fun r n' h' => r = none ∧ n' = n ∧ ∃ S', (∀ i, i < 14 → S' i = S i) ∧ GI X b h' S' A E RL UL SL T1 (T2.filter (fun p => decide (¬ (p.2.1 = x)))) ∧ mf b h h' ∧ kp b h h') := by
  have P := G.t2
  refine (ct_82 hd (G.1 23 (by decide)) P ⟨G.nE (by decide) (by decide), by omega⟩ hx).post ?_
  rintro r n' h' ⟨hr, hn', P', hfr⟩
  have hfr2 : ∀ a, a < n → a ≠ b + 24 → (a ≠ E 4 ∨ ∃ f, h a = some (zQ 4 0 f)) → h' a = h a := fun a _ h1 h2 => hfr a h1 h2
  have c := tk_cp P P' hlt hfr2
  obtain ⟨y, hA⟩ := cl_tk4 G.1 P' (fun j hj hne => G.frc (k := 4) (by decide) hlt hfr2 j hj (by omega))
  have D := gi_t2 G.2.2 hlt hn c P'.D hfr2 (Or.inl rfl) (fun p hp => G.2.2.2.2.2.2.2.2.2.2.1.2.2.2 p (by
    rcases List.mem_append.mp hp with hp | hp
    · exact List.mem_append_left _ hp
    · exact List.mem_append_right _ (List.mem_filter.mp hp).1)) (nd_filter2 _ G.2.2.2.2.2.2.2.2.2.2.2.2.2)
  rw [va_up_id] at hA D
  exact ⟨hr, hn', _, up14 (by decide) (by decide), ⟨hA, G.2.1.t2 (G.2.1.2.2.2.2.2.2.2.2.2.2.2.2.filter _), D⟩, fun a h1 h2 => hfr a (by omega) (Or.inl (by
    rcases G.2.2.2.2.2.2.2.2.2.1 4 (by decide) with hz | hz
    · have := G.2.2.1.2; omega
    · omega)), fun a x ha hb => by
      obtain ⟨kd, N, f, hq⟩ := P.q
      exact hfr a (by omega) (Or.inl (zz_ne2 ha hq))⟩
theorem tk_end_c {T : List (Nat × td)} {u : Int} (h : tkc T) : tkc (tk_end T u) := by
  unfold tk_end
  split
  · exact h.filter _
  · exact h
theorem tk_end_sub {T : List (Nat × td)} {u : Int} : (tk_end T u).Sublist T := by
  unfold tk_end
  split
  · exact List.filter_sublist
  · exact List.Sublist.refl _
theorem tk_end_one {T : List (Nat × td)} {u : Int} (h : tkc T) : ((tk_end T u).filter (fun p => decide (p.2.1 = u))).length ≤ 1 := by
  have hu := h u
  unfold tk_end
  cases h0 : tk_of T u 0 with
  | none =>
    have e : (T.filter (fun p => decide (p.2.1 = u)))[0]? = none := by unfold tk_of at h0; exact h0
    rw [List.getElem?_eq_none_iff] at e
    dsimp only
    omega
  | some p =>
    cases h1 : tk_of T u 1 with
    | none =>
      have e : (T.filter (fun p => decide (p.2.1 = u)))[1]? = none := by unfold tk_of at h1; exact h1
      rw [List.getElem?_eq_none_iff] at e
      dsimp only
      omega
    | some q =>
      have e0 : (T.filter (fun p => decide (p.2.1 = u)))[0]? = some p := by unfold tk_of at h0; exact h0
      have e1 : (T.filter (fun p => decide (p.2.1 = u)))[1]? = some q := by unfold tk_of at h1; exact h1
      dsimp only
      generalize hid : (if q.2.2.2.2.2.2 < p.2.2.2.2.2.2 then q.2.2.1 else p.2.2.1) = id
      have hsw : (T.filter (fun r => decide (¬ (r.2.2.1 = id)))).filter (fun p => decide (p.2.1 = u)) = (T.filter (fun p => decide (p.2.1 = u))).filter (fun r => decide (¬ (r.2.2.1 = id))) := by
        rw [List.filter_filter, List.filter_filter]
        congr 1
        funext x
        exact Bool.and_comm _ _
      rw [hsw]
      generalize T.filter (fun p => decide (p.2.1 = u)) = F at e0 e1 hu ⊢
      match F, e0, e1, hu with
      | [p', q'], e0, e1, _ =>
        cases e0; cases e1
        have hx : p.2.2.1 = id ∨ q.2.2.1 = id := by
          by_cases hc : q.2.2.2.2.2.2 < p.2.2.2.2.2.2
          · rw [if_pos hc] at hid; exact Or.inr hid
          · rw [if_neg hc] at hid; exact Or.inl hid
        rcases hx with hx | hx
        · rw [List.filter_cons_of_neg (by simp [hx])]
          exact List.length_filter_le _ _
        · by_cases hp : p.2.2.1 = id
          · rw [List.filter_cons_of_neg (by simp [hp])]
            exact List.length_filter_le _ _
          · rw [List.filter_cons_of_pos (by simp [hp]), List.filter_cons_of_neg (by simp [hx])]
            simp
      | [], e0, _, _ => cases e0
      | [_], _, e1, _ => cases e1
      | _ :: _ :: _ :: _, _, _, hu => simp at hu
theorem tk_add_c {T : List (Nat × td)} {v : Nat} {x : td} (h : tkc T) : tkc (tk_end T x.1 ++ [(v, x)]) := fun u => by
  rw [List.filter_append, List.length_append]
  by_cases hu : x.1 = u
  · subst hu
    have := tk_end_one (u := x.1) h
    have h2 : ([(v, x)].filter (fun p : Nat × td => decide (p.2.1 = x.1))).length ≤ 1 := List.length_filter_le _ _
    omega
  · have := tk_end_c (u := x.1) h u
    rw [List.filter_cons_of_neg (by simp [hu])]
    simpa using this
theorem g3_78 {d n : Nat} (hd : 8 ≤ d) (G : GI X b h S A E RL UL SL T1 T2) (hlt : ∀ a e, h a = some e → a < n) (hn : b + 64 ≤ n) {v : Nat} {x : td} (hv : h v = some (td_c x)) (hx : td_V x) (hvb : b + 64 ≤ v) (hnv : v ∉ (T1 ++ T2).map Prod.fst) : zz_Ct X mm_78 d 1 15 [.ref (b + 21), .ref v] n h (fun r n' h' => r = none ∧ n ≤ n' ∧ ∃ S' E', (∀ i, i < 14 → S' i = S i) ∧ GI X b h' S' A E' RL UL SL (tk_end T1 x.1 ++ [(v, x)]) T2 ∧ mf b h h' ∧ kp b h h') := by
  have P := G.t1
  have hlen := G.2.2.len1 G.2.1
  refine (ct_78 hd (G.1 21 (by decide)) P ⟨G.nE (by decide) (by decide), by omega⟩ (by omega) hv hx).post ?_
  rintro r n' h' ⟨hr, ea', P', hfr, hq⟩
  have c := tk_cp P P' hlt hfr
  obtain ⟨y, hA⟩ := cl_tk3 G.1 P' (fun j hj hne => G.frc (k := 3) (by decide) hlt hfr j hj (by omega))
  have hsub : (tk_end T1 x.1).Sublist T1 := tk_end_sub
  have D := gi_t1 G.2.2 hlt hn c P'.D hfr (by rcases hq with ⟨e1, -⟩ | ⟨e1, -⟩; exact Or.inl e1; exact Or.inr (by omega)) (fun p hp => ?_) ?_
  · refine ⟨hr, by rcases hq with ⟨-, e1, -⟩ | ⟨-, e1⟩ <;> omega, _, _, up14 (by decide) (by decide), ⟨hA, G.2.1.t1 (tk_add_c G.2.1.2.2.2.2.2.2.2.2.2.2.2.1), D⟩, fun a h1 h2 => hfr a (by omega) (by omega) (Or.inl (by
      rcases G.2.2.2.2.2.2.2.2.2.1 3 (by decide) with hz | hz
      · have := G.2.2.1.2; omega
      · omega)), fun a x ha hb => by
        obtain ⟨kd, N, f, hq⟩ := P.q
        exact hfr a (hlt _ _ ha) (by omega) (Or.inl (zz_ne2 ha hq))⟩
  · have hL := G.2.2.2.2.2.2.2.2.2.2.1.2.2.2
    rcases List.mem_append.mp hp with hp | hp
    · rcases List.mem_append.mp hp with hp | hp
      · exact hL p (List.mem_append_left _ (hsub.subset hp))
      · rw [List.mem_singleton.mp hp]; exact hvb
    · exact hL p (List.mem_append_right _ hp)
  · have hnd := G.2.2.2.2.2.2.2.2.2.2.2.2.2
    have h1 : ((tk_end T1 x.1 ++ T2).map Prod.fst).Nodup := hnd.sublist (List.Sublist.map _ (List.Sublist.append hsub (List.Sublist.refl _)))
    have hp : List.Perm ((tk_end T1 x.1 ++ [(v, x)]) ++ T2) ((v, x) :: (tk_end T1 x.1 ++ T2)) := by
      rw [List.append_assoc]
      exact (List.perm_append_comm.trans (by rw [List.singleton_append, List.cons_append]; exact List.Perm.cons _ List.perm_append_comm))
    refine (hp.map Prod.fst).nodup_iff.mpr ?_
    rw [List.map_cons, List.nodup_cons]
    refine ⟨fun hm => hnv ?_, h1⟩
    obtain ⟨q, hq1, hq2⟩ := List.mem_map.mp hm
    refine List.mem_map.mpr ⟨q, ?_, hq2⟩
    rcases List.mem_append.mp hq1 with hq1 | hq1
    · exact List.mem_append_left _ (hsub.subset hq1)
    · exact List.mem_append_right _ hq1
theorem g4_78 {d n : Nat} (hd : 8 ≤ d) (G : GI X b h S A E RL UL SL T1 T2) (hlt : ∀ a e, h a = some e → a < n) (hn : b + 64 ≤ n) {v : Nat} {x : td} (hv : h v = some (td_c x)) (hx : td_V x) (hvb : b + 64 ≤ v) (hnv : v ∉ (T1 ++ T2).map Prod.fst) : zz_Ct X mm_78 d 1 15 [.ref (b + 23), .ref v] n h (fun r n' h' => r = none ∧ n ≤ n' ∧ ∃ S' E', (∀ i, i < 14 → S' i = S i) ∧ GI X b h' S' A E' RL UL SL T1 (tk_end T2 x.1 ++ [(v, x)]) ∧ mf b h h' ∧ kp b h h') := by
  have P := G.t2
  have hlen := G.2.2.len2 G.2.1
  refine (ct_78 hd (G.1 23 (by decide)) P ⟨G.nE (by decide) (by decide), by omega⟩ (by omega) hv hx).post ?_
  rintro r n' h' ⟨hr, ea', P', hfr, hq⟩
  have c := tk_cp P P' hlt hfr
  obtain ⟨y, hA⟩ := cl_tk4 G.1 P' (fun j hj hne => G.frc (k := 4) (by decide) hlt hfr j hj (by omega))
  have hsub : (tk_end T2 x.1).Sublist T2 := tk_end_sub
  have D := gi_t2 G.2.2 hlt hn c P'.D hfr (by rcases hq with ⟨e1, -⟩ | ⟨e1, -⟩; exact Or.inl e1; exact Or.inr (by omega)) (fun p hp => ?_) ?_
  · refine ⟨hr, by rcases hq with ⟨-, e1, -⟩ | ⟨-, e1⟩ <;> omega, _, _, up14 (by decide) (by decide), ⟨hA, G.2.1.t2 (tk_add_c G.2.1.2.2.2.2.2.2.2.2.2.2.2.2), D⟩, fun a h1 h2 => hfr a (by omega) (by omega) (Or.inl (by
      rcases G.2.2.2.2.2.2.2.2.2.1 4 (by decide) with hz | hz
      · have := G.2.2.1.2; omega
      · omega)), fun a x ha hb => by
        obtain ⟨kd, N, f, hq⟩ := P.q
        exact hfr a (hlt _ _ ha) (by omega) (Or.inl (zz_ne2 ha hq))⟩
  · have hL := G.2.2.2.2.2.2.2.2.2.2.1.2.2.2
    rcases List.mem_append.mp hp with hp | hp
    · exact hL p (List.mem_append_left _ hp)
    · rcases List.mem_append.mp hp with hp | hp
      · exact hL p (List.mem_append_right _ (hsub.subset hp))
      · rw [List.mem_singleton.mp hp]; exact hvb
  · have hnd := G.2.2.2.2.2.2.2.2.2.2.2.2.2
    have h1 : ((tk_end T2 x.1 ++ T1).map Prod.fst).Nodup := ((List.perm_append_comm).map _).nodup_iff.mp (hnd.sublist (List.Sublist.map _ (List.Sublist.append (List.Sublist.refl _) hsub)))
    have hp : List.Perm (T1 ++ (tk_end T2 x.1 ++ [(v, x)])) ((v, x) :: (tk_end T2 x.1 ++ T1)) := by
      rw [← List.append_assoc]
      refine List.perm_append_comm.trans ?_
      rw [List.singleton_append]
      exact List.Perm.cons _ List.perm_append_comm
    refine (hp.map Prod.fst).nodup_iff.mpr ?_
    rw [List.map_cons, List.nodup_cons]
    refine ⟨fun hm => hnv ?_, h1⟩
    obtain ⟨q, hq1, hq2⟩ := List.mem_map.mp hm
    refine List.mem_map.mpr ⟨q, ?_, hq2⟩
    rcases List.mem_append.mp hq1 with hq1 | hq1
    · exact List.mem_append_right _ (hsub.subset hq1)
    · exact List.mem_append_left _ hq1
end GT
