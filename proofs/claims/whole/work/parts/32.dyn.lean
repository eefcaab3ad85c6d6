/-! what lies beyond the gate's own cells: lists of users, services, rules, tickets; what stays when other cells are written -/
def cp (h h' : zz_H) : Prop := ∀ a ci vs, h a = some (.inr (ci, vs)) → ∃ vs', h' a = some (.inr (ci, vs'))
theorem cp.rf (h : zz_H) : cp h h := fun _ _ vs ha => ⟨vs, ha⟩
theorem cp.tr {h1 h2 h3 : zz_H} (a : cp h1 h2) (b : cp h2 h3) : cp h1 h3 := fun q ci vs hq => by
  obtain ⟨vs', h'⟩ := a q ci vs hq
  exact b q ci vs' h'
theorem cp.up {h : zz_H} {a : Nat} {e : va_E} (hx : ∀ ci vs, h a = some (.inr (ci, vs)) → ∃ vs', e = .inr (ci, vs')) : cp h (zz_up h a e) := fun q ci vs hq => by
  by_cases hqa : q = a
  · subst hqa
    obtain ⟨vs', rfl⟩ := hx ci vs hq
    exact ⟨vs', zz_up_eq _ _ _⟩
  · exact ⟨vs, by rw [zz_up_ne hqa]; exact hq⟩
theorem cp.el {h h' : zz_H} (c : cp h h') {v : Nat} (hv : zz_el h v) : zz_el h' v := by
  obtain ⟨ci, vs, r, h1, h2⟩ := hv
  obtain ⟨vs', h3⟩ := c v ci vs h1
  exact ⟨ci, vs', r, h3, h2⟩
/-- the array of a list of objects -/
def al_G (X : zz_X) (h : zz_H) (ea : Nat) (L : List Nat) : Prop := ∃ (N : Nat) (f : Nat → Option Nat), ((h ea = some (zQ 3 N f) ∧ (N = 10 ∨ N = 15)) ∨ (ea = zz_e X ∧ N = 0 ∧ h ea = some (zQ 4 0 f))) ∧ L.length ≤ N ∧ (∀ (i a : Nat), L[i]? = some a → f i = some a) ∧ (∀ i w, f i = some w → zz_el h w)
theorem al_G.fr {X : zz_X} {h h' : zz_H} {ea : Nat} {L : List Nat} (G : al_G X h ea L) (c : cp h h') (he : h' ea = h ea) : al_G X h' ea L := by
  obtain ⟨N, f, h1, h2, h3, h4⟩ := G
  exact ⟨N, f, by rw [he]; exact h1, h2, h3, fun i w hw => c.el (h4 i w hw)⟩
theorem al_G.q {X : zz_X} {h : zz_H} {ea : Nat} {L : List Nat} (G : al_G X h ea L) : ∃ kd N f, h ea = some (zQ kd N f) := by
  obtain ⟨N, f, h1 | h1, -⟩ := G
  · exact ⟨3, N, f, h1.1⟩
  · exact ⟨4, 0, f, h1.2.2⟩
theorem tk_P.fr {X : zz_X} {h h' : zz_H} {al ea : Nat} {T : List (Nat × td)} (P : tk_P X h al ea T) (c : cp h h') (h1 : h' al = h al) (h2 : h' ea = h ea) (h3 : ∀ p ∈ T, h' p.1 = h p.1) : tk_P X h' al ea T := by
  obtain ⟨N, f, mc, p1, p2, p3, p4, p5⟩ := P
  refine ⟨N, f, mc, by rw [h1]; exact p1, by rw [h2]; exact p2, p3, fun i p hi => ?_, fun i w hw => c.el (p5 i w hw)⟩
  rw [h3 p (List.mem_of_getElem? hi)]
  exact p4 i p hi
theorem tk_P.q {X : zz_X} {h : zz_H} {al ea : Nat} {T : List (Nat × td)} (P : tk_P X h al ea T) : ∃ kd N f, h ea = some (zQ kd N f) := by
  obtain ⟨N, f, mc, p1, p2 | p2, -⟩ := P
  · exact ⟨3, N, f, p2.1⟩
  · exact ⟨4, 0, f, p2.2.2⟩
theorem tk_P.mem {X : zz_X} {h : zz_H} {al ea : Nat} {T : List (Nat × td)} (P : tk_P X h al ea T) {p : Nat × td} (hp : p ∈ T) : h p.1 = some (td_c p.2) ∧ td_V p.2 := by
  obtain ⟨N, f, mc, P⟩ := P
  exact P.mem hp
def tk_D (X : zz_X) (h : zz_H) (ea : Nat) (T : List (Nat × td)) : Prop := ∃ (N : Nat) (f : Nat → Option Nat), ((h ea = some (zQ 3 N f) ∧ (N = 10 ∨ N = 15)) ∨ (ea = zz_e X ∧ N = 0 ∧ h ea = some (zQ 4 0 f))) ∧ T.length ≤ N ∧ (∀ (i : Nat) (p : Nat × td), T[i]? = some p → f i = some p.1 ∧ h p.1 = some (td_c p.2) ∧ td_V p.2) ∧ (∀ i w, f i = some w → zz_el h w)
theorem tk_P.D {X : zz_X} {h : zz_H} {al ea : Nat} {T : List (Nat × td)} (P : tk_P X h al ea T) : tk_D X h ea T := by
  obtain ⟨N, f, mc, p1, p2⟩ := P
  exact ⟨N, f, p2⟩
theorem tk_D.P {X : zz_X} {h : zz_H} {al ea : Nat} {mc : Int} {T : List (Nat × td)} (P : tk_D X h ea T) (h1 : h al = some (.inr (12, [.ref ea, zv (T.length : Int), zv mc]))) : tk_P X h al ea T := by
  obtain ⟨N, f, p2⟩ := P
  exact ⟨N, f, mc, h1, p2⟩
theorem tk_D.fr {X : zz_X} {h h' : zz_H} {ea : Nat} {T : List (Nat × td)} (P : tk_D X h ea T) (c : cp h h') (h2 : h' ea = h ea) (h3 : ∀ p ∈ T, h' p.1 = h p.1) : tk_D X h' ea T := by
  obtain ⟨N, f, p2, p3, p4, p5⟩ := P
  refine ⟨N, f, by rw [h2]; exact p2, p3, fun i p hi => ?_, fun i w hw => c.el (p5 i w hw)⟩
  rw [h3 p (List.mem_of_getElem? hi)]
  exact p4 i p hi
theorem tk_D.q {X : zz_X} {h : zz_H} {ea : Nat} {T : List (Nat × td)} (P : tk_D X h ea T) : ∃ kd N f, h ea = some (zQ kd N f) := by
  obtain ⟨N, f, p2 | p2, -⟩ := P
  · exact ⟨3, N, f, p2.1⟩
  · exact ⟨4, 0, f, p2.2.2⟩
theorem tk_D.mem {X : zz_X} {h : zz_H} {ea : Nat} {T : List (Nat × td)} (P : tk_D X h ea T) {p : Nat × td} (hp : p ∈ T) : h p.1 = some (td_c p.2) ∧ td_V p.2 := by
  obtain ⟨N, f, p2, p3, p4, p5⟩ := P
  obtain ⟨i, hi⟩ := List.getElem?_of_mem hp
  exact (p4 i p hi).2
/-- a list's object has the list's length -/
theorem tk_P.obj {X : zz_X} {h : zz_H} {al ea : Nat} {T : List (Nat × td)} (P : tk_P X h al ea T) : ∃ mc, h al = some (.inr (12, [.ref ea, zv (T.length : Int), zv mc])) := by
  obtain ⟨N, f, mc, P⟩ := P
  exact ⟨mc, P.1⟩
theorem cl_nq {b : Nat} {S : Nat → Int} {A : Nat → Int → Int} {E : Nat → Nat} {kd N : Nat} {f : Nat → Option Nat} : ∀ j, j < 25 → cl_c b S A E j ≠ some (zQ kd N f) := by
  intro j hj
  rcases (show j = 0 ∨ j = 1 ∨ j = 2 ∨ j = 3 ∨ j = 4 ∨ j = 5 ∨ j = 6 ∨ j = 7 ∨ j = 8 ∨ j = 9 ∨ j = 10 ∨ j = 11 ∨ j = 12 ∨ j = 13 ∨ j = 14 ∨ j = 15 ∨ j = 16 ∨ j = 17 ∨ j = 18 ∨ j = 19 ∨ j = 20 ∨ j = 21 ∨ j = 22 ∨ j = 23 ∨ j = 24 by omega) with rfl | rfl | rfl | rfl | rfl | rfl | rfl | rfl | rfl | rfl | rfl | rfl | rfl | rfl | rfl | rfl | rfl | rfl | rfl | rfl | rfl | rfl | rfl | rfl | rfl <;> (intro hx; injection hx with hx; unfold zQ at hx; first | (cases hx; done) | (unfold zA at hx; injection hx with hx; injection hx with h1 h2; injection h2 with h3 h4; cases h4))
theorem cl_nt {b : Nat} {S : Nat → Int} {A : Nat → Int → Int} {E : Nat → Nat} {x : td} : ∀ j, j < 25 → cl_c b S A E j ≠ some (td_c x) := by
  intro j hj
  rcases (show j = 0 ∨ j = 1 ∨ j = 2 ∨ j = 3 ∨ j = 4 ∨ j = 5 ∨ j = 6 ∨ j = 7 ∨ j = 8 ∨ j = 9 ∨ j = 10 ∨ j = 11 ∨ j = 12 ∨ j = 13 ∨ j = 14 ∨ j = 15 ∨ j = 16 ∨ j = 17 ∨ j = 18 ∨ j = 19 ∨ j = 20 ∨ j = 21 ∨ j = 22 ∨ j = 23 ∨ j = 24 by omega) with rfl | rfl | rfl | rfl | rfl | rfl | rfl | rfl | rfl | rfl | rfl | rfl | rfl | rfl | rfl | rfl | rfl | rfl | rfl | rfl | rfl | rfl | rfl | rfl | rfl <;> (intro hx; injection hx with hx; unfold td_c at hx; first | (cases hx; done) | (unfold zA at hx; cases hx; done))
section CQ
variable {b : Nat} {S : Nat → Int} {A : Nat → Int → Int} {E : Nat → Nat} {h h0 : zz_H}
/-- what isn't one of the gate's own cells -/
theorem cl_dyn {a : Nat} {e : va_E} (hA : cl_A b S A E h) (ha : h a = some e) (hne : ∀ j, j < 25 → cl_c b S A E j ≠ some e) : a < b ∨ b + 25 ≤ a := by
  by_cases hx : a < b ∨ b + 25 ≤ a
  · exact hx
  · exfalso
    have h1 := hA (a - b) (by omega)
    rw [show b + (a - b) = a by omega, ha] at h1
    exact hne (a - b) (by omega) h1.symm
/-- behind a change of one ticket list: the gate's own cells -/
theorem cl_tk3 {X : zz_X} {h' : zz_H} {ea' : Nat} {T' : List (Nat × td)} (hA : cl_A b S A E h) (P : tk_P X h' (b + 22) ea' T') (hfr : ∀ j, j < 25 → j ≠ 22 → h' (b + j) = h (b + j)) : ∃ y, cl_A b (va_up (va_up S 20 (T'.length : Int)) 21 y) A (va_up E 3 ea') h' := by
  obtain ⟨mc, hm⟩ := P.obj
  refine ⟨mc, fun j hj => ?_⟩
  have e : zz_up (cl_H b S A E h) (b + 22) (.inr (12, [.ref ea', zv (T'.length : Int), zv mc])) = cl_H b (va_up (va_up S 20 (T'.length : Int)) 21 mc) A (va_up E 3 ea') h := cl_l3
  have e2 := congrFun e (b + j)
  rw [cl_at hj] at e2
  rw [← e2, cl_id hA]
  by_cases hj2 : j = 22
  · subst hj2; rw [zz_up_eq]; exact hm
  · rw [zz_up_ne (by omega)]; exact hfr j hj hj2
theorem cl_tk4 {X : zz_X} {h' : zz_H} {ea' : Nat} {T' : List (Nat × td)} (hA : cl_A b S A E h) (P : tk_P X h' (b + 24) ea' T') (hfr : ∀ j, j < 25 → j ≠ 24 → h' (b + j) = h (b + j)) : ∃ y, cl_A b (va_up (va_up S 22 (T'.length : Int)) 23 y) A (va_up E 4 ea') h' := by
  obtain ⟨mc, hm⟩ := P.obj
  refine ⟨mc, fun j hj => ?_⟩
  have e : zz_up (cl_H b S A E h) (b + 24) (.inr (12, [.ref ea', zv (T'.length : Int), zv mc])) = cl_H b (va_up (va_up S 22 (T'.length : Int)) 23 mc) A (va_up E 4 ea') h := cl_l4
  have e2 := congrFun e (b + j)
  rw [cl_at hj] at e2
  rw [← e2, cl_id hA]
  by_cases hj2 : j = 24
  · subst hj2; rw [zz_up_eq]; exact hm
  · rw [zz_up_ne (by omega)]; exact hfr j hj hj2
end CQ
/-- users -/
abbrev ud : Type := Int × Int × Int × Int × Int × Int
def us_c (x : ud) : va_E := .inr (8, [zv x.1, zv x.2.1, zv x.2.2.1, zv x.2.2.2.1, zv x.2.2.2.2.1, zv x.2.2.2.2.2])
def us_V (x : ud) : Prop := (0 ≤ x.1 ∧ x.1 ≤ 255) ∧ (x.2.1 = 0 ∨ x.2.1 = 1) ∧ (-2147483648 ≤ x.2.2.1 ∧ x.2.2.1 < 2147483648) ∧ (-2147483648 ≤ x.2.2.2.1 ∧ x.2.2.2.1 < 2147483648) ∧ (0 ≤ x.2.2.2.2.1 ∧ x.2.2.2.2.1 < 3) ∧ (0 ≤ x.2.2.2.2.2 ∧ x.2.2.2.2.2 ≤ 1000000)
def us_P (X : zz_X) (h : zz_H) (ea : Nat) (L : List (Nat × ud)) : Prop := al_G X h ea (L.map Prod.fst) ∧ ∀ p ∈ L, h p.1 = some (us_c p.2) ∧ us_V p.2
/-- services: parent, face, condition, declared, their conditions -/
abbrev sd : Type := Int × Int × Int × (Int → Int) × (Int → Int)
def sv_V (x : sd) : Prop := (-1 ≤ x.1 ∧ x.1 ≤ 5) ∧ (-1 ≤ x.2.1 ∧ x.2.1 ≤ 5) ∧ (-1 ≤ x.2.2.1 ∧ x.2.2.1 < 16) ∧ (∀ i, 0 ≤ i → i < 4 → x.2.2.2.1 i = 0 ∨ x.2.2.2.1 i = 1) ∧ (∀ i, 0 ≤ i → i < 4 → -1 ≤ x.2.2.2.2 i ∧ x.2.2.2.2 i < 16)
def sv_C (h : zz_H) (s : Nat) (x : sd) : Prop := h s = some (.inr (11, [zv x.1, zv x.2.1, zv x.2.2.1, .ref (s + 1), .ref (s + 2)])) ∧ h (s + 1) = some (zA 2 4 x.2.2.2.1) ∧ h (s + 2) = some (zA 0 4 x.2.2.2.2)
def sv_P (X : zz_X) (h : zz_H) (ea : Nat) (L : List (Nat × sd)) : Prop := al_G X h ea (L.map Prod.fst) ∧ ∀ p ∈ L, sv_C h p.1 p.2 ∧ sv_V p.2
/-- rules: pieces, expression, methods -/
abbrev rd : Type := List (List Int) × Int × Int
def ru_C (h : zz_H) (r : Nat) (x : rd) : Prop := h r = some (.inr (5, [.ref (r + 1), zv x.2.1, zv x.2.2])) ∧ ∃ ch st en bg wr, pc_F h (r + 1) ch st en bg wr (x.1.length : Int) ∧ pc_L ch st en (x.1.length : Int) x.1
def ru_V (x : rd) : Prop := (0 ≤ x.2.1 ∧ x.2.1 < 16) ∧ (1 ≤ x.2.2 ∧ x.2.2 ≤ 15)
def ru_P (X : zz_X) (h : zz_H) (ea : Nat) (L : List (Nat × rd)) : Prop := al_G X h ea (L.map Prod.fst) ∧ ∀ p ∈ L, ru_C h p.1 p.2 ∧ ru_V p.2
theorem us_P.fr {X : zz_X} {h h' : zz_H} {ea : Nat} {L : List (Nat × ud)} (P : us_P X h ea L) (c : cp h h') (he : h' ea = h ea) (hp : ∀ p ∈ L, h' p.1 = h p.1) : us_P X h' ea L := ⟨P.1.fr c he, fun p hm => by rw [hp p hm]; exact P.2 p hm⟩
theorem sv_P.fr {X : zz_X} {h h' : zz_H} {ea : Nat} {L : List (Nat × sd)} (P : sv_P X h ea L) (c : cp h h') (he : h' ea = h ea) (hp : ∀ p ∈ L, h' p.1 = h p.1 ∧ h' (p.1 + 1) = h (p.1 + 1) ∧ h' (p.1 + 2) = h (p.1 + 2)) : sv_P X h' ea L := ⟨P.1.fr c he, fun p hm => by
  obtain ⟨h1, h2, h3⟩ := hp p hm
  obtain ⟨⟨a1, a2, a3⟩, a4⟩ := P.2 p hm
  exact ⟨⟨by rw [h1]; exact a1, by rw [h2]; exact a2, by rw [h3]; exact a3⟩, a4⟩⟩
theorem ru_P.fr {X : zz_X} {h h' : zz_H} {ea : Nat} {L : List (Nat × rd)} (P : ru_P X h ea L) (c : cp h h') (he : h' ea = h ea) (hp : ∀ p ∈ L, ∀ k, k < 5 → h' (p.1 + k) = h (p.1 + k)) : ru_P X h' ea L := ⟨P.1.fr c he, fun p hm => by
  obtain ⟨⟨a1, ch, st, en, bg, wr, ⟨f0, f1, f2, f3⟩, a3⟩, a4⟩ := P.2 p hm
  have hk := hp p hm
  have k0 := hk 0 (by decide)
  have k1 := hk 1 (by decide)
  have k2 := hk 2 (by decide)
  have k3 := hk 3 (by decide)
  have k4 := hk 4 (by decide)
  have e0 : h' p.1 = h p.1 := k0
  have e2 : h' (p.1 + 1 + 1) = h (p.1 + 1 + 1) := k2
  have e3 : h' (p.1 + 1 + 2) = h (p.1 + 1 + 2) := k3
  have e4 : h' (p.1 + 1 + 3) = h (p.1 + 1 + 3) := k4
  exact ⟨⟨by rw [e0]; exact a1, ch, st, en, bg, wr, ⟨by rw [k1]; exact f0, by rw [e2]; exact f1, by rw [e3]; exact f2, by rw [e4]; exact f3⟩, a3⟩, a4⟩⟩
theorem zz_Ct.post {X : zz_X} {M : zz_M} {d mc ms n : Nat} {av : List Value} {h : zz_H} {Q Q' : Option Value → Nat → zz_H → Prop} (hc : zz_Ct X M d mc ms av n h Q) (hQ : ∀ r n' h', Q r n' h' → Q' r n' h') : zz_Ct X M d mc ms av n h Q' := by
  intro p e h1 h2 h3 s m args below hf ha hP hK
  obtain ⟨k, o, a1, a2, a3, ⟨⟨r, n', h', q1, q2, q3⟩, q4⟩, q5⟩ := hc p e h1 h2 h3 s m args below hf ha hP hK
  exact ⟨k, o, a1, a2, a3, ⟨⟨r, n', h', q1, hQ _ _ _ q2, q3⟩, q4⟩, q5⟩
/-- ArrayList.get and add by the list of addresses -/
theorem gt_get {X : zz_X} {d n : Nat} {h : zz_H} (hd : 2 ≤ d) {al ea a : Nat} {L : List Nat} {sz mc : Int} {i : Int} (h1 : h al = some (.inr (12, [.ref ea, zv sz, zv mc]))) (G : al_G X h ea L) (hs : sz = (L.length : Int)) (hi0 : 0 ≤ i) (hi : L[i.toNat]? = some a) : zz_Ct X mm_57 d 0 0 [.ref al, zv i] n h (zp (some (.ref a)) n h) := by
  obtain ⟨N, f, g1, g2, g3, g4⟩ := G
  have hlt : i.toNat < L.length := (List.getElem?_eq_some_iff.mp hi).1
  rcases g1 with ⟨g1, hN⟩ | ⟨-, rfl, -⟩
  · exact ct_57 hd h1 g1 (by omega) (g3 _ _ hi)
  · omega
theorem gt_add {X : zz_X} {d n : Nat} {h : zz_H} (hd : 7 ≤ d) {al ea v : Nat} {L : List Nat} {sz mc : Int} (h1 : h al = some (.inr (12, [.ref ea, zv sz, zv mc]))) (G : al_G X h ea L) (hs : sz = (L.length : Int)) (hL : L.length < 15) (hv : zz_el h v) (hlt : ∀ a e, h a = some e → a < n) :
    zz_Ct X mm_33 d 1 15 [.ref al, .ref v] n h (fun r n' h' => r = some (zv 1) ∧ ∃ (ea' N' : Nat) (f' : Nat → Option Nat), h' = zz_up (zz_up h ea' (zQ 3 N' f')) al (.inr (12, [.ref ea', zv (sz + 1), zv (mc + 1)])) ∧ al_G X h' ea' (L ++ [v]) ∧ ((ea' = ea ∧ n' = n ∧ ∃ N f, h ea = some (zQ 3 N f)) ∨ (ea' = n ∧ n' = n + 1)) ∧ (∃ kd N f, h ea = some (zQ kd N f)) ∧ cp h h') := by
  obtain ⟨kd, N0, f0, hq⟩ := G.q
  obtain ⟨N, f, g1, g2, g3, g4⟩ := G
  subst hs
  have hal : al < n := hlt _ _ h1
  have key : ∀ r n' h', (r = some (zv 1) ∧ ∃ (ea' N' : Nat) (f' : Nat → Option Nat), (N' = 10 ∨ N' = 15) ∧ (L.length : Int) < (N' : Int) ∧ (∀ i : Nat, (i : Int) < (L.length : Int) → f' i = f i) ∧ f' (L.length : Int).toNat = some v ∧ (∀ i w, f' i = some w → f i = some w ∨ w = v) ∧ h' = zz_up (zz_up h ea' (zQ 3 N' f')) al (.inr (12, [.ref ea', zv ((L.length : Int) + 1), zv (mc + 1)])) ∧ ((ea' = ea ∧ n' = n ∧ h ea = some (zQ 3 N f)) ∨ (ea' = n ∧ n' = n + 1))) →
      (r = some (zv 1) ∧ ∃ (ea' N' : Nat) (f' : Nat → Option Nat), h' = zz_up (zz_up h ea' (zQ 3 N' f')) al (.inr (12, [.ref ea', zv ((L.length : Int) + 1), zv (mc + 1)])) ∧ al_G X h' ea' (L ++ [v]) ∧ ((ea' = ea ∧ n' = n ∧ ∃ N f, h ea = some (zQ 3 N f)) ∨ (ea' = n ∧ n' = n + 1)) ∧ (∃ kd N f, h ea = some (zQ kd N f)) ∧ cp h h') := by
    rintro r n' h' ⟨hr, ea', N', f', q1, q2, q3, q4, q5, rfl, q6⟩
    have hna : al ≠ ea' := by
      rcases q6 with ⟨rfl, -, -⟩ | ⟨rfl, -⟩
      · exact zz_ne2 h1 hq
      · exact Nat.ne_of_lt hal
    have c1 : cp h (zz_up h ea' (zQ 3 N' f')) := cp.up (fun ci vs hx => by
      exfalso
      rcases q6 with ⟨rfl, -, -⟩ | ⟨rfl, -⟩
      · exact zz_ne2 hx hq rfl
      · exact absurd (hlt _ _ hx) (Nat.lt_irrefl _))
    have c2 : cp h (zz_up (zz_up h ea' (zQ 3 N' f')) al (.inr (12, [.ref ea', zv ((L.length : Int) + 1), zv (mc + 1)]))) := c1.tr (cp.up (fun ci vs hx => by
      rw [zz_up_ne hna, h1] at hx
      cases hx
      exact ⟨_, rfl⟩))
    have hlen : (L ++ [v]).length = L.length + 1 := by simp
    refine ⟨hr, ea', N', f', rfl, ⟨N', f', Or.inl ⟨by rw [zz_up_ne hna.symm]; exact zz_up_eq _ _ _, q1⟩, by omega, fun i a hi => ?_, fun i w hw => ?_⟩, by rcases q6 with ⟨e1, e2, e3⟩ | q6; exact Or.inl ⟨e1, e2, _, _, e3⟩; exact Or.inr q6, ⟨kd, N0, f0, hq⟩, c2⟩
    · by_cases hi2 : i < L.length
      · rw [List.getElem?_append_left hi2] at hi
        rw [q3 i (by omega)]
        exact g3 i a hi
      · have hi3 : i < (L ++ [v]).length := (List.getElem?_eq_some_iff.mp hi).1
        have hi4 : i = L.length := by omega
        subst hi4
        rw [List.getElem?_append_right (Nat.le_refl _), Nat.sub_self] at hi
        cases hi
        rw [Int.toNat_natCast] at q4
        exact q4
    · rcases q5 i w hw with hw | rfl
      · exact c2.el (g4 i w hw)
      · exact c2.el hv
  have hc := ct_33 (X := X) (d := d) (n := n) hd h1 (N := N) (f := f) g1 (by omega) g4 hv
  exact hc.post key
