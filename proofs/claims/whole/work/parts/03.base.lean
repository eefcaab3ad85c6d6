/-! My own judgement over the kit's W: the heap as a function from addresses to cells, locals and stack as lists. -/
def zz_set {α : Type} : List α → Nat → α → Option (List α)
  | [], _, _ => none
  | _ :: l, 0, v => some (v :: l)
  | a :: l, i + 1, v => (zz_set l i v).map (fun r => a :: r)
theorem zz_set_spec {α : Type} : ∀ {l l' : List α} {i : Nat} {v : α}, zz_set l i v = some l' → i < l.length ∧ l' = l.set i v
  | [], _, _, _, h => by cases h
  | _ :: l, l', 0, v, h => by cases h; exact ⟨Nat.succ_pos _, rfl⟩
  | a :: l, l', i + 1, v, h => by
    simp only [zz_set, Option.map_eq_some_iff] at h
    obtain ⟨r, h1, rfl⟩ := h
    obtain ⟨h2, rfl⟩ := zz_set_spec h1
    exact ⟨Nat.succ_lt_succ h2, rfl⟩
abbrev zz_H : Type := Nat → Option va_E
/-- launch, classes' numbers and slots, array classes by kind, base, the empty array, the class object of Object[] -/
abbrev zz_X : Type := Launch × va_G × (Nat → Nat) × Nat × Nat × Nat × Nat × Nat × (Nat → Int32)
abbrev zz_l (X : zz_X) : Launch := X.1
abbrev zz_D (X : zz_X) : va_G := X.2.1
abbrev zz_a (X : zz_X) : Nat → Nat := X.2.2.1
abbrev zz_b (X : zz_X) : Nat := X.2.2.2.1
abbrev zz_e (X : zz_X) : Nat := X.2.2.2.2.1
abbrev zz_mi (X : zz_X) : Nat := X.2.2.2.2.2.1
/-- the script: where it lies, its length, what it holds -/
abbrev zz_sb (X : zz_X) : Nat := X.2.2.2.2.2.2.1
abbrev zz_sl (X : zz_X) : Nat := X.2.2.2.2.2.2.2.1
abbrev zz_sx (X : zz_X) : Nat → Int32 := X.2.2.2.2.2.2.2.2
abbrev zz_A (X : zz_X) : Nat → Prop := fun q => zz_b X ≤ q
/-- a method: name, code, locals, what it returns -/
abbrev zz_M : Type := MethodName × ByteArray × Nat × Option FieldType
def zz_up (h : zz_H) (a : Nat) (e : va_E) : zz_H := fun q => if q = a then some e else h q
theorem zz_up_eq (h : zz_H) (a : Nat) (e : va_E) : zz_up h a e a = some e := if_pos rfl
theorem zz_up_ne {h : zz_H} {a q : Nat} {e : va_E} (hq : q ≠ a) : zz_up h a e q = h q := if_neg hq
theorem zz_up_up (h : zz_H) (a : Nat) (e f : va_E) : zz_up (zz_up h a e) a f = zz_up h a f := by
  funext q
  by_cases hq : q = a
  · subst hq; rw [zz_up_eq, zz_up_eq]
  · rw [zz_up_ne hq, zz_up_ne hq, zz_up_ne hq]
theorem zz_up_same {h : zz_H} {a : Nat} {e : va_E} (ha : h a = some e) : zz_up h a e = h := by
  funext q
  by_cases hq : q = a
  · subst hq; rw [zz_up_eq, ha]
  · rw [zz_up_ne hq]
def zz_ty (X : zz_X) : List (ClassId × FieldType) := [(zz_a X 0, .int), (zz_a X 1, .char), (zz_a X 2, .boolean), (zz_a X 3, .object "java/lang/Object"), (zz_a X 4, .object "java/lang/Object")]
def zz_c (X : zz_X) (e : va_E) : va_E := match e with
  | .inl x => .inl (zz_a X x.1, x.2)
  | .inr o => .inr o
/-- an array of kind 4 lay there before: of it its class and its length are known -/
def zz_em (X : zz_X) (a N : Nat) (H : Heap) : Prop := ∃ cell : Cell, H[a]? = some cell ∧ cell.cls = zz_a X 4 ∧ cell.slots.size = N ∧ ∀ k, cell.vm ≠ .statics k
def zz_at (X : zz_X) (a : Nat) (e : va_E) (H : Heap) : Prop := match e with
  | .inl x => (match Nat.beq x.1 4 with
    | true => zz_em X a x.2.1 H
    | false => va_at (zz_D X) zz_cl (a, .inl (zz_a X x.1, x.2)) H)
  | .inr o => va_at (zz_D X) zz_cl (a, .inr o) H
theorem zz_at.of {X : zz_X} {a : Nat} {e : va_E} {H : Heap} (h : va_at (zz_D X) zz_cl (a, zz_c X e) H) : zz_at X a e H := by
  rcases e with ⟨k, N, z⟩ | o
  · unfold zz_at
    dsimp only
    cases hk : Nat.beq k 4 with
    | false => exact h
    | true =>
      have hk4 : k = 4 := Nat.eq_of_beq_eq_true hk
      subst hk4
      have h : H[a]? = some (vp_cell (zz_a X 4) (N, z)) := h
      refine ⟨_, h, ?_, ?_, ?_⟩
      · rcases z with z | z | z | z | z <;> rfl
      · rcases z with z | z | z | z | z <;> exact arrV_size _ _ _
      · rcases z with z | z | z | z | z <;> (intro k hk; cases hk)
  · exact h
theorem zz_at.kept {X : zz_X} {a : Nat} {e : va_E} {H H1 : Heap} (h : zz_at X a e H) (hq : H1[a]? = H[a]?) : zz_at X a e H1 := by
  rcases e with ⟨k, x⟩ | o
  · unfold zz_at at h ⊢
    dsimp only at h ⊢
    cases hk : Nat.beq k 4 with
    | false =>
      rw [hk] at h
      exact va_at.kept h hq
    | true =>
      rw [hk] at h
      obtain ⟨cell, h1, h2⟩ := h
      exact ⟨cell, hq.trans h1, h2⟩
  · have h : va_at (zz_D X) zz_cl (a, .inr o) H := h
    exact va_at.kept h hq
theorem zz_at.lt {X : zz_X} {a : Nat} {e : va_E} {H : Heap} (h : zz_at X a e H) : a < H.size := by
  rcases e with ⟨k, x⟩ | o
  · unfold zz_at at h
    dsimp only at h
    cases hk : Nat.beq k 4 with
    | false =>
      rw [hk] at h
      exact va_at.lt h
    | true =>
      rw [hk] at h
      obtain ⟨cell, h1, h2⟩ := h
      exact (Array.getElem?_eq_some_iff.mp h1).1
  · have h : va_at (zz_D X) zz_cl (a, .inr o) H := h
    exact va_at.lt h
/-- the abstract heap and the machine's: every cell that h names lies there; those that may be written lie from the base on -/
def zz_T (X : zz_X) (n : Nat) (h : zz_H) (H : Heap) : Prop :=
  H.size = n ∧ zz_b X ≤ n ∧ ∀ (a : Nat) (e : va_E), h a = some e → zz_at X a e H ∧ ((∃ x, e = .inl (4, x)) ∨ zz_b X ≤ a)
theorem zz_T.lt {X : zz_X} {n : Nat} {h : zz_H} {H : Heap} (hT : zz_T X n h H) {a : Nat} {e : va_E} (ha : h a = some e) : a < n := by
  have := (hT.2.2 a e ha).1.lt
  rw [← hT.1]; exact this
theorem zz_T.put {X : zz_X} {n : Nat} {h : zz_H} {H H1 : Heap} {a : Nat} {e : va_E} (hT : zz_T X n h H) (hb : zz_b X ≤ a) (he : va_at (zz_D X) zz_cl (a, zz_c X e) H1) (z : H1.size = H.size) (oq : ∀ q : Nat, q ≠ a → H1[q]? = H[q]?) : zz_T X n (zz_up h a e) H1 := by
  refine ⟨z.trans hT.1, hT.2.1, fun q f hq => ?_⟩
  by_cases hqa : q = a
  · subst hqa
    rw [zz_up_eq] at hq
    cases hq
    exact ⟨zz_at.of he, Or.inr hb⟩
  · rw [zz_up_ne hqa] at hq
    obtain ⟨h1, h2⟩ := hT.2.2 q f hq
    exact ⟨h1.kept (oq q hqa), h2⟩
theorem zz_T.push {X : zz_X} {n : Nat} {h : zz_H} {H H1 : Heap} {e : va_E} (hT : zz_T X n h H) (he : va_at (zz_D X) zz_cl (n, zz_c X e) H1) (z : H1.size = n + 1) (oq : ∀ q : Nat, q < n → H1[q]? = H[q]?) : zz_T X (n + 1) (zz_up h n e) H1 := by
  refine ⟨z, Nat.le_succ_of_le hT.2.1, fun q f hq => ?_⟩
  by_cases hqa : q = n
  · subst hqa
    rw [zz_up_eq] at hq
    cases hq
    exact ⟨zz_at.of he, Or.inr hT.2.1⟩
  · rw [zz_up_ne hqa] at hq
    obtain ⟨h1, h2⟩ := hT.2.2 q f hq
    exact ⟨h1.kept (oq q (hT.lt hq)), h2⟩
/-- what rides along at every start: classes, array classes, links inside the nest, casts, the empty array's static, the class object -/
def zz_K (X : zz_X) (U : State) : Prop :=
  va_K (zz_D X) zz_cl (zz_ty X) U ∧ (∀ q ∈ zz_nl, va_Nw (.methodLinkNest q.1 q.2.1 q.2.2.1 q.2.2.2) U) ∧ (∀ q ∈ zz_ca, va_Nw (.castable q.1 q.2) U) ∧ va_AO "java/lang/Object" U ∧
  va_Z "java/util/ArrayList" "DEFAULTCAPACITY_EMPTY_ELEMENTDATA" "[Ljava/lang/Object;" (.ref (zz_e X)) (zz_A X) U U.heap ∧ va_Mi "[Ljava/lang/Object;" (zz_mi X) U ∧ va_Dc U
theorem zz_K.go {X : zz_X} {u U : State} (hW : u.WarmedH U.vm) (hq : ∀ a : Nat, a < u.heap.size → ¬ zz_A X a → U.heap[a]? = u.heap[a]?) (h : zz_K X u) : zz_K X U := by
  obtain ⟨h1, h2, h3, h4, h5, h6, h7⟩ := h
  exact ⟨h1.moved hW.alike, fun q hq => (h2 q hq).warmM hW, fun q hq => (h3 q hq).warmC hW, h4.moved hW.alike, (h5.kept hq).moved hW.alike, h6.moved hW.alike, h7.moved hW.alike⟩
theorem zz_K.calling {X : zz_X} {U : State} {g : JFrame} {mk : MethodId} {a : Array Value} (h : zz_K X U) : zz_K X (U.calling g mk a) := by
  obtain ⟨h1, h2, h3, h4, h5, h6, h7⟩ := h
  have r : U.vm.Alike (U.calling g mk a).vm := Vm.Alike.refl U.vm
  exact ⟨h1.moved r, fun q hq => (h2 q hq).same rfl rfl, fun q hq => (h3 q hq).same rfl rfl, h4.moved r, h5.moved r, h6.moved r, h7.moved r⟩
/-- locals, each of one slot -/
def zz_L (L : Nat) (ls : List (Option Value)) (A : Array Slot) : Prop := A.size = L ∧ lv_wf A ∧ ls.length ≤ L ∧ ∀ (i : Nat) (v : Value), ls[i]? = some (some v) → A[i]? = some (.val v) ∧ v.category = 1
def zz_pr : Nat → List (Option Value) → List (Nat × Value)
  | _, [] => []
  | i, none :: l => zz_pr (i + 1) l
  | i, some v :: l => (i, v) :: zz_pr (i + 1) l
theorem zz_pr_in : ∀ (ls : List (Option Value)) (i j : Nat) (v : Value), ls[j]? = some (some v) → (i + j, v) ∈ zz_pr i ls
  | [], _, _, _, h => by simp at h
  | x :: l, i, 0, v, h => by
    simp only [List.getElem?_cons_zero, Option.some.injEq] at h
    subst h
    exact List.mem_cons_self
  | x :: l, i, j + 1, v, h => by
    rw [List.getElem?_cons_succ] at h
    have h1 := zz_pr_in l (i + 1) j v h
    rw [show i + 1 + j = i + (j + 1) by omega] at h1
    cases x with
    | none => exact h1
    | some w => exact List.mem_cons_of_mem _ h1
theorem zz_pr_of : ∀ (ls : List (Option Value)) (i : Nat) (q : Nat × Value), q ∈ zz_pr i ls → ∃ j, q.1 = i + j ∧ ls[j]? = some (some q.2)
  | [], _, _, h => by cases h
  | none :: l, i, q, h => by
    obtain ⟨j, h1, h2⟩ := zz_pr_of l (i + 1) q h
    exact ⟨j + 1, by omega, by rw [List.getElem?_cons_succ]; exact h2⟩
  | some w :: l, i, q, h => by
    rcases List.mem_cons.mp h with h | h
    · subst h
      exact ⟨0, rfl, rfl⟩
    · obtain ⟨j, h1, h2⟩ := zz_pr_of l (i + 1) q h
      exact ⟨j + 1, by omega, by rw [List.getElem?_cons_succ]; exact h2⟩
theorem zz_L.has {L : Nat} {ls : List (Option Value)} {A : Array Slot} (h : zz_L L ls A) : lv_has A L (zz_pr 0 ls) := by
  refine ⟨h.1, h.2.1, fun q hq => ?_⟩
  obtain ⟨j, h1, h2⟩ := zz_pr_of ls 0 q hq
  rw [Nat.zero_add] at h1
  rw [h1]
  exact (h.2.2.2 j q.2 h2).1
theorem zz_L.store {L : Nat} {ls ls' : List (Option Value)} {A A' : Array Slot} {i : Nat} {v : Value} (h : zz_L L ls A) (hs : zz_set ls i (some v) = some ls') (hv : v.category = 1)
    (hA : lv_has A' L ((i, v) :: (zz_pr 0 ls).filter (fun q => !(q.1 == i) && !(q.1 + 1 == i && q.2.category == 2)))) : zz_L L ls' A' := by
  obtain ⟨hi, rfl⟩ := zz_set_spec hs
  refine ⟨hA.1, hA.2.1, by rw [List.length_set]; exact h.2.2.1, fun j w hj => ?_⟩
  by_cases hji : j = i
  · subst hji
    rw [List.getElem?_set_self hi] at hj
    cases hj
    exact ⟨hA.2.2 (j, v) List.mem_cons_self, hv⟩
  · rw [List.getElem?_set_ne (Ne.symm hji)] at hj
    have hw := (h.2.2.2 j w hj).2
    refine ⟨hA.2.2 (j, w) (List.mem_cons_of_mem _ (List.mem_filter.mpr ⟨?_, ?_⟩)), hw⟩
    · have := zz_pr_in ls 0 j w hj
      rwa [Nat.zero_add] at this
    · simp [hji, hw]
theorem zz_L.hi {L : Nat} {ls ls' : List (Option Value)} {A : Array Slot} {i : Nat} {v : Option Value} (h : zz_L L ls A) (hs : zz_set ls i v = some ls') : i < L :=
  Nat.lt_of_lt_of_le (zz_set_spec hs).1 h.2.2.1
/-- the locals at a method's entry -/
def zz_en : List Value → Nat → Option (List (Option Value))
  | [], L => some (List.replicate L none)
  | _ :: _, 0 => none
  | v :: vs, L + 1 => if v.category = 1 then (zz_en vs L).map (fun r => some v :: r) else none
theorem zz_en_spec : ∀ {vs : List Value} {L : Nat} {ls : List (Option Value)} (j : Nat), zz_en vs L = some ls →
    ls.length = L ∧ (lg_sl vs).length ≤ L ∧ ∀ (i : Nat) (v : Value), ls[i]? = some (some v) → (j + i, v) ∈ lv_args j vs ∧ v.category = 1
  | [], L, ls, j, h => by
    cases h
    refine ⟨List.length_replicate, Nat.zero_le _, fun i v hi => ?_⟩
    rw [List.getElem?_replicate] at hi
    split at hi <;> cases hi
  | _ :: _, 0, _, _, h => by cases h
  | w :: vs, L + 1, ls, j, h => by
    unfold zz_en at h
    by_cases hc : w.category = 1
    · rw [if_pos hc, Option.map_eq_some_iff] at h
      obtain ⟨r, h1, rfl⟩ := h
      obtain ⟨a1, a2, a3⟩ := zz_en_spec (j + 1) h1
      have hc2 : ¬ w.category = 2 := by omega
      refine ⟨by simp [a1], ?_, fun i v hi => ?_⟩
      · have : (lg_sl (w :: vs)).length = (lg_sl vs).length + 1 := by simp [lg_sl, hc2]
        omega
      · unfold lv_args
        rw [if_neg hc2]
        cases i with
        | zero =>
          simp only [List.getElem?_cons_zero, Option.some.injEq] at hi
          subst hi
          exact ⟨List.mem_cons_self, hc⟩
        | succ i =>
          rw [List.getElem?_cons_succ] at hi
          obtain ⟨b1, b2⟩ := a3 i v hi
          rw [show j + 1 + i = j + (i + 1) by omega] at b1
          exact ⟨List.mem_cons_of_mem _ b1, b2⟩
    · rw [if_neg hc] at h
      cases h
theorem zz_en_L {vs : List Value} {L : Nat} {ls : List (Option Value)} (h : zz_en vs L = some ls) : zz_L L ls ((lg_sl vs ++ List.replicate (L - (lg_sl vs).length) Slot.unset).toArray) := by
  obtain ⟨a1, a2, a3⟩ := zz_en_spec 0 h
  have hE := lv_entry vs a2
  refine ⟨hE.1, hE.2.1, Nat.le_of_eq a1, fun i v hi => ?_⟩
  obtain ⟨b1, b2⟩ := a3 i v hi
  rw [Nat.zero_add] at b1
  exact ⟨hE.2.2 (i, v) b1, b2⟩
/-- what a method's body knows of its frame -/
def zz_C (X : zz_X) (M : zz_M) (d : Nat) (R : Room) (p : Program) (s : State) (m : MethodId) (args : Array Value) (meth : Method) (c : Code) : Prop :=
  p.tables.exec = Jvm.exec ∧ c.code = M.2.1 ∧ c.maxLocals = M.2.2.1 ∧ meth.sig.returnType = M.2.2.2 ∧ meth.locks = false ∧ s.vm.findClass M.1.cls = some m.cls ∧ meth.name = M.1.name ∧ (∀ w ∈ zz_ws, w.before args s = true) ∧ zz_K X s ∧ zz_b X ≤ s.heap.size ∧ d ≤ R.frames ∧ 39 * d ≤ R.locals ∧ (M.1.cls = "RequestGateLaw" → va_X (zz_sb X) (zz_sl X) (zz_sx X) s s.heap ∧ zz_sb X < s.heap.size ∧ ¬ zz_A X (zz_sb X))
section ZC
variable {X : zz_X} {M : zz_M} {d : Nat} {R : Room} {p : Program} {s : State} {m : MethodId} {args : Array Value} {meth : Method} {c : Code}
theorem zz_C.x (C : zz_C X M d R p s m args meth c) : p.tables.exec = Jvm.exec := C.1
theorem zz_C.b (C : zz_C X M d R p s m args meth c) : c.code = M.2.1 := C.2.1
theorem zz_C.ml (C : zz_C X M d R p s m args meth c) : c.maxLocals = M.2.2.1 := C.2.2.1
theorem zz_C.r (C : zz_C X M d R p s m args meth c) : meth.sig.returnType = M.2.2.2 := C.2.2.2.1
theorem zz_C.lk (C : zz_C X M d R p s m args meth c) : meth.locks = false := C.2.2.2.2.1
theorem zz_C.ow (C : zz_C X M d R p s m args meth c) : s.vm.findClass M.1.cls = some m.cls := C.2.2.2.2.2.1
theorem zz_C.nm (C : zz_C X M d R p s m args meth c) : meth.name = M.1.name := C.2.2.2.2.2.2.1
theorem zz_C.ts (C : zz_C X M d R p s m args meth c) : ∀ w ∈ zz_ws, w.before args s = true := C.2.2.2.2.2.2.2.1
theorem zz_C.k (C : zz_C X M d R p s m args meth c) : zz_K X s := C.2.2.2.2.2.2.2.2.1
theorem zz_C.hb (C : zz_C X M d R p s m args meth c) : zz_b X ≤ s.heap.size := C.2.2.2.2.2.2.2.2.2.1
theorem zz_C.f (C : zz_C X M d R p s m args meth c) : d ≤ R.frames := C.2.2.2.2.2.2.2.2.2.2.1
theorem zz_C.w (C : zz_C X M d R p s m args meth c) : 39 * d ≤ R.locals := C.2.2.2.2.2.2.2.2.2.2.2.1
theorem zz_C.sc (C : zz_C X M d R p s m args meth c) (h : M.1.cls = "RequestGateLaw") : va_X (zz_sb X) (zz_sl X) (zz_sx X) s s.heap ∧ zz_sb X < s.heap.size ∧ ¬ zz_A X (zz_sb X) := C.2.2.2.2.2.2.2.2.2.2.2.2 h
end ZC
/-- a return instruction at pc that may return r -/
def zz_rt (M : zz_M) (pc : Nat) (r : Option Value) : Prop :=
  (∃ (v : Int32) (ty : FieldType), r = some (.int v) ∧ M.2.2.2 = some ty ∧ narrow ty (.int v) = .int v ∧ decode M.2.1 pc = .ok (.ireturn, 1)) ∨
  (r = none ∧ M.2.2.2 = none ∧ decode M.2.1 pc = .ok (.return_, 1)) ∨
  (∃ (v : Value) (rt : FieldType), r = some v ∧ M.2.2.2 = some rt ∧ ((∃ nm, rt = .object nm) ∨ ∃ t, rt = .array t) ∧ (v = .null ∨ ∃ a, v = .ref a) ∧ decode M.2.1 pc = .ok (.areturn, 1))
def zz_R (X : zz_X) (M : zz_M) (R : Room) (Q : Option Value → Nat → zz_H → Prop) (p : Program) (e : Env) (s : State) (m : MethodId) (args : Array Value) (below : List Frame) (meth : Method) (c : Code) (Qf : State → Prop) : Prop :=
  ∀ (r : Option Value) (n : Nat) (h : zz_H) (H : Heap) (locs : List Loc) (cells slots pc : Nat) (A : Array Slot), Q r n h → zz_T X n h H → va_S (zz_A X) s.heap H locs → cells ≤ R.cells → slots ≤ R.slots → zz_rt M pc r →
    W p (zz_l X) e R s m args below meth c H locs cells slots Qf (F0 m pc A r.toList)
/-- from pc, with these locals, this stack and this heap, the method comes to its end, and Q holds of answer, heap size and heap -/
def zz_Z (X : zz_X) (M : zz_M) (d : Nat) (Q : Option Value → Nat → zz_H → Prop) (kc ks pc : Nat) (ls : List (Option Value)) (st : List Value) (n : Nat) (h : zz_H) : Prop :=
  ∀ (p : Program) (e : Env) (R : Room) (s : State) (m : MethodId) (args : Array Value) (below : List Frame) (meth : Method) (c : Code) (Qf : State → Prop) (H : Heap) (locs : List Loc) (cells slots : Nat) (A : Array Slot),
    zz_C X M d R p s m args meth c → zz_R X M R Q p e s m args below meth c Qf → zz_T X n h H → va_S (zz_A X) s.heap H locs → zz_L M.2.2.1 ls A → cells + kc ≤ R.cells → slots + ks ≤ R.slots →
    W p (zz_l X) e R s m args below meth c H locs cells slots Qf (F0 m pc A st)
def zz_Pc (X : zz_X) (av : List Value) (n : Nat) (h : zz_H) : Array Value → State → Prop := fun v U => v = av.toArray ∧ zz_K X U ∧ zz_T X n h U.heap
def zz_Qc (X : zz_X) (Q : Option Value → Nat → zz_H → Prop) : Array Value → State → Outcome → State → Prop := fun _ st o t => (∃ (r : Option Value) (n : Nat) (h : zz_H), o = .returned r ∧ Q r n h ∧ zz_T X n h t.heap) ∧ va_F (zz_A X) st t
/-- a method's contract: called with av, at heap h of size n, it makes at most mc cells of ms slots, and Q holds behind it -/
def zz_Ct (X : zz_X) (M : zz_M) (d mc ms : Nat) (av : List Value) (n : Nat) (h : zz_H) (Q : Option Value → Nat → zz_H → Prop) : Prop :=
  Met (zz_l X) M.1 (Cond.code M.1 M.2.1 M.2.2.1 M.2.2.2 :: zz_ws) { frames := d, cells := mc, slots := ms, locals := 39 * d } (zz_Pc X av n h) (zz_Qc X Q) mc ms (zz_A X)
theorem zz_start {X : zz_X} {M : zz_M} {d mc ms n : Nat} {av : List Value} {h : zz_H} {Q : Option Value → Nat → zz_H → Prop} {ls : List (Option Value)} (hy : plainName M.1.cls = true) (hl : zz_en av M.2.2.1 = some ls)
    (K : zz_Z X M d Q mc ms 0 ls [] n h) (hlw : M.1.cls ≠ "RequestGateLaw" := by decide +kernel) : zz_Ct X M d mc ms av n h Q := by
  refine Met.ofW (cc := M.2.1) (maxL := M.2.2.1) (ret := M.2.2.2) hy rfl ?_
  intro p e s m args below meth c s₁ B hml hv
  obtain ⟨rfl, hK, hT⟩ := hv
  have hts := atoms_spec (ws := (Cond.code M.1 M.2.1 M.2.2.1 M.2.2.2 :: zz_ws)) B.pre
  have hlocks := B.notSynchronized
  rw [lg_entry_eq]
  refine K p e _ s m _ below meth c _ s.heap [] 0 0 _ ⟨B.exec, B.bytes, hml, B.returns, hlocks, findClass_of_methodNamed B.named, (name_of_methodNamed B.named B.method).1, fun w hw => hts w (List.mem_cons_of_mem _ hw), hK, by rw [hT.1]; exact hT.2.1, Nat.le_refl _, Nat.le_refl _, fun hh => absurd hh hlw⟩ ?_ hT va_S.rf (zz_en_L hl) (by rw [Nat.zero_add]; exact Nat.le_refl _) (by rw [Nat.zero_add]; exact Nat.le_refl _)
  intro r n' h' H locs cells slots pc A hQ hT' hS hc hs hr
  refine W.widen (k := mc) (n := ms) hc hs ?_
  have hq : ∀ t : State, t.heap = H → s.WarmedH t.vm → zz_Qc X Q av.toArray s (.returned r) t := fun t ht hW => ⟨⟨r, n', h', rfl, hQ, by rw [ht]; exact hT'⟩, hS.F ht⟩
  rcases hr with ⟨v, ty, rfl, h1, h2, h3⟩ | ⟨rfl, h1, h3⟩ | ⟨v, rt, rfl, h1, h2, h4, h3⟩
  · exact W.zret B.exec B.bytes (B.returns.trans h1) h2 hq hS.2.2 h3 hlocks
  · exact W.vret B.exec B.bytes (B.returns.trans h1) hq hS.2.2 h3 hlocks
  · exact W.aret B.exec B.bytes (B.returns.trans h1) h2 h4 hq hS.2.2 h3 hlocks
/-- the postcondition may be weakened, the room too -/
theorem zz_Z.post {X : zz_X} {M : zz_M} {d kc ks pc n : Nat} {Q Q' : Option Value → Nat → zz_H → Prop} {ls : List (Option Value)} {st : List Value} {h : zz_H} (hQ : ∀ r n' h', Q r n' h' → Q' r n' h') (K : zz_Z X M d Q kc ks pc ls st n h) : zz_Z X M d Q' kc ks pc ls st n h :=
  fun p e R s m args below meth c Qf H locs cells slots A C Re T S L hc hs => K p e R s m args below meth c Qf H locs cells slots A C (fun r n' h' H' l' c' s' pc' A' q => Re r n' h' H' l' c' s' pc' A' (hQ _ _ _ q)) T S L hc hs
theorem zz_Z.less {X : zz_X} {M : zz_M} {d kc ks kc' ks' pc n : Nat} {Q : Option Value → Nat → zz_H → Prop} {ls : List (Option Value)} {st : List Value} {h : zz_H} (h1 : kc' ≤ kc) (h2 : ks' ≤ ks) (K : zz_Z X M d Q kc' ks' pc ls st n h) : zz_Z X M d Q kc ks pc ls st n h :=
  fun p e R s m args below meth c Qf H locs cells slots A C Re T S L hc hs => K p e R s m args below meth c Qf H locs cells slots A C Re T S L (by omega) (by omega)
/-- every cell that h names lies below n -/
theorem zz_Z.lt {X : zz_X} {M : zz_M} {d kc ks pc n : Nat} {Q : Option Value → Nat → zz_H → Prop} {ls : List (Option Value)} {st : List Value} {h : zz_H} (K : (∀ a e, h a = some e → a < n) → zz_Z X M d Q kc ks pc ls st n h) : zz_Z X M d Q kc ks pc ls st n h :=
  fun p e R s m args below meth c Qf H locs cells slots A C Re T S L hc hs => K (fun _ _ ha => T.lt ha) p e R s m args below meth c Qf H locs cells slots A C Re T S L hc hs
/-- an instruction at pc, its length, the next pc -/
def zz_d (M : zz_M) (pc : Nat) (i : Instr) (len q : Nat) : Prop := decode M.2.1 pc = .ok (i, len) ∧ q = pc + len
def zz_ir : Value → Bool
  | .ref _ => true
  | .null => true
  | _ => false
section ZV
variable {X : zz_X} {M : zz_M} {d kc ks pc q n : Nat} {Q : Option Value → Nat → zz_H → Prop} {ls ls' : List (Option Value)} {st : List Value} {h : zz_H}
theorem zi_iconst {z : Int} (hd : zz_d M pc (.iconst z) 1 q)  (k : zz_Z X M d Q kc ks q ls (.int (Int32.ofInt z) :: st) n h) : zz_Z X M d Q kc ks pc ls st n h := by
  obtain ⟨hd, rfl⟩ := hd
  intro p e R s m args below meth c Qf H locs cells slots A C Re T S L hc hs
  exact lv_iconst C.x C.b hd rfl (k p e R s m args below meth c Qf H locs cells slots A C Re T S L hc hs)
theorem zi_bipush {z : Int} {v : Int32} (hd : zz_d M pc (.bipush z) 2 q) (hv : (Int8.ofInt z).toInt32 = v) (k : zz_Z X M d Q kc ks q ls (.int v :: st) n h) : zz_Z X M d Q kc ks pc ls st n h := by
  obtain ⟨hd, rfl⟩ := hd
  intro p e R s m args below meth c Qf H locs cells slots A C Re T S L hc hs
  exact lv_bipush C.x C.b hd hv (k p e R s m args below meth c Qf H locs cells slots A C Re T S L hc hs)
theorem zi_sipush {z : Int} {v : Int32} (hd : zz_d M pc (.sipush z) 3 q) (hv : (Int16.ofInt z).toInt32 = v) (k : zz_Z X M d Q kc ks q ls (.int v :: st) n h) : zz_Z X M d Q kc ks pc ls st n h := by
  obtain ⟨hd, rfl⟩ := hd
  intro p e R s m args below meth c Qf H locs cells slots A C Re T S L hc hs
  exact lv_sipush C.x C.b hd hv (k p e R s m args below meth c Qf H locs cells slots A C Re T S L hc hs)
theorem zi_null  (hd : zz_d M pc .aconst_null 1 q)  (k : zz_Z X M d Q kc ks q ls (.null :: st) n h) : zz_Z X M d Q kc ks pc ls st n h := by
  obtain ⟨hd, rfl⟩ := hd
  intro p e R s m args below meth c Qf H locs cells slots A C Re T S L hc hs
  exact lv_null C.x C.b hd  (k p e R s m args below meth c Qf H locs cells slots A C Re T S L hc hs)
theorem zi_iload_n {i : Fin 4} {x : Int32} (hd : zz_d M pc (.iload_n i) 1 q) (hl : ls[(i : Nat)]? = some (some (.int x))) (k : zz_Z X M d Q kc ks q ls (.int x :: st) n h) : zz_Z X M d Q kc ks pc ls st n h := by
  obtain ⟨hd, rfl⟩ := hd
  intro p e R s m args below meth c Qf H locs cells slots A C Re T S L hc hs
  exact lv_iload_n C.x C.b hd rfl (L.2.2.2 _ _ hl).1 (k p e R s m args below meth c Qf H locs cells slots A C Re T S L hc hs)
theorem zi_iload {i : Nat} {x : Int32} (hd : zz_d M pc (.iload i) 2 q) (hl : ls[i]? = some (some (.int x))) (k : zz_Z X M d Q kc ks q ls (.int x :: st) n h) : zz_Z X M d Q kc ks pc ls st n h := by
  obtain ⟨hd, rfl⟩ := hd
  intro p e R s m args below meth c Qf H locs cells slots A C Re T S L hc hs
  exact lv_iload C.x C.b hd (L.2.2.2 _ _ hl).1 (k p e R s m args below meth c Qf H locs cells slots A C Re T S L hc hs)
theorem zi_aload_nR {i : Fin 4} {x : Nat} (hd : zz_d M pc (.aload_n i) 1 q) (hl : ls[(i : Nat)]? = some (some (.ref x))) (k : zz_Z X M d Q kc ks q ls (.ref x :: st) n h) : zz_Z X M d Q kc ks pc ls st n h := by
  obtain ⟨hd, rfl⟩ := hd
  intro p e R s m args below meth c Qf H locs cells slots A C Re T S L hc hs
  exact lv_aload_n C.x C.b hd rfl (L.2.2.2 _ _ hl).1 (k p e R s m args below meth c Qf H locs cells slots A C Re T S L hc hs)
theorem zi_aloadR {i : Nat} {x : Nat} (hd : zz_d M pc (.aload i) 2 q) (hl : ls[i]? = some (some (.ref x))) (k : zz_Z X M d Q kc ks q ls (.ref x :: st) n h) : zz_Z X M d Q kc ks pc ls st n h := by
  obtain ⟨hd, rfl⟩ := hd
  intro p e R s m args below meth c Qf H locs cells slots A C Re T S L hc hs
  exact lv_aload C.x C.b hd (L.2.2.2 _ _ hl).1 (k p e R s m args below meth c Qf H locs cells slots A C Re T S L hc hs)
theorem zi_aload_nN {i : Fin 4} (hd : zz_d M pc (.aload_n i) 1 q) (hl : ls[(i : Nat)]? = some (some .null)) (k : zz_Z X M d Q kc ks q ls (.null :: st) n h) : zz_Z X M d Q kc ks pc ls st n h := by
  obtain ⟨hd, rfl⟩ := hd
  intro p e R s m args below meth c Qf H locs cells slots A C Re T S L hc hs
  exact lv_aload_nN C.x C.b hd rfl (L.2.2.2 _ _ hl).1 (k p e R s m args below meth c Qf H locs cells slots A C Re T S L hc hs)
theorem zi_aloadN {i : Nat} (hd : zz_d M pc (.aload i) 2 q) (hl : ls[i]? = some (some .null)) (k : zz_Z X M d Q kc ks q ls (.null :: st) n h) : zz_Z X M d Q kc ks pc ls st n h := by
  obtain ⟨hd, rfl⟩ := hd
  intro p e R s m args below meth c Qf H locs cells slots A C Re T S L hc hs
  exact lv_aloadN C.x C.b hd (L.2.2.2 _ _ hl).1 (k p e R s m args below meth c Qf H locs cells slots A C Re T S L hc hs)
theorem zi_aload_n {i : Fin 4} {v : Value} (hd : zz_d M pc (.aload_n i) 1 q) (hl : ls[(i : Nat)]? = some (some v)) (hv : zz_ir v = true) (k : zz_Z X M d Q kc ks q ls (v :: st) n h) : zz_Z X M d Q kc ks pc ls st n h := by
  cases v with
  | ref a => exact zi_aload_nR hd hl k
  | null => exact zi_aload_nN hd hl k
  | int _ => cases hv
  | long _ => cases hv
  | float _ => cases hv
  | double _ => cases hv
  | retAddr _ => cases hv
theorem zi_aload {i : Nat} {v : Value} (hd : zz_d M pc (.aload i) 2 q) (hl : ls[i]? = some (some v)) (hv : zz_ir v = true) (k : zz_Z X M d Q kc ks q ls (v :: st) n h) : zz_Z X M d Q kc ks pc ls st n h := by
  cases v with
  | ref a => exact zi_aloadR hd hl k
  | null => exact zi_aloadN hd hl k
  | int _ => cases hv
  | long _ => cases hv
  | float _ => cases hv
  | double _ => cases hv
  | retAddr _ => cases hv
theorem zi_istore_n {i : Fin 4} {x : Int32} (hd : zz_d M pc (.istore_n i) 1 q) (hl : zz_set ls (i : Nat) (some (.int x)) = some ls') (k : zz_Z X M d Q kc ks q ls' st n h) : zz_Z X M d Q kc ks pc ls ((.int x) :: st) n h := by
  obtain ⟨hd, rfl⟩ := hd
  intro p e R s m args below meth c Qf H locs cells slots A C Re T S L hc hs
  exact lv_istore_n C.x C.b hd rfl L.has (L.hi hl) rfl fun A' hA => k p e R s m args below meth c Qf H locs cells slots A' C Re T S (L.store hl rfl hA) hc hs
theorem zi_istore {i : Nat} {x : Int32} (hd : zz_d M pc (.istore i) 2 q) (hl : zz_set ls i (some (.int x)) = some ls') (k : zz_Z X M d Q kc ks q ls' st n h) : zz_Z X M d Q kc ks pc ls ((.int x) :: st) n h := by
  obtain ⟨hd, rfl⟩ := hd
  intro p e R s m args below meth c Qf H locs cells slots A C Re T S L hc hs
  exact lv_istore C.x C.b hd  L.has (L.hi hl) rfl fun A' hA => k p e R s m args below meth c Qf H locs cells slots A' C Re T S (L.store hl rfl hA) hc hs
theorem zi_astore_nR {i : Fin 4} {x : Nat} (hd : zz_d M pc (.astore_n i) 1 q) (hl : zz_set ls (i : Nat) (some (.ref x)) = some ls') (k : zz_Z X M d Q kc ks q ls' st n h) : zz_Z X M d Q kc ks pc ls ((.ref x) :: st) n h := by
  obtain ⟨hd, rfl⟩ := hd
  intro p e R s m args below meth c Qf H locs cells slots A C Re T S L hc hs
  exact lv_astore_n C.x C.b hd rfl L.has (L.hi hl) rfl fun A' hA => k p e R s m args below meth c Qf H locs cells slots A' C Re T S (L.store hl rfl hA) hc hs
theorem zi_astoreR {i : Nat} {x : Nat} (hd : zz_d M pc (.astore i) 2 q) (hl : zz_set ls i (some (.ref x)) = some ls') (k : zz_Z X M d Q kc ks q ls' st n h) : zz_Z X M d Q kc ks pc ls ((.ref x) :: st) n h := by
  obtain ⟨hd, rfl⟩ := hd
  intro p e R s m args below meth c Qf H locs cells slots A C Re T S L hc hs
  exact lv_astore C.x C.b hd  L.has (L.hi hl) rfl fun A' hA => k p e R s m args below meth c Qf H locs cells slots A' C Re T S (L.store hl rfl hA) hc hs
theorem zi_astore_nN {i : Fin 4} (hd : zz_d M pc (.astore_n i) 1 q) (hl : zz_set ls (i : Nat) (some .null) = some ls') (k : zz_Z X M d Q kc ks q ls' st n h) : zz_Z X M d Q kc ks pc ls (.null :: st) n h := by
  obtain ⟨hd, rfl⟩ := hd
  intro p e R s m args below meth c Qf H locs cells slots A C Re T S L hc hs
  exact lv_astore_nN C.x C.b hd rfl L.has (L.hi hl) rfl fun A' hA => k p e R s m args below meth c Qf H locs cells slots A' C Re T S (L.store hl rfl hA) hc hs
theorem zi_astoreN {i : Nat} (hd : zz_d M pc (.astore i) 2 q) (hl : zz_set ls i (some .null) = some ls') (k : zz_Z X M d Q kc ks q ls' st n h) : zz_Z X M d Q kc ks pc ls (.null :: st) n h := by
  obtain ⟨hd, rfl⟩ := hd
  intro p e R s m args below meth c Qf H locs cells slots A C Re T S L hc hs
  exact lv_astoreN C.x C.b hd  L.has (L.hi hl) rfl fun A' hA => k p e R s m args below meth c Qf H locs cells slots A' C Re T S (L.store hl rfl hA) hc hs
theorem zi_astore_n {i : Fin 4} {v : Value} (hd : zz_d M pc (.astore_n i) 1 q) (hv : zz_ir v = true) (hl : zz_set ls (i : Nat) (some v) = some ls') (k : zz_Z X M d Q kc ks q ls' st n h) : zz_Z X M d Q kc ks pc ls (v :: st) n h := by
  cases v with
  | ref a => exact zi_astore_nR hd hl k
  | null => exact zi_astore_nN hd hl k
  | int _ => cases hv
  | long _ => cases hv
  | float _ => cases hv
  | double _ => cases hv
  | retAddr _ => cases hv
theorem zi_astore {i : Nat} {v : Value} (hd : zz_d M pc (.astore i) 2 q) (hv : zz_ir v = true) (hl : zz_set ls i (some v) = some ls') (k : zz_Z X M d Q kc ks q ls' st n h) : zz_Z X M d Q kc ks pc ls (v :: st) n h := by
  cases v with
  | ref a => exact zi_astoreR hd hl k
  | null => exact zi_astoreN hd hl k
  | int _ => cases hv
  | long _ => cases hv
  | float _ => cases hv
  | double _ => cases hv
  | retAddr _ => cases hv
theorem zi_iinc {i : Nat} {z : Int} {x : Int32} (hd : zz_d M pc (.iinc i z) 3 q) (hx : ls[i]? = some (some (.int x))) (hl : zz_set ls i (some (.int (x + Int32.ofInt z))) = some ls') (k : zz_Z X M d Q kc ks q ls' st n h) : zz_Z X M d Q kc ks pc ls st n h := by
  obtain ⟨hd, rfl⟩ := hd
  intro p e R s m args below meth c Qf H locs cells slots A C Re T S L hc hs
  have h1 := zz_pr_in ls 0 i _ hx
  rw [Nat.zero_add] at h1
  obtain ⟨j, hj⟩ := List.getElem?_of_mem h1
  exact lv_iinc C.x C.b hd L.has hj rfl (L.hi hl) rfl fun A' hA => k p e R s m args below meth c Qf H locs cells slots A' C Re T S (L.store hl rfl hA) hc hs
theorem zi_iadd {x y : Int32} (hd : zz_d M pc .iadd 1 q)  (k : zz_Z X M d Q kc ks q ls (.int (x + y) :: st) n h) : zz_Z X M d Q kc ks pc ls (.int y :: .int x :: st) n h := by
  obtain ⟨hd, rfl⟩ := hd
  intro p e R s m args below meth c Qf H locs cells slots A C Re T S L hc hs
  exact lv_iadd C.x C.b hd  (k p e R s m args below meth c Qf H locs cells slots A C Re T S L hc hs)
theorem zi_isub {x y : Int32} (hd : zz_d M pc .isub 1 q)  (k : zz_Z X M d Q kc ks q ls (.int (x - y) :: st) n h) : zz_Z X M d Q kc ks pc ls (.int y :: .int x :: st) n h := by
  obtain ⟨hd, rfl⟩ := hd
  intro p e R s m args below meth c Qf H locs cells slots A C Re T S L hc hs
  exact lv_isub C.x C.b hd  (k p e R s m args below meth c Qf H locs cells slots A C Re T S L hc hs)
theorem zi_imul {x y : Int32} (hd : zz_d M pc .imul 1 q)  (k : zz_Z X M d Q kc ks q ls (.int (x * y) :: st) n h) : zz_Z X M d Q kc ks pc ls (.int y :: .int x :: st) n h := by
  obtain ⟨hd, rfl⟩ := hd
  intro p e R s m args below meth c Qf H locs cells slots A C Re T S L hc hs
  exact lv_imul C.x C.b hd  (k p e R s m args below meth c Qf H locs cells slots A C Re T S L hc hs)
theorem zi_iand {x y : Int32} (hd : zz_d M pc .iand 1 q)  (k : zz_Z X M d Q kc ks q ls (.int (x &&& y) :: st) n h) : zz_Z X M d Q kc ks pc ls (.int y :: .int x :: st) n h := by
  obtain ⟨hd, rfl⟩ := hd
  intro p e R s m args below meth c Qf H locs cells slots A C Re T S L hc hs
  exact lv_iand C.x C.b hd  (k p e R s m args below meth c Qf H locs cells slots A C Re T S L hc hs)
theorem zi_ior {x y : Int32} (hd : zz_d M pc .ior 1 q)  (k : zz_Z X M d Q kc ks q ls (.int (x ||| y) :: st) n h) : zz_Z X M d Q kc ks pc ls (.int y :: .int x :: st) n h := by
  obtain ⟨hd, rfl⟩ := hd
  intro p e R s m args below meth c Qf H locs cells slots A C Re T S L hc hs
  exact lv_ior C.x C.b hd  (k p e R s m args below meth c Qf H locs cells slots A C Re T S L hc hs)
theorem zi_ixor {x y : Int32} (hd : zz_d M pc .ixor 1 q)  (k : zz_Z X M d Q kc ks q ls (.int (x ^^^ y) :: st) n h) : zz_Z X M d Q kc ks pc ls (.int y :: .int x :: st) n h := by
  obtain ⟨hd, rfl⟩ := hd
  intro p e R s m args below meth c Qf H locs cells slots A C Re T S L hc hs
  exact lv_ixor C.x C.b hd  (k p e R s m args below meth c Qf H locs cells slots A C Re T S L hc hs)
theorem zi_ishl {x y : Int32} (hd : zz_d M pc .ishl 1 q)  (k : zz_Z X M d Q kc ks q ls (.int (x <<< (y &&& 31)) :: st) n h) : zz_Z X M d Q kc ks pc ls (.int y :: .int x :: st) n h := by
  obtain ⟨hd, rfl⟩ := hd
  intro p e R s m args below meth c Qf H locs cells slots A C Re T S L hc hs
  exact lv_ishl C.x C.b hd  (k p e R s m args below meth c Qf H locs cells slots A C Re T S L hc hs)
theorem zi_ishr {x y : Int32} (hd : zz_d M pc .ishr 1 q)  (k : zz_Z X M d Q kc ks q ls (.int (x >>> (y &&& 31)) :: st) n h) : zz_Z X M d Q kc ks pc ls (.int y :: .int x :: st) n h := by
  obtain ⟨hd, rfl⟩ := hd
  intro p e R s m args below meth c Qf H locs cells slots A C Re T S L hc hs
  exact lv_ishr C.x C.b hd  (k p e R s m args below meth c Qf H locs cells slots A C Re T S L hc hs)
theorem zi_idiv {x y : Int32} (hd : zz_d M pc .idiv 1 q) (hy : ¬ y = 0) (k : zz_Z X M d Q kc ks q ls (.int (x / y) :: st) n h) : zz_Z X M d Q kc ks pc ls (.int y :: .int x :: st) n h := by
  obtain ⟨hd, rfl⟩ := hd
  intro p e R s m args below meth c Qf H locs cells slots A C Re T S L hc hs
  exact lv_idiv C.x C.b hd hy (k p e R s m args below meth c Qf H locs cells slots A C Re T S L hc hs)
theorem zi_iushr {x y : Int32} (hd : zz_d M pc .iushr 1 q)  (k : zz_Z X M d Q kc ks q ls (.int ((x.toUInt32 >>> (y.toUInt32 &&& Int32.toUInt32 31)).toInt32) :: st) n h) : zz_Z X M d Q kc ks pc ls (.int y :: .int x :: st) n h := by
  obtain ⟨hd, rfl⟩ := hd
  intro p e R s m args below meth c Qf H locs cells slots A C Re T S L hc hs
  exact lv_iushr C.x C.b hd rfl (k p e R s m args below meth c Qf H locs cells slots A C Re T S L hc hs)
theorem zi_i2c {x : Int32} (hd : zz_d M pc .i2c 1 q)  (k : zz_Z X M d Q kc ks q ls (.int ((x.toUInt32 % 65536).toInt32) :: st) n h) : zz_Z X M d Q kc ks pc ls (.int x :: st) n h := by
  obtain ⟨hd, rfl⟩ := hd
  intro p e R s m args below meth c Qf H locs cells slots A C Re T S L hc hs
  exact lv_i2c C.x C.b hd rfl (k p e R s m args below meth c Qf H locs cells slots A C Re T S L hc hs)
theorem zi_dup {v : Value} (hd : zz_d M pc .dup 1 q) (hv : v.category = 1) (k : zz_Z X M d Q kc ks q ls (v :: v :: st) n h) : zz_Z X M d Q kc ks pc ls (v :: st) n h := by
  obtain ⟨hd, rfl⟩ := hd
  intro p e R s m args below meth c Qf H locs cells slots A C Re T S L hc hs
  exact lv_dup C.x C.b hd hv (k p e R s m args below meth c Qf H locs cells slots A C Re T S L hc hs)
theorem zi_pop {v : Value} (hd : zz_d M pc .pop 1 q) (hv : v.category = 1) (k : zz_Z X M d Q kc ks q ls st n h) : zz_Z X M d Q kc ks pc ls (v :: st) n h := by
  obtain ⟨hd, rfl⟩ := hd
  intro p e R s m args below meth c Qf H locs cells slots A C Re T S L hc hs
  exact lv_pop C.x C.b hd hv (k p e R s m args below meth c Qf H locs cells slots A C Re T S L hc hs)
theorem zi_dup_x1 {v w : Value} (hd : zz_d M pc .dup_x1 1 q) (hv : v.category = 1) (hw : w.category = 1) (k : zz_Z X M d Q kc ks q ls (v :: w :: v :: st) n h) : zz_Z X M d Q kc ks pc ls (v :: w :: st) n h := by
  obtain ⟨hd, rfl⟩ := hd
  intro p e R s m args below meth c Qf H locs cells slots A C Re T S L hc hs
  exact lv_dup_x1 C.x C.b hd hv hw (k p e R s m args below meth c Qf H locs cells slots A C Re T S L hc hs)
theorem zi_dup_x2 {v w u : Value} (hd : zz_d M pc .dup_x2 1 q) (hv : v.category = 1) (hw : w.category = 1) (hu : u.category = 1) (k : zz_Z X M d Q kc ks q ls (v :: w :: u :: v :: st) n h) : zz_Z X M d Q kc ks pc ls (v :: w :: u :: st) n h := by
  obtain ⟨hd, rfl⟩ := hd
  intro p e R s m args below meth c Qf H locs cells slots A C Re T S L hc hs
  exact lv_dup_x2 C.x C.b hd hv hw hu (k p e R s m args below meth c Qf H locs cells slots A C Re T S L hc hs)
theorem zi_dup2 {v w : Value} (hd : zz_d M pc .dup2 1 q) (hv : v.category = 1) (hw : w.category = 1) (k : zz_Z X M d Q kc ks q ls (v :: w :: v :: w :: st) n h) : zz_Z X M d Q kc ks pc ls (v :: w :: st) n h := by
  obtain ⟨hd, rfl⟩ := hd
  intro p e R s m args below meth c Qf H locs cells slots A C Re T S L hc hs
  exact lv_dup2_11 C.x C.b hd hv hw (k p e R s m args below meth c Qf H locs cells slots A C Re T S L hc hs)
theorem zi_goto {off : Int} {t : Nat} (hd : zz_d M pc (.goto off) 3 q) (ht : (pc : Int) + off = (t : Int)) (k : zz_Z X M d Q kc ks t ls st n h) : zz_Z X M d Q kc ks pc ls st n h := by
  obtain ⟨hd, rfl⟩ := hd
  intro p e R s m args below meth c Qf H locs cells slots A C Re T S L hc hs
  exact lv_goto C.x C.b hd ht (k p e R s m args below meth c Qf H locs cells slots A C Re T S L hc hs)
theorem zi_if_eq {x : Int32} {off : Int} {t : Nat} (hd : zz_d M pc (.ifCond .eq off) 3 q) (ht : (pc : Int) + off = (t : Int)) (kt : x = 0 → zz_Z X M d Q kc ks t ls st n h) (kf : ¬ x = 0 → zz_Z X M d Q kc ks q ls st n h) : zz_Z X M d Q kc ks pc ls (.int x :: st) n h := by
  obtain ⟨hd, rfl⟩ := hd
  intro p e R s m args below meth c Qf H locs cells slots A C Re T S L hc hs
  exact lv_if_eq C.x C.b hd ht (fun hx => kt hx p e R s m args below meth c Qf H locs cells slots A C Re T S L hc hs) (fun hx => kf hx p e R s m args below meth c Qf H locs cells slots A C Re T S L hc hs)
theorem zi_if_ne {x : Int32} {off : Int} {t : Nat} (hd : zz_d M pc (.ifCond .ne off) 3 q) (ht : (pc : Int) + off = (t : Int)) (kt : ¬ x = 0 → zz_Z X M d Q kc ks t ls st n h) (kf : x = 0 → zz_Z X M d Q kc ks q ls st n h) : zz_Z X M d Q kc ks pc ls (.int x :: st) n h := by
  obtain ⟨hd, rfl⟩ := hd
  intro p e R s m args below meth c Qf H locs cells slots A C Re T S L hc hs
  exact lv_if_ne C.x C.b hd ht (fun hx => kt hx p e R s m args below meth c Qf H locs cells slots A C Re T S L hc hs) (fun hx => kf hx p e R s m args below meth c Qf H locs cells slots A C Re T S L hc hs)
theorem zi_if_lt {x : Int32} {off : Int} {t : Nat} (hd : zz_d M pc (.ifCond .lt off) 3 q) (ht : (pc : Int) + off = (t : Int)) (kt : x < 0 → zz_Z X M d Q kc ks t ls st n h) (kf : ¬ x < 0 → zz_Z X M d Q kc ks q ls st n h) : zz_Z X M d Q kc ks pc ls (.int x :: st) n h := by
  obtain ⟨hd, rfl⟩ := hd
  intro p e R s m args below meth c Qf H locs cells slots A C Re T S L hc hs
  exact lv_if_lt C.x C.b hd ht (fun hx => kt hx p e R s m args below meth c Qf H locs cells slots A C Re T S L hc hs) (fun hx => kf hx p e R s m args below meth c Qf H locs cells slots A C Re T S L hc hs)
theorem zi_if_ge {x : Int32} {off : Int} {t : Nat} (hd : zz_d M pc (.ifCond .ge off) 3 q) (ht : (pc : Int) + off = (t : Int)) (kt : 0 ≤ x → zz_Z X M d Q kc ks t ls st n h) (kf : ¬ 0 ≤ x → zz_Z X M d Q kc ks q ls st n h) : zz_Z X M d Q kc ks pc ls (.int x :: st) n h := by
  obtain ⟨hd, rfl⟩ := hd
  intro p e R s m args below meth c Qf H locs cells slots A C Re T S L hc hs
  exact lv_if_ge C.x C.b hd ht (fun hx => kt hx p e R s m args below meth c Qf H locs cells slots A C Re T S L hc hs) (fun hx => kf hx p e R s m args below meth c Qf H locs cells slots A C Re T S L hc hs)
theorem zi_if_gt {x : Int32} {off : Int} {t : Nat} (hd : zz_d M pc (.ifCond .gt off) 3 q) (ht : (pc : Int) + off = (t : Int)) (kt : 0 < x → zz_Z X M d Q kc ks t ls st n h) (kf : ¬ 0 < x → zz_Z X M d Q kc ks q ls st n h) : zz_Z X M d Q kc ks pc ls (.int x :: st) n h := by
  obtain ⟨hd, rfl⟩ := hd
  intro p e R s m args below meth c Qf H locs cells slots A C Re T S L hc hs
  exact lv_if_gt C.x C.b hd ht (fun hx => kt hx p e R s m args below meth c Qf H locs cells slots A C Re T S L hc hs) (fun hx => kf hx p e R s m args below meth c Qf H locs cells slots A C Re T S L hc hs)
theorem zi_if_le {x : Int32} {off : Int} {t : Nat} (hd : zz_d M pc (.ifCond .le off) 3 q) (ht : (pc : Int) + off = (t : Int)) (kt : x ≤ 0 → zz_Z X M d Q kc ks t ls st n h) (kf : ¬ x ≤ 0 → zz_Z X M d Q kc ks q ls st n h) : zz_Z X M d Q kc ks pc ls (.int x :: st) n h := by
  obtain ⟨hd, rfl⟩ := hd
  intro p e R s m args below meth c Qf H locs cells slots A C Re T S L hc hs
  exact lv_if_le C.x C.b hd ht (fun hx => kt hx p e R s m args below meth c Qf H locs cells slots A C Re T S L hc hs) (fun hx => kf hx p e R s m args below meth c Qf H locs cells slots A C Re T S L hc hs)
theorem zi_icmp_eq {x y : Int32} {off : Int} {t : Nat} (hd : zz_d M pc (.if_icmp .eq off) 3 q) (ht : (pc : Int) + off = (t : Int)) (kt : x = y → zz_Z X M d Q kc ks t ls st n h) (kf : ¬ x = y → zz_Z X M d Q kc ks q ls st n h) : zz_Z X M d Q kc ks pc ls (.int y :: .int x :: st) n h := by
  obtain ⟨hd, rfl⟩ := hd
  intro p e R s m args below meth c Qf H locs cells slots A C Re T S L hc hs
  exact lv_icmp_eq C.x C.b hd ht (fun hx => kt hx p e R s m args below meth c Qf H locs cells slots A C Re T S L hc hs) (fun hx => kf hx p e R s m args below meth c Qf H locs cells slots A C Re T S L hc hs)
theorem zi_icmp_ne {x y : Int32} {off : Int} {t : Nat} (hd : zz_d M pc (.if_icmp .ne off) 3 q) (ht : (pc : Int) + off = (t : Int)) (kt : ¬ x = y → zz_Z X M d Q kc ks t ls st n h) (kf : x = y → zz_Z X M d Q kc ks q ls st n h) : zz_Z X M d Q kc ks pc ls (.int y :: .int x :: st) n h := by
  obtain ⟨hd, rfl⟩ := hd
  intro p e R s m args below meth c Qf H locs cells slots A C Re T S L hc hs
  exact lv_icmp_ne C.x C.b hd ht (fun hx => kt hx p e R s m args below meth c Qf H locs cells slots A C Re T S L hc hs) (fun hx => kf hx p e R s m args below meth c Qf H locs cells slots A C Re T S L hc hs)
theorem zi_icmp_lt {x y : Int32} {off : Int} {t : Nat} (hd : zz_d M pc (.if_icmp .lt off) 3 q) (ht : (pc : Int) + off = (t : Int)) (kt : x < y → zz_Z X M d Q kc ks t ls st n h) (kf : ¬ x < y → zz_Z X M d Q kc ks q ls st n h) : zz_Z X M d Q kc ks pc ls (.int y :: .int x :: st) n h := by
  obtain ⟨hd, rfl⟩ := hd
  intro p e R s m args below meth c Qf H locs cells slots A C Re T S L hc hs
  exact lv_icmp_lt C.x C.b hd ht (fun hx => kt hx p e R s m args below meth c Qf H locs cells slots A C Re T S L hc hs) (fun hx => kf hx p e R s m args below meth c Qf H locs cells slots A C Re T S L hc hs)
theorem zi_icmp_ge {x y : Int32} {off : Int} {t : Nat} (hd : zz_d M pc (.if_icmp .ge off) 3 q) (ht : (pc : Int) + off = (t : Int)) (kt : y ≤ x → zz_Z X M d Q kc ks t ls st n h) (kf : ¬ y ≤ x → zz_Z X M d Q kc ks q ls st n h) : zz_Z X M d Q kc ks pc ls (.int y :: .int x :: st) n h := by
  obtain ⟨hd, rfl⟩ := hd
  intro p e R s m args below meth c Qf H locs cells slots A C Re T S L hc hs
  exact lv_icmp_ge C.x C.b hd ht (fun hx => kt hx p e R s m args below meth c Qf H locs cells slots A C Re T S L hc hs) (fun hx => kf hx p e R s m args below meth c Qf H locs cells slots A C Re T S L hc hs)
theorem zi_icmp_gt {x y : Int32} {off : Int} {t : Nat} (hd : zz_d M pc (.if_icmp .gt off) 3 q) (ht : (pc : Int) + off = (t : Int)) (kt : y < x → zz_Z X M d Q kc ks t ls st n h) (kf : ¬ y < x → zz_Z X M d Q kc ks q ls st n h) : zz_Z X M d Q kc ks pc ls (.int y :: .int x :: st) n h := by
  obtain ⟨hd, rfl⟩ := hd
  intro p e R s m args below meth c Qf H locs cells slots A C Re T S L hc hs
  exact lv_icmp_gt C.x C.b hd ht (fun hx => kt hx p e R s m args below meth c Qf H locs cells slots A C Re T S L hc hs) (fun hx => kf hx p e R s m args below meth c Qf H locs cells slots A C Re T S L hc hs)
theorem zi_icmp_le {x y : Int32} {off : Int} {t : Nat} (hd : zz_d M pc (.if_icmp .le off) 3 q) (ht : (pc : Int) + off = (t : Int)) (kt : x ≤ y → zz_Z X M d Q kc ks t ls st n h) (kf : ¬ x ≤ y → zz_Z X M d Q kc ks q ls st n h) : zz_Z X M d Q kc ks pc ls (.int y :: .int x :: st) n h := by
  obtain ⟨hd, rfl⟩ := hd
  intro p e R s m args below meth c Qf H locs cells slots A C Re T S L hc hs
  exact lv_icmp_le C.x C.b hd ht (fun hx => kt hx p e R s m args below meth c Qf H locs cells slots A C Re T S L hc hs) (fun hx => kf hx p e R s m args below meth c Qf H locs cells slots A C Re T S L hc hs)
theorem zi_acmp_eq {rx ry : Option Nat} {off : Int} {t : Nat} (hd : zz_d M pc (.if_acmp .eq off) 3 q) (ht : (pc : Int) + off = (t : Int)) (kt : rx = ry → zz_Z X M d Q kc ks t ls st n h) (kf : ¬ rx = ry → zz_Z X M d Q kc ks q ls st n h) : zz_Z X M d Q kc ks pc ls (va_rf ry :: va_rf rx :: st) n h := by
  obtain ⟨hd, rfl⟩ := hd
  intro p e R s m args below meth c Qf H locs cells slots A C Re T S L hc hs
  exact lv_acmp_eq C.x C.b hd ht (fun hx => kt hx p e R s m args below meth c Qf H locs cells slots A C Re T S L hc hs) (fun hx => kf hx p e R s m args below meth c Qf H locs cells slots A C Re T S L hc hs)
theorem zi_acmp_ne {rx ry : Option Nat} {off : Int} {t : Nat} (hd : zz_d M pc (.if_acmp .ne off) 3 q) (ht : (pc : Int) + off = (t : Int)) (kt : ¬ rx = ry → zz_Z X M d Q kc ks t ls st n h) (kf : rx = ry → zz_Z X M d Q kc ks q ls st n h) : zz_Z X M d Q kc ks pc ls (va_rf ry :: va_rf rx :: st) n h := by
  obtain ⟨hd, rfl⟩ := hd
  intro p e R s m args below meth c Qf H locs cells slots A C Re T S L hc hs
  exact lv_acmp_ne C.x C.b hd ht (fun hx => kt hx p e R s m args below meth c Qf H locs cells slots A C Re T S L hc hs) (fun hx => kf hx p e R s m args below meth c Qf H locs cells slots A C Re T S L hc hs)
theorem zi_ifnonnullR {a : Nat} {off : Int} {t : Nat} (hd : zz_d M pc (.ifnonnull off) 3 q) (ht : (pc : Int) + off = (t : Int)) (k : zz_Z X M d Q kc ks t ls st n h) : zz_Z X M d Q kc ks pc ls (.ref a :: st) n h := by
  obtain ⟨hd, rfl⟩ := hd
  intro p e R s m args below meth c Qf H locs cells slots A C Re T S L hc hs
  exact lv_ifnonnull C.x C.b hd ht (k p e R s m args below meth c Qf H locs cells slots A C Re T S L hc hs)
theorem zi_ifnullR {a : Nat} {off : Int} {t : Nat} (hd : zz_d M pc (.ifnull off) 3 q) (ht : (pc : Int) + off = (t : Int)) (k : zz_Z X M d Q kc ks q ls st n h) : zz_Z X M d Q kc ks pc ls (.ref a :: st) n h := by
  obtain ⟨hd, rfl⟩ := hd
  intro p e R s m args below meth c Qf H locs cells slots A C Re T S L hc hs
  exact lv_ifnull C.x C.b hd  (k p e R s m args below meth c Qf H locs cells slots A C Re T S L hc hs)
theorem zi_ifnullN {off : Int} {t : Nat} (hd : zz_d M pc (.ifnull off) 3 q) (ht : (pc : Int) + off = (t : Int)) (k : zz_Z X M d Q kc ks t ls st n h) : zz_Z X M d Q kc ks pc ls (.null :: st) n h := by
  obtain ⟨hd, rfl⟩ := hd
  intro p e R s m args below meth c Qf H locs cells slots A C Re T S L hc hs
  exact lv_ifnullN C.x C.b hd ht (k p e R s m args below meth c Qf H locs cells slots A C Re T S L hc hs)
theorem zi_ifnonnullN {off : Int} {t : Nat} (hd : zz_d M pc (.ifnonnull off) 3 q) (ht : (pc : Int) + off = (t : Int)) (k : zz_Z X M d Q kc ks q ls st n h) : zz_Z X M d Q kc ks pc ls (.null :: st) n h := by
  obtain ⟨hd, rfl⟩ := hd
  intro p e R s m args below meth c Qf H locs cells slots A C Re T S L hc hs
  exact lv_ifnonnullN C.x C.b hd  (k p e R s m args below meth c Qf H locs cells slots A C Re T S L hc hs)
theorem zz_one {D : va_G} {cl : List vw_C} {x : Nat × va_E} {H : Heap} (hx : va_at D cl x H) : va_P D cl [x] H := by
  intro k y hy
  have hk : k < 1 := (List.getElem?_eq_some_iff.mp hy).1
  obtain rfl : k = 0 := by omega
  cases hy
  exact hx
/-- the field at pool place ix: of the class with number ci, its k-th -/
def zz_fl (own : String) (ix ci k : Nat) : Prop := ∃ (Cn : String) (F : u_T) (N : Nat) (ref : String), zz_cl[ci]? = some (Cn, F, N) ∧ k < N ∧ Cond.fieldLink own ix ref (F k).2.1 (F k).2.2.1 ∈ zz_ws ∧ (ref = (F k).1 ∨ Cond.sameField ref (F k).1 (F k).2.1 (F k).2.2.1 ∈ zz_ws)
theorem zz_same {s : State} {args : Array Value} (hts : ∀ w ∈ zz_ws, w.before args s = true) {ref O nm ds : String} (hr : ref = O ∨ Cond.sameField ref O nm ds ∈ zz_ws) (x : ClassId × Class × Nat × Field) (hx : s.fieldFound? O nm ds = some x) : s.fieldFound? ref nm ds = some x := by
  rcases hr with rfl | hr
  · exact hx
  · exact u_same (hts _ hr) x hx
theorem zi_getf {ix ci k a : Nat} {fs : List Value} {v : Value} (hd : zz_d M pc (.getfield ix) 3 q) (hf : zz_fl M.1.cls ix ci k) (ha : h a = some (.inr (ci, fs))) (hv : fs[k]? = some v) (kk : zz_Z X M d Q kc ks q ls (v :: st) n h) : zz_Z X M d Q kc ks pc ls (.ref a :: st) n h := by
  obtain ⟨hd, rfl⟩ := hd
  obtain ⟨Cn, F, N, ref, hcl, hk, hl, hsm⟩ := hf
  intro p e R s m args below meth c Qf H locs cells slots A C Re T S L hc hs
  have hP : va_P (zz_D X) zz_cl [(a, .inr (ci, fs))] H := zz_one (T.2.2 a _ ha).1
  exact va_get C.x C.b C.ts (zz_clok hcl).1 C.ow C.k.1 hP 0 rfl hcl k hk (C.ts _ hl) (fun x hx => zz_same C.ts hsm x hx) hv hd (kk p e R s m args below meth c Qf H locs cells slots A C Re T S L hc hs)
/-- a field that may be written there -/
def zz_fp (M : zz_M) (ix ci k : Nat) (ty : FieldType) : Prop := ∃ (Cn : String) (F : u_T) (N : Nat) (ref : String), zz_cl[ci]? = some (Cn, F, N) ∧ k < N ∧ Cond.fieldLink M.1.cls ix ref (F k).2.1 (F k).2.2.1 ∈ zz_ws ∧ (ref = (F k).1 ∨ Cond.sameField ref (F k).1 (F k).2.1 (F k).2.2.1 ∈ zz_ws) ∧
  parseFieldDescriptor (F k).2.2.1 = some ty ∧ ((F k).2.2.2 = false ∨ ((F k).2.2.2 = true ∧ M.1.name = "<init>" ∧ (F k).1 = M.1.cls))
theorem zz_wr {e : va_E} {a : Nat} (hx : (∃ x, e = .inl (4, x)) ∨ zz_b X ≤ a) (hne : ∀ x, e ≠ .inl (4, x)) : zz_b X ≤ a := by
  rcases hx with ⟨x, hx⟩ | hx
  · exact absurd hx (hne x)
  · exact hx
theorem zi_putf {ix ci k a : Nat} {ty : FieldType} {fs fs' : List Value} {v : Value} (hd : zz_d M pc (.putfield ix) 3 q) (hf : zz_fp M ix ci k ty) (ha : h a = some (.inr (ci, fs))) (hn : narrow ty v = v) (hfit : fits ty v = true) (hset : zz_set fs k v = some fs')
    (kk : zz_Z X M d Q kc ks q ls st n (zz_up h a (.inr (ci, fs')))) : zz_Z X M d Q kc ks pc ls (v :: .ref a :: st) n h := by
  obtain ⟨hd, rfl⟩ := hd
  obtain ⟨Cn, F, N, ref, hcl, hk, hl, hsm, hty, hfin⟩ := hf
  obtain ⟨hlen, rfl⟩ := zz_set_spec hset
  intro p e R s m args below meth c Qf H locs cells slots A C Re T S L hc hs
  obtain ⟨hin, hty0, hnm⟩ := zz_clok hcl
  have hap := va_apart (own := M.1.cls) C.ts hin (zz_fty ci) hty0 hnm C.k.1 hcl
  obtain ⟨hat, hbase⟩ := T.2.2 a _ ha
  have hb : zz_b X ≤ a := zz_wr hbase (fun x hx => by cases hx)
  obtain ⟨r, h1, cell, q1, q2, q3, q4⟩ := hat
  have hr : r = (Cn, F, N) := Option.some.inj (h1.symm.trans hcl)
  subst hr
  obtain ⟨hSl, hfc, kC, hkC, hkind⟩ := C.k.1.1 ci _ hcl
  obtain ⟨cf, kf, fi, f, hi, hsl⟩ := hSl k hk
  have hlay := C.ts _ (hin _ (u_in_lay hk))
  have hst := (u_facts hfc hkC (u_lays C.ts hin hk) hi).1
  have go : ∀ H' : Heap, H'[a]? = some (cell.setSlot f.slot v) → H'.size = H.size → (∀ x, x ≠ a → H'[x]? = H[x]?) → W p (zz_l X) e R s m args below meth c H' (locs ++ [⟨a, f.slot⟩]) cells slots Qf (F0 m (pc + 3) A st) := by
    intro H' e1 e2 e3
    rw [hsl] at e1
    refine kk p e R s m args below meth c Qf H' _ cells slots A C Re (T.put hb ?_ e2 e3) (S.put e2 e3 hb) L hc hs
    exact ⟨_, hcl, t_OB.to (V := updV (vp_V fs) k v) ⟨_, e1, q2, q3, t_set q4 hap hk v⟩ (fun j _ => vp_updV_set hlen v j)⟩
  unfold u_lay at hlay
  rcases hfin with hfin | ⟨hfin, hini, hdecl⟩
  · rw [if_neg (by rw [hfin]; decide)] at hlay
    have h6 := u_store hfc hkC hkind hlay hi hty hn hfit
    exact W.putK C.x C.b (f := f) ⟨C.ow, C.ts _ hl, ⟨_, _, _, zz_same C.ts hsm _ hi⟩, hst⟩ (by rw [q2]; exact h6) q1 q3 (by rw [hsl]; exact k2_hasslot (q4 k hk)) rfl rfl hd go
  · rw [if_pos hfin] at hlay
    have hcf : m.cls = cf := by
      obtain ⟨_, _, c', _, _, _, -, -, hf', -, -, -, hown2, -⟩ := Cond.laysFinal_spec hlay
      have e1 : c' = cf := by have := hi.symm.trans hf'; simp at this; exact this.1.symm
      rw [hdecl] at hown2
      rw [← e1]; exact Option.some.inj (C.ow.symm.trans hown2)
    have h6 := u_fits hfc hkC hkind (Or.inr hlay) hi hty hn hfit
    exact W.putFinK C.x C.b C.ow (C.ts _ hl) (zz_same C.ts hsm _ hi) hst hcf (C.nm.trans hini) (by rw [q2]; exact h6) q1 q3 (by rw [hsl]; exact k2_hasslot (q4 k hk)) rfl rfl hd go
theorem zi_iald {a N : Nat} {f : Nat → Int32} {i : Int32} (hd : zz_d M pc .iaload 1 q) (ha : h a = some (.inl (0, N, .inl f))) (hi : vp_in i N) (kk : zz_Z X M d Q kc ks q ls (.int (f i.toNatClampNeg) :: st) n h) : zz_Z X M d Q kc ks pc ls (.int i :: .ref a :: st) n h := by
  obtain ⟨hd, rfl⟩ := hd
  intro p e R s m args below meth c Qf H locs cells slots A C Re T S L hc hs
  have hP : va_P (zz_D X) zz_cl [(a, .inl (zz_a X 0, N, .inl f))] H := zz_one (T.2.2 a _ ha).1
  exact va_iald C.x C.b C.k.1 hP 0 0 rfl rfl hi hd (kk p e R s m args below meth c Qf H locs cells slots A C Re T S L hc hs)
theorem zi_cald {a N : Nat} {f : Nat → Int32} {i : Int32} (hd : zz_d M pc .caload 1 q) (ha : h a = some (.inl (1, N, .inl f))) (hi : vp_in i N) (kk : zz_Z X M d Q kc ks q ls (.int (f i.toNatClampNeg) :: st) n h) : zz_Z X M d Q kc ks pc ls (.int i :: .ref a :: st) n h := by
  obtain ⟨hd, rfl⟩ := hd
  intro p e R s m args below meth c Qf H locs cells slots A C Re T S L hc hs
  have hP : va_P (zz_D X) zz_cl [(a, .inl (zz_a X 1, N, .inl f))] H := zz_one (T.2.2 a _ ha).1
  exact va_cald C.x C.b C.k.1 hP 0 1 rfl rfl hi hd (kk p e R s m args below meth c Qf H locs cells slots A C Re T S L hc hs)
theorem zi_zald {a N : Nat} {f : Nat → Int32} {i : Int32} (hd : zz_d M pc .baload 1 q) (ha : h a = some (.inl (2, N, .inl f))) (hi : vp_in i N) (kk : zz_Z X M d Q kc ks q ls (.int (f i.toNatClampNeg) :: st) n h) : zz_Z X M d Q kc ks pc ls (.int i :: .ref a :: st) n h := by
  obtain ⟨hd, rfl⟩ := hd
  intro p e R s m args below meth c Qf H locs cells slots A C Re T S L hc hs
  have hP : va_P (zz_D X) zz_cl [(a, .inl (zz_a X 2, N, .inl f))] H := zz_one (T.2.2 a _ ha).1
  exact va_zald C.x C.b C.k.1 hP 0 2 rfl rfl hi hd (kk p e R s m args below meth c Qf H locs cells slots A C Re T S L hc hs)
theorem zi_alen {a kd : Nat} {x : vp_A} {ty : FieldType} (hd : zz_d M pc .arraylength 1 q) (ha : h a = some (.inl (kd, x))) (ht : (zz_ty X)[kd]? = some (zz_a X kd, ty)) (kk : zz_Z X M d Q kc ks q ls (.int (nI x.1) :: st) n h) : zz_Z X M d Q kc ks pc ls (.ref a :: st) n h := by
  obtain ⟨hd, rfl⟩ := hd
  intro p e R s m args below meth c Qf H locs cells slots A C Re T S L hc hs
  have hA := (T.2.2 a _ ha).1
  unfold zz_at at hA
  dsimp only at hA
  cases hk : Nat.beq kd 4 with
  | false =>
    rw [hk] at hA
    have hP : va_P (zz_D X) zz_cl [(a, .inl (zz_a X kd, x))] H := zz_one hA
    exact va_alen C.x C.b C.k.1 hP 0 kd rfl ht rfl hd (kk p e R s m args below meth c Qf H locs cells slots A C Re T S L hc hs)
  | true =>
    rw [hk] at hA
    have hk4 : kd = 4 := Nat.eq_of_beq_eq_true hk
    subst hk4
    obtain ⟨cell, h1, h2, h3, h4⟩ := hA
    obtain ⟨-, kA, k1, comp, k2⟩ := (C.k.1.2 4 _ ht).1 0 (fun _ => .null)
    have hio : s.isArrayOf cell ty := ⟨h4, kA, by rw [h2]; exact k1, comp, k2⟩
    exact W.alen (n := Int32.ofNat x.1) C.x C.b h1 hio (by rw [h3] <;> rfl) rfl rfl hd (kk p e R s m args below meth c Qf H locs cells slots A C Re T S L hc hs)
theorem zi_aald {a N : Nat} {f : Nat → Option Nat} {i : Int32} {v : Value} (hd : zz_d M pc .aaload 1 q) (ha : h a = some (.inl (3, N, .inr (.inr (.inr (.inr f)))))) (hi : vp_in i N) (hv : va_rf (f i.toNatClampNeg) = v) (kk : zz_Z X M d Q kc ks q ls (v :: st) n h) : zz_Z X M d Q kc ks pc ls (.int i :: .ref a :: st) n h := by
  obtain ⟨hd, rfl⟩ := hd
  subst hv
  intro p e R s m args below meth c Qf H locs cells slots A C Re T S L hc hs
  have hP : va_P (zz_D X) zz_cl [(a, .inl (zz_a X 3, N, .inr (.inr (.inr (.inr f)))))] H := zz_one (T.2.2 a _ ha).1
  exact va_aldq C.x C.b C.k.1 hP 0 3 rfl rfl hi hd (kk p e R s m args below meth c Qf H locs cells slots A C Re T S L hc hs)
theorem zz_updV {f : Nat → Int32} {k : Nat} {x : Int32} : updV (fun j => Value.int (f j)) k (.int x) = fun j => Value.int (upd f k x j) := by
  funext j
  by_cases hj : j = k
  · subst hj; simp [updV, upd]
  · simp [updV, upd, hj]
theorem zi_iast {a N : Nat} {f : Nat → Int32} {i x : Int32} (hd : zz_d M pc .iastore 1 q) (ha : h a = some (.inl (0, N, .inl f))) (hi : vp_in i N) (kk : zz_Z X M d Q kc ks q ls st n (zz_up h a (.inl (0, N, .inl (upd f i.toNatClampNeg x))))) : zz_Z X M d Q kc ks pc ls (.int x :: .int i :: .ref a :: st) n h := by
  obtain ⟨hd, rfl⟩ := hd
  intro p e R s m args below meth c Qf H locs cells slots A C Re T S L hc hs
  obtain ⟨hat, hbase⟩ := T.2.2 a _ ha
  have hb : zz_b X ≤ a := zz_wr hbase (fun x hx => by cases hx)
  have hcell : H[a]? = some (vp_cell (zz_a X 0) (N, .inl f)) := hat
  refine W.iast C.x C.b hcell ((C.k.1.2 0 (zz_a X 0, .int) rfl).1 N (fun j => .int (f j))) (fun x => by cases x) (by show ¬ (i < 0 ∨ (arrV _ _ _).slots.size ≤ _); rw [arrV_size]; exact hi) rfl rfl hd fun H1 e1 z oq => ?_
  refine kk p e R s m args below meth c Qf H1 _ cells slots A C Re (T.put hb ?_ z oq) (S.put z oq hb) L hc hs
  show H1[a]? = some (vp_cell _ _)
  rw [e1, vp_cell_i, vp_cell_i, arrV_store, zz_updV]
theorem zi_cast {a N : Nat} {f : Nat → Int32} {i x : Int32} (hd : zz_d M pc .castore 1 q) (ha : h a = some (.inl (1, N, .inl f))) (hi : vp_in i N) (hx : narrow .char (.int x) = .int x) (kk : zz_Z X M d Q kc ks q ls st n (zz_up h a (.inl (1, N, .inl (upd f i.toNatClampNeg x))))) : zz_Z X M d Q kc ks pc ls (.int x :: .int i :: .ref a :: st) n h := by
  obtain ⟨hd, rfl⟩ := hd
  intro p e R s m args below meth c Qf H locs cells slots A C Re T S L hc hs
  obtain ⟨hat, hbase⟩ := T.2.2 a _ ha
  have hb : zz_b X ≤ a := zz_wr hbase (fun x hx => by cases hx)
  have hcell : H[a]? = some (vp_cell (zz_a X 1) (N, .inl f)) := hat
  refine W.cast C.x C.b hcell ((C.k.1.2 1 (zz_a X 1, .char) rfl).1 N (fun j => .int (f j))) (fun x => by cases x) (by show ¬ (i < 0 ∨ (arrV _ _ _).slots.size ≤ _); rw [arrV_size]; exact hi) rfl rfl hd fun H1 e1 z oq => ?_
  refine kk p e R s m args below meth c Qf H1 _ cells slots A C Re (T.put hb ?_ z oq) (S.put z oq hb) L hc hs
  show H1[a]? = some (vp_cell _ _)
  rw [e1, hx, vp_cell_i, vp_cell_i, arrV_store, zz_updV]
theorem zi_zast {a N : Nat} {f : Nat → Int32} {i x : Int32} (hd : zz_d M pc .bastore 1 q) (ha : h a = some (.inl (2, N, .inl f))) (hi : vp_in i N) (hx : narrow .boolean (.int x) = .int x) (kk : zz_Z X M d Q kc ks q ls st n (zz_up h a (.inl (2, N, .inl (upd f i.toNatClampNeg x))))) : zz_Z X M d Q kc ks pc ls (.int x :: .int i :: .ref a :: st) n h := by
  obtain ⟨hd, rfl⟩ := hd
  intro p e R s m args below meth c Qf H locs cells slots A C Re T S L hc hs
  obtain ⟨hat, hbase⟩ := T.2.2 a _ ha
  have hb : zz_b X ≤ a := zz_wr hbase (fun x hx => by cases hx)
  have hcell : H[a]? = some (vp_cell (zz_a X 2) (N, .inl f)) := hat
  refine W.zast C.x C.b hcell ((C.k.1.2 2 (zz_a X 2, .boolean) rfl).1 N (fun j => .int (f j))) (fun x => by cases x) (by show ¬ (i < 0 ∨ (arrV _ _ _).slots.size ≤ _); rw [arrV_size]; exact hi) rfl rfl hd fun H1 e1 z oq => ?_
  refine kk p e R s m args below meth c Qf H1 _ cells slots A C Re (T.put hb ?_ z oq) (S.put z oq hb) L hc hs
  show H1[a]? = some (vp_cell _ _)
  rw [e1, hx, vp_cell_i, vp_cell_i, arrV_store, zz_updV]
theorem zz_updQ {f : Nat → Option Nat} {k : Nat} {x : Option Nat} : updV (fun j => va_rf (f j)) k (va_rf x) = fun j => va_rf (va_up f k x j) := by
  funext j
  by_cases hj : j = k
  · subst hj; simp [updV, va_up]
  · simp [updV, va_up, hj]
/-- objects of this class may lie in an Object[] -/
def zz_el (h : zz_H) (v : Nat) : Prop := ∃ (ci : Nat) (vs : List Value) (r : vw_C), h v = some (.inr (ci, vs)) ∧ zz_cl[ci]? = some r ∧ (r.1, "java/lang/Object") ∈ zz_ca
theorem zz_el.any {n : Nat} {H : Heap} {s : State} {v : Nat} (hK : zz_K X s) (T : zz_T X n h H) (hv : zz_el h v) : va_Any "java/lang/Object" s H v := by
  obtain ⟨ci, vs, r, h1, h2, h3⟩ := hv
  have hP : va_P (zz_D X) zz_cl [(v, .inr (ci, vs))] H := zz_one (T.2.2 v _ h1).1
  exact va_rAny hK.1 hP (q0 := 0) rfl h2 (fun comp c0 g1 g2 => vb_asgC (hK.2.2.1 _ h3) comp c0 g1 g2)
theorem zi_aast {a v N : Nat} {f : Nat → Option Nat} {i : Int32} (hd : zz_d M pc .aastore 1 q) (ha : h a = some (.inl (3, N, .inr (.inr (.inr (.inr f)))))) (hv : zz_el h v) (hi : vp_in i N) (kk : zz_Z X M d Q kc ks q ls st n (zz_up h a (.inl (3, N, .inr (.inr (.inr (.inr (va_up f i.toNatClampNeg (some v))))))))) : zz_Z X M d Q kc ks pc ls (.ref v :: .int i :: .ref a :: st) n h := by
  obtain ⟨hd, rfl⟩ := hd
  intro p e R s m args below meth c Qf H locs cells slots A C Re T S L hc hs
  obtain ⟨hat, hbase⟩ := T.2.2 a _ ha
  have hb : zz_b X ≤ a := zz_wr hbase (fun x hx => by cases hx)
  have hcell : H[a]? = some (vp_cell (zz_a X 3) (N, .inr (.inr (.inr (.inr f))))) := hat
  have hlt : i.toNatClampNeg < N := Nat.not_le.mp fun x => hi (Or.inr x)
  have h0 : ¬ i < 0 := fun x => hi (Or.inl x)
  obtain ⟨cellV, g1, g3, ⟨kC, hkC⟩, hasg⟩ := hv.any C.k T
  obtain ⟨kA, comp, k1, k2, k3, -⟩ := (C.k.1.2 3 (zz_a X 3, .object "java/lang/Object") rfl).2
  obtain ⟨kE, hkE, -⟩ := Vm.findClass_spec k3
  refine W.aast C.x C.b hcell (fun x hx => by cases hx) (fun hx => by cases hx) k1 k2 rfl hkE ⟨h0, by show _ < (arrV _ _ _).slots.size; rw [arrV_size]; exact hlt⟩ g1 (fun x hx => by rw [hx] at g3; cases g3) hkC (hasg _ k3) rfl rfl hd fun H1 e1 z oq => ?_
  refine kk p e R s m args below meth c Qf H1 _ cells slots A C Re (T.put hb ?_ z oq) (S.put z oq hb) L hc hs
  show H1[a]? = some (vp_cell _ _)
  rw [e1, vp_cell_q, vp_cell_q, arrV_store]
  congr 2
  exact zz_updQ (x := some v)
theorem zi_aastN {a N : Nat} {f : Nat → Option Nat} {i : Int32} (hd : zz_d M pc .aastore 1 q) (ha : h a = some (.inl (3, N, .inr (.inr (.inr (.inr f)))))) (hi : vp_in i N) (kk : zz_Z X M d Q kc ks q ls st n (zz_up h a (.inl (3, N, .inr (.inr (.inr (.inr (va_up f i.toNatClampNeg none)))))))) : zz_Z X M d Q kc ks pc ls (.null :: .int i :: .ref a :: st) n h := by
  obtain ⟨hd, rfl⟩ := hd
  intro p e R s m args below meth c Qf H locs cells slots A C Re T S L hc hs
  obtain ⟨hat, hbase⟩ := T.2.2 a _ ha
  have hb : zz_b X ≤ a := zz_wr hbase (fun x hx => by cases hx)
  have hcell : H[a]? = some (vp_cell (zz_a X 3) (N, .inr (.inr (.inr (.inr f))))) := hat
  refine va_WaastN (C := "java/lang/Object") C.x C.b hcell ((C.k.1.2 3 (zz_a X 3, .object "java/lang/Object") rfl).1 N (fun j => va_rf (f j))) (fun hx => by cases hx) (by show ¬ (i < 0 ∨ (arrV _ _ _).slots.size ≤ _); rw [arrV_size]; exact hi) rfl rfl hd fun H1 e1 z oq => ?_
  refine kk p e R s m args below meth c Qf H1 _ cells slots A C Re (T.put hb ?_ z oq) (S.put z oq hb) L hc hs
  show H1[a]? = some (vp_cell _ _)
  rw [e1, vp_cell_q, vp_cell_q, arrV_store]
  congr 2
  exact zz_updQ (x := none)
theorem zi_newi {x : Int32} {N kc' ks' : Nat} (hd : zz_d M pc (.newarray .int) 2 q) (hw : Cond.arrayClass .int ∈ zz_ws) (h0 : ¬ x < 0) (hN : x.toNatClampNeg = N) (hb : N ≤ 100000) (hkc : kc = kc' + 1) (hks : ks = ks' + N)
    (kk : zz_Z X M d Q kc' ks' q ls (.ref n :: st) (n + 1) (zz_up h n (.inl (0, N, .inl (fun _ => 0))))) : zz_Z X M d Q kc ks pc ls (.int x :: st) n h := by
  obtain ⟨hd, rfl⟩ := hd
  subst hkc hks
  intro p e R s m args below meth c Qf H locs cells slots A C Re T S L hc hs
  refine va_newaK (atype := .int) C.x C.b (C.ts _ hw) rfl hd rfl h0 hN (by show N * 4 ≤ _; omega) (by omega) (by omega) T.1 fun H1 cA e1 z1 o1 hAr hNm => ?_
  have hca : cA = zz_a X 0 := Option.some.inj (hNm.symm.trans (C.k.1.2 0 (zz_a X 0, .int) rfl).2)
  subst hca
  have hz : s.heap.size ≤ n := by have := S.1; rw [T.1] at this; exact this
  refine kk p e R s m args below meth c Qf H1 _ (cells + 1) (slots + N) A C Re (T.push e1 z1 o1) ⟨by omega, fun y g1 g2 => (o1 y (Nat.lt_of_lt_of_le g1 hz)).trans (S.2.1 y g1 g2), S.2.2⟩ L (by omega) (by omega)
theorem zi_newc {x : Int32} {N kc' ks' : Nat} (hd : zz_d M pc (.newarray .char) 2 q) (hw : Cond.arrayClass .char ∈ zz_ws) (h0 : ¬ x < 0) (hN : x.toNatClampNeg = N) (hb : N ≤ 100000) (hkc : kc = kc' + 1) (hks : ks = ks' + N)
    (kk : zz_Z X M d Q kc' ks' q ls (.ref n :: st) (n + 1) (zz_up h n (.inl (1, N, .inl (fun _ => 0))))) : zz_Z X M d Q kc ks pc ls (.int x :: st) n h := by
  obtain ⟨hd, rfl⟩ := hd
  subst hkc hks
  intro p e R s m args below meth c Qf H locs cells slots A C Re T S L hc hs
  refine va_newaK (atype := .char) C.x C.b (C.ts _ hw) rfl hd rfl h0 hN (by show N * 2 ≤ _; omega) (by omega) (by omega) T.1 fun H1 cA e1 z1 o1 hAr hNm => ?_
  have hca : cA = zz_a X 1 := Option.some.inj (hNm.symm.trans (C.k.1.2 1 (zz_a X 1, .char) rfl).2)
  subst hca
  have hz : s.heap.size ≤ n := by have := S.1; rw [T.1] at this; exact this
  refine kk p e R s m args below meth c Qf H1 _ (cells + 1) (slots + N) A C Re (T.push e1 z1 o1) ⟨by omega, fun y g1 g2 => (o1 y (Nat.lt_of_lt_of_le g1 hz)).trans (S.2.1 y g1 g2), S.2.2⟩ L (by omega) (by omega)
theorem zi_newz {x : Int32} {N kc' ks' : Nat} (hd : zz_d M pc (.newarray .boolean) 2 q) (hw : Cond.arrayClass .boolean ∈ zz_ws) (h0 : ¬ x < 0) (hN : x.toNatClampNeg = N) (hb : N ≤ 100000) (hkc : kc = kc' + 1) (hks : ks = ks' + N)
    (kk : zz_Z X M d Q kc' ks' q ls (.ref n :: st) (n + 1) (zz_up h n (.inl (2, N, .inl (fun _ => 0))))) : zz_Z X M d Q kc ks pc ls (.int x :: st) n h := by
  obtain ⟨hd, rfl⟩ := hd
  subst hkc hks
  intro p e R s m args below meth c Qf H locs cells slots A C Re T S L hc hs
  refine va_newaK (atype := .boolean) C.x C.b (C.ts _ hw) rfl hd rfl h0 hN (by show N * 1 ≤ _; omega) (by omega) (by omega) T.1 fun H1 cA e1 z1 o1 hAr hNm => ?_
  have hca : cA = zz_a X 2 := Option.some.inj (hNm.symm.trans (C.k.1.2 2 (zz_a X 2, .boolean) rfl).2)
  subst hca
  have hz : s.heap.size ≤ n := by have := S.1; rw [T.1] at this; exact this
  refine kk p e R s m args below meth c Qf H1 _ (cells + 1) (slots + N) A C Re (T.push e1 z1 o1) ⟨by omega, fun y g1 g2 => (o1 y (Nat.lt_of_lt_of_le g1 hz)).trans (S.2.1 y g1 g2), S.2.2⟩ L (by omega) (by omega)
theorem zi_newq {x : Int32} {ix N kc' ks' : Nat} (hd : zz_d M pc (.anewarray ix) 3 q) (hw : Cond.classLink M.1.cls ix "java/lang/Object" ∈ zz_ws) (h0 : ¬ x < 0) (hN : x.toNatClampNeg = N) (hb : N ≤ 100000) (hkc : kc = kc' + 1) (hks : ks = ks' + N)
    (kk : zz_Z X M d Q kc' ks' q ls (.ref n :: st) (n + 1) (zz_up h n (.inl (3, N, .inr (.inr (.inr (.inr (fun _ => none)))))))) : zz_Z X M d Q kc ks pc ls (.int x :: st) n h := by
  obtain ⟨hd, rfl⟩ := hd
  subst hkc hks
  subst hN
  intro p e R s m args below meth c Qf H locs cells slots A C Re T S L hc hs
  refine W.anew C.x C.b C.ow (C.ts _ hw) (va_AO.use C.k.2.2.2.1) rfl hd rfl h0 (by omega) (by omega) (by omega) fun cA kA comp f1 f2 f3 f4 => ?_
  obtain ⟨-, -, -, -, -, f5⟩ := (C.k.1.2 3 (zz_a X 3, .object "java/lang/Object") rfl).2
  have hca : cA = zz_a X 3 := Option.some.inj (f1.symm.trans f5)
  subst hca
  have hT1 := T.1
  generalize hH1 : H.push ({ cls := zz_a X 3, slots := Array.replicate x.toNatClampNeg .null, vm := .none } : Cell) = H1
  have z1 : H1.size = n + 1 := by rw [← hH1, Array.size_push, T.1]
  have e1 : H1[n]? = some (arrV (zz_a X 3) x.toNatClampNeg (fun _ => .null)) := by rw [← hH1, ← T.1, Array.getElem?_push_size, ← arrV_new]
  have o1 : ∀ y : Nat, y < n → H1[y]? = H[y]? := fun y hy => by rw [← hH1, Array.getElem?_push, if_neg (by rw [T.1]; exact Nat.ne_of_lt hy)]
  have hz : s.heap.size ≤ n := by have := S.1; rw [T.1] at this; exact this
  have hg : W p (zz_l X) e R s m args below meth c H1 locs (cells + 1) (slots + x.toNatClampNeg) Qf (F0 m (pc + 3) A (.ref n :: st)) :=
    kk p e R s m args below meth c Qf H1 _ (cells + 1) (slots + x.toNatClampNeg) A C Re (T.push e1 z1 o1) ⟨by omega, fun y g1 g2 => (o1 y (Nat.lt_of_lt_of_le g1 hz)).trans (S.2.1 y g1 g2), S.2.2⟩ L (by omega) (by omega)
  rw [← hT1] at hg
  exact hg
def zz_nw (own : String) (ix ci N : Nat) (fs : List Value) : Prop := ∃ (Cn : String) (F : u_T), zz_cl[ci]? = some (Cn, F, N) ∧ Cond.classLink own ix Cn ∈ zz_ws ∧ Cond.instantiable Cn N ∈ zz_ws ∧ Cond.initialized Cn ∈ zz_ws ∧ ∀ j, j < N → defaultValue (zz_fty ci j) = vp_V fs j
theorem zi_new {ix ci N kc' ks' : Nat} {fs : List Value} (hd : zz_d M pc (.new ix) 3 q) (hw : zz_nw M.1.cls ix ci N fs) (hkc : kc = kc' + 1) (hks : ks = ks' + N)
    (kk : zz_Z X M d Q kc' ks' q ls (.ref n :: st) (n + 1) (zz_up h n (.inr (ci, fs)))) : zz_Z X M d Q kc ks pc ls st n h := by
  obtain ⟨hd, rfl⟩ := hd
  subst hkc hks
  obtain ⟨Cn, F, hcl, w1, w2, w3, hfs⟩ := hw
  intro p e R s m args below meth c Qf H locs cells slots A C Re T S L hc hs
  obtain ⟨hin, hty0, hnm⟩ := zz_clok hcl
  have hKn := C.k.1.1 ci _ hcl
  refine W.newcK C.x C.b C.ow (C.ts _ w1) (C.ts _ w2) (C.ts _ w3) rfl hd (by omega) (by omega) hKn.2.1 T.1 fun H1 kC hkC e1 z1 o1 => ?_
  have hz : s.heap.size ≤ n := by have := S.1; rw [T.1] at this; exact this
  exact kk p e R s m args below meth c Qf H1 _ (cells + 1) (slots + N) A C Re (T.push ⟨_, hcl, (u_born (zz_fty ci) C.ts hin hKn hkC e1 hty0).to hfs⟩ z1 o1) ⟨by omega, fun y g1 g2 => (o1 y (Nat.lt_of_lt_of_le g1 hz)).trans (S.2.1 y g1 g2), S.2.2⟩ L (by omega) (by omega)
theorem zi_gets {ix : Nat} (hd : zz_d M pc (.getstatic ix) 3 q) (hl : Cond.fieldLink M.1.cls ix "java/util/ArrayList" "DEFAULTCAPACITY_EMPTY_ELEMENTDATA" "[Ljava/lang/Object;" ∈ zz_ws) (kk : zz_Z X M d Q kc ks q ls (.ref (zz_e X) :: st) n h) : zz_Z X M d Q kc ks pc ls st n h := by
  obtain ⟨hd, rfl⟩ := hd
  intro p e R s m args below meth c Qf H locs cells slots A C Re T S L hc hs
  exact va_gets C.x C.b C.k.2.2.2.2.1 S C.ow (C.ts _ hl) (fun x hx => hx) hd (kk p e R s m args below meth c Qf H locs cells slots A C Re T S L hc hs)
theorem zz_recv {n : Nat} {H : Heap} {s : State} {a ci : Nat} {fs : List Value} {r : vw_C} (hK : zz_K X s) (T : zz_T X n h H) (ha : h a = some (.inr (ci, fs))) (hcl : zz_cl[ci]? = some r) : ∃ cell : Cell, H[a]? = some cell ∧ cell.vm.isStatics = false ∧ s.vm.findClass r.1 = some cell.cls := by
  have hP : va_P (zz_D X) zz_cl [(a, .inr (ci, fs))] H := zz_one (T.2.2 a _ ha).1
  exact va_recv hK.1 hP hcl (q0 := 0) rfl
theorem zi_castS {ix a ci N : Nat} {nm : String} {F : u_T} {fs : List Value} (hd : zz_d M pc (.checkcast ix) 3 q) (hl : Cond.classLink M.1.cls ix nm ∈ zz_ws) (ha : h a = some (.inr (ci, fs))) (hcl : zz_cl[ci]? = some (nm, F, N)) (kk : zz_Z X M d Q kc ks q ls (.ref a :: st) n h) : zz_Z X M d Q kc ks pc ls (.ref a :: st) n h := by
  obtain ⟨hd, rfl⟩ := hd
  intro p e R s m args below meth c Qf H locs cells slots A C Re T S L hc hs
  exact va_castS C.x C.b C.ow (C.ts _ hl) (C.k.1.1 ci _ hcl).2 (zz_recv C.k T ha hcl) hd (kk p e R s m args below meth c Qf H locs cells slots A C Re T S L hc hs)
theorem zi_castN {ix : Nat} (hd : zz_d M pc (.checkcast ix) 3 q) (kk : zz_Z X M d Q kc ks q ls (.null :: st) n h) : zz_Z X M d Q kc ks pc ls (.null :: st) n h := by
  obtain ⟨hd, rfl⟩ := hd
  intro p e R s m args below meth c Qf H locs cells slots A C Re T S L hc hs
  exact lv_castN C.x C.b hd (kk p e R s m args below meth c Qf H locs cells slots A C Re T S L hc hs)
theorem zi_castA {ix a : Nat} {x : vp_A} (hd : zz_d M pc (.checkcast ix) 3 q) (hl : Cond.classLink M.1.cls ix "[Ljava/lang/Object;" ∈ zz_ws) (ha : h a = some (.inl (3, x))) (kk : zz_Z X M d Q kc ks q ls (.ref a :: st) n h) : zz_Z X M d Q kc ks pc ls (.ref a :: st) n h := by
  obtain ⟨hd, rfl⟩ := hd
  intro p e R s m args below meth c Qf H locs cells slots A C Re T S L hc hs
  have hP : va_P (zz_D X) zz_cl [(a, .inl (zz_a X 3, x))] H := zz_one (T.2.2 a _ ha).1
  exact va_castA C.x C.b C.ow (C.ts _ hl) hP 0 rfl (va_nmO (C.k.1.2 3 (zz_a X 3, .object "java/lang/Object") rfl).2 rfl) hd (kk p e R s m args below meth c Qf H locs cells slots A C Re T S L hc hs)
/-! calls -/
theorem zz_blind {av : List Value} {n : Nat} {h : zz_H} : FrameBlind (zz_Pc X av n h) := fun _ _ _ _ x => ⟨x.1, x.2.1.calling, x.2.2⟩
theorem zz_G {M' : zz_M} (hc : Cond.code M'.1 M'.2.1 M'.2.2.1 M'.2.2.2 ∈ zz_ws) : GoodIn zz_ws (Cond.code M'.1 M'.2.1 M'.2.2.1 M'.2.2.2 :: zz_ws) := fun w hw => by
  rcases List.mem_cons.mp hw with rfl | hw
  · exact zz_wsG _ hc
  · exact zz_wsG _ hw
theorem zz_after {p : Program} {e : Env} {R : Room} {s : State} {m : MethodId} {args av : Array Value} {below : List Frame} {meth : Method} {c : Code} {Qf : State → Prop} {H : Heap} {locs : List Loc} {cells slots mc ms : Nat} {A : Array Slot} {st0 : List Value} {Q' : Option Value → Nat → zz_H → Prop}
    (hr : va_Run p (zz_l X) e R s m args below meth c H locs cells slots mc ms (F0 m pc A st0) st (zz_Qc X Q' av) (zz_A X)) (S : va_S (zz_A X) s.heap H locs)
    (kk : ∀ (r : Option Value) (n' : Nat) (h' : zz_H) (H1 : Heap) (locs1 : List Loc), Q' r n' h' → zz_T X n' h' H1 → va_S (zz_A X) s.heap H1 locs1 → W p (zz_l X) e R s m args below meth c H1 locs1 (cells + mc) (slots + ms) Qf (F0 m (pc + 3) A (r.toList ++ st))) :
    W p (zz_l X) e R s m args below meth c H locs cells slots Qf (F0 m pc A st0) := by
  intro T0 hT0 X0
  obtain ⟨v, st₀, t, T', L, h0, X', hL, e1, e2, ⟨⟨r, n', h', hv, hq, hT'⟩, hz, hk⟩, stp⟩ := hr T0 hT0 X0
  cases hv
  rw [h0] at hz hk
  obtain ⟨t2, a1, b1⟩ := kk v n' h' T'.heap (locs ++ L) hq (by rw [e1]; exact hT') ⟨Nat.le_trans S.1 (by rw [e1]; exact hz), fun y g1 g2 => by rw [e1, hk y (Nat.lt_of_lt_of_le g1 S.1) g2]; exact S.2.1 y g1 g2, fun y hy => by
      rcases List.mem_append.mp hy with g | g
      · exact S.2.2 y g
      · exact hL y g⟩ T' rfl X'
  exact ⟨t2, stp t2 a1, b1⟩
abbrev zz_ok (M' : zz_M) (nA : Nat) : Prop := Cond.code M'.1 M'.2.1 M'.2.2.1 M'.2.2.2 ∈ zz_ws ∧ Cond.initialized M'.1.cls ∈ zz_ws ∧ (M'.1.cls ≠ "java/lang/invoke/MethodHandle" ∧ M'.1.cls ≠ "java/lang/invoke/VarHandle" ∧ (parseMethodDescriptor M'.1.desc).map (fun d => d.parameters.length) = some nA) ∧ M'.2.2.1 ≤ 20
/-- an instance method, by its own name -/
def zz_iv (M' : zz_M) (nA : Nat) : Prop := zz_ok M' nA ∧ Cond.instanceMethod M'.1 ∈ zz_ws ∧ Cond.selects M'.1.cls M'.1 M'.1 ∈ zz_ws
def zz_is (M' : zz_M) (nA : Nat) : Prop := zz_ok M' nA ∧ Cond.static M'.1 ∈ zz_ws
def zz_ii (M' : zz_M) (nA : Nat) : Prop := zz_ok M' nA ∧ Cond.instanceMethod M'.1 ∈ zz_ws ∧ M'.1.name = "<init>" ∧ M'.2.2.2 = none
/-- a link from own's pool place ix to y: plain, or inside the nest -/
def zz_ml (own : String) (ix : Nat) (y : MethodName) : Prop := Cond.methodLink own ix y ∈ zz_ws ∨ ∃ host, (own, ix, y, host) ∈ zz_nl
theorem zi_invV {M' : zz_M} {ix d' mc ms kc' ks' a ci N nA : Nat} {F : u_T} {fs As st0 : List Value} {Q' : Option Value → Nat → zz_H → Prop} (hd : zz_d M pc (.invokevirtual ix) 3 q) (hl : zz_ml M.1.cls ix M'.1) (hv : zz_iv M' nA)
    (hM : zz_Ct X M' d' mc ms (.ref a :: As) n h Q') (ha : h a = some (.inr (ci, fs))) (hcl : zz_cl[ci]? = some (M'.1.cls, F, N)) (hst : st0 = As.reverse ++ .ref a :: st) (hn : As.length = nA) (hw : (st.map fun v => v.category).sum ≤ 8) (hdd : d' + 1 ≤ d) (hkc : kc = kc' + mc) (hks : ks = ks' + ms)
    (k : ∀ (r : Option Value) (n' : Nat) (h' : zz_H), Q' r n' h' → zz_Z X M d Q kc' ks' q ls (r.toList ++ st) n' h') : zz_Z X M d Q kc ks pc ls st0 n h := by
  obtain ⟨hd, rfl⟩ := hd
  obtain ⟨⟨c1, c2, c3, c4⟩, c5, c6⟩ := hv
  subst hkc hks hst
  intro p e R s m args below meth c Qf H locs cells slots A C Re T S L hc hs
  have hR : d' + 1 ≤ R.frames ∧ 8 + (M'.2.2.1 + 11) + 39 * d' ≤ R.locals := ⟨Nat.le_trans hdd C.f, by have := C.w; omega⟩
  have hPc : PreV s H M'.1.cls a (zz_Pc X (.ref a :: As) n h) As := ⟨zz_blind, zz_recv C.k T ha hcl, fun U hU hW => ⟨rfl, C.k.go hW (fun y g1 g2 => by rw [hU]; exact S.2.1 y g1 g2), by rw [hU]; exact T⟩⟩
  have hf : cells + mc ≤ R.cells ∧ slots + ms ≤ R.slots := ⟨by omega, by omega⟩
  have go := fun (hr : va_Run p (zz_l X) e R s m args below meth c H locs cells slots mc ms (F0 m pc A (As.reverse ++ .ref a :: st)) st (zz_Qc X Q' (Value.ref a :: As).toArray) (zz_A X)) => zz_after (Qf := Qf) hr S fun r n' h' H1 locs1 hq hT' hS' => k r n' h' hq p e R s m args below meth c Qf H1 locs1 (cells + mc) (slots + ms) A C Re hT' hS' L (by omega) (by omega)
  rcases hl with hl | ⟨host, hl⟩
  · exact go (va_runV ⟨C.x, C.b, C.ml, C.ow, C.ts⟩ hM ⟨callB_of nA C.ts (zz_G c1) rfl rfl rfl (C.ts _ c2) (C.ts _ hl) c3 hR, C.ts _ c5, C.ts _ c6⟩ hPc rfl hn L.1 rfl (lv_room hw) hd hf)
  · exact go (va_runVN ⟨C.x, C.b, C.ml, C.ow, C.ts⟩ hM ⟨va_cnB nA C.ts (zz_G c1) rfl rfl rfl (C.k.2.1 _ hl) (C.ts _ c2) c3 hR, C.ts _ c5, C.ts _ c6⟩ hPc rfl hn L.1 rfl (lv_room hw) hd hf)
theorem zi_invS {M' : zz_M} {ix d' mc ms kc' ks' nA : Nat} {As st0 : List Value} {Q' : Option Value → Nat → zz_H → Prop} (hd : zz_d M pc (.invokestatic ix) 3 q) (hl : zz_ml M.1.cls ix M'.1) (hv : zz_is M' nA)
    (hM : zz_Ct X M' d' mc ms As n h Q') (hst : st0 = As.reverse ++ st) (hn : As.length = nA) (hw : (st.map fun v => v.category).sum ≤ 8) (hdd : d' + 1 ≤ d) (hkc : kc = kc' + mc) (hks : ks = ks' + ms)
    (k : ∀ (r : Option Value) (n' : Nat) (h' : zz_H), Q' r n' h' → zz_Z X M d Q kc' ks' q ls (r.toList ++ st) n' h') : zz_Z X M d Q kc ks pc ls st0 n h := by
  obtain ⟨hd, rfl⟩ := hd
  obtain ⟨⟨c1, c2, c3, c4⟩, c5⟩ := hv
  subst hkc hks hst
  intro p e R s m args below meth c Qf H locs cells slots A C Re T S L hc hs
  have hR : d' + 1 ≤ R.frames ∧ 8 + (M'.2.2.1 + 11) + 39 * d' ≤ R.locals := ⟨Nat.le_trans hdd C.f, by have := C.w; omega⟩
  have hPc : PreS s H (zz_Pc X As n h) As := ⟨zz_blind, fun U hU hW => ⟨rfl, C.k.go hW (fun y g1 g2 => by rw [hU]; exact S.2.1 y g1 g2), by rw [hU]; exact T⟩⟩
  have hf : cells + mc ≤ R.cells ∧ slots + ms ≤ R.slots := ⟨by omega, by omega⟩
  have go := fun (hr : va_Run p (zz_l X) e R s m args below meth c H locs cells slots mc ms (F0 m pc A (As.reverse ++ st)) st (zz_Qc X Q' As.toArray) (zz_A X)) => zz_after (Qf := Qf) hr S fun r n' h' H1 locs1 hq hT' hS' => k r n' h' hq p e R s m args below meth c Qf H1 locs1 (cells + mc) (slots + ms) A C Re hT' hS' L (by omega) (by omega)
  rcases hl with hl | ⟨host, hl⟩
  · exact go (va_runS ⟨C.x, C.b, C.ml, C.ow, C.ts⟩ hM ⟨callB_of nA C.ts (zz_G c1) rfl rfl rfl (C.ts _ c2) (C.ts _ hl) c3 hR, C.ts _ c5⟩ hPc rfl hn L.1 rfl (lv_room hw) hd hf)
  · exact go (va_runSN ⟨C.x, C.b, C.ml, C.ow, C.ts⟩ hM ⟨va_cnB nA C.ts (zz_G c1) rfl rfl rfl (C.k.2.1 _ hl) (C.ts _ c2) c3 hR, C.ts _ c5, trivial⟩ hPc rfl hn L.1 rfl (lv_room hw) hd hf)
theorem zi_invI {M' : zz_M} {ix d' mc ms kc' ks' a nA : Nat} {As st0 : List Value} {Q' : Option Value → Nat → zz_H → Prop} (hd : zz_d M pc (.invokespecial ix) 3 q) (hl : zz_ml M.1.cls ix M'.1) (hv : zz_ii M' nA)
    (hM : zz_Ct X M' d' mc ms (.ref a :: As) n h Q') (hst : st0 = As.reverse ++ .ref a :: st) (hn : As.length = nA) (hw : (st.map fun v => v.category).sum ≤ 8) (hdd : d' + 1 ≤ d) (hkc : kc = kc' + mc) (hks : ks = ks' + ms)
    (k : ∀ (r : Option Value) (n' : Nat) (h' : zz_H), Q' r n' h' → zz_Z X M d Q kc' ks' q ls (r.toList ++ st) n' h') : zz_Z X M d Q kc ks pc ls st0 n h := by
  obtain ⟨hd, rfl⟩ := hd
  obtain ⟨y', cc', mL', ret'⟩ := M'
  obtain ⟨⟨c1, c2, c3, c4⟩, c5, c6, c7⟩ := hv
  dsimp only at c7
  subst c7
  subst hkc hks hst
  intro p e R s m args below meth c Qf H locs cells slots A C Re T S L hc hs
  have hR : d' + 1 ≤ R.frames ∧ 8 + (mL' + 11) + 39 * d' ≤ R.locals := ⟨Nat.le_trans hdd C.f, by have := C.w; dsimp only at c4; omega⟩
  have hPc : PreS s H (zz_Pc X (.ref a :: As) n h) (.ref a :: As) := ⟨zz_blind, fun U hU hW => ⟨rfl, C.k.go hW (fun y g1 g2 => by rw [hU]; exact S.2.1 y g1 g2), by rw [hU]; exact T⟩⟩
  have hf : cells + mc ≤ R.cells ∧ slots + ms ≤ R.slots := ⟨by omega, by omega⟩
  have go := fun (hr : va_Run p (zz_l X) e R s m args below meth c H locs cells slots mc ms (F0 m pc A (As.reverse ++ .ref a :: st)) st (zz_Qc X Q' (Value.ref a :: As).toArray) (zz_A X)) => zz_after (Qf := Qf) hr S fun r n' h' H1 locs1 hq hT' hS' => k r n' h' hq p e R s m args below meth c Qf H1 locs1 (cells + mc) (slots + ms) A C Re hT' hS' L (by omega) (by omega)
  rcases hl with hl | ⟨host, hl⟩
  · exact go (va_runI ⟨C.x, C.b, C.ml, C.ow, C.ts⟩ hM ⟨callB_of nA C.ts (zz_G c1) rfl rfl rfl (C.ts _ c2) (C.ts _ hl) c3 hR, c6, C.ts _ c5⟩ hPc rfl hn L.1 rfl (lv_room hw) hd hf)
  · exact go (va_runIN ⟨C.x, C.b, C.ml, C.ow, C.ts⟩ hM ⟨va_cnB nA C.ts (zz_G c1) rfl rfl rfl (C.k.2.1 _ hl) (C.ts _ c2) c3 hR, c6, C.ts _ c5⟩ hPc rfl hn L.1 rfl (lv_room hw) hd hf)
theorem zi_objI {ix a : Nat} (hd : zz_d M pc (.invokespecial ix) 3 q) (hl : Cond.methodLink M.1.cls ix Lib.objectInit ∈ zz_ws) (h1 : Cond.instanceMethod Lib.objectInit ∈ zz_ws) (h2 : Cond.code Lib.objectInit ⟨#[0xb1]⟩ 1 none ∈ zz_ws) (hw : (st.map fun v => v.category).sum ≤ 8) (hdd : 1 ≤ d) (k : zz_Z X M d Q kc ks q ls st n h) : zz_Z X M d Q kc ks pc ls (.ref a :: st) n h := by
  obtain ⟨hd, rfl⟩ := hd
  intro p e R s m args below meth c Qf H locs cells slots A C Re T S L hc hs
  exact W.objInit C.x C.b C.ow (C.ts _ hl) (C.ts _ h1) (C.ts _ h2) rfl (by rw [C.ml]; exact L.1) rfl hd (Nat.le_trans hdd C.f) (by have := lv_room (m := m) (pc := pc) (ls := A) (rest := .ref a :: st) hw; have := C.w; show 2 * (F0 m pc A (.ref a :: st)).monitorRoom + _ + 12 ≤ _; omega) (k p e R s m args below meth c Qf H locs cells slots A C Re T S L hc hs)
/-! ends -/
theorem zi_ireturn {v : Int32} {ty : FieldType} (hd : zz_d M pc .ireturn 1 q) (hr : M.2.2.2 = some ty) (hn : narrow ty (.int v) = .int v) (hQ : Q (some (.int v)) n h) : zz_Z X M d Q kc ks pc ls [.int v] n h := by
  intro p e R s m args below meth c Qf H locs cells slots A C Re T S L hc hs
  exact Re (some (.int v)) n h H locs cells slots pc A hQ T S (by omega) (by omega) (Or.inl ⟨v, ty, rfl, hr, hn, hd.1⟩)
theorem zi_return (hd : zz_d M pc .return_ 1 q) (hr : M.2.2.2 = none) (hQ : Q none n h) : zz_Z X M d Q kc ks pc ls [] n h := by
  intro p e R s m args below meth c Qf H locs cells slots A C Re T S L hc hs
  exact Re none n h H locs cells slots pc A hQ T S (by omega) (by omega) (Or.inr (Or.inl ⟨rfl, hr, hd.1⟩))
theorem zi_areturn {v : Value} {rt : FieldType} (hd : zz_d M pc .areturn 1 q) (hr : M.2.2.2 = some rt) (hrt : (∃ nm, rt = .object nm) ∨ ∃ t, rt = .array t) (hv : zz_ir v = true) (hQ : Q (some v) n h) : zz_Z X M d Q kc ks pc ls [v] n h := by
  intro p e R s m args below meth c Qf H locs cells slots A C Re T S L hc hs
  refine Re (some v) n h H locs cells slots pc A hQ T S (by omega) (by omega) (Or.inr (Or.inr ⟨v, rt, rfl, hr, hrt, ?_, hd.1⟩))
  cases v with
  | ref a => exact Or.inr ⟨a, rfl⟩
  | null => exact Or.inl rfl
  | int _ => cases hv
  | long _ => cases hv
  | float _ => cases hv
  | double _ => cases hv
  | retAddr _ => cases hv
/-! switches -/
theorem zi_tabIn {dflt lo hi : Int} {offs : Array Int} {len t : Nat} {x : Int32} {off : Int} (hd : zz_d M pc (.tableswitch dflt lo hi offs) len q) (h1 : ¬ x.toInt < lo) (h2 : ¬ hi < x.toInt) (ho : offs[(x.toInt - lo).toNat]? = some off) (ht : (pc : Int) + off = (t : Int)) (k : zz_Z X M d Q kc ks t ls st n h) : zz_Z X M d Q kc ks pc ls (.int x :: st) n h := by
  obtain ⟨hd, rfl⟩ := hd
  intro p e R s m args below meth c Qf H locs cells slots A C Re T S L hc hs
  exact lv_tableIn C.x C.b hd h1 h2 ho ht (k p e R s m args below meth c Qf H locs cells slots A C Re T S L hc hs)
theorem zi_tabOut {dflt lo hi : Int} {offs : Array Int} {len t : Nat} {x : Int32} (hd : zz_d M pc (.tableswitch dflt lo hi offs) len q) (hx : x.toInt < lo ∨ hi < x.toInt) (ht : (pc : Int) + dflt = (t : Int)) (k : zz_Z X M d Q kc ks t ls st n h) : zz_Z X M d Q kc ks pc ls (.int x :: st) n h := by
  obtain ⟨hd, rfl⟩ := hd
  intro p e R s m args below meth c Qf H locs cells slots A C Re T S L hc hs
  exact lv_tableOut C.x C.b hd hx ht (k p e R s m args below meth c Qf H locs cells slots A C Re T S L hc hs)
theorem zi_lookup {dflt : Int} {ps : Array (Int × Int)} {len t : Nat} {x : Int32} {off : Int} (hd : zz_d M pc (.lookupswitch dflt ps) len q) (hp : (ps.toList.zip (ps.toList.drop 1)).all (fun (a, next) => a.1 < next.1) = true) (ho : Op.lookupswitch.offset ps.toList dflt x.toInt = off) (ht : (pc : Int) + off = (t : Int)) (k : zz_Z X M d Q kc ks t ls st n h) : zz_Z X M d Q kc ks pc ls (.int x :: st) n h := by
  obtain ⟨hd, rfl⟩ := hd
  intro p e R s m args below meth c Qf H locs cells slots A C Re T S L hc hs
  exact lv_lookup C.x C.b hd hp ho ht (k p e R s m args below meth c Qf H locs cells slots A C Re T S L hc hs)
end ZV
