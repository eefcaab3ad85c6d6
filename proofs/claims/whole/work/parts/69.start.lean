/-! the start: what the tables give -/
theorem st_nl : ∀ q ∈ zz_nl, Cond.methodLinkNest q.1 q.2.1 q.2.2.1 q.2.2.2 ∈ tables_1 := by
  intro q hq
  simp only [zz_nl, List.mem_cons, List.not_mem_nil, or_false] at hq
  rcases hq with rfl | rfl | rfl | rfl | rfl | rfl | rfl | rfl
  · exact List.mem_of_getElem? (i := 33) (by decide +kernel)
  · exact List.mem_of_getElem? (i := 49) (by decide +kernel)
  · exact List.mem_of_getElem? (i := 55) (by decide +kernel)
  · exact List.mem_of_getElem? (i := 89) (by decide +kernel)
  · exact List.mem_of_getElem? (i := 103) (by decide +kernel)
  · exact List.mem_of_getElem? (i := 161) (by decide +kernel)
  · exact List.mem_of_getElem? (i := 306) (by decide +kernel)
  · exact List.mem_of_getElem? (i := 503) (by decide +kernel)
theorem st_ca : ∀ q ∈ zz_ca, Cond.castable q.1 q.2 ∈ tables_1 := by
  intro q hq
  simp only [zz_ca, List.mem_cons, List.not_mem_nil, or_false] at hq
  rcases hq with rfl | rfl | rfl | rfl | rfl | rfl | rfl | rfl | rfl | rfl | rfl | rfl | rfl | rfl | rfl | rfl | rfl
  · exact List.mem_of_getElem? (i := 1155) (by decide +kernel)
  · exact List.mem_of_getElem? (i := 1156) (by decide +kernel)
  · exact List.mem_of_getElem? (i := 1157) (by decide +kernel)
  · exact List.mem_of_getElem? (i := 1158) (by decide +kernel)
  · exact List.mem_of_getElem? (i := 1162) (by decide +kernel)
  · exact List.mem_of_getElem? (i := 1163) (by decide +kernel)
  · exact List.mem_of_getElem? (i := 1164) (by decide +kernel)
  · exact List.mem_of_getElem? (i := 1165) (by decide +kernel)
  · exact List.mem_of_getElem? (i := 1166) (by decide +kernel)
  · exact List.mem_of_getElem? (i := 1167) (by decide +kernel)
  · exact List.mem_of_getElem? (i := 1168) (by decide +kernel)
  · exact List.mem_of_getElem? (i := 1169) (by decide +kernel)
  · exact List.mem_of_getElem? (i := 1170) (by decide +kernel)
  · exact List.mem_of_getElem? (i := 1171) (by decide +kernel)
  · exact List.mem_of_getElem? (i := 1172) (by decide +kernel)
  · exact List.mem_of_getElem? (i := 1173) (by decide +kernel)
  · exact List.mem_of_getElem? (i := 1174) (by decide +kernel)
theorem zz_inst0 : ∀ (ci : Nat) (q : vw_C), zz_cl[ci]? = some q → ∃ n, Cond.instantiable q.1 n ∈ zz_ws
  | 0, _, h => by cases h; exact ⟨_, zw_24⟩
  | 1, _, h => by cases h; exact ⟨_, zw_32⟩
  | 2, _, h => by cases h; exact ⟨_, zw_54⟩
  | 3, _, h => by cases h; exact ⟨_, zw_48⟩
  | 4, _, h => by cases h; exact ⟨_, zw_88⟩
  | 5, _, h => by cases h; exact ⟨_, zw_300⟩
  | 6, _, h => by cases h; exact ⟨_, zw_124⟩
  | 7, _, h => by cases h; exact ⟨_, zw_102⟩
  | 8, _, h => by cases h; exact ⟨_, zw_405⟩
  | 9, _, h => by cases h; exact ⟨_, zw_570⟩
  | 10, _, h => by cases h; exact ⟨_, zw_160⟩
  | 11, _, h => by cases h; exact ⟨_, zw_455⟩
  | 12, _, h => by cases h; exact ⟨_, zw_134⟩
  | 13, _, h => by cases h; exact ⟨_, zw_805⟩
  | n + 14, _, h => by cases h
theorem st_cl {s : State} {args : Array Value} (hts : ∀ w ∈ zz_ws, w.before args s = true) : ∃ D : va_G, ∀ (c : Nat) (q : vw_C), zz_cl[c]? = some q → u_Kn s q.1 q.2.1 q.2.2 (D.1 c) (D.2 c) := by
  have hex : ∀ c : Nat, ∃ p : ClassId × (Nat → Nat), ∀ q : vw_C, zz_cl[c]? = some q → u_Kn s q.1 q.2.1 q.2.2 p.1 p.2 := by
    intro c
    cases hq : zz_cl[c]? with
    | none => exact ⟨(0, fun _ => 0), fun q h => by cases h⟩
    | some q =>
      obtain ⟨n, hn⟩ := zz_inst0 c q hq
      obtain ⟨C, F, N⟩ := q
      obtain ⟨cC, iS, hk⟩ := u_known hts (zz_clok hq).1 (hts _ hn)
      exact ⟨(cC, iS), fun q h => by cases h; exact hk⟩
  exact ⟨(fun c => (Classical.choose (hex c)).1, fun c => (Classical.choose (hex c)).2), fun c q h => Classical.choose_spec (hex c) q h⟩
theorem st_arr {s : State} {args : Array Value} {ty : FieldType} (h : (Cond.arrayClass ty).before args s = true) : ∃ c : ClassId, ArrOfT s c ty ∧ s.vm.findClass ("[" ++ ty.toString) = some c := by
  obtain ⟨c, k, comp, h1, h2, h3⟩ := Cond.arrayClass_spec (args := args) (first := s) (o := none) (s := s) (idx := []) h
  exact ⟨c, fun n z => ⟨fun k hk => (by cases hk), k, h2, comp, h3⟩, h1⟩
theorem st_obj {s : State} {args : Array Value} (h : (Cond.arrayOver (.object "java/lang/Object")).before args s = true) : ∃ c : ClassId, ArrOfT s c (.object "java/lang/Object") ∧ va_RA s c (.object "java/lang/Object") := by
  obtain ⟨comp, c, k, h1, h2, h3, h4, h5⟩ := Cond.arrayOver_spec (args := args) (first := s) (o := none) (s := s) (idx := []) h
  exact ⟨c, fun n z => ⟨fun _ hk => (by cases hk), k, h3, comp, h4⟩, k, comp, h3, h4, h1, h5⟩
theorem st_eqi {args : Array Value} {s : State} {t : Term} {z : Int32} (h : (Cond.eq t (.int z)).before args s = true) : t.eval args s none [] s = some (.int z) := by
  cases hv : t.eval args s none [] s with
  | none => simp [Cond.before, Cond.holds, Cond.value, hv] at h
  | some w =>
    have hz : (Term.int z).eval args s none [] s = some (.int z) := rfl
    cases w <;> simp [Cond.before, Cond.holds, Cond.value, hv, hz] at h
    rw [h]
theorem st_len {args : Array Value} {s : State} {t : Term} {a : Nat} {cell : Cell} (h : (Term.length t).eval args s none [] s = some (.int 0)) (ht : t.eval args s none [] s = some (.ref a)) (hc : s.heap[a]? = some cell) : cell.slots.size = 0 := by
  simp only [Term.eval, Option.bind_eq_bind, ht, Option.bind_some] at h
  obtain ⟨cell', hcell', h⟩ := Option.bind_eq_some_iff.mp h
  obtain ⟨g1, -, -, -⟩ := State.arrayAt?_spec hcell'
  have e : cell' = cell := Option.some.inj (g1.symm.trans hc)
  subst e
  by_cases hn : cell'.slots.size < 2147483648
  · rw [if_pos hn] at h
    have h2 : Int32.ofNat cell'.slots.size = 0 := by
      injection h with h
      injection h
    have h3 : Int32.ofNat cell'.slots.size ≤ Int32.ofNat 0 := by rw [h2]; exact Int32.le_refl _
    have := (Int32.ofNat_le_ofNat (by omega) (by decide)).mp h3
    omega
  · rw [if_neg hn] at h
    cases h
