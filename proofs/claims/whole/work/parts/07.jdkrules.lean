/-! what the library's own methods need besides: class objects, constants, arraycopy -/
section ZK
variable {X : zz_X} {M : zz_M} {d kc ks pc q n : Nat} {Q : Option Value → Nat → zz_H → Prop} {ls ls' : List (Option Value)} {st : List Value} {h : zz_H}
theorem zj_ldc {ix : Nat} {v : Int32} {z : Int} (hd : zz_d M pc (.ldc ix) 2 q) (hw : Cond.constant M.1.cls ix v ∈ zz_ws) (hz : v = Int32.ofInt z) (k : zz_Z X M d Q kc ks q ls (zv z :: st) n h) : zz_Z X M d Q kc ks pc ls st n h := by
  obtain ⟨hd, rfl⟩ := hd
  subst hz
  intro p e R s m args below meth c Qf H locs cells slots A C Re T S L hc hs
  exact lv_ldc C.x C.b C.ow (C.ts _ hw) hd (k p e R s m args below meth c Qf H locs cells slots A C Re T S L hc hs)
theorem zi_ldcM {ix : Nat} (hd : zz_d M pc (.ldc ix) 2 q) (hw : Cond.classLink M.1.cls ix "[Ljava/lang/Object;" ∈ zz_ws) (k : zz_Z X M d Q kc ks q ls (.ref (zz_mi X) :: st) n h) : zz_Z X M d Q kc ks pc ls st n h := by
  obtain ⟨hd, rfl⟩ := hd
  intro p e R s m args below meth c Qf H locs cells slots A C Re T S L hc hs
  exact va_ldcM C.x C.b C.ow (C.ts _ hw) C.k.2.2.2.2.2.1 hd (k p e R s m args below meth c Qf H locs cells slots A C Re T S L hc hs)
theorem zi_getC {ix a : Nat} {x : vp_A} (hd : zz_d M pc (.invokevirtual ix) 3 q) (hl : Cond.methodLink M.1.cls ix ⟨"java/lang/Object", "getClass", "()Ljava/lang/Class;"⟩ ∈ zz_ws) (ha : h a = some (.inl (3, x))) (hw : (st.map fun v => v.category).sum ≤ 8) (hdd : 1 ≤ d) (k : zz_Z X M d Q kc ks q ls (.ref (zz_mi X) :: st) n h) : zz_Z X M d Q kc ks pc ls (.ref a :: st) n h := by
  obtain ⟨hd, rfl⟩ := hd
  intro p e R s m args below meth c Qf H locs cells slots A C Re T S L hc hs
  have hcell : H[a]? = some (vp_cell (zz_a X 3) x) := (T.2.2 a _ ha).1
  have hnm := va_nmO (nm := "[Ljava/lang/Object;") (C.k.1.2 3 (zz_a X 3, .object "java/lang/Object") rfl).2 rfl
  have hr : ∃ cell : Cell, H[a]? = some cell ∧ cell.vm.isStatics = false ∧ s.vm.findClass "[Ljava/lang/Object;" = some cell.cls := by
    refine ⟨_, hcell, ?_, ?_⟩
    · obtain ⟨y, z⟩ := x
      rcases z with z | z | z | z | z <;> rfl
    · rw [hnm]
      obtain ⟨y, z⟩ := x
      rcases z with z | z | z | z | z <;> rfl
  have hlw := C.w
  have hlf := C.f
  exact va_getC C.x C.b (by rw [C.ml]; exact L.1.symm) C.ow (C.ts _ hl) (va_Dc.use C.k.2.2.2.2.2.2) (C.ts _ zw_1160) (C.ts _ zw_357) (C.ts _ zw_373) C.k.2.2.2.2.2.1 hr (by omega) (by omega) hd (k p e R s m args below meth c Qf H locs cells slots A C Re T S L hc hs)
theorem zn_nn {z : Int32} (hz : ¬ z < 0) : z.toInt = (z.toNatClampNeg : Int) := by
  have hz0 : (0 : Int) ≤ z.toInt := by
    have := Int32.not_lt.mp hz
    simpa using Int32.le_iff_toInt_le.mp this
  show z.toInt = ((z.toInt.toNat : Nat) : Int)
  omega
theorem zi_acopy {ix a0 a n0 n1 : Nat} {f g : Nat → Option Nat} {sp dp y : Int32} (hd : zz_d M pc (.invokestatic ix) 3 q) (hl : Cond.methodLink M.1.cls ix arraycopyName ∈ zz_ws)
    (ha0 : h a0 = some (.inl (3, n0, .inr (.inr (.inr (.inr f)))))) (ha : h a = some (.inl (3, n1, .inr (.inr (.inr (.inr g))))))
    (h1 : ¬ sp < 0) (h2 : ¬ dp < 0) (h3 : ¬ y < 0) (h4 : sp.toNatClampNeg + y.toNatClampNeg ≤ n0) (h5 : dp.toNatClampNeg + y.toNatClampNeg ≤ n1) (hel : ∀ i : Nat, i < y.toNatClampNeg → ∀ v : Nat, f (sp.toNatClampNeg + i) = some v → zz_el h v)
    (hw : (st.map fun v => v.category).sum ≤ 8) (hdd : 1 ≤ d) (kk : zz_Z X M d Q kc ks q ls st n (zz_up h a (.inl (3, n1, .inr (.inr (.inr (.inr (va_cpy f g sp.toNatClampNeg dp.toNatClampNeg y.toNatClampNeg)))))))) :
    zz_Z X M d Q kc ks pc ls (.int y :: .int dp :: .ref a :: .int sp :: .ref a0 :: st) n h := by
  obtain ⟨hd, rfl⟩ := hd
  intro p e R s m args below meth c Qf H locs cells slots A C Re T S L hc hs
  obtain ⟨hat, hbase⟩ := T.2.2 a _ ha
  have hb : zz_b X ≤ a := zz_wr hbase (fun x hx => by cases hx)
  have hc0 : H[a0]? = some (vp_cell (zz_a X 3) (n0, .inr (.inr (.inr (.inr f))))) := (T.2.2 a0 _ ha0).1
  have hc1 : H[a]? = some (vp_cell (zz_a X 3) (n1, .inr (.inr (.inr (.inr g))))) := hat
  have hK3 := C.k.1.2 3 (zz_a X 3, .object "java/lang/Object") rfl
  obtain ⟨-, k0, hk0, cm0, hkk0⟩ := hK3.1 n0 (fun j => va_rf (f j))
  obtain ⟨-, k1, hk1, cm1, hkk1⟩ := hK3.1 n1 (fun j => va_rf (g j))
  have hlw := C.w
  have hlf := C.f
  intro T0 hT X0
  obtain ⟨vm', X', step⟩ := X0.arraycopy C.x C.ow (C.ts _ hl) (C.ts _ zw_385) (C.ts _ zw_384) (C.ts _ zw_17) (src := a0) (dst := a) (cs := vp_cell (zz_a X 3) (n0, .inr (.inr (.inr (.inr f))))) (cd := vp_cell (zz_a X 3) (n1, .inr (.inr (.inr (.inr g))))) (srcPos := sp) (destPos := dp) (n := y) (by rw [hT]; exact hc0) (by rw [hT]; exact hc1)
    (fun _ hx => by cases hx) (fun _ hx => by cases hx) (fun hx => by cases hx) (fun hx => by cases hx) hk0 hk1 hkk0 hkk1 rfl h1 h2 h3
    (by rw [zn_nn h1, zn_nn h3]; show ¬ _ > ((arrV (zz_a X 3) n0 (fun j => va_rf (f j))).slots.size : Int); rw [arrV_size]; omega)
    (by rw [zn_nn h2, zn_nn h3]; show ¬ _ > ((arrV (zz_a X 3) n1 (fun j => va_rf (g j))).slots.size : Int); rw [arrV_size]; omega)
    (fun vm₁ hal i hi => by
      have e : (vp_cell (zz_a X 3) (n0, .inr (.inr (.inr (.inr f))))).slots.getD (sp.toNatClampNeg + i) .null = va_rf (f (sp.toNatClampNeg + i)) := by
        show (arrV (zz_a X 3) n0 (fun j => va_rf (f j))).slots.getD _ _ = _
        rw [Array.getD_eq_getD_getElem?, arrV_read _ _ (by omega)]
        rfl
      rw [e]
      cases hy : f (sp.toNatClampNeg + i) with
      | none => exact ⟨rfl, trivial⟩
      | some v =>
        obtain ⟨cellV, g1, g2, ⟨kC, hkC⟩, hasg⟩ := (hel i hi v hy).any C.k T
        obtain ⟨kA, comp, r1, r2, r3, -⟩ := hK3.2
        cases hk1.symm.trans r1
        cases hkk1.symm.trans r2
        obtain ⟨kE, hkE, -⟩ := Vm.findClass_spec r3
        obtain ⟨kC', hkC', -⟩ := hal.2.2 _ _ hkC
        obtain ⟨kE', hkE', -⟩ := hal.2.2 _ _ hkE
        refine ⟨rfl, cellV, (show T0.heap[v]? = some cellV by rw [hT]; exact g1), (fun x hx => by rw [hx] at g2; cases g2), ⟨kC', hkC'⟩, ?_, ?_⟩
        · exact ⟨kE', hkE'⟩
        · show vm₁.assignable _ _ = true
          rw [hal.assignable]
          exact hasg _ r3)
    (g := F0 m pc A (.int y :: .int dp :: .ref a :: .int sp :: .ref a0 :: st)) rfl (by rw [C.ml]; exact L.1) (rest := st) rfl (by rw [C.b]; exact hd) (by omega) (by show 2 * 0 + _ + (nativeFrameWords "java/lang/System" "arraycopy" 5 + 11) ≤ _; have hq5 : nativeFrameWords "java/lang/System" "arraycopy" 5 ≤ 16 := (by decide); omega)
  have e1 : copied (vp_cell (zz_a X 3) (n0, .inr (.inr (.inr (.inr f))))) (vp_cell (zz_a X 3) (n1, .inr (.inr (.inr (.inr g))))) sp dp y = vp_cell (zz_a X 3) (n1, .inr (.inr (.inr (.inr (va_cpy f g sp.toNatClampNeg dp.toNatClampNeg y.toNatClampNeg))))) := by
    rw [vp_cell_q, vp_cell_q, vp_cell_q]
    exact va_copied (fun z => va_rf z) (zz_a X 3) (zz_a X 3) f g h4
  rw [e1] at X' step
  have hlt : a < H.size := (Array.getElem?_eq_some_iff.mp hc1).1
  have hheap : ((T0.setVm vm').setCell a (vp_cell (zz_a X 3) (n1, .inr (.inr (.inr (.inr (va_cpy f g sp.toNatClampNeg dp.toNatClampNeg y.toNatClampNeg))))))).heap = H.setIfInBounds a (vp_cell (zz_a X 3) (n1, .inr (.inr (.inr (.inr (va_cpy f g sp.toNatClampNeg dp.toNatClampNeg y.toNatClampNeg)))))) := by rw [← hT]; rfl
  have oq : ∀ z : Nat, z ≠ a → (H.setIfInBounds a (vp_cell (zz_a X 3) (n1, .inr (.inr (.inr (.inr (va_cpy f g sp.toNatClampNeg dp.toNatClampNeg y.toNatClampNeg)))))))[z]? = H[z]? := fun z hz => by simp [Array.getElem?_setIfInBounds, Ne.symm hz]
  obtain ⟨t, a1, b1⟩ := kk p e R s m args below meth c Qf _ _ cells slots A C Re (T.put hb (show (H.setIfInBounds a _)[a]? = some _ by simp [Array.getElem?_setIfInBounds, hlt]) (by simp) oq) ⟨by simp; exact S.1, fun z g1 g2 => by
      rw [oq z (fun e => g2 (by rw [e]; exact hb))]
      exact S.2.1 z g1 g2, fun z hz => by
      rcases List.mem_append.mp hz with g | g
      · exact S.2.2 z g
      · obtain ⟨w, -, hw'⟩ := List.mem_map.mp g
        rw [← hw']
        exact hb⟩ L hc hs _ hheap X'
  exact ⟨t, step t a1, b1⟩
theorem zj_acopy {ix a0 a n0 n1 : Nat} {f g : Nat → Option Nat} {sp dp y : Int} (hd : zz_d M pc (.invokestatic ix) 3 q) (hl : Cond.methodLink M.1.cls ix arraycopyName ∈ zz_ws)
    (ha0 : h a0 = some (zQ 3 n0 f)) (ha : h a = some (zQ 3 n1 g)) (hb : 0 ≤ sp ∧ 0 ≤ dp ∧ 0 ≤ y ∧ sp + y ≤ (n0 : Int) ∧ dp + y ≤ (n1 : Int) ∧ n0 < 2147483648 ∧ n1 < 2147483648) (hel : ∀ i : Nat, i < y.toNat → ∀ v : Nat, f (sp.toNat + i) = some v → zz_el h v)
    (hw : (st.map fun v => v.category).sum ≤ 8) (hdd : 1 ≤ d) (kk : zz_Z X M d Q kc ks q ls st n (zz_up h a (zQ 3 n1 (va_cpy f g sp.toNat dp.toNat y.toNat)))) :
    zz_Z X M d Q kc ks pc ls (zv y :: zv dp :: .ref a :: zv sp :: .ref a0 :: st) n h := by
  have r1 := zn_cl (i := sp) (by omega)
  have r2 := zn_cl (i := dp) (by omega)
  have r3 := zn_cl (i := y) (by omega)
  refine zi_acopy hd hl ha0 ha (by rw [zn_z, zn_lt (by omega) (by omega)]; omega) (by rw [zn_z, zn_lt (by omega) (by omega)]; omega) (by rw [zn_z, zn_lt (by omega) (by omega)]; omega) (by rw [r1, r3]; omega) (by rw [r2, r3]; omega) ?_ hw hdd ?_
  · rw [r1, r3]; exact hel
  · rw [r1, r2, r3]; exact kk
theorem zj_mmax {ix : Nat} {x y : Int} (hd : zz_d M pc (.invokestatic ix) 3 q) (hl : Cond.methodLink M.1.cls ix Lib.Math.max.name ∈ zz_ws) (hr : (-2147483648 ≤ x ∧ x < 2147483648) ∧ -2147483648 ≤ y ∧ y < 2147483648) (hw : (st.map fun v => v.category).sum ≤ 8) (hdd : 1 ≤ d) (k : zz_Z X M d Q kc ks q ls (zv (if x < y then y else x) :: st) n h) : zz_Z X M d Q kc ks pc ls (zv y :: zv x :: st) n h := by
  obtain ⟨hd, rfl⟩ := hd
  intro p e R s m args below meth c Qf H locs cells slots A C Re T S L hc hs
  have hlw := C.w
  have hlf := C.f
  refine va_mmax C.x C.b (by rw [C.ml]; exact L.1.symm) C.ow (C.ts _ hl) (C.ts _ zw_347) (C.ts _ zw_15) (C.ts _ zw_348) (by omega) (by omega) (by omega) (by omega) hd ?_
  have e1 : Value.int (if (Int32.ofInt x) < (Int32.ofInt y) then (Int32.ofInt y) else (Int32.ofInt x)) = zv (if x < y then y else x) := by
    unfold zv
    by_cases hxy : x < y
    · rw [if_pos hxy, if_pos ((zn_lt hr.1 hr.2).mpr hxy)]
    · rw [if_neg hxy, if_neg (fun z => hxy ((zn_lt hr.1 hr.2).mp z))]
  rw [e1]
  exact k p e R s m args below meth c Qf H locs cells slots A C Re T S L hc hs
theorem zj_mmin {ix : Nat} {x y : Int} (hd : zz_d M pc (.invokestatic ix) 3 q) (hl : Cond.methodLink M.1.cls ix Lib.Math.min.name ∈ zz_ws) (hr : (-2147483648 ≤ x ∧ x < 2147483648) ∧ -2147483648 ≤ y ∧ y < 2147483648) (hw : (st.map fun v => v.category).sum ≤ 8) (hdd : 1 ≤ d) (k : zz_Z X M d Q kc ks q ls (zv (if y < x then y else x) :: st) n h) : zz_Z X M d Q kc ks pc ls (zv y :: zv x :: st) n h := by
  obtain ⟨hd, rfl⟩ := hd
  intro p e R s m args below meth c Qf H locs cells slots A C Re T S L hc hs
  have hlw := C.w
  have hlf := C.f
  refine va_mmin C.x C.b (by rw [C.ml]; exact L.1.symm) C.ow (C.ts _ hl) (C.ts _ zw_381) (C.ts _ zw_15) (C.ts _ zw_382) (by omega) (by omega) (by omega) (by omega) hd ?_
  have e1 : Value.int (if (Int32.ofInt y) < (Int32.ofInt x) then (Int32.ofInt y) else (Int32.ofInt x)) = zv (if y < x then y else x) := by
    unfold zv
    by_cases hxy : y < x
    · rw [if_pos hxy, if_pos ((zn_lt hr.2 hr.1).mpr hxy)]
    · rw [if_neg hxy, if_neg (fun z => hxy ((zn_lt hr.2 hr.1).mp z))]
  rw [e1]
  exact k p e R s m args below meth c Qf H locs cells slots A C Re T S L hc hs
end ZK
