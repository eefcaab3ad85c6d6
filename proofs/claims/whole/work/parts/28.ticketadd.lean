/-! Tickets.add -/
theorem tk_of_mem {T : List (Nat × td)} {u pl : Int} {p : Nat × td} (h : tk_of T u pl = some p) : p ∈ T ∧ p.2.1 = u := by
  unfold tk_of at h
  split at h
  · have h1 := List.mem_of_getElem? h
    rw [List.mem_filter] at h1
    exact ⟨h1.1, of_decide_eq_true h1.2⟩
  · cases h
theorem tk_F.mem {X : zz_X} {h : zz_H} {al ea N : Nat} {f : Nat → Option Nat} {mc : Int} {T : List (Nat × td)} (P : tk_F X h al ea N f mc T) {p : Nat × td} (hp : p ∈ T) : h p.1 = some (td_c p.2) ∧ td_V p.2 := by
  obtain ⟨i, hi⟩ := List.getElem?_of_mem hp
  exact (P.2.2.2.1 i p hi).2
theorem td_el {h : zz_H} {v : Nat} {x : td} (hv : h v = some (td_c x)) : zz_el h v := ⟨9, _, _, hv, rfl, by decide +kernel⟩
def tk_end (T : List (Nat × td)) (u : Int) : List (Nat × td) := match tk_of T u 0, tk_of T u 1 with
  | some p, some q => T.filter (fun r => decide (¬ (r.2.2.1 = if q.2.2.2.2.2.2 < p.2.2.2.2.2.2 then q.2.2.1 else p.2.2.1)))
  | _, _ => T
theorem tk_ad {X : zz_X} {h : zz_H} {n al ea N ea' N' v : Nat} {f f' : Nat → Option Nat} {mc : Int} {T : List (Nat × td)} {x : td} (P : tk_F X h al ea N f mc T) (hlt : ∀ a e, h a = some e → a < n) (hv : h v = some (td_c x)) (hx : td_V x)
    (q1 : N' = 10 ∨ N' = 15) (q2 : (T.length : Int) < (N' : Int)) (q3 : ∀ i : Nat, (i : Int) < (T.length : Int) → f' i = f i) (q4 : f' (T.length : Int).toNat = some v) (q5 : ∀ i w, f' i = some w → f i = some w ∨ w = v) (q6 : ea' = ea ∨ ea' = n) :
    tk_F X (zz_up (zz_up h ea' (zQ 3 N' f')) al (.inr (12, [.ref ea', zv ((T.length : Int) + 1), zv (mc + 1)]))) al ea' N' f' (mc + 1) (T ++ [(v, x)]) := by
  obtain ⟨h1, h2, h3, h4, h5⟩ := P
  have hae : ∃ kd, h ea = some (zQ kd N f) := by
    rcases h2 with ⟨h2, -⟩ | ⟨-, rfl, h2⟩
    · exact ⟨3, h2⟩
    · exact ⟨4, h2⟩
  obtain ⟨kd, hae⟩ := hae
  have hna : al ≠ ea' := by
    rcases q6 with rfl | rfl
    · exact zz_ne2 h1 hae
    · exact Nat.ne_of_lt (hlt _ _ h1)
  have hne : ∀ (a : Nat) (y : td), h a = some (td_c y) → a ≠ ea' := by
    intro a y ha
    rcases q6 with rfl | rfl
    · exact tk_nq ha hae
    · exact Nat.ne_of_lt (hlt _ _ ha)
  have keep : ∀ (a : Nat) (y : td), h a = some (td_c y) → zz_up (zz_up h ea' (zQ 3 N' f')) al (.inr (12, [.ref ea', zv ((T.length : Int) + 1), zv (mc + 1)])) a = some (td_c y) := fun a y ha => by
    rw [zz_up_ne (tk_ne ha h1), zz_up_ne (hne a y ha)]
    exact ha
  have hlen : (T ++ [(v, x)]).length = T.length + 1 := by simp
  refine ⟨?_, Or.inl ⟨by rw [zz_up_ne hna.symm]; exact zz_up_eq _ _ _, q1⟩, by omega, fun i p hi => ?_, fun i w hw => ?_⟩
  · rw [show ((T ++ [(v, x)]).length : Int) = (T.length : Int) + 1 by omega]
    exact zz_up_eq _ _ _
  · by_cases hlt2 : i < T.length
    · rw [List.getElem?_append_left hlt2] at hi
      obtain ⟨a1, a2, a3⟩ := h4 i p hi
      exact ⟨by rw [q3 i (by omega)]; exact a1, keep _ _ a2, a3⟩
    · have hi2 : i < (T ++ [(v, x)]).length := (List.getElem?_eq_some_iff.mp hi).1
      have hi3 : i = T.length := by omega
      subst hi3
      rw [List.getElem?_append_right (Nat.le_refl _), Nat.sub_self] at hi
      cases hi
      rw [Int.toNat_natCast] at q4
      exact ⟨q4, keep _ _ hv, hx⟩
  · rcases q5 i w hw with hw | rfl
    · have hel := h5 i w hw
      have hwn : w ≠ ea' := by
        obtain ⟨ci, vs, r, g1, -⟩ := hel
        rcases q6 with rfl | rfl
        · exact zz_ne2 g1 hae
        · exact Nat.ne_of_lt (hlt _ _ g1)
      exact (hel.up hwn).upo (zz_up_ne hna |>.trans h1)
    · exact td_el (keep _ _ hv)
theorem ct_78 {X : zz_X} {d n : Nat} {h : zz_H} (hd : 8 ≤ d) {tk al ea v : Nat} {T : List (Nat × td)} {x : td} (e0 : h tk = some (.inr (10, [.ref al]))) (P : tk_P X h al ea T) (n1 : tk ≠ ea ∧ tk ≠ al) (hT : T.length ≤ 14) (hv : h v = some (td_c x)) (hx : td_V x) : zz_Ct X mm_78 d 1 15 [.ref tk, .ref v] n h (fun r n' h' => r = none ∧ ∃ ea', tk_P X h' al ea' (tk_end T x.1 ++ [(v, x)]) ∧ (∀ a, a < n → a ≠ al → (a ≠ ea ∨ ∃ f, h a = some (zQ 4 0 f)) → h' a = h a) ∧ ((ea' = ea ∧ n' = n ∧ ∃ N f, h ea = some (zQ 3 N f)) ∨ (ea' = n ∧ n' = n + 1))) := by
  refine zz_start (by decide) (ls := [some (.ref tk), some (.ref v), none, none]) rfl ?_
  have P0 := P
  obtain ⟨N0, f0, mc0, PF0⟩ := P
  refine zz_Z.lt (fun hlt => ?_)
  have hu := hx.1
  have hTE : tk_end T x.1 = match tk_of T x.1 0, tk_of T x.1 1 with | some p, some q => T.filter (fun r => decide (¬ (r.2.2.1 = if q.2.2.2.2.2.2 < p.2.2.2.2.2.2 then q.2.2.1 else p.2.2.1))) | _, _ => T := rfl
  cases hA : tk_of T x.1 0 with
  | none =>
    cases hB : tk_of T x.1 1 with
    | none =>
      rw [hA, hB] at hTE
      dsimp only at hTE
      refine zi_aload_n dk_78_0 rfl rfl ?_
      refine zi_aload_n dk_78_1 rfl rfl ?_
      refine zi_getf dk_78_2 fl_10_30 (by first | exact e0 | exact hv | exact mp.1 | exact mq.1) rfl ?_
      refine zj_iconst dk_78_5 ?_
      refine zi_invV dk_78_6 ml_10_33 iv_79 (ct_79 (d := d - 1) (by omega) e0 P0 (by omega) (by omega)) (by first | exact e0 | exact hv | exact mp.1 | exact mq.1) rfl rfl rfl (Nat.le_of_ble_eq_true rfl) (by omega) rfl rfl (fun r n' h' hq => ?_)
      obtain ⟨rfl, e1, e2⟩ := hq
      have e1 := e1.symm
      have e2 := e2.symm
      subst e1
      subst e2
      rw [hA]
      refine zi_astore_n dk_78_9 rfl rfl ?_
      refine zi_aload_n dk_78_10 rfl rfl ?_
      refine zi_aload_n dk_78_11 rfl rfl ?_
      refine zi_getf dk_78_12 fl_10_30 (by first | exact e0 | exact hv | exact mp.1 | exact mq.1) rfl ?_
      refine zj_iconst dk_78_15 ?_
      refine zi_invV dk_78_16 ml_10_33 iv_79 (ct_79 (d := d - 1) (by omega) e0 P0 (by omega) (by omega)) (by first | exact e0 | exact hv | exact mp.1 | exact mq.1) rfl rfl rfl (Nat.le_of_ble_eq_true rfl) (by omega) rfl rfl (fun r n' h' hq => ?_)
      obtain ⟨rfl, e1, e2⟩ := hq
      have e1 := e1.symm
      have e2 := e2.symm
      subst e1
      subst e2
      rw [hB]
      refine zi_astore_n dk_78_19 rfl rfl ?_
      refine zi_aload_n dk_78_20 rfl rfl ?_
      refine zi_ifnullN (t := 54) dk_78_21 rfl ?_
      refine zi_aload_n dk_78_54 rfl rfl ?_
      refine zi_getf dk_78_55 fl_10_10 (by first | exact e0 | exact hv | exact mp.1 | exact mq.1) rfl ?_
      refine zi_aload_n dk_78_58 rfl rfl ?_
      refine zi_invV dk_78_59 ml_10_44 iv_33 (ct_33 (d := d - 1) (by omega) PF0.1 (N := N0) (f := f0) PF0.2.1 (by have := PF0.2.2.1; omega) PF0.2.2.2.2 (td_el hv)) PF0.1 rfl rfl rfl (Nat.le_of_ble_eq_true rfl) (by omega) (kc' := 0) (ks' := 0) rfl rfl (fun r n' h' hq => ?_)
      obtain ⟨rfl, ea', N', f', q1, q2, q3, q4, q5, rfl, q6⟩ := hq
      refine zi_pop dk_78_62 rfl ?_
      refine zi_return dk_78_63 rfl ⟨rfl, ea', ?_, ?_, by rcases q6 with ⟨e1, e2, e3⟩ | q6; exact Or.inl ⟨e1, e2, _, _, e3⟩; exact Or.inr q6⟩
      · rw [hTE]
        exact ⟨N', f', mc0 + 1, tk_ad PF0 hlt hv hx q1 q2 q3 q4 q5 (by rcases q6 with h | h; exact Or.inl h.1; exact Or.inr h.1)⟩
      · intro a h1 h3 h2
        rw [zz_up_ne h3, zz_up_ne (by rcases q6 with h | h; (rw [h.1]; exact zq_ne h.2.2 h2); (rw [h.1]; omega))]
    | some q =>
      rw [hA, hB] at hTE
      dsimp only at hTE
      refine zi_aload_n dk_78_0 rfl rfl ?_
      refine zi_aload_n dk_78_1 rfl rfl ?_
      refine zi_getf dk_78_2 fl_10_30 (by first | exact e0 | exact hv | exact mp.1 | exact mq.1) rfl ?_
      refine zj_iconst dk_78_5 ?_
      refine zi_invV dk_78_6 ml_10_33 iv_79 (ct_79 (d := d - 1) (by omega) e0 P0 (by omega) (by omega)) (by first | exact e0 | exact hv | exact mp.1 | exact mq.1) rfl rfl rfl (Nat.le_of_ble_eq_true rfl) (by omega) rfl rfl (fun r n' h' hq => ?_)
      obtain ⟨rfl, e1, e2⟩ := hq
      have e1 := e1.symm
      have e2 := e2.symm
      subst e1
      subst e2
      rw [hA]
      refine zi_astore_n dk_78_9 rfl rfl ?_
      refine zi_aload_n dk_78_10 rfl rfl ?_
      refine zi_aload_n dk_78_11 rfl rfl ?_
      refine zi_getf dk_78_12 fl_10_30 (by first | exact e0 | exact hv | exact mp.1 | exact mq.1) rfl ?_
      refine zj_iconst dk_78_15 ?_
      refine zi_invV dk_78_16 ml_10_33 iv_79 (ct_79 (d := d - 1) (by omega) e0 P0 (by omega) (by omega)) (by first | exact e0 | exact hv | exact mp.1 | exact mq.1) rfl rfl rfl (Nat.le_of_ble_eq_true rfl) (by omega) rfl rfl (fun r n' h' hq => ?_)
      obtain ⟨rfl, e1, e2⟩ := hq
      have e1 := e1.symm
      have e2 := e2.symm
      subst e1
      subst e2
      rw [hB]
      refine zi_astore_n dk_78_19 rfl rfl ?_
      refine zi_aload_n dk_78_20 rfl rfl ?_
      refine zi_ifnullN (t := 54) dk_78_21 rfl ?_
      refine zi_aload_n dk_78_54 rfl rfl ?_
      refine zi_getf dk_78_55 fl_10_10 (by first | exact e0 | exact hv | exact mp.1 | exact mq.1) rfl ?_
      refine zi_aload_n dk_78_58 rfl rfl ?_
      refine zi_invV dk_78_59 ml_10_44 iv_33 (ct_33 (d := d - 1) (by omega) PF0.1 (N := N0) (f := f0) PF0.2.1 (by have := PF0.2.2.1; omega) PF0.2.2.2.2 (td_el hv)) PF0.1 rfl rfl rfl (Nat.le_of_ble_eq_true rfl) (by omega) (kc' := 0) (ks' := 0) rfl rfl (fun r n' h' hq => ?_)
      obtain ⟨rfl, ea', N', f', q1, q2, q3, q4, q5, rfl, q6⟩ := hq
      refine zi_pop dk_78_62 rfl ?_
      refine zi_return dk_78_63 rfl ⟨rfl, ea', ?_, ?_, by rcases q6 with ⟨e1, e2, e3⟩ | q6; exact Or.inl ⟨e1, e2, _, _, e3⟩; exact Or.inr q6⟩
      · rw [hTE]
        exact ⟨N', f', mc0 + 1, tk_ad PF0 hlt hv hx q1 q2 q3 q4 q5 (by rcases q6 with h | h; exact Or.inl h.1; exact Or.inr h.1)⟩
      · intro a h1 h3 h2
        rw [zz_up_ne h3, zz_up_ne (by rcases q6 with h | h; (rw [h.1]; exact zq_ne h.2.2 h2); (rw [h.1]; omega))]
  | some p =>
    cases hB : tk_of T x.1 1 with
    | none =>
      rw [hA, hB] at hTE
      dsimp only at hTE
      refine zi_aload_n dk_78_0 rfl rfl ?_
      refine zi_aload_n dk_78_1 rfl rfl ?_
      refine zi_getf dk_78_2 fl_10_30 (by first | exact e0 | exact hv | exact mp.1 | exact mq.1) rfl ?_
      refine zj_iconst dk_78_5 ?_
      refine zi_invV dk_78_6 ml_10_33 iv_79 (ct_79 (d := d - 1) (by omega) e0 P0 (by omega) (by omega)) (by first | exact e0 | exact hv | exact mp.1 | exact mq.1) rfl rfl rfl (Nat.le_of_ble_eq_true rfl) (by omega) rfl rfl (fun r n' h' hq => ?_)
      obtain ⟨rfl, e1, e2⟩ := hq
      have e1 := e1.symm
      have e2 := e2.symm
      subst e1
      subst e2
      rw [hA]
      refine zi_astore_n dk_78_9 rfl rfl ?_
      refine zi_aload_n dk_78_10 rfl rfl ?_
      refine zi_aload_n dk_78_11 rfl rfl ?_
      refine zi_getf dk_78_12 fl_10_30 (by first | exact e0 | exact hv | exact mp.1 | exact mq.1) rfl ?_
      refine zj_iconst dk_78_15 ?_
      refine zi_invV dk_78_16 ml_10_33 iv_79 (ct_79 (d := d - 1) (by omega) e0 P0 (by omega) (by omega)) (by first | exact e0 | exact hv | exact mp.1 | exact mq.1) rfl rfl rfl (Nat.le_of_ble_eq_true rfl) (by omega) rfl rfl (fun r n' h' hq => ?_)
      obtain ⟨rfl, e1, e2⟩ := hq
      have e1 := e1.symm
      have e2 := e2.symm
      subst e1
      subst e2
      rw [hB]
      refine zi_astore_n dk_78_19 rfl rfl ?_
      refine zi_aload_n dk_78_20 rfl rfl ?_
      refine zi_ifnullR (t := 54) dk_78_21 rfl ?_
      refine zi_aload_n dk_78_24 rfl rfl ?_
      refine zi_ifnullN (t := 54) dk_78_25 rfl ?_
      refine zi_aload_n dk_78_54 rfl rfl ?_
      refine zi_getf dk_78_55 fl_10_10 (by first | exact e0 | exact hv | exact mp.1 | exact mq.1) rfl ?_
      refine zi_aload_n dk_78_58 rfl rfl ?_
      refine zi_invV dk_78_59 ml_10_44 iv_33 (ct_33 (d := d - 1) (by omega) PF0.1 (N := N0) (f := f0) PF0.2.1 (by have := PF0.2.2.1; omega) PF0.2.2.2.2 (td_el hv)) PF0.1 rfl rfl rfl (Nat.le_of_ble_eq_true rfl) (by omega) (kc' := 0) (ks' := 0) rfl rfl (fun r n' h' hq => ?_)
      obtain ⟨rfl, ea', N', f', q1, q2, q3, q4, q5, rfl, q6⟩ := hq
      refine zi_pop dk_78_62 rfl ?_
      refine zi_return dk_78_63 rfl ⟨rfl, ea', ?_, ?_, by rcases q6 with ⟨e1, e2, e3⟩ | q6; exact Or.inl ⟨e1, e2, _, _, e3⟩; exact Or.inr q6⟩
      · rw [hTE]
        exact ⟨N', f', mc0 + 1, tk_ad PF0 hlt hv hx q1 q2 q3 q4 q5 (by rcases q6 with h | h; exact Or.inl h.1; exact Or.inr h.1)⟩
      · intro a h1 h3 h2
        rw [zz_up_ne h3, zz_up_ne (by rcases q6 with h | h; (rw [h.1]; exact zq_ne h.2.2 h2); (rw [h.1]; omega))]
    | some q =>
      rw [hA, hB] at hTE
      dsimp only at hTE
      have mp := PF0.mem (tk_of_mem hA).1
      have mq := PF0.mem (tk_of_mem hB).1
      have vp := mp.2.2.2.2.2.2
      have vq := mq.2.2.2.2.2.2
      have ip := mp.2.2.1
      have iq := mq.2.2.1
      refine zi_aload_n dk_78_0 rfl rfl ?_
      refine zi_aload_n dk_78_1 rfl rfl ?_
      refine zi_getf dk_78_2 fl_10_30 (by first | exact e0 | exact hv | exact mp.1 | exact mq.1) rfl ?_
      refine zj_iconst dk_78_5 ?_
      refine zi_invV dk_78_6 ml_10_33 iv_79 (ct_79 (d := d - 1) (by omega) e0 P0 (by omega) (by omega)) (by first | exact e0 | exact hv | exact mp.1 | exact mq.1) rfl rfl rfl (Nat.le_of_ble_eq_true rfl) (by omega) rfl rfl (fun r n' h' hq => ?_)
      obtain ⟨rfl, e1, e2⟩ := hq
      have e1 := e1.symm
      have e2 := e2.symm
      subst e1
      subst e2
      rw [hA]
      refine zi_astore_n dk_78_9 rfl rfl ?_
      refine zi_aload_n dk_78_10 rfl rfl ?_
      refine zi_aload_n dk_78_11 rfl rfl ?_
      refine zi_getf dk_78_12 fl_10_30 (by first | exact e0 | exact hv | exact mp.1 | exact mq.1) rfl ?_
      refine zj_iconst dk_78_15 ?_
      refine zi_invV dk_78_16 ml_10_33 iv_79 (ct_79 (d := d - 1) (by omega) e0 P0 (by omega) (by omega)) (by first | exact e0 | exact hv | exact mp.1 | exact mq.1) rfl rfl rfl (Nat.le_of_ble_eq_true rfl) (by omega) rfl rfl (fun r n' h' hq => ?_)
      obtain ⟨rfl, e1, e2⟩ := hq
      have e1 := e1.symm
      have e2 := e2.symm
      subst e1
      subst e2
      rw [hB]
      refine zi_astore_n dk_78_19 rfl rfl ?_
      refine zi_aload_n dk_78_20 rfl rfl ?_
      refine zi_ifnullR (t := 54) dk_78_21 rfl ?_
      refine zi_aload_n dk_78_24 rfl rfl ?_
      refine zi_ifnullR (t := 54) dk_78_25 rfl ?_
      refine zi_aload_n dk_78_28 rfl rfl ?_
      refine zi_aload_n dk_78_29 rfl rfl ?_
      refine zi_getf dk_78_30 fl_10_37 (by first | exact e0 | exact hv | exact mp.1 | exact mq.1) rfl ?_
      refine zi_aload_n dk_78_33 rfl rfl ?_
      refine zi_getf dk_78_34 fl_10_37 (by first | exact e0 | exact hv | exact mp.1 | exact mq.1) rfl ?_
      refine zj_icmp_ge (t := 47) dk_78_37 rfl (by omega) (fun c37 => ?_) (fun c37 => ?_)
      · skip
        refine zi_aload_n dk_78_47 rfl rfl ?_
        refine zi_getf dk_78_48 fl_10_26 (by first | exact e0 | exact hv | exact mp.1 | exact mq.1) rfl ?_
        have hne : v ≠ ea ∧ v ≠ al := ⟨by rcases PF0.2.1 with ⟨hh, -⟩ | ⟨-, -, hh⟩ <;> exact tk_nq hv hh, tk_ne hv PF0.1⟩
        refine zi_invV dk_78_51 ml_10_40 iv_75 (ct_75 (d := d - 1) (by omega) e0 P0 n1 (by omega)) e0 rfl rfl rfl (Nat.le_of_ble_eq_true rfl) (by omega) rfl rfl (fun r n' h' hq => ?_)
        obtain ⟨rfl, e1, P1, hfr⟩ := hq
        subst e1
        obtain ⟨N, f, mc, PF⟩ := P1
        refine zz_Z.lt (fun hlt2 => ?_)
        have hv2 : h' v = some (td_c x) := (hfr v hne.2 (Or.inl hne.1)).trans hv
        have e02 : h' tk = some (.inr (10, [.ref al])) := (hfr tk n1.2 (Or.inl n1.1)).trans e0
        have hfl : (T.filter (fun r => decide (¬ (r.2.2.1 = p.2.2.1)))).length ≤ T.length := List.length_filter_le _ _
        have q3h : ∀ {N3 f3}, h' ea = some (zQ 3 N3 f3) → ∃ N f, h ea = some (zQ 3 N f) := fun {N3 f3} hk => by
          rcases PF0.2.1 with ⟨hh, -⟩ | ⟨-, -, hh⟩
          · exact ⟨_, _, hh⟩
          · have hne2 : ea ≠ al := fun e => by
              have := PF0.1
              rw [← e, hh] at this
              unfold zQ at this
              cases this
            rw [hfr ea hne2 (Or.inr ⟨_, hh⟩), hh] at hk
            unfold zQ at hk
            cases hk
        refine zi_aload_n dk_78_54 rfl rfl ?_
        refine zi_getf dk_78_55 fl_10_10 e02 rfl ?_
        refine zi_aload_n dk_78_58 rfl rfl ?_
        refine zi_invV dk_78_59 ml_10_44 iv_33 (ct_33 (d := d - 1) (by omega) PF.1 (N := N) (f := f) PF.2.1 (by have := PF.2.2.1; omega) PF.2.2.2.2 (td_el hv2)) PF.1 rfl rfl rfl (Nat.le_of_ble_eq_true rfl) (by omega) (kc' := 0) (ks' := 0) rfl rfl (fun r n'' h'' hq => ?_)
        obtain ⟨rfl, ea', N', f', q1, q2, q3, q4, q5, rfl, q6⟩ := hq
        refine zi_pop dk_78_62 rfl ?_
        refine zi_return dk_78_63 rfl ⟨rfl, ea', ?_, ?_, by rcases q6 with ⟨e1, e2, e3⟩ | q6; exact Or.inl ⟨e1, e2, q3h e3⟩; exact Or.inr q6⟩
        · rw [hTE, if_neg (by omega)]
          exact ⟨N', f', mc + 1, tk_ad PF hlt2 hv2 hx q1 q2 q3 q4 q5 (by rcases q6 with h | h; exact Or.inl h.1; exact Or.inr h.1)⟩
        · intro a h1 h3 h2
          have hx := hfr a h3 h2
          rw [zz_up_ne h3, zz_up_ne (by rcases q6 with h | h; (rw [h.1]; exact zq_ne h.2.2 (by rw [hx]; exact h2)); (rw [h.1]; omega))]
          exact hx
      · skip
        refine zi_aload_n dk_78_40 rfl rfl ?_
        refine zi_getf dk_78_41 fl_10_26 (by first | exact e0 | exact hv | exact mp.1 | exact mq.1) rfl ?_
        refine zi_goto (t := 51) dk_78_44 rfl ?_
        have hne : v ≠ ea ∧ v ≠ al := ⟨by rcases PF0.2.1 with ⟨hh, -⟩ | ⟨-, -, hh⟩ <;> exact tk_nq hv hh, tk_ne hv PF0.1⟩
        refine zi_invV dk_78_51 ml_10_40 iv_75 (ct_75 (d := d - 1) (by omega) e0 P0 n1 (by omega)) e0 rfl rfl rfl (Nat.le_of_ble_eq_true rfl) (by omega) rfl rfl (fun r n' h' hq => ?_)
        obtain ⟨rfl, e1, P1, hfr⟩ := hq
        subst e1
        obtain ⟨N, f, mc, PF⟩ := P1
        refine zz_Z.lt (fun hlt2 => ?_)
        have hv2 : h' v = some (td_c x) := (hfr v hne.2 (Or.inl hne.1)).trans hv
        have e02 : h' tk = some (.inr (10, [.ref al])) := (hfr tk n1.2 (Or.inl n1.1)).trans e0
        have hfl : (T.filter (fun r => decide (¬ (r.2.2.1 = q.2.2.1)))).length ≤ T.length := List.length_filter_le _ _
        have q3h : ∀ {N3 f3}, h' ea = some (zQ 3 N3 f3) → ∃ N f, h ea = some (zQ 3 N f) := fun {N3 f3} hk => by
          rcases PF0.2.1 with ⟨hh, -⟩ | ⟨-, -, hh⟩
          · exact ⟨_, _, hh⟩
          · have hne2 : ea ≠ al := fun e => by
              have := PF0.1
              rw [← e, hh] at this
              unfold zQ at this
              cases this
            rw [hfr ea hne2 (Or.inr ⟨_, hh⟩), hh] at hk
            unfold zQ at hk
            cases hk
        refine zi_aload_n dk_78_54 rfl rfl ?_
        refine zi_getf dk_78_55 fl_10_10 e02 rfl ?_
        refine zi_aload_n dk_78_58 rfl rfl ?_
        refine zi_invV dk_78_59 ml_10_44 iv_33 (ct_33 (d := d - 1) (by omega) PF.1 (N := N) (f := f) PF.2.1 (by have := PF.2.2.1; omega) PF.2.2.2.2 (td_el hv2)) PF.1 rfl rfl rfl (Nat.le_of_ble_eq_true rfl) (by omega) (kc' := 0) (ks' := 0) rfl rfl (fun r n'' h'' hq => ?_)
        obtain ⟨rfl, ea', N', f', q1, q2, q3, q4, q5, rfl, q6⟩ := hq
        refine zi_pop dk_78_62 rfl ?_
        refine zi_return dk_78_63 rfl ⟨rfl, ea', ?_, ?_, by rcases q6 with ⟨e1, e2, e3⟩ | q6; exact Or.inl ⟨e1, e2, q3h e3⟩; exact Or.inr q6⟩
        · rw [hTE, if_pos (by omega)]
          exact ⟨N', f', mc + 1, tk_ad PF hlt2 hv2 hx q1 q2 q3 q4 q5 (by rcases q6 with h | h; exact Or.inl h.1; exact Or.inr h.1)⟩
        · intro a h1 h3 h2
          have hx := hfr a h3 h2
          rw [zz_up_ne h3, zz_up_ne (by rcases q6 with h | h; (rw [h.1]; exact zq_ne h.2.2 (by rw [hx]; exact h2)); (rw [h.1]; omega))]
          exact hx

