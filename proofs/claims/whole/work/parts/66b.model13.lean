/-! the model's start -/
def md_rf (m i k : Nat) : Value := match Nat.ble i k with
  | true => .ref (m + i)
  | false => .null
def md_jl (m k : Nat) : List Value := [zv 0, zv 0, zv 0, zv 0, zv 0, zv 0, zv 0, md_rf m 1 k, zv 0, md_rf m 2 k, md_rf m 3 k, md_rf m 4 k, md_rf m 5 k, md_rf m 6 k, md_rf m 7 k, md_rf m 8 k, md_rf m 9 k, md_rf m 10 k, md_rf m 11 k, md_rf m 12 k, md_rf m 13 k, md_rf m 14 k, md_rf m 15 k, md_rf m 16 k, zv 0, md_rf m 17 k, md_rf m 18 k, md_rf m 19 k, md_rf m 20 k, zv 0, md_rf m 21 k, md_rf m 22 k, md_rf m 23 k, md_rf m 24 k, md_rf m 25 k, zv 0, md_rf m 26 k, md_rf m 27 k, md_rf m 28 k, md_rf m 29 k, zv 0, md_rf m 30 k, md_rf m 31 k, md_rf m 32 k, md_rf m 33 k, zv 0, md_rf m 34 k, md_rf m 35 k, md_rf m 36 k, md_rf m 37 k, md_rf m 38 k, zv 0, zv 0, zv 0, zv 0, zv 0]
def md_J (m k : Nat) (h : zz_H) : zz_H := fun a => if a = m then some (.inr (13, md_jl m k)) else if m < a ∧ a < m + k + 1 then some (zA (md_kd (a - m)) (md_N (a - m)) (fun _ => 0)) else h a
theorem md_J0 {m : Nat} {h : zz_H} (h1 : h m = some (.inr (13, md_jl m 0))) : h = md_J m 0 h := by
  funext a
  unfold md_J
  by_cases ha : a = m
  · subst ha; rw [if_pos rfl]; exact h1
  · rw [if_neg ha, if_neg (by omega)]
theorem md_Jm {m k : Nat} {h : zz_H} : md_J m k h m = some (.inr (13, md_jl m k)) := if_pos rfl
theorem md_Js {m k kd N : Nat} {h : zz_H} (hkd : md_kd (k + 1) = kd) (hN : md_N (k + 1) = N) : zz_up (zz_up (md_J m k h) (m + (k + 1)) (zA kd N (fun _ => 0))) m (.inr (13, md_jl m (k + 1))) = md_J m (k + 1) h := by
  funext a
  by_cases ha : a = m
  · subst ha; rw [zz_up_eq, md_Jm]
  · rw [zz_up_ne ha]
    by_cases hb : a = m + (k + 1)
    · subst hb
      rw [zz_up_eq]
      unfold md_J
      rw [if_neg ha, if_pos (by omega), Nat.add_sub_cancel_left, hkd, hN]
    · rw [zz_up_ne hb]
      unfold md_J
      rw [if_neg ha, if_neg ha]
      by_cases hc : m < a ∧ a < m + k + 1
      · rw [if_pos hc, if_pos (by omega)]
      · rw [if_neg hc, if_neg (by omega)]
theorem zz_cast {X : zz_X} {M : zz_M} {d kc ks pc n n' : Nat} {Q : Option Value → Nat → zz_H → Prop} {ls : List (Option Value)} {st : List Value} {h h' : zz_H} (e1 : n' = n) (e2 : h' = h) (K : zz_Z X M d Q kc ks pc ls st n h) : zz_Z X M d Q kc ks pc ls st n' h' := by
  subst e1 e2
  exact K
theorem md_JH {m : Nat} {h : zz_H} : zz_up (md_J m 38 h) m (.inr (13, md_l m (fun i => if i = 52 then -1 else 0))) = md_H m (fun i => if i = 52 then -1 else 0) (fun _ _ => 0) h := by
  funext a
  by_cases ha : a = m
  · subst ha; rw [zz_up_eq, md_0]
  · rw [zz_up_ne ha]
    unfold md_J md_H
    rw [if_neg ha, if_neg ha]
theorem ct_126 {X : zz_X} {d n : Nat} {h : zz_H} (hd : 1 ≤ d) {m : Nat} (hn : n = m + 1) (h1 : h m = some (.inr (13, md_jl m 0))) : zz_Ct X mm_126 d 38 997 [.ref m] n h (zp none (m + 39) (md_H m (fun i => if i = 52 then -1 else 0) (fun _ _ => 0) h)) := by
  refine zz_start (by decide) (ls := [some (.ref m)]) rfl ?_
  refine zz_cast (n := m + 1) (h := md_J m 0 h) hn (md_J0 h1) ?_
  refine zi_aload_n dk_126_0 rfl rfl ?_
  refine zi_objI dk_126_1 zw_809 zo_i zo_c (Nat.le_of_ble_eq_true rfl) (by omega) ?_
  refine zi_aload_n dk_126_4 rfl rfl ?_
  refine zj_bipush dk_126_5 (by decide) ?_
  refine zj_newi (N := 8) dk_126_7 zw_ac_int rfl (by decide) rfl rfl ?_
  refine zj_putR dk_126_9 fp_126_7 ((zz_up_ne (by omega)).trans md_Jm) (fs' := md_jl m 1) rfl ?_
  refine zz_cast (n := m + 2) (h := md_J m 1 h) rfl (md_Js rfl rfl) ?_
  refine zi_aload_n dk_126_12 rfl rfl ?_
  refine zj_bipush dk_126_13 (by decide) ?_
  refine zj_newi (N := 6) dk_126_15 zw_ac_int rfl (by decide) rfl rfl ?_
  refine zj_putR dk_126_17 fp_126_13 ((zz_up_ne (by omega)).trans md_Jm) (fs' := md_jl m 2) rfl ?_
  refine zz_cast (n := m + 3) (h := md_J m 2 h) rfl (md_Js rfl rfl) ?_
  refine zi_aload_n dk_126_20 rfl rfl ?_
  refine zj_bipush dk_126_21 (by decide) ?_
  refine zj_newi (N := 6) dk_126_23 zw_ac_int rfl (by decide) rfl rfl ?_
  refine zj_putR dk_126_25 fp_126_16 ((zz_up_ne (by omega)).trans md_Jm) (fs' := md_jl m 3) rfl ?_
  refine zz_cast (n := m + 4) (h := md_J m 3 h) rfl (md_Js rfl rfl) ?_
  refine zi_aload_n dk_126_28 rfl rfl ?_
  refine zj_bipush dk_126_29 (by decide) ?_
  refine zj_newi (N := 6) dk_126_31 zw_ac_int rfl (by decide) rfl rfl ?_
  refine zj_putR dk_126_33 fp_126_19 ((zz_up_ne (by omega)).trans md_Jm) (fs' := md_jl m 4) rfl ?_
  refine zz_cast (n := m + 5) (h := md_J m 4 h) rfl (md_Js rfl rfl) ?_
  refine zi_aload_n dk_126_36 rfl rfl ?_
  refine zj_bipush dk_126_37 (by decide) ?_
  refine zj_newi (N := 6) dk_126_39 zw_ac_int rfl (by decide) rfl rfl ?_
  refine zj_putR dk_126_41 fp_126_22 ((zz_up_ne (by omega)).trans md_Jm) (fs' := md_jl m 5) rfl ?_
  refine zz_cast (n := m + 6) (h := md_J m 5 h) rfl (md_Js rfl rfl) ?_
  refine zi_aload_n dk_126_44 rfl rfl ?_
  refine zj_bipush dk_126_45 (by decide) ?_
  refine zj_newi (N := 6) dk_126_47 zw_ac_int rfl (by decide) rfl rfl ?_
  refine zj_putR dk_126_49 fp_126_25 ((zz_up_ne (by omega)).trans md_Jm) (fs' := md_jl m 6) rfl ?_
  refine zz_cast (n := m + 7) (h := md_J m 6 h) rfl (md_Js rfl rfl) ?_
  refine zi_aload_n dk_126_52 rfl rfl ?_
  refine zj_bipush dk_126_53 (by decide) ?_
  refine zj_newi (N := 6) dk_126_55 zw_ac_int rfl (by decide) rfl rfl ?_
  refine zj_putR dk_126_57 fp_126_28 ((zz_up_ne (by omega)).trans md_Jm) (fs' := md_jl m 7) rfl ?_
  refine zz_cast (n := m + 8) (h := md_J m 7 h) rfl (md_Js rfl rfl) ?_
  refine zi_aload_n dk_126_60 rfl rfl ?_
  refine zj_bipush dk_126_61 (by decide) ?_
  refine zj_newz (N := 12) dk_126_63 zw_ac_boolean rfl (by decide) rfl rfl ?_
  refine zj_putR dk_126_65 fp_126_31 ((zz_up_ne (by omega)).trans md_Jm) (fs' := md_jl m 8) rfl ?_
  refine zz_cast (n := m + 9) (h := md_J m 8 h) rfl (md_Js rfl rfl) ?_
  refine zi_aload_n dk_126_68 rfl rfl ?_
  refine zj_bipush dk_126_69 (by decide) ?_
  refine zj_newi (N := 12) dk_126_71 zw_ac_int rfl (by decide) rfl rfl ?_
  refine zj_putR dk_126_73 fp_126_35 ((zz_up_ne (by omega)).trans md_Jm) (fs' := md_jl m 9) rfl ?_
  refine zz_cast (n := m + 10) (h := md_J m 9 h) rfl (md_Js rfl rfl) ?_
  refine zi_aload_n dk_126_76 rfl rfl ?_
  refine zj_bipush dk_126_77 (by decide) ?_
  refine zj_newi (N := 12) dk_126_79 zw_ac_int rfl (by decide) rfl rfl ?_
  refine zj_putR dk_126_81 fp_126_38 ((zz_up_ne (by omega)).trans md_Jm) (fs' := md_jl m 10) rfl ?_
  refine zz_cast (n := m + 11) (h := md_J m 10 h) rfl (md_Js rfl rfl) ?_
  refine zi_aload_n dk_126_84 rfl rfl ?_
  refine zj_bipush dk_126_85 (by decide) ?_
  refine zj_newz (N := 12) dk_126_87 zw_ac_boolean rfl (by decide) rfl rfl ?_
  refine zj_putR dk_126_89 fp_126_41 ((zz_up_ne (by omega)).trans md_Jm) (fs' := md_jl m 11) rfl ?_
  refine zz_cast (n := m + 12) (h := md_J m 11 h) rfl (md_Js rfl rfl) ?_
  refine zi_aload_n dk_126_92 rfl rfl ?_
  refine zj_bipush dk_126_93 (by decide) ?_
  refine zj_newi (N := 12) dk_126_95 zw_ac_int rfl (by decide) rfl rfl ?_
  refine zj_putR dk_126_97 fp_126_44 ((zz_up_ne (by omega)).trans md_Jm) (fs' := md_jl m 12) rfl ?_
  refine zz_cast (n := m + 13) (h := md_J m 12 h) rfl (md_Js rfl rfl) ?_
  refine zi_aload_n dk_126_100 rfl rfl ?_
  refine zj_bipush dk_126_101 (by decide) ?_
  refine zj_newi (N := 12) dk_126_103 zw_ac_int rfl (by decide) rfl rfl ?_
  refine zj_putR dk_126_105 fp_126_47 ((zz_up_ne (by omega)).trans md_Jm) (fs' := md_jl m 13) rfl ?_
  refine zz_cast (n := m + 14) (h := md_J m 13 h) rfl (md_Js rfl rfl) ?_
  refine zi_aload_n dk_126_108 rfl rfl ?_
  refine zj_bipush dk_126_109 (by decide) ?_
  refine zj_newz (N := 12) dk_126_111 zw_ac_boolean rfl (by decide) rfl rfl ?_
  refine zj_putR dk_126_113 fp_126_50 ((zz_up_ne (by omega)).trans md_Jm) (fs' := md_jl m 14) rfl ?_
  refine zz_cast (n := m + 15) (h := md_J m 14 h) rfl (md_Js rfl rfl) ?_
  refine zi_aload_n dk_126_116 rfl rfl ?_
  refine zj_bipush dk_126_117 (by decide) ?_
  refine zj_newi (N := 12) dk_126_119 zw_ac_int rfl (by decide) rfl rfl ?_
  refine zj_putR dk_126_121 fp_126_53 ((zz_up_ne (by omega)).trans md_Jm) (fs' := md_jl m 15) rfl ?_
  refine zz_cast (n := m + 16) (h := md_J m 15 h) rfl (md_Js rfl rfl) ?_
  refine zi_aload_n dk_126_124 rfl rfl ?_
  refine zj_bipush dk_126_125 (by decide) ?_
  refine zj_newi (N := 12) dk_126_127 zw_ac_int rfl (by decide) rfl rfl ?_
  refine zj_putR dk_126_129 fp_126_56 ((zz_up_ne (by omega)).trans md_Jm) (fs' := md_jl m 16) rfl ?_
  refine zz_cast (n := m + 17) (h := md_J m 16 h) rfl (md_Js rfl rfl) ?_
  refine zi_aload_n dk_126_132 rfl rfl ?_
  refine zj_bipush dk_126_133 (by decide) ?_
  refine zj_newi (N := 16) dk_126_135 zw_ac_int rfl (by decide) rfl rfl ?_
  refine zj_putR dk_126_137 fp_126_59 ((zz_up_ne (by omega)).trans md_Jm) (fs' := md_jl m 17) rfl ?_
  refine zz_cast (n := m + 18) (h := md_J m 17 h) rfl (md_Js rfl rfl) ?_
  refine zi_aload_n dk_126_140 rfl rfl ?_
  refine zj_bipush dk_126_141 (by decide) ?_
  refine zj_newi (N := 16) dk_126_143 zw_ac_int rfl (by decide) rfl rfl ?_
  refine zj_putR dk_126_145 fp_126_62 ((zz_up_ne (by omega)).trans md_Jm) (fs' := md_jl m 18) rfl ?_
  refine zz_cast (n := m + 19) (h := md_J m 18 h) rfl (md_Js rfl rfl) ?_
  refine zi_aload_n dk_126_148 rfl rfl ?_
  refine zj_bipush dk_126_149 (by decide) ?_
  refine zj_newi (N := 16) dk_126_151 zw_ac_int rfl (by decide) rfl rfl ?_
  refine zj_putR dk_126_153 fp_126_65 ((zz_up_ne (by omega)).trans md_Jm) (fs' := md_jl m 19) rfl ?_
  refine zz_cast (n := m + 20) (h := md_J m 19 h) rfl (md_Js rfl rfl) ?_
  refine zi_aload_n dk_126_156 rfl rfl ?_
  refine zj_bipush dk_126_157 (by decide) ?_
  refine zj_newi (N := 16) dk_126_159 zw_ac_int rfl (by decide) rfl rfl ?_
  refine zj_putR dk_126_161 fp_126_68 ((zz_up_ne (by omega)).trans md_Jm) (fs' := md_jl m 20) rfl ?_
  refine zz_cast (n := m + 21) (h := md_J m 20 h) rfl (md_Js rfl rfl) ?_
  refine zi_aload_n dk_126_164 rfl rfl ?_
  refine zj_bipush dk_126_165 (by decide) ?_
  refine zj_newi (N := 40) dk_126_167 zw_ac_int rfl (by decide) rfl rfl ?_
  refine zj_putR dk_126_169 fp_126_71 ((zz_up_ne (by omega)).trans md_Jm) (fs' := md_jl m 21) rfl ?_
  refine zz_cast (n := m + 22) (h := md_J m 21 h) rfl (md_Js rfl rfl) ?_
  refine zi_aload_n dk_126_172 rfl rfl ?_
  refine zj_bipush dk_126_173 (by decide) ?_
  refine zj_newi (N := 40) dk_126_175 zw_ac_int rfl (by decide) rfl rfl ?_
  refine zj_putR dk_126_177 fp_126_74 ((zz_up_ne (by omega)).trans md_Jm) (fs' := md_jl m 22) rfl ?_
  refine zz_cast (n := m + 23) (h := md_J m 22 h) rfl (md_Js rfl rfl) ?_
  refine zi_aload_n dk_126_180 rfl rfl ?_
  refine zj_bipush dk_126_181 (by decide) ?_
  refine zj_newi (N := 41) dk_126_183 zw_ac_int rfl (by decide) rfl rfl ?_
  refine zj_putR dk_126_185 fp_126_77 ((zz_up_ne (by omega)).trans md_Jm) (fs' := md_jl m 23) rfl ?_
  refine zz_cast (n := m + 24) (h := md_J m 23 h) rfl (md_Js rfl rfl) ?_
  refine zi_aload_n dk_126_188 rfl rfl ?_
  refine zj_bipush dk_126_189 (by decide) ?_
  refine zj_newi (N := 41) dk_126_191 zw_ac_int rfl (by decide) rfl rfl ?_
  refine zj_putR dk_126_193 fp_126_80 ((zz_up_ne (by omega)).trans md_Jm) (fs' := md_jl m 24) rfl ?_
  refine zz_cast (n := m + 25) (h := md_J m 24 h) rfl (md_Js rfl rfl) ?_
  refine zi_aload_n dk_126_196 rfl rfl ?_
  refine zj_bipush dk_126_197 (by decide) ?_
  refine zj_newi (N := 41) dk_126_199 zw_ac_int rfl (by decide) rfl rfl ?_
  refine zj_putR dk_126_201 fp_126_83 ((zz_up_ne (by omega)).trans md_Jm) (fs' := md_jl m 25) rfl ?_
  refine zz_cast (n := m + 26) (h := md_J m 25 h) rfl (md_Js rfl rfl) ?_
  refine zi_aload_n dk_126_204 rfl rfl ?_
  refine zj_bipush dk_126_205 (by decide) ?_
  refine zj_newz (N := 42) dk_126_207 zw_ac_boolean rfl (by decide) rfl rfl ?_
  refine zj_putR dk_126_209 fp_126_86 ((zz_up_ne (by omega)).trans md_Jm) (fs' := md_jl m 26) rfl ?_
  refine zz_cast (n := m + 27) (h := md_J m 26 h) rfl (md_Js rfl rfl) ?_
  refine zi_aload_n dk_126_212 rfl rfl ?_
  refine zj_bipush dk_126_213 (by decide) ?_
  refine zj_newz (N := 42) dk_126_215 zw_ac_boolean rfl (by decide) rfl rfl ?_
  refine zj_putR dk_126_217 fp_126_89 ((zz_up_ne (by omega)).trans md_Jm) (fs' := md_jl m 27) rfl ?_
  refine zz_cast (n := m + 28) (h := md_J m 27 h) rfl (md_Js rfl rfl) ?_
  refine zi_aload_n dk_126_220 rfl rfl ?_
  refine zj_bipush dk_126_221 (by decide) ?_
  refine zj_newz (N := 42) dk_126_223 zw_ac_boolean rfl (by decide) rfl rfl ?_
  refine zj_putR dk_126_225 fp_126_92 ((zz_up_ne (by omega)).trans md_Jm) (fs' := md_jl m 28) rfl ?_
  refine zz_cast (n := m + 29) (h := md_J m 28 h) rfl (md_Js rfl rfl) ?_
  refine zi_aload_n dk_126_228 rfl rfl ?_
  refine zj_bipush dk_126_229 (by decide) ?_
  refine zj_newz (N := 42) dk_126_231 zw_ac_boolean rfl (by decide) rfl rfl ?_
  refine zj_putR dk_126_233 fp_126_95 ((zz_up_ne (by omega)).trans md_Jm) (fs' := md_jl m 29) rfl ?_
  refine zz_cast (n := m + 30) (h := md_J m 29 h) rfl (md_Js rfl rfl) ?_
  refine zi_aload_n dk_126_236 rfl rfl ?_
  refine zj_sipush dk_126_237 (by decide) ?_
  refine zj_newi (N := 320) dk_126_240 zw_ac_int rfl (by decide) rfl rfl ?_
  refine zj_putR dk_126_242 fp_126_98 ((zz_up_ne (by omega)).trans md_Jm) (fs' := md_jl m 30) rfl ?_
  refine zz_cast (n := m + 31) (h := md_J m 30 h) rfl (md_Js rfl rfl) ?_
  refine zi_aload_n dk_126_245 rfl rfl ?_
  refine zj_bipush dk_126_246 (by decide) ?_
  refine zj_newi (N := 8) dk_126_248 zw_ac_int rfl (by decide) rfl rfl ?_
  refine zj_putR dk_126_250 fp_126_101 ((zz_up_ne (by omega)).trans md_Jm) (fs' := md_jl m 31) rfl ?_
  refine zz_cast (n := m + 32) (h := md_J m 31 h) rfl (md_Js rfl rfl) ?_
  refine zi_aload_n dk_126_253 rfl rfl ?_
  refine zj_bipush dk_126_254 (by decide) ?_
  refine zj_newi (N := 8) dk_126_256 zw_ac_int rfl (by decide) rfl rfl ?_
  refine zj_putR dk_126_258 fp_126_104 ((zz_up_ne (by omega)).trans md_Jm) (fs' := md_jl m 32) rfl ?_
  refine zz_cast (n := m + 33) (h := md_J m 32 h) rfl (md_Js rfl rfl) ?_
  refine zi_aload_n dk_126_261 rfl rfl ?_
  refine zj_bipush dk_126_262 (by decide) ?_
  refine zj_newi (N := 8) dk_126_264 zw_ac_int rfl (by decide) rfl rfl ?_
  refine zj_putR dk_126_266 fp_126_107 ((zz_up_ne (by omega)).trans md_Jm) (fs' := md_jl m 33) rfl ?_
  refine zz_cast (n := m + 34) (h := md_J m 33 h) rfl (md_Js rfl rfl) ?_
  refine zi_aload_n dk_126_269 rfl rfl ?_
  refine zj_bipush dk_126_270 (by decide) ?_
  refine zj_newi (N := 6) dk_126_272 zw_ac_int rfl (by decide) rfl rfl ?_
  refine zj_putR dk_126_274 fp_126_110 ((zz_up_ne (by omega)).trans md_Jm) (fs' := md_jl m 34) rfl ?_
  refine zz_cast (n := m + 35) (h := md_J m 34 h) rfl (md_Js rfl rfl) ?_
  refine zi_aload_n dk_126_277 rfl rfl ?_
  refine zj_bipush dk_126_278 (by decide) ?_
  refine zj_newi (N := 6) dk_126_280 zw_ac_int rfl (by decide) rfl rfl ?_
  refine zj_putR dk_126_282 fp_126_113 ((zz_up_ne (by omega)).trans md_Jm) (fs' := md_jl m 35) rfl ?_
  refine zz_cast (n := m + 36) (h := md_J m 35 h) rfl (md_Js rfl rfl) ?_
  refine zi_aload_n dk_126_285 rfl rfl ?_
  refine zj_bipush dk_126_286 (by decide) ?_
  refine zj_newi (N := 6) dk_126_288 zw_ac_int rfl (by decide) rfl rfl ?_
  refine zj_putR dk_126_290 fp_126_116 ((zz_up_ne (by omega)).trans md_Jm) (fs' := md_jl m 36) rfl ?_
  refine zz_cast (n := m + 37) (h := md_J m 36 h) rfl (md_Js rfl rfl) ?_
  refine zi_aload_n dk_126_293 rfl rfl ?_
  refine zj_bipush dk_126_294 (by decide) ?_
  refine zj_newz (N := 24) dk_126_296 zw_ac_boolean rfl (by decide) rfl rfl ?_
  refine zj_putR dk_126_298 fp_126_119 ((zz_up_ne (by omega)).trans md_Jm) (fs' := md_jl m 37) rfl ?_
  refine zz_cast (n := m + 38) (h := md_J m 37 h) rfl (md_Js rfl rfl) ?_
  refine zi_aload_n dk_126_301 rfl rfl ?_
  refine zj_bipush dk_126_302 (by decide) ?_
  refine zj_newi (N := 24) dk_126_304 zw_ac_int rfl (by decide) rfl rfl ?_
  refine zj_putR dk_126_306 fp_126_122 ((zz_up_ne (by omega)).trans md_Jm) (fs' := md_jl m 38) rfl ?_
  refine zz_cast (n := m + 39) (h := md_J m 38 h) rfl (md_Js rfl rfl) ?_
  refine zi_aload_n dk_126_309 rfl rfl ?_
  refine zj_iconst dk_126_310 ?_
  refine zj_putI dk_126_311 fp_126_125 md_Jm (fs' := md_l m (fun i => if i = 52 then -1 else 0)) rfl ?_
  refine zi_return dk_126_314 rfl ⟨rfl, rfl, md_JH⟩

