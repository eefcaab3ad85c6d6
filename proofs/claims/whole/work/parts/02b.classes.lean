theorem zk_0_l : ∀ k, k < 19 → u_lay "RequestGate" fF_0 k ∈ zz_ws
  | 0, _ => zw_190
  | 1, _ => zw_192
  | 2, _ => zw_194
  | 3, _ => zw_196
  | 4, _ => zw_198
  | 5, _ => zw_200
  | 6, _ => zw_202
  | 7, _ => zw_204
  | 8, _ => zw_206
  | 9, _ => zw_208
  | 10, _ => zw_210
  | 11, _ => zw_212
  | 12, _ => zw_214
  | 13, _ => zw_216
  | 14, _ => zw_218
  | 15, _ => zw_220
  | 16, _ => zw_222
  | 17, _ => zw_224
  | 18, _ => zw_226
  | n + 19, h => absurd h (by omega)
theorem zk_0_t : ∀ k, k < 19 → parseFieldDescriptor (fF_0 k).2.2.1 = some (zz_fty 0 k) := by decide +kernel
theorem zk_0_n : ∀ a, a < 19 → ∀ b, b < 19 → a ≠ b → (fF_0 a).2.1 ≠ (fF_0 b).2.1 := by decide +kernel
theorem zk_1_l : ∀ k, k < 2 → u_lay "RequestGate$Text" fF_1 k ∈ zz_ws
  | 0, _ => zw_41
  | 1, _ => zw_43
  | n + 2, h => absurd h (by omega)
theorem zk_1_t : ∀ k, k < 2 → parseFieldDescriptor (fF_1 k).2.2.1 = some (zz_fty 1 k) := by decide +kernel
theorem zk_1_n : ∀ a, a < 2 → ∀ b, b < 2 → a ≠ b → (fF_1 a).2.1 ≠ (fF_1 b).2.1 := by decide +kernel
theorem zk_2_l : ∀ k, k < 6 → u_lay "RequestGate$Pieces" fF_2 k ∈ zz_ws
  | 0, _ => zw_68
  | 1, _ => zw_70
  | 2, _ => zw_72
  | 3, _ => zw_74
  | 4, _ => zw_76
  | 5, _ => zw_78
  | n + 6, h => absurd h (by omega)
theorem zk_2_t : ∀ k, k < 6 → parseFieldDescriptor (fF_2 k).2.2.1 = some (zz_fty 2 k) := by decide +kernel
theorem zk_2_n : ∀ a, a < 6 → ∀ b, b < 6 → a ≠ b → (fF_2 a).2.1 ≠ (fF_2 b).2.1 := by decide +kernel
theorem zk_3_l : ∀ k, k < 1 → u_lay "RequestGate$PlainPath" fF_3 k ∈ zz_ws
  | 0, _ => zw_84
  | n + 1, h => absurd h (by omega)
theorem zk_3_t : ∀ k, k < 1 → parseFieldDescriptor (fF_3 k).2.2.1 = some (zz_fty 3 k) := by decide +kernel
theorem zk_3_n : ∀ a, a < 1 → ∀ b, b < 1 → a ≠ b → (fF_3 a).2.1 ≠ (fF_3 b).2.1 := by decide +kernel
theorem zk_4_l : ∀ k, k < 2 → u_lay "RequestGate$Layer" fF_4 k ∈ zz_ws
  | 0, _ => zw_95
  | 1, _ => zw_97
  | n + 2, h => absurd h (by omega)
theorem zk_4_t : ∀ k, k < 2 → parseFieldDescriptor (fF_4 k).2.2.1 = some (zz_fty 4 k) := by decide +kernel
theorem zk_4_n : ∀ a, a < 2 → ∀ b, b < 2 → a ≠ b → (fF_4 a).2.1 ≠ (fF_4 b).2.1 := by decide +kernel
theorem zk_5_l : ∀ k, k < 3 → u_lay "RequestGate$Rule" fF_5 k ∈ zz_ws
  | 0, _ => zw_320
  | 1, _ => zw_322
  | 2, _ => zw_324
  | n + 3, h => absurd h (by omega)
theorem zk_5_t : ∀ k, k < 3 → parseFieldDescriptor (fF_5 k).2.2.1 = some (zz_fty 5 k) := by decide +kernel
theorem zk_5_n : ∀ a, a < 3 → ∀ b, b < 3 → a ≠ b → (fF_5 a).2.1 ≠ (fF_5 b).2.1 := by decide +kernel
theorem zk_6_l : ∀ k, k < 1 → u_lay "RequestGate$Roles" fF_6 k ∈ zz_ws
  | 0, _ => zw_130
  | n + 1, h => absurd h (by omega)
theorem zk_6_t : ∀ k, k < 1 → parseFieldDescriptor (fF_6 k).2.2.1 = some (zz_fty 6 k) := by decide +kernel
theorem zk_6_n : ∀ a, a < 1 → ∀ b, b < 1 → a ≠ b → (fF_6 a).2.1 ≠ (fF_6 b).2.1 := by decide +kernel
theorem zk_7_l : ∀ k, k < 5 → u_lay "RequestGate$Conditions" fF_7 k ∈ zz_ws
  | 0, _ => zw_112
  | 1, _ => zw_114
  | 2, _ => zw_116
  | 3, _ => zw_118
  | 4, _ => zw_120
  | n + 5, h => absurd h (by omega)
theorem zk_7_t : ∀ k, k < 5 → parseFieldDescriptor (fF_7 k).2.2.1 = some (zz_fty 7 k) := by decide +kernel
theorem zk_7_n : ∀ a, a < 5 → ∀ b, b < 5 → a ≠ b → (fF_7 a).2.1 ≠ (fF_7 b).2.1 := by decide +kernel
theorem zk_8_l : ∀ k, k < 6 → u_lay "RequestGate$User" fF_8 k ∈ zz_ws
  | 0, _ => zw_425
  | 1, _ => zw_427
  | 2, _ => zw_429
  | 3, _ => zw_431
  | 4, _ => zw_433
  | 5, _ => zw_435
  | n + 6, h => absurd h (by omega)
theorem zk_8_t : ∀ k, k < 6 → parseFieldDescriptor (fF_8 k).2.2.1 = some (zz_fty 8 k) := by decide +kernel
theorem zk_8_n : ∀ a, a < 6 → ∀ b, b < 6 → a ≠ b → (fF_8 a).2.1 ≠ (fF_8 b).2.1 := by decide +kernel
theorem zk_9_l : ∀ k, k < 6 → u_lay "RequestGate$Ticket" fF_9 k ∈ zz_ws
  | 0, _ => zw_589
  | 1, _ => zw_591
  | 2, _ => zw_593
  | 3, _ => zw_595
  | 4, _ => zw_597
  | 5, _ => zw_599
  | n + 6, h => absurd h (by omega)
theorem zk_9_t : ∀ k, k < 6 → parseFieldDescriptor (fF_9 k).2.2.1 = some (zz_fty 9 k) := by decide +kernel
theorem zk_9_n : ∀ a, a < 6 → ∀ b, b < 6 → a ≠ b → (fF_9 a).2.1 ≠ (fF_9 b).2.1 := by decide +kernel
theorem zk_10_l : ∀ k, k < 1 → u_lay "RequestGate$Tickets" fF_10 k ∈ zz_ws
  | 0, _ => zw_168
  | n + 1, h => absurd h (by omega)
theorem zk_10_t : ∀ k, k < 1 → parseFieldDescriptor (fF_10 k).2.2.1 = some (zz_fty 10 k) := by decide +kernel
theorem zk_10_n : ∀ a, a < 1 → ∀ b, b < 1 → a ≠ b → (fF_10 a).2.1 ≠ (fF_10 b).2.1 := by decide +kernel
theorem zk_11_l : ∀ k, k < 5 → u_lay "RequestGate$Service" fF_11 k ∈ zz_ws
  | 0, _ => zw_467
  | 1, _ => zw_469
  | 2, _ => zw_471
  | 3, _ => zw_473
  | 4, _ => zw_475
  | n + 5, h => absurd h (by omega)
theorem zk_11_t : ∀ k, k < 5 → parseFieldDescriptor (fF_11 k).2.2.1 = some (zz_fty 11 k) := by decide +kernel
theorem zk_11_n : ∀ a, a < 5 → ∀ b, b < 5 → a ≠ b → (fF_11 a).2.1 ≠ (fF_11 b).2.1 := by decide +kernel
theorem zk_12_l : ∀ k, k < 3 → u_lay "java/util/ArrayList" fF_12 k ∈ zz_ws
  | 0, _ => zw_152
  | 1, _ => zw_154
  | 2, _ => zw_156
  | n + 3, h => absurd h (by omega)
theorem zk_12_t : ∀ k, k < 3 → parseFieldDescriptor (fF_12 k).2.2.1 = some (zz_fty 12 k) := by decide +kernel
theorem zk_12_n : ∀ a, a < 3 → ∀ b, b < 3 → a ≠ b → (fF_12 a).2.1 ≠ (fF_12 b).2.1 := by decide +kernel
theorem zk_13_l : ∀ k, k < 56 → u_lay "RequestGateModel" fF_13 k ∈ zz_ws
  | 0, _ => zw_866
  | 1, _ => zw_868
  | 2, _ => zw_870
  | 3, _ => zw_872
  | 4, _ => zw_874
  | 5, _ => zw_876
  | 6, _ => zw_878
  | 7, _ => zw_880
  | 8, _ => zw_882
  | 9, _ => zw_884
  | 10, _ => zw_886
  | 11, _ => zw_888
  | 12, _ => zw_890
  | 13, _ => zw_892
  | 14, _ => zw_894
  | 15, _ => zw_896
  | 16, _ => zw_898
  | 17, _ => zw_900
  | 18, _ => zw_902
  | 19, _ => zw_904
  | 20, _ => zw_906
  | 21, _ => zw_908
  | 22, _ => zw_910
  | 23, _ => zw_912
  | 24, _ => zw_914
  | 25, _ => zw_916
  | 26, _ => zw_918
  | 27, _ => zw_920
  | 28, _ => zw_922
  | 29, _ => zw_924
  | 30, _ => zw_926
  | 31, _ => zw_928
  | 32, _ => zw_930
  | 33, _ => zw_932
  | 34, _ => zw_934
  | 35, _ => zw_936
  | 36, _ => zw_938
  | 37, _ => zw_940
  | 38, _ => zw_942
  | 39, _ => zw_944
  | 40, _ => zw_946
  | 41, _ => zw_948
  | 42, _ => zw_950
  | 43, _ => zw_952
  | 44, _ => zw_954
  | 45, _ => zw_956
  | 46, _ => zw_958
  | 47, _ => zw_960
  | 48, _ => zw_962
  | 49, _ => zw_964
  | 50, _ => zw_966
  | 51, _ => zw_968
  | 52, _ => zw_970
  | 53, _ => zw_972
  | 54, _ => zw_974
  | 55, _ => zw_976
  | n + 56, h => absurd h (by omega)
theorem zk_13_t : ∀ k, k < 56 → parseFieldDescriptor (fF_13 k).2.2.1 = some (zz_fty 13 k) := by decide +kernel
theorem zk_13_n : ∀ a, a < 56 → ∀ b, b < 56 → a ≠ b → (fF_13 a).2.1 ≠ (fF_13 b).2.1 := by decide +kernel
theorem zz_layin {C : String} {F : u_T} {N : Nat} (h : ∀ k, k < N → u_lay C F k ∈ zz_ws) : ∀ w ∈ u_ws C F N, w ∈ zz_ws := fun w hw => by
  obtain ⟨k, hk, rfl⟩ := List.mem_map.mp hw
  exact h k (List.mem_range.mp hk)
theorem zz_clok : ∀ {ci : Nat} {C : String} {F : u_T} {N : Nat}, zz_cl[ci]? = some (C, F, N) → (∀ w ∈ u_ws C F N, w ∈ zz_ws) ∧ (∀ k, k < N → parseFieldDescriptor (F k).2.2.1 = some (zz_fty ci k)) ∧ (∀ a, a < N → ∀ b, b < N → a ≠ b → (F a).2.1 ≠ (F b).2.1)
  | 0, _, _, _, h => by cases h; exact ⟨zz_layin zk_0_l, zk_0_t, zk_0_n⟩
  | 1, _, _, _, h => by cases h; exact ⟨zz_layin zk_1_l, zk_1_t, zk_1_n⟩
  | 2, _, _, _, h => by cases h; exact ⟨zz_layin zk_2_l, zk_2_t, zk_2_n⟩
  | 3, _, _, _, h => by cases h; exact ⟨zz_layin zk_3_l, zk_3_t, zk_3_n⟩
  | 4, _, _, _, h => by cases h; exact ⟨zz_layin zk_4_l, zk_4_t, zk_4_n⟩
  | 5, _, _, _, h => by cases h; exact ⟨zz_layin zk_5_l, zk_5_t, zk_5_n⟩
  | 6, _, _, _, h => by cases h; exact ⟨zz_layin zk_6_l, zk_6_t, zk_6_n⟩
  | 7, _, _, _, h => by cases h; exact ⟨zz_layin zk_7_l, zk_7_t, zk_7_n⟩
  | 8, _, _, _, h => by cases h; exact ⟨zz_layin zk_8_l, zk_8_t, zk_8_n⟩
  | 9, _, _, _, h => by cases h; exact ⟨zz_layin zk_9_l, zk_9_t, zk_9_n⟩
  | 10, _, _, _, h => by cases h; exact ⟨zz_layin zk_10_l, zk_10_t, zk_10_n⟩
  | 11, _, _, _, h => by cases h; exact ⟨zz_layin zk_11_l, zk_11_t, zk_11_n⟩
  | 12, _, _, _, h => by cases h; exact ⟨zz_layin zk_12_l, zk_12_t, zk_12_n⟩
  | 13, _, _, _, h => by cases h; exact ⟨zz_layin zk_13_l, zk_13_t, zk_13_n⟩
  | n + 14, _, _, _, h => by cases h
