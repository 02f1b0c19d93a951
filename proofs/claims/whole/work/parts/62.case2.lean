section
variable {x : gm_Cx} {G : Gm} {b L i B : Nat} {xs : Nat → Int32}
theorem gl_c22 (C : gm_X x cL_law 4 RL (some .boolean) 10) (S : gl_S x b L xs) (hi : i + 4 ≤ L) (hB : B + 1000000 < 2147483647) (hW : WI B G) (K : ∀ G2, WI (B + 500000) G2 → gm_V x G2 1155 (gl_lv x b i) []) : gm_V x G 892 (gl_lv x b i) [] := by
  obtain ⟨v, e6, e7, hW2⟩ := w_22 hB hW (xs (i + 1)) (xs (i + 2))
  refine gv_aload_n C rfl 2 rfl dL_law_892 893 rfl ?_
  refine gl_arg C S 1 (by decide +kernel) (by omega) dL_law_893 dL_law_894 dL_law_895 dL_law_896 dL_law_897 898 rfl ?_
  refine gl_arg C S 2 (by decide +kernel) (by omega) dL_law_898 dL_law_899 dL_law_900 dL_law_901 dL_law_902 903 rfl ?_
  refine gv_callVi (v := v) C mc_yX6_rung ⟨mi_yX6_rung, me_yX6_rung⟩ (by decide) mkL_105 gi_6 ⟨_, rfl⟩ rfl rfl (kX6_rung (cx_w x) _ _  G v e6) rfl rfl (Nat.le_of_ble_eq_true rfl) dL_law_903 906 rfl ?_
  refine gv_aload_n C rfl 1 rfl dL_law_906 907 rfl ?_
  refine gl_arg C S 1 (by decide +kernel) (by omega) dL_law_907 dL_law_908 dL_law_909 dL_law_910 dL_law_911 912 rfl ?_
  refine gl_arg C S 2 (by decide +kernel) (by omega) dL_law_912 dL_law_913 dL_law_914 dL_law_915 dL_law_916 917 rfl ?_
  refine gv_callVi (v := v) C mc_yX7_rung ⟨mi_yX7_rung, me_yX7_rung⟩ (by decide) mkL_108 gi_7 ⟨_, rfl⟩ rfl rfl (kX7_rung (cx_w x) _ _  G v e7) rfl rfl (Nat.le_of_ble_eq_true rfl) dL_law_917 920 rfl ?_
  exact gv_icmp_eq C dL_law_920 1155 (by decide) 923 rfl (fun _ => K G hW2) (fun c => absurd rfl c)
theorem gl_c23 (C : gm_X x cL_law 4 RL (some .boolean) 10) (S : gl_S x b L xs) (hi : i + 4 ≤ L) (hB : B + 1000000 < 2147483647) (hW : WI B G) (K : ∀ G2, WI (B + 500000) G2 → gm_V x G2 1155 (gl_lv x b i) []) : gm_V x G 925 (gl_lv x b i) [] := by
  obtain ⟨v, G1, G2, e6, e7, hW2⟩ := w_23 hB hW (xs (i + 1))
  refine gv_aload_n C rfl 2 rfl dL_law_925 926 rfl ?_
  refine gl_arg C S 1 (by decide +kernel) (by omega) dL_law_926 dL_law_927 dL_law_928 dL_law_929 dL_law_930 931 rfl ?_
  refine gv_callVi (v := v) C mc_yX6_work ⟨mi_yX6_work, me_yX6_work⟩ (by decide) mkL_109 gi_6 ⟨_, rfl⟩ rfl rfl (kX6_work (cx_w x) _  G (v, G1) e6) rfl rfl (Nat.le_of_ble_eq_true rfl) dL_law_931 934 rfl ?_
  refine gv_aload_n C rfl 1 rfl dL_law_934 935 rfl ?_
  refine gl_arg C S 1 (by decide +kernel) (by omega) dL_law_935 dL_law_936 dL_law_937 dL_law_938 dL_law_939 940 rfl ?_
  refine gv_callVi (v := v) C mc_yX7_work ⟨mi_yX7_work, me_yX7_work⟩ (by decide) mkL_112 gi_7 ⟨_, rfl⟩ rfl rfl (kX7_work (cx_w x) _  G1 (v, G2) e7) rfl rfl (Nat.le_of_ble_eq_true rfl) dL_law_940 943 rfl ?_
  exact gv_icmp_eq C dL_law_943 1155 (by decide) 946 rfl (fun _ => K G2 hW2) (fun c => absurd rfl c)
theorem gl_c24 (C : gm_X x cL_law 4 RL (some .boolean) 10) (S : gl_S x b L xs) (hi : i + 4 ≤ L) (hB : B + 1000000 < 2147483647) (hW : WI B G) (K : ∀ G2, WI (B + 500000) G2 → gm_V x G2 1155 (gl_lv x b i) []) : gm_V x G 948 (gl_lv x b i) [] := by
  obtain ⟨v, G1, G2, e6, e7, hW2⟩ := w_24 hB hW (xs (i + 1)) (xs (i + 2))
  refine gv_aload_n C rfl 2 rfl dL_law_948 949 rfl ?_
  refine gl_arg C S 1 (by decide +kernel) (by omega) dL_law_949 dL_law_950 dL_law_951 dL_law_952 dL_law_953 954 rfl ?_
  refine gl_arg C S 2 (by decide +kernel) (by omega) dL_law_954 dL_law_955 dL_law_956 dL_law_957 dL_law_958 959 rfl ?_
  refine gv_callVi (v := v) C mc_yX6_forecast ⟨mi_yX6_forecast, me_yX6_forecast⟩ (by decide) mkL_113 gi_6 ⟨_, rfl⟩ rfl rfl (kX6_forecast (cx_w x) _ _  G (v, G1) e6) rfl rfl (Nat.le_of_ble_eq_true rfl) dL_law_959 962 rfl ?_
  refine gv_aload_n C rfl 1 rfl dL_law_962 963 rfl ?_
  refine gl_arg C S 1 (by decide +kernel) (by omega) dL_law_963 dL_law_964 dL_law_965 dL_law_966 dL_law_967 968 rfl ?_
  refine gl_arg C S 2 (by decide +kernel) (by omega) dL_law_968 dL_law_969 dL_law_970 dL_law_971 dL_law_972 973 rfl ?_
  refine gv_callVi (v := v) C mc_yX7_forecast ⟨mi_yX7_forecast, me_yX7_forecast⟩ (by decide) mkL_116 gi_7 ⟨_, rfl⟩ rfl rfl (kX7_forecast (cx_w x) _ _  G1 (v, G2) e7) rfl rfl (Nat.le_of_ble_eq_true rfl) dL_law_973 976 rfl ?_
  exact gv_icmp_eq C dL_law_976 1155 (by decide) 979 rfl (fun _ => K G2 hW2) (fun c => absurd rfl c)
theorem gl_c25 (C : gm_X x cL_law 4 RL (some .boolean) 10) (S : gl_S x b L xs) (hi : i + 4 ≤ L) (hB : B + 1000000 < 2147483647) (hW : WI B G) (K : ∀ G2, WI (B + 500000) G2 → gm_V x G2 1155 (gl_lv x b i) []) : gm_V x G 981 (gl_lv x b i) [] := by
  obtain ⟨v, G1, G2, e6, e7, hW2⟩ := w_25 hB hW (xs (i + 1)) (xs (i + 2)) (xs (i + 3))
  refine gv_aload_n C rfl 2 rfl dL_law_981 982 rfl ?_
  refine gl_arg C S 1 (by decide +kernel) (by omega) dL_law_982 dL_law_983 dL_law_984 dL_law_985 dL_law_986 987 rfl ?_
  refine gl_arg C S 2 (by decide +kernel) (by omega) dL_law_987 dL_law_988 dL_law_989 dL_law_990 dL_law_991 992 rfl ?_
  refine gl_arg C S 3 (by decide +kernel) (by omega) dL_law_992 dL_law_993 dL_law_994 dL_law_995 dL_law_996 997 rfl ?_
  refine gv_callVi (v := v) C mc_yX6_capacity ⟨mi_yX6_capacity, me_yX6_capacity⟩ (by decide) mkL_117 gi_6 ⟨_, rfl⟩ rfl rfl (kX6_capacity (cx_w x) _ _ _  G (v, G1) e6) rfl rfl (Nat.le_of_ble_eq_true rfl) dL_law_997 1000 rfl ?_
  refine gv_aload_n C rfl 1 rfl dL_law_1000 1001 rfl ?_
  refine gl_arg C S 1 (by decide +kernel) (by omega) dL_law_1001 dL_law_1002 dL_law_1003 dL_law_1004 dL_law_1005 1006 rfl ?_
  refine gl_arg C S 2 (by decide +kernel) (by omega) dL_law_1006 dL_law_1007 dL_law_1008 dL_law_1009 dL_law_1010 1011 rfl ?_
  refine gl_arg C S 3 (by decide +kernel) (by omega) dL_law_1011 dL_law_1012 dL_law_1013 dL_law_1014 dL_law_1015 1016 rfl ?_
  refine gv_callVi (v := v) C mc_yX7_capacity ⟨mi_yX7_capacity, me_yX7_capacity⟩ (by decide) mkL_120 gi_7 ⟨_, rfl⟩ rfl rfl (kX7_capacity (cx_w x) _ _ _  G1 (v, G2) e7) rfl rfl (Nat.le_of_ble_eq_true rfl) dL_law_1016 1019 rfl ?_
  exact gv_icmp_eq C dL_law_1019 1155 (by decide) 1022 rfl (fun _ => K G2 hW2) (fun c => absurd rfl c)
theorem gl_c26 (C : gm_X x cL_law 4 RL (some .boolean) 10) (S : gl_S x b L xs) (hi : i + 4 ≤ L) (hB : B + 1000000 < 2147483647) (hW : WI B G) (K : ∀ G2, WI (B + 500000) G2 → gm_V x G2 1155 (gl_lv x b i) []) : gm_V x G 1024 (gl_lv x b i) [] := by
  obtain ⟨v, G1, G2, e6, e7, hW2⟩ := wi_say hW (xs (i + 1))
  refine gv_aload_n C rfl 2 rfl dL_law_1024 1025 rfl ?_
  refine gl_arg C S 1 (by decide +kernel) (by omega) dL_law_1025 dL_law_1026 dL_law_1027 dL_law_1028 dL_law_1029 1030 rfl ?_
  refine gv_callVi (v := v) C mc_yX6_say ⟨mi_yX6_say, me_yX6_say⟩ (by decide) mkL_121 gi_6 ⟨_, rfl⟩ rfl rfl (kX6_say (cx_w x) _  G (v, G1) e6) rfl rfl (Nat.le_of_ble_eq_true rfl) dL_law_1030 1033 rfl ?_
  refine gv_aload_n C rfl 1 rfl dL_law_1033 1034 rfl ?_
  refine gl_arg C S 1 (by decide +kernel) (by omega) dL_law_1034 dL_law_1035 dL_law_1036 dL_law_1037 dL_law_1038 1039 rfl ?_
  refine gv_callVi (v := v) C mc_yX7_say ⟨mi_yX7_say, me_yX7_say⟩ (by decide) mkL_124 gi_7 ⟨_, rfl⟩ rfl rfl (kX7_say (cx_w x) _  G1 (v, G2) e7) rfl rfl (Nat.le_of_ble_eq_true rfl) dL_law_1039 1042 rfl ?_
  exact gv_icmp_eq C dL_law_1042 1155 (by decide) 1045 rfl (fun _ => K G2 hW2) (fun c => absurd rfl c)
theorem gl_c27 (C : gm_X x cL_law 4 RL (some .boolean) 10) (S : gl_S x b L xs) (hi : i + 4 ≤ L) (hB : B + 1000000 < 2147483647) (hW : WI B G) (K : ∀ G2, WI (B + 500000) G2 → gm_V x G2 1155 (gl_lv x b i) []) : gm_V x G 1047 (gl_lv x b i) [] := by
  obtain ⟨v, G1, G2, e6, e7, hW2⟩ := wi_wipe hW 
  refine gv_aload_n C rfl 2 rfl dL_law_1047 1048 rfl ?_
  refine gv_callVi (v := v) C mc_yX6_wipe ⟨mi_yX6_wipe, me_yX6_wipe⟩ (by decide) mkL_125 gi_6 ⟨_, rfl⟩ rfl rfl (kX6_wipe (cx_w x)  G (v, G1) e6) rfl rfl (Nat.le_of_ble_eq_true rfl) dL_law_1048 1051 rfl ?_
  refine gv_aload_n C rfl 1 rfl dL_law_1051 1052 rfl ?_
  refine gv_callVi (v := v) C mc_yX7_wipe ⟨mi_yX7_wipe, me_yX7_wipe⟩ (by decide) mkL_129 gi_7 ⟨_, rfl⟩ rfl rfl (kX7_wipe (cx_w x)  G1 (v, G2) e7) rfl rfl (Nat.le_of_ble_eq_true rfl) dL_law_1052 1055 rfl ?_
  exact gv_icmp_eq C dL_law_1055 1155 (by decide) 1058 rfl (fun _ => K G2 hW2) (fun c => absurd rfl c)
theorem gl_c28 (C : gm_X x cL_law 4 RL (some .boolean) 10) (S : gl_S x b L xs) (hi : i + 4 ≤ L) (hB : B + 1000000 < 2147483647) (hW : WI B G) (K : ∀ G2, WI (B + 500000) G2 → gm_V x G2 1155 (gl_lv x b i) []) : gm_V x G 1060 (gl_lv x b i) [] := by
  obtain ⟨v, G2, e6, e7, hW2⟩ := wi_fault hW 
  refine gv_aload_n C rfl 2 rfl dL_law_1060 1061 rfl ?_
  refine gv_callVi (v := v) C mc_yX6_fault ⟨mi_yX6_fault, me_yX6_fault⟩ (by decide) mkL_130 gi_6 ⟨_, rfl⟩ rfl rfl (kX6_fault (cx_w x) G v e6) rfl rfl (Nat.le_of_ble_eq_true rfl) dL_law_1061 1064 rfl ?_
  refine gv_aload_n C rfl 1 rfl dL_law_1064 1065 rfl ?_
  refine gv_callVi (v := v) C mc_yX7_fault ⟨mi_yX7_fault, me_yX7_fault⟩ (by decide) mkL_133 gi_7 ⟨_, rfl⟩ rfl rfl (kX7_fault (cx_w x) G (v, G2) e7) rfl rfl (Nat.le_of_ble_eq_true rfl) dL_law_1065 1068 rfl ?_
  exact gv_icmp_eq C dL_law_1068 1155 (by decide) 1071 rfl (fun _ => K G2 hW2) (fun c => absurd rfl c)
theorem gl_c29 (C : gm_X x cL_law 4 RL (some .boolean) 10) (S : gl_S x b L xs) (hi : i + 4 ≤ L) (hB : B + 1000000 < 2147483647) (hW : WI B G) (K : ∀ G2, WI (B + 500000) G2 → gm_V x G2 1155 (gl_lv x b i) []) : gm_V x G 1073 (gl_lv x b i) [] := by
  obtain ⟨v, G1, G2, e6, e7, hW2⟩ := wi_carry hB hW 
  refine gv_aload_n C rfl 2 rfl dL_law_1073 1074 rfl ?_
  refine gv_callVi (v := v) C mc_yX6_carryOut ⟨mi_yX6_carryOut, me_yX6_carryOut⟩ (by decide) mkL_134 gi_6 ⟨_, rfl⟩ rfl rfl (kX6_carryOut (cx_w x)  G (v, G1) e6) rfl rfl (Nat.le_of_ble_eq_true rfl) dL_law_1074 1077 rfl ?_
  refine gv_aload_n C rfl 1 rfl dL_law_1077 1078 rfl ?_
  refine gv_callVi (v := v) C mc_yX7_carryOut ⟨mi_yX7_carryOut, me_yX7_carryOut⟩ (by decide) mkL_137 gi_7 ⟨_, rfl⟩ rfl rfl (kX7_carryOut (cx_w x)  G1 (v, G2) e7) rfl rfl (Nat.le_of_ble_eq_true rfl) dL_law_1078 1081 rfl ?_
  exact gv_icmp_eq C dL_law_1081 1155 (by decide) 1084 rfl (fun _ => K G2 hW2) (fun c => absurd rfl c)
theorem gl_c30 (C : gm_X x cL_law 4 RL (some .boolean) 10) (S : gl_S x b L xs) (hi : i + 4 ≤ L) (hB : B + 1000000 < 2147483647) (hW : WI B G) (K : ∀ G2, WI (B + 500000) G2 → gm_V x G2 1155 (gl_lv x b i) []) : gm_V x G 1086 (gl_lv x b i) [] := by
  obtain ⟨v, e6, e7, hW2⟩ := wi_count hW (xs (i + 1))
  refine gv_aload_n C rfl 2 rfl dL_law_1086 1087 rfl ?_
  refine gl_arg C S 1 (by decide +kernel) (by omega) dL_law_1087 dL_law_1088 dL_law_1089 dL_law_1090 dL_law_1091 1092 rfl ?_
  refine gv_callVi (v := v) C mc_yX6_count ⟨mi_yX6_count, me_yX6_count⟩ (by decide) mkL_138 gi_6 ⟨_, rfl⟩ rfl rfl (kX6_count (cx_w x) _  G v e6) rfl rfl (Nat.le_of_ble_eq_true rfl) dL_law_1092 1095 rfl ?_
  refine gv_aload_n C rfl 1 rfl dL_law_1095 1096 rfl ?_
  refine gl_arg C S 1 (by decide +kernel) (by omega) dL_law_1096 dL_law_1097 dL_law_1098 dL_law_1099 dL_law_1100 1101 rfl ?_
  refine gv_callVi (v := v) C mc_yX7_count ⟨mi_yX7_count, me_yX7_count⟩ (by decide) mkL_141 gi_7 ⟨_, rfl⟩ rfl rfl (kX7_count (cx_w x) _  G v e7) rfl rfl (Nat.le_of_ble_eq_true rfl) dL_law_1101 1104 rfl ?_
  exact gv_icmp_eq C dL_law_1104 1155 (by decide) 1107 rfl (fun _ => K G hW2) (fun c => absurd rfl c)
theorem gl_c31 (C : gm_X x cL_law 4 RL (some .boolean) 10) (S : gl_S x b L xs) (hi : i + 4 ≤ L) (hB : B + 1000000 < 2147483647) (hW : WI B G) (K : ∀ G2, WI (B + 500000) G2 → gm_V x G2 1155 (gl_lv x b i) []) : gm_V x G 1109 (gl_lv x b i) [] := by
  obtain ⟨v, G1, G2, e6, e7, hW2⟩ := wi_save hW (xs (i + 1))
  refine gv_aload_n C rfl 2 rfl dL_law_1109 1110 rfl ?_
  refine gl_arg C S 1 (by decide +kernel) (by omega) dL_law_1110 dL_law_1111 dL_law_1112 dL_law_1113 dL_law_1114 1115 rfl ?_
  refine gv_callVi (v := v) C mc_yX6_save ⟨mi_yX6_save, me_yX6_save⟩ (by decide) mkL_142 gi_6 ⟨_, rfl⟩ rfl rfl (kX6_save (cx_w x) _  G (v, G1) e6) rfl rfl (Nat.le_of_ble_eq_true rfl) dL_law_1115 1118 rfl ?_
  refine gv_aload_n C rfl 1 rfl dL_law_1118 1119 rfl ?_
  refine gl_arg C S 1 (by decide +kernel) (by omega) dL_law_1119 dL_law_1120 dL_law_1121 dL_law_1122 dL_law_1123 1124 rfl ?_
  refine gv_callVi (v := v) C mc_yX7_save ⟨mi_yX7_save, me_yX7_save⟩ (by decide) mkL_145 gi_7 ⟨_, rfl⟩ rfl rfl (kX7_save (cx_w x) _  G1 (v, G2) e7) rfl rfl (Nat.le_of_ble_eq_true rfl) dL_law_1124 1127 rfl ?_
  exact gv_icmp_eq C dL_law_1127 1155 (by decide) 1130 rfl (fun _ => K G2 hW2) (fun c => absurd rfl c)
theorem gl_c32 (C : gm_X x cL_law 4 RL (some .boolean) 10) (S : gl_S x b L xs) (hi : i + 4 ≤ L) (hB : B + 1000000 < 2147483647) (hW : WI B G) (K : ∀ G2, WI (B + 500000) G2 → gm_V x G2 1155 (gl_lv x b i) []) : gm_V x G 1132 (gl_lv x b i) [] := by
  obtain ⟨v, G1, G2, e6, e7, hW2⟩ := wi_restore hW (xs (i + 1))
  refine gv_aload_n C rfl 2 rfl dL_law_1132 1133 rfl ?_
  refine gl_arg C S 1 (by decide +kernel) (by omega) dL_law_1133 dL_law_1134 dL_law_1135 dL_law_1136 dL_law_1137 1138 rfl ?_
  refine gv_callVi (v := v) C mc_yX6_restore ⟨mi_yX6_restore, me_yX6_restore⟩ (by decide) mkL_146 gi_6 ⟨_, rfl⟩ rfl rfl (kX6_restore (cx_w x) _  G (v, G1) e6) rfl rfl (Nat.le_of_ble_eq_true rfl) dL_law_1138 1141 rfl ?_
  refine gv_aload_n C rfl 1 rfl dL_law_1141 1142 rfl ?_
  refine gl_arg C S 1 (by decide +kernel) (by omega) dL_law_1142 dL_law_1143 dL_law_1144 dL_law_1145 dL_law_1146 1147 rfl ?_
  refine gv_callVi (v := v) C mc_yX7_restore ⟨mi_yX7_restore, me_yX7_restore⟩ (by decide) mkL_149 gi_7 ⟨_, rfl⟩ rfl rfl (kX7_restore (cx_w x) _  G1 (v, G2) e7) rfl rfl (Nat.le_of_ble_eq_true rfl) dL_law_1147 1150 rfl ?_
  exact gv_icmp_eq C dL_law_1150 1155 (by decide) 1153 rfl (fun _ => K G2 hW2) (fun c => absurd rfl c)
end
