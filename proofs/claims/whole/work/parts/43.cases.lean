theorem dL_law_942 : decode cL_law 942 = .ok (.aload_n 1, 1) := by decide +kernel
theorem dL_law_943 : decode cL_law 943 = .ok (.aload_n 0, 1) := by decide +kernel
theorem dL_law_944 : decode cL_law 944 = .ok (.iload 4, 2) := by decide +kernel
theorem dL_law_946 : decode cL_law 946 = .ok (.iconst 1, 1) := by decide +kernel
theorem dL_law_947 : decode cL_law 947 = .ok (.iadd, 1) := by decide +kernel
theorem dL_law_948 : decode cL_law 948 = .ok (.iaload, 1) := by decide +kernel
theorem dL_law_949 : decode cL_law 949 = .ok (.aload_n 0, 1) := by decide +kernel
theorem dL_law_950 : decode cL_law 950 = .ok (.iload 4, 2) := by decide +kernel
theorem dL_law_952 : decode cL_law 952 = .ok (.iconst 2, 1) := by decide +kernel
theorem dL_law_953 : decode cL_law 953 = .ok (.iadd, 1) := by decide +kernel
theorem dL_law_954 : decode cL_law 954 = .ok (.iaload, 1) := by decide +kernel
theorem dL_law_955 : decode cL_law 955 = .ok (.invokevirtual 112, 3) := by decide +kernel
theorem dL_law_958 : decode cL_law 958 = .ok (.aload_n 2, 1) := by decide +kernel
theorem dL_law_959 : decode cL_law 959 = .ok (.aload_n 0, 1) := by decide +kernel
theorem dL_law_960 : decode cL_law 960 = .ok (.iload 4, 2) := by decide +kernel
theorem dL_law_962 : decode cL_law 962 = .ok (.iconst 1, 1) := by decide +kernel
theorem dL_law_963 : decode cL_law 963 = .ok (.iadd, 1) := by decide +kernel
theorem dL_law_964 : decode cL_law 964 = .ok (.iaload, 1) := by decide +kernel
theorem dL_law_965 : decode cL_law 965 = .ok (.aload_n 0, 1) := by decide +kernel
theorem dL_law_966 : decode cL_law 966 = .ok (.iload 4, 2) := by decide +kernel
theorem dL_law_968 : decode cL_law 968 = .ok (.iconst 2, 1) := by decide +kernel
theorem dL_law_969 : decode cL_law 969 = .ok (.iadd, 1) := by decide +kernel
theorem dL_law_970 : decode cL_law 970 = .ok (.iaload, 1) := by decide +kernel
theorem dL_law_971 : decode cL_law 971 = .ok (.invokevirtual 115, 3) := by decide +kernel
theorem dL_law_974 : decode cL_law 974 = .ok (.if_icmp .eq 641, 3) := by decide +kernel
theorem dL_law_979 : decode cL_law 979 = .ok (.aload_n 1, 1) := by decide +kernel
theorem dL_law_980 : decode cL_law 980 = .ok (.invokevirtual 116, 3) := by decide +kernel
theorem dL_law_983 : decode cL_law 983 = .ok (.aload_n 2, 1) := by decide +kernel
theorem dL_law_984 : decode cL_law 984 = .ok (.invokevirtual 119, 3) := by decide +kernel
theorem dL_law_987 : decode cL_law 987 = .ok (.if_icmp .eq 628, 3) := by decide +kernel
theorem dL_law_992 : decode cL_law 992 = .ok (.aload_n 1, 1) := by decide +kernel
theorem dL_law_993 : decode cL_law 993 = .ok (.aload_n 0, 1) := by decide +kernel
theorem dL_law_994 : decode cL_law 994 = .ok (.iload 4, 2) := by decide +kernel
theorem dL_law_996 : decode cL_law 996 = .ok (.iconst 1, 1) := by decide +kernel
theorem dL_law_997 : decode cL_law 997 = .ok (.iadd, 1) := by decide +kernel
theorem dL_law_998 : decode cL_law 998 = .ok (.iaload, 1) := by decide +kernel
theorem dL_law_999 : decode cL_law 999 = .ok (.aload_n 0, 1) := by decide +kernel
theorem dL_law_1000 : decode cL_law 1000 = .ok (.iload 4, 2) := by decide +kernel
theorem dL_law_1002 : decode cL_law 1002 = .ok (.iconst 2, 1) := by decide +kernel
theorem dL_law_1003 : decode cL_law 1003 = .ok (.iadd, 1) := by decide +kernel
theorem dL_law_1004 : decode cL_law 1004 = .ok (.iaload, 1) := by decide +kernel
theorem dL_law_1005 : decode cL_law 1005 = .ok (.aload_n 0, 1) := by decide +kernel
theorem dL_law_1006 : decode cL_law 1006 = .ok (.iload 4, 2) := by decide +kernel
theorem dL_law_1008 : decode cL_law 1008 = .ok (.iconst 3, 1) := by decide +kernel
theorem dL_law_1009 : decode cL_law 1009 = .ok (.iadd, 1) := by decide +kernel
theorem dL_law_1010 : decode cL_law 1010 = .ok (.iaload, 1) := by decide +kernel
theorem dL_law_1011 : decode cL_law 1011 = .ok (.invokevirtual 120, 3) := by decide +kernel
theorem dL_law_1014 : decode cL_law 1014 = .ok (.aload_n 2, 1) := by decide +kernel
theorem dL_law_1015 : decode cL_law 1015 = .ok (.aload_n 0, 1) := by decide +kernel
theorem dL_law_1016 : decode cL_law 1016 = .ok (.iload 4, 2) := by decide +kernel
theorem dL_law_1018 : decode cL_law 1018 = .ok (.iconst 1, 1) := by decide +kernel
theorem dL_law_1019 : decode cL_law 1019 = .ok (.iadd, 1) := by decide +kernel
theorem dL_law_1020 : decode cL_law 1020 = .ok (.iaload, 1) := by decide +kernel
theorem dL_law_1021 : decode cL_law 1021 = .ok (.aload_n 0, 1) := by decide +kernel
theorem dL_law_1022 : decode cL_law 1022 = .ok (.iload 4, 2) := by decide +kernel
theorem dL_law_1024 : decode cL_law 1024 = .ok (.iconst 2, 1) := by decide +kernel
theorem dL_law_1025 : decode cL_law 1025 = .ok (.iadd, 1) := by decide +kernel
theorem dL_law_1026 : decode cL_law 1026 = .ok (.iaload, 1) := by decide +kernel
theorem dL_law_1027 : decode cL_law 1027 = .ok (.aload_n 0, 1) := by decide +kernel
theorem dL_law_1028 : decode cL_law 1028 = .ok (.iload 4, 2) := by decide +kernel
theorem dL_law_1030 : decode cL_law 1030 = .ok (.iconst 3, 1) := by decide +kernel
theorem dL_law_1031 : decode cL_law 1031 = .ok (.iadd, 1) := by decide +kernel
theorem dL_law_1032 : decode cL_law 1032 = .ok (.iaload, 1) := by decide +kernel
theorem dL_law_1033 : decode cL_law 1033 = .ok (.invokevirtual 123, 3) := by decide +kernel
theorem dL_law_1036 : decode cL_law 1036 = .ok (.if_icmp .eq 579, 3) := by decide +kernel
theorem dL_law_1041 : decode cL_law 1041 = .ok (.aload_n 1, 1) := by decide +kernel
theorem dL_law_1042 : decode cL_law 1042 = .ok (.invokevirtual 124, 3) := by decide +kernel
theorem dL_law_1045 : decode cL_law 1045 = .ok (.aload_n 2, 1) := by decide +kernel
theorem dL_law_1046 : decode cL_law 1046 = .ok (.invokevirtual 127, 3) := by decide +kernel
theorem dL_law_1049 : decode cL_law 1049 = .ok (.if_icmp .eq 566, 3) := by decide +kernel
theorem dL_law_1054 : decode cL_law 1054 = .ok (.aload_n 1, 1) := by decide +kernel
theorem dL_law_1055 : decode cL_law 1055 = .ok (.invokevirtual 128, 3) := by decide +kernel
theorem dL_law_1058 : decode cL_law 1058 = .ok (.aload_n 2, 1) := by decide +kernel
theorem dL_law_1059 : decode cL_law 1059 = .ok (.invokevirtual 131, 3) := by decide +kernel
theorem dL_law_1062 : decode cL_law 1062 = .ok (.if_icmp .eq 553, 3) := by decide +kernel
theorem dL_law_1067 : decode cL_law 1067 = .ok (.aload_n 1, 1) := by decide +kernel
theorem dL_law_1068 : decode cL_law 1068 = .ok (.invokevirtual 132, 3) := by decide +kernel
theorem dL_law_1071 : decode cL_law 1071 = .ok (.aload_n 2, 1) := by decide +kernel
theorem dL_law_1072 : decode cL_law 1072 = .ok (.invokevirtual 135, 3) := by decide +kernel
theorem dL_law_1075 : decode cL_law 1075 = .ok (.if_icmp .eq 540, 3) := by decide +kernel
theorem dL_law_1080 : decode cL_law 1080 = .ok (.aload_n 1, 1) := by decide +kernel
theorem dL_law_1081 : decode cL_law 1081 = .ok (.aload_n 0, 1) := by decide +kernel
theorem dL_law_1082 : decode cL_law 1082 = .ok (.iload 4, 2) := by decide +kernel
theorem dL_law_1084 : decode cL_law 1084 = .ok (.iconst 1, 1) := by decide +kernel
theorem dL_law_1085 : decode cL_law 1085 = .ok (.iadd, 1) := by decide +kernel
theorem dL_law_1086 : decode cL_law 1086 = .ok (.iaload, 1) := by decide +kernel
theorem dL_law_1087 : decode cL_law 1087 = .ok (.aload_n 0, 1) := by decide +kernel
theorem dL_law_1088 : decode cL_law 1088 = .ok (.iload 4, 2) := by decide +kernel
theorem dL_law_1090 : decode cL_law 1090 = .ok (.iconst 2, 1) := by decide +kernel
theorem dL_law_1091 : decode cL_law 1091 = .ok (.iadd, 1) := by decide +kernel
theorem dL_law_1092 : decode cL_law 1092 = .ok (.iaload, 1) := by decide +kernel
theorem dL_law_1093 : decode cL_law 1093 = .ok (.aload_n 0, 1) := by decide +kernel
theorem dL_law_1094 : decode cL_law 1094 = .ok (.iload 4, 2) := by decide +kernel
theorem dL_law_1096 : decode cL_law 1096 = .ok (.iconst 3, 1) := by decide +kernel
theorem dL_law_1097 : decode cL_law 1097 = .ok (.iadd, 1) := by decide +kernel
theorem dL_law_1098 : decode cL_law 1098 = .ok (.iaload, 1) := by decide +kernel
theorem dL_law_1099 : decode cL_law 1099 = .ok (.invokevirtual 136, 3) := by decide +kernel
theorem dL_law_1102 : decode cL_law 1102 = .ok (.aload_n 2, 1) := by decide +kernel
theorem dL_law_1103 : decode cL_law 1103 = .ok (.aload_n 0, 1) := by decide +kernel
theorem dL_law_1104 : decode cL_law 1104 = .ok (.iload 4, 2) := by decide +kernel
theorem dL_law_1106 : decode cL_law 1106 = .ok (.iconst 1, 1) := by decide +kernel
theorem dL_law_1107 : decode cL_law 1107 = .ok (.iadd, 1) := by decide +kernel
theorem dL_law_1108 : decode cL_law 1108 = .ok (.iaload, 1) := by decide +kernel
theorem dL_law_1109 : decode cL_law 1109 = .ok (.aload_n 0, 1) := by decide +kernel
theorem dL_law_1110 : decode cL_law 1110 = .ok (.iload 4, 2) := by decide +kernel
theorem dL_law_1112 : decode cL_law 1112 = .ok (.iconst 2, 1) := by decide +kernel
theorem dL_law_1113 : decode cL_law 1113 = .ok (.iadd, 1) := by decide +kernel
theorem dL_law_1114 : decode cL_law 1114 = .ok (.iaload, 1) := by decide +kernel
theorem dL_law_1115 : decode cL_law 1115 = .ok (.aload_n 0, 1) := by decide +kernel
theorem dL_law_1116 : decode cL_law 1116 = .ok (.iload 4, 2) := by decide +kernel
theorem dL_law_1118 : decode cL_law 1118 = .ok (.iconst 3, 1) := by decide +kernel
theorem dL_law_1119 : decode cL_law 1119 = .ok (.iadd, 1) := by decide +kernel
theorem dL_law_1120 : decode cL_law 1120 = .ok (.iaload, 1) := by decide +kernel
theorem dL_law_1121 : decode cL_law 1121 = .ok (.invokevirtual 139, 3) := by decide +kernel
theorem dL_law_1124 : decode cL_law 1124 = .ok (.if_icmp .eq 491, 3) := by decide +kernel
theorem dL_law_1129 : decode cL_law 1129 = .ok (.aload_n 1, 1) := by decide +kernel
theorem dL_law_1130 : decode cL_law 1130 = .ok (.aload_n 0, 1) := by decide +kernel
theorem dL_law_1131 : decode cL_law 1131 = .ok (.iload 4, 2) := by decide +kernel
theorem dL_law_1133 : decode cL_law 1133 = .ok (.iconst 1, 1) := by decide +kernel
theorem dL_law_1134 : decode cL_law 1134 = .ok (.iadd, 1) := by decide +kernel
theorem dL_law_1135 : decode cL_law 1135 = .ok (.iaload, 1) := by decide +kernel
theorem dL_law_1136 : decode cL_law 1136 = .ok (.invokevirtual 140, 3) := by decide +kernel
theorem dL_law_1139 : decode cL_law 1139 = .ok (.aload_n 2, 1) := by decide +kernel
theorem dL_law_1140 : decode cL_law 1140 = .ok (.aload_n 0, 1) := by decide +kernel
theorem dL_law_1141 : decode cL_law 1141 = .ok (.iload 4, 2) := by decide +kernel
theorem dL_law_1143 : decode cL_law 1143 = .ok (.iconst 1, 1) := by decide +kernel
theorem dL_law_1144 : decode cL_law 1144 = .ok (.iadd, 1) := by decide +kernel
theorem dL_law_1145 : decode cL_law 1145 = .ok (.iaload, 1) := by decide +kernel
theorem dL_law_1146 : decode cL_law 1146 = .ok (.invokevirtual 143, 3) := by decide +kernel
theorem dL_law_1149 : decode cL_law 1149 = .ok (.if_icmp .eq 466, 3) := by decide +kernel
theorem dL_law_1154 : decode cL_law 1154 = .ok (.aload_n 1, 1) := by decide +kernel
theorem dL_law_1155 : decode cL_law 1155 = .ok (.invokevirtual 144, 3) := by decide +kernel
theorem dL_law_1158 : decode cL_law 1158 = .ok (.aload_n 2, 1) := by decide +kernel
theorem dL_law_1159 : decode cL_law 1159 = .ok (.invokevirtual 147, 3) := by decide +kernel
theorem dL_law_1162 : decode cL_law 1162 = .ok (.if_icmp .eq 453, 3) := by decide +kernel
theorem law_agree {z : Mx} {ad : Nat → Nat} {o : Option Value × St} {b u L i : Nat} {xs : Nat → Int32} {Inv : St → Prop} (X : CxOk z ad RL cL_law 7 (some .boolean) 1200) (hX : SX z b L xs) (hi : i + 6 ≤ L) (hp : pr_agree Inv) (S : St) (hInv : Inv S) (hgo : ∀ S2, Inv S2 → GW z ad o S2 1615 [(0, .ref b), (1, .ref (ad 0)), (2, .ref (ad 140)), (3, .ref u), (4, .int (nI i))] []) : GW z ad o S 942 [(0, .ref b), (1, .ref (ad 0)), (2, .ref (ad 140)), (3, .ref u), (4, .int (nI i))] [] := by
  obtain ⟨r, S1, S2, e1, e2, hI2⟩ := hp S hInv (xs (i + 1)) (xs (i + 2))
  refine g_aload_n X dL_law_942 1 rfl rfl ?_
  refine g_aload_n X dL_law_943 0 rfl rfl ?_
  refine g_iload X dL_law_944 4 rfl ?_
  refine g_iconst (v := 1) X dL_law_946 (by decide) ?_
  refine g_iadd X dL_law_947 ?_
  refine g_sld (j := i + 1) X hX dL_law_948 (nI_add i 1) (by omega) ?_
  refine g_aload_n X dL_law_949 0 rfl rfl ?_
  refine g_iload X dL_law_950 4 rfl ?_
  refine g_iconst (v := 2) X dL_law_952 (by decide) ?_
  refine g_iadd X dL_law_953 ?_
  refine g_sld (j := i + 2) X hX dL_law_954 (nI_add i 2) (by omega) ?_
  refine g_callVi (As := [.int (xs (i + 1)), .int (xs (i + 2))]) (v := r) (S' := S1) X dL_law_955 mlL_112 (fun l D cyy => tX10_agree (cx_inj X) l D cyy 0 (xs (i + 1)) (xs (i + 2)) (by decide +kernel) S (r, S1) e1) (by decide +kernel) (by decide) rfl rfl (Nat.le_of_ble_eq_true rfl) ?_
  refine g_aload_n X dL_law_958 2 rfl rfl ?_
  refine g_aload_n X dL_law_959 0 rfl rfl ?_
  refine g_iload X dL_law_960 4 rfl ?_
  refine g_iconst (v := 1) X dL_law_962 (by decide) ?_
  refine g_iadd X dL_law_963 ?_
  refine g_sld (j := i + 1) X hX dL_law_964 (nI_add i 1) (by omega) ?_
  refine g_aload_n X dL_law_965 0 rfl rfl ?_
  refine g_iload X dL_law_966 4 rfl ?_
  refine g_iconst (v := 2) X dL_law_968 (by decide) ?_
  refine g_iadd X dL_law_969 ?_
  refine g_sld (j := i + 2) X hX dL_law_970 (nI_add i 2) (by omega) ?_
  refine g_callVi (As := [.int (xs (i + 1)), .int (xs (i + 2))]) (v := r) (S' := S2) X dL_law_971 mlL_115 (fun l D cyy => tX11_agree (cx_inj X) l D cyy 140 (xs (i + 1)) (xs (i + 2)) (by decide +kernel) S1 (r, S2) e2) (by decide +kernel) (by decide) rfl rfl (Nat.le_of_ble_eq_true rfl) ?_
  exact g_icmp_eq (tgt := 1615) X dL_law_974 (by decide) (fun _ => hgo S2 hI2) (fun c0 => absurd rfl c0)
theorem law_agreeing {z : Mx} {ad : Nat → Nat} {o : Option Value × St} {b u L i : Nat} {xs : Nat → Int32} {Inv : St → Prop} (X : CxOk z ad RL cL_law 7 (some .boolean) 1200) (hX : SX z b L xs) (hi : i + 6 ≤ L) (hp : pr_agreeing Inv) (S : St) (hInv : Inv S) (hgo : ∀ S2, Inv S2 → GW z ad o S2 1615 [(0, .ref b), (1, .ref (ad 0)), (2, .ref (ad 140)), (3, .ref u), (4, .int (nI i))] []) : GW z ad o S 979 [(0, .ref b), (1, .ref (ad 0)), (2, .ref (ad 140)), (3, .ref u), (4, .int (nI i))] [] := by
  obtain ⟨r, S2, e1, e2, hI2⟩ := hp S hInv 
  refine g_aload_n X dL_law_979 1 rfl rfl ?_
  refine g_callVi (As := []) (v := r) (S' := S) X dL_law_980 mlL_116 (fun l D cyy => (by have h9 := tX10_agreeing (cx_inj X) l D cyy 0 (by decide +kernel) S; rw [e1] at h9; exact h9)) (by decide +kernel) (by decide) rfl rfl (Nat.le_of_ble_eq_true rfl) ?_
  refine g_aload_n X dL_law_983 2 rfl rfl ?_
  refine g_callVi (As := []) (v := r) (S' := S2) X dL_law_984 mlL_119 (fun l D cyy => (by have h9 := tX11_agreeing (cx_inj X) l D cyy 140 (by decide +kernel) S; rw [e2] at h9; exact h9)) (by decide +kernel) (by decide) rfl rfl (Nat.le_of_ble_eq_true rfl) ?_
  exact g_icmp_eq (tgt := 1615) X dL_law_987 (by decide) (fun _ => hgo S2 hI2) (fun c0 => absurd rfl c0)
theorem law_match {z : Mx} {ad : Nat → Nat} {o : Option Value × St} {b u L i : Nat} {xs : Nat → Int32} {Inv : St → Prop} (X : CxOk z ad RL cL_law 7 (some .boolean) 1200) (hX : SX z b L xs) (hi : i + 6 ≤ L) (hp : pr_match Inv) (S : St) (hInv : Inv S) (hgo : ∀ S2, Inv S2 → GW z ad o S2 1615 [(0, .ref b), (1, .ref (ad 0)), (2, .ref (ad 140)), (3, .ref u), (4, .int (nI i))] []) : GW z ad o S 992 [(0, .ref b), (1, .ref (ad 0)), (2, .ref (ad 140)), (3, .ref u), (4, .int (nI i))] [] := by
  obtain ⟨r, S1, S2, e1, e2, hI2⟩ := hp S hInv (xs (i + 1)) (xs (i + 2)) (xs (i + 3))
  refine g_aload_n X dL_law_992 1 rfl rfl ?_
  refine g_aload_n X dL_law_993 0 rfl rfl ?_
  refine g_iload X dL_law_994 4 rfl ?_
  refine g_iconst (v := 1) X dL_law_996 (by decide) ?_
  refine g_iadd X dL_law_997 ?_
  refine g_sld (j := i + 1) X hX dL_law_998 (nI_add i 1) (by omega) ?_
  refine g_aload_n X dL_law_999 0 rfl rfl ?_
  refine g_iload X dL_law_1000 4 rfl ?_
  refine g_iconst (v := 2) X dL_law_1002 (by decide) ?_
  refine g_iadd X dL_law_1003 ?_
  refine g_sld (j := i + 2) X hX dL_law_1004 (nI_add i 2) (by omega) ?_
  refine g_aload_n X dL_law_1005 0 rfl rfl ?_
  refine g_iload X dL_law_1006 4 rfl ?_
  refine g_iconst (v := 3) X dL_law_1008 (by decide) ?_
  refine g_iadd X dL_law_1009 ?_
  refine g_sld (j := i + 3) X hX dL_law_1010 (nI_add i 3) (by omega) ?_
  refine g_callVi (As := [.int (xs (i + 1)), .int (xs (i + 2)), .int (xs (i + 3))]) (v := r) (S' := S1) X dL_law_1011 mlL_120 (fun l D cyy => tX10_match (cx_inj X) l D cyy 0 (xs (i + 1)) (xs (i + 2)) (xs (i + 3)) (by decide +kernel) S (r, S1) e1) (by decide +kernel) (by decide) rfl rfl (Nat.le_of_ble_eq_true rfl) ?_
  refine g_aload_n X dL_law_1014 2 rfl rfl ?_
  refine g_aload_n X dL_law_1015 0 rfl rfl ?_
  refine g_iload X dL_law_1016 4 rfl ?_
  refine g_iconst (v := 1) X dL_law_1018 (by decide) ?_
  refine g_iadd X dL_law_1019 ?_
  refine g_sld (j := i + 1) X hX dL_law_1020 (nI_add i 1) (by omega) ?_
  refine g_aload_n X dL_law_1021 0 rfl rfl ?_
  refine g_iload X dL_law_1022 4 rfl ?_
  refine g_iconst (v := 2) X dL_law_1024 (by decide) ?_
  refine g_iadd X dL_law_1025 ?_
  refine g_sld (j := i + 2) X hX dL_law_1026 (nI_add i 2) (by omega) ?_
  refine g_aload_n X dL_law_1027 0 rfl rfl ?_
  refine g_iload X dL_law_1028 4 rfl ?_
  refine g_iconst (v := 3) X dL_law_1030 (by decide) ?_
  refine g_iadd X dL_law_1031 ?_
  refine g_sld (j := i + 3) X hX dL_law_1032 (nI_add i 3) (by omega) ?_
  refine g_callVi (As := [.int (xs (i + 1)), .int (xs (i + 2)), .int (xs (i + 3))]) (v := r) (S' := S2) X dL_law_1033 mlL_123 (fun l D cyy => tX11_match (cx_inj X) l D cyy 140 (xs (i + 1)) (xs (i + 2)) (xs (i + 3)) (by decide +kernel) S1 (r, S2) e2) (by decide +kernel) (by decide) rfl rfl (Nat.le_of_ble_eq_true rfl) ?_
  exact g_icmp_eq (tgt := 1615) X dL_law_1036 (by decide) (fun _ => hgo S2 hI2) (fun c0 => absurd rfl c0)
theorem law_matchOn {z : Mx} {ad : Nat → Nat} {o : Option Value × St} {b u L i : Nat} {xs : Nat → Int32} {Inv : St → Prop} (X : CxOk z ad RL cL_law 7 (some .boolean) 1200) (hX : SX z b L xs) (hi : i + 6 ≤ L) (hp : pr_matchOn Inv) (S : St) (hInv : Inv S) (hgo : ∀ S2, Inv S2 → GW z ad o S2 1615 [(0, .ref b), (1, .ref (ad 0)), (2, .ref (ad 140)), (3, .ref u), (4, .int (nI i))] []) : GW z ad o S 1041 [(0, .ref b), (1, .ref (ad 0)), (2, .ref (ad 140)), (3, .ref u), (4, .int (nI i))] [] := by
  obtain ⟨r, S2, e1, e2, hI2⟩ := hp S hInv 
  refine g_aload_n X dL_law_1041 1 rfl rfl ?_
  refine g_callVi (As := []) (v := r) (S' := S) X dL_law_1042 mlL_124 (fun l D cyy => (by have h9 := tX10_matchOn (cx_inj X) l D cyy 0 (by decide +kernel) S; rw [e1] at h9; exact h9)) (by decide +kernel) (by decide) rfl rfl (Nat.le_of_ble_eq_true rfl) ?_
  refine g_aload_n X dL_law_1045 2 rfl rfl ?_
  refine g_callVi (As := []) (v := r) (S' := S2) X dL_law_1046 mlL_127 (fun l D cyy => (by have h9 := tX11_matchOn (cx_inj X) l D cyy 140 (by decide +kernel) S; rw [e2] at h9; exact h9)) (by decide +kernel) (by decide) rfl rfl (Nat.le_of_ble_eq_true rfl) ?_
  exact g_icmp_eq (tgt := 1615) X dL_law_1049 (by decide) (fun _ => hgo S2 hI2) (fun c0 => absurd rfl c0)
theorem law_reform {z : Mx} {ad : Nat → Nat} {o : Option Value × St} {b u L i : Nat} {xs : Nat → Int32} {Inv : St → Prop} (X : CxOk z ad RL cL_law 7 (some .boolean) 1200) (hX : SX z b L xs) (hi : i + 6 ≤ L) (hp : pr_reform Inv) (S : St) (hInv : Inv S) (hgo : ∀ S2, Inv S2 → GW z ad o S2 1615 [(0, .ref b), (1, .ref (ad 0)), (2, .ref (ad 140)), (3, .ref u), (4, .int (nI i))] []) : GW z ad o S 1054 [(0, .ref b), (1, .ref (ad 0)), (2, .ref (ad 140)), (3, .ref u), (4, .int (nI i))] [] := by
  obtain ⟨r, S1, S2, e1, e2, hI2⟩ := hp S hInv 
  refine g_aload_n X dL_law_1054 1 rfl rfl ?_
  refine g_callVi (As := []) (v := r) (S' := S1) X dL_law_1055 mlL_128 (fun l D cyy => tX10_reform (cx_inj X) l D cyy 0 (by decide +kernel) S (r, S1) e1) (by decide +kernel) (by decide) rfl rfl (Nat.le_of_ble_eq_true rfl) ?_
  refine g_aload_n X dL_law_1058 2 rfl rfl ?_
  refine g_callVi (As := []) (v := r) (S' := S2) X dL_law_1059 mlL_131 (fun l D cyy => tX11_reform (cx_inj X) l D cyy 140 (by decide +kernel) S1 (r, S2) e2) (by decide +kernel) (by decide) rfl rfl (Nat.le_of_ble_eq_true rfl) ?_
  exact g_icmp_eq (tgt := 1615) X dL_law_1062 (by decide) (fun _ => hgo S2 hI2) (fun c0 => absurd rfl c0)
theorem law_reformTo {z : Mx} {ad : Nat → Nat} {o : Option Value × St} {b u L i : Nat} {xs : Nat → Int32} {Inv : St → Prop} (X : CxOk z ad RL cL_law 7 (some .boolean) 1200) (hX : SX z b L xs) (hi : i + 6 ≤ L) (hp : pr_reformTo Inv) (S : St) (hInv : Inv S) (hgo : ∀ S2, Inv S2 → GW z ad o S2 1615 [(0, .ref b), (1, .ref (ad 0)), (2, .ref (ad 140)), (3, .ref u), (4, .int (nI i))] []) : GW z ad o S 1067 [(0, .ref b), (1, .ref (ad 0)), (2, .ref (ad 140)), (3, .ref u), (4, .int (nI i))] [] := by
  obtain ⟨r, S2, e1, e2, hI2⟩ := hp S hInv 
  refine g_aload_n X dL_law_1067 1 rfl rfl ?_
  refine g_callVi (As := []) (v := r) (S' := S) X dL_law_1068 mlL_132 (fun l D cyy => (by have h9 := tX10_reformTo (cx_inj X) l D cyy 0 (by decide +kernel) S; rw [e1] at h9; exact h9)) (by decide +kernel) (by decide) rfl rfl (Nat.le_of_ble_eq_true rfl) ?_
  refine g_aload_n X dL_law_1071 2 rfl rfl ?_
  refine g_callVi (As := []) (v := r) (S' := S2) X dL_law_1072 mlL_135 (fun l D cyy => (by have h9 := tX11_reformTo (cx_inj X) l D cyy 140 (by decide +kernel) S; rw [e2] at h9; exact h9)) (by decide +kernel) (by decide) rfl rfl (Nat.le_of_ble_eq_true rfl) ?_
  exact g_icmp_eq (tgt := 1615) X dL_law_1075 (by decide) (fun _ => hgo S2 hI2) (fun c0 => absurd rfl c0)
theorem law_play {z : Mx} {ad : Nat → Nat} {o : Option Value × St} {b u L i : Nat} {xs : Nat → Int32} {Inv : St → Prop} (X : CxOk z ad RL cL_law 7 (some .boolean) 1200) (hX : SX z b L xs) (hi : i + 6 ≤ L) (hp : pr_play Inv) (S : St) (hInv : Inv S) (hgo : ∀ S2, Inv S2 → GW z ad o S2 1615 [(0, .ref b), (1, .ref (ad 0)), (2, .ref (ad 140)), (3, .ref u), (4, .int (nI i))] []) : GW z ad o S 1080 [(0, .ref b), (1, .ref (ad 0)), (2, .ref (ad 140)), (3, .ref u), (4, .int (nI i))] [] := by
  obtain ⟨r, S2, e1, e2, hI2⟩ := hp S hInv (xs (i + 1)) (xs (i + 2)) (xs (i + 3))
  refine g_aload_n X dL_law_1080 1 rfl rfl ?_
  refine g_aload_n X dL_law_1081 0 rfl rfl ?_
  refine g_iload X dL_law_1082 4 rfl ?_
  refine g_iconst (v := 1) X dL_law_1084 (by decide) ?_
  refine g_iadd X dL_law_1085 ?_
  refine g_sld (j := i + 1) X hX dL_law_1086 (nI_add i 1) (by omega) ?_
  refine g_aload_n X dL_law_1087 0 rfl rfl ?_
  refine g_iload X dL_law_1088 4 rfl ?_
  refine g_iconst (v := 2) X dL_law_1090 (by decide) ?_
  refine g_iadd X dL_law_1091 ?_
  refine g_sld (j := i + 2) X hX dL_law_1092 (nI_add i 2) (by omega) ?_
  refine g_aload_n X dL_law_1093 0 rfl rfl ?_
  refine g_iload X dL_law_1094 4 rfl ?_
  refine g_iconst (v := 3) X dL_law_1096 (by decide) ?_
  refine g_iadd X dL_law_1097 ?_
  refine g_sld (j := i + 3) X hX dL_law_1098 (nI_add i 3) (by omega) ?_
  refine g_callVi (As := [.int (xs (i + 1)), .int (xs (i + 2)), .int (xs (i + 3))]) (v := r) (S' := S) X dL_law_1099 mlL_136 (fun l D cyy => tX10_play (cx_inj X) l D cyy 0 (xs (i + 1)) (xs (i + 2)) (xs (i + 3)) (by decide +kernel) S r e1) (by decide +kernel) (by decide) rfl rfl (Nat.le_of_ble_eq_true rfl) ?_
  refine g_aload_n X dL_law_1102 2 rfl rfl ?_
  refine g_aload_n X dL_law_1103 0 rfl rfl ?_
  refine g_iload X dL_law_1104 4 rfl ?_
  refine g_iconst (v := 1) X dL_law_1106 (by decide) ?_
  refine g_iadd X dL_law_1107 ?_
  refine g_sld (j := i + 1) X hX dL_law_1108 (nI_add i 1) (by omega) ?_
  refine g_aload_n X dL_law_1109 0 rfl rfl ?_
  refine g_iload X dL_law_1110 4 rfl ?_
  refine g_iconst (v := 2) X dL_law_1112 (by decide) ?_
  refine g_iadd X dL_law_1113 ?_
  refine g_sld (j := i + 2) X hX dL_law_1114 (nI_add i 2) (by omega) ?_
  refine g_aload_n X dL_law_1115 0 rfl rfl ?_
  refine g_iload X dL_law_1116 4 rfl ?_
  refine g_iconst (v := 3) X dL_law_1118 (by decide) ?_
  refine g_iadd X dL_law_1119 ?_
  refine g_sld (j := i + 3) X hX dL_law_1120 (nI_add i 3) (by omega) ?_
  refine g_callVi (As := [.int (xs (i + 1)), .int (xs (i + 2)), .int (xs (i + 3))]) (v := r) (S' := S2) X dL_law_1121 mlL_139 (fun l D cyy => tX11_play (cx_inj X) l D cyy 140 (xs (i + 1)) (xs (i + 2)) (xs (i + 3)) (by decide +kernel) S (r, S2) e2) (by decide +kernel) (by decide) rfl rfl (Nat.le_of_ble_eq_true rfl) ?_
  exact g_icmp_eq (tgt := 1615) X dL_law_1124 (by decide) (fun _ => hgo S2 hI2) (fun c0 => absurd rfl c0)
theorem law_crowd {z : Mx} {ad : Nat → Nat} {o : Option Value × St} {b u L i : Nat} {xs : Nat → Int32} {Inv : St → Prop} (X : CxOk z ad RL cL_law 7 (some .boolean) 1200) (hX : SX z b L xs) (hi : i + 6 ≤ L) (hp : pr_crowd Inv) (S : St) (hInv : Inv S) (hgo : ∀ S2, Inv S2 → GW z ad o S2 1615 [(0, .ref b), (1, .ref (ad 0)), (2, .ref (ad 140)), (3, .ref u), (4, .int (nI i))] []) : GW z ad o S 1129 [(0, .ref b), (1, .ref (ad 0)), (2, .ref (ad 140)), (3, .ref u), (4, .int (nI i))] [] := by
  obtain ⟨r, S1, S2, e1, e2, hI2⟩ := hp S hInv (xs (i + 1))
  refine g_aload_n X dL_law_1129 1 rfl rfl ?_
  refine g_aload_n X dL_law_1130 0 rfl rfl ?_
  refine g_iload X dL_law_1131 4 rfl ?_
  refine g_iconst (v := 1) X dL_law_1133 (by decide) ?_
  refine g_iadd X dL_law_1134 ?_
  refine g_sld (j := i + 1) X hX dL_law_1135 (nI_add i 1) (by omega) ?_
  refine g_callVi (As := [.int (xs (i + 1))]) (v := r) (S' := S1) X dL_law_1136 mlL_140 (fun l D cyy => tX10_crowd (cx_inj X) l D cyy 0 (xs (i + 1)) (by decide +kernel) S (r, S1) e1) (by decide +kernel) (by decide) rfl rfl (Nat.le_of_ble_eq_true rfl) ?_
  refine g_aload_n X dL_law_1139 2 rfl rfl ?_
  refine g_aload_n X dL_law_1140 0 rfl rfl ?_
  refine g_iload X dL_law_1141 4 rfl ?_
  refine g_iconst (v := 1) X dL_law_1143 (by decide) ?_
  refine g_iadd X dL_law_1144 ?_
  refine g_sld (j := i + 1) X hX dL_law_1145 (nI_add i 1) (by omega) ?_
  refine g_callVi (As := [.int (xs (i + 1))]) (v := r) (S' := S2) X dL_law_1146 mlL_143 (fun l D cyy => tX11_crowd (cx_inj X) l D cyy 140 (xs (i + 1)) (by decide +kernel) S1 (r, S2) e2) (by decide +kernel) (by decide) rfl rfl (Nat.le_of_ble_eq_true rfl) ?_
  exact g_icmp_eq (tgt := 1615) X dL_law_1149 (by decide) (fun _ => hgo S2 hI2) (fun c0 => absurd rfl c0)
theorem law_crowdOn {z : Mx} {ad : Nat → Nat} {o : Option Value × St} {b u L i : Nat} {xs : Nat → Int32} {Inv : St → Prop} (X : CxOk z ad RL cL_law 7 (some .boolean) 1200) (hX : SX z b L xs) (hi : i + 6 ≤ L) (hp : pr_crowdOn Inv) (S : St) (hInv : Inv S) (hgo : ∀ S2, Inv S2 → GW z ad o S2 1615 [(0, .ref b), (1, .ref (ad 0)), (2, .ref (ad 140)), (3, .ref u), (4, .int (nI i))] []) : GW z ad o S 1154 [(0, .ref b), (1, .ref (ad 0)), (2, .ref (ad 140)), (3, .ref u), (4, .int (nI i))] [] := by
  obtain ⟨r, S2, e1, e2, hI2⟩ := hp S hInv 
  refine g_aload_n X dL_law_1154 1 rfl rfl ?_
  refine g_callVi (As := []) (v := r) (S' := S) X dL_law_1155 mlL_144 (fun l D cyy => (by have h9 := tX10_crowdOn (cx_inj X) l D cyy 0 (by decide +kernel) S; rw [e1] at h9; exact h9)) (by decide +kernel) (by decide) rfl rfl (Nat.le_of_ble_eq_true rfl) ?_
  refine g_aload_n X dL_law_1158 2 rfl rfl ?_
  refine g_callVi (As := []) (v := r) (S' := S2) X dL_law_1159 mlL_147 (fun l D cyy => (by have h9 := tX11_crowdOn (cx_inj X) l D cyy 140 (by decide +kernel) S; rw [e2] at h9; exact h9)) (by decide +kernel) (by decide) rfl rfl (Nat.le_of_ble_eq_true rfl) ?_
  exact g_icmp_eq (tgt := 1615) X dL_law_1162 (by decide) (fun _ => hgo S2 hI2) (fun c0 => absurd rfl c0)
