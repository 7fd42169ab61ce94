theorem dL_law_928 : decode cL_law 928 = .ok (.aload_n 1, 1) := by decide +kernel
theorem dL_law_929 : decode cL_law 929 = .ok (.aload_n 0, 1) := by decide +kernel
theorem dL_law_930 : decode cL_law 930 = .ok (.iload_n 3, 1) := by decide +kernel
theorem dL_law_931 : decode cL_law 931 = .ok (.iconst 1, 1) := by decide +kernel
theorem dL_law_932 : decode cL_law 932 = .ok (.iadd, 1) := by decide +kernel
theorem dL_law_933 : decode cL_law 933 = .ok (.iaload, 1) := by decide +kernel
theorem dL_law_934 : decode cL_law 934 = .ok (.aload_n 0, 1) := by decide +kernel
theorem dL_law_935 : decode cL_law 935 = .ok (.iload_n 3, 1) := by decide +kernel
theorem dL_law_936 : decode cL_law 936 = .ok (.iconst 2, 1) := by decide +kernel
theorem dL_law_937 : decode cL_law 937 = .ok (.iadd, 1) := by decide +kernel
theorem dL_law_938 : decode cL_law 938 = .ok (.iaload, 1) := by decide +kernel
theorem dL_law_939 : decode cL_law 939 = .ok (.aload_n 0, 1) := by decide +kernel
theorem dL_law_940 : decode cL_law 940 = .ok (.iload_n 3, 1) := by decide +kernel
theorem dL_law_941 : decode cL_law 941 = .ok (.iconst 3, 1) := by decide +kernel
theorem dL_law_942 : decode cL_law 942 = .ok (.iadd, 1) := by decide +kernel
theorem dL_law_943 : decode cL_law 943 = .ok (.iaload, 1) := by decide +kernel
theorem dL_law_944 : decode cL_law 944 = .ok (.invokevirtual 101, 3) := by decide +kernel
theorem dL_law_947 : decode cL_law 947 = .ok (.aload_n 2, 1) := by decide +kernel
theorem dL_law_948 : decode cL_law 948 = .ok (.aload_n 0, 1) := by decide +kernel
theorem dL_law_949 : decode cL_law 949 = .ok (.iload_n 3, 1) := by decide +kernel
theorem dL_law_950 : decode cL_law 950 = .ok (.iconst 1, 1) := by decide +kernel
theorem dL_law_951 : decode cL_law 951 = .ok (.iadd, 1) := by decide +kernel
theorem dL_law_952 : decode cL_law 952 = .ok (.iaload, 1) := by decide +kernel
theorem dL_law_953 : decode cL_law 953 = .ok (.aload_n 0, 1) := by decide +kernel
theorem dL_law_954 : decode cL_law 954 = .ok (.iload_n 3, 1) := by decide +kernel
theorem dL_law_955 : decode cL_law 955 = .ok (.iconst 2, 1) := by decide +kernel
theorem dL_law_956 : decode cL_law 956 = .ok (.iadd, 1) := by decide +kernel
theorem dL_law_957 : decode cL_law 957 = .ok (.iaload, 1) := by decide +kernel
theorem dL_law_958 : decode cL_law 958 = .ok (.aload_n 0, 1) := by decide +kernel
theorem dL_law_959 : decode cL_law 959 = .ok (.iload_n 3, 1) := by decide +kernel
theorem dL_law_960 : decode cL_law 960 = .ok (.iconst 3, 1) := by decide +kernel
theorem dL_law_961 : decode cL_law 961 = .ok (.iadd, 1) := by decide +kernel
theorem dL_law_962 : decode cL_law 962 = .ok (.iaload, 1) := by decide +kernel
theorem dL_law_963 : decode cL_law 963 = .ok (.invokevirtual 104, 3) := by decide +kernel
theorem dL_law_966 : decode cL_law 966 = .ok (.if_icmp .eq 477, 3) := by decide +kernel
theorem dL_law_971 : decode cL_law 971 = .ok (.aload_n 1, 1) := by decide +kernel
theorem dL_law_972 : decode cL_law 972 = .ok (.aload_n 0, 1) := by decide +kernel
theorem dL_law_973 : decode cL_law 973 = .ok (.iload_n 3, 1) := by decide +kernel
theorem dL_law_974 : decode cL_law 974 = .ok (.iconst 1, 1) := by decide +kernel
theorem dL_law_975 : decode cL_law 975 = .ok (.iadd, 1) := by decide +kernel
theorem dL_law_976 : decode cL_law 976 = .ok (.iaload, 1) := by decide +kernel
theorem dL_law_977 : decode cL_law 977 = .ok (.aload_n 0, 1) := by decide +kernel
theorem dL_law_978 : decode cL_law 978 = .ok (.iload_n 3, 1) := by decide +kernel
theorem dL_law_979 : decode cL_law 979 = .ok (.iconst 2, 1) := by decide +kernel
theorem dL_law_980 : decode cL_law 980 = .ok (.iadd, 1) := by decide +kernel
theorem dL_law_981 : decode cL_law 981 = .ok (.iaload, 1) := by decide +kernel
theorem dL_law_982 : decode cL_law 982 = .ok (.invokevirtual 105, 3) := by decide +kernel
theorem dL_law_985 : decode cL_law 985 = .ok (.aload_n 2, 1) := by decide +kernel
theorem dL_law_986 : decode cL_law 986 = .ok (.aload_n 0, 1) := by decide +kernel
theorem dL_law_987 : decode cL_law 987 = .ok (.iload_n 3, 1) := by decide +kernel
theorem dL_law_988 : decode cL_law 988 = .ok (.iconst 1, 1) := by decide +kernel
theorem dL_law_989 : decode cL_law 989 = .ok (.iadd, 1) := by decide +kernel
theorem dL_law_990 : decode cL_law 990 = .ok (.iaload, 1) := by decide +kernel
theorem dL_law_991 : decode cL_law 991 = .ok (.aload_n 0, 1) := by decide +kernel
theorem dL_law_992 : decode cL_law 992 = .ok (.iload_n 3, 1) := by decide +kernel
theorem dL_law_993 : decode cL_law 993 = .ok (.iconst 2, 1) := by decide +kernel
theorem dL_law_994 : decode cL_law 994 = .ok (.iadd, 1) := by decide +kernel
theorem dL_law_995 : decode cL_law 995 = .ok (.iaload, 1) := by decide +kernel
theorem dL_law_996 : decode cL_law 996 = .ok (.invokevirtual 108, 3) := by decide +kernel
theorem dL_law_999 : decode cL_law 999 = .ok (.if_icmp .eq 444, 3) := by decide +kernel
theorem dL_law_1004 : decode cL_law 1004 = .ok (.aload_n 1, 1) := by decide +kernel
theorem dL_law_1005 : decode cL_law 1005 = .ok (.aload_n 0, 1) := by decide +kernel
theorem dL_law_1006 : decode cL_law 1006 = .ok (.iload_n 3, 1) := by decide +kernel
theorem dL_law_1007 : decode cL_law 1007 = .ok (.iconst 1, 1) := by decide +kernel
theorem dL_law_1008 : decode cL_law 1008 = .ok (.iadd, 1) := by decide +kernel
theorem dL_law_1009 : decode cL_law 1009 = .ok (.iaload, 1) := by decide +kernel
theorem dL_law_1010 : decode cL_law 1010 = .ok (.aload_n 0, 1) := by decide +kernel
theorem dL_law_1011 : decode cL_law 1011 = .ok (.iload_n 3, 1) := by decide +kernel
theorem dL_law_1012 : decode cL_law 1012 = .ok (.iconst 2, 1) := by decide +kernel
theorem dL_law_1013 : decode cL_law 1013 = .ok (.iadd, 1) := by decide +kernel
theorem dL_law_1014 : decode cL_law 1014 = .ok (.iaload, 1) := by decide +kernel
theorem dL_law_1015 : decode cL_law 1015 = .ok (.aload_n 0, 1) := by decide +kernel
theorem dL_law_1016 : decode cL_law 1016 = .ok (.iload_n 3, 1) := by decide +kernel
theorem dL_law_1017 : decode cL_law 1017 = .ok (.iconst 3, 1) := by decide +kernel
theorem dL_law_1018 : decode cL_law 1018 = .ok (.iadd, 1) := by decide +kernel
theorem dL_law_1019 : decode cL_law 1019 = .ok (.iaload, 1) := by decide +kernel
theorem dL_law_1020 : decode cL_law 1020 = .ok (.aload_n 0, 1) := by decide +kernel
theorem dL_law_1021 : decode cL_law 1021 = .ok (.iload_n 3, 1) := by decide +kernel
theorem dL_law_1022 : decode cL_law 1022 = .ok (.iconst 4, 1) := by decide +kernel
theorem dL_law_1023 : decode cL_law 1023 = .ok (.iadd, 1) := by decide +kernel
theorem dL_law_1024 : decode cL_law 1024 = .ok (.iaload, 1) := by decide +kernel
theorem dL_law_1025 : decode cL_law 1025 = .ok (.aload_n 0, 1) := by decide +kernel
theorem dL_law_1026 : decode cL_law 1026 = .ok (.iload_n 3, 1) := by decide +kernel
theorem dL_law_1027 : decode cL_law 1027 = .ok (.iconst 5, 1) := by decide +kernel
theorem dL_law_1028 : decode cL_law 1028 = .ok (.iadd, 1) := by decide +kernel
theorem dL_law_1029 : decode cL_law 1029 = .ok (.iaload, 1) := by decide +kernel
theorem dL_law_1030 : decode cL_law 1030 = .ok (.invokevirtual 109, 3) := by decide +kernel
theorem dL_law_1033 : decode cL_law 1033 = .ok (.aload_n 2, 1) := by decide +kernel
theorem dL_law_1034 : decode cL_law 1034 = .ok (.aload_n 0, 1) := by decide +kernel
theorem dL_law_1035 : decode cL_law 1035 = .ok (.iload_n 3, 1) := by decide +kernel
theorem dL_law_1036 : decode cL_law 1036 = .ok (.iconst 1, 1) := by decide +kernel
theorem dL_law_1037 : decode cL_law 1037 = .ok (.iadd, 1) := by decide +kernel
theorem dL_law_1038 : decode cL_law 1038 = .ok (.iaload, 1) := by decide +kernel
theorem dL_law_1039 : decode cL_law 1039 = .ok (.aload_n 0, 1) := by decide +kernel
theorem dL_law_1040 : decode cL_law 1040 = .ok (.iload_n 3, 1) := by decide +kernel
theorem dL_law_1041 : decode cL_law 1041 = .ok (.iconst 2, 1) := by decide +kernel
theorem dL_law_1042 : decode cL_law 1042 = .ok (.iadd, 1) := by decide +kernel
theorem dL_law_1043 : decode cL_law 1043 = .ok (.iaload, 1) := by decide +kernel
theorem dL_law_1044 : decode cL_law 1044 = .ok (.aload_n 0, 1) := by decide +kernel
theorem dL_law_1045 : decode cL_law 1045 = .ok (.iload_n 3, 1) := by decide +kernel
theorem dL_law_1046 : decode cL_law 1046 = .ok (.iconst 3, 1) := by decide +kernel
theorem dL_law_1047 : decode cL_law 1047 = .ok (.iadd, 1) := by decide +kernel
theorem dL_law_1048 : decode cL_law 1048 = .ok (.iaload, 1) := by decide +kernel
theorem dL_law_1049 : decode cL_law 1049 = .ok (.aload_n 0, 1) := by decide +kernel
theorem dL_law_1050 : decode cL_law 1050 = .ok (.iload_n 3, 1) := by decide +kernel
theorem dL_law_1051 : decode cL_law 1051 = .ok (.iconst 4, 1) := by decide +kernel
theorem dL_law_1052 : decode cL_law 1052 = .ok (.iadd, 1) := by decide +kernel
theorem dL_law_1053 : decode cL_law 1053 = .ok (.iaload, 1) := by decide +kernel
theorem dL_law_1054 : decode cL_law 1054 = .ok (.aload_n 0, 1) := by decide +kernel
theorem dL_law_1055 : decode cL_law 1055 = .ok (.iload_n 3, 1) := by decide +kernel
theorem dL_law_1056 : decode cL_law 1056 = .ok (.iconst 5, 1) := by decide +kernel
theorem dL_law_1057 : decode cL_law 1057 = .ok (.iadd, 1) := by decide +kernel
theorem dL_law_1058 : decode cL_law 1058 = .ok (.iaload, 1) := by decide +kernel
theorem dL_law_1059 : decode cL_law 1059 = .ok (.invokevirtual 113, 3) := by decide +kernel
theorem dL_law_1062 : decode cL_law 1062 = .ok (.if_icmp .eq 381, 3) := by decide +kernel
theorem dL_law_1067 : decode cL_law 1067 = .ok (.aload_n 1, 1) := by decide +kernel
theorem dL_law_1068 : decode cL_law 1068 = .ok (.aload_n 0, 1) := by decide +kernel
theorem dL_law_1069 : decode cL_law 1069 = .ok (.iload_n 3, 1) := by decide +kernel
theorem dL_law_1070 : decode cL_law 1070 = .ok (.iconst 1, 1) := by decide +kernel
theorem dL_law_1071 : decode cL_law 1071 = .ok (.iadd, 1) := by decide +kernel
theorem dL_law_1072 : decode cL_law 1072 = .ok (.iaload, 1) := by decide +kernel
theorem dL_law_1073 : decode cL_law 1073 = .ok (.aload_n 0, 1) := by decide +kernel
theorem dL_law_1074 : decode cL_law 1074 = .ok (.iload_n 3, 1) := by decide +kernel
theorem dL_law_1075 : decode cL_law 1075 = .ok (.iconst 2, 1) := by decide +kernel
theorem dL_law_1076 : decode cL_law 1076 = .ok (.iadd, 1) := by decide +kernel
theorem dL_law_1077 : decode cL_law 1077 = .ok (.iaload, 1) := by decide +kernel
theorem dL_law_1078 : decode cL_law 1078 = .ok (.aload_n 0, 1) := by decide +kernel
theorem dL_law_1079 : decode cL_law 1079 = .ok (.iload_n 3, 1) := by decide +kernel
theorem dL_law_1080 : decode cL_law 1080 = .ok (.iconst 3, 1) := by decide +kernel
theorem dL_law_1081 : decode cL_law 1081 = .ok (.iadd, 1) := by decide +kernel
theorem dL_law_1082 : decode cL_law 1082 = .ok (.iaload, 1) := by decide +kernel
theorem dL_law_1083 : decode cL_law 1083 = .ok (.aload_n 0, 1) := by decide +kernel
theorem dL_law_1084 : decode cL_law 1084 = .ok (.iload_n 3, 1) := by decide +kernel
theorem dL_law_1085 : decode cL_law 1085 = .ok (.iconst 4, 1) := by decide +kernel
theorem dL_law_1086 : decode cL_law 1086 = .ok (.iadd, 1) := by decide +kernel
theorem dL_law_1087 : decode cL_law 1087 = .ok (.iaload, 1) := by decide +kernel
theorem dL_law_1088 : decode cL_law 1088 = .ok (.aload_n 0, 1) := by decide +kernel
theorem dL_law_1089 : decode cL_law 1089 = .ok (.iload_n 3, 1) := by decide +kernel
theorem dL_law_1090 : decode cL_law 1090 = .ok (.iconst 5, 1) := by decide +kernel
theorem dL_law_1091 : decode cL_law 1091 = .ok (.iadd, 1) := by decide +kernel
theorem dL_law_1092 : decode cL_law 1092 = .ok (.iaload, 1) := by decide +kernel
theorem dL_law_1093 : decode cL_law 1093 = .ok (.invokevirtual 114, 3) := by decide +kernel
theorem dL_law_1096 : decode cL_law 1096 = .ok (.aload_n 2, 1) := by decide +kernel
theorem dL_law_1097 : decode cL_law 1097 = .ok (.aload_n 0, 1) := by decide +kernel
theorem dL_law_1098 : decode cL_law 1098 = .ok (.iload_n 3, 1) := by decide +kernel
theorem dL_law_1099 : decode cL_law 1099 = .ok (.iconst 1, 1) := by decide +kernel
theorem dL_law_1100 : decode cL_law 1100 = .ok (.iadd, 1) := by decide +kernel
theorem dL_law_1101 : decode cL_law 1101 = .ok (.iaload, 1) := by decide +kernel
theorem dL_law_1102 : decode cL_law 1102 = .ok (.aload_n 0, 1) := by decide +kernel
theorem dL_law_1103 : decode cL_law 1103 = .ok (.iload_n 3, 1) := by decide +kernel
theorem dL_law_1104 : decode cL_law 1104 = .ok (.iconst 2, 1) := by decide +kernel
theorem dL_law_1105 : decode cL_law 1105 = .ok (.iadd, 1) := by decide +kernel
theorem dL_law_1106 : decode cL_law 1106 = .ok (.iaload, 1) := by decide +kernel
theorem dL_law_1107 : decode cL_law 1107 = .ok (.aload_n 0, 1) := by decide +kernel
theorem dL_law_1108 : decode cL_law 1108 = .ok (.iload_n 3, 1) := by decide +kernel
theorem dL_law_1109 : decode cL_law 1109 = .ok (.iconst 3, 1) := by decide +kernel
theorem dL_law_1110 : decode cL_law 1110 = .ok (.iadd, 1) := by decide +kernel
theorem dL_law_1111 : decode cL_law 1111 = .ok (.iaload, 1) := by decide +kernel
theorem dL_law_1112 : decode cL_law 1112 = .ok (.aload_n 0, 1) := by decide +kernel
theorem dL_law_1113 : decode cL_law 1113 = .ok (.iload_n 3, 1) := by decide +kernel
theorem dL_law_1114 : decode cL_law 1114 = .ok (.iconst 4, 1) := by decide +kernel
theorem dL_law_1115 : decode cL_law 1115 = .ok (.iadd, 1) := by decide +kernel
theorem dL_law_1116 : decode cL_law 1116 = .ok (.iaload, 1) := by decide +kernel
theorem dL_law_1117 : decode cL_law 1117 = .ok (.aload_n 0, 1) := by decide +kernel
theorem dL_law_1118 : decode cL_law 1118 = .ok (.iload_n 3, 1) := by decide +kernel
theorem dL_law_1119 : decode cL_law 1119 = .ok (.iconst 5, 1) := by decide +kernel
theorem dL_law_1120 : decode cL_law 1120 = .ok (.iadd, 1) := by decide +kernel
theorem dL_law_1121 : decode cL_law 1121 = .ok (.iaload, 1) := by decide +kernel
theorem dL_law_1122 : decode cL_law 1122 = .ok (.invokevirtual 117, 3) := by decide +kernel
theorem dL_law_1125 : decode cL_law 1125 = .ok (.if_icmp .eq 318, 3) := by decide +kernel
theorem dL_law_1130 : decode cL_law 1130 = .ok (.aload_n 1, 1) := by decide +kernel
theorem dL_law_1131 : decode cL_law 1131 = .ok (.aload_n 0, 1) := by decide +kernel
theorem dL_law_1132 : decode cL_law 1132 = .ok (.iload_n 3, 1) := by decide +kernel
theorem dL_law_1133 : decode cL_law 1133 = .ok (.iconst 1, 1) := by decide +kernel
theorem dL_law_1134 : decode cL_law 1134 = .ok (.iadd, 1) := by decide +kernel
theorem dL_law_1135 : decode cL_law 1135 = .ok (.iaload, 1) := by decide +kernel
theorem dL_law_1136 : decode cL_law 1136 = .ok (.aload_n 0, 1) := by decide +kernel
theorem dL_law_1137 : decode cL_law 1137 = .ok (.iload_n 3, 1) := by decide +kernel
theorem dL_law_1138 : decode cL_law 1138 = .ok (.iconst 2, 1) := by decide +kernel
theorem dL_law_1139 : decode cL_law 1139 = .ok (.iadd, 1) := by decide +kernel
theorem dL_law_1140 : decode cL_law 1140 = .ok (.iaload, 1) := by decide +kernel
theorem dL_law_1141 : decode cL_law 1141 = .ok (.invokevirtual 118, 3) := by decide +kernel
theorem dL_law_1144 : decode cL_law 1144 = .ok (.aload_n 2, 1) := by decide +kernel
theorem dL_law_1145 : decode cL_law 1145 = .ok (.aload_n 0, 1) := by decide +kernel
theorem dL_law_1146 : decode cL_law 1146 = .ok (.iload_n 3, 1) := by decide +kernel
theorem dL_law_1147 : decode cL_law 1147 = .ok (.iconst 1, 1) := by decide +kernel
theorem dL_law_1148 : decode cL_law 1148 = .ok (.iadd, 1) := by decide +kernel
theorem dL_law_1149 : decode cL_law 1149 = .ok (.iaload, 1) := by decide +kernel
theorem dL_law_1150 : decode cL_law 1150 = .ok (.aload_n 0, 1) := by decide +kernel
theorem dL_law_1151 : decode cL_law 1151 = .ok (.iload_n 3, 1) := by decide +kernel
theorem dL_law_1152 : decode cL_law 1152 = .ok (.iconst 2, 1) := by decide +kernel
theorem dL_law_1153 : decode cL_law 1153 = .ok (.iadd, 1) := by decide +kernel
theorem dL_law_1154 : decode cL_law 1154 = .ok (.iaload, 1) := by decide +kernel
theorem dL_law_1155 : decode cL_law 1155 = .ok (.invokevirtual 121, 3) := by decide +kernel
theorem dL_law_1158 : decode cL_law 1158 = .ok (.if_icmp .eq 285, 3) := by decide +kernel
set_option maxHeartbeats 4000000 in
set_option maxRecDepth 100000 in
theorem law_part {p : Program} {l : Launch} {e : Env} {s : State} {m : MethodId} {below : List Frame} {meth : Method} {c : Code} {b : Nat} {xs : Nat → Int32} {H : Heap} {locs : List Loc} {ls : Array Slot} {dC : Nat → ClassId} {dI : Nat → Nat → Nat} {aC : Nat → ClassId} {hh bb mm d : Nat} (C0 : lw_At p s m meth c b 6 xs) (hK : zK (dC, dI) aC s) (hR : zReady s H dC dI aC hh bb mm d) (hS : va_S (fun q => s.heap.size ≤ q) s.heap H locs) (hl : lv_has ls 4 [(3, .int 0), (2, .ref mm), (1, .ref hh), (0, .ref b)]) : W p l e room_1 s m #[Value.ref b] below meth c H locs 8431 1660372 (lw_Z below #[Value.ref b] s) (F0 m 928 ls []) := by
  have C1 := C0
  obtain ⟨hx, hb, hr, hml, hown0, hts, hX, hbl, hlocks, hgv⟩ := C0
  obtain ⟨hPh, hFh, hPm, hFm, ez1, ez2, ez3, ez4, hz0⟩ := hR
  have hown : s.vm.findClass RL = some m.cls := hown0
  have hall : ∀ w ∈ zAll, w.before #[Value.ref b] s = true := fun w h => hts w (zAll_in w h)
  have hbA : ¬ (fun q : Nat => s.heap.size ≤ q) b := Nat.not_le.mpr hbl
  generalize hAe : (fun q : Nat => s.heap.size ≤ q) = A at hS hbA
  have hA : ∀ q : Nat, s.heap.size ≤ q → A q := fun q h => by rw [← hAe]; exact h
  generalize hQ : lw_Z below #[Value.ref b] s = QQ
  obtain ⟨x1, hx1⟩ : ∃ y, xs (1 : Int32).toNatClampNeg = y := ⟨_, rfl⟩
  obtain ⟨x2, hx2⟩ : ∃ y, xs (2 : Int32).toNatClampNeg = y := ⟨_, rfl⟩
  obtain ⟨x3, hx3⟩ : ∃ y, xs (3 : Int32).toNatClampNeg = y := ⟨_, rfl⟩
  by_cases hk : zok x1 = true
  · obtain ⟨a1, ea1⟩ : ∃ q, q = bb + (1 + 6 * x1.toNatClampNeg) := ⟨_, rfl⟩
    obtain ⟨a2, ea2⟩ : ∃ q, q = d + (7485 + 9 * x1.toNatClampNeg) := ⟨_, rfl⟩
    have hn12 := zok_12 hk
    have hsl : zslot bb x1 = some a1 := by rw [ea1]; exact zslot_1 hk
    have hSl : va_P (dC, dI) vwCl (zSlotW aC a1) H := by rw [ea1]; exact hFh _ hn12
    have hTh : va_P (dC, dI) vwCl (zThW aC a2) H := by rw [ea2]; exact hFm _ hn12
    have hP : va_P (dC, dI) vwCl [(hh, .inr (10, [.ref (bb + 0), .ref (bb + 73), .ref (bb + 75), .ref (bb + 76), .ref (bb + 80), .ref (bb + 81), .ref (bb + 88), .ref (bb + 95), .ref (bb + 100), .ref (bb + 106), .int 0, .ref (bb + 107), .int 0])), (bb + 0, .inl (aC 3, 12, .inr (.inr (.inr (.inr (zrefs (fun i => bb + (1 + 6 * i)) 12)))))), (a1, .inr (5, [.int 0, .int 0, .int 0, .int 0, .int 0, .int 0, .int 0, .ref (a1 + 1), .ref (a1 + 2), .ref (a1 + 3), .ref (a1 + 4), .ref (a1 + 5)])), (mm, .inr (15, [.ref (d + 0), .int 0, .ref (d + 1), .int 0, .ref (d + 2), .ref (d + 3), .ref (d + 68), .ref (d + 77), .ref (d + 78), .int 0, .int 0, .ref (d + 79), .int 0, .int 0, .int 0, .ref (d + 80), .int 0, .int 0, .int 0, .int 0, .ref (d + 81), .ref (d + 82), .int (-1), .ref (d + 91), .int 0, .int 0, .ref (d + 92), .int 0, .ref (d + 93), .int 0, .ref (d + 94), .int 0, .ref (d + 95), .ref (d + 96), .ref (d + 97), .ref (d + 98), .int 0, .int 0, .ref (d + 99), .null, .null, .null, .null, .null, .ref (d + 148), .ref (d + 175), .ref (d + 176), .ref (d + 177), .int 0, .ref (d + 178), .ref (d + 179), .ref (d + 180), .ref (d + 185), .ref (d + 190), .ref (d + 191), .ref (d + 192), .ref (d + 193), .ref (d + 201), .ref (d + 209), .ref (d + 210), .ref (d + 211), .ref (d + 272), .ref (d + 273), .int 0, .ref (d + 274)])), (d + 81, .inl (aC 6, 12, .inr (.inr (.inr (.inr (zrefs (fun i => d + (7485 + 9 * i)) 12)))))), (a2, .inr (13, [.int 0, .ref (a2 + 1 + 0), .ref (a2 + 1 + 1), .int 0, .int 0, .int 0, .ref (a2 + 1 + 2), .ref (a2 + 1 + 3), .ref (a2 + 1 + 4), .ref (a2 + 1 + 5), .int 0, .ref (a2 + 1 + 6), .int 0, .int 0, .ref (a2 + 1 + 7)]))] H := zP_c (hPh 0 _ rfl) (zP_c (hPh 1 _ rfl) (zP_c (hSl 0 _ rfl) (zP_c (hPm 0 _ rfl) (zP_c (hPm 15 _ rfl) (zP_c (hTh 0 _ rfl) (zP_n))))))
    have hD : va_D A [(hh, .inr (10, [.ref (bb + 0), .ref (bb + 73), .ref (bb + 75), .ref (bb + 76), .ref (bb + 80), .ref (bb + 81), .ref (bb + 88), .ref (bb + 95), .ref (bb + 100), .ref (bb + 106), .int 0, .ref (bb + 107), .int 0])), (bb + 0, .inl (aC 3, 12, .inr (.inr (.inr (.inr (zrefs (fun i => bb + (1 + 6 * i)) 12)))))), (a1, .inr (5, [.int 0, .int 0, .int 0, .int 0, .int 0, .int 0, .int 0, .ref (a1 + 1), .ref (a1 + 2), .ref (a1 + 3), .ref (a1 + 4), .ref (a1 + 5)])), (mm, .inr (15, [.ref (d + 0), .int 0, .ref (d + 1), .int 0, .ref (d + 2), .ref (d + 3), .ref (d + 68), .ref (d + 77), .ref (d + 78), .int 0, .int 0, .ref (d + 79), .int 0, .int 0, .int 0, .ref (d + 80), .int 0, .int 0, .int 0, .int 0, .ref (d + 81), .ref (d + 82), .int (-1), .ref (d + 91), .int 0, .int 0, .ref (d + 92), .int 0, .ref (d + 93), .int 0, .ref (d + 94), .int 0, .ref (d + 95), .ref (d + 96), .ref (d + 97), .ref (d + 98), .int 0, .int 0, .ref (d + 99), .null, .null, .null, .null, .null, .ref (d + 148), .ref (d + 175), .ref (d + 176), .ref (d + 177), .int 0, .ref (d + 178), .ref (d + 179), .ref (d + 180), .ref (d + 185), .ref (d + 190), .ref (d + 191), .ref (d + 192), .ref (d + 193), .ref (d + 201), .ref (d + 209), .ref (d + 210), .ref (d + 211), .ref (d + 272), .ref (d + 273), .int 0, .ref (d + 274)])), (d + 81, .inl (aC 6, 12, .inr (.inr (.inr (.inr (zrefs (fun i => d + (7485 + 9 * i)) 12)))))), (a2, .inr (13, [.int 0, .ref (a2 + 1 + 0), .ref (a2 + 1 + 1), .int 0, .int 0, .int 0, .ref (a2 + 1 + 2), .ref (a2 + 1 + 3), .ref (a2 + 1 + 4), .ref (a2 + 1 + 5), .int 0, .ref (a2 + 1 + 6), .int 0, .int 0, .ref (a2 + 1 + 7)]))] := zUp_D (lo := s.heap.size) hA (zUp_c (by omega) (zUp_c (by omega) (zUp_c (by omega) (zUp_c (by omega) (zUp_c (by omega) (zUp_c (by omega) (zUp_n)))))))
    clear hPh hFh hPm hFm hSl hTh
    refine lv_aload_n hx hb dL_law_928 rfl (lv_at hl 2 rfl) ?_
    refine lv_aload_n hx hb dL_law_929 rfl (lv_at hl 3 rfl) ?_
    refine lv_iload_n hx hb dL_law_930 rfl (lv_at hl 0 rfl) ?_
    refine lv_iconst (v := 1) hx hb dL_law_931 (by decide) ?_
    refine lv_iadd hx hb dL_law_932 ?_
    refine lv_topi (fun y140271 ey140271 => ?_)
    obtain rfl : y140271 = 1 := by rw [ey140271]; decide
    try clear ey140271
    show W p l e _ s m _ below meth c _ _ _ _ QQ (F0 m 933 ls [.int 1, .ref b, .ref hh])
    refine zsld hx hb hX hbl hbA hS (zvp (by decide)) hx1 dL_law_933 ?_
    refine lv_aload_n hx hb dL_law_934 rfl (lv_at hl 3 rfl) ?_
    refine lv_iload_n hx hb dL_law_935 rfl (lv_at hl 0 rfl) ?_
    refine lv_iconst (v := 2) hx hb dL_law_936 (by decide) ?_
    refine lv_iadd hx hb dL_law_937 ?_
    refine lv_topi (fun y140272 ey140272 => ?_)
    obtain rfl : y140272 = 2 := by rw [ey140272]; decide
    try clear ey140272
    show W p l e _ s m _ below meth c _ _ _ _ QQ (F0 m 938 ls [.int 2, .ref b, .int x1, .ref hh])
    refine zsld hx hb hX hbl hbA hS (zvp (by decide)) hx2 dL_law_938 ?_
    refine lv_aload_n hx hb dL_law_939 rfl (lv_at hl 3 rfl) ?_
    refine lv_iload_n hx hb dL_law_940 rfl (lv_at hl 0 rfl) ?_
    refine lv_iconst (v := 3) hx hb dL_law_941 (by decide) ?_
    refine lv_iadd hx hb dL_law_942 ?_
    refine lv_topi (fun y140273 ey140273 => ?_)
    obtain rfl : y140273 = 3 := by rw [ey140273]; decide
    try clear ey140273
    show W p l e _ s m _ below meth c _ _ _ _ QQ (F0 m 943 ls [.int 3, .ref b, .int x2, .int x1, .ref hh])
    refine zsld hx hb hX hbl hbA hS (zvp (by decide)) hx3 dL_law_943 ?_
    refine zro_i hS hA (va_runV (As := [.int x1, .int x2, .int x3]) (rest := []) ⟨hx, hb, hml, hown, hall⟩ (c_X11_part_in l dC dI aC hh bb a1 x1 x2 x3 H.size hsl) (cwV 3 hall (zgV zw_657 zw_659 zw_660 zw_802 g_X11_part rfl) rfl rfl rfl (by decide +kernel) ⟨Nat.le_of_ble_eq_true rfl, Nat.le_of_ble_eq_true rfl⟩) (zPre_V (As := [.int x1, .int x2, .int x3]) hK hP hD [0, 1, 2] rfl (by decide +kernel) (ci := 10) (q0 := 0) rfl rfl) rfl rfl hl.1 rfl (lv_room (Nat.le_of_ble_eq_true rfl)) dL_law_944 ⟨Nat.le_of_ble_eq_true rfl, Nat.le_of_ble_eq_true rfl⟩) (fun ra L140274 hw hS' => ?_)
    clear hS
    have hS := hS'
    clear hS'
    have hwa := hw
    clear hw
    refine lv_aload_n hx hb dL_law_947 rfl (lv_at hl 1 rfl) ?_
    refine lv_aload_n hx hb dL_law_948 rfl (lv_at hl 3 rfl) ?_
    refine lv_iload_n hx hb dL_law_949 rfl (lv_at hl 0 rfl) ?_
    show W p l e _ s m _ below meth c _ _ _ _ QQ (F0 m 950 ls [.int 0, .ref b, .ref mm, .int ra])
    refine lv_iconst (v := 1) hx hb dL_law_950 (by decide) ?_
    refine lv_iadd hx hb dL_law_951 ?_
    refine lv_topi (fun y140275 ey140275 => ?_)
    obtain rfl : y140275 = 1 := by rw [ey140275]; decide
    try clear ey140275
    refine zsld hx hb hX hbl hbA hS (zvp (by decide)) hx1 dL_law_952 ?_
    refine lv_aload_n hx hb dL_law_953 rfl (lv_at hl 3 rfl) ?_
    refine lv_iload_n hx hb dL_law_954 rfl (lv_at hl 0 rfl) ?_
    show W p l e _ s m _ below meth c _ _ _ _ QQ (F0 m 955 ls [.int 0, .ref b, .int x1, .ref mm, .int ra])
    refine lv_iconst (v := 2) hx hb dL_law_955 (by decide) ?_
    refine lv_iadd hx hb dL_law_956 ?_
    refine lv_topi (fun y140276 ey140276 => ?_)
    obtain rfl : y140276 = 2 := by rw [ey140276]; decide
    try clear ey140276
    refine zsld hx hb hX hbl hbA hS (zvp (by decide)) hx2 dL_law_957 ?_
    refine lv_aload_n hx hb dL_law_958 rfl (lv_at hl 3 rfl) ?_
    refine lv_iload_n hx hb dL_law_959 rfl (lv_at hl 0 rfl) ?_
    show W p l e _ s m _ below meth c _ _ _ _ QQ (F0 m 960 ls [.int 0, .ref b, .int x2, .int x1, .ref mm, .int ra])
    refine lv_iconst (v := 3) hx hb dL_law_960 (by decide) ?_
    refine lv_iadd hx hb dL_law_961 ?_
    refine lv_topi (fun y140277 ey140277 => ?_)
    obtain rfl : y140277 = 3 := by rw [ey140277]; decide
    try clear ey140277
    refine zsld hx hb hX hbl hbA hS (zvp (by decide)) hx3 dL_law_962 ?_
    refine zro_i hS hA (va_runV (As := [.int x1, .int x2, .int x3]) (rest := [.int ra]) ⟨hx, hb, hml, hown, hall⟩ (c_X16_part__in l dC dI aC mm d a2 x1 x2 x3 H.size hk ea2) (cwV 3 hall (zgV zw_661 zw_663 zw_664 zw_812 g_X16_part_ rfl) rfl rfl rfl (by decide +kernel) ⟨Nat.le_of_ble_eq_true rfl, Nat.le_of_ble_eq_true rfl⟩) (zPre_V (As := [.int x1, .int x2, .int x3]) hK hP hD [3, 4, 5] rfl (by decide +kernel) (ci := 15) (q0 := 0) rfl rfl) rfl rfl hl.1 rfl (lv_room (Nat.le_of_ble_eq_true rfl)) dL_law_963 ⟨Nat.le_of_ble_eq_true rfl, Nat.le_of_ble_eq_true rfl⟩) (fun rb L140278 hw hS' => ?_)
    clear hS
    have hS := hS'
    clear hS'
    have hwb := hw
    clear hw
    refine lv_icmp_eq (tgt := 1443) hx hb dL_law_966 (by decide) (fun _ => ?_) (fun hne => absurd (hwa.trans hwb.symm) hne)
    subst hQ
    subst hAe
    exact law_tail C1 (Nat.le_of_ble_eq_true rfl) (Nat.le_of_ble_eq_true rfl) hS (lv_sub hl [0, 3] rfl)
  · have hP : va_P (dC, dI) vwCl [(hh, .inr (10, [.ref (bb + 0), .ref (bb + 73), .ref (bb + 75), .ref (bb + 76), .ref (bb + 80), .ref (bb + 81), .ref (bb + 88), .ref (bb + 95), .ref (bb + 100), .ref (bb + 106), .int 0, .ref (bb + 107), .int 0])), (bb + 0, .inl (aC 3, 12, .inr (.inr (.inr (.inr (zrefs (fun i => bb + (1 + 6 * i)) 12)))))), (mm, .inr (15, [.ref (d + 0), .int 0, .ref (d + 1), .int 0, .ref (d + 2), .ref (d + 3), .ref (d + 68), .ref (d + 77), .ref (d + 78), .int 0, .int 0, .ref (d + 79), .int 0, .int 0, .int 0, .ref (d + 80), .int 0, .int 0, .int 0, .int 0, .ref (d + 81), .ref (d + 82), .int (-1), .ref (d + 91), .int 0, .int 0, .ref (d + 92), .int 0, .ref (d + 93), .int 0, .ref (d + 94), .int 0, .ref (d + 95), .ref (d + 96), .ref (d + 97), .ref (d + 98), .int 0, .int 0, .ref (d + 99), .null, .null, .null, .null, .null, .ref (d + 148), .ref (d + 175), .ref (d + 176), .ref (d + 177), .int 0, .ref (d + 178), .ref (d + 179), .ref (d + 180), .ref (d + 185), .ref (d + 190), .ref (d + 191), .ref (d + 192), .ref (d + 193), .ref (d + 201), .ref (d + 209), .ref (d + 210), .ref (d + 211), .ref (d + 272), .ref (d + 273), .int 0, .ref (d + 274)])), (d + 81, .inl (aC 6, 12, .inr (.inr (.inr (.inr (zrefs (fun i => d + (7485 + 9 * i)) 12))))))] H := zP_c (hPh 0 _ rfl) (zP_c (hPh 1 _ rfl) (zP_c (hPm 0 _ rfl) (zP_c (hPm 15 _ rfl) (zP_n))))
    have hD : va_D A [(hh, .inr (10, [.ref (bb + 0), .ref (bb + 73), .ref (bb + 75), .ref (bb + 76), .ref (bb + 80), .ref (bb + 81), .ref (bb + 88), .ref (bb + 95), .ref (bb + 100), .ref (bb + 106), .int 0, .ref (bb + 107), .int 0])), (bb + 0, .inl (aC 3, 12, .inr (.inr (.inr (.inr (zrefs (fun i => bb + (1 + 6 * i)) 12)))))), (mm, .inr (15, [.ref (d + 0), .int 0, .ref (d + 1), .int 0, .ref (d + 2), .ref (d + 3), .ref (d + 68), .ref (d + 77), .ref (d + 78), .int 0, .int 0, .ref (d + 79), .int 0, .int 0, .int 0, .ref (d + 80), .int 0, .int 0, .int 0, .int 0, .ref (d + 81), .ref (d + 82), .int (-1), .ref (d + 91), .int 0, .int 0, .ref (d + 92), .int 0, .ref (d + 93), .int 0, .ref (d + 94), .int 0, .ref (d + 95), .ref (d + 96), .ref (d + 97), .ref (d + 98), .int 0, .int 0, .ref (d + 99), .null, .null, .null, .null, .null, .ref (d + 148), .ref (d + 175), .ref (d + 176), .ref (d + 177), .int 0, .ref (d + 178), .ref (d + 179), .ref (d + 180), .ref (d + 185), .ref (d + 190), .ref (d + 191), .ref (d + 192), .ref (d + 193), .ref (d + 201), .ref (d + 209), .ref (d + 210), .ref (d + 211), .ref (d + 272), .ref (d + 273), .int 0, .ref (d + 274)])), (d + 81, .inl (aC 6, 12, .inr (.inr (.inr (.inr (zrefs (fun i => d + (7485 + 9 * i)) 12))))))] := zUp_D (lo := s.heap.size) hA (zUp_c (by omega) (zUp_c (by omega) (zUp_c (by omega) (zUp_c (by omega) (zUp_n)))))
    clear hPh hFh hPm hFm
    refine lv_aload_n hx hb dL_law_928 rfl (lv_at hl 2 rfl) ?_
    refine lv_aload_n hx hb dL_law_929 rfl (lv_at hl 3 rfl) ?_
    refine lv_iload_n hx hb dL_law_930 rfl (lv_at hl 0 rfl) ?_
    refine lv_iconst (v := 1) hx hb dL_law_931 (by decide) ?_
    refine lv_iadd hx hb dL_law_932 ?_
    refine lv_topi (fun y140279 ey140279 => ?_)
    obtain rfl : y140279 = 1 := by rw [ey140279]; decide
    try clear ey140279
    show W p l e _ s m _ below meth c _ _ _ _ QQ (F0 m 933 ls [.int 1, .ref b, .ref hh])
    refine zsld hx hb hX hbl hbA hS (zvp (by decide)) hx1 dL_law_933 ?_
    refine lv_aload_n hx hb dL_law_934 rfl (lv_at hl 3 rfl) ?_
    refine lv_iload_n hx hb dL_law_935 rfl (lv_at hl 0 rfl) ?_
    refine lv_iconst (v := 2) hx hb dL_law_936 (by decide) ?_
    refine lv_iadd hx hb dL_law_937 ?_
    refine lv_topi (fun y140280 ey140280 => ?_)
    obtain rfl : y140280 = 2 := by rw [ey140280]; decide
    try clear ey140280
    show W p l e _ s m _ below meth c _ _ _ _ QQ (F0 m 938 ls [.int 2, .ref b, .int x1, .ref hh])
    refine zsld hx hb hX hbl hbA hS (zvp (by decide)) hx2 dL_law_938 ?_
    refine lv_aload_n hx hb dL_law_939 rfl (lv_at hl 3 rfl) ?_
    refine lv_iload_n hx hb dL_law_940 rfl (lv_at hl 0 rfl) ?_
    refine lv_iconst (v := 3) hx hb dL_law_941 (by decide) ?_
    refine lv_iadd hx hb dL_law_942 ?_
    refine lv_topi (fun y140281 ey140281 => ?_)
    obtain rfl : y140281 = 3 := by rw [ey140281]; decide
    try clear ey140281
    show W p l e _ s m _ below meth c _ _ _ _ QQ (F0 m 943 ls [.int 3, .ref b, .int x2, .int x1, .ref hh])
    refine zsld hx hb hX hbl hbA hS (zvp (by decide)) hx3 dL_law_943 ?_
    refine zro_i hS hA (va_runV (As := [.int x1, .int x2, .int x3]) (rest := []) ⟨hx, hb, hml, hown, hall⟩ (c_X11_part_out l dC dI aC hh bb x1 x2 x3 H.size (zslot_0 hk)) (cwV 3 hall (zgV zw_657 zw_659 zw_660 zw_802 g_X11_part rfl) rfl rfl rfl (by decide +kernel) ⟨Nat.le_of_ble_eq_true rfl, Nat.le_of_ble_eq_true rfl⟩) (zPre_V (As := [.int x1, .int x2, .int x3]) hK hP hD [0, 1] rfl (by decide +kernel) (ci := 10) (q0 := 0) rfl rfl) rfl rfl hl.1 rfl (lv_room (Nat.le_of_ble_eq_true rfl)) dL_law_944 ⟨Nat.le_of_ble_eq_true rfl, Nat.le_of_ble_eq_true rfl⟩) (fun ra L140282 hw hS' => ?_)
    clear hS
    have hS := hS'
    clear hS'
    have hwa := hw
    clear hw
    refine lv_aload_n hx hb dL_law_947 rfl (lv_at hl 1 rfl) ?_
    refine lv_aload_n hx hb dL_law_948 rfl (lv_at hl 3 rfl) ?_
    refine lv_iload_n hx hb dL_law_949 rfl (lv_at hl 0 rfl) ?_
    show W p l e _ s m _ below meth c _ _ _ _ QQ (F0 m 950 ls [.int 0, .ref b, .ref mm, .int ra])
    refine lv_iconst (v := 1) hx hb dL_law_950 (by decide) ?_
    refine lv_iadd hx hb dL_law_951 ?_
    refine lv_topi (fun y140283 ey140283 => ?_)
    obtain rfl : y140283 = 1 := by rw [ey140283]; decide
    try clear ey140283
    refine zsld hx hb hX hbl hbA hS (zvp (by decide)) hx1 dL_law_952 ?_
    refine lv_aload_n hx hb dL_law_953 rfl (lv_at hl 3 rfl) ?_
    refine lv_iload_n hx hb dL_law_954 rfl (lv_at hl 0 rfl) ?_
    show W p l e _ s m _ below meth c _ _ _ _ QQ (F0 m 955 ls [.int 0, .ref b, .int x1, .ref mm, .int ra])
    refine lv_iconst (v := 2) hx hb dL_law_955 (by decide) ?_
    refine lv_iadd hx hb dL_law_956 ?_
    refine lv_topi (fun y140284 ey140284 => ?_)
    obtain rfl : y140284 = 2 := by rw [ey140284]; decide
    try clear ey140284
    refine zsld hx hb hX hbl hbA hS (zvp (by decide)) hx2 dL_law_957 ?_
    refine lv_aload_n hx hb dL_law_958 rfl (lv_at hl 3 rfl) ?_
    refine lv_iload_n hx hb dL_law_959 rfl (lv_at hl 0 rfl) ?_
    show W p l e _ s m _ below meth c _ _ _ _ QQ (F0 m 960 ls [.int 0, .ref b, .int x2, .int x1, .ref mm, .int ra])
    refine lv_iconst (v := 3) hx hb dL_law_960 (by decide) ?_
    refine lv_iadd hx hb dL_law_961 ?_
    refine lv_topi (fun y140285 ey140285 => ?_)
    obtain rfl : y140285 = 3 := by rw [ey140285]; decide
    try clear ey140285
    refine zsld hx hb hX hbl hbA hS (zvp (by decide)) hx3 dL_law_962 ?_
    refine zro_i hS hA (va_runV (As := [.int x1, .int x2, .int x3]) (rest := [.int ra]) ⟨hx, hb, hml, hown, hall⟩ (c_X16_part__out l dC dI aC mm d x1 x2 x3 H.size hk) (cwV 3 hall (zgV zw_661 zw_663 zw_664 zw_812 g_X16_part_ rfl) rfl rfl rfl (by decide +kernel) ⟨Nat.le_of_ble_eq_true rfl, Nat.le_of_ble_eq_true rfl⟩) (zPre_V (As := [.int x1, .int x2, .int x3]) hK hP hD [2, 3] rfl (by decide +kernel) (ci := 15) (q0 := 0) rfl rfl) rfl rfl hl.1 rfl (lv_room (Nat.le_of_ble_eq_true rfl)) dL_law_963 ⟨Nat.le_of_ble_eq_true rfl, Nat.le_of_ble_eq_true rfl⟩) (fun rb L140286 hw hS' => ?_)
    clear hS
    have hS := hS'
    clear hS'
    have hwb := hw
    clear hw
    refine lv_icmp_eq (tgt := 1443) hx hb dL_law_966 (by decide) (fun _ => ?_) (fun hne => absurd (hwa.trans hwb.symm) hne)
    subst hQ
    subst hAe
    exact law_tail C1 (Nat.le_of_ble_eq_true rfl) (Nat.le_of_ble_eq_true rfl) hS (lv_sub hl [0, 3] rfl)

set_option maxHeartbeats 4000000 in
set_option maxRecDepth 100000 in
theorem law_check {p : Program} {l : Launch} {e : Env} {s : State} {m : MethodId} {below : List Frame} {meth : Method} {c : Code} {b : Nat} {xs : Nat → Int32} {H : Heap} {locs : List Loc} {ls : Array Slot} {dC : Nat → ClassId} {dI : Nat → Nat → Nat} {aC : Nat → ClassId} {hh bb mm d : Nat} (C0 : lw_At p s m meth c b 6 xs) (hK : zK (dC, dI) aC s) (hR : zReady s H dC dI aC hh bb mm d) (hS : va_S (fun q => s.heap.size ≤ q) s.heap H locs) (hl : lv_has ls 4 [(3, .int 0), (2, .ref mm), (1, .ref hh), (0, .ref b)]) : W p l e room_1 s m #[Value.ref b] below meth c H locs 8431 1660372 (lw_Z below #[Value.ref b] s) (F0 m 971 ls []) := by
  have C1 := C0
  obtain ⟨hx, hb, hr, hml, hown0, hts, hX, hbl, hlocks, hgv⟩ := C0
  obtain ⟨hPh, hFh, hPm, hFm, ez1, ez2, ez3, ez4, hz0⟩ := hR
  have hown : s.vm.findClass RL = some m.cls := hown0
  have hall : ∀ w ∈ zAll, w.before #[Value.ref b] s = true := fun w h => hts w (zAll_in w h)
  have hbA : ¬ (fun q : Nat => s.heap.size ≤ q) b := Nat.not_le.mpr hbl
  generalize hAe : (fun q : Nat => s.heap.size ≤ q) = A at hS hbA
  have hA : ∀ q : Nat, s.heap.size ≤ q → A q := fun q h => by rw [← hAe]; exact h
  generalize hQ : lw_Z below #[Value.ref b] s = QQ
  obtain ⟨x1, hx1⟩ : ∃ y, xs (1 : Int32).toNatClampNeg = y := ⟨_, rfl⟩
  obtain ⟨x2, hx2⟩ : ∃ y, xs (2 : Int32).toNatClampNeg = y := ⟨_, rfl⟩
  by_cases hk : zok x1 = true
  · obtain ⟨a1, ea1⟩ : ∃ q, q = bb + (1 + 6 * x1.toNatClampNeg) := ⟨_, rfl⟩
    obtain ⟨a2, ea2⟩ : ∃ q, q = d + (7485 + 9 * x1.toNatClampNeg) := ⟨_, rfl⟩
    have hn12 := zok_12 hk
    have hsl : zslot bb x1 = some a1 := by rw [ea1]; exact zslot_1 hk
    have hSl : va_P (dC, dI) vwCl (zSlotW aC a1) H := by rw [ea1]; exact hFh _ hn12
    have hTh : va_P (dC, dI) vwCl (zThW aC a2) H := by rw [ea2]; exact hFm _ hn12
    have hP : va_P (dC, dI) vwCl [(hh, .inr (10, [.ref (bb + 0), .ref (bb + 73), .ref (bb + 75), .ref (bb + 76), .ref (bb + 80), .ref (bb + 81), .ref (bb + 88), .ref (bb + 95), .ref (bb + 100), .ref (bb + 106), .int 0, .ref (bb + 107), .int 0])), (bb + 0, .inl (aC 3, 12, .inr (.inr (.inr (.inr (zrefs (fun i => bb + (1 + 6 * i)) 12)))))), (a1, .inr (5, [.int 0, .int 0, .int 0, .int 0, .int 0, .int 0, .int 0, .ref (a1 + 1), .ref (a1 + 2), .ref (a1 + 3), .ref (a1 + 4), .ref (a1 + 5)])), (mm, .inr (15, [.ref (d + 0), .int 0, .ref (d + 1), .int 0, .ref (d + 2), .ref (d + 3), .ref (d + 68), .ref (d + 77), .ref (d + 78), .int 0, .int 0, .ref (d + 79), .int 0, .int 0, .int 0, .ref (d + 80), .int 0, .int 0, .int 0, .int 0, .ref (d + 81), .ref (d + 82), .int (-1), .ref (d + 91), .int 0, .int 0, .ref (d + 92), .int 0, .ref (d + 93), .int 0, .ref (d + 94), .int 0, .ref (d + 95), .ref (d + 96), .ref (d + 97), .ref (d + 98), .int 0, .int 0, .ref (d + 99), .null, .null, .null, .null, .null, .ref (d + 148), .ref (d + 175), .ref (d + 176), .ref (d + 177), .int 0, .ref (d + 178), .ref (d + 179), .ref (d + 180), .ref (d + 185), .ref (d + 190), .ref (d + 191), .ref (d + 192), .ref (d + 193), .ref (d + 201), .ref (d + 209), .ref (d + 210), .ref (d + 211), .ref (d + 272), .ref (d + 273), .int 0, .ref (d + 274)])), (d + 81, .inl (aC 6, 12, .inr (.inr (.inr (.inr (zrefs (fun i => d + (7485 + 9 * i)) 12)))))), (a2, .inr (13, [.int 0, .ref (a2 + 1 + 0), .ref (a2 + 1 + 1), .int 0, .int 0, .int 0, .ref (a2 + 1 + 2), .ref (a2 + 1 + 3), .ref (a2 + 1 + 4), .ref (a2 + 1 + 5), .int 0, .ref (a2 + 1 + 6), .int 0, .int 0, .ref (a2 + 1 + 7)]))] H := zP_c (hPh 0 _ rfl) (zP_c (hPh 1 _ rfl) (zP_c (hSl 0 _ rfl) (zP_c (hPm 0 _ rfl) (zP_c (hPm 15 _ rfl) (zP_c (hTh 0 _ rfl) (zP_n))))))
    have hD : va_D A [(hh, .inr (10, [.ref (bb + 0), .ref (bb + 73), .ref (bb + 75), .ref (bb + 76), .ref (bb + 80), .ref (bb + 81), .ref (bb + 88), .ref (bb + 95), .ref (bb + 100), .ref (bb + 106), .int 0, .ref (bb + 107), .int 0])), (bb + 0, .inl (aC 3, 12, .inr (.inr (.inr (.inr (zrefs (fun i => bb + (1 + 6 * i)) 12)))))), (a1, .inr (5, [.int 0, .int 0, .int 0, .int 0, .int 0, .int 0, .int 0, .ref (a1 + 1), .ref (a1 + 2), .ref (a1 + 3), .ref (a1 + 4), .ref (a1 + 5)])), (mm, .inr (15, [.ref (d + 0), .int 0, .ref (d + 1), .int 0, .ref (d + 2), .ref (d + 3), .ref (d + 68), .ref (d + 77), .ref (d + 78), .int 0, .int 0, .ref (d + 79), .int 0, .int 0, .int 0, .ref (d + 80), .int 0, .int 0, .int 0, .int 0, .ref (d + 81), .ref (d + 82), .int (-1), .ref (d + 91), .int 0, .int 0, .ref (d + 92), .int 0, .ref (d + 93), .int 0, .ref (d + 94), .int 0, .ref (d + 95), .ref (d + 96), .ref (d + 97), .ref (d + 98), .int 0, .int 0, .ref (d + 99), .null, .null, .null, .null, .null, .ref (d + 148), .ref (d + 175), .ref (d + 176), .ref (d + 177), .int 0, .ref (d + 178), .ref (d + 179), .ref (d + 180), .ref (d + 185), .ref (d + 190), .ref (d + 191), .ref (d + 192), .ref (d + 193), .ref (d + 201), .ref (d + 209), .ref (d + 210), .ref (d + 211), .ref (d + 272), .ref (d + 273), .int 0, .ref (d + 274)])), (d + 81, .inl (aC 6, 12, .inr (.inr (.inr (.inr (zrefs (fun i => d + (7485 + 9 * i)) 12)))))), (a2, .inr (13, [.int 0, .ref (a2 + 1 + 0), .ref (a2 + 1 + 1), .int 0, .int 0, .int 0, .ref (a2 + 1 + 2), .ref (a2 + 1 + 3), .ref (a2 + 1 + 4), .ref (a2 + 1 + 5), .int 0, .ref (a2 + 1 + 6), .int 0, .int 0, .ref (a2 + 1 + 7)]))] := zUp_D (lo := s.heap.size) hA (zUp_c (by omega) (zUp_c (by omega) (zUp_c (by omega) (zUp_c (by omega) (zUp_c (by omega) (zUp_c (by omega) (zUp_n)))))))
    clear hPh hFh hPm hFm hSl hTh
    refine lv_aload_n hx hb dL_law_971 rfl (lv_at hl 2 rfl) ?_
    refine lv_aload_n hx hb dL_law_972 rfl (lv_at hl 3 rfl) ?_
    refine lv_iload_n hx hb dL_law_973 rfl (lv_at hl 0 rfl) ?_
    refine lv_iconst (v := 1) hx hb dL_law_974 (by decide) ?_
    refine lv_iadd hx hb dL_law_975 ?_
    refine lv_topi (fun y140287 ey140287 => ?_)
    obtain rfl : y140287 = 1 := by rw [ey140287]; decide
    try clear ey140287
    show W p l e _ s m _ below meth c _ _ _ _ QQ (F0 m 976 ls [.int 1, .ref b, .ref hh])
    refine zsld hx hb hX hbl hbA hS (zvp (by decide)) hx1 dL_law_976 ?_
    refine lv_aload_n hx hb dL_law_977 rfl (lv_at hl 3 rfl) ?_
    refine lv_iload_n hx hb dL_law_978 rfl (lv_at hl 0 rfl) ?_
    refine lv_iconst (v := 2) hx hb dL_law_979 (by decide) ?_
    refine lv_iadd hx hb dL_law_980 ?_
    refine lv_topi (fun y140288 ey140288 => ?_)
    obtain rfl : y140288 = 2 := by rw [ey140288]; decide
    try clear ey140288
    show W p l e _ s m _ below meth c _ _ _ _ QQ (F0 m 981 ls [.int 2, .ref b, .int x1, .ref hh])
    refine zsld hx hb hX hbl hbA hS (zvp (by decide)) hx2 dL_law_981 ?_
    refine zro_i hS hA (va_runV (As := [.int x1, .int x2]) (rest := []) ⟨hx, hb, hml, hown, hall⟩ (c_X11_check_in l dC dI aC hh bb a1 x1 x2 H.size hsl) (cwV 2 hall (zgV zw_665 zw_667 zw_668 zw_802 g_X11_check rfl) rfl rfl rfl (by decide +kernel) ⟨Nat.le_of_ble_eq_true rfl, Nat.le_of_ble_eq_true rfl⟩) (zPre_V (As := [.int x1, .int x2]) hK hP hD [0, 1, 2] rfl (by decide +kernel) (ci := 10) (q0 := 0) rfl rfl) rfl rfl hl.1 rfl (lv_room (Nat.le_of_ble_eq_true rfl)) dL_law_982 ⟨Nat.le_of_ble_eq_true rfl, Nat.le_of_ble_eq_true rfl⟩) (fun ra L140289 hw hS' => ?_)
    clear hS
    have hS := hS'
    clear hS'
    have hwa := hw
    clear hw
    refine lv_aload_n hx hb dL_law_985 rfl (lv_at hl 1 rfl) ?_
    refine lv_aload_n hx hb dL_law_986 rfl (lv_at hl 3 rfl) ?_
    refine lv_iload_n hx hb dL_law_987 rfl (lv_at hl 0 rfl) ?_
    show W p l e _ s m _ below meth c _ _ _ _ QQ (F0 m 988 ls [.int 0, .ref b, .ref mm, .int ra])
    refine lv_iconst (v := 1) hx hb dL_law_988 (by decide) ?_
    refine lv_iadd hx hb dL_law_989 ?_
    refine lv_topi (fun y140290 ey140290 => ?_)
    obtain rfl : y140290 = 1 := by rw [ey140290]; decide
    try clear ey140290
    refine zsld hx hb hX hbl hbA hS (zvp (by decide)) hx1 dL_law_990 ?_
    refine lv_aload_n hx hb dL_law_991 rfl (lv_at hl 3 rfl) ?_
    refine lv_iload_n hx hb dL_law_992 rfl (lv_at hl 0 rfl) ?_
    show W p l e _ s m _ below meth c _ _ _ _ QQ (F0 m 993 ls [.int 0, .ref b, .int x1, .ref mm, .int ra])
    refine lv_iconst (v := 2) hx hb dL_law_993 (by decide) ?_
    refine lv_iadd hx hb dL_law_994 ?_
    refine lv_topi (fun y140291 ey140291 => ?_)
    obtain rfl : y140291 = 2 := by rw [ey140291]; decide
    try clear ey140291
    refine zsld hx hb hX hbl hbA hS (zvp (by decide)) hx2 dL_law_995 ?_
    refine zro_i hS hA (va_runV (As := [.int x1, .int x2]) (rest := [.int ra]) ⟨hx, hb, hml, hown, hall⟩ (c_X16_check_in l dC dI aC mm d a2 x1 x2 H.size hk ea2) (cwV 2 hall (zgV zw_669 zw_671 zw_672 zw_812 g_X16_check rfl) rfl rfl rfl (by decide +kernel) ⟨Nat.le_of_ble_eq_true rfl, Nat.le_of_ble_eq_true rfl⟩) (zPre_V (As := [.int x1, .int x2]) hK hP hD [3, 4, 5] rfl (by decide +kernel) (ci := 15) (q0 := 0) rfl rfl) rfl rfl hl.1 rfl (lv_room (Nat.le_of_ble_eq_true rfl)) dL_law_996 ⟨Nat.le_of_ble_eq_true rfl, Nat.le_of_ble_eq_true rfl⟩) (fun rb L140292 hw hS' => ?_)
    clear hS
    have hS := hS'
    clear hS'
    have hwb := hw
    clear hw
    refine lv_icmp_eq (tgt := 1443) hx hb dL_law_999 (by decide) (fun _ => ?_) (fun hne => absurd (hwa.trans hwb.symm) hne)
    subst hQ
    subst hAe
    exact law_tail C1 (Nat.le_of_ble_eq_true rfl) (Nat.le_of_ble_eq_true rfl) hS (lv_sub hl [0, 3] rfl)
  · have hP : va_P (dC, dI) vwCl [(hh, .inr (10, [.ref (bb + 0), .ref (bb + 73), .ref (bb + 75), .ref (bb + 76), .ref (bb + 80), .ref (bb + 81), .ref (bb + 88), .ref (bb + 95), .ref (bb + 100), .ref (bb + 106), .int 0, .ref (bb + 107), .int 0])), (bb + 0, .inl (aC 3, 12, .inr (.inr (.inr (.inr (zrefs (fun i => bb + (1 + 6 * i)) 12)))))), (mm, .inr (15, [.ref (d + 0), .int 0, .ref (d + 1), .int 0, .ref (d + 2), .ref (d + 3), .ref (d + 68), .ref (d + 77), .ref (d + 78), .int 0, .int 0, .ref (d + 79), .int 0, .int 0, .int 0, .ref (d + 80), .int 0, .int 0, .int 0, .int 0, .ref (d + 81), .ref (d + 82), .int (-1), .ref (d + 91), .int 0, .int 0, .ref (d + 92), .int 0, .ref (d + 93), .int 0, .ref (d + 94), .int 0, .ref (d + 95), .ref (d + 96), .ref (d + 97), .ref (d + 98), .int 0, .int 0, .ref (d + 99), .null, .null, .null, .null, .null, .ref (d + 148), .ref (d + 175), .ref (d + 176), .ref (d + 177), .int 0, .ref (d + 178), .ref (d + 179), .ref (d + 180), .ref (d + 185), .ref (d + 190), .ref (d + 191), .ref (d + 192), .ref (d + 193), .ref (d + 201), .ref (d + 209), .ref (d + 210), .ref (d + 211), .ref (d + 272), .ref (d + 273), .int 0, .ref (d + 274)])), (d + 81, .inl (aC 6, 12, .inr (.inr (.inr (.inr (zrefs (fun i => d + (7485 + 9 * i)) 12))))))] H := zP_c (hPh 0 _ rfl) (zP_c (hPh 1 _ rfl) (zP_c (hPm 0 _ rfl) (zP_c (hPm 15 _ rfl) (zP_n))))
    have hD : va_D A [(hh, .inr (10, [.ref (bb + 0), .ref (bb + 73), .ref (bb + 75), .ref (bb + 76), .ref (bb + 80), .ref (bb + 81), .ref (bb + 88), .ref (bb + 95), .ref (bb + 100), .ref (bb + 106), .int 0, .ref (bb + 107), .int 0])), (bb + 0, .inl (aC 3, 12, .inr (.inr (.inr (.inr (zrefs (fun i => bb + (1 + 6 * i)) 12)))))), (mm, .inr (15, [.ref (d + 0), .int 0, .ref (d + 1), .int 0, .ref (d + 2), .ref (d + 3), .ref (d + 68), .ref (d + 77), .ref (d + 78), .int 0, .int 0, .ref (d + 79), .int 0, .int 0, .int 0, .ref (d + 80), .int 0, .int 0, .int 0, .int 0, .ref (d + 81), .ref (d + 82), .int (-1), .ref (d + 91), .int 0, .int 0, .ref (d + 92), .int 0, .ref (d + 93), .int 0, .ref (d + 94), .int 0, .ref (d + 95), .ref (d + 96), .ref (d + 97), .ref (d + 98), .int 0, .int 0, .ref (d + 99), .null, .null, .null, .null, .null, .ref (d + 148), .ref (d + 175), .ref (d + 176), .ref (d + 177), .int 0, .ref (d + 178), .ref (d + 179), .ref (d + 180), .ref (d + 185), .ref (d + 190), .ref (d + 191), .ref (d + 192), .ref (d + 193), .ref (d + 201), .ref (d + 209), .ref (d + 210), .ref (d + 211), .ref (d + 272), .ref (d + 273), .int 0, .ref (d + 274)])), (d + 81, .inl (aC 6, 12, .inr (.inr (.inr (.inr (zrefs (fun i => d + (7485 + 9 * i)) 12))))))] := zUp_D (lo := s.heap.size) hA (zUp_c (by omega) (zUp_c (by omega) (zUp_c (by omega) (zUp_c (by omega) (zUp_n)))))
    clear hPh hFh hPm hFm
    refine lv_aload_n hx hb dL_law_971 rfl (lv_at hl 2 rfl) ?_
    refine lv_aload_n hx hb dL_law_972 rfl (lv_at hl 3 rfl) ?_
    refine lv_iload_n hx hb dL_law_973 rfl (lv_at hl 0 rfl) ?_
    refine lv_iconst (v := 1) hx hb dL_law_974 (by decide) ?_
    refine lv_iadd hx hb dL_law_975 ?_
    refine lv_topi (fun y140293 ey140293 => ?_)
    obtain rfl : y140293 = 1 := by rw [ey140293]; decide
    try clear ey140293
    show W p l e _ s m _ below meth c _ _ _ _ QQ (F0 m 976 ls [.int 1, .ref b, .ref hh])
    refine zsld hx hb hX hbl hbA hS (zvp (by decide)) hx1 dL_law_976 ?_
    refine lv_aload_n hx hb dL_law_977 rfl (lv_at hl 3 rfl) ?_
    refine lv_iload_n hx hb dL_law_978 rfl (lv_at hl 0 rfl) ?_
    refine lv_iconst (v := 2) hx hb dL_law_979 (by decide) ?_
    refine lv_iadd hx hb dL_law_980 ?_
    refine lv_topi (fun y140294 ey140294 => ?_)
    obtain rfl : y140294 = 2 := by rw [ey140294]; decide
    try clear ey140294
    show W p l e _ s m _ below meth c _ _ _ _ QQ (F0 m 981 ls [.int 2, .ref b, .int x1, .ref hh])
    refine zsld hx hb hX hbl hbA hS (zvp (by decide)) hx2 dL_law_981 ?_
    refine zro_i hS hA (va_runV (As := [.int x1, .int x2]) (rest := []) ⟨hx, hb, hml, hown, hall⟩ (c_X11_check_out l dC dI aC hh bb x1 x2 H.size (zslot_0 hk)) (cwV 2 hall (zgV zw_665 zw_667 zw_668 zw_802 g_X11_check rfl) rfl rfl rfl (by decide +kernel) ⟨Nat.le_of_ble_eq_true rfl, Nat.le_of_ble_eq_true rfl⟩) (zPre_V (As := [.int x1, .int x2]) hK hP hD [0, 1] rfl (by decide +kernel) (ci := 10) (q0 := 0) rfl rfl) rfl rfl hl.1 rfl (lv_room (Nat.le_of_ble_eq_true rfl)) dL_law_982 ⟨Nat.le_of_ble_eq_true rfl, Nat.le_of_ble_eq_true rfl⟩) (fun ra L140295 hw hS' => ?_)
    clear hS
    have hS := hS'
    clear hS'
    have hwa := hw
    clear hw
    refine lv_aload_n hx hb dL_law_985 rfl (lv_at hl 1 rfl) ?_
    refine lv_aload_n hx hb dL_law_986 rfl (lv_at hl 3 rfl) ?_
    refine lv_iload_n hx hb dL_law_987 rfl (lv_at hl 0 rfl) ?_
    show W p l e _ s m _ below meth c _ _ _ _ QQ (F0 m 988 ls [.int 0, .ref b, .ref mm, .int ra])
    refine lv_iconst (v := 1) hx hb dL_law_988 (by decide) ?_
    refine lv_iadd hx hb dL_law_989 ?_
    refine lv_topi (fun y140296 ey140296 => ?_)
    obtain rfl : y140296 = 1 := by rw [ey140296]; decide
    try clear ey140296
    refine zsld hx hb hX hbl hbA hS (zvp (by decide)) hx1 dL_law_990 ?_
    refine lv_aload_n hx hb dL_law_991 rfl (lv_at hl 3 rfl) ?_
    refine lv_iload_n hx hb dL_law_992 rfl (lv_at hl 0 rfl) ?_
    show W p l e _ s m _ below meth c _ _ _ _ QQ (F0 m 993 ls [.int 0, .ref b, .int x1, .ref mm, .int ra])
    refine lv_iconst (v := 2) hx hb dL_law_993 (by decide) ?_
    refine lv_iadd hx hb dL_law_994 ?_
    refine lv_topi (fun y140297 ey140297 => ?_)
    obtain rfl : y140297 = 2 := by rw [ey140297]; decide
    try clear ey140297
    refine zsld hx hb hX hbl hbA hS (zvp (by decide)) hx2 dL_law_995 ?_
    refine zro_i hS hA (va_runV (As := [.int x1, .int x2]) (rest := [.int ra]) ⟨hx, hb, hml, hown, hall⟩ (c_X16_check_out l dC dI aC mm d x1 x2 H.size hk) (cwV 2 hall (zgV zw_669 zw_671 zw_672 zw_812 g_X16_check rfl) rfl rfl rfl (by decide +kernel) ⟨Nat.le_of_ble_eq_true rfl, Nat.le_of_ble_eq_true rfl⟩) (zPre_V (As := [.int x1, .int x2]) hK hP hD [2, 3] rfl (by decide +kernel) (ci := 15) (q0 := 0) rfl rfl) rfl rfl hl.1 rfl (lv_room (Nat.le_of_ble_eq_true rfl)) dL_law_996 ⟨Nat.le_of_ble_eq_true rfl, Nat.le_of_ble_eq_true rfl⟩) (fun rb L140298 hw hS' => ?_)
    clear hS
    have hS := hS'
    clear hS'
    have hwb := hw
    clear hw
    refine lv_icmp_eq (tgt := 1443) hx hb dL_law_999 (by decide) (fun _ => ?_) (fun hne => absurd (hwa.trans hwb.symm) hne)
    subst hQ
    subst hAe
    exact law_tail C1 (Nat.le_of_ble_eq_true rfl) (Nat.le_of_ble_eq_true rfl) hS (lv_sub hl [0, 3] rfl)

set_option maxHeartbeats 4000000 in
set_option maxRecDepth 100000 in
theorem law_poke {p : Program} {l : Launch} {e : Env} {s : State} {m : MethodId} {below : List Frame} {meth : Method} {c : Code} {b : Nat} {xs : Nat → Int32} {H : Heap} {locs : List Loc} {ls : Array Slot} {dC : Nat → ClassId} {dI : Nat → Nat → Nat} {aC : Nat → ClassId} {hh bb mm d : Nat} (C0 : lw_At p s m meth c b 6 xs) (hK : zK (dC, dI) aC s) (hR : zReady s H dC dI aC hh bb mm d) (hS : va_S (fun q => s.heap.size ≤ q) s.heap H locs) (hl : lv_has ls 4 [(3, .int 0), (2, .ref mm), (1, .ref hh), (0, .ref b)]) : W p l e room_1 s m #[Value.ref b] below meth c H locs 8431 1660372 (lw_Z below #[Value.ref b] s) (F0 m 1004 ls []) := by
  have C1 := C0
  obtain ⟨hx, hb, hr, hml, hown0, hts, hX, hbl, hlocks, hgv⟩ := C0
  obtain ⟨hPh, hFh, hPm, hFm, ez1, ez2, ez3, ez4, hz0⟩ := hR
  have hown : s.vm.findClass RL = some m.cls := hown0
  have hall : ∀ w ∈ zAll, w.before #[Value.ref b] s = true := fun w h => hts w (zAll_in w h)
  have hbA : ¬ (fun q : Nat => s.heap.size ≤ q) b := Nat.not_le.mpr hbl
  generalize hAe : (fun q : Nat => s.heap.size ≤ q) = A at hS hbA
  have hA : ∀ q : Nat, s.heap.size ≤ q → A q := fun q h => by rw [← hAe]; exact h
  generalize hQ : lw_Z below #[Value.ref b] s = QQ
  obtain ⟨x1, hx1⟩ : ∃ y, xs (1 : Int32).toNatClampNeg = y := ⟨_, rfl⟩
  obtain ⟨x2, hx2⟩ : ∃ y, xs (2 : Int32).toNatClampNeg = y := ⟨_, rfl⟩
  obtain ⟨x3, hx3⟩ : ∃ y, xs (3 : Int32).toNatClampNeg = y := ⟨_, rfl⟩
  obtain ⟨x4, hx4⟩ : ∃ y, xs (4 : Int32).toNatClampNeg = y := ⟨_, rfl⟩
  obtain ⟨x5, hx5⟩ : ∃ y, xs (5 : Int32).toNatClampNeg = y := ⟨_, rfl⟩
  by_cases hk : zok x1 = true
  · obtain ⟨a1, ea1⟩ : ∃ q, q = bb + (1 + 6 * x1.toNatClampNeg) := ⟨_, rfl⟩
    obtain ⟨a2, ea2⟩ : ∃ q, q = d + (7485 + 9 * x1.toNatClampNeg) := ⟨_, rfl⟩
    have hn12 := zok_12 hk
    have hsl : zslot bb x1 = some a1 := by rw [ea1]; exact zslot_1 hk
    have hSl : va_P (dC, dI) vwCl (zSlotW aC a1) H := by rw [ea1]; exact hFh _ hn12
    have hTh : va_P (dC, dI) vwCl (zThW aC a2) H := by rw [ea2]; exact hFm _ hn12
    have hP : va_P (dC, dI) vwCl [(hh, .inr (10, [.ref (bb + 0), .ref (bb + 73), .ref (bb + 75), .ref (bb + 76), .ref (bb + 80), .ref (bb + 81), .ref (bb + 88), .ref (bb + 95), .ref (bb + 100), .ref (bb + 106), .int 0, .ref (bb + 107), .int 0])), (bb + 0, .inl (aC 3, 12, .inr (.inr (.inr (.inr (zrefs (fun i => bb + (1 + 6 * i)) 12)))))), (a1, .inr (5, [.int 0, .int 0, .int 0, .int 0, .int 0, .int 0, .int 0, .ref (a1 + 1), .ref (a1 + 2), .ref (a1 + 3), .ref (a1 + 4), .ref (a1 + 5)])), (mm, .inr (15, [.ref (d + 0), .int 0, .ref (d + 1), .int 0, .ref (d + 2), .ref (d + 3), .ref (d + 68), .ref (d + 77), .ref (d + 78), .int 0, .int 0, .ref (d + 79), .int 0, .int 0, .int 0, .ref (d + 80), .int 0, .int 0, .int 0, .int 0, .ref (d + 81), .ref (d + 82), .int (-1), .ref (d + 91), .int 0, .int 0, .ref (d + 92), .int 0, .ref (d + 93), .int 0, .ref (d + 94), .int 0, .ref (d + 95), .ref (d + 96), .ref (d + 97), .ref (d + 98), .int 0, .int 0, .ref (d + 99), .null, .null, .null, .null, .null, .ref (d + 148), .ref (d + 175), .ref (d + 176), .ref (d + 177), .int 0, .ref (d + 178), .ref (d + 179), .ref (d + 180), .ref (d + 185), .ref (d + 190), .ref (d + 191), .ref (d + 192), .ref (d + 193), .ref (d + 201), .ref (d + 209), .ref (d + 210), .ref (d + 211), .ref (d + 272), .ref (d + 273), .int 0, .ref (d + 274)])), (d + 81, .inl (aC 6, 12, .inr (.inr (.inr (.inr (zrefs (fun i => d + (7485 + 9 * i)) 12)))))), (a2, .inr (13, [.int 0, .ref (a2 + 1 + 0), .ref (a2 + 1 + 1), .int 0, .int 0, .int 0, .ref (a2 + 1 + 2), .ref (a2 + 1 + 3), .ref (a2 + 1 + 4), .ref (a2 + 1 + 5), .int 0, .ref (a2 + 1 + 6), .int 0, .int 0, .ref (a2 + 1 + 7)]))] H := zP_c (hPh 0 _ rfl) (zP_c (hPh 1 _ rfl) (zP_c (hSl 0 _ rfl) (zP_c (hPm 0 _ rfl) (zP_c (hPm 15 _ rfl) (zP_c (hTh 0 _ rfl) (zP_n))))))
    have hD : va_D A [(hh, .inr (10, [.ref (bb + 0), .ref (bb + 73), .ref (bb + 75), .ref (bb + 76), .ref (bb + 80), .ref (bb + 81), .ref (bb + 88), .ref (bb + 95), .ref (bb + 100), .ref (bb + 106), .int 0, .ref (bb + 107), .int 0])), (bb + 0, .inl (aC 3, 12, .inr (.inr (.inr (.inr (zrefs (fun i => bb + (1 + 6 * i)) 12)))))), (a1, .inr (5, [.int 0, .int 0, .int 0, .int 0, .int 0, .int 0, .int 0, .ref (a1 + 1), .ref (a1 + 2), .ref (a1 + 3), .ref (a1 + 4), .ref (a1 + 5)])), (mm, .inr (15, [.ref (d + 0), .int 0, .ref (d + 1), .int 0, .ref (d + 2), .ref (d + 3), .ref (d + 68), .ref (d + 77), .ref (d + 78), .int 0, .int 0, .ref (d + 79), .int 0, .int 0, .int 0, .ref (d + 80), .int 0, .int 0, .int 0, .int 0, .ref (d + 81), .ref (d + 82), .int (-1), .ref (d + 91), .int 0, .int 0, .ref (d + 92), .int 0, .ref (d + 93), .int 0, .ref (d + 94), .int 0, .ref (d + 95), .ref (d + 96), .ref (d + 97), .ref (d + 98), .int 0, .int 0, .ref (d + 99), .null, .null, .null, .null, .null, .ref (d + 148), .ref (d + 175), .ref (d + 176), .ref (d + 177), .int 0, .ref (d + 178), .ref (d + 179), .ref (d + 180), .ref (d + 185), .ref (d + 190), .ref (d + 191), .ref (d + 192), .ref (d + 193), .ref (d + 201), .ref (d + 209), .ref (d + 210), .ref (d + 211), .ref (d + 272), .ref (d + 273), .int 0, .ref (d + 274)])), (d + 81, .inl (aC 6, 12, .inr (.inr (.inr (.inr (zrefs (fun i => d + (7485 + 9 * i)) 12)))))), (a2, .inr (13, [.int 0, .ref (a2 + 1 + 0), .ref (a2 + 1 + 1), .int 0, .int 0, .int 0, .ref (a2 + 1 + 2), .ref (a2 + 1 + 3), .ref (a2 + 1 + 4), .ref (a2 + 1 + 5), .int 0, .ref (a2 + 1 + 6), .int 0, .int 0, .ref (a2 + 1 + 7)]))] := zUp_D (lo := s.heap.size) hA (zUp_c (by omega) (zUp_c (by omega) (zUp_c (by omega) (zUp_c (by omega) (zUp_c (by omega) (zUp_c (by omega) (zUp_n)))))))
    clear hPh hFh hPm hFm hSl hTh
    refine lv_aload_n hx hb dL_law_1004 rfl (lv_at hl 2 rfl) ?_
    refine lv_aload_n hx hb dL_law_1005 rfl (lv_at hl 3 rfl) ?_
    refine lv_iload_n hx hb dL_law_1006 rfl (lv_at hl 0 rfl) ?_
    refine lv_iconst (v := 1) hx hb dL_law_1007 (by decide) ?_
    refine lv_iadd hx hb dL_law_1008 ?_
    refine lv_topi (fun y140299 ey140299 => ?_)
    obtain rfl : y140299 = 1 := by rw [ey140299]; decide
    try clear ey140299
    show W p l e _ s m _ below meth c _ _ _ _ QQ (F0 m 1009 ls [.int 1, .ref b, .ref hh])
    refine zsld hx hb hX hbl hbA hS (zvp (by decide)) hx1 dL_law_1009 ?_
    refine lv_aload_n hx hb dL_law_1010 rfl (lv_at hl 3 rfl) ?_
    refine lv_iload_n hx hb dL_law_1011 rfl (lv_at hl 0 rfl) ?_
    refine lv_iconst (v := 2) hx hb dL_law_1012 (by decide) ?_
    refine lv_iadd hx hb dL_law_1013 ?_
    refine lv_topi (fun y140300 ey140300 => ?_)
    obtain rfl : y140300 = 2 := by rw [ey140300]; decide
    try clear ey140300
    show W p l e _ s m _ below meth c _ _ _ _ QQ (F0 m 1014 ls [.int 2, .ref b, .int x1, .ref hh])
    refine zsld hx hb hX hbl hbA hS (zvp (by decide)) hx2 dL_law_1014 ?_
    refine lv_aload_n hx hb dL_law_1015 rfl (lv_at hl 3 rfl) ?_
    refine lv_iload_n hx hb dL_law_1016 rfl (lv_at hl 0 rfl) ?_
    refine lv_iconst (v := 3) hx hb dL_law_1017 (by decide) ?_
    refine lv_iadd hx hb dL_law_1018 ?_
    refine lv_topi (fun y140301 ey140301 => ?_)
    obtain rfl : y140301 = 3 := by rw [ey140301]; decide
    try clear ey140301
    show W p l e _ s m _ below meth c _ _ _ _ QQ (F0 m 1019 ls [.int 3, .ref b, .int x2, .int x1, .ref hh])
    refine zsld hx hb hX hbl hbA hS (zvp (by decide)) hx3 dL_law_1019 ?_
    refine lv_aload_n hx hb dL_law_1020 rfl (lv_at hl 3 rfl) ?_
    refine lv_iload_n hx hb dL_law_1021 rfl (lv_at hl 0 rfl) ?_
    refine lv_iconst (v := 4) hx hb dL_law_1022 (by decide) ?_
    refine lv_iadd hx hb dL_law_1023 ?_
    refine lv_topi (fun y140302 ey140302 => ?_)
    obtain rfl : y140302 = 4 := by rw [ey140302]; decide
    try clear ey140302
    show W p l e _ s m _ below meth c _ _ _ _ QQ (F0 m 1024 ls [.int 4, .ref b, .int x3, .int x2, .int x1, .ref hh])
    refine zsld hx hb hX hbl hbA hS (zvp (by decide)) hx4 dL_law_1024 ?_
    refine lv_aload_n hx hb dL_law_1025 rfl (lv_at hl 3 rfl) ?_
    refine lv_iload_n hx hb dL_law_1026 rfl (lv_at hl 0 rfl) ?_
    refine lv_iconst (v := 5) hx hb dL_law_1027 (by decide) ?_
    refine lv_iadd hx hb dL_law_1028 ?_
    refine lv_topi (fun y140303 ey140303 => ?_)
    obtain rfl : y140303 = 5 := by rw [ey140303]; decide
    try clear ey140303
    show W p l e _ s m _ below meth c _ _ _ _ QQ (F0 m 1029 ls [.int 5, .ref b, .int x4, .int x3, .int x2, .int x1, .ref hh])
    refine zsld hx hb hX hbl hbA hS (zvp (by decide)) hx5 dL_law_1029 ?_
    refine zro_i hS hA (va_runV (As := [.int x1, .int x2, .int x3, .int x4, .int x5]) (rest := []) ⟨hx, hb, hml, hown, hall⟩ (c_X11_poke_in l dC dI aC hh bb a1 x1 x2 x3 x4 x5 H.size hsl) (cwV 5 hall (zgV zw_673 zw_675 zw_676 zw_802 g_X11_poke rfl) rfl rfl rfl (by decide +kernel) ⟨Nat.le_of_ble_eq_true rfl, Nat.le_of_ble_eq_true rfl⟩) (zPre_V (As := [.int x1, .int x2, .int x3, .int x4, .int x5]) hK hP hD [0, 1, 2] rfl (by decide +kernel) (ci := 10) (q0 := 0) rfl rfl) rfl rfl hl.1 rfl (lv_room (Nat.le_of_ble_eq_true rfl)) dL_law_1030 ⟨Nat.le_of_ble_eq_true rfl, Nat.le_of_ble_eq_true rfl⟩) (fun ra L140304 hw hS' => ?_)
    clear hS
    have hS := hS'
    clear hS'
    have hwa := hw
    clear hw
    refine lv_aload_n hx hb dL_law_1033 rfl (lv_at hl 1 rfl) ?_
    refine lv_aload_n hx hb dL_law_1034 rfl (lv_at hl 3 rfl) ?_
    refine lv_iload_n hx hb dL_law_1035 rfl (lv_at hl 0 rfl) ?_
    show W p l e _ s m _ below meth c _ _ _ _ QQ (F0 m 1036 ls [.int 0, .ref b, .ref mm, .int ra])
    refine lv_iconst (v := 1) hx hb dL_law_1036 (by decide) ?_
    refine lv_iadd hx hb dL_law_1037 ?_
    refine lv_topi (fun y140305 ey140305 => ?_)
    obtain rfl : y140305 = 1 := by rw [ey140305]; decide
    try clear ey140305
    refine zsld hx hb hX hbl hbA hS (zvp (by decide)) hx1 dL_law_1038 ?_
    refine lv_aload_n hx hb dL_law_1039 rfl (lv_at hl 3 rfl) ?_
    refine lv_iload_n hx hb dL_law_1040 rfl (lv_at hl 0 rfl) ?_
    show W p l e _ s m _ below meth c _ _ _ _ QQ (F0 m 1041 ls [.int 0, .ref b, .int x1, .ref mm, .int ra])
    refine lv_iconst (v := 2) hx hb dL_law_1041 (by decide) ?_
    refine lv_iadd hx hb dL_law_1042 ?_
    refine lv_topi (fun y140306 ey140306 => ?_)
    obtain rfl : y140306 = 2 := by rw [ey140306]; decide
    try clear ey140306
    refine zsld hx hb hX hbl hbA hS (zvp (by decide)) hx2 dL_law_1043 ?_
    refine lv_aload_n hx hb dL_law_1044 rfl (lv_at hl 3 rfl) ?_
    refine lv_iload_n hx hb dL_law_1045 rfl (lv_at hl 0 rfl) ?_
    show W p l e _ s m _ below meth c _ _ _ _ QQ (F0 m 1046 ls [.int 0, .ref b, .int x2, .int x1, .ref mm, .int ra])
    refine lv_iconst (v := 3) hx hb dL_law_1046 (by decide) ?_
    refine lv_iadd hx hb dL_law_1047 ?_
    refine lv_topi (fun y140307 ey140307 => ?_)
    obtain rfl : y140307 = 3 := by rw [ey140307]; decide
    try clear ey140307
    refine zsld hx hb hX hbl hbA hS (zvp (by decide)) hx3 dL_law_1048 ?_
    refine lv_aload_n hx hb dL_law_1049 rfl (lv_at hl 3 rfl) ?_
    refine lv_iload_n hx hb dL_law_1050 rfl (lv_at hl 0 rfl) ?_
    show W p l e _ s m _ below meth c _ _ _ _ QQ (F0 m 1051 ls [.int 0, .ref b, .int x3, .int x2, .int x1, .ref mm, .int ra])
    refine lv_iconst (v := 4) hx hb dL_law_1051 (by decide) ?_
    refine lv_iadd hx hb dL_law_1052 ?_
    refine lv_topi (fun y140308 ey140308 => ?_)
    obtain rfl : y140308 = 4 := by rw [ey140308]; decide
    try clear ey140308
    refine zsld hx hb hX hbl hbA hS (zvp (by decide)) hx4 dL_law_1053 ?_
    refine lv_aload_n hx hb dL_law_1054 rfl (lv_at hl 3 rfl) ?_
    refine lv_iload_n hx hb dL_law_1055 rfl (lv_at hl 0 rfl) ?_
    show W p l e _ s m _ below meth c _ _ _ _ QQ (F0 m 1056 ls [.int 0, .ref b, .int x4, .int x3, .int x2, .int x1, .ref mm, .int ra])
    refine lv_iconst (v := 5) hx hb dL_law_1056 (by decide) ?_
    refine lv_iadd hx hb dL_law_1057 ?_
    refine lv_topi (fun y140309 ey140309 => ?_)
    obtain rfl : y140309 = 5 := by rw [ey140309]; decide
    try clear ey140309
    refine zsld hx hb hX hbl hbA hS (zvp (by decide)) hx5 dL_law_1058 ?_
    refine zro_i hS hA (va_runV (As := [.int x1, .int x2, .int x3, .int x4, .int x5]) (rest := [.int ra]) ⟨hx, hb, hml, hown, hall⟩ (c_X16_poke_in l dC dI aC mm d a2 x1 x2 x3 x4 x5 H.size hk ea2) (cwV 5 hall (zgV zw_677 zw_679 zw_680 zw_812 g_X16_poke rfl) rfl rfl rfl (by decide +kernel) ⟨Nat.le_of_ble_eq_true rfl, Nat.le_of_ble_eq_true rfl⟩) (zPre_V (As := [.int x1, .int x2, .int x3, .int x4, .int x5]) hK hP hD [3, 4, 5] rfl (by decide +kernel) (ci := 15) (q0 := 0) rfl rfl) rfl rfl hl.1 rfl (lv_room (Nat.le_of_ble_eq_true rfl)) dL_law_1059 ⟨Nat.le_of_ble_eq_true rfl, Nat.le_of_ble_eq_true rfl⟩) (fun rb L140310 hw hS' => ?_)
    clear hS
    have hS := hS'
    clear hS'
    have hwb := hw
    clear hw
    refine lv_icmp_eq (tgt := 1443) hx hb dL_law_1062 (by decide) (fun _ => ?_) (fun hne => absurd (hwa.trans hwb.symm) hne)
    subst hQ
    subst hAe
    exact law_tail C1 (Nat.le_of_ble_eq_true rfl) (Nat.le_of_ble_eq_true rfl) hS (lv_sub hl [0, 3] rfl)
  · have hP : va_P (dC, dI) vwCl [(hh, .inr (10, [.ref (bb + 0), .ref (bb + 73), .ref (bb + 75), .ref (bb + 76), .ref (bb + 80), .ref (bb + 81), .ref (bb + 88), .ref (bb + 95), .ref (bb + 100), .ref (bb + 106), .int 0, .ref (bb + 107), .int 0])), (bb + 0, .inl (aC 3, 12, .inr (.inr (.inr (.inr (zrefs (fun i => bb + (1 + 6 * i)) 12)))))), (mm, .inr (15, [.ref (d + 0), .int 0, .ref (d + 1), .int 0, .ref (d + 2), .ref (d + 3), .ref (d + 68), .ref (d + 77), .ref (d + 78), .int 0, .int 0, .ref (d + 79), .int 0, .int 0, .int 0, .ref (d + 80), .int 0, .int 0, .int 0, .int 0, .ref (d + 81), .ref (d + 82), .int (-1), .ref (d + 91), .int 0, .int 0, .ref (d + 92), .int 0, .ref (d + 93), .int 0, .ref (d + 94), .int 0, .ref (d + 95), .ref (d + 96), .ref (d + 97), .ref (d + 98), .int 0, .int 0, .ref (d + 99), .null, .null, .null, .null, .null, .ref (d + 148), .ref (d + 175), .ref (d + 176), .ref (d + 177), .int 0, .ref (d + 178), .ref (d + 179), .ref (d + 180), .ref (d + 185), .ref (d + 190), .ref (d + 191), .ref (d + 192), .ref (d + 193), .ref (d + 201), .ref (d + 209), .ref (d + 210), .ref (d + 211), .ref (d + 272), .ref (d + 273), .int 0, .ref (d + 274)])), (d + 81, .inl (aC 6, 12, .inr (.inr (.inr (.inr (zrefs (fun i => d + (7485 + 9 * i)) 12))))))] H := zP_c (hPh 0 _ rfl) (zP_c (hPh 1 _ rfl) (zP_c (hPm 0 _ rfl) (zP_c (hPm 15 _ rfl) (zP_n))))
    have hD : va_D A [(hh, .inr (10, [.ref (bb + 0), .ref (bb + 73), .ref (bb + 75), .ref (bb + 76), .ref (bb + 80), .ref (bb + 81), .ref (bb + 88), .ref (bb + 95), .ref (bb + 100), .ref (bb + 106), .int 0, .ref (bb + 107), .int 0])), (bb + 0, .inl (aC 3, 12, .inr (.inr (.inr (.inr (zrefs (fun i => bb + (1 + 6 * i)) 12)))))), (mm, .inr (15, [.ref (d + 0), .int 0, .ref (d + 1), .int 0, .ref (d + 2), .ref (d + 3), .ref (d + 68), .ref (d + 77), .ref (d + 78), .int 0, .int 0, .ref (d + 79), .int 0, .int 0, .int 0, .ref (d + 80), .int 0, .int 0, .int 0, .int 0, .ref (d + 81), .ref (d + 82), .int (-1), .ref (d + 91), .int 0, .int 0, .ref (d + 92), .int 0, .ref (d + 93), .int 0, .ref (d + 94), .int 0, .ref (d + 95), .ref (d + 96), .ref (d + 97), .ref (d + 98), .int 0, .int 0, .ref (d + 99), .null, .null, .null, .null, .null, .ref (d + 148), .ref (d + 175), .ref (d + 176), .ref (d + 177), .int 0, .ref (d + 178), .ref (d + 179), .ref (d + 180), .ref (d + 185), .ref (d + 190), .ref (d + 191), .ref (d + 192), .ref (d + 193), .ref (d + 201), .ref (d + 209), .ref (d + 210), .ref (d + 211), .ref (d + 272), .ref (d + 273), .int 0, .ref (d + 274)])), (d + 81, .inl (aC 6, 12, .inr (.inr (.inr (.inr (zrefs (fun i => d + (7485 + 9 * i)) 12))))))] := zUp_D (lo := s.heap.size) hA (zUp_c (by omega) (zUp_c (by omega) (zUp_c (by omega) (zUp_c (by omega) (zUp_n)))))
    clear hPh hFh hPm hFm
    refine lv_aload_n hx hb dL_law_1004 rfl (lv_at hl 2 rfl) ?_
    refine lv_aload_n hx hb dL_law_1005 rfl (lv_at hl 3 rfl) ?_
    refine lv_iload_n hx hb dL_law_1006 rfl (lv_at hl 0 rfl) ?_
    refine lv_iconst (v := 1) hx hb dL_law_1007 (by decide) ?_
    refine lv_iadd hx hb dL_law_1008 ?_
    refine lv_topi (fun y140311 ey140311 => ?_)
    obtain rfl : y140311 = 1 := by rw [ey140311]; decide
    try clear ey140311
    show W p l e _ s m _ below meth c _ _ _ _ QQ (F0 m 1009 ls [.int 1, .ref b, .ref hh])
    refine zsld hx hb hX hbl hbA hS (zvp (by decide)) hx1 dL_law_1009 ?_
    refine lv_aload_n hx hb dL_law_1010 rfl (lv_at hl 3 rfl) ?_
    refine lv_iload_n hx hb dL_law_1011 rfl (lv_at hl 0 rfl) ?_
    refine lv_iconst (v := 2) hx hb dL_law_1012 (by decide) ?_
    refine lv_iadd hx hb dL_law_1013 ?_
    refine lv_topi (fun y140312 ey140312 => ?_)
    obtain rfl : y140312 = 2 := by rw [ey140312]; decide
    try clear ey140312
    show W p l e _ s m _ below meth c _ _ _ _ QQ (F0 m 1014 ls [.int 2, .ref b, .int x1, .ref hh])
    refine zsld hx hb hX hbl hbA hS (zvp (by decide)) hx2 dL_law_1014 ?_
    refine lv_aload_n hx hb dL_law_1015 rfl (lv_at hl 3 rfl) ?_
    refine lv_iload_n hx hb dL_law_1016 rfl (lv_at hl 0 rfl) ?_
    refine lv_iconst (v := 3) hx hb dL_law_1017 (by decide) ?_
    refine lv_iadd hx hb dL_law_1018 ?_
    refine lv_topi (fun y140313 ey140313 => ?_)
    obtain rfl : y140313 = 3 := by rw [ey140313]; decide
    try clear ey140313
    show W p l e _ s m _ below meth c _ _ _ _ QQ (F0 m 1019 ls [.int 3, .ref b, .int x2, .int x1, .ref hh])
    refine zsld hx hb hX hbl hbA hS (zvp (by decide)) hx3 dL_law_1019 ?_
    refine lv_aload_n hx hb dL_law_1020 rfl (lv_at hl 3 rfl) ?_
    refine lv_iload_n hx hb dL_law_1021 rfl (lv_at hl 0 rfl) ?_
    refine lv_iconst (v := 4) hx hb dL_law_1022 (by decide) ?_
    refine lv_iadd hx hb dL_law_1023 ?_
    refine lv_topi (fun y140314 ey140314 => ?_)
    obtain rfl : y140314 = 4 := by rw [ey140314]; decide
    try clear ey140314
    show W p l e _ s m _ below meth c _ _ _ _ QQ (F0 m 1024 ls [.int 4, .ref b, .int x3, .int x2, .int x1, .ref hh])
    refine zsld hx hb hX hbl hbA hS (zvp (by decide)) hx4 dL_law_1024 ?_
    refine lv_aload_n hx hb dL_law_1025 rfl (lv_at hl 3 rfl) ?_
    refine lv_iload_n hx hb dL_law_1026 rfl (lv_at hl 0 rfl) ?_
    refine lv_iconst (v := 5) hx hb dL_law_1027 (by decide) ?_
    refine lv_iadd hx hb dL_law_1028 ?_
    refine lv_topi (fun y140315 ey140315 => ?_)
    obtain rfl : y140315 = 5 := by rw [ey140315]; decide
    try clear ey140315
    show W p l e _ s m _ below meth c _ _ _ _ QQ (F0 m 1029 ls [.int 5, .ref b, .int x4, .int x3, .int x2, .int x1, .ref hh])
    refine zsld hx hb hX hbl hbA hS (zvp (by decide)) hx5 dL_law_1029 ?_
    refine zro_i hS hA (va_runV (As := [.int x1, .int x2, .int x3, .int x4, .int x5]) (rest := []) ⟨hx, hb, hml, hown, hall⟩ (c_X11_poke_out l dC dI aC hh bb x1 x2 x3 x4 x5 H.size (zslot_0 hk)) (cwV 5 hall (zgV zw_673 zw_675 zw_676 zw_802 g_X11_poke rfl) rfl rfl rfl (by decide +kernel) ⟨Nat.le_of_ble_eq_true rfl, Nat.le_of_ble_eq_true rfl⟩) (zPre_V (As := [.int x1, .int x2, .int x3, .int x4, .int x5]) hK hP hD [0, 1] rfl (by decide +kernel) (ci := 10) (q0 := 0) rfl rfl) rfl rfl hl.1 rfl (lv_room (Nat.le_of_ble_eq_true rfl)) dL_law_1030 ⟨Nat.le_of_ble_eq_true rfl, Nat.le_of_ble_eq_true rfl⟩) (fun ra L140316 hw hS' => ?_)
    clear hS
    have hS := hS'
    clear hS'
    have hwa := hw
    clear hw
    refine lv_aload_n hx hb dL_law_1033 rfl (lv_at hl 1 rfl) ?_
    refine lv_aload_n hx hb dL_law_1034 rfl (lv_at hl 3 rfl) ?_
    refine lv_iload_n hx hb dL_law_1035 rfl (lv_at hl 0 rfl) ?_
    show W p l e _ s m _ below meth c _ _ _ _ QQ (F0 m 1036 ls [.int 0, .ref b, .ref mm, .int ra])
    refine lv_iconst (v := 1) hx hb dL_law_1036 (by decide) ?_
    refine lv_iadd hx hb dL_law_1037 ?_
    refine lv_topi (fun y140317 ey140317 => ?_)
    obtain rfl : y140317 = 1 := by rw [ey140317]; decide
    try clear ey140317
    refine zsld hx hb hX hbl hbA hS (zvp (by decide)) hx1 dL_law_1038 ?_
    refine lv_aload_n hx hb dL_law_1039 rfl (lv_at hl 3 rfl) ?_
    refine lv_iload_n hx hb dL_law_1040 rfl (lv_at hl 0 rfl) ?_
    show W p l e _ s m _ below meth c _ _ _ _ QQ (F0 m 1041 ls [.int 0, .ref b, .int x1, .ref mm, .int ra])
    refine lv_iconst (v := 2) hx hb dL_law_1041 (by decide) ?_
    refine lv_iadd hx hb dL_law_1042 ?_
    refine lv_topi (fun y140318 ey140318 => ?_)
    obtain rfl : y140318 = 2 := by rw [ey140318]; decide
    try clear ey140318
    refine zsld hx hb hX hbl hbA hS (zvp (by decide)) hx2 dL_law_1043 ?_
    refine lv_aload_n hx hb dL_law_1044 rfl (lv_at hl 3 rfl) ?_
    refine lv_iload_n hx hb dL_law_1045 rfl (lv_at hl 0 rfl) ?_
    show W p l e _ s m _ below meth c _ _ _ _ QQ (F0 m 1046 ls [.int 0, .ref b, .int x2, .int x1, .ref mm, .int ra])
    refine lv_iconst (v := 3) hx hb dL_law_1046 (by decide) ?_
    refine lv_iadd hx hb dL_law_1047 ?_
    refine lv_topi (fun y140319 ey140319 => ?_)
    obtain rfl : y140319 = 3 := by rw [ey140319]; decide
    try clear ey140319
    refine zsld hx hb hX hbl hbA hS (zvp (by decide)) hx3 dL_law_1048 ?_
    refine lv_aload_n hx hb dL_law_1049 rfl (lv_at hl 3 rfl) ?_
    refine lv_iload_n hx hb dL_law_1050 rfl (lv_at hl 0 rfl) ?_
    show W p l e _ s m _ below meth c _ _ _ _ QQ (F0 m 1051 ls [.int 0, .ref b, .int x3, .int x2, .int x1, .ref mm, .int ra])
    refine lv_iconst (v := 4) hx hb dL_law_1051 (by decide) ?_
    refine lv_iadd hx hb dL_law_1052 ?_
    refine lv_topi (fun y140320 ey140320 => ?_)
    obtain rfl : y140320 = 4 := by rw [ey140320]; decide
    try clear ey140320
    refine zsld hx hb hX hbl hbA hS (zvp (by decide)) hx4 dL_law_1053 ?_
    refine lv_aload_n hx hb dL_law_1054 rfl (lv_at hl 3 rfl) ?_
    refine lv_iload_n hx hb dL_law_1055 rfl (lv_at hl 0 rfl) ?_
    show W p l e _ s m _ below meth c _ _ _ _ QQ (F0 m 1056 ls [.int 0, .ref b, .int x4, .int x3, .int x2, .int x1, .ref mm, .int ra])
    refine lv_iconst (v := 5) hx hb dL_law_1056 (by decide) ?_
    refine lv_iadd hx hb dL_law_1057 ?_
    refine lv_topi (fun y140321 ey140321 => ?_)
    obtain rfl : y140321 = 5 := by rw [ey140321]; decide
    try clear ey140321
    refine zsld hx hb hX hbl hbA hS (zvp (by decide)) hx5 dL_law_1058 ?_
    refine zro_i hS hA (va_runV (As := [.int x1, .int x2, .int x3, .int x4, .int x5]) (rest := [.int ra]) ⟨hx, hb, hml, hown, hall⟩ (c_X16_poke_out l dC dI aC mm d x1 x2 x3 x4 x5 H.size hk) (cwV 5 hall (zgV zw_677 zw_679 zw_680 zw_812 g_X16_poke rfl) rfl rfl rfl (by decide +kernel) ⟨Nat.le_of_ble_eq_true rfl, Nat.le_of_ble_eq_true rfl⟩) (zPre_V (As := [.int x1, .int x2, .int x3, .int x4, .int x5]) hK hP hD [2, 3] rfl (by decide +kernel) (ci := 15) (q0 := 0) rfl rfl) rfl rfl hl.1 rfl (lv_room (Nat.le_of_ble_eq_true rfl)) dL_law_1059 ⟨Nat.le_of_ble_eq_true rfl, Nat.le_of_ble_eq_true rfl⟩) (fun rb L140322 hw hS' => ?_)
    clear hS
    have hS := hS'
    clear hS'
    have hwb := hw
    clear hw
    refine lv_icmp_eq (tgt := 1443) hx hb dL_law_1062 (by decide) (fun _ => ?_) (fun hne => absurd (hwa.trans hwb.symm) hne)
    subst hQ
    subst hAe
    exact law_tail C1 (Nat.le_of_ble_eq_true rfl) (Nat.le_of_ble_eq_true rfl) hS (lv_sub hl [0, 3] rfl)

set_option maxHeartbeats 4000000 in
set_option maxRecDepth 100000 in
theorem law_holds {p : Program} {l : Launch} {e : Env} {s : State} {m : MethodId} {below : List Frame} {meth : Method} {c : Code} {b : Nat} {xs : Nat → Int32} {H : Heap} {locs : List Loc} {ls : Array Slot} {dC : Nat → ClassId} {dI : Nat → Nat → Nat} {aC : Nat → ClassId} {hh bb mm d : Nat} (C0 : lw_At p s m meth c b 6 xs) (hK : zK (dC, dI) aC s) (hR : zReady s H dC dI aC hh bb mm d) (hS : va_S (fun q => s.heap.size ≤ q) s.heap H locs) (hl : lv_has ls 4 [(3, .int 0), (2, .ref mm), (1, .ref hh), (0, .ref b)]) : W p l e room_1 s m #[Value.ref b] below meth c H locs 8431 1660372 (lw_Z below #[Value.ref b] s) (F0 m 1067 ls []) := by
  have C1 := C0
  obtain ⟨hx, hb, hr, hml, hown0, hts, hX, hbl, hlocks, hgv⟩ := C0
  obtain ⟨hPh, hFh, hPm, hFm, ez1, ez2, ez3, ez4, hz0⟩ := hR
  have hown : s.vm.findClass RL = some m.cls := hown0
  have hall : ∀ w ∈ zAll, w.before #[Value.ref b] s = true := fun w h => hts w (zAll_in w h)
  have hbA : ¬ (fun q : Nat => s.heap.size ≤ q) b := Nat.not_le.mpr hbl
  generalize hAe : (fun q : Nat => s.heap.size ≤ q) = A at hS hbA
  have hA : ∀ q : Nat, s.heap.size ≤ q → A q := fun q h => by rw [← hAe]; exact h
  generalize hQ : lw_Z below #[Value.ref b] s = QQ
  obtain ⟨x1, hx1⟩ : ∃ y, xs (1 : Int32).toNatClampNeg = y := ⟨_, rfl⟩
  obtain ⟨x2, hx2⟩ : ∃ y, xs (2 : Int32).toNatClampNeg = y := ⟨_, rfl⟩
  obtain ⟨x3, hx3⟩ : ∃ y, xs (3 : Int32).toNatClampNeg = y := ⟨_, rfl⟩
  obtain ⟨x4, hx4⟩ : ∃ y, xs (4 : Int32).toNatClampNeg = y := ⟨_, rfl⟩
  obtain ⟨x5, hx5⟩ : ∃ y, xs (5 : Int32).toNatClampNeg = y := ⟨_, rfl⟩
  by_cases hk : zok x1 = true
  · obtain ⟨a1, ea1⟩ : ∃ q, q = bb + (1 + 6 * x1.toNatClampNeg) := ⟨_, rfl⟩
    obtain ⟨a2, ea2⟩ : ∃ q, q = d + (7485 + 9 * x1.toNatClampNeg) := ⟨_, rfl⟩
    have hn12 := zok_12 hk
    have hsl : zslot bb x1 = some a1 := by rw [ea1]; exact zslot_1 hk
    have hSl : va_P (dC, dI) vwCl (zSlotW aC a1) H := by rw [ea1]; exact hFh _ hn12
    have hTh : va_P (dC, dI) vwCl (zThW aC a2) H := by rw [ea2]; exact hFm _ hn12
    have hP : va_P (dC, dI) vwCl [(hh, .inr (10, [.ref (bb + 0), .ref (bb + 73), .ref (bb + 75), .ref (bb + 76), .ref (bb + 80), .ref (bb + 81), .ref (bb + 88), .ref (bb + 95), .ref (bb + 100), .ref (bb + 106), .int 0, .ref (bb + 107), .int 0])), (bb + 0, .inl (aC 3, 12, .inr (.inr (.inr (.inr (zrefs (fun i => bb + (1 + 6 * i)) 12)))))), (a1, .inr (5, [.int 0, .int 0, .int 0, .int 0, .int 0, .int 0, .int 0, .ref (a1 + 1), .ref (a1 + 2), .ref (a1 + 3), .ref (a1 + 4), .ref (a1 + 5)])), (mm, .inr (15, [.ref (d + 0), .int 0, .ref (d + 1), .int 0, .ref (d + 2), .ref (d + 3), .ref (d + 68), .ref (d + 77), .ref (d + 78), .int 0, .int 0, .ref (d + 79), .int 0, .int 0, .int 0, .ref (d + 80), .int 0, .int 0, .int 0, .int 0, .ref (d + 81), .ref (d + 82), .int (-1), .ref (d + 91), .int 0, .int 0, .ref (d + 92), .int 0, .ref (d + 93), .int 0, .ref (d + 94), .int 0, .ref (d + 95), .ref (d + 96), .ref (d + 97), .ref (d + 98), .int 0, .int 0, .ref (d + 99), .null, .null, .null, .null, .null, .ref (d + 148), .ref (d + 175), .ref (d + 176), .ref (d + 177), .int 0, .ref (d + 178), .ref (d + 179), .ref (d + 180), .ref (d + 185), .ref (d + 190), .ref (d + 191), .ref (d + 192), .ref (d + 193), .ref (d + 201), .ref (d + 209), .ref (d + 210), .ref (d + 211), .ref (d + 272), .ref (d + 273), .int 0, .ref (d + 274)])), (d + 81, .inl (aC 6, 12, .inr (.inr (.inr (.inr (zrefs (fun i => d + (7485 + 9 * i)) 12)))))), (a2, .inr (13, [.int 0, .ref (a2 + 1 + 0), .ref (a2 + 1 + 1), .int 0, .int 0, .int 0, .ref (a2 + 1 + 2), .ref (a2 + 1 + 3), .ref (a2 + 1 + 4), .ref (a2 + 1 + 5), .int 0, .ref (a2 + 1 + 6), .int 0, .int 0, .ref (a2 + 1 + 7)]))] H := zP_c (hPh 0 _ rfl) (zP_c (hPh 1 _ rfl) (zP_c (hSl 0 _ rfl) (zP_c (hPm 0 _ rfl) (zP_c (hPm 15 _ rfl) (zP_c (hTh 0 _ rfl) (zP_n))))))
    have hD : va_D A [(hh, .inr (10, [.ref (bb + 0), .ref (bb + 73), .ref (bb + 75), .ref (bb + 76), .ref (bb + 80), .ref (bb + 81), .ref (bb + 88), .ref (bb + 95), .ref (bb + 100), .ref (bb + 106), .int 0, .ref (bb + 107), .int 0])), (bb + 0, .inl (aC 3, 12, .inr (.inr (.inr (.inr (zrefs (fun i => bb + (1 + 6 * i)) 12)))))), (a1, .inr (5, [.int 0, .int 0, .int 0, .int 0, .int 0, .int 0, .int 0, .ref (a1 + 1), .ref (a1 + 2), .ref (a1 + 3), .ref (a1 + 4), .ref (a1 + 5)])), (mm, .inr (15, [.ref (d + 0), .int 0, .ref (d + 1), .int 0, .ref (d + 2), .ref (d + 3), .ref (d + 68), .ref (d + 77), .ref (d + 78), .int 0, .int 0, .ref (d + 79), .int 0, .int 0, .int 0, .ref (d + 80), .int 0, .int 0, .int 0, .int 0, .ref (d + 81), .ref (d + 82), .int (-1), .ref (d + 91), .int 0, .int 0, .ref (d + 92), .int 0, .ref (d + 93), .int 0, .ref (d + 94), .int 0, .ref (d + 95), .ref (d + 96), .ref (d + 97), .ref (d + 98), .int 0, .int 0, .ref (d + 99), .null, .null, .null, .null, .null, .ref (d + 148), .ref (d + 175), .ref (d + 176), .ref (d + 177), .int 0, .ref (d + 178), .ref (d + 179), .ref (d + 180), .ref (d + 185), .ref (d + 190), .ref (d + 191), .ref (d + 192), .ref (d + 193), .ref (d + 201), .ref (d + 209), .ref (d + 210), .ref (d + 211), .ref (d + 272), .ref (d + 273), .int 0, .ref (d + 274)])), (d + 81, .inl (aC 6, 12, .inr (.inr (.inr (.inr (zrefs (fun i => d + (7485 + 9 * i)) 12)))))), (a2, .inr (13, [.int 0, .ref (a2 + 1 + 0), .ref (a2 + 1 + 1), .int 0, .int 0, .int 0, .ref (a2 + 1 + 2), .ref (a2 + 1 + 3), .ref (a2 + 1 + 4), .ref (a2 + 1 + 5), .int 0, .ref (a2 + 1 + 6), .int 0, .int 0, .ref (a2 + 1 + 7)]))] := zUp_D (lo := s.heap.size) hA (zUp_c (by omega) (zUp_c (by omega) (zUp_c (by omega) (zUp_c (by omega) (zUp_c (by omega) (zUp_c (by omega) (zUp_n)))))))
    clear hPh hFh hPm hFm hSl hTh
    refine lv_aload_n hx hb dL_law_1067 rfl (lv_at hl 2 rfl) ?_
    refine lv_aload_n hx hb dL_law_1068 rfl (lv_at hl 3 rfl) ?_
    refine lv_iload_n hx hb dL_law_1069 rfl (lv_at hl 0 rfl) ?_
    refine lv_iconst (v := 1) hx hb dL_law_1070 (by decide) ?_
    refine lv_iadd hx hb dL_law_1071 ?_
    refine lv_topi (fun y140323 ey140323 => ?_)
    obtain rfl : y140323 = 1 := by rw [ey140323]; decide
    try clear ey140323
    show W p l e _ s m _ below meth c _ _ _ _ QQ (F0 m 1072 ls [.int 1, .ref b, .ref hh])
    refine zsld hx hb hX hbl hbA hS (zvp (by decide)) hx1 dL_law_1072 ?_
    refine lv_aload_n hx hb dL_law_1073 rfl (lv_at hl 3 rfl) ?_
    refine lv_iload_n hx hb dL_law_1074 rfl (lv_at hl 0 rfl) ?_
    refine lv_iconst (v := 2) hx hb dL_law_1075 (by decide) ?_
    refine lv_iadd hx hb dL_law_1076 ?_
    refine lv_topi (fun y140324 ey140324 => ?_)
    obtain rfl : y140324 = 2 := by rw [ey140324]; decide
    try clear ey140324
    show W p l e _ s m _ below meth c _ _ _ _ QQ (F0 m 1077 ls [.int 2, .ref b, .int x1, .ref hh])
    refine zsld hx hb hX hbl hbA hS (zvp (by decide)) hx2 dL_law_1077 ?_
    refine lv_aload_n hx hb dL_law_1078 rfl (lv_at hl 3 rfl) ?_
    refine lv_iload_n hx hb dL_law_1079 rfl (lv_at hl 0 rfl) ?_
    refine lv_iconst (v := 3) hx hb dL_law_1080 (by decide) ?_
    refine lv_iadd hx hb dL_law_1081 ?_
    refine lv_topi (fun y140325 ey140325 => ?_)
    obtain rfl : y140325 = 3 := by rw [ey140325]; decide
    try clear ey140325
    show W p l e _ s m _ below meth c _ _ _ _ QQ (F0 m 1082 ls [.int 3, .ref b, .int x2, .int x1, .ref hh])
    refine zsld hx hb hX hbl hbA hS (zvp (by decide)) hx3 dL_law_1082 ?_
    refine lv_aload_n hx hb dL_law_1083 rfl (lv_at hl 3 rfl) ?_
    refine lv_iload_n hx hb dL_law_1084 rfl (lv_at hl 0 rfl) ?_
    refine lv_iconst (v := 4) hx hb dL_law_1085 (by decide) ?_
    refine lv_iadd hx hb dL_law_1086 ?_
    refine lv_topi (fun y140326 ey140326 => ?_)
    obtain rfl : y140326 = 4 := by rw [ey140326]; decide
    try clear ey140326
    show W p l e _ s m _ below meth c _ _ _ _ QQ (F0 m 1087 ls [.int 4, .ref b, .int x3, .int x2, .int x1, .ref hh])
    refine zsld hx hb hX hbl hbA hS (zvp (by decide)) hx4 dL_law_1087 ?_
    refine lv_aload_n hx hb dL_law_1088 rfl (lv_at hl 3 rfl) ?_
    refine lv_iload_n hx hb dL_law_1089 rfl (lv_at hl 0 rfl) ?_
    refine lv_iconst (v := 5) hx hb dL_law_1090 (by decide) ?_
    refine lv_iadd hx hb dL_law_1091 ?_
    refine lv_topi (fun y140327 ey140327 => ?_)
    obtain rfl : y140327 = 5 := by rw [ey140327]; decide
    try clear ey140327
    show W p l e _ s m _ below meth c _ _ _ _ QQ (F0 m 1092 ls [.int 5, .ref b, .int x4, .int x3, .int x2, .int x1, .ref hh])
    refine zsld hx hb hX hbl hbA hS (zvp (by decide)) hx5 dL_law_1092 ?_
    refine zro_i hS hA (va_runV (As := [.int x1, .int x2, .int x3, .int x4, .int x5]) (rest := []) ⟨hx, hb, hml, hown, hall⟩ (c_X11_holds_in l dC dI aC hh bb a1 x1 x2 x3 x4 x5 H.size hsl) (cwV 5 hall (zgV zw_681 zw_683 zw_684 zw_802 g_X11_holds rfl) rfl rfl rfl (by decide +kernel) ⟨Nat.le_of_ble_eq_true rfl, Nat.le_of_ble_eq_true rfl⟩) (zPre_V (As := [.int x1, .int x2, .int x3, .int x4, .int x5]) hK hP hD [0, 1, 2] rfl (by decide +kernel) (ci := 10) (q0 := 0) rfl rfl) rfl rfl hl.1 rfl (lv_room (Nat.le_of_ble_eq_true rfl)) dL_law_1093 ⟨Nat.le_of_ble_eq_true rfl, Nat.le_of_ble_eq_true rfl⟩) (fun ra L140328 hw hS' => ?_)
    clear hS
    have hS := hS'
    clear hS'
    have hwa := hw
    clear hw
    refine lv_aload_n hx hb dL_law_1096 rfl (lv_at hl 1 rfl) ?_
    refine lv_aload_n hx hb dL_law_1097 rfl (lv_at hl 3 rfl) ?_
    refine lv_iload_n hx hb dL_law_1098 rfl (lv_at hl 0 rfl) ?_
    show W p l e _ s m _ below meth c _ _ _ _ QQ (F0 m 1099 ls [.int 0, .ref b, .ref mm, .int ra])
    refine lv_iconst (v := 1) hx hb dL_law_1099 (by decide) ?_
    refine lv_iadd hx hb dL_law_1100 ?_
    refine lv_topi (fun y140329 ey140329 => ?_)
    obtain rfl : y140329 = 1 := by rw [ey140329]; decide
    try clear ey140329
    refine zsld hx hb hX hbl hbA hS (zvp (by decide)) hx1 dL_law_1101 ?_
    refine lv_aload_n hx hb dL_law_1102 rfl (lv_at hl 3 rfl) ?_
    refine lv_iload_n hx hb dL_law_1103 rfl (lv_at hl 0 rfl) ?_
    show W p l e _ s m _ below meth c _ _ _ _ QQ (F0 m 1104 ls [.int 0, .ref b, .int x1, .ref mm, .int ra])
    refine lv_iconst (v := 2) hx hb dL_law_1104 (by decide) ?_
    refine lv_iadd hx hb dL_law_1105 ?_
    refine lv_topi (fun y140330 ey140330 => ?_)
    obtain rfl : y140330 = 2 := by rw [ey140330]; decide
    try clear ey140330
    refine zsld hx hb hX hbl hbA hS (zvp (by decide)) hx2 dL_law_1106 ?_
    refine lv_aload_n hx hb dL_law_1107 rfl (lv_at hl 3 rfl) ?_
    refine lv_iload_n hx hb dL_law_1108 rfl (lv_at hl 0 rfl) ?_
    show W p l e _ s m _ below meth c _ _ _ _ QQ (F0 m 1109 ls [.int 0, .ref b, .int x2, .int x1, .ref mm, .int ra])
    refine lv_iconst (v := 3) hx hb dL_law_1109 (by decide) ?_
    refine lv_iadd hx hb dL_law_1110 ?_
    refine lv_topi (fun y140331 ey140331 => ?_)
    obtain rfl : y140331 = 3 := by rw [ey140331]; decide
    try clear ey140331
    refine zsld hx hb hX hbl hbA hS (zvp (by decide)) hx3 dL_law_1111 ?_
    refine lv_aload_n hx hb dL_law_1112 rfl (lv_at hl 3 rfl) ?_
    refine lv_iload_n hx hb dL_law_1113 rfl (lv_at hl 0 rfl) ?_
    show W p l e _ s m _ below meth c _ _ _ _ QQ (F0 m 1114 ls [.int 0, .ref b, .int x3, .int x2, .int x1, .ref mm, .int ra])
    refine lv_iconst (v := 4) hx hb dL_law_1114 (by decide) ?_
    refine lv_iadd hx hb dL_law_1115 ?_
    refine lv_topi (fun y140332 ey140332 => ?_)
    obtain rfl : y140332 = 4 := by rw [ey140332]; decide
    try clear ey140332
    refine zsld hx hb hX hbl hbA hS (zvp (by decide)) hx4 dL_law_1116 ?_
    refine lv_aload_n hx hb dL_law_1117 rfl (lv_at hl 3 rfl) ?_
    refine lv_iload_n hx hb dL_law_1118 rfl (lv_at hl 0 rfl) ?_
    show W p l e _ s m _ below meth c _ _ _ _ QQ (F0 m 1119 ls [.int 0, .ref b, .int x4, .int x3, .int x2, .int x1, .ref mm, .int ra])
    refine lv_iconst (v := 5) hx hb dL_law_1119 (by decide) ?_
    refine lv_iadd hx hb dL_law_1120 ?_
    refine lv_topi (fun y140333 ey140333 => ?_)
    obtain rfl : y140333 = 5 := by rw [ey140333]; decide
    try clear ey140333
    refine zsld hx hb hX hbl hbA hS (zvp (by decide)) hx5 dL_law_1121 ?_
    refine zro_i hS hA (va_runV (As := [.int x1, .int x2, .int x3, .int x4, .int x5]) (rest := [.int ra]) ⟨hx, hb, hml, hown, hall⟩ (c_X16_holds_in l dC dI aC mm d a2 x1 x2 x3 x4 x5 H.size hk ea2) (cwV 5 hall (zgV zw_685 zw_687 zw_688 zw_812 g_X16_holds rfl) rfl rfl rfl (by decide +kernel) ⟨Nat.le_of_ble_eq_true rfl, Nat.le_of_ble_eq_true rfl⟩) (zPre_V (As := [.int x1, .int x2, .int x3, .int x4, .int x5]) hK hP hD [3, 4, 5] rfl (by decide +kernel) (ci := 15) (q0 := 0) rfl rfl) rfl rfl hl.1 rfl (lv_room (Nat.le_of_ble_eq_true rfl)) dL_law_1122 ⟨Nat.le_of_ble_eq_true rfl, Nat.le_of_ble_eq_true rfl⟩) (fun rb L140334 hw hS' => ?_)
    clear hS
    have hS := hS'
    clear hS'
    have hwb := hw
    clear hw
    refine lv_icmp_eq (tgt := 1443) hx hb dL_law_1125 (by decide) (fun _ => ?_) (fun hne => absurd (hwa.trans hwb.symm) hne)
    subst hQ
    subst hAe
    exact law_tail C1 (Nat.le_of_ble_eq_true rfl) (Nat.le_of_ble_eq_true rfl) hS (lv_sub hl [0, 3] rfl)
  · have hP : va_P (dC, dI) vwCl [(hh, .inr (10, [.ref (bb + 0), .ref (bb + 73), .ref (bb + 75), .ref (bb + 76), .ref (bb + 80), .ref (bb + 81), .ref (bb + 88), .ref (bb + 95), .ref (bb + 100), .ref (bb + 106), .int 0, .ref (bb + 107), .int 0])), (bb + 0, .inl (aC 3, 12, .inr (.inr (.inr (.inr (zrefs (fun i => bb + (1 + 6 * i)) 12)))))), (mm, .inr (15, [.ref (d + 0), .int 0, .ref (d + 1), .int 0, .ref (d + 2), .ref (d + 3), .ref (d + 68), .ref (d + 77), .ref (d + 78), .int 0, .int 0, .ref (d + 79), .int 0, .int 0, .int 0, .ref (d + 80), .int 0, .int 0, .int 0, .int 0, .ref (d + 81), .ref (d + 82), .int (-1), .ref (d + 91), .int 0, .int 0, .ref (d + 92), .int 0, .ref (d + 93), .int 0, .ref (d + 94), .int 0, .ref (d + 95), .ref (d + 96), .ref (d + 97), .ref (d + 98), .int 0, .int 0, .ref (d + 99), .null, .null, .null, .null, .null, .ref (d + 148), .ref (d + 175), .ref (d + 176), .ref (d + 177), .int 0, .ref (d + 178), .ref (d + 179), .ref (d + 180), .ref (d + 185), .ref (d + 190), .ref (d + 191), .ref (d + 192), .ref (d + 193), .ref (d + 201), .ref (d + 209), .ref (d + 210), .ref (d + 211), .ref (d + 272), .ref (d + 273), .int 0, .ref (d + 274)])), (d + 81, .inl (aC 6, 12, .inr (.inr (.inr (.inr (zrefs (fun i => d + (7485 + 9 * i)) 12))))))] H := zP_c (hPh 0 _ rfl) (zP_c (hPh 1 _ rfl) (zP_c (hPm 0 _ rfl) (zP_c (hPm 15 _ rfl) (zP_n))))
    have hD : va_D A [(hh, .inr (10, [.ref (bb + 0), .ref (bb + 73), .ref (bb + 75), .ref (bb + 76), .ref (bb + 80), .ref (bb + 81), .ref (bb + 88), .ref (bb + 95), .ref (bb + 100), .ref (bb + 106), .int 0, .ref (bb + 107), .int 0])), (bb + 0, .inl (aC 3, 12, .inr (.inr (.inr (.inr (zrefs (fun i => bb + (1 + 6 * i)) 12)))))), (mm, .inr (15, [.ref (d + 0), .int 0, .ref (d + 1), .int 0, .ref (d + 2), .ref (d + 3), .ref (d + 68), .ref (d + 77), .ref (d + 78), .int 0, .int 0, .ref (d + 79), .int 0, .int 0, .int 0, .ref (d + 80), .int 0, .int 0, .int 0, .int 0, .ref (d + 81), .ref (d + 82), .int (-1), .ref (d + 91), .int 0, .int 0, .ref (d + 92), .int 0, .ref (d + 93), .int 0, .ref (d + 94), .int 0, .ref (d + 95), .ref (d + 96), .ref (d + 97), .ref (d + 98), .int 0, .int 0, .ref (d + 99), .null, .null, .null, .null, .null, .ref (d + 148), .ref (d + 175), .ref (d + 176), .ref (d + 177), .int 0, .ref (d + 178), .ref (d + 179), .ref (d + 180), .ref (d + 185), .ref (d + 190), .ref (d + 191), .ref (d + 192), .ref (d + 193), .ref (d + 201), .ref (d + 209), .ref (d + 210), .ref (d + 211), .ref (d + 272), .ref (d + 273), .int 0, .ref (d + 274)])), (d + 81, .inl (aC 6, 12, .inr (.inr (.inr (.inr (zrefs (fun i => d + (7485 + 9 * i)) 12))))))] := zUp_D (lo := s.heap.size) hA (zUp_c (by omega) (zUp_c (by omega) (zUp_c (by omega) (zUp_c (by omega) (zUp_n)))))
    clear hPh hFh hPm hFm
    refine lv_aload_n hx hb dL_law_1067 rfl (lv_at hl 2 rfl) ?_
    refine lv_aload_n hx hb dL_law_1068 rfl (lv_at hl 3 rfl) ?_
    refine lv_iload_n hx hb dL_law_1069 rfl (lv_at hl 0 rfl) ?_
    refine lv_iconst (v := 1) hx hb dL_law_1070 (by decide) ?_
    refine lv_iadd hx hb dL_law_1071 ?_
    refine lv_topi (fun y140335 ey140335 => ?_)
    obtain rfl : y140335 = 1 := by rw [ey140335]; decide
    try clear ey140335
    show W p l e _ s m _ below meth c _ _ _ _ QQ (F0 m 1072 ls [.int 1, .ref b, .ref hh])
    refine zsld hx hb hX hbl hbA hS (zvp (by decide)) hx1 dL_law_1072 ?_
    refine lv_aload_n hx hb dL_law_1073 rfl (lv_at hl 3 rfl) ?_
    refine lv_iload_n hx hb dL_law_1074 rfl (lv_at hl 0 rfl) ?_
    refine lv_iconst (v := 2) hx hb dL_law_1075 (by decide) ?_
    refine lv_iadd hx hb dL_law_1076 ?_
    refine lv_topi (fun y140336 ey140336 => ?_)
    obtain rfl : y140336 = 2 := by rw [ey140336]; decide
    try clear ey140336
    show W p l e _ s m _ below meth c _ _ _ _ QQ (F0 m 1077 ls [.int 2, .ref b, .int x1, .ref hh])
    refine zsld hx hb hX hbl hbA hS (zvp (by decide)) hx2 dL_law_1077 ?_
    refine lv_aload_n hx hb dL_law_1078 rfl (lv_at hl 3 rfl) ?_
    refine lv_iload_n hx hb dL_law_1079 rfl (lv_at hl 0 rfl) ?_
    refine lv_iconst (v := 3) hx hb dL_law_1080 (by decide) ?_
    refine lv_iadd hx hb dL_law_1081 ?_
    refine lv_topi (fun y140337 ey140337 => ?_)
    obtain rfl : y140337 = 3 := by rw [ey140337]; decide
    try clear ey140337
    show W p l e _ s m _ below meth c _ _ _ _ QQ (F0 m 1082 ls [.int 3, .ref b, .int x2, .int x1, .ref hh])
    refine zsld hx hb hX hbl hbA hS (zvp (by decide)) hx3 dL_law_1082 ?_
    refine lv_aload_n hx hb dL_law_1083 rfl (lv_at hl 3 rfl) ?_
    refine lv_iload_n hx hb dL_law_1084 rfl (lv_at hl 0 rfl) ?_
    refine lv_iconst (v := 4) hx hb dL_law_1085 (by decide) ?_
    refine lv_iadd hx hb dL_law_1086 ?_
    refine lv_topi (fun y140338 ey140338 => ?_)
    obtain rfl : y140338 = 4 := by rw [ey140338]; decide
    try clear ey140338
    show W p l e _ s m _ below meth c _ _ _ _ QQ (F0 m 1087 ls [.int 4, .ref b, .int x3, .int x2, .int x1, .ref hh])
    refine zsld hx hb hX hbl hbA hS (zvp (by decide)) hx4 dL_law_1087 ?_
    refine lv_aload_n hx hb dL_law_1088 rfl (lv_at hl 3 rfl) ?_
    refine lv_iload_n hx hb dL_law_1089 rfl (lv_at hl 0 rfl) ?_
    refine lv_iconst (v := 5) hx hb dL_law_1090 (by decide) ?_
    refine lv_iadd hx hb dL_law_1091 ?_
    refine lv_topi (fun y140339 ey140339 => ?_)
    obtain rfl : y140339 = 5 := by rw [ey140339]; decide
    try clear ey140339
    show W p l e _ s m _ below meth c _ _ _ _ QQ (F0 m 1092 ls [.int 5, .ref b, .int x4, .int x3, .int x2, .int x1, .ref hh])
    refine zsld hx hb hX hbl hbA hS (zvp (by decide)) hx5 dL_law_1092 ?_
    refine zro_i hS hA (va_runV (As := [.int x1, .int x2, .int x3, .int x4, .int x5]) (rest := []) ⟨hx, hb, hml, hown, hall⟩ (c_X11_holds_out l dC dI aC hh bb x1 x2 x3 x4 x5 H.size (zslot_0 hk)) (cwV 5 hall (zgV zw_681 zw_683 zw_684 zw_802 g_X11_holds rfl) rfl rfl rfl (by decide +kernel) ⟨Nat.le_of_ble_eq_true rfl, Nat.le_of_ble_eq_true rfl⟩) (zPre_V (As := [.int x1, .int x2, .int x3, .int x4, .int x5]) hK hP hD [0, 1] rfl (by decide +kernel) (ci := 10) (q0 := 0) rfl rfl) rfl rfl hl.1 rfl (lv_room (Nat.le_of_ble_eq_true rfl)) dL_law_1093 ⟨Nat.le_of_ble_eq_true rfl, Nat.le_of_ble_eq_true rfl⟩) (fun ra L140340 hw hS' => ?_)
    clear hS
    have hS := hS'
    clear hS'
    have hwa := hw
    clear hw
    refine lv_aload_n hx hb dL_law_1096 rfl (lv_at hl 1 rfl) ?_
    refine lv_aload_n hx hb dL_law_1097 rfl (lv_at hl 3 rfl) ?_
    refine lv_iload_n hx hb dL_law_1098 rfl (lv_at hl 0 rfl) ?_
    show W p l e _ s m _ below meth c _ _ _ _ QQ (F0 m 1099 ls [.int 0, .ref b, .ref mm, .int ra])
    refine lv_iconst (v := 1) hx hb dL_law_1099 (by decide) ?_
    refine lv_iadd hx hb dL_law_1100 ?_
    refine lv_topi (fun y140341 ey140341 => ?_)
    obtain rfl : y140341 = 1 := by rw [ey140341]; decide
    try clear ey140341
    refine zsld hx hb hX hbl hbA hS (zvp (by decide)) hx1 dL_law_1101 ?_
    refine lv_aload_n hx hb dL_law_1102 rfl (lv_at hl 3 rfl) ?_
    refine lv_iload_n hx hb dL_law_1103 rfl (lv_at hl 0 rfl) ?_
    show W p l e _ s m _ below meth c _ _ _ _ QQ (F0 m 1104 ls [.int 0, .ref b, .int x1, .ref mm, .int ra])
    refine lv_iconst (v := 2) hx hb dL_law_1104 (by decide) ?_
    refine lv_iadd hx hb dL_law_1105 ?_
    refine lv_topi (fun y140342 ey140342 => ?_)
    obtain rfl : y140342 = 2 := by rw [ey140342]; decide
    try clear ey140342
    refine zsld hx hb hX hbl hbA hS (zvp (by decide)) hx2 dL_law_1106 ?_
    refine lv_aload_n hx hb dL_law_1107 rfl (lv_at hl 3 rfl) ?_
    refine lv_iload_n hx hb dL_law_1108 rfl (lv_at hl 0 rfl) ?_
    show W p l e _ s m _ below meth c _ _ _ _ QQ (F0 m 1109 ls [.int 0, .ref b, .int x2, .int x1, .ref mm, .int ra])
    refine lv_iconst (v := 3) hx hb dL_law_1109 (by decide) ?_
    refine lv_iadd hx hb dL_law_1110 ?_
    refine lv_topi (fun y140343 ey140343 => ?_)
    obtain rfl : y140343 = 3 := by rw [ey140343]; decide
    try clear ey140343
    refine zsld hx hb hX hbl hbA hS (zvp (by decide)) hx3 dL_law_1111 ?_
    refine lv_aload_n hx hb dL_law_1112 rfl (lv_at hl 3 rfl) ?_
    refine lv_iload_n hx hb dL_law_1113 rfl (lv_at hl 0 rfl) ?_
    show W p l e _ s m _ below meth c _ _ _ _ QQ (F0 m 1114 ls [.int 0, .ref b, .int x3, .int x2, .int x1, .ref mm, .int ra])
    refine lv_iconst (v := 4) hx hb dL_law_1114 (by decide) ?_
    refine lv_iadd hx hb dL_law_1115 ?_
    refine lv_topi (fun y140344 ey140344 => ?_)
    obtain rfl : y140344 = 4 := by rw [ey140344]; decide
    try clear ey140344
    refine zsld hx hb hX hbl hbA hS (zvp (by decide)) hx4 dL_law_1116 ?_
    refine lv_aload_n hx hb dL_law_1117 rfl (lv_at hl 3 rfl) ?_
    refine lv_iload_n hx hb dL_law_1118 rfl (lv_at hl 0 rfl) ?_
    show W p l e _ s m _ below meth c _ _ _ _ QQ (F0 m 1119 ls [.int 0, .ref b, .int x4, .int x3, .int x2, .int x1, .ref mm, .int ra])
    refine lv_iconst (v := 5) hx hb dL_law_1119 (by decide) ?_
    refine lv_iadd hx hb dL_law_1120 ?_
    refine lv_topi (fun y140345 ey140345 => ?_)
    obtain rfl : y140345 = 5 := by rw [ey140345]; decide
    try clear ey140345
    refine zsld hx hb hX hbl hbA hS (zvp (by decide)) hx5 dL_law_1121 ?_
    refine zro_i hS hA (va_runV (As := [.int x1, .int x2, .int x3, .int x4, .int x5]) (rest := [.int ra]) ⟨hx, hb, hml, hown, hall⟩ (c_X16_holds_out l dC dI aC mm d x1 x2 x3 x4 x5 H.size hk) (cwV 5 hall (zgV zw_685 zw_687 zw_688 zw_812 g_X16_holds rfl) rfl rfl rfl (by decide +kernel) ⟨Nat.le_of_ble_eq_true rfl, Nat.le_of_ble_eq_true rfl⟩) (zPre_V (As := [.int x1, .int x2, .int x3, .int x4, .int x5]) hK hP hD [2, 3] rfl (by decide +kernel) (ci := 15) (q0 := 0) rfl rfl) rfl rfl hl.1 rfl (lv_room (Nat.le_of_ble_eq_true rfl)) dL_law_1122 ⟨Nat.le_of_ble_eq_true rfl, Nat.le_of_ble_eq_true rfl⟩) (fun rb L140346 hw hS' => ?_)
    clear hS
    have hS := hS'
    clear hS'
    have hwb := hw
    clear hw
    refine lv_icmp_eq (tgt := 1443) hx hb dL_law_1125 (by decide) (fun _ => ?_) (fun hne => absurd (hwa.trans hwb.symm) hne)
    subst hQ
    subst hAe
    exact law_tail C1 (Nat.le_of_ble_eq_true rfl) (Nat.le_of_ble_eq_true rfl) hS (lv_sub hl [0, 3] rfl)

set_option maxHeartbeats 4000000 in
set_option maxRecDepth 100000 in
theorem law_row {p : Program} {l : Launch} {e : Env} {s : State} {m : MethodId} {below : List Frame} {meth : Method} {c : Code} {b : Nat} {xs : Nat → Int32} {H : Heap} {locs : List Loc} {ls : Array Slot} {dC : Nat → ClassId} {dI : Nat → Nat → Nat} {aC : Nat → ClassId} {hh bb mm d : Nat} (C0 : lw_At p s m meth c b 6 xs) (hK : zK (dC, dI) aC s) (hR : zReady s H dC dI aC hh bb mm d) (hS : va_S (fun q => s.heap.size ≤ q) s.heap H locs) (hl : lv_has ls 4 [(3, .int 0), (2, .ref mm), (1, .ref hh), (0, .ref b)]) : W p l e room_1 s m #[Value.ref b] below meth c H locs 8431 1660372 (lw_Z below #[Value.ref b] s) (F0 m 1130 ls []) := by
  have C1 := C0
  obtain ⟨hx, hb, hr, hml, hown0, hts, hX, hbl, hlocks, hgv⟩ := C0
  obtain ⟨hPh, hFh, hPm, hFm, ez1, ez2, ez3, ez4, hz0⟩ := hR
  have hown : s.vm.findClass RL = some m.cls := hown0
  have hall : ∀ w ∈ zAll, w.before #[Value.ref b] s = true := fun w h => hts w (zAll_in w h)
  have hbA : ¬ (fun q : Nat => s.heap.size ≤ q) b := Nat.not_le.mpr hbl
  generalize hAe : (fun q : Nat => s.heap.size ≤ q) = A at hS hbA
  have hA : ∀ q : Nat, s.heap.size ≤ q → A q := fun q h => by rw [← hAe]; exact h
  generalize hQ : lw_Z below #[Value.ref b] s = QQ
  obtain ⟨x1, hx1⟩ : ∃ y, xs (1 : Int32).toNatClampNeg = y := ⟨_, rfl⟩
  obtain ⟨x2, hx2⟩ : ∃ y, xs (2 : Int32).toNatClampNeg = y := ⟨_, rfl⟩
  by_cases hk : zok x1 = true
  · obtain ⟨a1, ea1⟩ : ∃ q, q = bb + (1 + 6 * x1.toNatClampNeg) := ⟨_, rfl⟩
    obtain ⟨a2, ea2⟩ : ∃ q, q = d + (7485 + 9 * x1.toNatClampNeg) := ⟨_, rfl⟩
    have hn12 := zok_12 hk
    have hsl : zslot bb x1 = some a1 := by rw [ea1]; exact zslot_1 hk
    have hSl : va_P (dC, dI) vwCl (zSlotW aC a1) H := by rw [ea1]; exact hFh _ hn12
    have hTh : va_P (dC, dI) vwCl (zThW aC a2) H := by rw [ea2]; exact hFm _ hn12
    have hP : va_P (dC, dI) vwCl [(hh, .inr (10, [.ref (bb + 0), .ref (bb + 73), .ref (bb + 75), .ref (bb + 76), .ref (bb + 80), .ref (bb + 81), .ref (bb + 88), .ref (bb + 95), .ref (bb + 100), .ref (bb + 106), .int 0, .ref (bb + 107), .int 0])), (bb + 0, .inl (aC 3, 12, .inr (.inr (.inr (.inr (zrefs (fun i => bb + (1 + 6 * i)) 12)))))), (a1, .inr (5, [.int 0, .int 0, .int 0, .int 0, .int 0, .int 0, .int 0, .ref (a1 + 1), .ref (a1 + 2), .ref (a1 + 3), .ref (a1 + 4), .ref (a1 + 5)])), (mm, .inr (15, [.ref (d + 0), .int 0, .ref (d + 1), .int 0, .ref (d + 2), .ref (d + 3), .ref (d + 68), .ref (d + 77), .ref (d + 78), .int 0, .int 0, .ref (d + 79), .int 0, .int 0, .int 0, .ref (d + 80), .int 0, .int 0, .int 0, .int 0, .ref (d + 81), .ref (d + 82), .int (-1), .ref (d + 91), .int 0, .int 0, .ref (d + 92), .int 0, .ref (d + 93), .int 0, .ref (d + 94), .int 0, .ref (d + 95), .ref (d + 96), .ref (d + 97), .ref (d + 98), .int 0, .int 0, .ref (d + 99), .null, .null, .null, .null, .null, .ref (d + 148), .ref (d + 175), .ref (d + 176), .ref (d + 177), .int 0, .ref (d + 178), .ref (d + 179), .ref (d + 180), .ref (d + 185), .ref (d + 190), .ref (d + 191), .ref (d + 192), .ref (d + 193), .ref (d + 201), .ref (d + 209), .ref (d + 210), .ref (d + 211), .ref (d + 272), .ref (d + 273), .int 0, .ref (d + 274)])), (d + 81, .inl (aC 6, 12, .inr (.inr (.inr (.inr (zrefs (fun i => d + (7485 + 9 * i)) 12)))))), (a2, .inr (13, [.int 0, .ref (a2 + 1 + 0), .ref (a2 + 1 + 1), .int 0, .int 0, .int 0, .ref (a2 + 1 + 2), .ref (a2 + 1 + 3), .ref (a2 + 1 + 4), .ref (a2 + 1 + 5), .int 0, .ref (a2 + 1 + 6), .int 0, .int 0, .ref (a2 + 1 + 7)]))] H := zP_c (hPh 0 _ rfl) (zP_c (hPh 1 _ rfl) (zP_c (hSl 0 _ rfl) (zP_c (hPm 0 _ rfl) (zP_c (hPm 15 _ rfl) (zP_c (hTh 0 _ rfl) (zP_n))))))
    have hD : va_D A [(hh, .inr (10, [.ref (bb + 0), .ref (bb + 73), .ref (bb + 75), .ref (bb + 76), .ref (bb + 80), .ref (bb + 81), .ref (bb + 88), .ref (bb + 95), .ref (bb + 100), .ref (bb + 106), .int 0, .ref (bb + 107), .int 0])), (bb + 0, .inl (aC 3, 12, .inr (.inr (.inr (.inr (zrefs (fun i => bb + (1 + 6 * i)) 12)))))), (a1, .inr (5, [.int 0, .int 0, .int 0, .int 0, .int 0, .int 0, .int 0, .ref (a1 + 1), .ref (a1 + 2), .ref (a1 + 3), .ref (a1 + 4), .ref (a1 + 5)])), (mm, .inr (15, [.ref (d + 0), .int 0, .ref (d + 1), .int 0, .ref (d + 2), .ref (d + 3), .ref (d + 68), .ref (d + 77), .ref (d + 78), .int 0, .int 0, .ref (d + 79), .int 0, .int 0, .int 0, .ref (d + 80), .int 0, .int 0, .int 0, .int 0, .ref (d + 81), .ref (d + 82), .int (-1), .ref (d + 91), .int 0, .int 0, .ref (d + 92), .int 0, .ref (d + 93), .int 0, .ref (d + 94), .int 0, .ref (d + 95), .ref (d + 96), .ref (d + 97), .ref (d + 98), .int 0, .int 0, .ref (d + 99), .null, .null, .null, .null, .null, .ref (d + 148), .ref (d + 175), .ref (d + 176), .ref (d + 177), .int 0, .ref (d + 178), .ref (d + 179), .ref (d + 180), .ref (d + 185), .ref (d + 190), .ref (d + 191), .ref (d + 192), .ref (d + 193), .ref (d + 201), .ref (d + 209), .ref (d + 210), .ref (d + 211), .ref (d + 272), .ref (d + 273), .int 0, .ref (d + 274)])), (d + 81, .inl (aC 6, 12, .inr (.inr (.inr (.inr (zrefs (fun i => d + (7485 + 9 * i)) 12)))))), (a2, .inr (13, [.int 0, .ref (a2 + 1 + 0), .ref (a2 + 1 + 1), .int 0, .int 0, .int 0, .ref (a2 + 1 + 2), .ref (a2 + 1 + 3), .ref (a2 + 1 + 4), .ref (a2 + 1 + 5), .int 0, .ref (a2 + 1 + 6), .int 0, .int 0, .ref (a2 + 1 + 7)]))] := zUp_D (lo := s.heap.size) hA (zUp_c (by omega) (zUp_c (by omega) (zUp_c (by omega) (zUp_c (by omega) (zUp_c (by omega) (zUp_c (by omega) (zUp_n)))))))
    clear hPh hFh hPm hFm hSl hTh
    refine lv_aload_n hx hb dL_law_1130 rfl (lv_at hl 2 rfl) ?_
    refine lv_aload_n hx hb dL_law_1131 rfl (lv_at hl 3 rfl) ?_
    refine lv_iload_n hx hb dL_law_1132 rfl (lv_at hl 0 rfl) ?_
    refine lv_iconst (v := 1) hx hb dL_law_1133 (by decide) ?_
    refine lv_iadd hx hb dL_law_1134 ?_
    refine lv_topi (fun y140347 ey140347 => ?_)
    obtain rfl : y140347 = 1 := by rw [ey140347]; decide
    try clear ey140347
    show W p l e _ s m _ below meth c _ _ _ _ QQ (F0 m 1135 ls [.int 1, .ref b, .ref hh])
    refine zsld hx hb hX hbl hbA hS (zvp (by decide)) hx1 dL_law_1135 ?_
    refine lv_aload_n hx hb dL_law_1136 rfl (lv_at hl 3 rfl) ?_
    refine lv_iload_n hx hb dL_law_1137 rfl (lv_at hl 0 rfl) ?_
    refine lv_iconst (v := 2) hx hb dL_law_1138 (by decide) ?_
    refine lv_iadd hx hb dL_law_1139 ?_
    refine lv_topi (fun y140348 ey140348 => ?_)
    obtain rfl : y140348 = 2 := by rw [ey140348]; decide
    try clear ey140348
    show W p l e _ s m _ below meth c _ _ _ _ QQ (F0 m 1140 ls [.int 2, .ref b, .int x1, .ref hh])
    refine zsld hx hb hX hbl hbA hS (zvp (by decide)) hx2 dL_law_1140 ?_
    refine zro_i hS hA (va_runV (As := [.int x1, .int x2]) (rest := []) ⟨hx, hb, hml, hown, hall⟩ (c_X11_row_in l dC dI aC hh bb a1 x1 x2 H.size hsl) (cwV 2 hall (zgV zw_689 zw_691 zw_692 zw_802 g_X11_row rfl) rfl rfl rfl (by decide +kernel) ⟨Nat.le_of_ble_eq_true rfl, Nat.le_of_ble_eq_true rfl⟩) (zPre_V (As := [.int x1, .int x2]) hK hP hD [0, 1, 2] rfl (by decide +kernel) (ci := 10) (q0 := 0) rfl rfl) rfl rfl hl.1 rfl (lv_room (Nat.le_of_ble_eq_true rfl)) dL_law_1141 ⟨Nat.le_of_ble_eq_true rfl, Nat.le_of_ble_eq_true rfl⟩) (fun ra L140349 hw hS' => ?_)
    clear hS
    have hS := hS'
    clear hS'
    have hwa := hw
    clear hw
    refine lv_aload_n hx hb dL_law_1144 rfl (lv_at hl 1 rfl) ?_
    refine lv_aload_n hx hb dL_law_1145 rfl (lv_at hl 3 rfl) ?_
    refine lv_iload_n hx hb dL_law_1146 rfl (lv_at hl 0 rfl) ?_
    show W p l e _ s m _ below meth c _ _ _ _ QQ (F0 m 1147 ls [.int 0, .ref b, .ref mm, .int ra])
    refine lv_iconst (v := 1) hx hb dL_law_1147 (by decide) ?_
    refine lv_iadd hx hb dL_law_1148 ?_
    refine lv_topi (fun y140350 ey140350 => ?_)
    obtain rfl : y140350 = 1 := by rw [ey140350]; decide
    try clear ey140350
    refine zsld hx hb hX hbl hbA hS (zvp (by decide)) hx1 dL_law_1149 ?_
    refine lv_aload_n hx hb dL_law_1150 rfl (lv_at hl 3 rfl) ?_
    refine lv_iload_n hx hb dL_law_1151 rfl (lv_at hl 0 rfl) ?_
    show W p l e _ s m _ below meth c _ _ _ _ QQ (F0 m 1152 ls [.int 0, .ref b, .int x1, .ref mm, .int ra])
    refine lv_iconst (v := 2) hx hb dL_law_1152 (by decide) ?_
    refine lv_iadd hx hb dL_law_1153 ?_
    refine lv_topi (fun y140351 ey140351 => ?_)
    obtain rfl : y140351 = 2 := by rw [ey140351]; decide
    try clear ey140351
    refine zsld hx hb hX hbl hbA hS (zvp (by decide)) hx2 dL_law_1154 ?_
    refine zro_i hS hA (va_runV (As := [.int x1, .int x2]) (rest := [.int ra]) ⟨hx, hb, hml, hown, hall⟩ (c_X16_row_in l dC dI aC mm d a2 x1 x2 H.size hk ea2) (cwV 2 hall (zgV zw_693 zw_695 zw_696 zw_812 g_X16_row rfl) rfl rfl rfl (by decide +kernel) ⟨Nat.le_of_ble_eq_true rfl, Nat.le_of_ble_eq_true rfl⟩) (zPre_V (As := [.int x1, .int x2]) hK hP hD [3, 4, 5] rfl (by decide +kernel) (ci := 15) (q0 := 0) rfl rfl) rfl rfl hl.1 rfl (lv_room (Nat.le_of_ble_eq_true rfl)) dL_law_1155 ⟨Nat.le_of_ble_eq_true rfl, Nat.le_of_ble_eq_true rfl⟩) (fun rb L140352 hw hS' => ?_)
    clear hS
    have hS := hS'
    clear hS'
    have hwb := hw
    clear hw
    refine lv_icmp_eq (tgt := 1443) hx hb dL_law_1158 (by decide) (fun _ => ?_) (fun hne => absurd (hwa.trans hwb.symm) hne)
    subst hQ
    subst hAe
    exact law_tail C1 (Nat.le_of_ble_eq_true rfl) (Nat.le_of_ble_eq_true rfl) hS (lv_sub hl [0, 3] rfl)
  · have hP : va_P (dC, dI) vwCl [(hh, .inr (10, [.ref (bb + 0), .ref (bb + 73), .ref (bb + 75), .ref (bb + 76), .ref (bb + 80), .ref (bb + 81), .ref (bb + 88), .ref (bb + 95), .ref (bb + 100), .ref (bb + 106), .int 0, .ref (bb + 107), .int 0])), (bb + 0, .inl (aC 3, 12, .inr (.inr (.inr (.inr (zrefs (fun i => bb + (1 + 6 * i)) 12)))))), (mm, .inr (15, [.ref (d + 0), .int 0, .ref (d + 1), .int 0, .ref (d + 2), .ref (d + 3), .ref (d + 68), .ref (d + 77), .ref (d + 78), .int 0, .int 0, .ref (d + 79), .int 0, .int 0, .int 0, .ref (d + 80), .int 0, .int 0, .int 0, .int 0, .ref (d + 81), .ref (d + 82), .int (-1), .ref (d + 91), .int 0, .int 0, .ref (d + 92), .int 0, .ref (d + 93), .int 0, .ref (d + 94), .int 0, .ref (d + 95), .ref (d + 96), .ref (d + 97), .ref (d + 98), .int 0, .int 0, .ref (d + 99), .null, .null, .null, .null, .null, .ref (d + 148), .ref (d + 175), .ref (d + 176), .ref (d + 177), .int 0, .ref (d + 178), .ref (d + 179), .ref (d + 180), .ref (d + 185), .ref (d + 190), .ref (d + 191), .ref (d + 192), .ref (d + 193), .ref (d + 201), .ref (d + 209), .ref (d + 210), .ref (d + 211), .ref (d + 272), .ref (d + 273), .int 0, .ref (d + 274)])), (d + 81, .inl (aC 6, 12, .inr (.inr (.inr (.inr (zrefs (fun i => d + (7485 + 9 * i)) 12))))))] H := zP_c (hPh 0 _ rfl) (zP_c (hPh 1 _ rfl) (zP_c (hPm 0 _ rfl) (zP_c (hPm 15 _ rfl) (zP_n))))
    have hD : va_D A [(hh, .inr (10, [.ref (bb + 0), .ref (bb + 73), .ref (bb + 75), .ref (bb + 76), .ref (bb + 80), .ref (bb + 81), .ref (bb + 88), .ref (bb + 95), .ref (bb + 100), .ref (bb + 106), .int 0, .ref (bb + 107), .int 0])), (bb + 0, .inl (aC 3, 12, .inr (.inr (.inr (.inr (zrefs (fun i => bb + (1 + 6 * i)) 12)))))), (mm, .inr (15, [.ref (d + 0), .int 0, .ref (d + 1), .int 0, .ref (d + 2), .ref (d + 3), .ref (d + 68), .ref (d + 77), .ref (d + 78), .int 0, .int 0, .ref (d + 79), .int 0, .int 0, .int 0, .ref (d + 80), .int 0, .int 0, .int 0, .int 0, .ref (d + 81), .ref (d + 82), .int (-1), .ref (d + 91), .int 0, .int 0, .ref (d + 92), .int 0, .ref (d + 93), .int 0, .ref (d + 94), .int 0, .ref (d + 95), .ref (d + 96), .ref (d + 97), .ref (d + 98), .int 0, .int 0, .ref (d + 99), .null, .null, .null, .null, .null, .ref (d + 148), .ref (d + 175), .ref (d + 176), .ref (d + 177), .int 0, .ref (d + 178), .ref (d + 179), .ref (d + 180), .ref (d + 185), .ref (d + 190), .ref (d + 191), .ref (d + 192), .ref (d + 193), .ref (d + 201), .ref (d + 209), .ref (d + 210), .ref (d + 211), .ref (d + 272), .ref (d + 273), .int 0, .ref (d + 274)])), (d + 81, .inl (aC 6, 12, .inr (.inr (.inr (.inr (zrefs (fun i => d + (7485 + 9 * i)) 12))))))] := zUp_D (lo := s.heap.size) hA (zUp_c (by omega) (zUp_c (by omega) (zUp_c (by omega) (zUp_c (by omega) (zUp_n)))))
    clear hPh hFh hPm hFm
    refine lv_aload_n hx hb dL_law_1130 rfl (lv_at hl 2 rfl) ?_
    refine lv_aload_n hx hb dL_law_1131 rfl (lv_at hl 3 rfl) ?_
    refine lv_iload_n hx hb dL_law_1132 rfl (lv_at hl 0 rfl) ?_
    refine lv_iconst (v := 1) hx hb dL_law_1133 (by decide) ?_
    refine lv_iadd hx hb dL_law_1134 ?_
    refine lv_topi (fun y140353 ey140353 => ?_)
    obtain rfl : y140353 = 1 := by rw [ey140353]; decide
    try clear ey140353
    show W p l e _ s m _ below meth c _ _ _ _ QQ (F0 m 1135 ls [.int 1, .ref b, .ref hh])
    refine zsld hx hb hX hbl hbA hS (zvp (by decide)) hx1 dL_law_1135 ?_
    refine lv_aload_n hx hb dL_law_1136 rfl (lv_at hl 3 rfl) ?_
    refine lv_iload_n hx hb dL_law_1137 rfl (lv_at hl 0 rfl) ?_
    refine lv_iconst (v := 2) hx hb dL_law_1138 (by decide) ?_
    refine lv_iadd hx hb dL_law_1139 ?_
    refine lv_topi (fun y140354 ey140354 => ?_)
    obtain rfl : y140354 = 2 := by rw [ey140354]; decide
    try clear ey140354
    show W p l e _ s m _ below meth c _ _ _ _ QQ (F0 m 1140 ls [.int 2, .ref b, .int x1, .ref hh])
    refine zsld hx hb hX hbl hbA hS (zvp (by decide)) hx2 dL_law_1140 ?_
    refine zro_i hS hA (va_runV (As := [.int x1, .int x2]) (rest := []) ⟨hx, hb, hml, hown, hall⟩ (c_X11_row_out l dC dI aC hh bb x1 x2 H.size (zslot_0 hk)) (cwV 2 hall (zgV zw_689 zw_691 zw_692 zw_802 g_X11_row rfl) rfl rfl rfl (by decide +kernel) ⟨Nat.le_of_ble_eq_true rfl, Nat.le_of_ble_eq_true rfl⟩) (zPre_V (As := [.int x1, .int x2]) hK hP hD [0, 1] rfl (by decide +kernel) (ci := 10) (q0 := 0) rfl rfl) rfl rfl hl.1 rfl (lv_room (Nat.le_of_ble_eq_true rfl)) dL_law_1141 ⟨Nat.le_of_ble_eq_true rfl, Nat.le_of_ble_eq_true rfl⟩) (fun ra L140355 hw hS' => ?_)
    clear hS
    have hS := hS'
    clear hS'
    have hwa := hw
    clear hw
    refine lv_aload_n hx hb dL_law_1144 rfl (lv_at hl 1 rfl) ?_
    refine lv_aload_n hx hb dL_law_1145 rfl (lv_at hl 3 rfl) ?_
    refine lv_iload_n hx hb dL_law_1146 rfl (lv_at hl 0 rfl) ?_
    show W p l e _ s m _ below meth c _ _ _ _ QQ (F0 m 1147 ls [.int 0, .ref b, .ref mm, .int ra])
    refine lv_iconst (v := 1) hx hb dL_law_1147 (by decide) ?_
    refine lv_iadd hx hb dL_law_1148 ?_
    refine lv_topi (fun y140356 ey140356 => ?_)
    obtain rfl : y140356 = 1 := by rw [ey140356]; decide
    try clear ey140356
    refine zsld hx hb hX hbl hbA hS (zvp (by decide)) hx1 dL_law_1149 ?_
    refine lv_aload_n hx hb dL_law_1150 rfl (lv_at hl 3 rfl) ?_
    refine lv_iload_n hx hb dL_law_1151 rfl (lv_at hl 0 rfl) ?_
    show W p l e _ s m _ below meth c _ _ _ _ QQ (F0 m 1152 ls [.int 0, .ref b, .int x1, .ref mm, .int ra])
    refine lv_iconst (v := 2) hx hb dL_law_1152 (by decide) ?_
    refine lv_iadd hx hb dL_law_1153 ?_
    refine lv_topi (fun y140357 ey140357 => ?_)
    obtain rfl : y140357 = 2 := by rw [ey140357]; decide
    try clear ey140357
    refine zsld hx hb hX hbl hbA hS (zvp (by decide)) hx2 dL_law_1154 ?_
    refine zro_i hS hA (va_runV (As := [.int x1, .int x2]) (rest := [.int ra]) ⟨hx, hb, hml, hown, hall⟩ (c_X16_row_out l dC dI aC mm d x1 x2 H.size hk) (cwV 2 hall (zgV zw_693 zw_695 zw_696 zw_812 g_X16_row rfl) rfl rfl rfl (by decide +kernel) ⟨Nat.le_of_ble_eq_true rfl, Nat.le_of_ble_eq_true rfl⟩) (zPre_V (As := [.int x1, .int x2]) hK hP hD [2, 3] rfl (by decide +kernel) (ci := 15) (q0 := 0) rfl rfl) rfl rfl hl.1 rfl (lv_room (Nat.le_of_ble_eq_true rfl)) dL_law_1155 ⟨Nat.le_of_ble_eq_true rfl, Nat.le_of_ble_eq_true rfl⟩) (fun rb L140358 hw hS' => ?_)
    clear hS
    have hS := hS'
    clear hS'
    have hwb := hw
    clear hw
    refine lv_icmp_eq (tgt := 1443) hx hb dL_law_1158 (by decide) (fun _ => ?_) (fun hne => absurd (hwa.trans hwb.symm) hne)
    subst hQ
    subst hAe
    exact law_tail C1 (Nat.le_of_ble_eq_true rfl) (Nat.le_of_ble_eq_true rfl) hS (lv_sub hl [0, 3] rfl)
