set_option maxRecDepth 20000 in
set_option maxHeartbeats 4000000 in
theorem lw_c24 {nm : String} {E : zE} {L : Nat} {xs : Nat → Int32} {Q : zQx} {k i n : Nat} {S : zM} {s : zST} (hE : zOKE E) (hX : zOKX E) (hl0 : ∀ l s c, Q.1 l s c → l.stackTraces = false) (hs : zScr E L xs) (h4 : L ≤ 4608) (hi : i + 9 ≤ L) (hn : n + 1 < 600) (hI : zLI n S s) (fin : ∀ (T : zM) (s' : zST), zLI (n + 1) T s' → zJx E 10 (24 * k) (614 * k) (mL_law nm) cL_law 1812 (zll i) [] T Q) : zJx E 10 (24 * (k + 1)) (614 * (k + 1)) (mL_law nm) cL_law 1011 (zll i) [] S Q := by
  obtain ⟨hC, hM, hW, hO⟩ := id hI
  have k1 := hC.1.1
  refine x_aload_n (pc := 1011) dL_law_1011 rfl ?_
  refine x_aload_nq (pc := 1012) dL_law_1012 rfl ?_
  refine x_iload (pc := 1013) dL_law_1013 rfl ?_
  refine x_iconst (pc := 1015) (v := 1) dL_law_1015 (by decide) ?_
  refine x_iadd (pc := 1016) dL_law_1016 ?_
  refine x_sld (pc := 1017) (j := i + 1) hs h4 dL_law_1017 (nI_p1 i) (by omega) ?_
  refine x_aload_nq (pc := 1018) dL_law_1018 rfl ?_
  refine x_iload (pc := 1019) dL_law_1019 rfl ?_
  refine x_iconst (pc := 1021) (v := 2) dL_law_1021 (by decide) ?_
  refine x_iadd (pc := 1022) dL_law_1022 ?_
  refine x_sld (pc := 1023) (j := i + 2) hs h4 dL_law_1023 (nI_p2 i) (by omega) ?_
  refine x_aload_nq (pc := 1024) dL_law_1024 rfl ?_
  refine x_iload (pc := 1025) dL_law_1025 rfl ?_
  refine x_iconst (pc := 1027) (v := 3) dL_law_1027 (by decide) ?_
  refine x_iadd (pc := 1028) dL_law_1028 ?_
  refine x_sld (pc := 1029) (j := i + 3) hs h4 dL_law_1029 (nI_p3 i) (by omega) ?_
  refine x_if_eq (pc := 1030) (tgt := 1037) dL_law_1030 (by decide) (fun hb3 => ?_) (fun hb3 => ?_)
  · refine x_iconst (pc := 1037) (v := 0) dL_law_1037 (by decide) ?_
    refine x_callV (pc := 1038) (t := 11) (mc2 := 24 * k) (ms2 := 614 * k) (p_begin hC hW (xs (i + 1)) (xs (i + 2)) false) dL_law_1038 l_L_124 mk_X11_begin mv_X11_begin (by decide) rfl k1 (by decide) rfl rfl (Nat.le_of_ble_eq_true rfl) (by omega) (by omega) (fun r T g1 => ?_)
    obtain ⟨rfl, hC1, hQ1⟩ := g1
    have hM1 := hI.m hQ1
    refine x_aload_n (pc := 1041) dL_law_1041 rfl ?_
    refine x_aload_nq (pc := 1042) dL_law_1042 rfl ?_
    refine x_iload (pc := 1043) dL_law_1043 rfl ?_
    refine x_iconst (pc := 1045) (v := 1) dL_law_1045 (by decide) ?_
    refine x_iadd (pc := 1046) dL_law_1046 ?_
    refine x_sld (pc := 1047) (j := i + 1) hs h4 dL_law_1047 (nI_p1 i) (by omega) ?_
    refine x_aload_nq (pc := 1048) dL_law_1048 rfl ?_
    refine x_iload (pc := 1049) dL_law_1049 rfl ?_
    refine x_iconst (pc := 1051) (v := 2) dL_law_1051 (by decide) ?_
    refine x_iadd (pc := 1052) dL_law_1052 ?_
    refine x_sld (pc := 1053) (j := i + 2) hs h4 dL_law_1053 (nI_p2 i) (by omega) ?_
    refine x_aload_nq (pc := 1054) dL_law_1054 rfl ?_
    refine x_iload (pc := 1055) dL_law_1055 rfl ?_
    refine x_iconst (pc := 1057) (v := 3) dL_law_1057 (by decide) ?_
    refine x_iadd (pc := 1058) dL_law_1058 ?_
    refine x_sld (pc := 1059) (j := i + 3) hs h4 dL_law_1059 (nI_p3 i) (by omega) ?_
    refine x_if_eq (pc := 1060) (tgt := 1067) dL_law_1060 (by decide) (fun _ => ?_) (fun g => absurd hb3 g)
    refine x_iconst (pc := 1067) (v := 0) dL_law_1067 (by decide) ?_
    refine x_callV (pc := 1068) (t := 12) (m_begin hM1 hW (xs (i + 1)) (xs (i + 2)) false) dL_law_1068 l_L_128 mk_X12_begin mv_X12_begin (by decide) rfl hM1.1.1 (by decide) rfl rfl (Nat.le_of_ble_eq_true rfl) (Nat.le_refl _) (Nat.le_refl _) (fun r T2 g2 => ?_)
    obtain ⟨rfl, hM2, hF2⟩ := g2
    refine x_icmp_eq (pc := 1071) (tgt := 1812) dL_law_1071 (by decide) (fun _ => ?_) (fun g => absurd rfl g)
    exact fin _ _ (hI.next hQ1 hC1 hF2 hM2 (w_begin hW hn (xs (i + 1)) (xs (i + 2)) false))
  · refine x_iconst (pc := 1033) (v := 1) dL_law_1033 (by decide) ?_
    refine x_goto (pc := 1034) (tgt := 1038) dL_law_1034 (by decide) ?_
    refine x_callV (pc := 1038) (t := 11) (mc2 := 24 * k) (ms2 := 614 * k) (p_begin hC hW (xs (i + 1)) (xs (i + 2)) true) dL_law_1038 l_L_124 mk_X11_begin mv_X11_begin (by decide) rfl k1 (by decide) rfl rfl (Nat.le_of_ble_eq_true rfl) (by omega) (by omega) (fun r T g1 => ?_)
    obtain ⟨rfl, hC1, hQ1⟩ := g1
    have hM1 := hI.m hQ1
    refine x_aload_n (pc := 1041) dL_law_1041 rfl ?_
    refine x_aload_nq (pc := 1042) dL_law_1042 rfl ?_
    refine x_iload (pc := 1043) dL_law_1043 rfl ?_
    refine x_iconst (pc := 1045) (v := 1) dL_law_1045 (by decide) ?_
    refine x_iadd (pc := 1046) dL_law_1046 ?_
    refine x_sld (pc := 1047) (j := i + 1) hs h4 dL_law_1047 (nI_p1 i) (by omega) ?_
    refine x_aload_nq (pc := 1048) dL_law_1048 rfl ?_
    refine x_iload (pc := 1049) dL_law_1049 rfl ?_
    refine x_iconst (pc := 1051) (v := 2) dL_law_1051 (by decide) ?_
    refine x_iadd (pc := 1052) dL_law_1052 ?_
    refine x_sld (pc := 1053) (j := i + 2) hs h4 dL_law_1053 (nI_p2 i) (by omega) ?_
    refine x_aload_nq (pc := 1054) dL_law_1054 rfl ?_
    refine x_iload (pc := 1055) dL_law_1055 rfl ?_
    refine x_iconst (pc := 1057) (v := 3) dL_law_1057 (by decide) ?_
    refine x_iadd (pc := 1058) dL_law_1058 ?_
    refine x_sld (pc := 1059) (j := i + 3) hs h4 dL_law_1059 (nI_p3 i) (by omega) ?_
    refine x_if_eq (pc := 1060) (tgt := 1067) dL_law_1060 (by decide) (fun g => absurd g hb3) (fun _ => ?_)
    refine x_iconst (pc := 1063) (v := 1) dL_law_1063 (by decide) ?_
    refine x_goto (pc := 1064) (tgt := 1068) dL_law_1064 (by decide) ?_
    refine x_callV (pc := 1068) (t := 12) (m_begin hM1 hW (xs (i + 1)) (xs (i + 2)) true) dL_law_1068 l_L_128 mk_X12_begin mv_X12_begin (by decide) rfl hM1.1.1 (by decide) rfl rfl (Nat.le_of_ble_eq_true rfl) (Nat.le_refl _) (Nat.le_refl _) (fun r T2 g2 => ?_)
    obtain ⟨rfl, hM2, hF2⟩ := g2
    refine x_icmp_eq (pc := 1071) (tgt := 1812) dL_law_1071 (by decide) (fun _ => ?_) (fun g => absurd rfl g)
    exact fin _ _ (hI.next hQ1 hC1 hF2 hM2 (w_begin hW hn (xs (i + 1)) (xs (i + 2)) true))
set_option maxRecDepth 20000 in
set_option maxHeartbeats 4000000 in
theorem lw_c25 {nm : String} {E : zE} {L : Nat} {xs : Nat → Int32} {Q : zQx} {k i n : Nat} {S : zM} {s : zST} (hE : zOKE E) (hX : zOKX E) (hl0 : ∀ l s c, Q.1 l s c → l.stackTraces = false) (hs : zScr E L xs) (h4 : L ≤ 4608) (hi : i + 9 ≤ L) (hn : n + 1 < 600) (hI : zLI n S s) (fin : ∀ (T : zM) (s' : zST), zLI (n + 1) T s' → zJx E 10 (24 * k) (614 * k) (mL_law nm) cL_law 1812 (zll i) [] T Q) : zJx E 10 (24 * (k + 1)) (614 * (k + 1)) (mL_law nm) cL_law 1076 (zll i) [] S Q := by
  obtain ⟨hC, hM, hW, hO⟩ := id hI
  have k1 := hC.1.1
  refine x_aload_n (pc := 1076) dL_law_1076 rfl ?_
  refine x_aload_nq (pc := 1077) dL_law_1077 rfl ?_
  refine x_iload (pc := 1078) dL_law_1078 rfl ?_
  refine x_iconst (pc := 1080) (v := 1) dL_law_1080 (by decide) ?_
  refine x_iadd (pc := 1081) dL_law_1081 ?_
  refine x_sld (pc := 1082) (j := i + 1) hs h4 dL_law_1082 (nI_p1 i) (by omega) ?_
  refine x_callV (pc := 1083) (t := 11) (mc2 := 24 * k) (ms2 := 614 * k) (p_on hC hW (xs (i + 1))) dL_law_1083 l_L_129 mk_X11_on mv_X11_on (by decide) rfl k1 (by decide) rfl rfl (Nat.le_of_ble_eq_true rfl) (by omega) (by omega) (fun r T g1 => ?_)
  obtain ⟨rfl, hC1, hQ1⟩ := g1
  have hM1 := hI.m hQ1
  refine x_aload_n (pc := 1086) dL_law_1086 rfl ?_
  refine x_aload_nq (pc := 1087) dL_law_1087 rfl ?_
  refine x_iload (pc := 1088) dL_law_1088 rfl ?_
  refine x_iconst (pc := 1090) (v := 1) dL_law_1090 (by decide) ?_
  refine x_iadd (pc := 1091) dL_law_1091 ?_
  refine x_sld (pc := 1092) (j := i + 1) hs h4 dL_law_1092 (nI_p1 i) (by omega) ?_
  refine x_callV (pc := 1093) (t := 12) (m_on hM1 hW (xs (i + 1))) dL_law_1093 l_L_132 mk_X12_on mv_X12_on (by decide) rfl hM1.1.1 (by decide) rfl rfl (Nat.le_of_ble_eq_true rfl) (Nat.le_refl _) (Nat.le_refl _) (fun r T2 g2 => ?_)
  obtain ⟨rfl, hM2, hF2⟩ := g2
  refine x_icmp_eq (pc := 1096) (tgt := 1812) dL_law_1096 (by decide) (fun _ => ?_) (fun g => absurd rfl g)
  exact fin _ _ (hI.next hQ1 hC1 hF2 hM2 (w_step hW hn (xs (i + 1)) true))
set_option maxRecDepth 20000 in
set_option maxHeartbeats 4000000 in
theorem lw_c26 {nm : String} {E : zE} {L : Nat} {xs : Nat → Int32} {Q : zQx} {k i n : Nat} {S : zM} {s : zST} (hE : zOKE E) (hX : zOKX E) (hl0 : ∀ l s c, Q.1 l s c → l.stackTraces = false) (hs : zScr E L xs) (h4 : L ≤ 4608) (hi : i + 9 ≤ L) (hn : n + 1 < 600) (hI : zLI n S s) (fin : ∀ (T : zM) (s' : zST), zLI (n + 1) T s' → zJx E 10 (24 * k) (614 * k) (mL_law nm) cL_law 1812 (zll i) [] T Q) : zJx E 10 (24 * (k + 1)) (614 * (k + 1)) (mL_law nm) cL_law 1101 (zll i) [] S Q := by
  obtain ⟨hC, hM, hW, hO⟩ := id hI
  have k1 := hC.1.1
  refine x_aload_n (pc := 1101) dL_law_1101 rfl ?_
  refine x_aload_nq (pc := 1102) dL_law_1102 rfl ?_
  refine x_iload (pc := 1103) dL_law_1103 rfl ?_
  refine x_iconst (pc := 1105) (v := 1) dL_law_1105 (by decide) ?_
  refine x_iadd (pc := 1106) dL_law_1106 ?_
  refine x_sld (pc := 1107) (j := i + 1) hs h4 dL_law_1107 (nI_p1 i) (by omega) ?_
  refine x_callV (pc := 1108) (t := 11) (mc2 := 24 * k) (ms2 := 614 * k) (p_back hC hW (xs (i + 1))) dL_law_1108 l_L_133 mk_X11_back mv_X11_back (by decide) rfl k1 (by decide) rfl rfl (Nat.le_of_ble_eq_true rfl) (by omega) (by omega) (fun r T g1 => ?_)
  obtain ⟨rfl, hC1, hQ1⟩ := g1
  have hM1 := hI.m hQ1
  refine x_aload_n (pc := 1111) dL_law_1111 rfl ?_
  refine x_aload_nq (pc := 1112) dL_law_1112 rfl ?_
  refine x_iload (pc := 1113) dL_law_1113 rfl ?_
  refine x_iconst (pc := 1115) (v := 1) dL_law_1115 (by decide) ?_
  refine x_iadd (pc := 1116) dL_law_1116 ?_
  refine x_sld (pc := 1117) (j := i + 1) hs h4 dL_law_1117 (nI_p1 i) (by omega) ?_
  refine x_callV (pc := 1118) (t := 12) (m_back hM1 hW (xs (i + 1))) dL_law_1118 l_L_136 mk_X12_back mv_X12_back (by decide) rfl hM1.1.1 (by decide) rfl rfl (Nat.le_of_ble_eq_true rfl) (Nat.le_refl _) (Nat.le_refl _) (fun r T2 g2 => ?_)
  obtain ⟨rfl, hM2, hF2⟩ := g2
  refine x_icmp_eq (pc := 1121) (tgt := 1812) dL_law_1121 (by decide) (fun _ => ?_) (fun g => absurd rfl g)
  exact fin _ _ (hI.next hQ1 hC1 hF2 hM2 (w_step hW hn (xs (i + 1)) false))
set_option maxRecDepth 20000 in
set_option maxHeartbeats 4000000 in
theorem lw_c27 {nm : String} {E : zE} {L : Nat} {xs : Nat → Int32} {Q : zQx} {k i n : Nat} {S : zM} {s : zST} (hE : zOKE E) (hX : zOKX E) (hl0 : ∀ l s c, Q.1 l s c → l.stackTraces = false) (hs : zScr E L xs) (h4 : L ≤ 4608) (hi : i + 9 ≤ L) (hn : n + 1 < 600) (hI : zLI n S s) (fin : ∀ (T : zM) (s' : zST), zLI (n + 1) T s' → zJx E 10 (24 * k) (614 * k) (mL_law nm) cL_law 1812 (zll i) [] T Q) : zJx E 10 (24 * (k + 1)) (614 * (k + 1)) (mL_law nm) cL_law 1126 (zll i) [] S Q := by
  obtain ⟨hC, hM, hW, hO⟩ := id hI
  have k1 := hC.1.1
  refine x_aload_n (pc := 1126) dL_law_1126 rfl ?_
  refine x_aload_nq (pc := 1127) dL_law_1127 rfl ?_
  refine x_iload (pc := 1128) dL_law_1128 rfl ?_
  refine x_iconst (pc := 1130) (v := 1) dL_law_1130 (by decide) ?_
  refine x_iadd (pc := 1131) dL_law_1131 ?_
  refine x_sld (pc := 1132) (j := i + 1) hs h4 dL_law_1132 (nI_p1 i) (by omega) ?_
  refine x_aload_nq (pc := 1133) dL_law_1133 rfl ?_
  refine x_iload (pc := 1134) dL_law_1134 rfl ?_
  refine x_iconst (pc := 1136) (v := 2) dL_law_1136 (by decide) ?_
  refine x_iadd (pc := 1137) dL_law_1137 ?_
  refine x_sld (pc := 1138) (j := i + 2) hs h4 dL_law_1138 (nI_p2 i) (by omega) ?_
  refine x_callV (pc := 1139) (t := 11) (mc2 := 24 * k) (ms2 := 614 * k) (p_account hC hW (xs (i + 1)) (xs (i + 2))) dL_law_1139 l_L_137 mk_X11_account mv_X11_account (by decide) rfl k1 (by decide) rfl rfl (Nat.le_of_ble_eq_true rfl) (by omega) (by omega) (fun r T g1 => ?_)
  obtain ⟨rfl, hC1, hQ1⟩ := g1
  have hM1 := hI.m hQ1
  refine x_aload_n (pc := 1142) dL_law_1142 rfl ?_
  refine x_aload_nq (pc := 1143) dL_law_1143 rfl ?_
  refine x_iload (pc := 1144) dL_law_1144 rfl ?_
  refine x_iconst (pc := 1146) (v := 1) dL_law_1146 (by decide) ?_
  refine x_iadd (pc := 1147) dL_law_1147 ?_
  refine x_sld (pc := 1148) (j := i + 1) hs h4 dL_law_1148 (nI_p1 i) (by omega) ?_
  refine x_aload_nq (pc := 1149) dL_law_1149 rfl ?_
  refine x_iload (pc := 1150) dL_law_1150 rfl ?_
  refine x_iconst (pc := 1152) (v := 2) dL_law_1152 (by decide) ?_
  refine x_iadd (pc := 1153) dL_law_1153 ?_
  refine x_sld (pc := 1154) (j := i + 2) hs h4 dL_law_1154 (nI_p2 i) (by omega) ?_
  refine x_callV (pc := 1155) (t := 12) (m_account hM1 hW (xs (i + 1)) (xs (i + 2))) dL_law_1155 l_L_140 mk_X12_account mv_X12_account (by decide) rfl hM1.1.1 (by decide) rfl rfl (Nat.le_of_ble_eq_true rfl) (Nat.le_refl _) (Nat.le_refl _) (fun r T2 g2 => ?_)
  obtain ⟨rfl, hM2, hF2⟩ := g2
  refine x_icmp_eq (pc := 1158) (tgt := 1812) dL_law_1158 (by decide) (fun _ => ?_) (fun g => absurd rfl g)
  exact fin _ _ (hI.next hQ1 hC1 hF2 hM2 (w_account hW hn (xs (i + 1)) (xs (i + 2))))
set_option maxRecDepth 20000 in
set_option maxHeartbeats 4000000 in
theorem lw_c28 {nm : String} {E : zE} {L : Nat} {xs : Nat → Int32} {Q : zQx} {k i n : Nat} {S : zM} {s : zST} (hE : zOKE E) (hX : zOKX E) (hl0 : ∀ l s c, Q.1 l s c → l.stackTraces = false) (hs : zScr E L xs) (h4 : L ≤ 4608) (hi : i + 9 ≤ L) (hn : n + 1 < 600) (hI : zLI n S s) (fin : ∀ (T : zM) (s' : zST), zLI (n + 1) T s' → zJx E 10 (24 * k) (614 * k) (mL_law nm) cL_law 1812 (zll i) [] T Q) : zJx E 10 (24 * (k + 1)) (614 * (k + 1)) (mL_law nm) cL_law 1163 (zll i) [] S Q := by
  obtain ⟨hC, hM, hW, hO⟩ := id hI
  have k1 := hC.1.1
  refine x_aload_n (pc := 1163) dL_law_1163 rfl ?_
  refine x_aload_nq (pc := 1164) dL_law_1164 rfl ?_
  refine x_iload (pc := 1165) dL_law_1165 rfl ?_
  refine x_iconst (pc := 1167) (v := 1) dL_law_1167 (by decide) ?_
  refine x_iadd (pc := 1168) dL_law_1168 ?_
  refine x_sld (pc := 1169) (j := i + 1) hs h4 dL_law_1169 (nI_p1 i) (by omega) ?_
  refine x_aload_nq (pc := 1170) dL_law_1170 rfl ?_
  refine x_iload (pc := 1171) dL_law_1171 rfl ?_
  refine x_iconst (pc := 1173) (v := 2) dL_law_1173 (by decide) ?_
  refine x_iadd (pc := 1174) dL_law_1174 ?_
  refine x_sld (pc := 1175) (j := i + 2) hs h4 dL_law_1175 (nI_p2 i) (by omega) ?_
  refine x_callV (pc := 1176) (t := 11) (mc2 := 24 * k) (ms2 := 614 * k) (p_seen hC hW (xs (i + 1)) (xs (i + 2))) dL_law_1176 l_L_141 mk_X11_seen mv_X11_seen (by decide) rfl k1 (by decide) rfl rfl (Nat.le_of_ble_eq_true rfl) (by omega) (by omega) (fun r T g1 => ?_)
  obtain ⟨rfl, hC1, hQ1⟩ := g1
  have hM1 := hI.m hQ1
  refine x_aload_n (pc := 1179) dL_law_1179 rfl ?_
  refine x_aload_nq (pc := 1180) dL_law_1180 rfl ?_
  refine x_iload (pc := 1181) dL_law_1181 rfl ?_
  refine x_iconst (pc := 1183) (v := 1) dL_law_1183 (by decide) ?_
  refine x_iadd (pc := 1184) dL_law_1184 ?_
  refine x_sld (pc := 1185) (j := i + 1) hs h4 dL_law_1185 (nI_p1 i) (by omega) ?_
  refine x_aload_nq (pc := 1186) dL_law_1186 rfl ?_
  refine x_iload (pc := 1187) dL_law_1187 rfl ?_
  refine x_iconst (pc := 1189) (v := 2) dL_law_1189 (by decide) ?_
  refine x_iadd (pc := 1190) dL_law_1190 ?_
  refine x_sld (pc := 1191) (j := i + 2) hs h4 dL_law_1191 (nI_p2 i) (by omega) ?_
  refine x_callV (pc := 1192) (t := 12) (m_seen hM1 hW (xs (i + 1)) (xs (i + 2))) dL_law_1192 l_L_144 mk_X12_seen mv_X12_seen (by decide) rfl hM1.1.1 (by decide) rfl rfl (Nat.le_of_ble_eq_true rfl) (Nat.le_refl _) (Nat.le_refl _) (fun r T2 g2 => ?_)
  obtain ⟨rfl, hM2, hF2⟩ := g2
  refine x_icmp_eq (pc := 1195) (tgt := 1812) dL_law_1195 (by decide) (fun _ => ?_) (fun g => absurd rfl g)
  exact fin _ _ (hI.next hQ1 hC1 hF2 hM2 (w_seen hW hn (xs (i + 1)) (xs (i + 2))))
set_option maxRecDepth 20000 in
set_option maxHeartbeats 4000000 in
theorem lw_c29 {nm : String} {E : zE} {L : Nat} {xs : Nat → Int32} {Q : zQx} {k i n : Nat} {S : zM} {s : zST} (hE : zOKE E) (hX : zOKX E) (hl0 : ∀ l s c, Q.1 l s c → l.stackTraces = false) (hs : zScr E L xs) (h4 : L ≤ 4608) (hi : i + 9 ≤ L) (hn : n + 1 < 600) (hI : zLI n S s) (fin : ∀ (T : zM) (s' : zST), zLI (n + 1) T s' → zJx E 10 (24 * k) (614 * k) (mL_law nm) cL_law 1812 (zll i) [] T Q) : zJx E 10 (24 * (k + 1)) (614 * (k + 1)) (mL_law nm) cL_law 1200 (zll i) [] S Q := by
  obtain ⟨hC, hM, hW, hO⟩ := id hI
  have k1 := hC.1.1
  refine x_aload_n (pc := 1200) dL_law_1200 rfl ?_
  refine x_aload_nq (pc := 1201) dL_law_1201 rfl ?_
  refine x_iload (pc := 1202) dL_law_1202 rfl ?_
  refine x_iconst (pc := 1204) (v := 1) dL_law_1204 (by decide) ?_
  refine x_iadd (pc := 1205) dL_law_1205 ?_
  refine x_sld (pc := 1206) (j := i + 1) hs h4 dL_law_1206 (nI_p1 i) (by omega) ?_
  refine x_i2l (pc := 1207) dL_law_1207 ?_
  refine x_bipush (pc := 1208) (v := 32) dL_law_1208 (by decide) ?_
  refine x_lshl (pc := 1210) dL_law_1210 ?_
  refine x_aload_nq (pc := 1211) dL_law_1211 rfl ?_
  refine x_iload (pc := 1212) dL_law_1212 rfl ?_
  refine x_iconst (pc := 1214) (v := 2) dL_law_1214 (by decide) ?_
  refine x_iadd (pc := 1215) dL_law_1215 ?_
  refine x_sld (pc := 1216) (j := i + 2) hs h4 dL_law_1216 (nI_p2 i) (by omega) ?_
  refine x_i2l (pc := 1217) dL_law_1217 ?_
  refine x_ldcL (pc := 1218) dL_law_1218 kL_93 ?_
  refine x_land (pc := 1221) dL_law_1221 ?_
  refine x_lor (pc := 1222) dL_law_1222 ?_
  refine x_aload_nq (pc := 1223) dL_law_1223 rfl ?_
  refine x_iload (pc := 1224) dL_law_1224 rfl ?_
  refine x_iconst (pc := 1226) (v := 3) dL_law_1226 (by decide) ?_
  refine x_iadd (pc := 1227) dL_law_1227 ?_
  refine x_sld (pc := 1228) (j := i + 3) hs h4 dL_law_1228 (nI_p3 i) (by omega) ?_
  refine x_i2l (pc := 1229) dL_law_1229 ?_
  refine x_bipush (pc := 1230) (v := 32) dL_law_1230 (by decide) ?_
  refine x_lshl (pc := 1232) dL_law_1232 ?_
  refine x_aload_nq (pc := 1233) dL_law_1233 rfl ?_
  refine x_iload (pc := 1234) dL_law_1234 rfl ?_
  refine x_iconst (pc := 1236) (v := 4) dL_law_1236 (by decide) ?_
  refine x_iadd (pc := 1237) dL_law_1237 ?_
  refine x_sld (pc := 1238) (j := i + 4) hs h4 dL_law_1238 (nI_p4 i) (by omega) ?_
  refine x_i2l (pc := 1239) dL_law_1239 ?_
  refine x_ldcL (pc := 1240) dL_law_1240 kL_93 ?_
  refine x_land (pc := 1243) dL_law_1243 ?_
  refine x_lor (pc := 1244) dL_law_1244 ?_
  refine x_aload_nq (pc := 1245) dL_law_1245 rfl ?_
  refine x_iload (pc := 1246) dL_law_1246 rfl ?_
  refine x_iconst (pc := 1248) (v := 5) dL_law_1248 (by decide) ?_
  refine x_iadd (pc := 1249) dL_law_1249 ?_
  refine x_sld (pc := 1250) (j := i + 5) hs h4 dL_law_1250 (nI_p5 i) (by omega) ?_
  refine x_i2l (pc := 1251) dL_law_1251 ?_
  refine x_bipush (pc := 1252) (v := 32) dL_law_1252 (by decide) ?_
  refine x_lshl (pc := 1254) dL_law_1254 ?_
  refine x_aload_nq (pc := 1255) dL_law_1255 rfl ?_
  refine x_iload (pc := 1256) dL_law_1256 rfl ?_
  refine x_bipush (pc := 1258) (v := 6) dL_law_1258 (by decide) ?_
  refine x_iadd (pc := 1260) dL_law_1260 ?_
  refine x_sld (pc := 1261) (j := i + 6) hs h4 dL_law_1261 (nI_p6 i) (by omega) ?_
  refine x_i2l (pc := 1262) dL_law_1262 ?_
  refine x_ldcL (pc := 1263) dL_law_1263 kL_93 ?_
  refine x_land (pc := 1266) dL_law_1266 ?_
  refine x_lor (pc := 1267) dL_law_1267 ?_
  refine x_aload_nq (pc := 1268) dL_law_1268 rfl ?_
  refine x_iload (pc := 1269) dL_law_1269 rfl ?_
  refine x_bipush (pc := 1271) (v := 7) dL_law_1271 (by decide) ?_
  refine x_iadd (pc := 1273) dL_law_1273 ?_
  refine x_sld (pc := 1274) (j := i + 7) hs h4 dL_law_1274 (nI_p7 i) (by omega) ?_
  refine x_i2l (pc := 1275) dL_law_1275 ?_
  refine x_bipush (pc := 1276) (v := 32) dL_law_1276 (by decide) ?_
  refine x_lshl (pc := 1278) dL_law_1278 ?_
  refine x_aload_nq (pc := 1279) dL_law_1279 rfl ?_
  refine x_iload (pc := 1280) dL_law_1280 rfl ?_
  refine x_bipush (pc := 1282) (v := 8) dL_law_1282 (by decide) ?_
  refine x_iadd (pc := 1284) dL_law_1284 ?_
  refine x_sld (pc := 1285) (j := i + 8) hs h4 dL_law_1285 (nI_p8 i) (by omega) ?_
  refine x_i2l (pc := 1286) dL_law_1286 ?_
  refine x_ldcL (pc := 1287) dL_law_1287 kL_93 ?_
  refine x_land (pc := 1290) dL_law_1290 ?_
  refine x_lor (pc := 1291) dL_law_1291 ?_
  refine x_callV (pc := 1292) (t := 11) (mc2 := 24 * k) (ms2 := 614 * k) (p_insert hC hW _ _ _ _) dL_law_1292 l_L_145 mk_X11_insert mv_X11_insert (by decide) rfl k1 (by decide) rfl rfl (Nat.le_of_ble_eq_true rfl) (by omega) (by omega) (fun r T g1 => ?_)
  obtain ⟨rfl, hC1, hQ1⟩ := g1
  have hM1 := hI.m hQ1
  refine x_aload_n (pc := 1295) dL_law_1295 rfl ?_
  refine x_aload_nq (pc := 1296) dL_law_1296 rfl ?_
  refine x_iload (pc := 1297) dL_law_1297 rfl ?_
  refine x_iconst (pc := 1299) (v := 1) dL_law_1299 (by decide) ?_
  refine x_iadd (pc := 1300) dL_law_1300 ?_
  refine x_sld (pc := 1301) (j := i + 1) hs h4 dL_law_1301 (nI_p1 i) (by omega) ?_
  refine x_i2l (pc := 1302) dL_law_1302 ?_
  refine x_bipush (pc := 1303) (v := 32) dL_law_1303 (by decide) ?_
  refine x_lshl (pc := 1305) dL_law_1305 ?_
  refine x_aload_nq (pc := 1306) dL_law_1306 rfl ?_
  refine x_iload (pc := 1307) dL_law_1307 rfl ?_
  refine x_iconst (pc := 1309) (v := 2) dL_law_1309 (by decide) ?_
  refine x_iadd (pc := 1310) dL_law_1310 ?_
  refine x_sld (pc := 1311) (j := i + 2) hs h4 dL_law_1311 (nI_p2 i) (by omega) ?_
  refine x_i2l (pc := 1312) dL_law_1312 ?_
  refine x_ldcL (pc := 1313) dL_law_1313 kL_93 ?_
  refine x_land (pc := 1316) dL_law_1316 ?_
  refine x_lor (pc := 1317) dL_law_1317 ?_
  refine x_aload_nq (pc := 1318) dL_law_1318 rfl ?_
  refine x_iload (pc := 1319) dL_law_1319 rfl ?_
  refine x_iconst (pc := 1321) (v := 3) dL_law_1321 (by decide) ?_
  refine x_iadd (pc := 1322) dL_law_1322 ?_
  refine x_sld (pc := 1323) (j := i + 3) hs h4 dL_law_1323 (nI_p3 i) (by omega) ?_
  refine x_i2l (pc := 1324) dL_law_1324 ?_
  refine x_bipush (pc := 1325) (v := 32) dL_law_1325 (by decide) ?_
  refine x_lshl (pc := 1327) dL_law_1327 ?_
  refine x_aload_nq (pc := 1328) dL_law_1328 rfl ?_
  refine x_iload (pc := 1329) dL_law_1329 rfl ?_
  refine x_iconst (pc := 1331) (v := 4) dL_law_1331 (by decide) ?_
  refine x_iadd (pc := 1332) dL_law_1332 ?_
  refine x_sld (pc := 1333) (j := i + 4) hs h4 dL_law_1333 (nI_p4 i) (by omega) ?_
  refine x_i2l (pc := 1334) dL_law_1334 ?_
  refine x_ldcL (pc := 1335) dL_law_1335 kL_93 ?_
  refine x_land (pc := 1338) dL_law_1338 ?_
  refine x_lor (pc := 1339) dL_law_1339 ?_
  refine x_aload_nq (pc := 1340) dL_law_1340 rfl ?_
  refine x_iload (pc := 1341) dL_law_1341 rfl ?_
  refine x_iconst (pc := 1343) (v := 5) dL_law_1343 (by decide) ?_
  refine x_iadd (pc := 1344) dL_law_1344 ?_
  refine x_sld (pc := 1345) (j := i + 5) hs h4 dL_law_1345 (nI_p5 i) (by omega) ?_
  refine x_i2l (pc := 1346) dL_law_1346 ?_
  refine x_bipush (pc := 1347) (v := 32) dL_law_1347 (by decide) ?_
  refine x_lshl (pc := 1349) dL_law_1349 ?_
  refine x_aload_nq (pc := 1350) dL_law_1350 rfl ?_
  refine x_iload (pc := 1351) dL_law_1351 rfl ?_
  refine x_bipush (pc := 1353) (v := 6) dL_law_1353 (by decide) ?_
  refine x_iadd (pc := 1355) dL_law_1355 ?_
  refine x_sld (pc := 1356) (j := i + 6) hs h4 dL_law_1356 (nI_p6 i) (by omega) ?_
  refine x_i2l (pc := 1357) dL_law_1357 ?_
  refine x_ldcL (pc := 1358) dL_law_1358 kL_93 ?_
  refine x_land (pc := 1361) dL_law_1361 ?_
  refine x_lor (pc := 1362) dL_law_1362 ?_
  refine x_aload_nq (pc := 1363) dL_law_1363 rfl ?_
  refine x_iload (pc := 1364) dL_law_1364 rfl ?_
  refine x_bipush (pc := 1366) (v := 7) dL_law_1366 (by decide) ?_
  refine x_iadd (pc := 1368) dL_law_1368 ?_
  refine x_sld (pc := 1369) (j := i + 7) hs h4 dL_law_1369 (nI_p7 i) (by omega) ?_
  refine x_i2l (pc := 1370) dL_law_1370 ?_
  refine x_bipush (pc := 1371) (v := 32) dL_law_1371 (by decide) ?_
  refine x_lshl (pc := 1373) dL_law_1373 ?_
  refine x_aload_nq (pc := 1374) dL_law_1374 rfl ?_
  refine x_iload (pc := 1375) dL_law_1375 rfl ?_
  refine x_bipush (pc := 1377) (v := 8) dL_law_1377 (by decide) ?_
  refine x_iadd (pc := 1379) dL_law_1379 ?_
  refine x_sld (pc := 1380) (j := i + 8) hs h4 dL_law_1380 (nI_p8 i) (by omega) ?_
  refine x_i2l (pc := 1381) dL_law_1381 ?_
  refine x_ldcL (pc := 1382) dL_law_1382 kL_93 ?_
  refine x_land (pc := 1385) dL_law_1385 ?_
  refine x_lor (pc := 1386) dL_law_1386 ?_
  refine x_callV (pc := 1387) (t := 12) (m_insert hM1 hW _ _ _ _) dL_law_1387 l_L_149 mk_X12_insert mv_X12_insert (by decide) rfl hM1.1.1 (by decide) rfl rfl (Nat.le_of_ble_eq_true rfl) (Nat.le_refl _) (Nat.le_refl _) (fun r T2 g2 => ?_)
  obtain ⟨rfl, hM2, hF2⟩ := g2
  refine x_icmp_eq (pc := 1390) (tgt := 1812) dL_law_1390 (by decide) (fun _ => ?_) (fun g => absurd rfl g)
  exact fin _ _ (hI.next hQ1 hC1 hF2 hM2 (w_insert hW hn _ _ _ _))
set_option maxRecDepth 20000 in
set_option maxHeartbeats 4000000 in
theorem lw_c30 {nm : String} {E : zE} {L : Nat} {xs : Nat → Int32} {Q : zQx} {k i n : Nat} {S : zM} {s : zST} (hE : zOKE E) (hX : zOKX E) (hl0 : ∀ l s c, Q.1 l s c → l.stackTraces = false) (hs : zScr E L xs) (h4 : L ≤ 4608) (hi : i + 9 ≤ L) (hn : n + 1 < 600) (hI : zLI n S s) (fin : ∀ (T : zM) (s' : zST), zLI (n + 1) T s' → zJx E 10 (24 * k) (614 * k) (mL_law nm) cL_law 1812 (zll i) [] T Q) : zJx E 10 (24 * (k + 1)) (614 * (k + 1)) (mL_law nm) cL_law 1395 (zll i) [] S Q := by
  obtain ⟨hC, hM, hW, hO⟩ := id hI
  have k1 := hC.1.1
  refine x_aload_n (pc := 1395) dL_law_1395 rfl ?_
  refine x_aload_nq (pc := 1396) dL_law_1396 rfl ?_
  refine x_iload (pc := 1397) dL_law_1397 rfl ?_
  refine x_iconst (pc := 1399) (v := 1) dL_law_1399 (by decide) ?_
  refine x_iadd (pc := 1400) dL_law_1400 ?_
  refine x_sld (pc := 1401) (j := i + 1) hs h4 dL_law_1401 (nI_p1 i) (by omega) ?_
  refine x_callV (pc := 1402) (t := 11) (mc2 := 24 * k) (ms2 := 614 * k) (p_remove hC hW (xs (i + 1))) dL_law_1402 l_L_150 mk_X11_remove mv_X11_remove (by decide) rfl k1 (by decide) rfl rfl (Nat.le_of_ble_eq_true rfl) (by omega) (by omega) (fun r T g1 => ?_)
  obtain ⟨rfl, hC1, hQ1⟩ := g1
  have hM1 := hI.m hQ1
  refine x_aload_n (pc := 1405) dL_law_1405 rfl ?_
  refine x_aload_nq (pc := 1406) dL_law_1406 rfl ?_
  refine x_iload (pc := 1407) dL_law_1407 rfl ?_
  refine x_iconst (pc := 1409) (v := 1) dL_law_1409 (by decide) ?_
  refine x_iadd (pc := 1410) dL_law_1410 ?_
  refine x_sld (pc := 1411) (j := i + 1) hs h4 dL_law_1411 (nI_p1 i) (by omega) ?_
  refine x_callV (pc := 1412) (t := 12) (m_remove hM1 hW (by omega) (xs (i + 1))) dL_law_1412 l_L_153 mk_X12_remove mv_X12_remove (by decide) rfl hM1.1.1 (by decide) rfl rfl (Nat.le_of_ble_eq_true rfl) (Nat.le_refl _) (Nat.le_refl _) (fun r T2 g2 => ?_)
  obtain ⟨rfl, hM2, hF2⟩ := g2
  refine x_icmp_eq (pc := 1415) (tgt := 1812) dL_law_1415 (by decide) (fun _ => ?_) (fun g => absurd rfl g)
  exact fin _ _ (hI.next hQ1 hC1 hF2 hM2 (w_remove hW hn (xs (i + 1))))
set_option maxRecDepth 20000 in
set_option maxHeartbeats 4000000 in
theorem lw_c31 {nm : String} {E : zE} {L : Nat} {xs : Nat → Int32} {Q : zQx} {k i n : Nat} {S : zM} {s : zST} (hE : zOKE E) (hX : zOKX E) (hl0 : ∀ l s c, Q.1 l s c → l.stackTraces = false) (hs : zScr E L xs) (h4 : L ≤ 4608) (hi : i + 9 ≤ L) (hn : n + 1 < 600) (hI : zLI n S s) (fin : ∀ (T : zM) (s' : zST), zLI (n + 1) T s' → zJx E 10 (24 * k) (614 * k) (mL_law nm) cL_law 1812 (zll i) [] T Q) : zJx E 10 (24 * (k + 1)) (614 * (k + 1)) (mL_law nm) cL_law 1420 (zll i) [] S Q := by
  obtain ⟨hC, hM, hW, hO⟩ := id hI
  have k1 := hC.1.1
  refine x_aload_n (pc := 1420) dL_law_1420 rfl ?_
  refine x_aload_nq (pc := 1421) dL_law_1421 rfl ?_
  refine x_iload (pc := 1422) dL_law_1422 rfl ?_
  refine x_iconst (pc := 1424) (v := 1) dL_law_1424 (by decide) ?_
  refine x_iadd (pc := 1425) dL_law_1425 ?_
  refine x_sld (pc := 1426) (j := i + 1) hs h4 dL_law_1426 (nI_p1 i) (by omega) ?_
  refine x_aload_nq (pc := 1427) dL_law_1427 rfl ?_
  refine x_iload (pc := 1428) dL_law_1428 rfl ?_
  refine x_iconst (pc := 1430) (v := 2) dL_law_1430 (by decide) ?_
  refine x_iadd (pc := 1431) dL_law_1431 ?_
  refine x_sld (pc := 1432) (j := i + 2) hs h4 dL_law_1432 (nI_p2 i) (by omega) ?_
  refine x_aload_nq (pc := 1433) dL_law_1433 rfl ?_
  refine x_iload (pc := 1434) dL_law_1434 rfl ?_
  refine x_iconst (pc := 1436) (v := 3) dL_law_1436 (by decide) ?_
  refine x_iadd (pc := 1437) dL_law_1437 ?_
  refine x_sld (pc := 1438) (j := i + 3) hs h4 dL_law_1438 (nI_p3 i) (by omega) ?_
  refine x_i2l (pc := 1439) dL_law_1439 ?_
  refine x_bipush (pc := 1440) (v := 32) dL_law_1440 (by decide) ?_
  refine x_lshl (pc := 1442) dL_law_1442 ?_
  refine x_aload_nq (pc := 1443) dL_law_1443 rfl ?_
  refine x_iload (pc := 1444) dL_law_1444 rfl ?_
  refine x_iconst (pc := 1446) (v := 4) dL_law_1446 (by decide) ?_
  refine x_iadd (pc := 1447) dL_law_1447 ?_
  refine x_sld (pc := 1448) (j := i + 4) hs h4 dL_law_1448 (nI_p4 i) (by omega) ?_
  refine x_i2l (pc := 1449) dL_law_1449 ?_
  refine x_ldcL (pc := 1450) dL_law_1450 kL_93 ?_
  refine x_land (pc := 1453) dL_law_1453 ?_
  refine x_lor (pc := 1454) dL_law_1454 ?_
  refine x_callV (pc := 1455) (t := 11) (mc2 := 24 * k) (ms2 := 614 * k) (p_change hC hW (xs (i + 1)) (xs (i + 2)) _) dL_law_1455 l_L_154 mk_X11_change mv_X11_change (by decide) rfl k1 (by decide) rfl rfl (Nat.le_of_ble_eq_true rfl) (by omega) (by omega) (fun r T g1 => ?_)
  obtain ⟨rfl, hC1, hQ1⟩ := g1
  have hM1 := hI.m hQ1
  refine x_aload_n (pc := 1458) dL_law_1458 rfl ?_
  refine x_aload_nq (pc := 1459) dL_law_1459 rfl ?_
  refine x_iload (pc := 1460) dL_law_1460 rfl ?_
  refine x_iconst (pc := 1462) (v := 1) dL_law_1462 (by decide) ?_
  refine x_iadd (pc := 1463) dL_law_1463 ?_
  refine x_sld (pc := 1464) (j := i + 1) hs h4 dL_law_1464 (nI_p1 i) (by omega) ?_
  refine x_aload_nq (pc := 1465) dL_law_1465 rfl ?_
  refine x_iload (pc := 1466) dL_law_1466 rfl ?_
  refine x_iconst (pc := 1468) (v := 2) dL_law_1468 (by decide) ?_
  refine x_iadd (pc := 1469) dL_law_1469 ?_
  refine x_sld (pc := 1470) (j := i + 2) hs h4 dL_law_1470 (nI_p2 i) (by omega) ?_
  refine x_aload_nq (pc := 1471) dL_law_1471 rfl ?_
  refine x_iload (pc := 1472) dL_law_1472 rfl ?_
  refine x_iconst (pc := 1474) (v := 3) dL_law_1474 (by decide) ?_
  refine x_iadd (pc := 1475) dL_law_1475 ?_
  refine x_sld (pc := 1476) (j := i + 3) hs h4 dL_law_1476 (nI_p3 i) (by omega) ?_
  refine x_i2l (pc := 1477) dL_law_1477 ?_
  refine x_bipush (pc := 1478) (v := 32) dL_law_1478 (by decide) ?_
  refine x_lshl (pc := 1480) dL_law_1480 ?_
  refine x_aload_nq (pc := 1481) dL_law_1481 rfl ?_
  refine x_iload (pc := 1482) dL_law_1482 rfl ?_
  refine x_iconst (pc := 1484) (v := 4) dL_law_1484 (by decide) ?_
  refine x_iadd (pc := 1485) dL_law_1485 ?_
  refine x_sld (pc := 1486) (j := i + 4) hs h4 dL_law_1486 (nI_p4 i) (by omega) ?_
  refine x_i2l (pc := 1487) dL_law_1487 ?_
  refine x_ldcL (pc := 1488) dL_law_1488 kL_93 ?_
  refine x_land (pc := 1491) dL_law_1491 ?_
  refine x_lor (pc := 1492) dL_law_1492 ?_
  refine x_callV (pc := 1493) (t := 12) (m_change hM1 hW (by omega) (xs (i + 1)) (xs (i + 2)) _) dL_law_1493 l_L_158 mk_X12_change mv_X12_change (by decide) rfl hM1.1.1 (by decide) rfl rfl (Nat.le_of_ble_eq_true rfl) (Nat.le_refl _) (Nat.le_refl _) (fun r T2 g2 => ?_)
  obtain ⟨rfl, hM2, hF2⟩ := g2
  refine x_icmp_eq (pc := 1496) (tgt := 1812) dL_law_1496 (by decide) (fun _ => ?_) (fun g => absurd rfl g)
  exact fin _ _ (hI.next hQ1 hC1 hF2 hM2 (w_change hW hn (xs (i + 1)) (xs (i + 2)) _))
