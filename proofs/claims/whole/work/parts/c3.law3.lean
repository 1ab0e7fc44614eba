set_option maxRecDepth 20000 in
set_option maxHeartbeats 4000000 in
theorem lw_c16 {nm : String} {E : zE} {L : Nat} {xs : Nat → Int32} {Q : zQx} {k i n : Nat} {S : zM} {s : zST} (hE : zOKE E) (hX : zOKX E) (hl0 : ∀ l s c, Q.1 l s c → l.stackTraces = false) (hs : zScr E L xs) (h4 : L ≤ 4608) (hi : i + 9 ≤ L) (hn : n + 1 < 600) (hI : zLI n S s) (fin : ∀ (T : zM) (s' : zST), zLI (n + 1) T s' → zJx E 10 (24 * k) (614 * k) (mL_law nm) cL_law 1812 (zll i) [] T Q) : zJx E 10 (24 * (k + 1)) (614 * (k + 1)) (mL_law nm) cL_law 742 (zll i) [] S Q := by
  obtain ⟨hC, hM, hW, hO⟩ := id hI
  have k1 := hC.1.1
  refine x_aload_n (pc := 742) dL_law_742 rfl ?_
  refine x_aload_nq (pc := 743) dL_law_743 rfl ?_
  refine x_iload (pc := 744) dL_law_744 rfl ?_
  refine x_iconst (pc := 746) (v := 1) dL_law_746 (by decide) ?_
  refine x_iadd (pc := 747) dL_law_747 ?_
  refine x_sld (pc := 748) (j := i + 1) hs h4 dL_law_748 (nI_p1 i) (by omega) ?_
  refine x_callV (pc := 749) (t := 11) (mc2 := 24 * k) (ms2 := 614 * k) (p_previous hC hW (xs (i + 1))) dL_law_749 l_L_89 mk_X11_previous mv_X11_previous (by decide) rfl k1 (by decide) rfl rfl (Nat.le_of_ble_eq_true rfl) (by omega) (by omega) (fun r T g1 => ?_)
  obtain ⟨rfl, hC1, hQ1⟩ := g1
  have hM1 := hI.m hQ1
  refine x_aload_n (pc := 752) dL_law_752 rfl ?_
  refine x_aload_nq (pc := 753) dL_law_753 rfl ?_
  refine x_iload (pc := 754) dL_law_754 rfl ?_
  refine x_iconst (pc := 756) (v := 1) dL_law_756 (by decide) ?_
  refine x_iadd (pc := 757) dL_law_757 ?_
  refine x_sld (pc := 758) (j := i + 1) hs h4 dL_law_758 (nI_p1 i) (by omega) ?_
  refine x_callV (pc := 759) (t := 12) (m_previous hM1 hW (xs (i + 1))) dL_law_759 l_L_92 mk_X12_previous mv_X12_previous (by decide) rfl hM1.1.1 (by decide) rfl rfl (Nat.le_of_ble_eq_true rfl) (Nat.le_refl _) (Nat.le_refl _) (fun r T2 g2 => ?_)
  obtain ⟨rfl, hM2, hF2⟩ := g2
  refine x_icmp_eq (pc := 762) (tgt := 1812) dL_law_762 (by decide) (fun _ => ?_) (fun g => absurd rfl g)
  exact fin _ _ (hI.next hQ1 hC1 hF2 hM2 (w_tok hW hn (xs (i + 1)) false))
set_option maxRecDepth 20000 in
set_option maxHeartbeats 4000000 in
theorem lw_c17 {nm : String} {E : zE} {L : Nat} {xs : Nat → Int32} {Q : zQx} {k i n : Nat} {S : zM} {s : zST} (hE : zOKE E) (hX : zOKX E) (hl0 : ∀ l s c, Q.1 l s c → l.stackTraces = false) (hs : zScr E L xs) (h4 : L ≤ 4608) (hi : i + 9 ≤ L) (hn : n + 1 < 600) (hI : zLI n S s) (fin : ∀ (T : zM) (s' : zST), zLI (n + 1) T s' → zJx E 10 (24 * k) (614 * k) (mL_law nm) cL_law 1812 (zll i) [] T Q) : zJx E 10 (24 * (k + 1)) (614 * (k + 1)) (mL_law nm) cL_law 767 (zll i) [] S Q := by
  obtain ⟨hC, hM, hW, hO⟩ := id hI
  have k1 := hC.1.1
  refine x_aload_n (pc := 767) dL_law_767 rfl ?_
  refine x_aload_nq (pc := 768) dL_law_768 rfl ?_
  refine x_iload (pc := 769) dL_law_769 rfl ?_
  refine x_iconst (pc := 771) (v := 1) dL_law_771 (by decide) ?_
  refine x_iadd (pc := 772) dL_law_772 ?_
  refine x_sld (pc := 773) (j := i + 1) hs h4 dL_law_773 (nI_p1 i) (by omega) ?_
  refine x_aload_nq (pc := 774) dL_law_774 rfl ?_
  refine x_iload (pc := 775) dL_law_775 rfl ?_
  refine x_iconst (pc := 777) (v := 2) dL_law_777 (by decide) ?_
  refine x_iadd (pc := 778) dL_law_778 ?_
  refine x_sld (pc := 779) (j := i + 2) hs h4 dL_law_779 (nI_p2 i) (by omega) ?_
  refine x_i2l (pc := 780) dL_law_780 ?_
  refine x_bipush (pc := 781) (v := 32) dL_law_781 (by decide) ?_
  refine x_lshl (pc := 783) dL_law_783 ?_
  refine x_aload_nq (pc := 784) dL_law_784 rfl ?_
  refine x_iload (pc := 785) dL_law_785 rfl ?_
  refine x_iconst (pc := 787) (v := 3) dL_law_787 (by decide) ?_
  refine x_iadd (pc := 788) dL_law_788 ?_
  refine x_sld (pc := 789) (j := i + 3) hs h4 dL_law_789 (nI_p3 i) (by omega) ?_
  refine x_i2l (pc := 790) dL_law_790 ?_
  refine x_ldcL (pc := 791) dL_law_791 kL_93 ?_
  refine x_land (pc := 794) dL_law_794 ?_
  refine x_lor (pc := 795) dL_law_795 ?_
  refine x_callV (pc := 796) (t := 11) (mc2 := 24 * k) (ms2 := 614 * k) (p_seek hC hW (xs (i + 1)) _) dL_law_796 l_L_95 mk_X11_seek mv_X11_seek (by decide) rfl k1 (by decide) rfl rfl (Nat.le_of_ble_eq_true rfl) (by omega) (by omega) (fun r T g1 => ?_)
  obtain ⟨rfl, hC1, hQ1⟩ := g1
  have hM1 := hI.m hQ1
  refine x_aload_n (pc := 799) dL_law_799 rfl ?_
  refine x_aload_nq (pc := 800) dL_law_800 rfl ?_
  refine x_iload (pc := 801) dL_law_801 rfl ?_
  refine x_iconst (pc := 803) (v := 1) dL_law_803 (by decide) ?_
  refine x_iadd (pc := 804) dL_law_804 ?_
  refine x_sld (pc := 805) (j := i + 1) hs h4 dL_law_805 (nI_p1 i) (by omega) ?_
  refine x_aload_nq (pc := 806) dL_law_806 rfl ?_
  refine x_iload (pc := 807) dL_law_807 rfl ?_
  refine x_iconst (pc := 809) (v := 2) dL_law_809 (by decide) ?_
  refine x_iadd (pc := 810) dL_law_810 ?_
  refine x_sld (pc := 811) (j := i + 2) hs h4 dL_law_811 (nI_p2 i) (by omega) ?_
  refine x_i2l (pc := 812) dL_law_812 ?_
  refine x_bipush (pc := 813) (v := 32) dL_law_813 (by decide) ?_
  refine x_lshl (pc := 815) dL_law_815 ?_
  refine x_aload_nq (pc := 816) dL_law_816 rfl ?_
  refine x_iload (pc := 817) dL_law_817 rfl ?_
  refine x_iconst (pc := 819) (v := 3) dL_law_819 (by decide) ?_
  refine x_iadd (pc := 820) dL_law_820 ?_
  refine x_sld (pc := 821) (j := i + 3) hs h4 dL_law_821 (nI_p3 i) (by omega) ?_
  refine x_i2l (pc := 822) dL_law_822 ?_
  refine x_ldcL (pc := 823) dL_law_823 kL_93 ?_
  refine x_land (pc := 826) dL_law_826 ?_
  refine x_lor (pc := 827) dL_law_827 ?_
  refine x_callV (pc := 828) (t := 12) (m_seek hM1 hW (xs (i + 1)) _) dL_law_828 l_L_99 mk_X12_seek mv_X12_seek (by decide) rfl hM1.1.1 (by decide) rfl rfl (Nat.le_of_ble_eq_true rfl) (Nat.le_refl _) (Nat.le_refl _) (fun r T2 g2 => ?_)
  obtain ⟨rfl, hM2, hF2⟩ := g2
  refine x_icmp_eq (pc := 831) (tgt := 1812) dL_law_831 (by decide) (fun _ => ?_) (fun g => absurd rfl g)
  exact fin _ _ (hI.next hQ1 hC1 hF2 hM2 (w_seek hW hn (xs (i + 1)) _))
set_option maxRecDepth 20000 in
set_option maxHeartbeats 4000000 in
theorem lw_c18 {nm : String} {E : zE} {L : Nat} {xs : Nat → Int32} {Q : zQx} {k i n : Nat} {S : zM} {s : zST} (hE : zOKE E) (hX : zOKX E) (hl0 : ∀ l s c, Q.1 l s c → l.stackTraces = false) (hs : zScr E L xs) (h4 : L ≤ 4608) (hi : i + 9 ≤ L) (hn : n + 1 < 600) (hI : zLI n S s) (fin : ∀ (T : zM) (s' : zST), zLI (n + 1) T s' → zJx E 10 (24 * k) (614 * k) (mL_law nm) cL_law 1812 (zll i) [] T Q) : zJx E 10 (24 * (k + 1)) (614 * (k + 1)) (mL_law nm) cL_law 836 (zll i) [] S Q := by
  obtain ⟨hC, hM, hW, hO⟩ := id hI
  have k1 := hC.1.1
  refine x_aload_n (pc := 836) dL_law_836 rfl ?_
  refine x_aload_nq (pc := 837) dL_law_837 rfl ?_
  refine x_iload (pc := 838) dL_law_838 rfl ?_
  refine x_iconst (pc := 840) (v := 1) dL_law_840 (by decide) ?_
  refine x_iadd (pc := 841) dL_law_841 ?_
  refine x_sld (pc := 842) (j := i + 1) hs h4 dL_law_842 (nI_p1 i) (by omega) ?_
  refine x_callV (pc := 843) (t := 11) (mc2 := 24 * k) (ms2 := 614 * k) (p_at hC hW (xs (i + 1))) dL_law_843 l_L_100 mk_X11_at mv_X11_at (by decide) rfl k1 (by decide) rfl rfl (Nat.le_of_ble_eq_true rfl) (by omega) (by omega) (fun r T g1 => ?_)
  obtain ⟨rfl, hC1, hQ1⟩ := g1
  have hM1 := hI.m hQ1
  refine x_aload_n (pc := 846) dL_law_846 rfl ?_
  refine x_aload_nq (pc := 847) dL_law_847 rfl ?_
  refine x_iload (pc := 848) dL_law_848 rfl ?_
  refine x_iconst (pc := 850) (v := 1) dL_law_850 (by decide) ?_
  refine x_iadd (pc := 851) dL_law_851 ?_
  refine x_sld (pc := 852) (j := i + 1) hs h4 dL_law_852 (nI_p1 i) (by omega) ?_
  refine x_callV (pc := 853) (t := 12) (m_at hM1 hW (xs (i + 1))) dL_law_853 l_L_103 mk_X12_at mv_X12_at (by decide) rfl hM1.1.1 (by decide) rfl rfl (Nat.le_of_ble_eq_true rfl) (Nat.le_refl _) (Nat.le_refl _) (fun r T2 g2 => ?_)
  obtain ⟨rfl, hM2, hF2⟩ := g2
  refine x_icmp_eq (pc := 856) (tgt := 1812) dL_law_856 (by decide) (fun _ => ?_) (fun g => absurd rfl g)
  exact fin _ _ (hI.next hQ1 hC1 hF2 hM2 (w_at hW hn (xs (i + 1))))
set_option maxRecDepth 20000 in
set_option maxHeartbeats 4000000 in
theorem lw_c19 {nm : String} {E : zE} {L : Nat} {xs : Nat → Int32} {Q : zQx} {k i n : Nat} {S : zM} {s : zST} (hE : zOKE E) (hX : zOKX E) (hl0 : ∀ l s c, Q.1 l s c → l.stackTraces = false) (hs : zScr E L xs) (h4 : L ≤ 4608) (hi : i + 9 ≤ L) (hn : n + 1 < 600) (hI : zLI n S s) (fin : ∀ (T : zM) (s' : zST), zLI (n + 1) T s' → zJx E 10 (24 * k) (614 * k) (mL_law nm) cL_law 1812 (zll i) [] T Q) : zJx E 10 (24 * (k + 1)) (614 * (k + 1)) (mL_law nm) cL_law 861 (zll i) [] S Q := by
  obtain ⟨hC, hM, hW, hO⟩ := id hI
  have k1 := hC.1.1
  refine x_aload_n (pc := 861) dL_law_861 rfl ?_
  refine x_aload_nq (pc := 862) dL_law_862 rfl ?_
  refine x_iload (pc := 863) dL_law_863 rfl ?_
  refine x_iconst (pc := 865) (v := 1) dL_law_865 (by decide) ?_
  refine x_iadd (pc := 866) dL_law_866 ?_
  refine x_sld (pc := 867) (j := i + 1) hs h4 dL_law_867 (nI_p1 i) (by omega) ?_
  refine x_aload_nq (pc := 868) dL_law_868 rfl ?_
  refine x_iload (pc := 869) dL_law_869 rfl ?_
  refine x_iconst (pc := 871) (v := 2) dL_law_871 (by decide) ?_
  refine x_iadd (pc := 872) dL_law_872 ?_
  refine x_sld (pc := 873) (j := i + 2) hs h4 dL_law_873 (nI_p2 i) (by omega) ?_
  refine x_callV (pc := 874) (t := 11) (mc2 := 24 * k) (ms2 := 614 * k) (p_cell hC hW (xs (i + 1)) (xs (i + 2))) dL_law_874 l_L_104 mk_X11_cell mv_X11_cell (by decide) rfl k1 (by decide) rfl rfl (Nat.le_of_ble_eq_true rfl) (by omega) (by omega) (fun r T g1 => ?_)
  obtain ⟨rfl, hC1, hQ1⟩ := g1
  have hM1 := hI.m hQ1
  refine x_aload_n (pc := 877) dL_law_877 rfl ?_
  refine x_aload_nq (pc := 878) dL_law_878 rfl ?_
  refine x_iload (pc := 879) dL_law_879 rfl ?_
  refine x_iconst (pc := 881) (v := 1) dL_law_881 (by decide) ?_
  refine x_iadd (pc := 882) dL_law_882 ?_
  refine x_sld (pc := 883) (j := i + 1) hs h4 dL_law_883 (nI_p1 i) (by omega) ?_
  refine x_aload_nq (pc := 884) dL_law_884 rfl ?_
  refine x_iload (pc := 885) dL_law_885 rfl ?_
  refine x_iconst (pc := 887) (v := 2) dL_law_887 (by decide) ?_
  refine x_iadd (pc := 888) dL_law_888 ?_
  refine x_sld (pc := 889) (j := i + 2) hs h4 dL_law_889 (nI_p2 i) (by omega) ?_
  refine x_callV (pc := 890) (t := 12) (m_cell hM1 hW (xs (i + 1)) (xs (i + 2))) dL_law_890 l_L_107 mk_X12_cell mv_X12_cell (by decide) rfl hM1.1.1 (by decide) rfl rfl (Nat.le_of_ble_eq_true rfl) (Nat.le_refl _) (Nat.le_refl _) (fun r T2 g2 => ?_)
  obtain ⟨rfl, hM2, hF2⟩ := g2
  refine x_lcmp (pc := 893) dL_law_893 ?_
  refine x_if_eq (pc := 894) (tgt := 1812) dL_law_894 (by decide) (fun _ => ?_) (fun g => absurd ((lg_cmp_eq _ _).mpr rfl) g)
  exact fin _ _ (hI.next hQ1 hC1 hF2 hM2 (w_cell hW hn (xs (i + 1)) (xs (i + 2))))
set_option maxRecDepth 20000 in
set_option maxHeartbeats 4000000 in
theorem lw_c20 {nm : String} {E : zE} {L : Nat} {xs : Nat → Int32} {Q : zQx} {k i n : Nat} {S : zM} {s : zST} (hE : zOKE E) (hX : zOKX E) (hl0 : ∀ l s c, Q.1 l s c → l.stackTraces = false) (hs : zScr E L xs) (h4 : L ≤ 4608) (hi : i + 9 ≤ L) (hn : n + 1 < 600) (hI : zLI n S s) (fin : ∀ (T : zM) (s' : zST), zLI (n + 1) T s' → zJx E 10 (24 * k) (614 * k) (mL_law nm) cL_law 1812 (zll i) [] T Q) : zJx E 10 (24 * (k + 1)) (614 * (k + 1)) (mL_law nm) cL_law 899 (zll i) [] S Q := by
  obtain ⟨hC, hM, hW, hO⟩ := id hI
  have k1 := hC.1.1
  refine x_aload_n (pc := 899) dL_law_899 rfl ?_
  refine x_aload_nq (pc := 900) dL_law_900 rfl ?_
  refine x_iload (pc := 901) dL_law_901 rfl ?_
  refine x_iconst (pc := 903) (v := 1) dL_law_903 (by decide) ?_
  refine x_iadd (pc := 904) dL_law_904 ?_
  refine x_sld (pc := 905) (j := i + 1) hs h4 dL_law_905 (nI_p1 i) (by omega) ?_
  refine x_callV (pc := 906) (t := 11) (mc2 := 24 * k) (ms2 := 614 * k) (p_tokenSize hC hW (xs (i + 1))) dL_law_906 l_L_108 mk_X11_tokenSize mv_X11_tokenSize (by decide) rfl k1 (by decide) rfl rfl (Nat.le_of_ble_eq_true rfl) (by omega) (by omega) (fun r T g1 => ?_)
  obtain ⟨rfl, hC1, hQ1⟩ := g1
  have hM1 := hI.m hQ1
  refine x_aload_n (pc := 909) dL_law_909 rfl ?_
  refine x_aload_nq (pc := 910) dL_law_910 rfl ?_
  refine x_iload (pc := 911) dL_law_911 rfl ?_
  refine x_iconst (pc := 913) (v := 1) dL_law_913 (by decide) ?_
  refine x_iadd (pc := 914) dL_law_914 ?_
  refine x_sld (pc := 915) (j := i + 1) hs h4 dL_law_915 (nI_p1 i) (by omega) ?_
  refine x_callV (pc := 916) (t := 12) (m_tokenSize hM1 hW (xs (i + 1))) dL_law_916 l_L_111 mk_X12_tokenSize mv_X12_tokenSize (by decide) rfl hM1.1.1 (by decide) rfl rfl (Nat.le_of_ble_eq_true rfl) (Nat.le_refl _) (Nat.le_refl _) (fun r T2 g2 => ?_)
  obtain ⟨rfl, hM2, hF2⟩ := g2
  refine x_icmp_eq (pc := 919) (tgt := 1812) dL_law_919 (by decide) (fun _ => ?_) (fun g => absurd rfl g)
  exact fin _ _ (hI.next hQ1 hC1 hF2 hM2 (w_tokenSize hW hn (xs (i + 1))))
set_option maxRecDepth 20000 in
set_option maxHeartbeats 4000000 in
theorem lw_c21 {nm : String} {E : zE} {L : Nat} {xs : Nat → Int32} {Q : zQx} {k i n : Nat} {S : zM} {s : zST} (hE : zOKE E) (hX : zOKX E) (hl0 : ∀ l s c, Q.1 l s c → l.stackTraces = false) (hs : zScr E L xs) (h4 : L ≤ 4608) (hi : i + 9 ≤ L) (hn : n + 1 < 600) (hI : zLI n S s) (fin : ∀ (T : zM) (s' : zST), zLI (n + 1) T s' → zJx E 10 (24 * k) (614 * k) (mL_law nm) cL_law 1812 (zll i) [] T Q) : zJx E 10 (24 * (k + 1)) (614 * (k + 1)) (mL_law nm) cL_law 924 (zll i) [] S Q := by
  obtain ⟨hC, hM, hW, hO⟩ := id hI
  have k1 := hC.1.1
  refine x_aload_n (pc := 924) dL_law_924 rfl ?_
  refine x_aload_nq (pc := 925) dL_law_925 rfl ?_
  refine x_iload (pc := 926) dL_law_926 rfl ?_
  refine x_iconst (pc := 928) (v := 1) dL_law_928 (by decide) ?_
  refine x_iadd (pc := 929) dL_law_929 ?_
  refine x_sld (pc := 930) (j := i + 1) hs h4 dL_law_930 (nI_p1 i) (by omega) ?_
  refine x_aload_nq (pc := 931) dL_law_931 rfl ?_
  refine x_iload (pc := 932) dL_law_932 rfl ?_
  refine x_iconst (pc := 934) (v := 2) dL_law_934 (by decide) ?_
  refine x_iadd (pc := 935) dL_law_935 ?_
  refine x_sld (pc := 936) (j := i + 2) hs h4 dL_law_936 (nI_p2 i) (by omega) ?_
  refine x_callV (pc := 937) (t := 11) (mc2 := 24 * k) (ms2 := 614 * k) (p_tokenByte hC hW (xs (i + 1)) (xs (i + 2))) dL_law_937 l_L_112 mk_X11_tokenByte mv_X11_tokenByte (by decide) rfl k1 (by decide) rfl rfl (Nat.le_of_ble_eq_true rfl) (by omega) (by omega) (fun r T g1 => ?_)
  obtain ⟨rfl, hC1, hQ1⟩ := g1
  have hM1 := hI.m hQ1
  refine x_aload_n (pc := 940) dL_law_940 rfl ?_
  refine x_aload_nq (pc := 941) dL_law_941 rfl ?_
  refine x_iload (pc := 942) dL_law_942 rfl ?_
  refine x_iconst (pc := 944) (v := 1) dL_law_944 (by decide) ?_
  refine x_iadd (pc := 945) dL_law_945 ?_
  refine x_sld (pc := 946) (j := i + 1) hs h4 dL_law_946 (nI_p1 i) (by omega) ?_
  refine x_aload_nq (pc := 947) dL_law_947 rfl ?_
  refine x_iload (pc := 948) dL_law_948 rfl ?_
  refine x_iconst (pc := 950) (v := 2) dL_law_950 (by decide) ?_
  refine x_iadd (pc := 951) dL_law_951 ?_
  refine x_sld (pc := 952) (j := i + 2) hs h4 dL_law_952 (nI_p2 i) (by omega) ?_
  refine x_callV (pc := 953) (t := 12) (m_tokenByte hM1 hW (xs (i + 1)) (xs (i + 2))) dL_law_953 l_L_115 mk_X12_tokenByte mv_X12_tokenByte (by decide) rfl hM1.1.1 (by decide) rfl rfl (Nat.le_of_ble_eq_true rfl) (Nat.le_refl _) (Nat.le_refl _) (fun r T2 g2 => ?_)
  obtain ⟨rfl, hM2, hF2⟩ := g2
  refine x_icmp_eq (pc := 956) (tgt := 1812) dL_law_956 (by decide) (fun _ => ?_) (fun g => absurd rfl g)
  exact fin _ _ (hI.next hQ1 hC1 hF2 hM2 (w_tokenByte hW hn (xs (i + 1)) (xs (i + 2))))
set_option maxRecDepth 20000 in
set_option maxHeartbeats 4000000 in
theorem lw_c22 {nm : String} {E : zE} {L : Nat} {xs : Nat → Int32} {Q : zQx} {k i n : Nat} {S : zM} {s : zST} (hE : zOKE E) (hX : zOKX E) (hl0 : ∀ l s c, Q.1 l s c → l.stackTraces = false) (hs : zScr E L xs) (h4 : L ≤ 4608) (hi : i + 9 ≤ L) (hn : n + 1 < 600) (hI : zLI n S s) (fin : ∀ (T : zM) (s' : zST), zLI (n + 1) T s' → zJx E 10 (24 * k) (614 * k) (mL_law nm) cL_law 1812 (zll i) [] T Q) : zJx E 10 (24 * (k + 1)) (614 * (k + 1)) (mL_law nm) cL_law 961 (zll i) [] S Q := by
  obtain ⟨hC, hM, hW, hO⟩ := id hI
  have k1 := hC.1.1
  refine x_aload_n (pc := 961) dL_law_961 rfl ?_
  refine x_aload_nq (pc := 962) dL_law_962 rfl ?_
  refine x_iload (pc := 963) dL_law_963 rfl ?_
  refine x_iconst (pc := 965) (v := 1) dL_law_965 (by decide) ?_
  refine x_iadd (pc := 966) dL_law_966 ?_
  refine x_sld (pc := 967) (j := i + 1) hs h4 dL_law_967 (nI_p1 i) (by omega) ?_
  refine x_callV (pc := 968) (t := 11) (mc2 := 24 * k) (ms2 := 614 * k) (p_beyond hC hW (xs (i + 1))) dL_law_968 l_L_116 mk_X11_beyond mv_X11_beyond (by decide) rfl k1 (by decide) rfl rfl (Nat.le_of_ble_eq_true rfl) (by omega) (by omega) (fun r T g1 => ?_)
  obtain ⟨rfl, hC1, hQ1⟩ := g1
  have hM1 := hI.m hQ1
  refine x_aload_n (pc := 971) dL_law_971 rfl ?_
  refine x_aload_nq (pc := 972) dL_law_972 rfl ?_
  refine x_iload (pc := 973) dL_law_973 rfl ?_
  refine x_iconst (pc := 975) (v := 1) dL_law_975 (by decide) ?_
  refine x_iadd (pc := 976) dL_law_976 ?_
  refine x_sld (pc := 977) (j := i + 1) hs h4 dL_law_977 (nI_p1 i) (by omega) ?_
  refine x_callV (pc := 978) (t := 12) (m_beyond hM1 hW (xs (i + 1))) dL_law_978 l_L_119 mk_X12_beyond mv_X12_beyond (by decide) rfl hM1.1.1 (by decide) rfl rfl (Nat.le_of_ble_eq_true rfl) (Nat.le_refl _) (Nat.le_refl _) (fun r T2 g2 => ?_)
  obtain ⟨rfl, hM2, hF2⟩ := g2
  refine x_icmp_eq (pc := 981) (tgt := 1812) dL_law_981 (by decide) (fun _ => ?_) (fun g => absurd rfl g)
  exact fin _ _ (hI.next hQ1 hC1 hF2 hM2 (w_beyond hW hn (xs (i + 1))))
set_option maxRecDepth 20000 in
set_option maxHeartbeats 4000000 in
theorem lw_c23 {nm : String} {E : zE} {L : Nat} {xs : Nat → Int32} {Q : zQx} {k i n : Nat} {S : zM} {s : zST} (hE : zOKE E) (hX : zOKX E) (hl0 : ∀ l s c, Q.1 l s c → l.stackTraces = false) (hs : zScr E L xs) (h4 : L ≤ 4608) (hi : i + 9 ≤ L) (hn : n + 1 < 600) (hI : zLI n S s) (fin : ∀ (T : zM) (s' : zST), zLI (n + 1) T s' → zJx E 10 (24 * k) (614 * k) (mL_law nm) cL_law 1812 (zll i) [] T Q) : zJx E 10 (24 * (k + 1)) (614 * (k + 1)) (mL_law nm) cL_law 986 (zll i) [] S Q := by
  obtain ⟨hC, hM, hW, hO⟩ := id hI
  have k1 := hC.1.1
  refine x_aload_n (pc := 986) dL_law_986 rfl ?_
  refine x_aload_nq (pc := 987) dL_law_987 rfl ?_
  refine x_iload (pc := 988) dL_law_988 rfl ?_
  refine x_iconst (pc := 990) (v := 1) dL_law_990 (by decide) ?_
  refine x_iadd (pc := 991) dL_law_991 ?_
  refine x_sld (pc := 992) (j := i + 1) hs h4 dL_law_992 (nI_p1 i) (by omega) ?_
  refine x_callV (pc := 993) (t := 11) (mc2 := 24 * k) (ms2 := 614 * k) (p_checks hC hW (xs (i + 1))) dL_law_993 l_L_120 mk_X11_checks mv_X11_checks (by decide) rfl k1 (by decide) rfl rfl (Nat.le_of_ble_eq_true rfl) (by omega) (by omega) (fun r T g1 => ?_)
  obtain ⟨rfl, hC1, hQ1⟩ := g1
  have hM1 := hI.m hQ1
  refine x_aload_n (pc := 996) dL_law_996 rfl ?_
  refine x_aload_nq (pc := 997) dL_law_997 rfl ?_
  refine x_iload (pc := 998) dL_law_998 rfl ?_
  refine x_iconst (pc := 1000) (v := 1) dL_law_1000 (by decide) ?_
  refine x_iadd (pc := 1001) dL_law_1001 ?_
  refine x_sld (pc := 1002) (j := i + 1) hs h4 dL_law_1002 (nI_p1 i) (by omega) ?_
  refine x_callV (pc := 1003) (t := 12) (m_checks hM1 hW (xs (i + 1))) dL_law_1003 l_L_123 mk_X12_checks mv_X12_checks (by decide) rfl hM1.1.1 (by decide) rfl rfl (Nat.le_of_ble_eq_true rfl) (Nat.le_refl _) (Nat.le_refl _) (fun r T2 g2 => ?_)
  obtain ⟨rfl, hM2, hF2⟩ := g2
  refine x_icmp_eq (pc := 1006) (tgt := 1812) dL_law_1006 (by decide) (fun _ => ?_) (fun g => absurd rfl g)
  exact fin _ _ (hI.next hQ1 hC1 hF2 hM2 (w_checks hW hn (xs (i + 1))))
