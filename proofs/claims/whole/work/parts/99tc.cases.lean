section CASES
variable {G : GT} {b Ln q m0 C0 U0 k : Nat} {xs : Nat → Int32} {a : PT} {mt : MT} {o : Int64} {Y : SY} {l5 l6 : Option Value} {post : Option Value → LT → Prop}
theorem lc_18 (hG : LawG G b Ln xs C0 U0) (hk : 6 * (k : Int) + 6 ≤ Ln) (hI : LI q C0 U0 k a mt Y) (hT : LTail G b q m0 C0 U0 k post) : V G (AL G m0) yL_law cL_law 7 (some .boolean) 12 (a, mt, o) 793 [some (.ref b), some (.ref q), some (.ref m0), some (.ref (m0 + 15)), some (vi (6 * (k : Int))), l5, l6] [] post := by
  obtain ⟨T, N, R, P, S, cn, un⟩ := a
  obtain ⟨I, A, D⟩ := mt
  obtain ⟨hS, hLn, hC, hU, hst⟩ := hG
  obtain ⟨hP, hM, hW⟩ := hI
  have hM : RepM I A Y := hM
  have hb : 12000 * (k : Int) ≤ 80000000 := by omega
  have hb9 : 12000 * (k : Int) ≤ 90000000 := by omega
  have hc : C0 + k ≤ gN G := by omega
  have hu : U0 + 6 * k ≤ gU G := by omega
  refine s_aload_n 794 dL_law_793 rfl rfl ?_
  refine s_aload_n 795 dL_law_794 rfl rfl ?_
  refine s_iload 797 dL_law_795 rfl rfl ?_
  refine s_iconst 798 dL_law_797 rfl ?_
  refine s_iadd 799 dL_law_798 rfl ?_
  refine s_sld 800 dL_law_799 rfl hS (by omega) (by omega) ?_
  refine s_V1i 803 dL_law_800 rfl km_X11_stuff ml_L_103 ds_X11_stuff (Nat.le_of_ble_eq_true rfl) (al_recP hP.t12) rfl (l_prog (u_stuff (scI_rg xs _) hP hW (fun a' hP' => ?_)))
  refine ⟨_, rfl, ?_⟩
  refine s_aload_n 804 dL_law_803 rfl rfl ?_
  refine s_aload_n 805 dL_law_804 rfl rfl ?_
  refine s_iload 807 dL_law_805 rfl rfl ?_
  refine s_iconst 808 dL_law_807 rfl ?_
  refine s_iadd 809 dL_law_808 rfl ?_
  refine s_sld 810 dL_law_809 rfl hS (by omega) (by omega) ?_
  refine s_V1i 813 dL_law_810 rfl km_X12_stuff ml_L_106 ds_X12_stuff (Nat.le_of_ble_eq_true rfl) al_recM rfl (l_ref (fun F n u => o_stuff (scI_rg xs _) hM hW (fun I' A' hM' => ?_)))
  refine ⟨_, rfl, ?_⟩
  refine s_icmp_same 1218 dL_law_813 rfl ?_
  exact hT _ _ _ _ _ _ ⟨hP'.more (by omega) (by omega), hM', wf_up (k_stuff hW _)⟩
theorem lc_19 (hG : LawG G b Ln xs C0 U0) (hk : 6 * (k : Int) + 6 ≤ Ln) (hI : LI q C0 U0 k a mt Y) (hT : LTail G b q m0 C0 U0 k post) : V G (AL G m0) yL_law cL_law 7 (some .boolean) 12 (a, mt, o) 818 [some (.ref b), some (.ref q), some (.ref m0), some (.ref (m0 + 15)), some (vi (6 * (k : Int))), l5, l6] [] post := by
  obtain ⟨T, N, R, P, S, cn, un⟩ := a
  obtain ⟨I, A, D⟩ := mt
  obtain ⟨hS, hLn, hC, hU, hst⟩ := hG
  obtain ⟨hP, hM, hW⟩ := hI
  have hM : RepM I A Y := hM
  have hb : 12000 * (k : Int) ≤ 80000000 := by omega
  have hb9 : 12000 * (k : Int) ≤ 90000000 := by omega
  have hc : C0 + k ≤ gN G := by omega
  have hu : U0 + 6 * k ≤ gU G := by omega
  refine s_aload_n 819 dL_law_818 rfl rfl ?_
  refine s_aload_n 820 dL_law_819 rfl rfl ?_
  refine s_iload 822 dL_law_820 rfl rfl ?_
  refine s_iconst 823 dL_law_822 rfl ?_
  refine s_iadd 824 dL_law_823 rfl ?_
  refine s_sld 825 dL_law_824 rfl hS (by omega) (by omega) ?_
  refine s_V1i 828 dL_law_825 rfl km_X11_unstuff ml_L_107 ds_X11_unstuff (Nat.le_of_ble_eq_true rfl) (al_recP hP.t12) rfl (l_prog (u_unstuff (scI_rg xs _) hP hW (fun a' hP' => ?_)))
  refine ⟨_, rfl, ?_⟩
  refine s_aload_n 829 dL_law_828 rfl rfl ?_
  refine s_aload_n 830 dL_law_829 rfl rfl ?_
  refine s_iload 832 dL_law_830 rfl rfl ?_
  refine s_iconst 833 dL_law_832 rfl ?_
  refine s_iadd 834 dL_law_833 rfl ?_
  refine s_sld 835 dL_law_834 rfl hS (by omega) (by omega) ?_
  refine s_V1i 838 dL_law_835 rfl km_X12_unstuff ml_L_110 ds_X12_unstuff (Nat.le_of_ble_eq_true rfl) al_recM rfl (l_ref (fun F n u => o_unstuff (scI_rg xs _) hM hW (fun I' A' hM' => ?_)))
  refine ⟨_, rfl, ?_⟩
  refine s_icmp_same 1218 dL_law_838 rfl ?_
  exact hT _ _ _ _ _ _ ⟨hP'.more (by omega) (by omega), hM', wf_up (k_unstuff hW _)⟩
theorem lc_20 (hG : LawG G b Ln xs C0 U0) (hk : 6 * (k : Int) + 6 ≤ Ln) (hI : LI q C0 U0 k a mt Y) (hT : LTail G b q m0 C0 U0 k post) : V G (AL G m0) yL_law cL_law 7 (some .boolean) 12 (a, mt, o) 843 [some (.ref b), some (.ref q), some (.ref m0), some (.ref (m0 + 15)), some (vi (6 * (k : Int))), l5, l6] [] post := by
  obtain ⟨T, N, R, P, S, cn, un⟩ := a
  obtain ⟨I, A, D⟩ := mt
  obtain ⟨hS, hLn, hC, hU, hst⟩ := hG
  obtain ⟨hP, hM, hW⟩ := hI
  have hM : RepM I A Y := hM
  have hb : 12000 * (k : Int) ≤ 80000000 := by omega
  have hb9 : 12000 * (k : Int) ≤ 90000000 := by omega
  have hc : C0 + k ≤ gN G := by omega
  have hu : U0 + 6 * k ≤ gU G := by omega
  refine s_aload_n 844 dL_law_843 rfl rfl ?_
  refine s_aload_n 845 dL_law_844 rfl rfl ?_
  refine s_iload 847 dL_law_845 rfl rfl ?_
  refine s_iconst 848 dL_law_847 rfl ?_
  refine s_iadd 849 dL_law_848 rfl ?_
  refine s_sld 850 dL_law_849 rfl hS (by omega) (by omega) ?_
  refine s_V1i 853 dL_law_850 rfl km_X11_box ml_L_111 ds_X11_box (Nat.le_of_ble_eq_true rfl) (al_recP hP.t12) rfl (l_prog (u_box (scI_rg xs _) hP (fun a' hP' => ?_)))
  refine ⟨_, rfl, ?_⟩
  refine s_aload_n 854 dL_law_853 rfl rfl ?_
  refine s_aload_n 855 dL_law_854 rfl rfl ?_
  refine s_iload 857 dL_law_855 rfl rfl ?_
  refine s_iconst 858 dL_law_857 rfl ?_
  refine s_iadd 859 dL_law_858 rfl ?_
  refine s_sld 860 dL_law_859 rfl hS (by omega) (by omega) ?_
  refine s_V1i 863 dL_law_860 rfl km_X12_box ml_L_114 ds_X12_box (Nat.le_of_ble_eq_true rfl) al_recM rfl (l_ref (fun F n u => o_box (scI_rg xs _) hM hW (fun I' A' hM' => ?_)))
  refine ⟨_, rfl, ?_⟩
  refine s_icmp_same 1218 dL_law_863 rfl ?_
  exact hT _ _ _ _ _ _ ⟨hP'.more (by omega) (by omega), hM', wf_up0 hW⟩
theorem lc_21 (hG : LawG G b Ln xs C0 U0) (hk : 6 * (k : Int) + 6 ≤ Ln) (hI : LI q C0 U0 k a mt Y) (hT : LTail G b q m0 C0 U0 k post) : V G (AL G m0) yL_law cL_law 7 (some .boolean) 12 (a, mt, o) 868 [some (.ref b), some (.ref q), some (.ref m0), some (.ref (m0 + 15)), some (vi (6 * (k : Int))), l5, l6] [] post := by
  obtain ⟨T, N, R, P, S, cn, un⟩ := a
  obtain ⟨I, A, D⟩ := mt
  obtain ⟨hS, hLn, hC, hU, hst⟩ := hG
  obtain ⟨hP, hM, hW⟩ := hI
  have hM : RepM I A Y := hM
  have hb : 12000 * (k : Int) ≤ 80000000 := by omega
  have hb9 : 12000 * (k : Int) ≤ 90000000 := by omega
  have hc : C0 + k ≤ gN G := by omega
  have hu : U0 + 6 * k ≤ gU G := by omega
  refine s_aload_n 869 dL_law_868 rfl rfl ?_
  refine s_V0i 872 dL_law_869 rfl km_X11_shortest ml_L_115 ds_X11_shortest (Nat.le_of_ble_eq_true rfl) (al_recP hP.t12) rfl (l_prog (u_shortest hP hW (fun a' hP' => ?_)))
  refine ⟨_, rfl, ?_⟩
  refine s_aload_n 873 dL_law_872 rfl rfl ?_
  refine s_V0i 876 dL_law_873 rfl km_X12_shortest ml_L_118 ds_X12_shortest (Nat.le_of_ble_eq_true rfl) al_recM rfl (l_ref (fun F n u => o_shortest hM hW (fun I' A' hM' => ?_)))
  refine ⟨_, rfl, ?_⟩
  refine s_icmp_same 1218 dL_law_876 rfl ?_
  exact hT _ _ _ _ _ _ ⟨hP'.more (by omega) (by omega), hM', wf_up0 hW⟩
theorem lc_22 (hG : LawG G b Ln xs C0 U0) (hk : 6 * (k : Int) + 6 ≤ Ln) (hI : LI q C0 U0 k a mt Y) (hT : LTail G b q m0 C0 U0 k post) : V G (AL G m0) yL_law cL_law 7 (some .boolean) 12 (a, mt, o) 881 [some (.ref b), some (.ref q), some (.ref m0), some (.ref (m0 + 15)), some (vi (6 * (k : Int))), l5, l6] [] post := by
  obtain ⟨T, N, R, P, S, cn, un⟩ := a
  obtain ⟨I, A, D⟩ := mt
  obtain ⟨hS, hLn, hC, hU, hst⟩ := hG
  obtain ⟨hP, hM, hW⟩ := hI
  have hM : RepM I A Y := hM
  have hb : 12000 * (k : Int) ≤ 80000000 := by omega
  have hb9 : 12000 * (k : Int) ≤ 90000000 := by omega
  have hc : C0 + k ≤ gN G := by omega
  have hu : U0 + 6 * k ≤ gU G := by omega
  refine s_aload_n 882 dL_law_881 rfl rfl ?_
  refine s_aload_n 883 dL_law_882 rfl rfl ?_
  refine s_iload 885 dL_law_883 rfl rfl ?_
  refine s_iconst 886 dL_law_885 rfl ?_
  refine s_iadd 887 dL_law_886 rfl ?_
  refine s_sld 888 dL_law_887 rfl hS (by omega) (by omega) ?_
  refine s_V1i 891 dL_law_888 rfl km_X11_bound ml_L_119 ds_X11_bound (Nat.le_of_ble_eq_true rfl) (al_recP hP.t12) rfl (l_prog (u_bound (scI_rg xs _) hP hW (fun a' hP' => ?_)))
  refine ⟨_, rfl, ?_⟩
  refine s_aload_n 892 dL_law_891 rfl rfl ?_
  refine s_aload_n 893 dL_law_892 rfl rfl ?_
  refine s_iload 895 dL_law_893 rfl rfl ?_
  refine s_iconst 896 dL_law_895 rfl ?_
  refine s_iadd 897 dL_law_896 rfl ?_
  refine s_sld 898 dL_law_897 rfl hS (by omega) (by omega) ?_
  refine s_V1i 901 dL_law_898 rfl km_X12_bound ml_L_122 ds_X12_bound (Nat.le_of_ble_eq_true rfl) al_recM rfl (l_ref (fun F n u => o_bound (scI_rg xs _) hM hW (fun I' A' hM' => ?_)))
  refine ⟨_, rfl, ?_⟩
  refine s_icmp_same 1218 dL_law_901 rfl ?_
  exact hT _ _ _ _ _ _ ⟨hP'.more (by omega) (by omega), hM', wf_up0 hW⟩
theorem lc_23 (hG : LawG G b Ln xs C0 U0) (hk : 6 * (k : Int) + 6 ≤ Ln) (hI : LI q C0 U0 k a mt Y) (hT : LTail G b q m0 C0 U0 k post) : V G (AL G m0) yL_law cL_law 7 (some .boolean) 12 (a, mt, o) 906 [some (.ref b), some (.ref q), some (.ref m0), some (.ref (m0 + 15)), some (vi (6 * (k : Int))), l5, l6] [] post := by
  obtain ⟨T, N, R, P, S, cn, un⟩ := a
  obtain ⟨I, A, D⟩ := mt
  obtain ⟨hS, hLn, hC, hU, hst⟩ := hG
  obtain ⟨hP, hM, hW⟩ := hI
  have hM : RepM I A Y := hM
  have hb : 12000 * (k : Int) ≤ 80000000 := by omega
  have hb9 : 12000 * (k : Int) ≤ 90000000 := by omega
  have hc : C0 + k ≤ gN G := by omega
  have hu : U0 + 6 * k ≤ gU G := by omega
  refine s_aload_n 907 dL_law_906 rfl rfl ?_
  refine s_aload_n 908 dL_law_907 rfl rfl ?_
  refine s_iload 910 dL_law_908 rfl rfl ?_
  refine s_iconst 911 dL_law_910 rfl ?_
  refine s_iadd 912 dL_law_911 rfl ?_
  refine s_sld 913 dL_law_912 rfl hS (by omega) (by omega) ?_
  refine s_aload_n 914 dL_law_913 rfl rfl ?_
  refine s_iload 916 dL_law_914 rfl rfl ?_
  refine s_iconst 917 dL_law_916 rfl ?_
  refine s_iadd 918 dL_law_917 rfl ?_
  refine s_sld 919 dL_law_918 rfl hS (by omega) (by omega) ?_
  refine s_V2i 922 dL_law_919 rfl km_X11_frame ml_L_123 ds_X11_frame (Nat.le_of_ble_eq_true rfl) (al_recP hP.t12) rfl (l_prog (u_frame (scI_rg xs _) (scI_rg xs _) hP hW (fun a' hP' => ?_)))
  refine ⟨_, rfl, ?_⟩
  refine s_aload_n 923 dL_law_922 rfl rfl ?_
  refine s_aload_n 924 dL_law_923 rfl rfl ?_
  refine s_iload 926 dL_law_924 rfl rfl ?_
  refine s_iconst 927 dL_law_926 rfl ?_
  refine s_iadd 928 dL_law_927 rfl ?_
  refine s_sld 929 dL_law_928 rfl hS (by omega) (by omega) ?_
  refine s_aload_n 930 dL_law_929 rfl rfl ?_
  refine s_iload 932 dL_law_930 rfl rfl ?_
  refine s_iconst 933 dL_law_932 rfl ?_
  refine s_iadd 934 dL_law_933 rfl ?_
  refine s_sld 935 dL_law_934 rfl hS (by omega) (by omega) ?_
  refine s_V2i 938 dL_law_935 rfl km_X12_frame ml_L_126 ds_X12_frame (Nat.le_of_ble_eq_true rfl) al_recM rfl (l_ref (fun F n u => o_frame (scI_rg xs _) (scI_rg xs _) hM hW (fun I' A' hM' => ?_)))
  refine ⟨_, rfl, ?_⟩
  refine s_icmp_same 1218 dL_law_938 rfl ?_
  exact hT _ _ _ _ _ _ ⟨hP'.more (by omega) (by omega), hM', wf_up0 hW⟩
theorem lc_24 (hG : LawG G b Ln xs C0 U0) (hk : 6 * (k : Int) + 6 ≤ Ln) (hI : LI q C0 U0 k a mt Y) (hT : LTail G b q m0 C0 U0 k post) : V G (AL G m0) yL_law cL_law 7 (some .boolean) 12 (a, mt, o) 943 [some (.ref b), some (.ref q), some (.ref m0), some (.ref (m0 + 15)), some (vi (6 * (k : Int))), l5, l6] [] post := by
  obtain ⟨T, N, R, P, S, cn, un⟩ := a
  obtain ⟨I, A, D⟩ := mt
  obtain ⟨hS, hLn, hC, hU, hst⟩ := hG
  obtain ⟨hP, hM, hW⟩ := hI
  have hM : RepM I A Y := hM
  have hb : 12000 * (k : Int) ≤ 80000000 := by omega
  have hb9 : 12000 * (k : Int) ≤ 90000000 := by omega
  have hc : C0 + k ≤ gN G := by omega
  have hu : U0 + 6 * k ≤ gU G := by omega
  refine s_aload_n 944 dL_law_943 rfl rfl ?_
  refine s_aload_n 945 dL_law_944 rfl rfl ?_
  refine s_iload 947 dL_law_945 rfl rfl ?_
  refine s_iconst 948 dL_law_947 rfl ?_
  refine s_iadd 949 dL_law_948 rfl ?_
  refine s_sld 950 dL_law_949 rfl hS (by omega) (by omega) ?_
  refine s_aload_n 951 dL_law_950 rfl rfl ?_
  refine s_iload 953 dL_law_951 rfl rfl ?_
  refine s_iconst 954 dL_law_953 rfl ?_
  refine s_iadd 955 dL_law_954 rfl ?_
  refine s_sld 956 dL_law_955 rfl hS (by omega) (by omega) ?_
  refine s_V2i 959 dL_law_956 rfl km_X11_harm ml_L_127 ds_X11_harm (Nat.le_of_ble_eq_true rfl) (al_recP hP.t12) rfl (l_prog (u_harm (scI_rg xs _) (scI_rg xs _) hP hW hb (fun a' hP' => ?_)))
  refine ⟨_, rfl, ?_⟩
  refine s_aload_n 960 dL_law_959 rfl rfl ?_
  refine s_aload_n 961 dL_law_960 rfl rfl ?_
  refine s_iload 963 dL_law_961 rfl rfl ?_
  refine s_iconst 964 dL_law_963 rfl ?_
  refine s_iadd 965 dL_law_964 rfl ?_
  refine s_sld 966 dL_law_965 rfl hS (by omega) (by omega) ?_
  refine s_aload_n 967 dL_law_966 rfl rfl ?_
  refine s_iload 969 dL_law_967 rfl rfl ?_
  refine s_iconst 970 dL_law_969 rfl ?_
  refine s_iadd 971 dL_law_970 rfl ?_
  refine s_sld 972 dL_law_971 rfl hS (by omega) (by omega) ?_
  refine s_V2i 975 dL_law_972 rfl km_X12_harm ml_L_130 ds_X12_harm (Nat.le_of_ble_eq_true rfl) al_recM rfl (l_ref (fun F n u => o_harm (scI_rg xs _) (scI_rg xs _) hM hW hb9 (fun I' A' hM' => ?_)))
  refine ⟨_, rfl, ?_⟩
  refine s_icmp_same 1218 dL_law_975 rfl ?_
  exact hT _ _ _ _ _ _ ⟨hP'.more (by omega) (by omega), hM', wf_up0 hW⟩
theorem lc_25 (hG : LawG G b Ln xs C0 U0) (hk : 6 * (k : Int) + 6 ≤ Ln) (hI : LI q C0 U0 k a mt Y) (hT : LTail G b q m0 C0 U0 k post) : V G (AL G m0) yL_law cL_law 7 (some .boolean) 12 (a, mt, o) 980 [some (.ref b), some (.ref q), some (.ref m0), some (.ref (m0 + 15)), some (vi (6 * (k : Int))), l5, l6] [] post := by
  obtain ⟨T, N, R, P, S, cn, un⟩ := a
  obtain ⟨I, A, D⟩ := mt
  obtain ⟨hS, hLn, hC, hU, hst⟩ := hG
  obtain ⟨hP, hM, hW⟩ := hI
  have hM : RepM I A Y := hM
  have hb : 12000 * (k : Int) ≤ 80000000 := by omega
  have hb9 : 12000 * (k : Int) ≤ 90000000 := by omega
  have hc : C0 + k ≤ gN G := by omega
  have hu : U0 + 6 * k ≤ gU G := by omega
  refine s_aload_n 981 dL_law_980 rfl rfl ?_
  refine s_aload_n 982 dL_law_981 rfl rfl ?_
  refine s_iload 984 dL_law_982 rfl rfl ?_
  refine s_iconst 985 dL_law_984 rfl ?_
  refine s_iadd 986 dL_law_985 rfl ?_
  refine s_sld 987 dL_law_986 rfl hS (by omega) (by omega) ?_
  refine s_V1i 990 dL_law_987 rfl km_X11_blind ml_L_131 ds_X11_blind (Nat.le_of_ble_eq_true rfl) (al_recP hP.t12) rfl (l_prog (u_blind (scI_rg xs _) hP hW (blK hW) (fun a' hP' => ?_)))
  refine ⟨_, rfl, ?_⟩
  refine s_aload_n 991 dL_law_990 rfl rfl ?_
  refine s_aload_n 992 dL_law_991 rfl rfl ?_
  refine s_iload 994 dL_law_992 rfl rfl ?_
  refine s_iconst 995 dL_law_994 rfl ?_
  refine s_iadd 996 dL_law_995 rfl ?_
  refine s_sld 997 dL_law_996 rfl hS (by omega) (by omega) ?_
  refine s_V1i 1000 dL_law_997 rfl km_X12_blind ml_L_134 ds_X12_blind (Nat.le_of_ble_eq_true rfl) al_recM rfl (l_ref (fun F n u => o_blind (scI_rg xs _) hM hW (fun I' A' hM' => ?_)))
  refine ⟨_, rfl, ?_⟩
  refine s_icmp_same 1218 dL_law_1000 rfl ?_
  exact hT _ _ _ _ _ _ ⟨hP'.more (by omega) (by omega), hM', wf_up0 hW⟩
theorem lc_26 (hG : LawG G b Ln xs C0 U0) (hk : 6 * (k : Int) + 6 ≤ Ln) (hI : LI q C0 U0 k a mt Y) (hT : LTail G b q m0 C0 U0 k post) : V G (AL G m0) yL_law cL_law 7 (some .boolean) 12 (a, mt, o) 1005 [some (.ref b), some (.ref q), some (.ref m0), some (.ref (m0 + 15)), some (vi (6 * (k : Int))), l5, l6] [] post := by
  obtain ⟨T, N, R, P, S, cn, un⟩ := a
  obtain ⟨I, A, D⟩ := mt
  obtain ⟨hS, hLn, hC, hU, hst⟩ := hG
  obtain ⟨hP, hM, hW⟩ := hI
  have hM : RepM I A Y := hM
  have hb : 12000 * (k : Int) ≤ 80000000 := by omega
  have hb9 : 12000 * (k : Int) ≤ 90000000 := by omega
  have hc : C0 + k ≤ gN G := by omega
  have hu : U0 + 6 * k ≤ gU G := by omega
  refine s_aload_n 1006 dL_law_1005 rfl rfl ?_
  refine s_aload_n 1007 dL_law_1006 rfl rfl ?_
  refine s_iload 1009 dL_law_1007 rfl rfl ?_
  refine s_iconst 1010 dL_law_1009 rfl ?_
  refine s_iadd 1011 dL_law_1010 rfl ?_
  refine s_sld 1012 dL_law_1011 rfl hS (by omega) (by omega) ?_
  refine s_aload_n 1013 dL_law_1012 rfl rfl ?_
  refine s_iload 1015 dL_law_1013 rfl rfl ?_
  refine s_iconst 1016 dL_law_1015 rfl ?_
  refine s_iadd 1017 dL_law_1016 rfl ?_
  refine s_sld 1018 dL_law_1017 rfl hS (by omega) (by omega) ?_
  refine s_V2i 1021 dL_law_1018 rfl km_X11_cost ml_L_135 ds_X11_cost (Nat.le_of_ble_eq_true rfl) (al_recP hP.t12) rfl (l_prog (u_cost (scI_rg xs _) (scI_rg xs _) hP hW (fun a' hP' => ?_)))
  refine ⟨_, rfl, ?_⟩
  refine s_aload_n 1022 dL_law_1021 rfl rfl ?_
  refine s_aload_n 1023 dL_law_1022 rfl rfl ?_
  refine s_iload 1025 dL_law_1023 rfl rfl ?_
  refine s_iconst 1026 dL_law_1025 rfl ?_
  refine s_iadd 1027 dL_law_1026 rfl ?_
  refine s_sld 1028 dL_law_1027 rfl hS (by omega) (by omega) ?_
  refine s_aload_n 1029 dL_law_1028 rfl rfl ?_
  refine s_iload 1031 dL_law_1029 rfl rfl ?_
  refine s_iconst 1032 dL_law_1031 rfl ?_
  refine s_iadd 1033 dL_law_1032 rfl ?_
  refine s_sld 1034 dL_law_1033 rfl hS (by omega) (by omega) ?_
  refine s_V2i 1037 dL_law_1034 rfl km_X12_cost ml_L_138 ds_X12_cost (Nat.le_of_ble_eq_true rfl) al_recM rfl (l_ref (fun F n u => o_cost (scI_rg xs _) (scI_rg xs _) hM hW (fun I' A' hM' => ?_)))
  refine ⟨_, rfl, ?_⟩
  refine s_icmp_same 1218 dL_law_1037 rfl ?_
  exact hT _ _ _ _ _ _ ⟨hP'.more (by omega) (by omega), hM', wf_up0 hW⟩
end CASES
