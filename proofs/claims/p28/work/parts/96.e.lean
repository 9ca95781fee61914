theorem dL_law_778 : decode cL_law 778 = .ok (.aload_n 1, 1) := by decide +kernel
theorem dL_law_779 : decode cL_law 779 = .ok (.aload_n 0, 1) := by decide +kernel
theorem dL_law_780 : decode cL_law 780 = .ok (.iload_n 3, 1) := by decide +kernel
theorem dL_law_781 : decode cL_law 781 = .ok (.iconst 1, 1) := by decide +kernel
theorem dL_law_782 : decode cL_law 782 = .ok (.iadd, 1) := by decide +kernel
theorem dL_law_783 : decode cL_law 783 = .ok (.iaload, 1) := by decide +kernel
theorem dL_law_784 : decode cL_law 784 = .ok (.invokevirtual 88, 3) := by decide +kernel
theorem dL_law_787 : decode cL_law 787 = .ok (.pop, 1) := by decide +kernel
theorem dL_law_788 : decode cL_law 788 = .ok (.aload_n 2, 1) := by decide +kernel
theorem dL_law_789 : decode cL_law 789 = .ok (.aload_n 0, 1) := by decide +kernel
theorem dL_law_790 : decode cL_law 790 = .ok (.iload_n 3, 1) := by decide +kernel
theorem dL_law_791 : decode cL_law 791 = .ok (.iconst 1, 1) := by decide +kernel
theorem dL_law_792 : decode cL_law 792 = .ok (.iadd, 1) := by decide +kernel
theorem dL_law_793 : decode cL_law 793 = .ok (.iaload, 1) := by decide +kernel
theorem dL_law_794 : decode cL_law 794 = .ok (.invokevirtual 91, 3) := by decide +kernel
theorem dL_law_797 : decode cL_law 797 = .ok (.pop, 1) := by decide +kernel
theorem dL_law_798 : decode cL_law 798 = .ok (.goto 475, 3) := by decide +kernel
theorem dL_law_801 : decode cL_law 801 = .ok (.aload_n 1, 1) := by decide +kernel
theorem dL_law_802 : decode cL_law 802 = .ok (.aload_n 0, 1) := by decide +kernel
theorem dL_law_803 : decode cL_law 803 = .ok (.iload_n 3, 1) := by decide +kernel
theorem dL_law_804 : decode cL_law 804 = .ok (.iconst 1, 1) := by decide +kernel
theorem dL_law_805 : decode cL_law 805 = .ok (.iadd, 1) := by decide +kernel
theorem dL_law_806 : decode cL_law 806 = .ok (.iaload, 1) := by decide +kernel
theorem dL_law_807 : decode cL_law 807 = .ok (.invokevirtual 92, 3) := by decide +kernel
theorem dL_law_810 : decode cL_law 810 = .ok (.pop, 1) := by decide +kernel
theorem dL_law_811 : decode cL_law 811 = .ok (.aload_n 2, 1) := by decide +kernel
theorem dL_law_812 : decode cL_law 812 = .ok (.aload_n 0, 1) := by decide +kernel
theorem dL_law_813 : decode cL_law 813 = .ok (.iload_n 3, 1) := by decide +kernel
theorem dL_law_814 : decode cL_law 814 = .ok (.iconst 1, 1) := by decide +kernel
theorem dL_law_815 : decode cL_law 815 = .ok (.iadd, 1) := by decide +kernel
theorem dL_law_816 : decode cL_law 816 = .ok (.iaload, 1) := by decide +kernel
theorem dL_law_817 : decode cL_law 817 = .ok (.invokevirtual 95, 3) := by decide +kernel
theorem dL_law_820 : decode cL_law 820 = .ok (.pop, 1) := by decide +kernel
theorem dL_law_821 : decode cL_law 821 = .ok (.goto 452, 3) := by decide +kernel
theorem dL_law_824 : decode cL_law 824 = .ok (.aload_n 1, 1) := by decide +kernel
theorem dL_law_825 : decode cL_law 825 = .ok (.invokevirtual 96, 3) := by decide +kernel
theorem dL_law_828 : decode cL_law 828 = .ok (.pop, 1) := by decide +kernel
theorem dL_law_829 : decode cL_law 829 = .ok (.aload_n 2, 1) := by decide +kernel
theorem dL_law_830 : decode cL_law 830 = .ok (.invokevirtual 99, 3) := by decide +kernel
theorem dL_law_833 : decode cL_law 833 = .ok (.pop, 1) := by decide +kernel
theorem dL_law_834 : decode cL_law 834 = .ok (.goto 439, 3) := by decide +kernel
theorem dL_law_837 : decode cL_law 837 = .ok (.aload_n 1, 1) := by decide +kernel
theorem dL_law_838 : decode cL_law 838 = .ok (.aload_n 0, 1) := by decide +kernel
theorem dL_law_839 : decode cL_law 839 = .ok (.iload_n 3, 1) := by decide +kernel
theorem dL_law_840 : decode cL_law 840 = .ok (.iconst 1, 1) := by decide +kernel
theorem dL_law_841 : decode cL_law 841 = .ok (.iadd, 1) := by decide +kernel
theorem dL_law_842 : decode cL_law 842 = .ok (.iaload, 1) := by decide +kernel
theorem dL_law_843 : decode cL_law 843 = .ok (.invokevirtual 100, 3) := by decide +kernel
theorem dL_law_846 : decode cL_law 846 = .ok (.pop, 1) := by decide +kernel
theorem dL_law_847 : decode cL_law 847 = .ok (.aload_n 2, 1) := by decide +kernel
theorem dL_law_848 : decode cL_law 848 = .ok (.aload_n 0, 1) := by decide +kernel
theorem dL_law_849 : decode cL_law 849 = .ok (.iload_n 3, 1) := by decide +kernel
theorem dL_law_850 : decode cL_law 850 = .ok (.iconst 1, 1) := by decide +kernel
theorem dL_law_851 : decode cL_law 851 = .ok (.iadd, 1) := by decide +kernel
theorem dL_law_852 : decode cL_law 852 = .ok (.iaload, 1) := by decide +kernel
theorem dL_law_853 : decode cL_law 853 = .ok (.invokevirtual 103, 3) := by decide +kernel
theorem dL_law_856 : decode cL_law 856 = .ok (.pop, 1) := by decide +kernel
theorem dL_law_857 : decode cL_law 857 = .ok (.goto 416, 3) := by decide +kernel
theorem dL_law_860 : decode cL_law 860 = .ok (.aload_n 1, 1) := by decide +kernel
theorem dL_law_861 : decode cL_law 861 = .ok (.aload_n 0, 1) := by decide +kernel
theorem dL_law_862 : decode cL_law 862 = .ok (.iload_n 3, 1) := by decide +kernel
theorem dL_law_863 : decode cL_law 863 = .ok (.iconst 1, 1) := by decide +kernel
theorem dL_law_864 : decode cL_law 864 = .ok (.iadd, 1) := by decide +kernel
theorem dL_law_865 : decode cL_law 865 = .ok (.iaload, 1) := by decide +kernel
theorem dL_law_866 : decode cL_law 866 = .ok (.aload_n 0, 1) := by decide +kernel
theorem dL_law_867 : decode cL_law 867 = .ok (.iload_n 3, 1) := by decide +kernel
theorem dL_law_868 : decode cL_law 868 = .ok (.iconst 2, 1) := by decide +kernel
theorem dL_law_869 : decode cL_law 869 = .ok (.iadd, 1) := by decide +kernel
theorem dL_law_870 : decode cL_law 870 = .ok (.iaload, 1) := by decide +kernel
theorem dL_law_871 : decode cL_law 871 = .ok (.aload_n 0, 1) := by decide +kernel
theorem dL_law_872 : decode cL_law 872 = .ok (.iload_n 3, 1) := by decide +kernel
theorem dL_law_873 : decode cL_law 873 = .ok (.iconst 3, 1) := by decide +kernel
theorem dL_law_874 : decode cL_law 874 = .ok (.iadd, 1) := by decide +kernel
theorem dL_law_875 : decode cL_law 875 = .ok (.iaload, 1) := by decide +kernel
theorem dL_law_876 : decode cL_law 876 = .ok (.invokevirtual 104, 3) := by decide +kernel
theorem dL_law_879 : decode cL_law 879 = .ok (.pop2, 1) := by decide +kernel
theorem dL_law_880 : decode cL_law 880 = .ok (.aload_n 2, 1) := by decide +kernel
theorem dL_law_881 : decode cL_law 881 = .ok (.aload_n 0, 1) := by decide +kernel
theorem dL_law_882 : decode cL_law 882 = .ok (.iload_n 3, 1) := by decide +kernel
theorem dL_law_883 : decode cL_law 883 = .ok (.iconst 1, 1) := by decide +kernel
theorem dL_law_884 : decode cL_law 884 = .ok (.iadd, 1) := by decide +kernel
theorem dL_law_885 : decode cL_law 885 = .ok (.iaload, 1) := by decide +kernel
theorem dL_law_886 : decode cL_law 886 = .ok (.aload_n 0, 1) := by decide +kernel
theorem dL_law_887 : decode cL_law 887 = .ok (.iload_n 3, 1) := by decide +kernel
theorem dL_law_888 : decode cL_law 888 = .ok (.iconst 2, 1) := by decide +kernel
theorem dL_law_889 : decode cL_law 889 = .ok (.iadd, 1) := by decide +kernel
theorem dL_law_890 : decode cL_law 890 = .ok (.iaload, 1) := by decide +kernel
theorem dL_law_891 : decode cL_law 891 = .ok (.aload_n 0, 1) := by decide +kernel
theorem dL_law_892 : decode cL_law 892 = .ok (.iload_n 3, 1) := by decide +kernel
theorem dL_law_893 : decode cL_law 893 = .ok (.iconst 3, 1) := by decide +kernel
theorem dL_law_894 : decode cL_law 894 = .ok (.iadd, 1) := by decide +kernel
theorem dL_law_895 : decode cL_law 895 = .ok (.iaload, 1) := by decide +kernel
theorem dL_law_896 : decode cL_law 896 = .ok (.invokevirtual 107, 3) := by decide +kernel
theorem dL_law_899 : decode cL_law 899 = .ok (.pop2, 1) := by decide +kernel
theorem dL_law_900 : decode cL_law 900 = .ok (.goto 373, 3) := by decide +kernel
theorem dL_law_903 : decode cL_law 903 = .ok (.aload_n 1, 1) := by decide +kernel
theorem dL_law_904 : decode cL_law 904 = .ok (.aload_n 0, 1) := by decide +kernel
theorem dL_law_905 : decode cL_law 905 = .ok (.iload_n 3, 1) := by decide +kernel
theorem dL_law_906 : decode cL_law 906 = .ok (.iconst 1, 1) := by decide +kernel
theorem dL_law_907 : decode cL_law 907 = .ok (.iadd, 1) := by decide +kernel
theorem dL_law_908 : decode cL_law 908 = .ok (.iaload, 1) := by decide +kernel
theorem dL_law_909 : decode cL_law 909 = .ok (.aload_n 0, 1) := by decide +kernel
theorem dL_law_910 : decode cL_law 910 = .ok (.iload_n 3, 1) := by decide +kernel
theorem dL_law_911 : decode cL_law 911 = .ok (.iconst 2, 1) := by decide +kernel
theorem dL_law_912 : decode cL_law 912 = .ok (.iadd, 1) := by decide +kernel
theorem dL_law_913 : decode cL_law 913 = .ok (.iaload, 1) := by decide +kernel
theorem dL_law_914 : decode cL_law 914 = .ok (.aload_n 0, 1) := by decide +kernel
theorem dL_law_915 : decode cL_law 915 = .ok (.iload_n 3, 1) := by decide +kernel
theorem dL_law_916 : decode cL_law 916 = .ok (.iconst 3, 1) := by decide +kernel
theorem dL_law_917 : decode cL_law 917 = .ok (.iadd, 1) := by decide +kernel
theorem dL_law_918 : decode cL_law 918 = .ok (.iaload, 1) := by decide +kernel
theorem dL_law_919 : decode cL_law 919 = .ok (.invokevirtual 108, 3) := by decide +kernel
theorem dL_law_922 : decode cL_law 922 = .ok (.pop, 1) := by decide +kernel
theorem dL_law_923 : decode cL_law 923 = .ok (.aload_n 2, 1) := by decide +kernel
theorem dL_law_924 : decode cL_law 924 = .ok (.aload_n 0, 1) := by decide +kernel
theorem dL_law_925 : decode cL_law 925 = .ok (.iload_n 3, 1) := by decide +kernel
theorem dL_law_926 : decode cL_law 926 = .ok (.iconst 1, 1) := by decide +kernel
theorem dL_law_927 : decode cL_law 927 = .ok (.iadd, 1) := by decide +kernel
theorem dL_law_928 : decode cL_law 928 = .ok (.iaload, 1) := by decide +kernel
theorem dL_law_929 : decode cL_law 929 = .ok (.aload_n 0, 1) := by decide +kernel
theorem dL_law_930 : decode cL_law 930 = .ok (.iload_n 3, 1) := by decide +kernel
theorem dL_law_931 : decode cL_law 931 = .ok (.iconst 2, 1) := by decide +kernel
theorem dL_law_932 : decode cL_law 932 = .ok (.iadd, 1) := by decide +kernel
theorem dL_law_933 : decode cL_law 933 = .ok (.iaload, 1) := by decide +kernel
theorem dL_law_934 : decode cL_law 934 = .ok (.aload_n 0, 1) := by decide +kernel
theorem dL_law_935 : decode cL_law 935 = .ok (.iload_n 3, 1) := by decide +kernel
theorem dL_law_936 : decode cL_law 936 = .ok (.iconst 3, 1) := by decide +kernel
theorem dL_law_937 : decode cL_law 937 = .ok (.iadd, 1) := by decide +kernel
theorem dL_law_938 : decode cL_law 938 = .ok (.iaload, 1) := by decide +kernel
theorem dL_law_939 : decode cL_law 939 = .ok (.invokevirtual 112, 3) := by decide +kernel
theorem dL_law_942 : decode cL_law 942 = .ok (.pop, 1) := by decide +kernel
theorem dL_law_943 : decode cL_law 943 = .ok (.goto 330, 3) := by decide +kernel
theorem dL_law_946 : decode cL_law 946 = .ok (.aload_n 1, 1) := by decide +kernel
theorem dL_law_947 : decode cL_law 947 = .ok (.aload_n 0, 1) := by decide +kernel
theorem dL_law_948 : decode cL_law 948 = .ok (.iload_n 3, 1) := by decide +kernel
theorem dL_law_949 : decode cL_law 949 = .ok (.iconst 1, 1) := by decide +kernel
theorem dL_law_950 : decode cL_law 950 = .ok (.iadd, 1) := by decide +kernel
theorem dL_law_951 : decode cL_law 951 = .ok (.iaload, 1) := by decide +kernel
theorem dL_law_952 : decode cL_law 952 = .ok (.aload_n 0, 1) := by decide +kernel
theorem dL_law_953 : decode cL_law 953 = .ok (.iload_n 3, 1) := by decide +kernel
theorem dL_law_954 : decode cL_law 954 = .ok (.iconst 2, 1) := by decide +kernel
theorem dL_law_955 : decode cL_law 955 = .ok (.iadd, 1) := by decide +kernel
theorem dL_law_956 : decode cL_law 956 = .ok (.iaload, 1) := by decide +kernel
theorem dL_law_957 : decode cL_law 957 = .ok (.invokevirtual 113, 3) := by decide +kernel
theorem dL_law_960 : decode cL_law 960 = .ok (.pop, 1) := by decide +kernel
theorem dL_law_961 : decode cL_law 961 = .ok (.aload_n 2, 1) := by decide +kernel
theorem dL_law_962 : decode cL_law 962 = .ok (.aload_n 0, 1) := by decide +kernel
theorem dL_law_963 : decode cL_law 963 = .ok (.iload_n 3, 1) := by decide +kernel
theorem dL_law_964 : decode cL_law 964 = .ok (.iconst 1, 1) := by decide +kernel
theorem dL_law_965 : decode cL_law 965 = .ok (.iadd, 1) := by decide +kernel
theorem dL_law_966 : decode cL_law 966 = .ok (.iaload, 1) := by decide +kernel
theorem dL_law_967 : decode cL_law 967 = .ok (.aload_n 0, 1) := by decide +kernel
theorem dL_law_968 : decode cL_law 968 = .ok (.iload_n 3, 1) := by decide +kernel
theorem dL_law_969 : decode cL_law 969 = .ok (.iconst 2, 1) := by decide +kernel
theorem dL_law_970 : decode cL_law 970 = .ok (.iadd, 1) := by decide +kernel
theorem dL_law_971 : decode cL_law 971 = .ok (.iaload, 1) := by decide +kernel
theorem dL_law_972 : decode cL_law 972 = .ok (.invokevirtual 116, 3) := by decide +kernel
theorem dL_law_975 : decode cL_law 975 = .ok (.pop, 1) := by decide +kernel
theorem dL_law_976 : decode cL_law 976 = .ok (.goto 297, 3) := by decide +kernel
theorem dL_law_979 : decode cL_law 979 = .ok (.aload_n 1, 1) := by decide +kernel
theorem dL_law_980 : decode cL_law 980 = .ok (.aload_n 0, 1) := by decide +kernel
theorem dL_law_981 : decode cL_law 981 = .ok (.iload_n 3, 1) := by decide +kernel
theorem dL_law_982 : decode cL_law 982 = .ok (.iconst 1, 1) := by decide +kernel
theorem dL_law_983 : decode cL_law 983 = .ok (.iadd, 1) := by decide +kernel
theorem dL_law_984 : decode cL_law 984 = .ok (.iaload, 1) := by decide +kernel
theorem dL_law_985 : decode cL_law 985 = .ok (.aload_n 0, 1) := by decide +kernel
theorem dL_law_986 : decode cL_law 986 = .ok (.iload_n 3, 1) := by decide +kernel
theorem dL_law_987 : decode cL_law 987 = .ok (.iconst 2, 1) := by decide +kernel
theorem dL_law_988 : decode cL_law 988 = .ok (.iadd, 1) := by decide +kernel
theorem dL_law_989 : decode cL_law 989 = .ok (.iaload, 1) := by decide +kernel
theorem dL_law_990 : decode cL_law 990 = .ok (.invokevirtual 117, 3) := by decide +kernel
theorem dL_law_993 : decode cL_law 993 = .ok (.pop, 1) := by decide +kernel
theorem dL_law_994 : decode cL_law 994 = .ok (.aload_n 2, 1) := by decide +kernel
theorem dL_law_995 : decode cL_law 995 = .ok (.aload_n 0, 1) := by decide +kernel
theorem dL_law_996 : decode cL_law 996 = .ok (.iload_n 3, 1) := by decide +kernel
theorem dL_law_997 : decode cL_law 997 = .ok (.iconst 1, 1) := by decide +kernel
theorem dL_law_998 : decode cL_law 998 = .ok (.iadd, 1) := by decide +kernel
theorem dL_law_999 : decode cL_law 999 = .ok (.iaload, 1) := by decide +kernel
theorem dL_law_1000 : decode cL_law 1000 = .ok (.aload_n 0, 1) := by decide +kernel
theorem dL_law_1001 : decode cL_law 1001 = .ok (.iload_n 3, 1) := by decide +kernel
theorem dL_law_1002 : decode cL_law 1002 = .ok (.iconst 2, 1) := by decide +kernel
theorem dL_law_1003 : decode cL_law 1003 = .ok (.iadd, 1) := by decide +kernel
theorem dL_law_1004 : decode cL_law 1004 = .ok (.iaload, 1) := by decide +kernel
theorem dL_law_1005 : decode cL_law 1005 = .ok (.invokevirtual 120, 3) := by decide +kernel
theorem dL_law_1008 : decode cL_law 1008 = .ok (.pop, 1) := by decide +kernel
theorem dL_law_1009 : decode cL_law 1009 = .ok (.goto 264, 3) := by decide +kernel
set_option maxHeartbeats 4000000 in
set_option maxRecDepth 100000 in
theorem law_16 {p : Program} {l : Launch} {e : Env} {s : State} {m : MethodId} {below : List Frame} {meth : Method} {c : Code} {b L : Nat} {xs : Nat → Int32} (C0 : lw_At p s m meth c b L xs) (hE : Ey s) {A : Nat → Prop} (hAe : A = fun q : Nat => s.heap.size ≤ q) {dC : Nat → ClassId} {dI : Nat → Nat → Nat} {adK adV : Nat → Nat} (hZ : Zs adK adV A s s.heap) (hR : Rs adK s) {κ : CE} {φ ψ σ : MS} {h : Nat} {ad : Nat → Nat} {cl : Nat → ClassId} {μ : MS} {H : Heap} {locs : List Loc} {cells slots : Nat} {i : Int32} {ls : Array Slot} (hi : 0 ≤ i.toInt ∧ i.toInt + 5 < (L : Int) ∧ L ≤ 3072) (hc : cells + 1011 ≤ 600000 ∧ slots + 43534 ≤ 7302250) (G : LG dC dI A s κ φ ψ σ h ad cl μ H locs) (hl : lv_has ls 4 [(3, .int i), (1, .ref (kA κ 0)), (2, .ref h), (0, .ref b)]) {Q : State → Prop}
    (kk : ∀ (κ' : CE) (φ' ψ' σ' μ' : MS) (H' : Heap) (locs' : List Loc) (c' t' : Nat), LG dC dI A s κ' φ' ψ' σ' h ad cl μ' H' locs' → kA κ' 0 = kA κ 0 → c' + 3 * bc κ ≤ cells + 1008 + 3 * bc κ' → t' + 32489 * bc κ ≤ slots + 11045 + 32489 * bc κ' → W p l e room_1 s m #[Value.ref b] below meth c H' locs' c' t' Q (F0 m 1273 ls [])) : W p l e room_1 s m #[Value.ref b] below meth c H locs cells slots Q (F0 m 778 ls []) := by
  obtain ⟨hx, hb, hr, hml, hown, hts, hX, hbl, hlocks, hgv⟩ := id C0
  have hA : ∀ q : Nat, s.heap.size ≤ q → A q := fun q h => by rw [hAe]; exact h
  have hbA : ¬ A b := by rw [hAe]; exact Nat.not_le.mpr hbl
  obtain ⟨hP, hD, hS, hKm, hKx, hk, hI, hF, hM, hRI⟩ := G
  have hKc : va_K (dC, dI) vwCl (cT κ) s := hKx.sub [0, 1, 2, 3, 4, 5, 6, 7, 8, 9, 10, 11, 12, 13, 14, 15, 16, 17, 18, 19, 20] rfl
  refine lv_aload_n hx hb dL_law_778 rfl (lv_at hl 1 rfl) ?_
  refine lv_aload_n hx hb dL_law_779 rfl (lv_at hl 3 rfl) ?_
  refine lv_iload_n hx hb dL_law_780 rfl (lv_at hl 0 rfl) ?_
  refine lv_iconst (v := 1) hx hb dL_law_781 (by decide) ?_
  refine lv_iadd hx hb dL_law_782 ?_
  refine lv_topi (fun z1_ ez1_ => ?_)
  have tz1_ : z1_.toInt = i.toInt + 1 := ti_add ez1_ rfl (by decide) (by omega) (by omega)
  refine va_sld hx hb hX hbl hbA hS (sx_in tz1_ hi.1 (by decide) (by omega)) dL_law_783 ?_
  refine lv_topi (fun y2_ ey2_ => ?_)
  have hP := lxP hP
  have hD := lxD hD
  refine zc_i (wr := (mW h ad cl μ)) (wc := cW (ky κ (xX κ φ ψ)) σ) (va_runV (As := [.int y2_]) (rest := []) ⟨hx, hb, hml, hown, hts⟩ (k_ticks l dC dI (ky κ (xX κ φ ψ)) H.size σ y2_ hk hI ) (cwV 1 hts gl_k_ticks rfl rfl rfl dd_k_ticks ⟨Nat.le_of_ble_eq_true rfl, Nat.le_of_ble_eq_true rfl⟩) (preVy (rP hP) hKc (rD hD) hE (ci := 11) (q0 := 0) rfl rfl) rfl rfl hl.1 rfl (lv_room (Nat.le_of_ble_eq_true rfl)) dL_law_784 ⟨(show cells + 0 ≤ 600000 by omega), (show slots + 0 ≤ 7302250 by omega)⟩) hP hD hS hA (fun r4_ τ5_ H locs hq _ hP hD hS => ?_)
  obtain ⟨hτ5_, qτ5_⟩ := hq
  have hP := xlP hP
  have hD := xlD hD
  refine W.widen (k := cells) (n := slots) (Nat.le_refl _) (Nat.le_refl _) ?_
  refine lv_pop hx hb dL_law_787 rfl ?_
  refine lv_aload_n hx hb dL_law_788 rfl (lv_at hl 2 rfl) ?_
  refine lv_aload_n hx hb dL_law_789 rfl (lv_at hl 3 rfl) ?_
  refine lv_iload_n hx hb dL_law_790 rfl (lv_at hl 0 rfl) ?_
  refine lv_iconst (v := 1) hx hb dL_law_791 (by decide) ?_
  refine lv_iadd hx hb dL_law_792 ?_
  refine lv_topi (fun z6_ ez6_ => ?_)
  have tz6_ : z6_.toInt = i.toInt + 1 := ti_add ez6_ rfl (by decide) (by omega) (by omega)
  refine va_sld hx hb hX hbl hbA hS (sx_in tz6_ hi.1 (by decide) (by omega)) dL_law_793 ?_
  refine lv_topi (fun y7_ ey7_ => ?_)
  have qy7_ : y7_ = y2_ := by rw [ey7_, ey2_, show z6_ = z1_ from Int32.toInt_inj.mp (by omega)]
  refine zp_i (wc := (mW h ad cl μ)) (wr := (xW κ (xX κ φ ψ) τ5_)) (va_runV (As := [.int y7_]) (rest := []) ⟨hx, hb, hml, hown, hts⟩ (n_ticks l dC dI h ad cl H.size μ y7_ hM hRI.1 hRI.2.2.1) (cwV 1 hts gl_n_ticks rfl rfl rfl dd_n_ticks ⟨Nat.le_of_ble_eq_true rfl, Nat.le_of_ble_eq_true rfl⟩) (preV (lP hP) hKm (lD hD) hE.x (ci := 12) (q0 := 0) rfl rfl) rfl rfl hl.1 rfl (lv_room (Nat.le_of_ble_eq_true rfl)) dL_law_794 ⟨(show cells + 0 ≤ 600000 by omega), (show slots + 0 ≤ 7302250 by omega)⟩) hP hD hS hA (fun r8_ μ9_ H locs hq hP hD hS => ?_)
  obtain ⟨hμ9_, xμ9_⟩ := hq
  have iμ9_ : RI μ9_ := RI_scr hM hRI xμ9_
  refine W.widen (k := cells) (n := slots) (Nat.le_refl _) (Nat.le_refl _) ?_
  refine lv_pop hx hb dL_law_797 rfl ?_
  refine lv_goto (tgt := 1273) hx hb dL_law_798 (by decide) ?_
  have hG9_ : LG dC dI A s κ φ ψ τ5_ h ad cl μ9_ H locs := ⟨hP, hD, hS, hKm, hKx, hk, hτ5_, hF, hμ9_, iμ9_⟩
  exact kk _ _ _ _ _ _ _ cells slots hG9_ rfl (by omega) (by omega)
set_option maxHeartbeats 4000000 in
set_option maxRecDepth 100000 in
theorem law_17 {p : Program} {l : Launch} {e : Env} {s : State} {m : MethodId} {below : List Frame} {meth : Method} {c : Code} {b L : Nat} {xs : Nat → Int32} (C0 : lw_At p s m meth c b L xs) (hE : Ey s) {A : Nat → Prop} (hAe : A = fun q : Nat => s.heap.size ≤ q) {dC : Nat → ClassId} {dI : Nat → Nat → Nat} {adK adV : Nat → Nat} (hZ : Zs adK adV A s s.heap) (hR : Rs adK s) {κ : CE} {φ ψ σ : MS} {h : Nat} {ad : Nat → Nat} {cl : Nat → ClassId} {μ : MS} {H : Heap} {locs : List Loc} {cells slots : Nat} {i : Int32} {ls : Array Slot} (hi : 0 ≤ i.toInt ∧ i.toInt + 5 < (L : Int) ∧ L ≤ 3072) (hc : cells + 1011 ≤ 600000 ∧ slots + 43534 ≤ 7302250) (G : LG dC dI A s κ φ ψ σ h ad cl μ H locs) (hl : lv_has ls 4 [(3, .int i), (1, .ref (kA κ 0)), (2, .ref h), (0, .ref b)]) {Q : State → Prop}
    (kk : ∀ (κ' : CE) (φ' ψ' σ' μ' : MS) (H' : Heap) (locs' : List Loc) (c' t' : Nat), LG dC dI A s κ' φ' ψ' σ' h ad cl μ' H' locs' → kA κ' 0 = kA κ 0 → c' + 3 * bc κ ≤ cells + 1008 + 3 * bc κ' → t' + 32489 * bc κ ≤ slots + 11045 + 32489 * bc κ' → W p l e room_1 s m #[Value.ref b] below meth c H' locs' c' t' Q (F0 m 1273 ls [])) : W p l e room_1 s m #[Value.ref b] below meth c H locs cells slots Q (F0 m 801 ls []) := by
  obtain ⟨hx, hb, hr, hml, hown, hts, hX, hbl, hlocks, hgv⟩ := id C0
  have hA : ∀ q : Nat, s.heap.size ≤ q → A q := fun q h => by rw [hAe]; exact h
  have hbA : ¬ A b := by rw [hAe]; exact Nat.not_le.mpr hbl
  obtain ⟨hP, hD, hS, hKm, hKx, hk, hI, hF, hM, hRI⟩ := G
  have hKc : va_K (dC, dI) vwCl (cT κ) s := hKx.sub [0, 1, 2, 3, 4, 5, 6, 7, 8, 9, 10, 11, 12, 13, 14, 15, 16, 17, 18, 19, 20] rfl
  refine lv_aload_n hx hb dL_law_801 rfl (lv_at hl 1 rfl) ?_
  refine lv_aload_n hx hb dL_law_802 rfl (lv_at hl 3 rfl) ?_
  refine lv_iload_n hx hb dL_law_803 rfl (lv_at hl 0 rfl) ?_
  refine lv_iconst (v := 1) hx hb dL_law_804 (by decide) ?_
  refine lv_iadd hx hb dL_law_805 ?_
  refine lv_topi (fun z1_ ez1_ => ?_)
  have tz1_ : z1_.toInt = i.toInt + 1 := ti_add ez1_ rfl (by decide) (by omega) (by omega)
  refine va_sld hx hb hX hbl hbA hS (sx_in tz1_ hi.1 (by decide) (by omega)) dL_law_806 ?_
  refine lv_topi (fun y2_ ey2_ => ?_)
  have hP := lxP hP
  have hD := lxD hD
  refine zc_i (wr := (mW h ad cl μ)) (wc := cW (ky κ (xX κ φ ψ)) σ) (va_runV (As := [.int y2_]) (rest := []) ⟨hx, hb, hml, hown, hts⟩ (k_let l dC dI (ky κ (xX κ φ ψ)) H.size σ y2_ hk hI ) (cwV 1 hts gl_k_let rfl rfl rfl dd_k_let ⟨Nat.le_of_ble_eq_true rfl, Nat.le_of_ble_eq_true rfl⟩) (preVy (rP hP) hKc (rD hD) hE (ci := 11) (q0 := 0) rfl rfl) rfl rfl hl.1 rfl (lv_room (Nat.le_of_ble_eq_true rfl)) dL_law_807 ⟨(show cells + 0 ≤ 600000 by omega), (show slots + 0 ≤ 7302250 by omega)⟩) hP hD hS hA (fun r4_ τ5_ H locs hq _ hP hD hS => ?_)
  obtain ⟨hτ5_, qτ5_⟩ := hq
  have hP := xlP hP
  have hD := xlD hD
  refine W.widen (k := cells) (n := slots) (Nat.le_refl _) (Nat.le_refl _) ?_
  refine lv_pop hx hb dL_law_810 rfl ?_
  refine lv_aload_n hx hb dL_law_811 rfl (lv_at hl 2 rfl) ?_
  refine lv_aload_n hx hb dL_law_812 rfl (lv_at hl 3 rfl) ?_
  refine lv_iload_n hx hb dL_law_813 rfl (lv_at hl 0 rfl) ?_
  refine lv_iconst (v := 1) hx hb dL_law_814 (by decide) ?_
  refine lv_iadd hx hb dL_law_815 ?_
  refine lv_topi (fun z6_ ez6_ => ?_)
  have tz6_ : z6_.toInt = i.toInt + 1 := ti_add ez6_ rfl (by decide) (by omega) (by omega)
  refine va_sld hx hb hX hbl hbA hS (sx_in tz6_ hi.1 (by decide) (by omega)) dL_law_816 ?_
  refine lv_topi (fun y7_ ey7_ => ?_)
  have qy7_ : y7_ = y2_ := by rw [ey7_, ey2_, show z6_ = z1_ from Int32.toInt_inj.mp (by omega)]
  refine zp_i (wc := (mW h ad cl μ)) (wr := (xW κ (xX κ φ ψ) τ5_)) (va_runV (As := [.int y7_]) (rest := []) ⟨hx, hb, hml, hown, hts⟩ (n_let l dC dI h ad cl H.size μ y7_ hM hRI.1 hRI.2.2.1) (cwV 1 hts gl_n_let rfl rfl rfl dd_n_let ⟨Nat.le_of_ble_eq_true rfl, Nat.le_of_ble_eq_true rfl⟩) (preV (lP hP) hKm (lD hD) hE.x (ci := 12) (q0 := 0) rfl rfl) rfl rfl hl.1 rfl (lv_room (Nat.le_of_ble_eq_true rfl)) dL_law_817 ⟨(show cells + 0 ≤ 600000 by omega), (show slots + 0 ≤ 7302250 by omega)⟩) hP hD hS hA (fun r8_ μ9_ H locs hq hP hD hS => ?_)
  obtain ⟨hμ9_, xμ9_⟩ := hq
  have iμ9_ : RI μ9_ := RI_scr hM hRI xμ9_
  refine W.widen (k := cells) (n := slots) (Nat.le_refl _) (Nat.le_refl _) ?_
  refine lv_pop hx hb dL_law_820 rfl ?_
  refine lv_goto (tgt := 1273) hx hb dL_law_821 (by decide) ?_
  have hG9_ : LG dC dI A s κ φ ψ τ5_ h ad cl μ9_ H locs := ⟨hP, hD, hS, hKm, hKx, hk, hτ5_, hF, hμ9_, iμ9_⟩
  exact kk _ _ _ _ _ _ _ cells slots hG9_ rfl (by omega) (by omega)
set_option maxHeartbeats 4000000 in
set_option maxRecDepth 100000 in
theorem law_18 {p : Program} {l : Launch} {e : Env} {s : State} {m : MethodId} {below : List Frame} {meth : Method} {c : Code} {b L : Nat} {xs : Nat → Int32} (C0 : lw_At p s m meth c b L xs) (hE : Ey s) {A : Nat → Prop} (hAe : A = fun q : Nat => s.heap.size ≤ q) {dC : Nat → ClassId} {dI : Nat → Nat → Nat} {adK adV : Nat → Nat} (hZ : Zs adK adV A s s.heap) (hR : Rs adK s) {κ : CE} {φ ψ σ : MS} {h : Nat} {ad : Nat → Nat} {cl : Nat → ClassId} {μ : MS} {H : Heap} {locs : List Loc} {cells slots : Nat} {i : Int32} {ls : Array Slot} (hi : 0 ≤ i.toInt ∧ i.toInt + 5 < (L : Int) ∧ L ≤ 3072) (hc : cells + 1011 ≤ 600000 ∧ slots + 43534 ≤ 7302250) (G : LG dC dI A s κ φ ψ σ h ad cl μ H locs) (hl : lv_has ls 4 [(3, .int i), (1, .ref (kA κ 0)), (2, .ref h), (0, .ref b)]) {Q : State → Prop}
    (kk : ∀ (κ' : CE) (φ' ψ' σ' μ' : MS) (H' : Heap) (locs' : List Loc) (c' t' : Nat), LG dC dI A s κ' φ' ψ' σ' h ad cl μ' H' locs' → kA κ' 0 = kA κ 0 → c' + 3 * bc κ ≤ cells + 1008 + 3 * bc κ' → t' + 32489 * bc κ ≤ slots + 11045 + 32489 * bc κ' → W p l e room_1 s m #[Value.ref b] below meth c H' locs' c' t' Q (F0 m 1273 ls [])) : W p l e room_1 s m #[Value.ref b] below meth c H locs cells slots Q (F0 m 824 ls []) := by
  obtain ⟨hx, hb, hr, hml, hown, hts, hX, hbl, hlocks, hgv⟩ := id C0
  have hA : ∀ q : Nat, s.heap.size ≤ q → A q := fun q h => by rw [hAe]; exact h
  have hbA : ¬ A b := by rw [hAe]; exact Nat.not_le.mpr hbl
  obtain ⟨hP, hD, hS, hKm, hKx, hk, hI, hF, hM, hRI⟩ := G
  have hKc : va_K (dC, dI) vwCl (cT κ) s := hKx.sub [0, 1, 2, 3, 4, 5, 6, 7, 8, 9, 10, 11, 12, 13, 14, 15, 16, 17, 18, 19, 20] rfl
  refine lv_aload_n hx hb dL_law_824 rfl (lv_at hl 1 rfl) ?_
  have hP := lxP hP
  have hD := lxD hD
  refine zc_i (wr := (mW h ad cl μ)) (wc := cW (ky κ (xX κ φ ψ)) σ) (va_runV (As := []) (rest := []) ⟨hx, hb, hml, hown, hts⟩ (k_best l dC dI (ky κ (xX κ φ ψ)) H.size σ  hk hI ) (cwV 0 hts gl_k_best rfl rfl rfl dd_k_best ⟨Nat.le_of_ble_eq_true rfl, Nat.le_of_ble_eq_true rfl⟩) (preVy (rP hP) hKc (rD hD) hE (ci := 11) (q0 := 0) rfl rfl) rfl rfl hl.1 rfl (lv_room (Nat.le_of_ble_eq_true rfl)) dL_law_825 ⟨(show cells + 0 ≤ 600000 by omega), (show slots + 0 ≤ 7302250 by omega)⟩) hP hD hS hA (fun r2_ τ3_ H locs hq _ hP hD hS => ?_)
  obtain ⟨hτ3_, qτ3_⟩ := hq
  have hP := xlP hP
  have hD := xlD hD
  refine W.widen (k := cells) (n := slots) (Nat.le_refl _) (Nat.le_refl _) ?_
  refine lv_pop hx hb dL_law_828 rfl ?_
  refine lv_aload_n hx hb dL_law_829 rfl (lv_at hl 2 rfl) ?_
  refine zp_i (wc := (mW h ad cl μ)) (wr := (xW κ (xX κ φ ψ) τ3_)) (va_runV (As := []) (rest := []) ⟨hx, hb, hml, hown, hts⟩ (n_best l dC dI h ad cl H.size μ  hM hRI.1 hRI.2.2.1) (cwV 0 hts gl_n_best rfl rfl rfl dd_n_best ⟨Nat.le_of_ble_eq_true rfl, Nat.le_of_ble_eq_true rfl⟩) (preV (lP hP) hKm (lD hD) hE.x (ci := 12) (q0 := 0) rfl rfl) rfl rfl hl.1 rfl (lv_room (Nat.le_of_ble_eq_true rfl)) dL_law_830 ⟨(show cells + 0 ≤ 600000 by omega), (show slots + 0 ≤ 7302250 by omega)⟩) hP hD hS hA (fun r4_ μ5_ H locs hq hP hD hS => ?_)
  obtain ⟨hμ5_, xμ5_⟩ := hq
  have iμ5_ : RI μ5_ := RI_scr hM hRI xμ5_
  refine W.widen (k := cells) (n := slots) (Nat.le_refl _) (Nat.le_refl _) ?_
  refine lv_pop hx hb dL_law_833 rfl ?_
  refine lv_goto (tgt := 1273) hx hb dL_law_834 (by decide) ?_
  have hG9_ : LG dC dI A s κ φ ψ τ3_ h ad cl μ5_ H locs := ⟨hP, hD, hS, hKm, hKx, hk, hτ3_, hF, hμ5_, iμ5_⟩
  exact kk _ _ _ _ _ _ _ cells slots hG9_ rfl (by omega) (by omega)
set_option maxHeartbeats 4000000 in
set_option maxRecDepth 100000 in
theorem law_19 {p : Program} {l : Launch} {e : Env} {s : State} {m : MethodId} {below : List Frame} {meth : Method} {c : Code} {b L : Nat} {xs : Nat → Int32} (C0 : lw_At p s m meth c b L xs) (hE : Ey s) {A : Nat → Prop} (hAe : A = fun q : Nat => s.heap.size ≤ q) {dC : Nat → ClassId} {dI : Nat → Nat → Nat} {adK adV : Nat → Nat} (hZ : Zs adK adV A s s.heap) (hR : Rs adK s) {κ : CE} {φ ψ σ : MS} {h : Nat} {ad : Nat → Nat} {cl : Nat → ClassId} {μ : MS} {H : Heap} {locs : List Loc} {cells slots : Nat} {i : Int32} {ls : Array Slot} (hi : 0 ≤ i.toInt ∧ i.toInt + 5 < (L : Int) ∧ L ≤ 3072) (hc : cells + 1011 ≤ 600000 ∧ slots + 43534 ≤ 7302250) (G : LG dC dI A s κ φ ψ σ h ad cl μ H locs) (hl : lv_has ls 4 [(3, .int i), (1, .ref (kA κ 0)), (2, .ref h), (0, .ref b)]) {Q : State → Prop}
    (kk : ∀ (κ' : CE) (φ' ψ' σ' μ' : MS) (H' : Heap) (locs' : List Loc) (c' t' : Nat), LG dC dI A s κ' φ' ψ' σ' h ad cl μ' H' locs' → kA κ' 0 = kA κ 0 → c' + 3 * bc κ ≤ cells + 1008 + 3 * bc κ' → t' + 32489 * bc κ ≤ slots + 11045 + 32489 * bc κ' → W p l e room_1 s m #[Value.ref b] below meth c H' locs' c' t' Q (F0 m 1273 ls [])) : W p l e room_1 s m #[Value.ref b] below meth c H locs cells slots Q (F0 m 837 ls []) := by
  obtain ⟨hx, hb, hr, hml, hown, hts, hX, hbl, hlocks, hgv⟩ := id C0
  have hA : ∀ q : Nat, s.heap.size ≤ q → A q := fun q h => by rw [hAe]; exact h
  have hbA : ¬ A b := by rw [hAe]; exact Nat.not_le.mpr hbl
  obtain ⟨hP, hD, hS, hKm, hKx, hk, hI, hF, hM, hRI⟩ := G
  have hKc : va_K (dC, dI) vwCl (cT κ) s := hKx.sub [0, 1, 2, 3, 4, 5, 6, 7, 8, 9, 10, 11, 12, 13, 14, 15, 16, 17, 18, 19, 20] rfl
  refine lv_aload_n hx hb dL_law_837 rfl (lv_at hl 1 rfl) ?_
  refine lv_aload_n hx hb dL_law_838 rfl (lv_at hl 3 rfl) ?_
  refine lv_iload_n hx hb dL_law_839 rfl (lv_at hl 0 rfl) ?_
  refine lv_iconst (v := 1) hx hb dL_law_840 (by decide) ?_
  refine lv_iadd hx hb dL_law_841 ?_
  refine lv_topi (fun z1_ ez1_ => ?_)
  have tz1_ : z1_.toInt = i.toInt + 1 := ti_add ez1_ rfl (by decide) (by omega) (by omega)
  refine va_sld hx hb hX hbl hbA hS (sx_in tz1_ hi.1 (by decide) (by omega)) dL_law_842 ?_
  refine lv_topi (fun y2_ ey2_ => ?_)
  rcases he3_ : kE κ with _ | a0_
  · refine zc_i (wr := (mW h ad cl μ)) (wc := (xW κ (xX κ φ ψ) σ)) (va_runV (As := [.int y2_]) (rest := []) ⟨hx, hb, hml, hown, hts⟩ (t_front l dC dI κ H.size φ ψ σ y2_ hk hI hF he3_) (cwV 1 hts gl_t_front rfl rfl rfl dd_t_front ⟨Nat.le_of_ble_eq_true rfl, Nat.le_of_ble_eq_true rfl⟩) (preVy (rP hP) hKx (rD hD) hE (ci := 11) (q0 := 0) rfl rfl) rfl rfl hl.1 rfl (lv_room (Nat.le_of_ble_eq_true rfl)) dL_law_843 ⟨(show cells + 3 ≤ 600000 by omega), (show slots + 8199 ≤ 7302250 by omega)⟩) hP hD hS hA (fun r4_ u5_ H locs hq hKn_ hP hD hS => ?_)
    obtain ⟨κ6_, φ7_, ψ8_, τ9_⟩ := u5_
    obtain ⟨hkκ6_, hτ9_, hφ7_, haκ6_, qτ9_⟩ := hq
    have hKx : va_K (dC, dI) vwCl (tT κ6_) s := hKn_
    have bc_ : bc κ6_ = bc κ := bc_e qτ9_
    have hP : va_P (dC, dI) vwCl ((mW h ad cl μ) ++ (xW κ6_ (xX κ6_ φ7_ ψ8_) τ9_)) H := hP
    have hD : va_D A ((mW h ad cl μ) ++ (xW κ6_ (xX κ6_ φ7_ ψ8_) τ9_)) := hD
    refine W.widen (k := (cells + 3)) (n := (slots + 8199)) (Nat.le_refl _) (Nat.le_refl _) ?_
    refine lv_pop hx hb dL_law_846 rfl ?_
    refine lv_aload_n hx hb dL_law_847 rfl (lv_at hl 2 rfl) ?_
    refine lv_aload_n hx hb dL_law_848 rfl (lv_at hl 3 rfl) ?_
    refine lv_iload_n hx hb dL_law_849 rfl (lv_at hl 0 rfl) ?_
    refine lv_iconst (v := 1) hx hb dL_law_850 (by decide) ?_
    refine lv_iadd hx hb dL_law_851 ?_
    refine lv_topi (fun z10_ ez10_ => ?_)
    have tz10_ : z10_.toInt = i.toInt + 1 := ti_add ez10_ rfl (by decide) (by omega) (by omega)
    refine va_sld hx hb hX hbl hbA hS (sx_in tz10_ hi.1 (by decide) (by omega)) dL_law_852 ?_
    refine lv_topi (fun y11_ ey11_ => ?_)
    have qy11_ : y11_ = y2_ := by rw [ey11_, ey2_, show z10_ = z1_ from Int32.toInt_inj.mp (by omega)]
    refine zp_i (wc := (mW h ad cl μ)) (wr := (xW κ6_ (xX κ6_ φ7_ ψ8_) τ9_)) (va_runV (As := [.int y11_]) (rest := []) ⟨hx, hb, hml, hown, hts⟩ (n_front l dC dI h ad cl H.size μ y11_ hM hRI.1 hRI.2.2.1) (cwV 1 hts gl_n_front rfl rfl rfl dd_n_front ⟨Nat.le_of_ble_eq_true rfl, Nat.le_of_ble_eq_true rfl⟩) (preV (lP hP) hKm (lD hD) hE.x (ci := 12) (q0 := 0) rfl rfl) rfl rfl hl.1 rfl (lv_room (Nat.le_of_ble_eq_true rfl)) dL_law_853 ⟨(show (cells + 3) + 0 ≤ 600000 by omega), (show (slots + 8199) + 0 ≤ 7302250 by omega)⟩) hP hD hS hA (fun r12_ μ13_ H locs hq hP hD hS => ?_)
    obtain ⟨hμ13_, xμ13_⟩ := hq
    have iμ13_ : RI μ13_ := RI_scr hM hRI xμ13_
    refine W.widen (k := (cells + 3)) (n := (slots + 8199)) (Nat.le_refl _) (Nat.le_refl _) ?_
    refine lv_pop hx hb dL_law_856 rfl ?_
    refine lv_goto (tgt := 1273) hx hb dL_law_857 (by decide) ?_
    have hG9_ : LG dC dI A s κ6_ φ7_ ψ8_ τ9_ h ad cl μ13_ H locs := ⟨hP, hD, hS, hKm, hKx, hkκ6_, hτ9_, hφ7_, hμ13_, iμ13_⟩
    exact kk _ _ _ _ _ _ _ (cells + 3) (slots + 8199) hG9_ haκ6_ (by omega) (by omega)
  · refine zc_i (wr := (mW h ad cl μ)) (wc := (xW κ (xX κ φ ψ) σ)) (va_runV (As := [.int y2_]) (rest := []) ⟨hx, hb, hml, hown, hts⟩ (v_front l dC dI κ H.size φ ψ σ y2_ hk hI hF a0_ he3_) (cwV 1 hts gl_v_front rfl rfl rfl dd_v_front ⟨Nat.le_of_ble_eq_true rfl, Nat.le_of_ble_eq_true rfl⟩) (preVy (rP hP) hKx (rD hD) hE (ci := 11) (q0 := 0) rfl rfl) rfl rfl hl.1 rfl (lv_room (Nat.le_of_ble_eq_true rfl)) dL_law_843 ⟨(show cells + 0 ≤ 600000 by omega), (show slots + 0 ≤ 7302250 by omega)⟩) hP hD hS hA (fun r15_ u16_ H locs hq hKn_ hP hD hS => ?_)
    obtain ⟨φ18_, ψ19_, τ20_⟩ := u16_
    obtain ⟨hτ20_, hφ18_, qτ20_⟩ := hq
    have hP : va_P (dC, dI) vwCl ((mW h ad cl μ) ++ (xW κ (xX κ φ18_ ψ19_) τ20_)) H := hP
    have hD : va_D A ((mW h ad cl μ) ++ (xW κ (xX κ φ18_ ψ19_) τ20_)) := hD
    refine W.widen (k := cells) (n := slots) (Nat.le_refl _) (Nat.le_refl _) ?_
    refine lv_pop hx hb dL_law_846 rfl ?_
    refine lv_aload_n hx hb dL_law_847 rfl (lv_at hl 2 rfl) ?_
    refine lv_aload_n hx hb dL_law_848 rfl (lv_at hl 3 rfl) ?_
    refine lv_iload_n hx hb dL_law_849 rfl (lv_at hl 0 rfl) ?_
    refine lv_iconst (v := 1) hx hb dL_law_850 (by decide) ?_
    refine lv_iadd hx hb dL_law_851 ?_
    refine lv_topi (fun z21_ ez21_ => ?_)
    have tz21_ : z21_.toInt = i.toInt + 1 := ti_add ez21_ rfl (by decide) (by omega) (by omega)
    refine va_sld hx hb hX hbl hbA hS (sx_in tz21_ hi.1 (by decide) (by omega)) dL_law_852 ?_
    refine lv_topi (fun y22_ ey22_ => ?_)
    have qy22_ : y22_ = y2_ := by rw [ey22_, ey2_, show z21_ = z1_ from Int32.toInt_inj.mp (by omega)]
    refine zp_i (wc := (mW h ad cl μ)) (wr := (xW κ (xX κ φ18_ ψ19_) τ20_)) (va_runV (As := [.int y22_]) (rest := []) ⟨hx, hb, hml, hown, hts⟩ (n_front l dC dI h ad cl H.size μ y22_ hM hRI.1 hRI.2.2.1) (cwV 1 hts gl_n_front rfl rfl rfl dd_n_front ⟨Nat.le_of_ble_eq_true rfl, Nat.le_of_ble_eq_true rfl⟩) (preV (lP hP) hKm (lD hD) hE.x (ci := 12) (q0 := 0) rfl rfl) rfl rfl hl.1 rfl (lv_room (Nat.le_of_ble_eq_true rfl)) dL_law_853 ⟨(show cells + 0 ≤ 600000 by omega), (show slots + 0 ≤ 7302250 by omega)⟩) hP hD hS hA (fun r23_ μ24_ H locs hq hP hD hS => ?_)
    obtain ⟨hμ24_, xμ24_⟩ := hq
    have iμ24_ : RI μ24_ := RI_scr hM hRI xμ24_
    refine W.widen (k := cells) (n := slots) (Nat.le_refl _) (Nat.le_refl _) ?_
    refine lv_pop hx hb dL_law_856 rfl ?_
    refine lv_goto (tgt := 1273) hx hb dL_law_857 (by decide) ?_
    have hG9_ : LG dC dI A s κ φ18_ ψ19_ τ20_ h ad cl μ24_ H locs := ⟨hP, hD, hS, hKm, hKx, hk, hτ20_, hφ18_, hμ24_, iμ24_⟩
    exact kk _ _ _ _ _ _ _ cells slots hG9_ rfl (by omega) (by omega)
set_option maxHeartbeats 4000000 in
set_option maxRecDepth 100000 in
theorem law_20 {p : Program} {l : Launch} {e : Env} {s : State} {m : MethodId} {below : List Frame} {meth : Method} {c : Code} {b L : Nat} {xs : Nat → Int32} (C0 : lw_At p s m meth c b L xs) (hE : Ey s) {A : Nat → Prop} (hAe : A = fun q : Nat => s.heap.size ≤ q) {dC : Nat → ClassId} {dI : Nat → Nat → Nat} {adK adV : Nat → Nat} (hZ : Zs adK adV A s s.heap) (hR : Rs adK s) {κ : CE} {φ ψ σ : MS} {h : Nat} {ad : Nat → Nat} {cl : Nat → ClassId} {μ : MS} {H : Heap} {locs : List Loc} {cells slots : Nat} {i : Int32} {ls : Array Slot} (hi : 0 ≤ i.toInt ∧ i.toInt + 5 < (L : Int) ∧ L ≤ 3072) (hc : cells + 1011 ≤ 600000 ∧ slots + 43534 ≤ 7302250) (G : LG dC dI A s κ φ ψ σ h ad cl μ H locs) (hl : lv_has ls 4 [(3, .int i), (1, .ref (kA κ 0)), (2, .ref h), (0, .ref b)]) {Q : State → Prop}
    (kk : ∀ (κ' : CE) (φ' ψ' σ' μ' : MS) (H' : Heap) (locs' : List Loc) (c' t' : Nat), LG dC dI A s κ' φ' ψ' σ' h ad cl μ' H' locs' → kA κ' 0 = kA κ 0 → c' + 3 * bc κ ≤ cells + 1008 + 3 * bc κ' → t' + 32489 * bc κ ≤ slots + 11045 + 32489 * bc κ' → W p l e room_1 s m #[Value.ref b] below meth c H' locs' c' t' Q (F0 m 1273 ls [])) : W p l e room_1 s m #[Value.ref b] below meth c H locs cells slots Q (F0 m 860 ls []) := by
  obtain ⟨hx, hb, hr, hml, hown, hts, hX, hbl, hlocks, hgv⟩ := id C0
  have hA : ∀ q : Nat, s.heap.size ≤ q → A q := fun q h => by rw [hAe]; exact h
  have hbA : ¬ A b := by rw [hAe]; exact Nat.not_le.mpr hbl
  obtain ⟨hP, hD, hS, hKm, hKx, hk, hI, hF, hM, hRI⟩ := G
  have hKc : va_K (dC, dI) vwCl (cT κ) s := hKx.sub [0, 1, 2, 3, 4, 5, 6, 7, 8, 9, 10, 11, 12, 13, 14, 15, 16, 17, 18, 19, 20] rfl
  refine lv_aload_n hx hb dL_law_860 rfl (lv_at hl 1 rfl) ?_
  refine lv_aload_n hx hb dL_law_861 rfl (lv_at hl 3 rfl) ?_
  refine lv_iload_n hx hb dL_law_862 rfl (lv_at hl 0 rfl) ?_
  refine lv_iconst (v := 1) hx hb dL_law_863 (by decide) ?_
  refine lv_iadd hx hb dL_law_864 ?_
  refine lv_topi (fun z1_ ez1_ => ?_)
  have tz1_ : z1_.toInt = i.toInt + 1 := ti_add ez1_ rfl (by decide) (by omega) (by omega)
  refine va_sld hx hb hX hbl hbA hS (sx_in tz1_ hi.1 (by decide) (by omega)) dL_law_865 ?_
  refine lv_topi (fun y2_ ey2_ => ?_)
  refine lv_aload_n hx hb dL_law_866 rfl (lv_at hl 3 rfl) ?_
  refine lv_iload_n hx hb dL_law_867 rfl (lv_at hl 0 rfl) ?_
  refine lv_iconst (v := 2) hx hb dL_law_868 (by decide) ?_
  refine lv_iadd hx hb dL_law_869 ?_
  refine lv_topi (fun z3_ ez3_ => ?_)
  have tz3_ : z3_.toInt = i.toInt + 2 := ti_add ez3_ rfl (by decide) (by omega) (by omega)
  refine va_sld hx hb hX hbl hbA hS (sx_in tz3_ hi.1 (by decide) (by omega)) dL_law_870 ?_
  refine lv_topi (fun y4_ ey4_ => ?_)
  refine lv_aload_n hx hb dL_law_871 rfl (lv_at hl 3 rfl) ?_
  refine lv_iload_n hx hb dL_law_872 rfl (lv_at hl 0 rfl) ?_
  refine lv_iconst (v := 3) hx hb dL_law_873 (by decide) ?_
  refine lv_iadd hx hb dL_law_874 ?_
  refine lv_topi (fun z5_ ez5_ => ?_)
  have tz5_ : z5_.toInt = i.toInt + 3 := ti_add ez5_ rfl (by decide) (by omega) (by omega)
  refine va_sld hx hb hX hbl hbA hS (sx_in tz5_ hi.1 (by decide) (by omega)) dL_law_875 ?_
  refine lv_topi (fun y6_ ey6_ => ?_)
  rcases he7_ : kE κ with _ | a0_
  · refine zc_l (wr := (mW h ad cl μ)) (wc := (xW κ (xX κ φ ψ) σ)) (va_runV (As := [.int y2_, .int y4_, .int y6_]) (rest := []) ⟨hx, hb, hml, hown, hts⟩ (t_pair l dC dI κ H.size φ ψ σ y2_ y4_ y6_ hk hI hF he7_) (cwV 3 hts gl_t_pair rfl rfl rfl dd_t_pair ⟨Nat.le_of_ble_eq_true rfl, Nat.le_of_ble_eq_true rfl⟩) (preVy (rP hP) hKx (rD hD) hE (ci := 11) (q0 := 0) rfl rfl) rfl rfl hl.1 rfl (lv_room (Nat.le_of_ble_eq_true rfl)) dL_law_876 ⟨(show cells + 3 ≤ 600000 by omega), (show slots + 8199 ≤ 7302250 by omega)⟩) hP hD hS hA (fun j8_ u9_ H locs hq hKn_ hP hD hS => ?_)
    obtain ⟨κ10_, φ11_, ψ12_, τ13_⟩ := u9_
    obtain ⟨hkκ10_, hτ13_, hφ11_, haκ10_, qτ13_⟩ := hq
    have hKx : va_K (dC, dI) vwCl (tT κ10_) s := hKn_
    have bc_ : bc κ10_ = bc κ := bc_e qτ13_
    have hP : va_P (dC, dI) vwCl ((mW h ad cl μ) ++ (xW κ10_ (xX κ10_ φ11_ ψ12_) τ13_)) H := hP
    have hD : va_D A ((mW h ad cl μ) ++ (xW κ10_ (xX κ10_ φ11_ ψ12_) τ13_)) := hD
    refine W.widen (k := (cells + 3)) (n := (slots + 8199)) (Nat.le_refl _) (Nat.le_refl _) ?_
    refine lv_pop2_2 hx hb dL_law_879 rfl ?_
    refine lv_aload_n hx hb dL_law_880 rfl (lv_at hl 2 rfl) ?_
    refine lv_aload_n hx hb dL_law_881 rfl (lv_at hl 3 rfl) ?_
    refine lv_iload_n hx hb dL_law_882 rfl (lv_at hl 0 rfl) ?_
    refine lv_iconst (v := 1) hx hb dL_law_883 (by decide) ?_
    refine lv_iadd hx hb dL_law_884 ?_
    refine lv_topi (fun z14_ ez14_ => ?_)
    have tz14_ : z14_.toInt = i.toInt + 1 := ti_add ez14_ rfl (by decide) (by omega) (by omega)
    refine va_sld hx hb hX hbl hbA hS (sx_in tz14_ hi.1 (by decide) (by omega)) dL_law_885 ?_
    refine lv_topi (fun y15_ ey15_ => ?_)
    have qy15_ : y15_ = y2_ := by rw [ey15_, ey2_, show z14_ = z1_ from Int32.toInt_inj.mp (by omega)]
    refine lv_aload_n hx hb dL_law_886 rfl (lv_at hl 3 rfl) ?_
    refine lv_iload_n hx hb dL_law_887 rfl (lv_at hl 0 rfl) ?_
    refine lv_iconst (v := 2) hx hb dL_law_888 (by decide) ?_
    refine lv_iadd hx hb dL_law_889 ?_
    refine lv_topi (fun z16_ ez16_ => ?_)
    have tz16_ : z16_.toInt = i.toInt + 2 := ti_add ez16_ rfl (by decide) (by omega) (by omega)
    refine va_sld hx hb hX hbl hbA hS (sx_in tz16_ hi.1 (by decide) (by omega)) dL_law_890 ?_
    refine lv_topi (fun y17_ ey17_ => ?_)
    have qy17_ : y17_ = y4_ := by rw [ey17_, ey4_, show z16_ = z3_ from Int32.toInt_inj.mp (by omega)]
    refine lv_aload_n hx hb dL_law_891 rfl (lv_at hl 3 rfl) ?_
    refine lv_iload_n hx hb dL_law_892 rfl (lv_at hl 0 rfl) ?_
    refine lv_iconst (v := 3) hx hb dL_law_893 (by decide) ?_
    refine lv_iadd hx hb dL_law_894 ?_
    refine lv_topi (fun z18_ ez18_ => ?_)
    have tz18_ : z18_.toInt = i.toInt + 3 := ti_add ez18_ rfl (by decide) (by omega) (by omega)
    refine va_sld hx hb hX hbl hbA hS (sx_in tz18_ hi.1 (by decide) (by omega)) dL_law_895 ?_
    refine lv_topi (fun y19_ ey19_ => ?_)
    have qy19_ : y19_ = y6_ := by rw [ey19_, ey6_, show z18_ = z5_ from Int32.toInt_inj.mp (by omega)]
    refine zp_l (wc := (mW h ad cl μ)) (wr := (xW κ10_ (xX κ10_ φ11_ ψ12_) τ13_)) (va_runV (As := [.int y15_, .int y17_, .int y19_]) (rest := []) ⟨hx, hb, hml, hown, hts⟩ (n_pair l dC dI h ad cl H.size μ y15_ y17_ y19_ hM hRI.1 hRI.2.2.1) (cwV 3 hts gl_n_pair rfl rfl rfl dd_n_pair ⟨Nat.le_of_ble_eq_true rfl, Nat.le_of_ble_eq_true rfl⟩) (preV (lP hP) hKm (lD hD) hE.x (ci := 12) (q0 := 0) rfl rfl) rfl rfl hl.1 rfl (lv_room (Nat.le_of_ble_eq_true rfl)) dL_law_896 ⟨(show (cells + 3) + 0 ≤ 600000 by omega), (show (slots + 8199) + 0 ≤ 7302250 by omega)⟩) hP hD hS hA (fun j20_ μ21_ H locs hq hP hD hS => ?_)
    obtain ⟨hμ21_, xμ21_⟩ := hq
    have iμ21_ : RI μ21_ := RI_scr hM hRI xμ21_
    refine W.widen (k := (cells + 3)) (n := (slots + 8199)) (Nat.le_refl _) (Nat.le_refl _) ?_
    refine lv_pop2_2 hx hb dL_law_899 rfl ?_
    refine lv_goto (tgt := 1273) hx hb dL_law_900 (by decide) ?_
    have hG9_ : LG dC dI A s κ10_ φ11_ ψ12_ τ13_ h ad cl μ21_ H locs := ⟨hP, hD, hS, hKm, hKx, hkκ10_, hτ13_, hφ11_, hμ21_, iμ21_⟩
    exact kk _ _ _ _ _ _ _ (cells + 3) (slots + 8199) hG9_ haκ10_ (by omega) (by omega)
  · refine zc_l (wr := (mW h ad cl μ)) (wc := (xW κ (xX κ φ ψ) σ)) (va_runV (As := [.int y2_, .int y4_, .int y6_]) (rest := []) ⟨hx, hb, hml, hown, hts⟩ (v_pair l dC dI κ H.size φ ψ σ y2_ y4_ y6_ hk hI hF a0_ he7_) (cwV 3 hts gl_v_pair rfl rfl rfl dd_v_pair ⟨Nat.le_of_ble_eq_true rfl, Nat.le_of_ble_eq_true rfl⟩) (preVy (rP hP) hKx (rD hD) hE (ci := 11) (q0 := 0) rfl rfl) rfl rfl hl.1 rfl (lv_room (Nat.le_of_ble_eq_true rfl)) dL_law_876 ⟨(show cells + 0 ≤ 600000 by omega), (show slots + 0 ≤ 7302250 by omega)⟩) hP hD hS hA (fun j23_ u24_ H locs hq hKn_ hP hD hS => ?_)
    obtain ⟨φ26_, ψ27_, τ28_⟩ := u24_
    obtain ⟨hτ28_, hφ26_, qτ28_⟩ := hq
    have hP : va_P (dC, dI) vwCl ((mW h ad cl μ) ++ (xW κ (xX κ φ26_ ψ27_) τ28_)) H := hP
    have hD : va_D A ((mW h ad cl μ) ++ (xW κ (xX κ φ26_ ψ27_) τ28_)) := hD
    refine W.widen (k := cells) (n := slots) (Nat.le_refl _) (Nat.le_refl _) ?_
    refine lv_pop2_2 hx hb dL_law_879 rfl ?_
    refine lv_aload_n hx hb dL_law_880 rfl (lv_at hl 2 rfl) ?_
    refine lv_aload_n hx hb dL_law_881 rfl (lv_at hl 3 rfl) ?_
    refine lv_iload_n hx hb dL_law_882 rfl (lv_at hl 0 rfl) ?_
    refine lv_iconst (v := 1) hx hb dL_law_883 (by decide) ?_
    refine lv_iadd hx hb dL_law_884 ?_
    refine lv_topi (fun z29_ ez29_ => ?_)
    have tz29_ : z29_.toInt = i.toInt + 1 := ti_add ez29_ rfl (by decide) (by omega) (by omega)
    refine va_sld hx hb hX hbl hbA hS (sx_in tz29_ hi.1 (by decide) (by omega)) dL_law_885 ?_
    refine lv_topi (fun y30_ ey30_ => ?_)
    have qy30_ : y30_ = y2_ := by rw [ey30_, ey2_, show z29_ = z1_ from Int32.toInt_inj.mp (by omega)]
    refine lv_aload_n hx hb dL_law_886 rfl (lv_at hl 3 rfl) ?_
    refine lv_iload_n hx hb dL_law_887 rfl (lv_at hl 0 rfl) ?_
    refine lv_iconst (v := 2) hx hb dL_law_888 (by decide) ?_
    refine lv_iadd hx hb dL_law_889 ?_
    refine lv_topi (fun z31_ ez31_ => ?_)
    have tz31_ : z31_.toInt = i.toInt + 2 := ti_add ez31_ rfl (by decide) (by omega) (by omega)
    refine va_sld hx hb hX hbl hbA hS (sx_in tz31_ hi.1 (by decide) (by omega)) dL_law_890 ?_
    refine lv_topi (fun y32_ ey32_ => ?_)
    have qy32_ : y32_ = y4_ := by rw [ey32_, ey4_, show z31_ = z3_ from Int32.toInt_inj.mp (by omega)]
    refine lv_aload_n hx hb dL_law_891 rfl (lv_at hl 3 rfl) ?_
    refine lv_iload_n hx hb dL_law_892 rfl (lv_at hl 0 rfl) ?_
    refine lv_iconst (v := 3) hx hb dL_law_893 (by decide) ?_
    refine lv_iadd hx hb dL_law_894 ?_
    refine lv_topi (fun z33_ ez33_ => ?_)
    have tz33_ : z33_.toInt = i.toInt + 3 := ti_add ez33_ rfl (by decide) (by omega) (by omega)
    refine va_sld hx hb hX hbl hbA hS (sx_in tz33_ hi.1 (by decide) (by omega)) dL_law_895 ?_
    refine lv_topi (fun y34_ ey34_ => ?_)
    have qy34_ : y34_ = y6_ := by rw [ey34_, ey6_, show z33_ = z5_ from Int32.toInt_inj.mp (by omega)]
    refine zp_l (wc := (mW h ad cl μ)) (wr := (xW κ (xX κ φ26_ ψ27_) τ28_)) (va_runV (As := [.int y30_, .int y32_, .int y34_]) (rest := []) ⟨hx, hb, hml, hown, hts⟩ (n_pair l dC dI h ad cl H.size μ y30_ y32_ y34_ hM hRI.1 hRI.2.2.1) (cwV 3 hts gl_n_pair rfl rfl rfl dd_n_pair ⟨Nat.le_of_ble_eq_true rfl, Nat.le_of_ble_eq_true rfl⟩) (preV (lP hP) hKm (lD hD) hE.x (ci := 12) (q0 := 0) rfl rfl) rfl rfl hl.1 rfl (lv_room (Nat.le_of_ble_eq_true rfl)) dL_law_896 ⟨(show cells + 0 ≤ 600000 by omega), (show slots + 0 ≤ 7302250 by omega)⟩) hP hD hS hA (fun j35_ μ36_ H locs hq hP hD hS => ?_)
    obtain ⟨hμ36_, xμ36_⟩ := hq
    have iμ36_ : RI μ36_ := RI_scr hM hRI xμ36_
    refine W.widen (k := cells) (n := slots) (Nat.le_refl _) (Nat.le_refl _) ?_
    refine lv_pop2_2 hx hb dL_law_899 rfl ?_
    refine lv_goto (tgt := 1273) hx hb dL_law_900 (by decide) ?_
    have hG9_ : LG dC dI A s κ φ26_ ψ27_ τ28_ h ad cl μ36_ H locs := ⟨hP, hD, hS, hKm, hKx, hk, hτ28_, hφ26_, hμ36_, iμ36_⟩
    exact kk _ _ _ _ _ _ _ cells slots hG9_ rfl (by omega) (by omega)
set_option maxHeartbeats 4000000 in
set_option maxRecDepth 100000 in
theorem law_21 {p : Program} {l : Launch} {e : Env} {s : State} {m : MethodId} {below : List Frame} {meth : Method} {c : Code} {b L : Nat} {xs : Nat → Int32} (C0 : lw_At p s m meth c b L xs) (hE : Ey s) {A : Nat → Prop} (hAe : A = fun q : Nat => s.heap.size ≤ q) {dC : Nat → ClassId} {dI : Nat → Nat → Nat} {adK adV : Nat → Nat} (hZ : Zs adK adV A s s.heap) (hR : Rs adK s) {κ : CE} {φ ψ σ : MS} {h : Nat} {ad : Nat → Nat} {cl : Nat → ClassId} {μ : MS} {H : Heap} {locs : List Loc} {cells slots : Nat} {i : Int32} {ls : Array Slot} (hi : 0 ≤ i.toInt ∧ i.toInt + 5 < (L : Int) ∧ L ≤ 3072) (hc : cells + 1011 ≤ 600000 ∧ slots + 43534 ≤ 7302250) (G : LG dC dI A s κ φ ψ σ h ad cl μ H locs) (hl : lv_has ls 4 [(3, .int i), (1, .ref (kA κ 0)), (2, .ref h), (0, .ref b)]) {Q : State → Prop}
    (kk : ∀ (κ' : CE) (φ' ψ' σ' μ' : MS) (H' : Heap) (locs' : List Loc) (c' t' : Nat), LG dC dI A s κ' φ' ψ' σ' h ad cl μ' H' locs' → kA κ' 0 = kA κ 0 → c' + 3 * bc κ ≤ cells + 1008 + 3 * bc κ' → t' + 32489 * bc κ ≤ slots + 11045 + 32489 * bc κ' → W p l e room_1 s m #[Value.ref b] below meth c H' locs' c' t' Q (F0 m 1273 ls [])) : W p l e room_1 s m #[Value.ref b] below meth c H locs cells slots Q (F0 m 903 ls []) := by
  obtain ⟨hx, hb, hr, hml, hown, hts, hX, hbl, hlocks, hgv⟩ := id C0
  have hA : ∀ q : Nat, s.heap.size ≤ q → A q := fun q h => by rw [hAe]; exact h
  have hbA : ¬ A b := by rw [hAe]; exact Nat.not_le.mpr hbl
  obtain ⟨hP, hD, hS, hKm, hKx, hk, hI, hF, hM, hRI⟩ := G
  have hKc : va_K (dC, dI) vwCl (cT κ) s := hKx.sub [0, 1, 2, 3, 4, 5, 6, 7, 8, 9, 10, 11, 12, 13, 14, 15, 16, 17, 18, 19, 20] rfl
  refine lv_aload_n hx hb dL_law_903 rfl (lv_at hl 1 rfl) ?_
  refine lv_aload_n hx hb dL_law_904 rfl (lv_at hl 3 rfl) ?_
  refine lv_iload_n hx hb dL_law_905 rfl (lv_at hl 0 rfl) ?_
  refine lv_iconst (v := 1) hx hb dL_law_906 (by decide) ?_
  refine lv_iadd hx hb dL_law_907 ?_
  refine lv_topi (fun z1_ ez1_ => ?_)
  have tz1_ : z1_.toInt = i.toInt + 1 := ti_add ez1_ rfl (by decide) (by omega) (by omega)
  refine va_sld hx hb hX hbl hbA hS (sx_in tz1_ hi.1 (by decide) (by omega)) dL_law_908 ?_
  refine lv_topi (fun y2_ ey2_ => ?_)
  refine lv_aload_n hx hb dL_law_909 rfl (lv_at hl 3 rfl) ?_
  refine lv_iload_n hx hb dL_law_910 rfl (lv_at hl 0 rfl) ?_
  refine lv_iconst (v := 2) hx hb dL_law_911 (by decide) ?_
  refine lv_iadd hx hb dL_law_912 ?_
  refine lv_topi (fun z3_ ez3_ => ?_)
  have tz3_ : z3_.toInt = i.toInt + 2 := ti_add ez3_ rfl (by decide) (by omega) (by omega)
  refine va_sld hx hb hX hbl hbA hS (sx_in tz3_ hi.1 (by decide) (by omega)) dL_law_913 ?_
  refine lv_topi (fun y4_ ey4_ => ?_)
  refine lv_aload_n hx hb dL_law_914 rfl (lv_at hl 3 rfl) ?_
  refine lv_iload_n hx hb dL_law_915 rfl (lv_at hl 0 rfl) ?_
  refine lv_iconst (v := 3) hx hb dL_law_916 (by decide) ?_
  refine lv_iadd hx hb dL_law_917 ?_
  refine lv_topi (fun z5_ ez5_ => ?_)
  have tz5_ : z5_.toInt = i.toInt + 3 := ti_add ez5_ rfl (by decide) (by omega) (by omega)
  refine va_sld hx hb hX hbl hbA hS (sx_in tz5_ hi.1 (by decide) (by omega)) dL_law_918 ?_
  refine lv_topi (fun y6_ ey6_ => ?_)
  have hP := lxP hP
  have hD := lxD hD
  refine zc_i (wr := (mW h ad cl μ)) (wc := cW (ky κ (xX κ φ ψ)) σ) (va_runV (As := [.int y2_, .int y4_, .int y6_]) (rest := []) ⟨hx, hb, hml, hown, hts⟩ (k_guard l dC dI (ky κ (xX κ φ ψ)) H.size σ y2_ y4_ y6_ hk hI ) (cwV 3 hts gl_k_guard rfl rfl rfl dd_k_guard ⟨Nat.le_of_ble_eq_true rfl, Nat.le_of_ble_eq_true rfl⟩) (preVy (rP hP) hKc (rD hD) hE (ci := 11) (q0 := 0) rfl rfl) rfl rfl hl.1 rfl (lv_room (Nat.le_of_ble_eq_true rfl)) dL_law_919 ⟨(show cells + 0 ≤ 600000 by omega), (show slots + 0 ≤ 7302250 by omega)⟩) hP hD hS hA (fun r8_ τ9_ H locs hq _ hP hD hS => ?_)
  obtain ⟨hτ9_, qτ9_⟩ := hq
  have hP := xlP hP
  have hD := xlD hD
  refine W.widen (k := cells) (n := slots) (Nat.le_refl _) (Nat.le_refl _) ?_
  refine lv_pop hx hb dL_law_922 rfl ?_
  refine lv_aload_n hx hb dL_law_923 rfl (lv_at hl 2 rfl) ?_
  refine lv_aload_n hx hb dL_law_924 rfl (lv_at hl 3 rfl) ?_
  refine lv_iload_n hx hb dL_law_925 rfl (lv_at hl 0 rfl) ?_
  refine lv_iconst (v := 1) hx hb dL_law_926 (by decide) ?_
  refine lv_iadd hx hb dL_law_927 ?_
  refine lv_topi (fun z10_ ez10_ => ?_)
  have tz10_ : z10_.toInt = i.toInt + 1 := ti_add ez10_ rfl (by decide) (by omega) (by omega)
  refine va_sld hx hb hX hbl hbA hS (sx_in tz10_ hi.1 (by decide) (by omega)) dL_law_928 ?_
  refine lv_topi (fun y11_ ey11_ => ?_)
  have qy11_ : y11_ = y2_ := by rw [ey11_, ey2_, show z10_ = z1_ from Int32.toInt_inj.mp (by omega)]
  refine lv_aload_n hx hb dL_law_929 rfl (lv_at hl 3 rfl) ?_
  refine lv_iload_n hx hb dL_law_930 rfl (lv_at hl 0 rfl) ?_
  refine lv_iconst (v := 2) hx hb dL_law_931 (by decide) ?_
  refine lv_iadd hx hb dL_law_932 ?_
  refine lv_topi (fun z12_ ez12_ => ?_)
  have tz12_ : z12_.toInt = i.toInt + 2 := ti_add ez12_ rfl (by decide) (by omega) (by omega)
  refine va_sld hx hb hX hbl hbA hS (sx_in tz12_ hi.1 (by decide) (by omega)) dL_law_933 ?_
  refine lv_topi (fun y13_ ey13_ => ?_)
  have qy13_ : y13_ = y4_ := by rw [ey13_, ey4_, show z12_ = z3_ from Int32.toInt_inj.mp (by omega)]
  refine lv_aload_n hx hb dL_law_934 rfl (lv_at hl 3 rfl) ?_
  refine lv_iload_n hx hb dL_law_935 rfl (lv_at hl 0 rfl) ?_
  refine lv_iconst (v := 3) hx hb dL_law_936 (by decide) ?_
  refine lv_iadd hx hb dL_law_937 ?_
  refine lv_topi (fun z14_ ez14_ => ?_)
  have tz14_ : z14_.toInt = i.toInt + 3 := ti_add ez14_ rfl (by decide) (by omega) (by omega)
  refine va_sld hx hb hX hbl hbA hS (sx_in tz14_ hi.1 (by decide) (by omega)) dL_law_938 ?_
  refine lv_topi (fun y15_ ey15_ => ?_)
  have qy15_ : y15_ = y6_ := by rw [ey15_, ey6_, show z14_ = z5_ from Int32.toInt_inj.mp (by omega)]
  refine zp_i (wc := (mW h ad cl μ)) (wr := (xW κ (xX κ φ ψ) τ9_)) (va_runV (As := [.int y11_, .int y13_, .int y15_]) (rest := []) ⟨hx, hb, hml, hown, hts⟩ (n_guard l dC dI h ad cl H.size μ y11_ y13_ y15_ hM) (cwV 3 hts gl_n_guard rfl rfl rfl dd_n_guard ⟨Nat.le_of_ble_eq_true rfl, Nat.le_of_ble_eq_true rfl⟩) (preV (lP hP) hKm (lD hD) hE.x (ci := 12) (q0 := 0) rfl rfl) rfl rfl hl.1 rfl (lv_room (Nat.le_of_ble_eq_true rfl)) dL_law_939 ⟨(show cells + 0 ≤ 600000 by omega), (show slots + 0 ≤ 7302250 by omega)⟩) hP hD hS hA (fun r16_ μ17_ H locs hq hP hD hS => ?_)
  obtain ⟨hμ17_, xμ17_⟩ := hq
  have iμ17_ : RI μ17_ := RI_guard hM hRI xμ17_
  refine W.widen (k := cells) (n := slots) (Nat.le_refl _) (Nat.le_refl _) ?_
  refine lv_pop hx hb dL_law_942 rfl ?_
  refine lv_goto (tgt := 1273) hx hb dL_law_943 (by decide) ?_
  have hG9_ : LG dC dI A s κ φ ψ τ9_ h ad cl μ17_ H locs := ⟨hP, hD, hS, hKm, hKx, hk, hτ9_, hF, hμ17_, iμ17_⟩
  exact kk _ _ _ _ _ _ _ cells slots hG9_ rfl (by omega) (by omega)
set_option maxHeartbeats 4000000 in
set_option maxRecDepth 100000 in
theorem law_22 {p : Program} {l : Launch} {e : Env} {s : State} {m : MethodId} {below : List Frame} {meth : Method} {c : Code} {b L : Nat} {xs : Nat → Int32} (C0 : lw_At p s m meth c b L xs) (hE : Ey s) {A : Nat → Prop} (hAe : A = fun q : Nat => s.heap.size ≤ q) {dC : Nat → ClassId} {dI : Nat → Nat → Nat} {adK adV : Nat → Nat} (hZ : Zs adK adV A s s.heap) (hR : Rs adK s) {κ : CE} {φ ψ σ : MS} {h : Nat} {ad : Nat → Nat} {cl : Nat → ClassId} {μ : MS} {H : Heap} {locs : List Loc} {cells slots : Nat} {i : Int32} {ls : Array Slot} (hi : 0 ≤ i.toInt ∧ i.toInt + 5 < (L : Int) ∧ L ≤ 3072) (hc : cells + 1011 ≤ 600000 ∧ slots + 43534 ≤ 7302250) (G : LG dC dI A s κ φ ψ σ h ad cl μ H locs) (hl : lv_has ls 4 [(3, .int i), (1, .ref (kA κ 0)), (2, .ref h), (0, .ref b)]) {Q : State → Prop}
    (kk : ∀ (κ' : CE) (φ' ψ' σ' μ' : MS) (H' : Heap) (locs' : List Loc) (c' t' : Nat), LG dC dI A s κ' φ' ψ' σ' h ad cl μ' H' locs' → kA κ' 0 = kA κ 0 → c' + 3 * bc κ ≤ cells + 1008 + 3 * bc κ' → t' + 32489 * bc κ ≤ slots + 11045 + 32489 * bc κ' → W p l e room_1 s m #[Value.ref b] below meth c H' locs' c' t' Q (F0 m 1273 ls [])) : W p l e room_1 s m #[Value.ref b] below meth c H locs cells slots Q (F0 m 946 ls []) := by
  obtain ⟨hx, hb, hr, hml, hown, hts, hX, hbl, hlocks, hgv⟩ := id C0
  have hA : ∀ q : Nat, s.heap.size ≤ q → A q := fun q h => by rw [hAe]; exact h
  have hbA : ¬ A b := by rw [hAe]; exact Nat.not_le.mpr hbl
  obtain ⟨hP, hD, hS, hKm, hKx, hk, hI, hF, hM, hRI⟩ := G
  have hKc : va_K (dC, dI) vwCl (cT κ) s := hKx.sub [0, 1, 2, 3, 4, 5, 6, 7, 8, 9, 10, 11, 12, 13, 14, 15, 16, 17, 18, 19, 20] rfl
  refine lv_aload_n hx hb dL_law_946 rfl (lv_at hl 1 rfl) ?_
  refine lv_aload_n hx hb dL_law_947 rfl (lv_at hl 3 rfl) ?_
  refine lv_iload_n hx hb dL_law_948 rfl (lv_at hl 0 rfl) ?_
  refine lv_iconst (v := 1) hx hb dL_law_949 (by decide) ?_
  refine lv_iadd hx hb dL_law_950 ?_
  refine lv_topi (fun z1_ ez1_ => ?_)
  have tz1_ : z1_.toInt = i.toInt + 1 := ti_add ez1_ rfl (by decide) (by omega) (by omega)
  refine va_sld hx hb hX hbl hbA hS (sx_in tz1_ hi.1 (by decide) (by omega)) dL_law_951 ?_
  refine lv_topi (fun y2_ ey2_ => ?_)
  refine lv_aload_n hx hb dL_law_952 rfl (lv_at hl 3 rfl) ?_
  refine lv_iload_n hx hb dL_law_953 rfl (lv_at hl 0 rfl) ?_
  refine lv_iconst (v := 2) hx hb dL_law_954 (by decide) ?_
  refine lv_iadd hx hb dL_law_955 ?_
  refine lv_topi (fun z3_ ez3_ => ?_)
  have tz3_ : z3_.toInt = i.toInt + 2 := ti_add ez3_ rfl (by decide) (by omega) (by omega)
  refine va_sld hx hb hX hbl hbA hS (sx_in tz3_ hi.1 (by decide) (by omega)) dL_law_956 ?_
  refine lv_topi (fun y4_ ey4_ => ?_)
  have hP := lxP hP
  have hD := lxD hD
  refine zc_i (wr := (mW h ad cl μ)) (wc := cW (ky κ (xX κ φ ψ)) σ) (va_runV (As := [.int y2_, .int y4_]) (rest := []) ⟨hx, hb, hml, hown, hts⟩ (k_through l dC dI (ky κ (xX κ φ ψ)) H.size σ y2_ y4_ hk hI ) (cwV 2 hts gl_k_through rfl rfl rfl dd_k_through ⟨Nat.le_of_ble_eq_true rfl, Nat.le_of_ble_eq_true rfl⟩) (preVy (rP hP) hKc (rD hD) hE (ci := 11) (q0 := 0) rfl rfl) rfl rfl hl.1 rfl (lv_room (Nat.le_of_ble_eq_true rfl)) dL_law_957 ⟨(show cells + 0 ≤ 600000 by omega), (show slots + 0 ≤ 7302250 by omega)⟩) hP hD hS hA (fun r6_ τ7_ H locs hq _ hP hD hS => ?_)
  obtain ⟨hτ7_, qτ7_⟩ := hq
  have hP := xlP hP
  have hD := xlD hD
  refine W.widen (k := cells) (n := slots) (Nat.le_refl _) (Nat.le_refl _) ?_
  refine lv_pop hx hb dL_law_960 rfl ?_
  refine lv_aload_n hx hb dL_law_961 rfl (lv_at hl 2 rfl) ?_
  refine lv_aload_n hx hb dL_law_962 rfl (lv_at hl 3 rfl) ?_
  refine lv_iload_n hx hb dL_law_963 rfl (lv_at hl 0 rfl) ?_
  refine lv_iconst (v := 1) hx hb dL_law_964 (by decide) ?_
  refine lv_iadd hx hb dL_law_965 ?_
  refine lv_topi (fun z8_ ez8_ => ?_)
  have tz8_ : z8_.toInt = i.toInt + 1 := ti_add ez8_ rfl (by decide) (by omega) (by omega)
  refine va_sld hx hb hX hbl hbA hS (sx_in tz8_ hi.1 (by decide) (by omega)) dL_law_966 ?_
  refine lv_topi (fun y9_ ey9_ => ?_)
  have qy9_ : y9_ = y2_ := by rw [ey9_, ey2_, show z8_ = z1_ from Int32.toInt_inj.mp (by omega)]
  refine lv_aload_n hx hb dL_law_967 rfl (lv_at hl 3 rfl) ?_
  refine lv_iload_n hx hb dL_law_968 rfl (lv_at hl 0 rfl) ?_
  refine lv_iconst (v := 2) hx hb dL_law_969 (by decide) ?_
  refine lv_iadd hx hb dL_law_970 ?_
  refine lv_topi (fun z10_ ez10_ => ?_)
  have tz10_ : z10_.toInt = i.toInt + 2 := ti_add ez10_ rfl (by decide) (by omega) (by omega)
  refine va_sld hx hb hX hbl hbA hS (sx_in tz10_ hi.1 (by decide) (by omega)) dL_law_971 ?_
  refine lv_topi (fun y11_ ey11_ => ?_)
  have qy11_ : y11_ = y4_ := by rw [ey11_, ey4_, show z10_ = z3_ from Int32.toInt_inj.mp (by omega)]
  refine zp_i (wc := (mW h ad cl μ)) (wr := (xW κ (xX κ φ ψ) τ7_)) (va_runV (As := [.int y9_, .int y11_]) (rest := []) ⟨hx, hb, hml, hown, hts⟩ (n_through l dC dI h ad cl H.size μ y9_ y11_ hM hRI.1 hRI.2.2.1) (cwV 2 hts gl_n_through rfl rfl rfl dd_n_through ⟨Nat.le_of_ble_eq_true rfl, Nat.le_of_ble_eq_true rfl⟩) (preV (lP hP) hKm (lD hD) hE.x (ci := 12) (q0 := 0) rfl rfl) rfl rfl hl.1 rfl (lv_room (Nat.le_of_ble_eq_true rfl)) dL_law_972 ⟨(show cells + 0 ≤ 600000 by omega), (show slots + 0 ≤ 7302250 by omega)⟩) hP hD hS hA (fun r12_ μ13_ H locs hq hP hD hS => ?_)
  obtain ⟨hμ13_, xμ13_⟩ := hq
  have iμ13_ : RI μ13_ := RI_scr hM hRI xμ13_
  refine W.widen (k := cells) (n := slots) (Nat.le_refl _) (Nat.le_refl _) ?_
  refine lv_pop hx hb dL_law_975 rfl ?_
  refine lv_goto (tgt := 1273) hx hb dL_law_976 (by decide) ?_
  have hG9_ : LG dC dI A s κ φ ψ τ7_ h ad cl μ13_ H locs := ⟨hP, hD, hS, hKm, hKx, hk, hτ7_, hF, hμ13_, iμ13_⟩
  exact kk _ _ _ _ _ _ _ cells slots hG9_ rfl (by omega) (by omega)
set_option maxHeartbeats 4000000 in
set_option maxRecDepth 100000 in
theorem law_23 {p : Program} {l : Launch} {e : Env} {s : State} {m : MethodId} {below : List Frame} {meth : Method} {c : Code} {b L : Nat} {xs : Nat → Int32} (C0 : lw_At p s m meth c b L xs) (hE : Ey s) {A : Nat → Prop} (hAe : A = fun q : Nat => s.heap.size ≤ q) {dC : Nat → ClassId} {dI : Nat → Nat → Nat} {adK adV : Nat → Nat} (hZ : Zs adK adV A s s.heap) (hR : Rs adK s) {κ : CE} {φ ψ σ : MS} {h : Nat} {ad : Nat → Nat} {cl : Nat → ClassId} {μ : MS} {H : Heap} {locs : List Loc} {cells slots : Nat} {i : Int32} {ls : Array Slot} (hi : 0 ≤ i.toInt ∧ i.toInt + 5 < (L : Int) ∧ L ≤ 3072) (hc : cells + 1011 ≤ 600000 ∧ slots + 43534 ≤ 7302250) (G : LG dC dI A s κ φ ψ σ h ad cl μ H locs) (hl : lv_has ls 4 [(3, .int i), (1, .ref (kA κ 0)), (2, .ref h), (0, .ref b)]) {Q : State → Prop}
    (kk : ∀ (κ' : CE) (φ' ψ' σ' μ' : MS) (H' : Heap) (locs' : List Loc) (c' t' : Nat), LG dC dI A s κ' φ' ψ' σ' h ad cl μ' H' locs' → kA κ' 0 = kA κ 0 → c' + 3 * bc κ ≤ cells + 1008 + 3 * bc κ' → t' + 32489 * bc κ ≤ slots + 11045 + 32489 * bc κ' → W p l e room_1 s m #[Value.ref b] below meth c H' locs' c' t' Q (F0 m 1273 ls [])) : W p l e room_1 s m #[Value.ref b] below meth c H locs cells slots Q (F0 m 979 ls []) := by
  obtain ⟨hx, hb, hr, hml, hown, hts, hX, hbl, hlocks, hgv⟩ := id C0
  have hA : ∀ q : Nat, s.heap.size ≤ q → A q := fun q h => by rw [hAe]; exact h
  have hbA : ¬ A b := by rw [hAe]; exact Nat.not_le.mpr hbl
  obtain ⟨hP, hD, hS, hKm, hKx, hk, hI, hF, hM, hRI⟩ := G
  have hKc : va_K (dC, dI) vwCl (cT κ) s := hKx.sub [0, 1, 2, 3, 4, 5, 6, 7, 8, 9, 10, 11, 12, 13, 14, 15, 16, 17, 18, 19, 20] rfl
  refine lv_aload_n hx hb dL_law_979 rfl (lv_at hl 1 rfl) ?_
  refine lv_aload_n hx hb dL_law_980 rfl (lv_at hl 3 rfl) ?_
  refine lv_iload_n hx hb dL_law_981 rfl (lv_at hl 0 rfl) ?_
  refine lv_iconst (v := 1) hx hb dL_law_982 (by decide) ?_
  refine lv_iadd hx hb dL_law_983 ?_
  refine lv_topi (fun z1_ ez1_ => ?_)
  have tz1_ : z1_.toInt = i.toInt + 1 := ti_add ez1_ rfl (by decide) (by omega) (by omega)
  refine va_sld hx hb hX hbl hbA hS (sx_in tz1_ hi.1 (by decide) (by omega)) dL_law_984 ?_
  refine lv_topi (fun y2_ ey2_ => ?_)
  refine lv_aload_n hx hb dL_law_985 rfl (lv_at hl 3 rfl) ?_
  refine lv_iload_n hx hb dL_law_986 rfl (lv_at hl 0 rfl) ?_
  refine lv_iconst (v := 2) hx hb dL_law_987 (by decide) ?_
  refine lv_iadd hx hb dL_law_988 ?_
  refine lv_topi (fun z3_ ez3_ => ?_)
  have tz3_ : z3_.toInt = i.toInt + 2 := ti_add ez3_ rfl (by decide) (by omega) (by omega)
  refine va_sld hx hb hX hbl hbA hS (sx_in tz3_ hi.1 (by decide) (by omega)) dL_law_989 ?_
  refine lv_topi (fun y4_ ey4_ => ?_)
  have hP := lxP hP
  have hD := lxD hD
  refine zc_i (wr := (mW h ad cl μ)) (wc := cW (ky κ (xX κ φ ψ)) σ) (va_runV (As := [.int y2_, .int y4_]) (rest := []) ⟨hx, hb, hml, hown, hts⟩ (k_turned l dC dI (ky κ (xX κ φ ψ)) H.size σ y2_ y4_ hk hI ) (cwV 2 hts gl_k_turned rfl rfl rfl dd_k_turned ⟨Nat.le_of_ble_eq_true rfl, Nat.le_of_ble_eq_true rfl⟩) (preVy (rP hP) hKc (rD hD) hE (ci := 11) (q0 := 0) rfl rfl) rfl rfl hl.1 rfl (lv_room (Nat.le_of_ble_eq_true rfl)) dL_law_990 ⟨(show cells + 0 ≤ 600000 by omega), (show slots + 0 ≤ 7302250 by omega)⟩) hP hD hS hA (fun r6_ τ7_ H locs hq _ hP hD hS => ?_)
  obtain ⟨hτ7_, qτ7_⟩ := hq
  have hP := xlP hP
  have hD := xlD hD
  refine W.widen (k := cells) (n := slots) (Nat.le_refl _) (Nat.le_refl _) ?_
  refine lv_pop hx hb dL_law_993 rfl ?_
  refine lv_aload_n hx hb dL_law_994 rfl (lv_at hl 2 rfl) ?_
  refine lv_aload_n hx hb dL_law_995 rfl (lv_at hl 3 rfl) ?_
  refine lv_iload_n hx hb dL_law_996 rfl (lv_at hl 0 rfl) ?_
  refine lv_iconst (v := 1) hx hb dL_law_997 (by decide) ?_
  refine lv_iadd hx hb dL_law_998 ?_
  refine lv_topi (fun z8_ ez8_ => ?_)
  have tz8_ : z8_.toInt = i.toInt + 1 := ti_add ez8_ rfl (by decide) (by omega) (by omega)
  refine va_sld hx hb hX hbl hbA hS (sx_in tz8_ hi.1 (by decide) (by omega)) dL_law_999 ?_
  refine lv_topi (fun y9_ ey9_ => ?_)
  have qy9_ : y9_ = y2_ := by rw [ey9_, ey2_, show z8_ = z1_ from Int32.toInt_inj.mp (by omega)]
  refine lv_aload_n hx hb dL_law_1000 rfl (lv_at hl 3 rfl) ?_
  refine lv_iload_n hx hb dL_law_1001 rfl (lv_at hl 0 rfl) ?_
  refine lv_iconst (v := 2) hx hb dL_law_1002 (by decide) ?_
  refine lv_iadd hx hb dL_law_1003 ?_
  refine lv_topi (fun z10_ ez10_ => ?_)
  have tz10_ : z10_.toInt = i.toInt + 2 := ti_add ez10_ rfl (by decide) (by omega) (by omega)
  refine va_sld hx hb hX hbl hbA hS (sx_in tz10_ hi.1 (by decide) (by omega)) dL_law_1004 ?_
  refine lv_topi (fun y11_ ey11_ => ?_)
  have qy11_ : y11_ = y4_ := by rw [ey11_, ey4_, show z10_ = z3_ from Int32.toInt_inj.mp (by omega)]
  refine zp_i (wc := (mW h ad cl μ)) (wr := (xW κ (xX κ φ ψ) τ7_)) (va_runV (As := [.int y9_, .int y11_]) (rest := []) ⟨hx, hb, hml, hown, hts⟩ (n_turned l dC dI h ad cl H.size μ y9_ y11_ hM hRI.1 hRI.2.2.1) (cwV 2 hts gl_n_turned rfl rfl rfl dd_n_turned ⟨Nat.le_of_ble_eq_true rfl, Nat.le_of_ble_eq_true rfl⟩) (preV (lP hP) hKm (lD hD) hE.x (ci := 12) (q0 := 0) rfl rfl) rfl rfl hl.1 rfl (lv_room (Nat.le_of_ble_eq_true rfl)) dL_law_1005 ⟨(show cells + 0 ≤ 600000 by omega), (show slots + 0 ≤ 7302250 by omega)⟩) hP hD hS hA (fun r12_ μ13_ H locs hq hP hD hS => ?_)
  obtain ⟨hμ13_, xμ13_⟩ := hq
  have iμ13_ : RI μ13_ := RI_scr hM hRI xμ13_
  refine W.widen (k := cells) (n := slots) (Nat.le_refl _) (Nat.le_refl _) ?_
  refine lv_pop hx hb dL_law_1008 rfl ?_
  refine lv_goto (tgt := 1273) hx hb dL_law_1009 (by decide) ?_
  have hG9_ : LG dC dI A s κ φ ψ τ7_ h ad cl μ13_ H locs := ⟨hP, hD, hS, hKm, hKx, hk, hτ7_, hF, hμ13_, iμ13_⟩
  exact kk _ _ _ _ _ _ _ cells slots hG9_ rfl (by omega) (by omega)
