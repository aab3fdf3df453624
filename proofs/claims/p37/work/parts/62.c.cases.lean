/-! The law, a row a case: the rest -/
theorem sub_fBe_fA : ∀ t k, fA t k = false → fBe t k = false := by
  intro t k h
  simp [fBe, fA] at h ⊢ <;> omega
theorem sub_fCp_fA : ∀ t k, fA t k = false → fCp t k = false := by
  intro t k h
  simp [fCp, fA] at h ⊢ <;> omega
theorem sub_gX_fA : ∀ t k, fA t k = false → gX t k = false := by
  intro t k h
  simp [gX, fA] at h ⊢ <;> omega
theorem sub_gZ_fA : ∀ t k, fA t k = false → gZ t k = false := by
  intro t k h
  simp [gZ, fA] at h ⊢ <;> omega
theorem sub_hfLr_fA : ∀ t k, fA t k = false → hfLr t k = false := by
  intro t k h
  simp [hfLr, fA] at h ⊢ <;> omega
theorem sub_hfWr_fA : ∀ t k, fA t k = false → hfWr t k = false := by
  intro t k h
  simp [hfWr, fA] at h ⊢ <;> omega
theorem k514 : Cond.methodLink RL 207 yX5_reset ∈ GW := gm 514 (by decide +kernel) (by decide +kernel)
theorem k515 : Cond.instanceMethod yX5_reset ∈ GW := gm 515 (by decide +kernel) (by decide +kernel)
theorem k516 : Cond.selects RX5 yX5_reset yX5_reset ∈ GW := gm 516 (by decide +kernel) (by decide +kernel)
theorem k517 : Cond.code yX5_reset cX5_reset 2 (some .int) ∈ GW := gm 517 (by decide +kernel) (by decide +kernel)
theorem k518 : Cond.methodLink RL 247 yX5_bestScheme ∈ GW := gm 518 (by decide +kernel) (by decide +kernel)
theorem k519 : Cond.instanceMethod yX5_bestScheme ∈ GW := gm 519 (by decide +kernel) (by decide +kernel)
theorem k520 : Cond.selects RX5 yX5_bestScheme yX5_bestScheme ∈ GW := gm 520 (by decide +kernel) (by decide +kernel)
theorem k521 : Cond.code yX5_bestScheme cX5_bestScheme 5 (some .int) ∈ GW := gm 521 (by decide +kernel) (by decide +kernel)
theorem k598 : Cond.methodLink RL 254 yX5_reasonSample ∈ GW := gm 598 (by decide +kernel) (by decide +kernel)
theorem k599 : Cond.instanceMethod yX5_reasonSample ∈ GW := gm 599 (by decide +kernel) (by decide +kernel)
theorem k600 : Cond.selects RX5 yX5_reasonSample yX5_reasonSample ∈ GW := gm 600 (by decide +kernel) (by decide +kernel)
theorem k601 : Cond.code yX5_reasonSample cX5_reasonSample 1 (some .int) ∈ GW := gm 601 (by decide +kernel) (by decide +kernel)
theorem k981 : Cond.methodLink RL 201 yL_set ∈ GW := gm 981 (by decide +kernel) (by decide +kernel)
theorem k982 : Cond.static yL_set ∈ GW := gm 982 (by decide +kernel) (by decide +kernel)
theorem k983 : Cond.codeWith yL_set cL_set 5 (some .int) [(0, 9, 12, 13), (0, 9, 16, 19), (0, 9, 20, 62)] ∈ GW := gm 983 (by decide +kernel) (by decide +kernel)
theorem k1013 : Cond.methodLink RL 204 yL_noise ∈ GW := gm 1013 (by decide +kernel) (by decide +kernel)
theorem k1014 : Cond.static yL_noise ∈ GW := gm 1014 (by decide +kernel) (by decide +kernel)
theorem k1015 : Cond.codeWith yL_noise cL_noise 5 (some .int) [(0, 9, 12, 19), (0, 9, 16, 62)] ∈ GW := gm 1015 (by decide +kernel) (by decide +kernel)
theorem k1025 : Cond.methodLink RL 211 yL_forward ∈ GW := gm 1025 (by decide +kernel) (by decide +kernel)
theorem k1026 : Cond.static yL_forward ∈ GW := gm 1026 (by decide +kernel) (by decide +kernel)
theorem k1027 : Cond.codeWith yL_forward cL_forward 4 (some .int) [(0, 9, 12, 19), (0, 9, 15, 62)] ∈ GW := gm 1027 (by decide +kernel) (by decide +kernel)
theorem k1032 : Cond.methodLink RL 214 yL_lift ∈ GW := gm 1032 (by decide +kernel) (by decide +kernel)
theorem k1033 : Cond.static yL_lift ∈ GW := gm 1033 (by decide +kernel) (by decide +kernel)
theorem k1034 : Cond.codeWith yL_lift cL_lift 4 (some .int) [(0, 8, 11, 13), (0, 8, 14, 62)] ∈ GW := gm 1034 (by decide +kernel) (by decide +kernel)
theorem k1040 : Cond.methodLink RL 217 yL_inverse ∈ GW := gm 1040 (by decide +kernel) (by decide +kernel)
theorem k1041 : Cond.static yL_inverse ∈ GW := gm 1041 (by decide +kernel) (by decide +kernel)
theorem k1042 : Cond.codeWith yL_inverse cL_inverse 4 (some .int) [(0, 9, 12, 19), (0, 9, 15, 62)] ∈ GW := gm 1042 (by decide +kernel) (by decide +kernel)
theorem k1055 : Cond.methodLink RL 220 yL_setDetail ∈ GW := gm 1055 (by decide +kernel) (by decide +kernel)
theorem k1056 : Cond.static yL_setDetail ∈ GW := gm 1056 (by decide +kernel) (by decide +kernel)
theorem k1057 : Cond.codeWith yL_setDetail cL_setDetail 5 (some .int) [(0, 9, 12, 13), (0, 9, 16, 19)] ∈ GW := gm 1057 (by decide +kernel) (by decide +kernel)
theorem k1065 : Cond.methodLink RL 223 yL_threshold ∈ GW := gm 1065 (by decide +kernel) (by decide +kernel)
theorem k1066 : Cond.static yL_threshold ∈ GW := gm 1066 (by decide +kernel) (by decide +kernel)
theorem k1067 : Cond.codeWith yL_threshold cL_threshold 5 (some .int) [(0, 10, 13, 19)] ∈ GW := gm 1067 (by decide +kernel) (by decide +kernel)
theorem k1084 : Cond.methodLink RL 226 yL_quantize ∈ GW := gm 1084 (by decide +kernel) (by decide +kernel)
theorem k1085 : Cond.static yL_quantize ∈ GW := gm 1085 (by decide +kernel) (by decide +kernel)
theorem k1086 : Cond.codeWith yL_quantize cL_quantize 4 (some .int) [(0, 8, 11, 19)] ∈ GW := gm 1086 (by decide +kernel) (by decide +kernel)
theorem k1100 : Cond.methodLink RL 229 yL_keepLargest ∈ GW := gm 1100 (by decide +kernel) (by decide +kernel)
theorem k1101 : Cond.static yL_keepLargest ∈ GW := gm 1101 (by decide +kernel) (by decide +kernel)
theorem k1102 : Cond.codeWith yL_keepLargest cL_keepLargest 4 (some .int) [(0, 8, 11, 19)] ∈ GW := gm 1102 (by decide +kernel) (by decide +kernel)
theorem k1116 : Cond.methodLink RL 232 yL_error ∈ GW := gm 1116 (by decide +kernel) (by decide +kernel)
theorem k1117 : Cond.static yL_error ∈ GW := gm 1117 (by decide +kernel) (by decide +kernel)
theorem k1118 : Cond.codeWith yL_error cL_error 4 (some .int) [(0, 8, 11, 19)] ∈ GW := gm 1118 (by decide +kernel) (by decide +kernel)
theorem k1149 : Cond.methodLink RL 235 yL_errorWith ∈ GW := gm 1149 (by decide +kernel) (by decide +kernel)
theorem k1150 : Cond.static yL_errorWith ∈ GW := gm 1150 (by decide +kernel) (by decide +kernel)
theorem k1151 : Cond.codeWith yL_errorWith cL_errorWith 5 (some .int) [(0, 9, 12, 19)] ∈ GW := gm 1151 (by decide +kernel) (by decide +kernel)
theorem k1160 : Cond.methodLink RL 238 yL_bestThreshold ∈ GW := gm 1160 (by decide +kernel) (by decide +kernel)
theorem k1161 : Cond.static yL_bestThreshold ∈ GW := gm 1161 (by decide +kernel) (by decide +kernel)
theorem k1162 : Cond.codeWith yL_bestThreshold cL_bestThreshold 4 (some .int) [(0, 9, 12, 19), (0, 9, 15, 51)] ∈ GW := gm 1162 (by decide +kernel) (by decide +kernel)
theorem k1182 : Cond.methodLink RL 251 yL_reason ∈ GW := gm 1182 (by decide +kernel) (by decide +kernel)
theorem k1183 : Cond.static yL_reason ∈ GW := gm 1183 (by decide +kernel) (by decide +kernel)
theorem k1184 : Cond.codeWith yL_reason cL_reason 4 (some .int) [(0, 9, 12, 19)] ∈ GW := gm 1184 (by decide +kernel) (by decide +kernel)
theorem k1563 : Cond.methodLink RL 203 yX6_set ∈ GW := gm 1563 (by decide +kernel) (by decide +kernel)
theorem k1564 : Cond.instanceMethod yX6_set ∈ GW := gm 1564 (by decide +kernel) (by decide +kernel)
theorem k1565 : Cond.selects RX6 yX6_set yX6_set ∈ GW := gm 1565 (by decide +kernel) (by decide +kernel)
theorem k1566 : Cond.code yX6_set cX6_set 5 (some .long) ∈ GW := gm 1566 (by decide +kernel) (by decide +kernel)
theorem k1573 : Cond.methodLink RL 206 yX6_noise ∈ GW := gm 1573 (by decide +kernel) (by decide +kernel)
theorem k1574 : Cond.instanceMethod yX6_noise ∈ GW := gm 1574 (by decide +kernel) (by decide +kernel)
theorem k1575 : Cond.selects RX6 yX6_noise yX6_noise ∈ GW := gm 1575 (by decide +kernel) (by decide +kernel)
theorem k1576 : Cond.code yX6_noise cX6_noise 7 (some .long) ∈ GW := gm 1576 (by decide +kernel) (by decide +kernel)
theorem k1579 : Cond.methodLink RL 210 yX6_reset ∈ GW := gm 1579 (by decide +kernel) (by decide +kernel)
theorem k1580 : Cond.instanceMethod yX6_reset ∈ GW := gm 1580 (by decide +kernel) (by decide +kernel)
theorem k1581 : Cond.selects RX6 yX6_reset yX6_reset ∈ GW := gm 1581 (by decide +kernel) (by decide +kernel)
theorem k1582 : Cond.code yX6_reset cX6_reset 2 (some .int) ∈ GW := gm 1582 (by decide +kernel) (by decide +kernel)
theorem k1583 : Cond.methodLink RL 213 yX6_forward ∈ GW := gm 1583 (by decide +kernel) (by decide +kernel)
theorem k1584 : Cond.instanceMethod yX6_forward ∈ GW := gm 1584 (by decide +kernel) (by decide +kernel)
theorem k1585 : Cond.selects RX6 yX6_forward yX6_forward ∈ GW := gm 1585 (by decide +kernel) (by decide +kernel)
theorem k1586 : Cond.code yX6_forward cX6_forward 2 (some .int) ∈ GW := gm 1586 (by decide +kernel) (by decide +kernel)
theorem k1608 : Cond.methodLink RL 216 yX6_lift ∈ GW := gm 1608 (by decide +kernel) (by decide +kernel)
theorem k1609 : Cond.instanceMethod yX6_lift ∈ GW := gm 1609 (by decide +kernel) (by decide +kernel)
theorem k1610 : Cond.selects RX6 yX6_lift yX6_lift ∈ GW := gm 1610 (by decide +kernel) (by decide +kernel)
theorem k1611 : Cond.code yX6_lift cX6_lift 2 (some .long) ∈ GW := gm 1611 (by decide +kernel) (by decide +kernel)
theorem k1612 : Cond.methodLink RL 219 yX6_inverse ∈ GW := gm 1612 (by decide +kernel) (by decide +kernel)
theorem k1613 : Cond.instanceMethod yX6_inverse ∈ GW := gm 1613 (by decide +kernel) (by decide +kernel)
theorem k1614 : Cond.selects RX6 yX6_inverse yX6_inverse ∈ GW := gm 1614 (by decide +kernel) (by decide +kernel)
theorem k1615 : Cond.code yX6_inverse cX6_inverse 3 (some .int) ∈ GW := gm 1615 (by decide +kernel) (by decide +kernel)
theorem k1620 : Cond.methodLink RL 222 yX6_setDetail ∈ GW := gm 1620 (by decide +kernel) (by decide +kernel)
theorem k1621 : Cond.instanceMethod yX6_setDetail ∈ GW := gm 1621 (by decide +kernel) (by decide +kernel)
theorem k1622 : Cond.selects RX6 yX6_setDetail yX6_setDetail ∈ GW := gm 1622 (by decide +kernel) (by decide +kernel)
theorem k1623 : Cond.code yX6_setDetail cX6_setDetail 5 (some .long) ∈ GW := gm 1623 (by decide +kernel) (by decide +kernel)
theorem k1626 : Cond.methodLink RL 225 yX6_threshold ∈ GW := gm 1626 (by decide +kernel) (by decide +kernel)
theorem k1627 : Cond.instanceMethod yX6_threshold ∈ GW := gm 1627 (by decide +kernel) (by decide +kernel)
theorem k1628 : Cond.selects RX6 yX6_threshold yX6_threshold ∈ GW := gm 1628 (by decide +kernel) (by decide +kernel)
theorem k1629 : Cond.code yX6_threshold cX6_threshold 3 (some .int) ∈ GW := gm 1629 (by decide +kernel) (by decide +kernel)
theorem k1634 : Cond.methodLink RL 228 yX6_quantize ∈ GW := gm 1634 (by decide +kernel) (by decide +kernel)
theorem k1635 : Cond.instanceMethod yX6_quantize ∈ GW := gm 1635 (by decide +kernel) (by decide +kernel)
theorem k1636 : Cond.selects RX6 yX6_quantize yX6_quantize ∈ GW := gm 1636 (by decide +kernel) (by decide +kernel)
theorem k1637 : Cond.code yX6_quantize cX6_quantize 13 (some .long) ∈ GW := gm 1637 (by decide +kernel) (by decide +kernel)
theorem k1638 : Cond.methodLink RL 231 yX6_keepLargest ∈ GW := gm 1638 (by decide +kernel) (by decide +kernel)
theorem k1639 : Cond.instanceMethod yX6_keepLargest ∈ GW := gm 1639 (by decide +kernel) (by decide +kernel)
theorem k1640 : Cond.selects RX6 yX6_keepLargest yX6_keepLargest ∈ GW := gm 1640 (by decide +kernel) (by decide +kernel)
theorem k1641 : Cond.code yX6_keepLargest cX6_keepLargest 6 (some .long) ∈ GW := gm 1641 (by decide +kernel) (by decide +kernel)
theorem k1642 : Cond.methodLink RL 234 yX6_error ∈ GW := gm 1642 (by decide +kernel) (by decide +kernel)
theorem k1643 : Cond.instanceMethod yX6_error ∈ GW := gm 1643 (by decide +kernel) (by decide +kernel)
theorem k1644 : Cond.selects RX6 yX6_error yX6_error ∈ GW := gm 1644 (by decide +kernel) (by decide +kernel)
theorem k1645 : Cond.code yX6_error cX6_error 2 (some .long) ∈ GW := gm 1645 (by decide +kernel) (by decide +kernel)
theorem k1658 : Cond.methodLink RL 237 yX6_errorWith ∈ GW := gm 1658 (by decide +kernel) (by decide +kernel)
theorem k1659 : Cond.instanceMethod yX6_errorWith ∈ GW := gm 1659 (by decide +kernel) (by decide +kernel)
theorem k1660 : Cond.selects RX6 yX6_errorWith yX6_errorWith ∈ GW := gm 1660 (by decide +kernel) (by decide +kernel)
theorem k1661 : Cond.code yX6_errorWith cX6_errorWith 3 (some .long) ∈ GW := gm 1661 (by decide +kernel) (by decide +kernel)
theorem k1666 : Cond.methodLink RL 240 yX6_bestThreshold ∈ GW := gm 1666 (by decide +kernel) (by decide +kernel)
theorem k1667 : Cond.instanceMethod yX6_bestThreshold ∈ GW := gm 1667 (by decide +kernel) (by decide +kernel)
theorem k1668 : Cond.selects RX6 yX6_bestThreshold yX6_bestThreshold ∈ GW := gm 1668 (by decide +kernel) (by decide +kernel)
theorem k1669 : Cond.code yX6_bestThreshold cX6_bestThreshold 3 (some .int) ∈ GW := gm 1669 (by decide +kernel) (by decide +kernel)
theorem k1678 : Cond.methodLink RL 250 yX6_bestScheme ∈ GW := gm 1678 (by decide +kernel) (by decide +kernel)
theorem k1679 : Cond.instanceMethod yX6_bestScheme ∈ GW := gm 1679 (by decide +kernel) (by decide +kernel)
theorem k1680 : Cond.selects RX6 yX6_bestScheme yX6_bestScheme ∈ GW := gm 1680 (by decide +kernel) (by decide +kernel)
theorem k1681 : Cond.code yX6_bestScheme cX6_bestScheme 5 (some .int) ∈ GW := gm 1681 (by decide +kernel) (by decide +kernel)
theorem k1682 : Cond.methodLink RL 253 yX6_reason ∈ GW := gm 1682 (by decide +kernel) (by decide +kernel)
theorem k1683 : Cond.instanceMethod yX6_reason ∈ GW := gm 1683 (by decide +kernel) (by decide +kernel)
theorem k1684 : Cond.selects RX6 yX6_reason yX6_reason ∈ GW := gm 1684 (by decide +kernel) (by decide +kernel)
theorem k1685 : Cond.code yX6_reason cX6_reason 2 (some .int) ∈ GW := gm 1685 (by decide +kernel) (by decide +kernel)
theorem k1686 : Cond.methodLink RL 257 yX6_reasonSample ∈ GW := gm 1686 (by decide +kernel) (by decide +kernel)
theorem k1687 : Cond.instanceMethod yX6_reasonSample ∈ GW := gm 1687 (by decide +kernel) (by decide +kernel)
theorem k1688 : Cond.selects RX6 yX6_reasonSample yX6_reasonSample ∈ GW := gm 1688 (by decide +kernel) (by decide +kernel)
theorem k1689 : Cond.code yX6_reasonSample cX6_reasonSample 1 (some .int) ∈ GW := gm 1689 (by decide +kernel) (by decide +kernel)
theorem dL_law_819 : decode cL_law 819 = .ok (.aload_n 1, 1) := by decide +kernel
theorem dL_law_820 : decode cL_law 820 = .ok (.aload_n 0, 1) := by decide +kernel
theorem dL_law_821 : decode cL_law 821 = .ok (.iload 4, 2) := by decide +kernel
theorem dL_law_823 : decode cL_law 823 = .ok (.iconst 1, 1) := by decide +kernel
theorem dL_law_824 : decode cL_law 824 = .ok (.iadd, 1) := by decide +kernel
theorem dL_law_825 : decode cL_law 825 = .ok (.iaload, 1) := by decide +kernel
theorem dL_law_826 : decode cL_law 826 = .ok (.aload_n 0, 1) := by decide +kernel
theorem dL_law_827 : decode cL_law 827 = .ok (.iload 4, 2) := by decide +kernel
theorem dL_law_829 : decode cL_law 829 = .ok (.iconst 2, 1) := by decide +kernel
theorem dL_law_830 : decode cL_law 830 = .ok (.iadd, 1) := by decide +kernel
theorem dL_law_831 : decode cL_law 831 = .ok (.iaload, 1) := by decide +kernel
theorem dL_law_832 : decode cL_law 832 = .ok (.aload_n 3, 1) := by decide +kernel
theorem dL_law_833 : decode cL_law 833 = .ok (.invokestatic 201, 3) := by decide +kernel
theorem dL_law_836 : decode cL_law 836 = .ok (.istore 5, 2) := by decide +kernel
theorem dL_law_838 : decode cL_law 838 = .ok (.aload_n 2, 1) := by decide +kernel
theorem dL_law_839 : decode cL_law 839 = .ok (.aload_n 0, 1) := by decide +kernel
theorem dL_law_840 : decode cL_law 840 = .ok (.iload 4, 2) := by decide +kernel
theorem dL_law_842 : decode cL_law 842 = .ok (.iconst 1, 1) := by decide +kernel
theorem dL_law_843 : decode cL_law 843 = .ok (.iadd, 1) := by decide +kernel
theorem dL_law_844 : decode cL_law 844 = .ok (.iaload, 1) := by decide +kernel
theorem dL_law_845 : decode cL_law 845 = .ok (.aload_n 0, 1) := by decide +kernel
theorem dL_law_846 : decode cL_law 846 = .ok (.iload 4, 2) := by decide +kernel
theorem dL_law_848 : decode cL_law 848 = .ok (.iconst 2, 1) := by decide +kernel
theorem dL_law_849 : decode cL_law 849 = .ok (.iadd, 1) := by decide +kernel
theorem dL_law_850 : decode cL_law 850 = .ok (.iaload, 1) := by decide +kernel
theorem dL_law_851 : decode cL_law 851 = .ok (.invokevirtual 203, 3) := by decide +kernel
theorem dL_law_854 : decode cL_law 854 = .ok (.lstore 6, 2) := by decide +kernel
theorem dL_law_856 : decode cL_law 856 = .ok (.goto 576, 3) := by decide +kernel
theorem dL_law_859 : decode cL_law 859 = .ok (.aload_n 1, 1) := by decide +kernel
theorem dL_law_860 : decode cL_law 860 = .ok (.aload_n 0, 1) := by decide +kernel
theorem dL_law_861 : decode cL_law 861 = .ok (.iload 4, 2) := by decide +kernel
theorem dL_law_863 : decode cL_law 863 = .ok (.iconst 1, 1) := by decide +kernel
theorem dL_law_864 : decode cL_law 864 = .ok (.iadd, 1) := by decide +kernel
theorem dL_law_865 : decode cL_law 865 = .ok (.iaload, 1) := by decide +kernel
theorem dL_law_866 : decode cL_law 866 = .ok (.aload_n 0, 1) := by decide +kernel
theorem dL_law_867 : decode cL_law 867 = .ok (.iload 4, 2) := by decide +kernel
theorem dL_law_869 : decode cL_law 869 = .ok (.iconst 2, 1) := by decide +kernel
theorem dL_law_870 : decode cL_law 870 = .ok (.iadd, 1) := by decide +kernel
theorem dL_law_871 : decode cL_law 871 = .ok (.iaload, 1) := by decide +kernel
theorem dL_law_872 : decode cL_law 872 = .ok (.aload_n 3, 1) := by decide +kernel
theorem dL_law_873 : decode cL_law 873 = .ok (.invokestatic 204, 3) := by decide +kernel
theorem dL_law_876 : decode cL_law 876 = .ok (.istore 5, 2) := by decide +kernel
theorem dL_law_878 : decode cL_law 878 = .ok (.aload_n 2, 1) := by decide +kernel
theorem dL_law_879 : decode cL_law 879 = .ok (.aload_n 0, 1) := by decide +kernel
theorem dL_law_880 : decode cL_law 880 = .ok (.iload 4, 2) := by decide +kernel
theorem dL_law_882 : decode cL_law 882 = .ok (.iconst 1, 1) := by decide +kernel
theorem dL_law_883 : decode cL_law 883 = .ok (.iadd, 1) := by decide +kernel
theorem dL_law_884 : decode cL_law 884 = .ok (.iaload, 1) := by decide +kernel
theorem dL_law_885 : decode cL_law 885 = .ok (.aload_n 0, 1) := by decide +kernel
theorem dL_law_886 : decode cL_law 886 = .ok (.iload 4, 2) := by decide +kernel
theorem dL_law_888 : decode cL_law 888 = .ok (.iconst 2, 1) := by decide +kernel
theorem dL_law_889 : decode cL_law 889 = .ok (.iadd, 1) := by decide +kernel
theorem dL_law_890 : decode cL_law 890 = .ok (.iaload, 1) := by decide +kernel
theorem dL_law_891 : decode cL_law 891 = .ok (.invokevirtual 206, 3) := by decide +kernel
theorem dL_law_894 : decode cL_law 894 = .ok (.lstore 6, 2) := by decide +kernel
theorem dL_law_896 : decode cL_law 896 = .ok (.goto 536, 3) := by decide +kernel
theorem dL_law_899 : decode cL_law 899 = .ok (.aload_n 1, 1) := by decide +kernel
theorem dL_law_900 : decode cL_law 900 = .ok (.invokevirtual 207, 3) := by decide +kernel
theorem dL_law_903 : decode cL_law 903 = .ok (.pop, 1) := by decide +kernel
theorem dL_law_904 : decode cL_law 904 = .ok (.aload_n 2, 1) := by decide +kernel
theorem dL_law_905 : decode cL_law 905 = .ok (.invokevirtual 210, 3) := by decide +kernel
theorem dL_law_908 : decode cL_law 908 = .ok (.pop, 1) := by decide +kernel
theorem dL_law_909 : decode cL_law 909 = .ok (.goto 523, 3) := by decide +kernel
theorem dL_law_912 : decode cL_law 912 = .ok (.aload_n 1, 1) := by decide +kernel
theorem dL_law_913 : decode cL_law 913 = .ok (.aload_n 0, 1) := by decide +kernel
theorem dL_law_914 : decode cL_law 914 = .ok (.iload 4, 2) := by decide +kernel
theorem dL_law_916 : decode cL_law 916 = .ok (.iconst 1, 1) := by decide +kernel
theorem dL_law_917 : decode cL_law 917 = .ok (.iadd, 1) := by decide +kernel
theorem dL_law_918 : decode cL_law 918 = .ok (.iaload, 1) := by decide +kernel
theorem dL_law_919 : decode cL_law 919 = .ok (.aload_n 3, 1) := by decide +kernel
theorem dL_law_920 : decode cL_law 920 = .ok (.invokestatic 211, 3) := by decide +kernel
theorem dL_law_923 : decode cL_law 923 = .ok (.istore 5, 2) := by decide +kernel
theorem dL_law_925 : decode cL_law 925 = .ok (.aload_n 2, 1) := by decide +kernel
theorem dL_law_926 : decode cL_law 926 = .ok (.aload_n 0, 1) := by decide +kernel
theorem dL_law_927 : decode cL_law 927 = .ok (.iload 4, 2) := by decide +kernel
theorem dL_law_929 : decode cL_law 929 = .ok (.iconst 1, 1) := by decide +kernel
theorem dL_law_930 : decode cL_law 930 = .ok (.iadd, 1) := by decide +kernel
theorem dL_law_931 : decode cL_law 931 = .ok (.iaload, 1) := by decide +kernel
theorem dL_law_932 : decode cL_law 932 = .ok (.invokevirtual 213, 3) := by decide +kernel
theorem dL_law_935 : decode cL_law 935 = .ok (.istore 6, 2) := by decide +kernel
theorem dL_law_937 : decode cL_law 937 = .ok (.goto 495, 3) := by decide +kernel
theorem dL_law_940 : decode cL_law 940 = .ok (.aload_n 1, 1) := by decide +kernel
theorem dL_law_941 : decode cL_law 941 = .ok (.aload_n 0, 1) := by decide +kernel
theorem dL_law_942 : decode cL_law 942 = .ok (.iload 4, 2) := by decide +kernel
theorem dL_law_944 : decode cL_law 944 = .ok (.iconst 1, 1) := by decide +kernel
theorem dL_law_945 : decode cL_law 945 = .ok (.iadd, 1) := by decide +kernel
theorem dL_law_946 : decode cL_law 946 = .ok (.iaload, 1) := by decide +kernel
theorem dL_law_947 : decode cL_law 947 = .ok (.aload_n 3, 1) := by decide +kernel
theorem dL_law_948 : decode cL_law 948 = .ok (.invokestatic 214, 3) := by decide +kernel
theorem dL_law_951 : decode cL_law 951 = .ok (.istore 5, 2) := by decide +kernel
theorem dL_law_953 : decode cL_law 953 = .ok (.aload_n 2, 1) := by decide +kernel
theorem dL_law_954 : decode cL_law 954 = .ok (.aload_n 0, 1) := by decide +kernel
theorem dL_law_955 : decode cL_law 955 = .ok (.iload 4, 2) := by decide +kernel
theorem dL_law_957 : decode cL_law 957 = .ok (.iconst 1, 1) := by decide +kernel
theorem dL_law_958 : decode cL_law 958 = .ok (.iadd, 1) := by decide +kernel
theorem dL_law_959 : decode cL_law 959 = .ok (.iaload, 1) := by decide +kernel
theorem dL_law_960 : decode cL_law 960 = .ok (.invokevirtual 216, 3) := by decide +kernel
theorem dL_law_963 : decode cL_law 963 = .ok (.lstore 6, 2) := by decide +kernel
theorem dL_law_965 : decode cL_law 965 = .ok (.goto 467, 3) := by decide +kernel
theorem dL_law_968 : decode cL_law 968 = .ok (.aload_n 1, 1) := by decide +kernel
theorem dL_law_969 : decode cL_law 969 = .ok (.aload_n 0, 1) := by decide +kernel
theorem dL_law_970 : decode cL_law 970 = .ok (.iload 4, 2) := by decide +kernel
theorem dL_law_972 : decode cL_law 972 = .ok (.iconst 1, 1) := by decide +kernel
theorem dL_law_973 : decode cL_law 973 = .ok (.iadd, 1) := by decide +kernel
theorem dL_law_974 : decode cL_law 974 = .ok (.iaload, 1) := by decide +kernel
theorem dL_law_975 : decode cL_law 975 = .ok (.aload_n 3, 1) := by decide +kernel
theorem dL_law_976 : decode cL_law 976 = .ok (.invokestatic 217, 3) := by decide +kernel
theorem dL_law_979 : decode cL_law 979 = .ok (.istore 5, 2) := by decide +kernel
theorem dL_law_981 : decode cL_law 981 = .ok (.aload_n 2, 1) := by decide +kernel
theorem dL_law_982 : decode cL_law 982 = .ok (.aload_n 0, 1) := by decide +kernel
theorem dL_law_983 : decode cL_law 983 = .ok (.iload 4, 2) := by decide +kernel
theorem dL_law_985 : decode cL_law 985 = .ok (.iconst 1, 1) := by decide +kernel
theorem dL_law_986 : decode cL_law 986 = .ok (.iadd, 1) := by decide +kernel
theorem dL_law_987 : decode cL_law 987 = .ok (.iaload, 1) := by decide +kernel
theorem dL_law_988 : decode cL_law 988 = .ok (.invokevirtual 219, 3) := by decide +kernel
theorem dL_law_991 : decode cL_law 991 = .ok (.istore 6, 2) := by decide +kernel
theorem dL_law_993 : decode cL_law 993 = .ok (.goto 439, 3) := by decide +kernel
theorem dL_law_996 : decode cL_law 996 = .ok (.aload_n 1, 1) := by decide +kernel
theorem dL_law_997 : decode cL_law 997 = .ok (.aload_n 0, 1) := by decide +kernel
theorem dL_law_998 : decode cL_law 998 = .ok (.iload 4, 2) := by decide +kernel
theorem dL_law_1000 : decode cL_law 1000 = .ok (.iconst 1, 1) := by decide +kernel
theorem dL_law_1001 : decode cL_law 1001 = .ok (.iadd, 1) := by decide +kernel
theorem dL_law_1002 : decode cL_law 1002 = .ok (.iaload, 1) := by decide +kernel
theorem dL_law_1003 : decode cL_law 1003 = .ok (.aload_n 0, 1) := by decide +kernel
theorem dL_law_1004 : decode cL_law 1004 = .ok (.iload 4, 2) := by decide +kernel
theorem dL_law_1006 : decode cL_law 1006 = .ok (.iconst 2, 1) := by decide +kernel
theorem dL_law_1007 : decode cL_law 1007 = .ok (.iadd, 1) := by decide +kernel
theorem dL_law_1008 : decode cL_law 1008 = .ok (.iaload, 1) := by decide +kernel
theorem dL_law_1009 : decode cL_law 1009 = .ok (.aload_n 3, 1) := by decide +kernel
theorem dL_law_1010 : decode cL_law 1010 = .ok (.invokestatic 220, 3) := by decide +kernel
theorem dL_law_1013 : decode cL_law 1013 = .ok (.istore 5, 2) := by decide +kernel
theorem dL_law_1015 : decode cL_law 1015 = .ok (.aload_n 2, 1) := by decide +kernel
theorem dL_law_1016 : decode cL_law 1016 = .ok (.aload_n 0, 1) := by decide +kernel
theorem dL_law_1017 : decode cL_law 1017 = .ok (.iload 4, 2) := by decide +kernel
theorem dL_law_1019 : decode cL_law 1019 = .ok (.iconst 1, 1) := by decide +kernel
theorem dL_law_1020 : decode cL_law 1020 = .ok (.iadd, 1) := by decide +kernel
theorem dL_law_1021 : decode cL_law 1021 = .ok (.iaload, 1) := by decide +kernel
theorem dL_law_1022 : decode cL_law 1022 = .ok (.aload_n 0, 1) := by decide +kernel
theorem dL_law_1023 : decode cL_law 1023 = .ok (.iload 4, 2) := by decide +kernel
theorem dL_law_1025 : decode cL_law 1025 = .ok (.iconst 2, 1) := by decide +kernel
theorem dL_law_1026 : decode cL_law 1026 = .ok (.iadd, 1) := by decide +kernel
theorem dL_law_1027 : decode cL_law 1027 = .ok (.iaload, 1) := by decide +kernel
theorem dL_law_1028 : decode cL_law 1028 = .ok (.invokevirtual 222, 3) := by decide +kernel
theorem dL_law_1031 : decode cL_law 1031 = .ok (.lstore 6, 2) := by decide +kernel
theorem dL_law_1033 : decode cL_law 1033 = .ok (.goto 399, 3) := by decide +kernel
theorem dL_law_1036 : decode cL_law 1036 = .ok (.aload_n 1, 1) := by decide +kernel
theorem dL_law_1037 : decode cL_law 1037 = .ok (.aload_n 0, 1) := by decide +kernel
theorem dL_law_1038 : decode cL_law 1038 = .ok (.iload 4, 2) := by decide +kernel
theorem dL_law_1040 : decode cL_law 1040 = .ok (.iconst 1, 1) := by decide +kernel
theorem dL_law_1041 : decode cL_law 1041 = .ok (.iadd, 1) := by decide +kernel
theorem dL_law_1042 : decode cL_law 1042 = .ok (.iaload, 1) := by decide +kernel
theorem dL_law_1043 : decode cL_law 1043 = .ok (.aload_n 0, 1) := by decide +kernel
theorem dL_law_1044 : decode cL_law 1044 = .ok (.iload 4, 2) := by decide +kernel
theorem dL_law_1046 : decode cL_law 1046 = .ok (.iconst 2, 1) := by decide +kernel
theorem dL_law_1047 : decode cL_law 1047 = .ok (.iadd, 1) := by decide +kernel
theorem dL_law_1048 : decode cL_law 1048 = .ok (.iaload, 1) := by decide +kernel
theorem dL_law_1049 : decode cL_law 1049 = .ok (.ifCond .eq 7, 3) := by decide +kernel
theorem dL_law_1052 : decode cL_law 1052 = .ok (.iconst 1, 1) := by decide +kernel
theorem dL_law_1053 : decode cL_law 1053 = .ok (.goto 4, 3) := by decide +kernel
theorem dL_law_1056 : decode cL_law 1056 = .ok (.iconst 0, 1) := by decide +kernel
theorem dL_law_1057 : decode cL_law 1057 = .ok (.aload_n 3, 1) := by decide +kernel
theorem dL_law_1058 : decode cL_law 1058 = .ok (.invokestatic 223, 3) := by decide +kernel
theorem dL_law_1061 : decode cL_law 1061 = .ok (.istore 5, 2) := by decide +kernel
theorem dL_law_1063 : decode cL_law 1063 = .ok (.aload_n 2, 1) := by decide +kernel
theorem dL_law_1064 : decode cL_law 1064 = .ok (.aload_n 0, 1) := by decide +kernel
theorem dL_law_1065 : decode cL_law 1065 = .ok (.iload 4, 2) := by decide +kernel
theorem dL_law_1067 : decode cL_law 1067 = .ok (.iconst 1, 1) := by decide +kernel
theorem dL_law_1068 : decode cL_law 1068 = .ok (.iadd, 1) := by decide +kernel
theorem dL_law_1069 : decode cL_law 1069 = .ok (.iaload, 1) := by decide +kernel
theorem dL_law_1070 : decode cL_law 1070 = .ok (.aload_n 0, 1) := by decide +kernel
theorem dL_law_1071 : decode cL_law 1071 = .ok (.iload 4, 2) := by decide +kernel
theorem dL_law_1073 : decode cL_law 1073 = .ok (.iconst 2, 1) := by decide +kernel
theorem dL_law_1074 : decode cL_law 1074 = .ok (.iadd, 1) := by decide +kernel
theorem dL_law_1075 : decode cL_law 1075 = .ok (.iaload, 1) := by decide +kernel
theorem dL_law_1076 : decode cL_law 1076 = .ok (.ifCond .eq 7, 3) := by decide +kernel
theorem dL_law_1079 : decode cL_law 1079 = .ok (.iconst 1, 1) := by decide +kernel
theorem dL_law_1080 : decode cL_law 1080 = .ok (.goto 4, 3) := by decide +kernel
theorem dL_law_1083 : decode cL_law 1083 = .ok (.iconst 0, 1) := by decide +kernel
theorem dL_law_1084 : decode cL_law 1084 = .ok (.invokevirtual 225, 3) := by decide +kernel
theorem dL_law_1087 : decode cL_law 1087 = .ok (.istore 6, 2) := by decide +kernel
theorem dL_law_1089 : decode cL_law 1089 = .ok (.goto 343, 3) := by decide +kernel
theorem dL_law_1092 : decode cL_law 1092 = .ok (.aload_n 1, 1) := by decide +kernel
theorem dL_law_1093 : decode cL_law 1093 = .ok (.aload_n 0, 1) := by decide +kernel
theorem dL_law_1094 : decode cL_law 1094 = .ok (.iload 4, 2) := by decide +kernel
theorem dL_law_1096 : decode cL_law 1096 = .ok (.iconst 1, 1) := by decide +kernel
theorem dL_law_1097 : decode cL_law 1097 = .ok (.iadd, 1) := by decide +kernel
theorem dL_law_1098 : decode cL_law 1098 = .ok (.iaload, 1) := by decide +kernel
theorem dL_law_1099 : decode cL_law 1099 = .ok (.aload_n 3, 1) := by decide +kernel
theorem dL_law_1100 : decode cL_law 1100 = .ok (.invokestatic 226, 3) := by decide +kernel
theorem dL_law_1103 : decode cL_law 1103 = .ok (.istore 5, 2) := by decide +kernel
theorem dL_law_1105 : decode cL_law 1105 = .ok (.aload_n 2, 1) := by decide +kernel
theorem dL_law_1106 : decode cL_law 1106 = .ok (.aload_n 0, 1) := by decide +kernel
theorem dL_law_1107 : decode cL_law 1107 = .ok (.iload 4, 2) := by decide +kernel
theorem dL_law_1109 : decode cL_law 1109 = .ok (.iconst 1, 1) := by decide +kernel
theorem dL_law_1110 : decode cL_law 1110 = .ok (.iadd, 1) := by decide +kernel
theorem dL_law_1111 : decode cL_law 1111 = .ok (.iaload, 1) := by decide +kernel
theorem dL_law_1112 : decode cL_law 1112 = .ok (.invokevirtual 228, 3) := by decide +kernel
theorem dL_law_1115 : decode cL_law 1115 = .ok (.lstore 6, 2) := by decide +kernel
theorem dL_law_1117 : decode cL_law 1117 = .ok (.goto 315, 3) := by decide +kernel
theorem dL_law_1120 : decode cL_law 1120 = .ok (.aload_n 1, 1) := by decide +kernel
theorem dL_law_1121 : decode cL_law 1121 = .ok (.aload_n 0, 1) := by decide +kernel
theorem dL_law_1122 : decode cL_law 1122 = .ok (.iload 4, 2) := by decide +kernel
theorem dL_law_1124 : decode cL_law 1124 = .ok (.iconst 1, 1) := by decide +kernel
theorem dL_law_1125 : decode cL_law 1125 = .ok (.iadd, 1) := by decide +kernel
theorem dL_law_1126 : decode cL_law 1126 = .ok (.iaload, 1) := by decide +kernel
theorem dL_law_1127 : decode cL_law 1127 = .ok (.aload_n 3, 1) := by decide +kernel
theorem dL_law_1128 : decode cL_law 1128 = .ok (.invokestatic 229, 3) := by decide +kernel
theorem dL_law_1131 : decode cL_law 1131 = .ok (.istore 5, 2) := by decide +kernel
theorem dL_law_1133 : decode cL_law 1133 = .ok (.aload_n 2, 1) := by decide +kernel
theorem dL_law_1134 : decode cL_law 1134 = .ok (.aload_n 0, 1) := by decide +kernel
theorem dL_law_1135 : decode cL_law 1135 = .ok (.iload 4, 2) := by decide +kernel
theorem dL_law_1137 : decode cL_law 1137 = .ok (.iconst 1, 1) := by decide +kernel
theorem dL_law_1138 : decode cL_law 1138 = .ok (.iadd, 1) := by decide +kernel
theorem dL_law_1139 : decode cL_law 1139 = .ok (.iaload, 1) := by decide +kernel
theorem dL_law_1140 : decode cL_law 1140 = .ok (.invokevirtual 231, 3) := by decide +kernel
theorem dL_law_1143 : decode cL_law 1143 = .ok (.lstore 6, 2) := by decide +kernel
theorem dL_law_1145 : decode cL_law 1145 = .ok (.goto 287, 3) := by decide +kernel
theorem dL_law_1148 : decode cL_law 1148 = .ok (.aload_n 1, 1) := by decide +kernel
theorem dL_law_1149 : decode cL_law 1149 = .ok (.aload_n 0, 1) := by decide +kernel
theorem dL_law_1150 : decode cL_law 1150 = .ok (.iload 4, 2) := by decide +kernel
theorem dL_law_1152 : decode cL_law 1152 = .ok (.iconst 1, 1) := by decide +kernel
theorem dL_law_1153 : decode cL_law 1153 = .ok (.iadd, 1) := by decide +kernel
theorem dL_law_1154 : decode cL_law 1154 = .ok (.iaload, 1) := by decide +kernel
theorem dL_law_1155 : decode cL_law 1155 = .ok (.aload_n 3, 1) := by decide +kernel
theorem dL_law_1156 : decode cL_law 1156 = .ok (.invokestatic 232, 3) := by decide +kernel
theorem dL_law_1159 : decode cL_law 1159 = .ok (.istore 5, 2) := by decide +kernel
theorem dL_law_1161 : decode cL_law 1161 = .ok (.aload_n 2, 1) := by decide +kernel
theorem dL_law_1162 : decode cL_law 1162 = .ok (.aload_n 0, 1) := by decide +kernel
theorem dL_law_1163 : decode cL_law 1163 = .ok (.iload 4, 2) := by decide +kernel
theorem dL_law_1165 : decode cL_law 1165 = .ok (.iconst 1, 1) := by decide +kernel
theorem dL_law_1166 : decode cL_law 1166 = .ok (.iadd, 1) := by decide +kernel
theorem dL_law_1167 : decode cL_law 1167 = .ok (.iaload, 1) := by decide +kernel
theorem dL_law_1168 : decode cL_law 1168 = .ok (.invokevirtual 234, 3) := by decide +kernel
theorem dL_law_1171 : decode cL_law 1171 = .ok (.lstore 6, 2) := by decide +kernel
theorem dL_law_1173 : decode cL_law 1173 = .ok (.goto 259, 3) := by decide +kernel
theorem dL_law_1176 : decode cL_law 1176 = .ok (.aload_n 1, 1) := by decide +kernel
theorem dL_law_1177 : decode cL_law 1177 = .ok (.aload_n 0, 1) := by decide +kernel
theorem dL_law_1178 : decode cL_law 1178 = .ok (.iload 4, 2) := by decide +kernel
theorem dL_law_1180 : decode cL_law 1180 = .ok (.iconst 1, 1) := by decide +kernel
theorem dL_law_1181 : decode cL_law 1181 = .ok (.iadd, 1) := by decide +kernel
theorem dL_law_1182 : decode cL_law 1182 = .ok (.iaload, 1) := by decide +kernel
theorem dL_law_1183 : decode cL_law 1183 = .ok (.aload_n 0, 1) := by decide +kernel
theorem dL_law_1184 : decode cL_law 1184 = .ok (.iload 4, 2) := by decide +kernel
theorem dL_law_1186 : decode cL_law 1186 = .ok (.iconst 2, 1) := by decide +kernel
theorem dL_law_1187 : decode cL_law 1187 = .ok (.iadd, 1) := by decide +kernel
theorem dL_law_1188 : decode cL_law 1188 = .ok (.iaload, 1) := by decide +kernel
theorem dL_law_1189 : decode cL_law 1189 = .ok (.ifCond .eq 7, 3) := by decide +kernel
theorem dL_law_1192 : decode cL_law 1192 = .ok (.iconst 1, 1) := by decide +kernel
theorem dL_law_1193 : decode cL_law 1193 = .ok (.goto 4, 3) := by decide +kernel
theorem dL_law_1196 : decode cL_law 1196 = .ok (.iconst 0, 1) := by decide +kernel
theorem dL_law_1197 : decode cL_law 1197 = .ok (.aload_n 3, 1) := by decide +kernel
theorem dL_law_1198 : decode cL_law 1198 = .ok (.invokestatic 235, 3) := by decide +kernel
theorem dL_law_1201 : decode cL_law 1201 = .ok (.istore 5, 2) := by decide +kernel
theorem dL_law_1203 : decode cL_law 1203 = .ok (.aload_n 2, 1) := by decide +kernel
theorem dL_law_1204 : decode cL_law 1204 = .ok (.aload_n 0, 1) := by decide +kernel
theorem dL_law_1205 : decode cL_law 1205 = .ok (.iload 4, 2) := by decide +kernel
theorem dL_law_1207 : decode cL_law 1207 = .ok (.iconst 1, 1) := by decide +kernel
theorem dL_law_1208 : decode cL_law 1208 = .ok (.iadd, 1) := by decide +kernel
theorem dL_law_1209 : decode cL_law 1209 = .ok (.iaload, 1) := by decide +kernel
theorem dL_law_1210 : decode cL_law 1210 = .ok (.aload_n 0, 1) := by decide +kernel
theorem dL_law_1211 : decode cL_law 1211 = .ok (.iload 4, 2) := by decide +kernel
theorem dL_law_1213 : decode cL_law 1213 = .ok (.iconst 2, 1) := by decide +kernel
theorem dL_law_1214 : decode cL_law 1214 = .ok (.iadd, 1) := by decide +kernel
theorem dL_law_1215 : decode cL_law 1215 = .ok (.iaload, 1) := by decide +kernel
theorem dL_law_1216 : decode cL_law 1216 = .ok (.ifCond .eq 7, 3) := by decide +kernel
theorem dL_law_1219 : decode cL_law 1219 = .ok (.iconst 1, 1) := by decide +kernel
theorem dL_law_1220 : decode cL_law 1220 = .ok (.goto 4, 3) := by decide +kernel
theorem dL_law_1223 : decode cL_law 1223 = .ok (.iconst 0, 1) := by decide +kernel
theorem dL_law_1224 : decode cL_law 1224 = .ok (.invokevirtual 237, 3) := by decide +kernel
theorem dL_law_1227 : decode cL_law 1227 = .ok (.lstore 6, 2) := by decide +kernel
theorem dL_law_1229 : decode cL_law 1229 = .ok (.goto 203, 3) := by decide +kernel
theorem dL_law_1232 : decode cL_law 1232 = .ok (.aload_n 1, 1) := by decide +kernel
theorem dL_law_1233 : decode cL_law 1233 = .ok (.aload_n 0, 1) := by decide +kernel
theorem dL_law_1234 : decode cL_law 1234 = .ok (.iload 4, 2) := by decide +kernel
theorem dL_law_1236 : decode cL_law 1236 = .ok (.iconst 1, 1) := by decide +kernel
theorem dL_law_1237 : decode cL_law 1237 = .ok (.iadd, 1) := by decide +kernel
theorem dL_law_1238 : decode cL_law 1238 = .ok (.iaload, 1) := by decide +kernel
theorem dL_law_1239 : decode cL_law 1239 = .ok (.aload_n 3, 1) := by decide +kernel
theorem dL_law_1240 : decode cL_law 1240 = .ok (.invokestatic 238, 3) := by decide +kernel
theorem dL_law_1243 : decode cL_law 1243 = .ok (.istore 5, 2) := by decide +kernel
theorem dL_law_1245 : decode cL_law 1245 = .ok (.aload_n 2, 1) := by decide +kernel
theorem dL_law_1246 : decode cL_law 1246 = .ok (.aload_n 0, 1) := by decide +kernel
theorem dL_law_1247 : decode cL_law 1247 = .ok (.iload 4, 2) := by decide +kernel
theorem dL_law_1249 : decode cL_law 1249 = .ok (.iconst 1, 1) := by decide +kernel
theorem dL_law_1250 : decode cL_law 1250 = .ok (.iadd, 1) := by decide +kernel
theorem dL_law_1251 : decode cL_law 1251 = .ok (.iaload, 1) := by decide +kernel
theorem dL_law_1252 : decode cL_law 1252 = .ok (.invokevirtual 240, 3) := by decide +kernel
theorem dL_law_1255 : decode cL_law 1255 = .ok (.istore 6, 2) := by decide +kernel
theorem dL_law_1257 : decode cL_law 1257 = .ok (.goto 175, 3) := by decide +kernel
theorem dL_law_1328 : decode cL_law 1328 = .ok (.aload_n 1, 1) := by decide +kernel
theorem dL_law_1329 : decode cL_law 1329 = .ok (.invokevirtual 247, 3) := by decide +kernel
theorem dL_law_1332 : decode cL_law 1332 = .ok (.pop, 1) := by decide +kernel
theorem dL_law_1333 : decode cL_law 1333 = .ok (.aload_n 2, 1) := by decide +kernel
theorem dL_law_1334 : decode cL_law 1334 = .ok (.invokevirtual 250, 3) := by decide +kernel
theorem dL_law_1337 : decode cL_law 1337 = .ok (.pop, 1) := by decide +kernel
theorem dL_law_1338 : decode cL_law 1338 = .ok (.goto 94, 3) := by decide +kernel
theorem dL_law_1341 : decode cL_law 1341 = .ok (.aload_n 1, 1) := by decide +kernel
theorem dL_law_1342 : decode cL_law 1342 = .ok (.aload_n 0, 1) := by decide +kernel
theorem dL_law_1343 : decode cL_law 1343 = .ok (.iload 4, 2) := by decide +kernel
theorem dL_law_1345 : decode cL_law 1345 = .ok (.iconst 1, 1) := by decide +kernel
theorem dL_law_1346 : decode cL_law 1346 = .ok (.iadd, 1) := by decide +kernel
theorem dL_law_1347 : decode cL_law 1347 = .ok (.iaload, 1) := by decide +kernel
theorem dL_law_1348 : decode cL_law 1348 = .ok (.aload_n 3, 1) := by decide +kernel
theorem dL_law_1349 : decode cL_law 1349 = .ok (.invokestatic 251, 3) := by decide +kernel
theorem dL_law_1352 : decode cL_law 1352 = .ok (.istore 5, 2) := by decide +kernel
theorem dL_law_1354 : decode cL_law 1354 = .ok (.aload_n 2, 1) := by decide +kernel
theorem dL_law_1355 : decode cL_law 1355 = .ok (.aload_n 0, 1) := by decide +kernel
theorem dL_law_1356 : decode cL_law 1356 = .ok (.iload 4, 2) := by decide +kernel
theorem dL_law_1358 : decode cL_law 1358 = .ok (.iconst 1, 1) := by decide +kernel
theorem dL_law_1359 : decode cL_law 1359 = .ok (.iadd, 1) := by decide +kernel
theorem dL_law_1360 : decode cL_law 1360 = .ok (.iaload, 1) := by decide +kernel
theorem dL_law_1361 : decode cL_law 1361 = .ok (.invokevirtual 253, 3) := by decide +kernel
theorem dL_law_1364 : decode cL_law 1364 = .ok (.istore 6, 2) := by decide +kernel
theorem dL_law_1366 : decode cL_law 1366 = .ok (.goto 66, 3) := by decide +kernel
theorem dL_law_1369 : decode cL_law 1369 = .ok (.aload_n 1, 1) := by decide +kernel
theorem dL_law_1370 : decode cL_law 1370 = .ok (.invokevirtual 254, 3) := by decide +kernel
theorem dL_law_1373 : decode cL_law 1373 = .ok (.pop, 1) := by decide +kernel
theorem dL_law_1374 : decode cL_law 1374 = .ok (.aload_n 2, 1) := by decide +kernel
theorem dL_law_1375 : decode cL_law 1375 = .ok (.invokevirtual 257, 3) := by decide +kernel
theorem dL_law_1378 : decode cL_law 1378 = .ok (.pop, 1) := by decide +kernel
theorem dL_law_1379 : decode cL_law 1379 = .ok (.goto 53, 3) := by decide +kernel
set_option maxHeartbeats 4000000 in
set_option maxRecDepth 100000 in
theorem lc_22 (l : Launch) (κ : Kt) (σ0 : Gh) (x mm out b : Nat) (t_x : zk σ0 x 7) (t_mm : zk σ0 mm 20) (t_out : zk σ0 out 24) (ttx0 : zk σ0 (kR κ x 0) 6) (hdis : DIS κ x) (hlt : l.stackTraces = false) {p : Program} {e : Env} {s : State} {m : MethodId} {below : List Frame} {meth : Method} {c : Code} {L : Nat} {xs : Nat → Int32} {i : Int32} {Q9 : State → Prop} (hx : p.tables.exec = Jvm.exec) (hb : c.code = cL_law) (hml : c.maxLocals = 9) (hown : s.vm.findClass RL = some m.cls) (hg : ∀ w ∈ GW, w.before #[Value.ref b] s = true) (hK : va_K κ.1 vwCl (kTy κ) s) (hX : XY κ (tA σ0 s.heap.size) s s.heap) (hXs : va_X b L xs s s.heap) (hbl : b < s.heap.size) (hbA : ¬ tA σ0 s.heap.size b) (zx : zroomX κ s room_1 601024 7293034) (hi0 : 0 ≤ i.toInt) (hi1 : i.toInt + 6 ≤ L) (hL9 : L ≤ 3072) {σ : Gh} {H : Heap} {locs : List Loc} {ls : Array Slot} (hT : TS κ fA σ0 σ s H locs) (hR : RI κ σ mm) (hrel : LREL κ σ x mm) (hsr : SREL κ σ x mm) (hsm : SMP κ σ x mm) (hl : lv_has ls 9 [(4, .int i), (3, .ref out), (2, .ref mm), (1, .ref x), (0, .ref b)]) (KK : ∀ (σ1 : Gh) (H : Heap) (locs : List Loc) (ls : Array Slot), TS (kX κ) fA σ0 σ1 s H locs → RI (kX κ) σ1 mm → LREL κ σ1 x mm → SREL κ σ1 x mm → SMP κ σ1 x mm → lv_has ls 9 [(4, .int i), (3, .ref out), (2, .ref mm), (1, .ref x), (0, .ref b)] → W p l e room_1 s m #[Value.ref b] below meth c H locs 601024 7293034 Q9 (F0 m 1432 ls [])) : W p l e room_1 s m #[Value.ref b] below meth c H locs 601024 7293034 Q9 (F0 m 819 ls []) := by
  obtain ⟨y1, hy1⟩ : ∃ z, z = xs (ix i + 1) := ⟨_, rfl⟩
  obtain ⟨y2, hy2⟩ : ∃ z, z = xs (ix i + 2) := ⟨_, rfl⟩
  obtain ⟨y3, hy3⟩ : ∃ z, z = xs (ix i + 3) := ⟨_, rfl⟩
  obtain ⟨y4, hy4⟩ : ∃ z, z = xs (ix i + 4) := ⟨_, rfl⟩
  obtain ⟨y5, hy5⟩ : ∃ z, z = xs (ix i + 5) := ⟨_, rfl⟩
  have n0 : (0 : Int32).toInt = 0 := by decide
  have n1 : (1 : Int32).toInt = 1 := by decide
  have n2 : (2 : Int32).toInt = 2 := by decide
  have n3 : (3 : Int32).toInt = 3 := by decide
  have n4 : (4 : Int32).toInt = 4 := by decide
  have n5 : (5 : Int32).toInt = 5 := by decide
  obtain ⟨tx, etx⟩ : ∃ z, kR κ x 0 = z := ⟨_, rfl⟩
  have ttx : zk σ0 tx 6 := by rw [← etx]; exact ttx0
  obtain ⟨rB, erB⟩ : ∃ z, kR κ tx 0 = z := ⟨_, rfl⟩
  have trB : zk σ0 rB 14 := by rw [← erB]; exact hT.kr (hT.ref (hT.k ttx (by decide)) (by decide) (by decide) (by decide)) (by decide) (by decide)
  obtain ⟨rT, erT⟩ : ∃ z, kR κ mm 12 = z := ⟨_, rfl⟩
  have trT : zk σ0 rT 23 := by rw [← erT]; exact hT.kr (hT.ref (hT.k t_mm (by decide)) (by decide) (by decide) (by decide)) (by decide) (by decide)
  obtain ⟨rI, erI⟩ : ∃ z, kR κ x 6 = z := ⟨_, rfl⟩
  have trI : zk σ0 rI 13 := by rw [← erI]; exact hT.kr (hT.ref (hT.k t_x (by decide)) (by decide) (by decide) (by decide)) (by decide) (by decide)
  obtain ⟨rK, erK⟩ : ∃ z, kR κ mm 4 = z := ⟨_, rfl⟩
  have trK : zk σ0 rK 29 := by rw [← erK]; exact hT.kr (hT.ref (hT.k t_mm (by decide)) (by decide) (by decide) (by decide)) (by decide) (by decide)
  obtain ⟨hlen, ⟨hal, hnn⟩, ⟨hco, hpo⟩, hkp⟩ := hrel
  rw [etx] at hlen hal hco hpo
  rw [erB, erT] at hal
  rw [erT] at hnn
  rw [erI, erK] at hkp
  have btx := (hT.P (hT.k ttx (by decide)) (by decide)).1
  have btxl := btx.1
  have btxh := btx.2
  obtain ⟨nw, enw⟩ : ∃ z, kR κ x 3 = z := ⟨_, rfl⟩
  have tnw : zk σ0 nw 3 := by rw [← enw]; exact hT.kr (hT.ref (hT.k t_x (by decide)) (by decide) (by decide) (by decide)) (by decide) (by decide)
  obtain ⟨tr, etr⟩ : ∃ z, kR κ x 4 = z := ⟨_, rfl⟩
  have ttr : zk σ0 tr 3 := by rw [← etr]; exact hT.kr (hT.ref (hT.k t_x (by decide)) (by decide) (by decide) (by decide)) (by decide) (by decide)
  obtain ⟨rs5, ers5⟩ : ∃ z, kR κ x 5 = z := ⟨_, rfl⟩
  have trs5 : zk σ0 rs5 12 := by rw [← ers5]; exact hT.kr (hT.ref (hT.k t_x (by decide)) (by decide) (by decide) (by decide)) (by decide) (by decide)
  obtain ⟨sl0, esl0⟩ : ∃ z, kR κ rs5 0 = z := ⟨_, rfl⟩
  have tsl0 : zk σ0 sl0 3 := by rw [← esl0]; exact hT.kr (hT.ref (hT.k trs5 (by decide)) (by decide) (by decide) (by decide)) (by decide) (by decide)
  obtain ⟨sl1, esl1⟩ : ∃ z, kR κ rs5 1 = z := ⟨_, rfl⟩
  have tsl1 : zk σ0 sl1 3 := by rw [← esl1]; exact hT.kr (hT.ref (hT.k trs5 (by decide)) (by decide) (by decide) (by decide)) (by decide) (by decide)
  obtain ⟨rW, erW⟩ : ∃ z, kR κ mm 1 = z := ⟨_, rfl⟩
  have trW : zk σ0 rW 21 := by rw [← erW]; exact hT.kr (hT.ref (hT.k t_mm (by decide)) (by decide) (by decide) (by decide)) (by decide) (by decide)
  obtain ⟨rS, erS⟩ : ∃ z, kR κ mm 3 = z := ⟨_, rfl⟩
  have trS : zk σ0 rS 22 := by rw [← erS]; exact hT.kr (hT.ref (hT.k t_mm (by decide)) (by decide) (by decide) (by decide)) (by decide) (by decide)
  obtain ⟨so, eso⟩ : ∃ z, kR κ x 1 = z := ⟨_, rfl⟩
  have tso : zk σ0 so 4 := by rw [← eso]; exact hT.kr (hT.ref (hT.k t_x (by decide)) (by decide) (by decide) (by decide)) (by decide) (by decide)
  obtain ⟨qP, eqP⟩ : ∃ z, kR κ so 0 = z := ⟨_, rfl⟩
  have tqP : zk σ0 qP 8 := by rw [← eqP]; exact hT.kr (hT.ref (hT.k tso (by decide)) (by decide) (by decide) (by decide)) (by decide) (by decide)
  obtain ⟨qO, eqO⟩ : ∃ z, kR κ so 1 = z := ⟨_, rfl⟩
  have tqO : zk σ0 qO 16 := by rw [← eqO]; exact hT.kr (hT.ref (hT.k tso (by decide)) (by decide) (by decide) (by decide)) (by decide) (by decide)
  obtain ⟨r5, er5⟩ : ∃ z, kR κ mm 5 = z := ⟨_, rfl⟩
  have tr5 : zk σ0 r5 25 := by rw [← er5]; exact hT.kr (hT.ref (hT.k t_mm (by decide)) (by decide) (by decide) (by decide)) (by decide) (by decide)
  obtain ⟨r6, er6⟩ : ∃ z, kR κ mm 6 = z := ⟨_, rfl⟩
  have tr6 : zk σ0 r6 26 := by rw [← er6]; exact hT.kr (hT.ref (hT.k t_mm (by decide)) (by decide) (by decide) (by decide)) (by decide) (by decide)
  obtain ⟨hnw, hsl⟩ := hsr
  obtain ⟨hd1, ⟨hd2, hd3⟩, hd4, hd5, hd6, hd7⟩ := hdis
  have d_nt : nw ≠ tr := by rw [← enw, ← etr]; exact hd2
  have d_n0 : nw ≠ sl0 := by rw [← enw, ← esl0, ← ers5]; exact hd3 0 (by decide)
  have d_t0 : sl0 ≠ tr := by rw [← etr, ← esl0, ← ers5]; exact fun q => hd4 0 (by decide) q.symm
  have d_n1 : nw ≠ sl1 := by rw [← enw, ← esl1, ← ers5]; exact hd3 1 (by decide)
  have d_t1 : sl1 ≠ tr := by rw [← etr, ← esl1, ← ers5]; exact fun q => hd4 1 (by decide) q.symm
  have d_01 : sl0 ≠ sl1 := by rw [← esl0, ← esl1, ← ers5]; exact hd5
  have knw : zk σ nw 3 := hT.k tnw (by decide)
  have ksl0 : zk σ sl0 3 := hT.k tsl0 (by decide)
  have ksl1 : zk σ sl1 3 := hT.k tsl1 (by decide)
  refine lv_aload_n hx hb dL_law_819 rfl (lv_at hl 3 rfl) ?_
  refine lv_aload_n hx hb dL_law_820 rfl (lv_at hl 4 rfl) ?_
  refine lv_iload hx hb dL_law_821 (lv_at hl 0 rfl) ?_
  refine lv_iconst (v := 1) hx hb dL_law_823 (by decide) ?_
  refine lv_iadd hx hb dL_law_824 ?_
  refine g_add (by omega) (by omega) (fun t1 ht1 => ?_)
  refine va_sld hx hb hXs hbl hbA hT.2.2.2 (g_in (by omega) (by omega)) dL_law_825 ?_
  refine ti y1 (by rw [hy1]; exact congrArg xs (show t1.toNatClampNeg = ix i + 1 from by show t1.toInt.toNat = ix i + 1; unfold ix; omega)) ?_
  refine lv_aload_n hx hb dL_law_826 rfl (lv_at hl 4 rfl) ?_
  refine lv_iload hx hb dL_law_827 (lv_at hl 0 rfl) ?_
  refine lv_iconst (v := 2) hx hb dL_law_829 (by decide) ?_
  refine lv_iadd hx hb dL_law_830 ?_
  refine g_add (by omega) (by omega) (fun t2 ht2 => ?_)
  refine va_sld hx hb hXs hbl hbA hT.2.2.2 (g_in (by omega) (by omega)) dL_law_831 ?_
  refine ti y2 (by rw [hy2]; exact congrArg xs (show t2.toNatClampNeg = ix i + 2 from by show t2.toInt.toNat = ix i + 2; unfold ix; omega)) ?_
  refine lv_aload_n hx hb dL_law_832 rfl (lv_at hl 1 rfl) ?_
  have hTo := hT
  refine tHi (n := 4) (As := [.ref x, .int y1, .int y2, .ref out]) (rest := []) hx hb hml hown hg hT hK hX (L_set l κ σ x y1 y2 out (hT.k t_x (by decide)) (hT.k t_out (by decide)) hlt) sub_hfWr_fA (mwHS k981 k982 k83 k983) ⟨by decide, by decide, by decide +kernel⟩ ⟨(Nat.le_of_ble_eq_true rfl), (Nat.le_of_ble_eq_true rfl)⟩ rfl hl.1 rfl (Nat.le_of_ble_eq_true rfl) dL_law_833 zx (fun r4 s3 H locs hφ hE hT => ?_)
  have R5 := hR.ext hE ⟨rfl, rfl, fun _ => rfl, fun _ => rfl, fun _ => rfl, fun _ => rfl⟩
  have a6 : (zI s3 tx 1).toInt = (zI σ tx 1).toInt := by rw [(hTo.k ttx (by decide)).eI hE (by decide) rfl]
  have j7 : zI s3 rB = zI σ rB := (show zI s3 rB = zI σ rB from funext fun k => (hTo.k trB (by decide)).eI hE (by decide) rfl)
  have j8 : zI s3 rT = zI σ rT := (show zI s3 rT = zI σ rT from funext fun k => (hTo.k trT (by decide)).eI hE (by decide) rfl)
  have j9 : zI s3 rI = zI σ rI := (show zI s3 rI = zI σ rI from funext fun k => (hTo.k trI (by decide)).eI hE (by decide) rfl)
  have j10 : zI s3 rK = zI σ rK := (show zI s3 rK = zI σ rK from funext fun k => (hTo.k trK (by decide)).eI hE (by decide) rfl)
  have j11 : zI s3 tx 2 = zI σ tx 2 := (hTo.k ttx (by decide)).eI hE (by decide) rfl
  have j12 : zI s3 tx 3 = zI σ tx 3 := (hTo.k ttx (by decide)).eI hE (by decide) rfl
  have j13 : zI s3 mm 15 = zI σ mm 15 := (hTo.k t_mm (by decide)).eI hE (by decide) rfl
  have j14 : zI s3 mm 16 = zI σ mm 16 := (hTo.k t_mm (by decide)).eI hE (by decide) rfl
  have n15 : zI s3 nw 7 = zI σ nw 7 ∧ zI s3 nw 8 = zI σ nw 8 ∧ zI s3 nw 9 = zI σ nw 9 := ⟨(hTo.k tnw (by decide)).eI hE (by decide) rfl, (hTo.k tnw (by decide)).eI hE (by decide) rfl, (hTo.k tnw (by decide)).eI hE (by decide) rfl⟩
  have n16 : zI s3 sl0 7 = zI σ sl0 7 ∧ zI s3 sl0 8 = zI σ sl0 8 ∧ zI s3 sl0 9 = zI σ sl0 9 := ⟨(hTo.k tsl0 (by decide)).eI hE (by decide) rfl, (hTo.k tsl0 (by decide)).eI hE (by decide) rfl, (hTo.k tsl0 (by decide)).eI hE (by decide) rfl⟩
  have n17 : zI s3 sl1 7 = zI σ sl1 7 ∧ zI s3 sl1 8 = zI σ sl1 8 ∧ zI s3 sl1 9 = zI σ sl1 9 := ⟨(hTo.k tsl1 (by decide)).eI hE (by decide) rfl, (hTo.k tsl1 (by decide)).eI hE (by decide) rfl, (hTo.k tsl1 (by decide)).eI hE (by decide) rfl⟩
  have n18 : ∀ j : Nat, j < 3 → zJ s3 rW j = zJ σ rW j := fun j hj => (hTo.k trW (by decide)).eJ hE (by decide) rfl
  have n19 : zJ s3 rS = zJ σ rS := (show zJ s3 rS = zJ σ rS from funext fun k => (hTo.k trS (by decide)).eJ hE (by decide) rfl)
  have z20 : zI s3 so 2 = zI σ so 2 ∧ zI s3 so 6 = zI σ so 6 ∧ zI s3 qP = zI σ qP ∧ zI s3 qO = zI σ qO := ⟨(hTo.k tso (by decide)).eI hE (by decide) rfl, (hTo.k tso (by decide)).eI hE (by decide) rfl, funext fun q9 => (hTo.k tqP (by decide)).eI hE (by decide) rfl, funext fun q9 => (hTo.k tqO (by decide)).eI hE (by decide) rfl⟩
  have z21 : zI s3 mm 7 = zI σ mm 7 ∧ zI s3 mm 8 = zI σ mm 8 ∧ zI s3 r5 = zI σ r5 ∧ zI s3 r6 = zI σ r6 := ⟨(hTo.k t_mm (by decide)).eI hE (by decide) rfl, (hTo.k t_mm (by decide)).eI hE (by decide) rfl, funext fun q9 => (hTo.k tr5 (by decide)).eI hE (by decide) rfl, funext fun q9 => (hTo.k tr6 (by decide)).eI hE (by decide) rfl⟩
  have a22 : (zI s3 mm 13).toInt = (zI σ mm 13).toInt := by rw [(hTo.k t_mm (by decide)).eI hE (by decide) rfl]
  refine lv_istore (lv' := [(5, .int r4), (4, .int i), (3, .ref out), (2, .ref mm), (1, .ref x), (0, .ref b)]) hx hb dL_law_836 hl (by decide) rfl (fun ls hl => ?_)
  refine lv_aload_n hx hb dL_law_838 rfl (lv_at hl 3 rfl) ?_
  refine lv_aload_n hx hb dL_law_839 rfl (lv_at hl 5 rfl) ?_
  refine lv_iload hx hb dL_law_840 (lv_at hl 1 rfl) ?_
  refine lv_iconst (v := 1) hx hb dL_law_842 (by decide) ?_
  refine lv_iadd hx hb dL_law_843 ?_
  refine g_add (by omega) (by omega) (fun t23 ht23 => ?_)
  refine va_sld hx hb hXs hbl hbA hT.2.2.2 (g_in (by omega) (by omega)) dL_law_844 ?_
  refine ti y1 (by rw [hy1]; exact congrArg xs (show t23.toNatClampNeg = ix i + 1 from by show t23.toInt.toNat = ix i + 1; unfold ix; omega)) ?_
  refine lv_aload_n hx hb dL_law_845 rfl (lv_at hl 5 rfl) ?_
  refine lv_iload hx hb dL_law_846 (lv_at hl 1 rfl) ?_
  refine lv_iconst (v := 2) hx hb dL_law_848 (by decide) ?_
  refine lv_iadd hx hb dL_law_849 ?_
  refine g_add (by omega) (by omega) (fun t24 ht24 => ?_)
  refine va_sld hx hb hXs hbl hbA hT.2.2.2 (g_in (by omega) (by omega)) dL_law_850 ?_
  refine ti y2 (by rw [hy2]; exact congrArg xs (show t24.toNatClampNeg = ix i + 2 from by show t24.toInt.toNat = ix i + 2; unfold ix; omega)) ?_
  have hTo := hT
  refine tVl (n := 2) (As := [.int y1, .int y2]) (rest := []) hx hb hml hown hg hT hK hX (X6_set l (kX κ) s3 mm y1 y2 (hT.k t_mm (by decide)) R5) sub_gX_fA (mwV k1563 k1564 k1565 k92 k1566) ⟨rfl, by decide, by decide, by decide +kernel⟩ ⟨(Nat.le_of_ble_eq_true rfl), (Nat.le_of_ble_eq_true rfl)⟩ (hT.o20 (hT.k t_mm (by decide))) rfl rfl hl.1 rfl (Nat.le_of_ble_eq_true rfl) dL_law_851 zx (fun r26 s25 H locs hφ hE hT => ?_)
  have f27 := hφ
  have a28 : (zI s25 tx 1).toInt = (zI s3 tx 1).toInt := by rw [(hTo.k ttx (by decide)).eI hE (by decide) rfl]
  have j29 : zI s25 rB = zI σ rB := ((show zI s25 rB = zI s3 rB from funext fun k => (hTo.k trB (by decide)).eI hE (by decide) rfl)).trans j7
  have j30 : zI s25 rT = zI σ rT := ((show zI s25 rT = zI s3 rT from funext fun k => (hTo.k trT (by decide)).eI hE (by decide) rfl)).trans j8
  have j31 : zI s25 rI = zI σ rI := ((show zI s25 rI = zI s3 rI from funext fun k => (hTo.k trI (by decide)).eI hE (by decide) rfl)).trans j9
  have j32 : zI s25 rK = zI σ rK := ((show zI s25 rK = zI s3 rK from funext fun k => (hTo.k trK (by decide)).eI hE (by decide) rfl)).trans j10
  have j33 : zI s25 tx 2 = zI σ tx 2 := ((hTo.k ttx (by decide)).eI hE (by decide) rfl).trans j11
  have j34 : zI s25 tx 3 = zI σ tx 3 := ((hTo.k ttx (by decide)).eI hE (by decide) rfl).trans j12
  have j35 : zI s25 mm 15 = zI σ mm 15 := ((hTo.k t_mm (by decide)).eI hE (by decide) rfl).trans j13
  have j36 : zI s25 mm 16 = zI σ mm 16 := ((hTo.k t_mm (by decide)).eI hE (by decide) rfl).trans j14
  have n37 : zI s25 nw 7 = zI s3 nw 7 ∧ zI s25 nw 8 = zI s3 nw 8 ∧ zI s25 nw 9 = zI s3 nw 9 := ⟨(hTo.k tnw (by decide)).eI hE (by decide) rfl, (hTo.k tnw (by decide)).eI hE (by decide) rfl, (hTo.k tnw (by decide)).eI hE (by decide) rfl⟩
  have n38 : zI s25 nw 7 = zI σ nw 7 ∧ zI s25 nw 8 = zI σ nw 8 ∧ zI s25 nw 9 = zI σ nw 9 := ⟨n37.1.trans n15.1, n37.2.1.trans n15.2.1, n37.2.2.trans n15.2.2⟩
  have n39 : zI s25 sl0 7 = zI s3 sl0 7 ∧ zI s25 sl0 8 = zI s3 sl0 8 ∧ zI s25 sl0 9 = zI s3 sl0 9 := ⟨(hTo.k tsl0 (by decide)).eI hE (by decide) rfl, (hTo.k tsl0 (by decide)).eI hE (by decide) rfl, (hTo.k tsl0 (by decide)).eI hE (by decide) rfl⟩
  have n40 : zI s25 sl0 7 = zI σ sl0 7 ∧ zI s25 sl0 8 = zI σ sl0 8 ∧ zI s25 sl0 9 = zI σ sl0 9 := ⟨n39.1.trans n16.1, n39.2.1.trans n16.2.1, n39.2.2.trans n16.2.2⟩
  have n41 : zI s25 sl1 7 = zI s3 sl1 7 ∧ zI s25 sl1 8 = zI s3 sl1 8 ∧ zI s25 sl1 9 = zI s3 sl1 9 := ⟨(hTo.k tsl1 (by decide)).eI hE (by decide) rfl, (hTo.k tsl1 (by decide)).eI hE (by decide) rfl, (hTo.k tsl1 (by decide)).eI hE (by decide) rfl⟩
  have n42 : zI s25 sl1 7 = zI σ sl1 7 ∧ zI s25 sl1 8 = zI σ sl1 8 ∧ zI s25 sl1 9 = zI σ sl1 9 := ⟨n41.1.trans n17.1, n41.2.1.trans n17.2.1, n41.2.2.trans n17.2.2⟩
  have n43 : ∀ j : Nat, j < 3 → zJ s25 rW j = zJ s3 rW j := fun j hj => (hTo.k trW (by decide)).eJ hE (by decide) (lt3_gX j hj)
  have n44 : ∀ j : Nat, j < 3 → zJ s25 rW j = zJ σ rW j := fun j hj => (n43 j hj).trans (n18 j hj)
  have n45 : zJ s25 rS = zJ σ rS := (show zJ s25 rS = zJ s3 rS from funext fun k => (hTo.k trS (by decide)).eJ hE (by decide) rfl).trans n19
  have z46 : zI s25 so 2 = zI s3 so 2 ∧ zI s25 so 6 = zI s3 so 6 ∧ zI s25 qP = zI s3 qP ∧ zI s25 qO = zI s3 qO := ⟨(hTo.k tso (by decide)).eI hE (by decide) rfl, (hTo.k tso (by decide)).eI hE (by decide) rfl, funext fun q9 => (hTo.k tqP (by decide)).eI hE (by decide) rfl, funext fun q9 => (hTo.k tqO (by decide)).eI hE (by decide) rfl⟩
  have z47 : zI s25 so 2 = zI σ so 2 ∧ zI s25 so 6 = zI σ so 6 ∧ zI s25 qP = zI σ qP ∧ zI s25 qO = zI σ qO := ⟨z46.1.trans z20.1, z46.2.1.trans z20.2.1, z46.2.2.1.trans z20.2.2.1, z46.2.2.2.trans z20.2.2.2⟩
  have z48 : zI s25 mm 7 = zI s3 mm 7 ∧ zI s25 mm 8 = zI s3 mm 8 ∧ zI s25 r5 = zI s3 r5 ∧ zI s25 r6 = zI s3 r6 := ⟨(hTo.k t_mm (by decide)).eI hE (by decide) rfl, (hTo.k t_mm (by decide)).eI hE (by decide) rfl, funext fun q9 => (hTo.k tr5 (by decide)).eI hE (by decide) rfl, funext fun q9 => (hTo.k tr6 (by decide)).eI hE (by decide) rfl⟩
  have z49 : zI s25 mm 7 = zI σ mm 7 ∧ zI s25 mm 8 = zI σ mm 8 ∧ zI s25 r5 = zI σ r5 ∧ zI s25 r6 = zI σ r6 := ⟨z48.1.trans z21.1, z48.2.1.trans z21.2.1, z48.2.2.1.trans z21.2.2.1, z48.2.2.2.trans z21.2.2.2⟩
  have a50 : (zI s25 mm 13).toInt = (zI s3 mm 13).toInt := by rw [(hTo.k t_mm (by decide)).eI hE (by decide) rfl]
  refine lv_lstore (lv' := [(6, .long r26), (5, .int r4), (4, .int i), (3, .ref out), (2, .ref mm), (1, .ref x), (0, .ref b)]) hx hb dL_law_854 hl (by decide) rfl (fun ls hl => ?_)
  refine lv_goto (tgt := 1432) hx hb dL_law_856 (by decide) ?_
  have sl0f : zI s25 rI 0 ≠ 0 → SLT κ s25 x mm 0 := fun hq => (hsl 0 (by decide) (fun q9 => hq (by rw [erI] at q9; rw [j31]; exact q9))).tr (by rw [ers5, esl0]; exact n40) (fun j hj => by rw [erS, n45])
  have sl1f : zI s25 rI 1 ≠ 0 → SLT κ s25 x mm 1 := fun hq => (hsl 1 (by decide) (fun q9 => hq (by rw [erI] at q9; rw [j31]; exact q9))).tr (by rw [ers5, esl1]; exact n42) (fun j hj => by rw [erS, n45])
  exact KK s25 _ _ _ hT f27 ⟨by rw [etx]; omega, ⟨by rw [etx, erB, erT, j29, j30]; exact tal_less hal (by omega), by rw [erT, j30]; exact tnn_less hnn (by omega)⟩, ⟨by rw [etx, j33, j35]; exact hco, by rw [etx, j34, j36]; exact hpo⟩, fun i hi => by rw [erI, erK, j31, j32]; exact hkp i hi⟩ (⟨hnw.tr (by rw [enw]; exact n38) (by rw [erW]; exact n44), fun i hi => (show i = 0 ∨ i = 1 by omega).elim (fun e9 => by rw [e9, erI]; exact sl0f) (fun e9 => by rw [e9, erI]; exact sl1f)⟩) (hsm.tr (by rw [eso, eqP, eqO]; exact z47) (by rw [er5, er6]; exact z49)) (lv_sub hl [2, 3, 4, 5, 6] rfl)
set_option maxHeartbeats 4000000 in
set_option maxRecDepth 100000 in
theorem lc_23 (l : Launch) (κ : Kt) (σ0 : Gh) (x mm out b : Nat) (t_x : zk σ0 x 7) (t_mm : zk σ0 mm 20) (t_out : zk σ0 out 24) (ttx0 : zk σ0 (kR κ x 0) 6) (hdis : DIS κ x) (hlt : l.stackTraces = false) {p : Program} {e : Env} {s : State} {m : MethodId} {below : List Frame} {meth : Method} {c : Code} {L : Nat} {xs : Nat → Int32} {i : Int32} {Q9 : State → Prop} (hx : p.tables.exec = Jvm.exec) (hb : c.code = cL_law) (hml : c.maxLocals = 9) (hown : s.vm.findClass RL = some m.cls) (hg : ∀ w ∈ GW, w.before #[Value.ref b] s = true) (hK : va_K κ.1 vwCl (kTy κ) s) (hX : XY κ (tA σ0 s.heap.size) s s.heap) (hXs : va_X b L xs s s.heap) (hbl : b < s.heap.size) (hbA : ¬ tA σ0 s.heap.size b) (zx : zroomX κ s room_1 601024 7293034) (hi0 : 0 ≤ i.toInt) (hi1 : i.toInt + 6 ≤ L) (hL9 : L ≤ 3072) {σ : Gh} {H : Heap} {locs : List Loc} {ls : Array Slot} (hT : TS κ fA σ0 σ s H locs) (hR : RI κ σ mm) (hrel : LREL κ σ x mm) (hsr : SREL κ σ x mm) (hsm : SMP κ σ x mm) (hl : lv_has ls 9 [(4, .int i), (3, .ref out), (2, .ref mm), (1, .ref x), (0, .ref b)]) (KK : ∀ (σ1 : Gh) (H : Heap) (locs : List Loc) (ls : Array Slot), TS (kX κ) fA σ0 σ1 s H locs → RI (kX κ) σ1 mm → LREL κ σ1 x mm → SREL κ σ1 x mm → SMP κ σ1 x mm → lv_has ls 9 [(4, .int i), (3, .ref out), (2, .ref mm), (1, .ref x), (0, .ref b)] → W p l e room_1 s m #[Value.ref b] below meth c H locs 601024 7293034 Q9 (F0 m 1432 ls [])) : W p l e room_1 s m #[Value.ref b] below meth c H locs 601024 7293034 Q9 (F0 m 859 ls []) := by
  obtain ⟨y1, hy1⟩ : ∃ z, z = xs (ix i + 1) := ⟨_, rfl⟩
  obtain ⟨y2, hy2⟩ : ∃ z, z = xs (ix i + 2) := ⟨_, rfl⟩
  obtain ⟨y3, hy3⟩ : ∃ z, z = xs (ix i + 3) := ⟨_, rfl⟩
  obtain ⟨y4, hy4⟩ : ∃ z, z = xs (ix i + 4) := ⟨_, rfl⟩
  obtain ⟨y5, hy5⟩ : ∃ z, z = xs (ix i + 5) := ⟨_, rfl⟩
  have n0 : (0 : Int32).toInt = 0 := by decide
  have n1 : (1 : Int32).toInt = 1 := by decide
  have n2 : (2 : Int32).toInt = 2 := by decide
  have n3 : (3 : Int32).toInt = 3 := by decide
  have n4 : (4 : Int32).toInt = 4 := by decide
  have n5 : (5 : Int32).toInt = 5 := by decide
  obtain ⟨tx, etx⟩ : ∃ z, kR κ x 0 = z := ⟨_, rfl⟩
  have ttx : zk σ0 tx 6 := by rw [← etx]; exact ttx0
  obtain ⟨rB, erB⟩ : ∃ z, kR κ tx 0 = z := ⟨_, rfl⟩
  have trB : zk σ0 rB 14 := by rw [← erB]; exact hT.kr (hT.ref (hT.k ttx (by decide)) (by decide) (by decide) (by decide)) (by decide) (by decide)
  obtain ⟨rT, erT⟩ : ∃ z, kR κ mm 12 = z := ⟨_, rfl⟩
  have trT : zk σ0 rT 23 := by rw [← erT]; exact hT.kr (hT.ref (hT.k t_mm (by decide)) (by decide) (by decide) (by decide)) (by decide) (by decide)
  obtain ⟨rI, erI⟩ : ∃ z, kR κ x 6 = z := ⟨_, rfl⟩
  have trI : zk σ0 rI 13 := by rw [← erI]; exact hT.kr (hT.ref (hT.k t_x (by decide)) (by decide) (by decide) (by decide)) (by decide) (by decide)
  obtain ⟨rK, erK⟩ : ∃ z, kR κ mm 4 = z := ⟨_, rfl⟩
  have trK : zk σ0 rK 29 := by rw [← erK]; exact hT.kr (hT.ref (hT.k t_mm (by decide)) (by decide) (by decide) (by decide)) (by decide) (by decide)
  obtain ⟨hlen, ⟨hal, hnn⟩, ⟨hco, hpo⟩, hkp⟩ := hrel
  rw [etx] at hlen hal hco hpo
  rw [erB, erT] at hal
  rw [erT] at hnn
  rw [erI, erK] at hkp
  have btx := (hT.P (hT.k ttx (by decide)) (by decide)).1
  have btxl := btx.1
  have btxh := btx.2
  obtain ⟨nw, enw⟩ : ∃ z, kR κ x 3 = z := ⟨_, rfl⟩
  have tnw : zk σ0 nw 3 := by rw [← enw]; exact hT.kr (hT.ref (hT.k t_x (by decide)) (by decide) (by decide) (by decide)) (by decide) (by decide)
  obtain ⟨tr, etr⟩ : ∃ z, kR κ x 4 = z := ⟨_, rfl⟩
  have ttr : zk σ0 tr 3 := by rw [← etr]; exact hT.kr (hT.ref (hT.k t_x (by decide)) (by decide) (by decide) (by decide)) (by decide) (by decide)
  obtain ⟨rs5, ers5⟩ : ∃ z, kR κ x 5 = z := ⟨_, rfl⟩
  have trs5 : zk σ0 rs5 12 := by rw [← ers5]; exact hT.kr (hT.ref (hT.k t_x (by decide)) (by decide) (by decide) (by decide)) (by decide) (by decide)
  obtain ⟨sl0, esl0⟩ : ∃ z, kR κ rs5 0 = z := ⟨_, rfl⟩
  have tsl0 : zk σ0 sl0 3 := by rw [← esl0]; exact hT.kr (hT.ref (hT.k trs5 (by decide)) (by decide) (by decide) (by decide)) (by decide) (by decide)
  obtain ⟨sl1, esl1⟩ : ∃ z, kR κ rs5 1 = z := ⟨_, rfl⟩
  have tsl1 : zk σ0 sl1 3 := by rw [← esl1]; exact hT.kr (hT.ref (hT.k trs5 (by decide)) (by decide) (by decide) (by decide)) (by decide) (by decide)
  obtain ⟨rW, erW⟩ : ∃ z, kR κ mm 1 = z := ⟨_, rfl⟩
  have trW : zk σ0 rW 21 := by rw [← erW]; exact hT.kr (hT.ref (hT.k t_mm (by decide)) (by decide) (by decide) (by decide)) (by decide) (by decide)
  obtain ⟨rS, erS⟩ : ∃ z, kR κ mm 3 = z := ⟨_, rfl⟩
  have trS : zk σ0 rS 22 := by rw [← erS]; exact hT.kr (hT.ref (hT.k t_mm (by decide)) (by decide) (by decide) (by decide)) (by decide) (by decide)
  obtain ⟨so, eso⟩ : ∃ z, kR κ x 1 = z := ⟨_, rfl⟩
  have tso : zk σ0 so 4 := by rw [← eso]; exact hT.kr (hT.ref (hT.k t_x (by decide)) (by decide) (by decide) (by decide)) (by decide) (by decide)
  obtain ⟨qP, eqP⟩ : ∃ z, kR κ so 0 = z := ⟨_, rfl⟩
  have tqP : zk σ0 qP 8 := by rw [← eqP]; exact hT.kr (hT.ref (hT.k tso (by decide)) (by decide) (by decide) (by decide)) (by decide) (by decide)
  obtain ⟨qO, eqO⟩ : ∃ z, kR κ so 1 = z := ⟨_, rfl⟩
  have tqO : zk σ0 qO 16 := by rw [← eqO]; exact hT.kr (hT.ref (hT.k tso (by decide)) (by decide) (by decide) (by decide)) (by decide) (by decide)
  obtain ⟨r5, er5⟩ : ∃ z, kR κ mm 5 = z := ⟨_, rfl⟩
  have tr5 : zk σ0 r5 25 := by rw [← er5]; exact hT.kr (hT.ref (hT.k t_mm (by decide)) (by decide) (by decide) (by decide)) (by decide) (by decide)
  obtain ⟨r6, er6⟩ : ∃ z, kR κ mm 6 = z := ⟨_, rfl⟩
  have tr6 : zk σ0 r6 26 := by rw [← er6]; exact hT.kr (hT.ref (hT.k t_mm (by decide)) (by decide) (by decide) (by decide)) (by decide) (by decide)
  obtain ⟨hnw, hsl⟩ := hsr
  obtain ⟨hd1, ⟨hd2, hd3⟩, hd4, hd5, hd6, hd7⟩ := hdis
  have d_nt : nw ≠ tr := by rw [← enw, ← etr]; exact hd2
  have d_n0 : nw ≠ sl0 := by rw [← enw, ← esl0, ← ers5]; exact hd3 0 (by decide)
  have d_t0 : sl0 ≠ tr := by rw [← etr, ← esl0, ← ers5]; exact fun q => hd4 0 (by decide) q.symm
  have d_n1 : nw ≠ sl1 := by rw [← enw, ← esl1, ← ers5]; exact hd3 1 (by decide)
  have d_t1 : sl1 ≠ tr := by rw [← etr, ← esl1, ← ers5]; exact fun q => hd4 1 (by decide) q.symm
  have d_01 : sl0 ≠ sl1 := by rw [← esl0, ← esl1, ← ers5]; exact hd5
  have knw : zk σ nw 3 := hT.k tnw (by decide)
  have ksl0 : zk σ sl0 3 := hT.k tsl0 (by decide)
  have ksl1 : zk σ sl1 3 := hT.k tsl1 (by decide)
  refine lv_aload_n hx hb dL_law_859 rfl (lv_at hl 3 rfl) ?_
  refine lv_aload_n hx hb dL_law_860 rfl (lv_at hl 4 rfl) ?_
  refine lv_iload hx hb dL_law_861 (lv_at hl 0 rfl) ?_
  refine lv_iconst (v := 1) hx hb dL_law_863 (by decide) ?_
  refine lv_iadd hx hb dL_law_864 ?_
  refine g_add (by omega) (by omega) (fun t1 ht1 => ?_)
  refine va_sld hx hb hXs hbl hbA hT.2.2.2 (g_in (by omega) (by omega)) dL_law_865 ?_
  refine ti y1 (by rw [hy1]; exact congrArg xs (show t1.toNatClampNeg = ix i + 1 from by show t1.toInt.toNat = ix i + 1; unfold ix; omega)) ?_
  refine lv_aload_n hx hb dL_law_866 rfl (lv_at hl 4 rfl) ?_
  refine lv_iload hx hb dL_law_867 (lv_at hl 0 rfl) ?_
  refine lv_iconst (v := 2) hx hb dL_law_869 (by decide) ?_
  refine lv_iadd hx hb dL_law_870 ?_
  refine g_add (by omega) (by omega) (fun t2 ht2 => ?_)
  refine va_sld hx hb hXs hbl hbA hT.2.2.2 (g_in (by omega) (by omega)) dL_law_871 ?_
  refine ti y2 (by rw [hy2]; exact congrArg xs (show t2.toNatClampNeg = ix i + 2 from by show t2.toInt.toNat = ix i + 2; unfold ix; omega)) ?_
  refine lv_aload_n hx hb dL_law_872 rfl (lv_at hl 1 rfl) ?_
  have hTo := hT
  refine tHi (n := 4) (As := [.ref x, .int y1, .int y2, .ref out]) (rest := []) hx hb hml hown hg hT hK hX (L_noise l κ σ x y1 y2 out (hT.k t_x (by decide)) (hT.k t_out (by decide)) hlt) sub_hfWr_fA (mwHS k1013 k1014 k83 k1015) ⟨by decide, by decide, by decide +kernel⟩ ⟨(Nat.le_of_ble_eq_true rfl), (Nat.le_of_ble_eq_true rfl)⟩ rfl hl.1 rfl (Nat.le_of_ble_eq_true rfl) dL_law_873 zx (fun r4 s3 H locs hφ hE hT => ?_)
  have R5 := hR.ext hE ⟨rfl, rfl, fun _ => rfl, fun _ => rfl, fun _ => rfl, fun _ => rfl⟩
  have a6 : (zI s3 tx 1).toInt = (zI σ tx 1).toInt := by rw [(hTo.k ttx (by decide)).eI hE (by decide) rfl]
  have j7 : zI s3 rB = zI σ rB := (show zI s3 rB = zI σ rB from funext fun k => (hTo.k trB (by decide)).eI hE (by decide) rfl)
  have j8 : zI s3 rT = zI σ rT := (show zI s3 rT = zI σ rT from funext fun k => (hTo.k trT (by decide)).eI hE (by decide) rfl)
  have j9 : zI s3 rI = zI σ rI := (show zI s3 rI = zI σ rI from funext fun k => (hTo.k trI (by decide)).eI hE (by decide) rfl)
  have j10 : zI s3 rK = zI σ rK := (show zI s3 rK = zI σ rK from funext fun k => (hTo.k trK (by decide)).eI hE (by decide) rfl)
  have j11 : zI s3 tx 2 = zI σ tx 2 := (hTo.k ttx (by decide)).eI hE (by decide) rfl
  have j12 : zI s3 tx 3 = zI σ tx 3 := (hTo.k ttx (by decide)).eI hE (by decide) rfl
  have j13 : zI s3 mm 15 = zI σ mm 15 := (hTo.k t_mm (by decide)).eI hE (by decide) rfl
  have j14 : zI s3 mm 16 = zI σ mm 16 := (hTo.k t_mm (by decide)).eI hE (by decide) rfl
  have n15 : zI s3 nw 7 = zI σ nw 7 ∧ zI s3 nw 8 = zI σ nw 8 ∧ zI s3 nw 9 = zI σ nw 9 := ⟨(hTo.k tnw (by decide)).eI hE (by decide) rfl, (hTo.k tnw (by decide)).eI hE (by decide) rfl, (hTo.k tnw (by decide)).eI hE (by decide) rfl⟩
  have n16 : zI s3 sl0 7 = zI σ sl0 7 ∧ zI s3 sl0 8 = zI σ sl0 8 ∧ zI s3 sl0 9 = zI σ sl0 9 := ⟨(hTo.k tsl0 (by decide)).eI hE (by decide) rfl, (hTo.k tsl0 (by decide)).eI hE (by decide) rfl, (hTo.k tsl0 (by decide)).eI hE (by decide) rfl⟩
  have n17 : zI s3 sl1 7 = zI σ sl1 7 ∧ zI s3 sl1 8 = zI σ sl1 8 ∧ zI s3 sl1 9 = zI σ sl1 9 := ⟨(hTo.k tsl1 (by decide)).eI hE (by decide) rfl, (hTo.k tsl1 (by decide)).eI hE (by decide) rfl, (hTo.k tsl1 (by decide)).eI hE (by decide) rfl⟩
  have n18 : ∀ j : Nat, j < 3 → zJ s3 rW j = zJ σ rW j := fun j hj => (hTo.k trW (by decide)).eJ hE (by decide) rfl
  have n19 : zJ s3 rS = zJ σ rS := (show zJ s3 rS = zJ σ rS from funext fun k => (hTo.k trS (by decide)).eJ hE (by decide) rfl)
  have z20 : zI s3 so 2 = zI σ so 2 ∧ zI s3 so 6 = zI σ so 6 ∧ zI s3 qP = zI σ qP ∧ zI s3 qO = zI σ qO := ⟨(hTo.k tso (by decide)).eI hE (by decide) rfl, (hTo.k tso (by decide)).eI hE (by decide) rfl, funext fun q9 => (hTo.k tqP (by decide)).eI hE (by decide) rfl, funext fun q9 => (hTo.k tqO (by decide)).eI hE (by decide) rfl⟩
  have z21 : zI s3 mm 7 = zI σ mm 7 ∧ zI s3 mm 8 = zI σ mm 8 ∧ zI s3 r5 = zI σ r5 ∧ zI s3 r6 = zI σ r6 := ⟨(hTo.k t_mm (by decide)).eI hE (by decide) rfl, (hTo.k t_mm (by decide)).eI hE (by decide) rfl, funext fun q9 => (hTo.k tr5 (by decide)).eI hE (by decide) rfl, funext fun q9 => (hTo.k tr6 (by decide)).eI hE (by decide) rfl⟩
  have a22 : (zI s3 mm 13).toInt = (zI σ mm 13).toInt := by rw [(hTo.k t_mm (by decide)).eI hE (by decide) rfl]
  refine lv_istore (lv' := [(5, .int r4), (4, .int i), (3, .ref out), (2, .ref mm), (1, .ref x), (0, .ref b)]) hx hb dL_law_876 hl (by decide) rfl (fun ls hl => ?_)
  refine lv_aload_n hx hb dL_law_878 rfl (lv_at hl 3 rfl) ?_
  refine lv_aload_n hx hb dL_law_879 rfl (lv_at hl 5 rfl) ?_
  refine lv_iload hx hb dL_law_880 (lv_at hl 1 rfl) ?_
  refine lv_iconst (v := 1) hx hb dL_law_882 (by decide) ?_
  refine lv_iadd hx hb dL_law_883 ?_
  refine g_add (by omega) (by omega) (fun t23 ht23 => ?_)
  refine va_sld hx hb hXs hbl hbA hT.2.2.2 (g_in (by omega) (by omega)) dL_law_884 ?_
  refine ti y1 (by rw [hy1]; exact congrArg xs (show t23.toNatClampNeg = ix i + 1 from by show t23.toInt.toNat = ix i + 1; unfold ix; omega)) ?_
  refine lv_aload_n hx hb dL_law_885 rfl (lv_at hl 5 rfl) ?_
  refine lv_iload hx hb dL_law_886 (lv_at hl 1 rfl) ?_
  refine lv_iconst (v := 2) hx hb dL_law_888 (by decide) ?_
  refine lv_iadd hx hb dL_law_889 ?_
  refine g_add (by omega) (by omega) (fun t24 ht24 => ?_)
  refine va_sld hx hb hXs hbl hbA hT.2.2.2 (g_in (by omega) (by omega)) dL_law_890 ?_
  refine ti y2 (by rw [hy2]; exact congrArg xs (show t24.toNatClampNeg = ix i + 2 from by show t24.toInt.toNat = ix i + 2; unfold ix; omega)) ?_
  have hTo := hT
  refine tVl (n := 2) (As := [.int y1, .int y2]) (rest := []) hx hb hml hown hg hT hK hX (X6_noise l (kX κ) s3 mm y1 y2 (hT.k t_mm (by decide)) R5) sub_gX_fA (mwV k1573 k1574 k1575 k92 k1576) ⟨rfl, by decide, by decide, by decide +kernel⟩ ⟨(Nat.le_of_ble_eq_true rfl), (Nat.le_of_ble_eq_true rfl)⟩ (hT.o20 (hT.k t_mm (by decide))) rfl rfl hl.1 rfl (Nat.le_of_ble_eq_true rfl) dL_law_891 zx (fun r26 s25 H locs hφ hE hT => ?_)
  have f27 := hφ
  have a28 : (zI s25 tx 1).toInt = (zI s3 tx 1).toInt := by rw [(hTo.k ttx (by decide)).eI hE (by decide) rfl]
  have j29 : zI s25 rB = zI σ rB := ((show zI s25 rB = zI s3 rB from funext fun k => (hTo.k trB (by decide)).eI hE (by decide) rfl)).trans j7
  have j30 : zI s25 rT = zI σ rT := ((show zI s25 rT = zI s3 rT from funext fun k => (hTo.k trT (by decide)).eI hE (by decide) rfl)).trans j8
  have j31 : zI s25 rI = zI σ rI := ((show zI s25 rI = zI s3 rI from funext fun k => (hTo.k trI (by decide)).eI hE (by decide) rfl)).trans j9
  have j32 : zI s25 rK = zI σ rK := ((show zI s25 rK = zI s3 rK from funext fun k => (hTo.k trK (by decide)).eI hE (by decide) rfl)).trans j10
  have j33 : zI s25 tx 2 = zI σ tx 2 := ((hTo.k ttx (by decide)).eI hE (by decide) rfl).trans j11
  have j34 : zI s25 tx 3 = zI σ tx 3 := ((hTo.k ttx (by decide)).eI hE (by decide) rfl).trans j12
  have j35 : zI s25 mm 15 = zI σ mm 15 := ((hTo.k t_mm (by decide)).eI hE (by decide) rfl).trans j13
  have j36 : zI s25 mm 16 = zI σ mm 16 := ((hTo.k t_mm (by decide)).eI hE (by decide) rfl).trans j14
  have n37 : zI s25 nw 7 = zI s3 nw 7 ∧ zI s25 nw 8 = zI s3 nw 8 ∧ zI s25 nw 9 = zI s3 nw 9 := ⟨(hTo.k tnw (by decide)).eI hE (by decide) rfl, (hTo.k tnw (by decide)).eI hE (by decide) rfl, (hTo.k tnw (by decide)).eI hE (by decide) rfl⟩
  have n38 : zI s25 nw 7 = zI σ nw 7 ∧ zI s25 nw 8 = zI σ nw 8 ∧ zI s25 nw 9 = zI σ nw 9 := ⟨n37.1.trans n15.1, n37.2.1.trans n15.2.1, n37.2.2.trans n15.2.2⟩
  have n39 : zI s25 sl0 7 = zI s3 sl0 7 ∧ zI s25 sl0 8 = zI s3 sl0 8 ∧ zI s25 sl0 9 = zI s3 sl0 9 := ⟨(hTo.k tsl0 (by decide)).eI hE (by decide) rfl, (hTo.k tsl0 (by decide)).eI hE (by decide) rfl, (hTo.k tsl0 (by decide)).eI hE (by decide) rfl⟩
  have n40 : zI s25 sl0 7 = zI σ sl0 7 ∧ zI s25 sl0 8 = zI σ sl0 8 ∧ zI s25 sl0 9 = zI σ sl0 9 := ⟨n39.1.trans n16.1, n39.2.1.trans n16.2.1, n39.2.2.trans n16.2.2⟩
  have n41 : zI s25 sl1 7 = zI s3 sl1 7 ∧ zI s25 sl1 8 = zI s3 sl1 8 ∧ zI s25 sl1 9 = zI s3 sl1 9 := ⟨(hTo.k tsl1 (by decide)).eI hE (by decide) rfl, (hTo.k tsl1 (by decide)).eI hE (by decide) rfl, (hTo.k tsl1 (by decide)).eI hE (by decide) rfl⟩
  have n42 : zI s25 sl1 7 = zI σ sl1 7 ∧ zI s25 sl1 8 = zI σ sl1 8 ∧ zI s25 sl1 9 = zI σ sl1 9 := ⟨n41.1.trans n17.1, n41.2.1.trans n17.2.1, n41.2.2.trans n17.2.2⟩
  have n43 : ∀ j : Nat, j < 3 → zJ s25 rW j = zJ s3 rW j := fun j hj => (hTo.k trW (by decide)).eJ hE (by decide) (lt3_gX j hj)
  have n44 : ∀ j : Nat, j < 3 → zJ s25 rW j = zJ σ rW j := fun j hj => (n43 j hj).trans (n18 j hj)
  have n45 : zJ s25 rS = zJ σ rS := (show zJ s25 rS = zJ s3 rS from funext fun k => (hTo.k trS (by decide)).eJ hE (by decide) rfl).trans n19
  have z46 : zI s25 so 2 = zI s3 so 2 ∧ zI s25 so 6 = zI s3 so 6 ∧ zI s25 qP = zI s3 qP ∧ zI s25 qO = zI s3 qO := ⟨(hTo.k tso (by decide)).eI hE (by decide) rfl, (hTo.k tso (by decide)).eI hE (by decide) rfl, funext fun q9 => (hTo.k tqP (by decide)).eI hE (by decide) rfl, funext fun q9 => (hTo.k tqO (by decide)).eI hE (by decide) rfl⟩
  have z47 : zI s25 so 2 = zI σ so 2 ∧ zI s25 so 6 = zI σ so 6 ∧ zI s25 qP = zI σ qP ∧ zI s25 qO = zI σ qO := ⟨z46.1.trans z20.1, z46.2.1.trans z20.2.1, z46.2.2.1.trans z20.2.2.1, z46.2.2.2.trans z20.2.2.2⟩
  have z48 : zI s25 mm 7 = zI s3 mm 7 ∧ zI s25 mm 8 = zI s3 mm 8 ∧ zI s25 r5 = zI s3 r5 ∧ zI s25 r6 = zI s3 r6 := ⟨(hTo.k t_mm (by decide)).eI hE (by decide) rfl, (hTo.k t_mm (by decide)).eI hE (by decide) rfl, funext fun q9 => (hTo.k tr5 (by decide)).eI hE (by decide) rfl, funext fun q9 => (hTo.k tr6 (by decide)).eI hE (by decide) rfl⟩
  have z49 : zI s25 mm 7 = zI σ mm 7 ∧ zI s25 mm 8 = zI σ mm 8 ∧ zI s25 r5 = zI σ r5 ∧ zI s25 r6 = zI σ r6 := ⟨z48.1.trans z21.1, z48.2.1.trans z21.2.1, z48.2.2.1.trans z21.2.2.1, z48.2.2.2.trans z21.2.2.2⟩
  have a50 : (zI s25 mm 13).toInt = (zI s3 mm 13).toInt := by rw [(hTo.k t_mm (by decide)).eI hE (by decide) rfl]
  refine lv_lstore (lv' := [(6, .long r26), (5, .int r4), (4, .int i), (3, .ref out), (2, .ref mm), (1, .ref x), (0, .ref b)]) hx hb dL_law_894 hl (by decide) rfl (fun ls hl => ?_)
  refine lv_goto (tgt := 1432) hx hb dL_law_896 (by decide) ?_
  have sl0f : zI s25 rI 0 ≠ 0 → SLT κ s25 x mm 0 := fun hq => (hsl 0 (by decide) (fun q9 => hq (by rw [erI] at q9; rw [j31]; exact q9))).tr (by rw [ers5, esl0]; exact n40) (fun j hj => by rw [erS, n45])
  have sl1f : zI s25 rI 1 ≠ 0 → SLT κ s25 x mm 1 := fun hq => (hsl 1 (by decide) (fun q9 => hq (by rw [erI] at q9; rw [j31]; exact q9))).tr (by rw [ers5, esl1]; exact n42) (fun j hj => by rw [erS, n45])
  exact KK s25 _ _ _ hT f27 ⟨by rw [etx]; omega, ⟨by rw [etx, erB, erT, j29, j30]; exact tal_less hal (by omega), by rw [erT, j30]; exact tnn_less hnn (by omega)⟩, ⟨by rw [etx, j33, j35]; exact hco, by rw [etx, j34, j36]; exact hpo⟩, fun i hi => by rw [erI, erK, j31, j32]; exact hkp i hi⟩ (⟨hnw.tr (by rw [enw]; exact n38) (by rw [erW]; exact n44), fun i hi => (show i = 0 ∨ i = 1 by omega).elim (fun e9 => by rw [e9, erI]; exact sl0f) (fun e9 => by rw [e9, erI]; exact sl1f)⟩) (hsm.tr (by rw [eso, eqP, eqO]; exact z47) (by rw [er5, er6]; exact z49)) (lv_sub hl [2, 3, 4, 5, 6] rfl)
set_option maxHeartbeats 4000000 in
set_option maxRecDepth 100000 in
theorem lc_24 (l : Launch) (κ : Kt) (σ0 : Gh) (x mm out b : Nat) (t_x : zk σ0 x 7) (t_mm : zk σ0 mm 20) (t_out : zk σ0 out 24) (ttx0 : zk σ0 (kR κ x 0) 6) (hdis : DIS κ x) (hlt : l.stackTraces = false) {p : Program} {e : Env} {s : State} {m : MethodId} {below : List Frame} {meth : Method} {c : Code} {L : Nat} {xs : Nat → Int32} {i : Int32} {Q9 : State → Prop} (hx : p.tables.exec = Jvm.exec) (hb : c.code = cL_law) (hml : c.maxLocals = 9) (hown : s.vm.findClass RL = some m.cls) (hg : ∀ w ∈ GW, w.before #[Value.ref b] s = true) (hK : va_K κ.1 vwCl (kTy κ) s) (hX : XY κ (tA σ0 s.heap.size) s s.heap) (hXs : va_X b L xs s s.heap) (hbl : b < s.heap.size) (hbA : ¬ tA σ0 s.heap.size b) (zx : zroomX κ s room_1 601024 7293034) (hi0 : 0 ≤ i.toInt) (hi1 : i.toInt + 6 ≤ L) (hL9 : L ≤ 3072) {σ : Gh} {H : Heap} {locs : List Loc} {ls : Array Slot} (hT : TS κ fA σ0 σ s H locs) (hR : RI κ σ mm) (hrel : LREL κ σ x mm) (hsr : SREL κ σ x mm) (hsm : SMP κ σ x mm) (hl : lv_has ls 9 [(4, .int i), (3, .ref out), (2, .ref mm), (1, .ref x), (0, .ref b)]) (KK : ∀ (σ1 : Gh) (H : Heap) (locs : List Loc) (ls : Array Slot), TS (kX κ) fA σ0 σ1 s H locs → RI (kX κ) σ1 mm → LREL κ σ1 x mm → SREL κ σ1 x mm → SMP κ σ1 x mm → lv_has ls 9 [(4, .int i), (3, .ref out), (2, .ref mm), (1, .ref x), (0, .ref b)] → W p l e room_1 s m #[Value.ref b] below meth c H locs 601024 7293034 Q9 (F0 m 1432 ls [])) : W p l e room_1 s m #[Value.ref b] below meth c H locs 601024 7293034 Q9 (F0 m 899 ls []) := by
  obtain ⟨y1, hy1⟩ : ∃ z, z = xs (ix i + 1) := ⟨_, rfl⟩
  obtain ⟨y2, hy2⟩ : ∃ z, z = xs (ix i + 2) := ⟨_, rfl⟩
  obtain ⟨y3, hy3⟩ : ∃ z, z = xs (ix i + 3) := ⟨_, rfl⟩
  obtain ⟨y4, hy4⟩ : ∃ z, z = xs (ix i + 4) := ⟨_, rfl⟩
  obtain ⟨y5, hy5⟩ : ∃ z, z = xs (ix i + 5) := ⟨_, rfl⟩
  have n0 : (0 : Int32).toInt = 0 := by decide
  have n1 : (1 : Int32).toInt = 1 := by decide
  have n2 : (2 : Int32).toInt = 2 := by decide
  have n3 : (3 : Int32).toInt = 3 := by decide
  have n4 : (4 : Int32).toInt = 4 := by decide
  have n5 : (5 : Int32).toInt = 5 := by decide
  obtain ⟨tx, etx⟩ : ∃ z, kR κ x 0 = z := ⟨_, rfl⟩
  have ttx : zk σ0 tx 6 := by rw [← etx]; exact ttx0
  obtain ⟨rB, erB⟩ : ∃ z, kR κ tx 0 = z := ⟨_, rfl⟩
  have trB : zk σ0 rB 14 := by rw [← erB]; exact hT.kr (hT.ref (hT.k ttx (by decide)) (by decide) (by decide) (by decide)) (by decide) (by decide)
  obtain ⟨rT, erT⟩ : ∃ z, kR κ mm 12 = z := ⟨_, rfl⟩
  have trT : zk σ0 rT 23 := by rw [← erT]; exact hT.kr (hT.ref (hT.k t_mm (by decide)) (by decide) (by decide) (by decide)) (by decide) (by decide)
  obtain ⟨rI, erI⟩ : ∃ z, kR κ x 6 = z := ⟨_, rfl⟩
  have trI : zk σ0 rI 13 := by rw [← erI]; exact hT.kr (hT.ref (hT.k t_x (by decide)) (by decide) (by decide) (by decide)) (by decide) (by decide)
  obtain ⟨rK, erK⟩ : ∃ z, kR κ mm 4 = z := ⟨_, rfl⟩
  have trK : zk σ0 rK 29 := by rw [← erK]; exact hT.kr (hT.ref (hT.k t_mm (by decide)) (by decide) (by decide) (by decide)) (by decide) (by decide)
  obtain ⟨hlen, ⟨hal, hnn⟩, ⟨hco, hpo⟩, hkp⟩ := hrel
  rw [etx] at hlen hal hco hpo
  rw [erB, erT] at hal
  rw [erT] at hnn
  rw [erI, erK] at hkp
  have btx := (hT.P (hT.k ttx (by decide)) (by decide)).1
  have btxl := btx.1
  have btxh := btx.2
  obtain ⟨nw, enw⟩ : ∃ z, kR κ x 3 = z := ⟨_, rfl⟩
  have tnw : zk σ0 nw 3 := by rw [← enw]; exact hT.kr (hT.ref (hT.k t_x (by decide)) (by decide) (by decide) (by decide)) (by decide) (by decide)
  obtain ⟨tr, etr⟩ : ∃ z, kR κ x 4 = z := ⟨_, rfl⟩
  have ttr : zk σ0 tr 3 := by rw [← etr]; exact hT.kr (hT.ref (hT.k t_x (by decide)) (by decide) (by decide) (by decide)) (by decide) (by decide)
  obtain ⟨rs5, ers5⟩ : ∃ z, kR κ x 5 = z := ⟨_, rfl⟩
  have trs5 : zk σ0 rs5 12 := by rw [← ers5]; exact hT.kr (hT.ref (hT.k t_x (by decide)) (by decide) (by decide) (by decide)) (by decide) (by decide)
  obtain ⟨sl0, esl0⟩ : ∃ z, kR κ rs5 0 = z := ⟨_, rfl⟩
  have tsl0 : zk σ0 sl0 3 := by rw [← esl0]; exact hT.kr (hT.ref (hT.k trs5 (by decide)) (by decide) (by decide) (by decide)) (by decide) (by decide)
  obtain ⟨sl1, esl1⟩ : ∃ z, kR κ rs5 1 = z := ⟨_, rfl⟩
  have tsl1 : zk σ0 sl1 3 := by rw [← esl1]; exact hT.kr (hT.ref (hT.k trs5 (by decide)) (by decide) (by decide) (by decide)) (by decide) (by decide)
  obtain ⟨rW, erW⟩ : ∃ z, kR κ mm 1 = z := ⟨_, rfl⟩
  have trW : zk σ0 rW 21 := by rw [← erW]; exact hT.kr (hT.ref (hT.k t_mm (by decide)) (by decide) (by decide) (by decide)) (by decide) (by decide)
  obtain ⟨rS, erS⟩ : ∃ z, kR κ mm 3 = z := ⟨_, rfl⟩
  have trS : zk σ0 rS 22 := by rw [← erS]; exact hT.kr (hT.ref (hT.k t_mm (by decide)) (by decide) (by decide) (by decide)) (by decide) (by decide)
  obtain ⟨so, eso⟩ : ∃ z, kR κ x 1 = z := ⟨_, rfl⟩
  have tso : zk σ0 so 4 := by rw [← eso]; exact hT.kr (hT.ref (hT.k t_x (by decide)) (by decide) (by decide) (by decide)) (by decide) (by decide)
  obtain ⟨qP, eqP⟩ : ∃ z, kR κ so 0 = z := ⟨_, rfl⟩
  have tqP : zk σ0 qP 8 := by rw [← eqP]; exact hT.kr (hT.ref (hT.k tso (by decide)) (by decide) (by decide) (by decide)) (by decide) (by decide)
  obtain ⟨qO, eqO⟩ : ∃ z, kR κ so 1 = z := ⟨_, rfl⟩
  have tqO : zk σ0 qO 16 := by rw [← eqO]; exact hT.kr (hT.ref (hT.k tso (by decide)) (by decide) (by decide) (by decide)) (by decide) (by decide)
  obtain ⟨r5, er5⟩ : ∃ z, kR κ mm 5 = z := ⟨_, rfl⟩
  have tr5 : zk σ0 r5 25 := by rw [← er5]; exact hT.kr (hT.ref (hT.k t_mm (by decide)) (by decide) (by decide) (by decide)) (by decide) (by decide)
  obtain ⟨r6, er6⟩ : ∃ z, kR κ mm 6 = z := ⟨_, rfl⟩
  have tr6 : zk σ0 r6 26 := by rw [← er6]; exact hT.kr (hT.ref (hT.k t_mm (by decide)) (by decide) (by decide) (by decide)) (by decide) (by decide)
  obtain ⟨hnw, hsl⟩ := hsr
  obtain ⟨hd1, ⟨hd2, hd3⟩, hd4, hd5, hd6, hd7⟩ := hdis
  have d_nt : nw ≠ tr := by rw [← enw, ← etr]; exact hd2
  have d_n0 : nw ≠ sl0 := by rw [← enw, ← esl0, ← ers5]; exact hd3 0 (by decide)
  have d_t0 : sl0 ≠ tr := by rw [← etr, ← esl0, ← ers5]; exact fun q => hd4 0 (by decide) q.symm
  have d_n1 : nw ≠ sl1 := by rw [← enw, ← esl1, ← ers5]; exact hd3 1 (by decide)
  have d_t1 : sl1 ≠ tr := by rw [← etr, ← esl1, ← ers5]; exact fun q => hd4 1 (by decide) q.symm
  have d_01 : sl0 ≠ sl1 := by rw [← esl0, ← esl1, ← ers5]; exact hd5
  have knw : zk σ nw 3 := hT.k tnw (by decide)
  have ksl0 : zk σ sl0 3 := hT.k tsl0 (by decide)
  have ksl1 : zk σ sl1 3 := hT.k tsl1 (by decide)
  refine lv_aload_n hx hb dL_law_899 rfl (lv_at hl 3 rfl) ?_
  have hTo := hT
  refine tVi (n := 0) (As := []) (rest := []) hx hb hml hown hg hT hK hX (X5_reset l κ σ x (hT.k t_x (by decide))) sub_fBe_fA (mwV k514 k515 k516 k84 k517) ⟨rfl, by decide, by decide, by decide +kernel⟩ ⟨(Nat.le_of_ble_eq_true rfl), (Nat.le_of_ble_eq_true rfl)⟩ (hT.o7 (hT.k t_x (by decide))) rfl rfl hl.1 rfl (Nat.le_of_ble_eq_true rfl) dL_law_900 zx.dn (fun r2 s1 H locs hφ hE hT => ?_)
  have R3 := hR.ext hE ⟨rfl, rfl, fun _ => rfl, fun _ => rfl, fun _ => rfl, fun _ => rfl⟩
  have a4 : (zI s1 tx 1).toInt = (zI σ tx 1).toInt := by rw [(hTo.k ttx (by decide)).eI hE (by decide) rfl]
  have j5 : zI s1 rB = zI σ rB := (show zI s1 rB = zI σ rB from funext fun k => (hTo.k trB (by decide)).eI hE (by decide) rfl)
  have j6 : zI s1 rT = zI σ rT := (show zI s1 rT = zI σ rT from funext fun k => (hTo.k trT (by decide)).eI hE (by decide) rfl)
  have j7 : zI s1 rI = zI σ rI := (show zI s1 rI = zI σ rI from funext fun k => (hTo.k trI (by decide)).eI hE (by decide) rfl)
  have j8 : zI s1 rK = zI σ rK := (show zI s1 rK = zI σ rK from funext fun k => (hTo.k trK (by decide)).eI hE (by decide) rfl)
  have j9 : zI s1 tx 2 = zI σ tx 2 := (hTo.k ttx (by decide)).eI hE (by decide) rfl
  have j10 : zI s1 tx 3 = zI σ tx 3 := (hTo.k ttx (by decide)).eI hE (by decide) rfl
  have j11 : zI s1 mm 15 = zI σ mm 15 := (hTo.k t_mm (by decide)).eI hE (by decide) rfl
  have j12 : zI s1 mm 16 = zI σ mm 16 := (hTo.k t_mm (by decide)).eI hE (by decide) rfl
  have n13 : zI s1 nw 7 = zI σ nw 7 ∧ zI s1 nw 8 = zI σ nw 8 ∧ zI s1 nw 9 = zI σ nw 9 := ⟨(hTo.k tnw (by decide)).eI hE (by decide) rfl, (hTo.k tnw (by decide)).eI hE (by decide) rfl, (hTo.k tnw (by decide)).eI hE (by decide) rfl⟩
  have n14 : zI s1 sl0 7 = zI σ sl0 7 ∧ zI s1 sl0 8 = zI σ sl0 8 ∧ zI s1 sl0 9 = zI σ sl0 9 := ⟨(hTo.k tsl0 (by decide)).eI hE (by decide) rfl, (hTo.k tsl0 (by decide)).eI hE (by decide) rfl, (hTo.k tsl0 (by decide)).eI hE (by decide) rfl⟩
  have n15 : zI s1 sl1 7 = zI σ sl1 7 ∧ zI s1 sl1 8 = zI σ sl1 8 ∧ zI s1 sl1 9 = zI σ sl1 9 := ⟨(hTo.k tsl1 (by decide)).eI hE (by decide) rfl, (hTo.k tsl1 (by decide)).eI hE (by decide) rfl, (hTo.k tsl1 (by decide)).eI hE (by decide) rfl⟩
  have n16 : ∀ j : Nat, j < 3 → zJ s1 rW j = zJ σ rW j := fun j hj => (hTo.k trW (by decide)).eJ hE (by decide) rfl
  have n17 : zJ s1 rS = zJ σ rS := (show zJ s1 rS = zJ σ rS from funext fun k => (hTo.k trS (by decide)).eJ hE (by decide) rfl)
  have z18 : zI s1 so 2 = zI σ so 2 ∧ zI s1 so 6 = zI σ so 6 ∧ zI s1 qP = zI σ qP ∧ zI s1 qO = zI σ qO := ⟨(hTo.k tso (by decide)).eI hE (by decide) rfl, (hTo.k tso (by decide)).eI hE (by decide) rfl, funext fun q9 => (hTo.k tqP (by decide)).eI hE (by decide) rfl, funext fun q9 => (hTo.k tqO (by decide)).eI hE (by decide) rfl⟩
  have z19 : zI s1 mm 7 = zI σ mm 7 ∧ zI s1 mm 8 = zI σ mm 8 ∧ zI s1 r5 = zI σ r5 ∧ zI s1 r6 = zI σ r6 := ⟨(hTo.k t_mm (by decide)).eI hE (by decide) rfl, (hTo.k t_mm (by decide)).eI hE (by decide) rfl, funext fun q9 => (hTo.k tr5 (by decide)).eI hE (by decide) rfl, funext fun q9 => (hTo.k tr6 (by decide)).eI hE (by decide) rfl⟩
  have a20 : (zI s1 mm 13).toInt = (zI σ mm 13).toInt := by rw [(hTo.k t_mm (by decide)).eI hE (by decide) rfl]
  refine lv_pop hx hb dL_law_903 rfl ?_
  refine lv_aload_n hx hb dL_law_904 rfl (lv_at hl 2 rfl) ?_
  have hTo := hT
  refine tVi (n := 0) (As := []) (rest := []) hx hb hml hown hg hT hK hX (X6_reset l κ s1 mm (hT.k t_mm (by decide)) R3) sub_gX_fA (mwV k1579 k1580 k1581 k92 k1582) ⟨rfl, by decide, by decide, by decide +kernel⟩ ⟨(Nat.le_of_ble_eq_true rfl), (Nat.le_of_ble_eq_true rfl)⟩ (hT.o20 (hT.k t_mm (by decide))) rfl rfl hl.1 rfl (Nat.le_of_ble_eq_true rfl) dL_law_905 zx.dn (fun r22 s21 H locs hφ hE hT => ?_)
  have f23 := hφ
  have a24 : (zI s21 tx 1).toInt = (zI s1 tx 1).toInt := by rw [(hTo.k ttx (by decide)).eI hE (by decide) rfl]
  have j25 : zI s21 rB = zI σ rB := ((show zI s21 rB = zI s1 rB from funext fun k => (hTo.k trB (by decide)).eI hE (by decide) rfl)).trans j5
  have j26 : zI s21 rT = zI σ rT := ((show zI s21 rT = zI s1 rT from funext fun k => (hTo.k trT (by decide)).eI hE (by decide) rfl)).trans j6
  have j27 : zI s21 rI = zI σ rI := ((show zI s21 rI = zI s1 rI from funext fun k => (hTo.k trI (by decide)).eI hE (by decide) rfl)).trans j7
  have j28 : zI s21 rK = zI σ rK := ((show zI s21 rK = zI s1 rK from funext fun k => (hTo.k trK (by decide)).eI hE (by decide) rfl)).trans j8
  have j29 : zI s21 tx 2 = zI σ tx 2 := ((hTo.k ttx (by decide)).eI hE (by decide) rfl).trans j9
  have j30 : zI s21 tx 3 = zI σ tx 3 := ((hTo.k ttx (by decide)).eI hE (by decide) rfl).trans j10
  have j31 : zI s21 mm 15 = zI σ mm 15 := ((hTo.k t_mm (by decide)).eI hE (by decide) rfl).trans j11
  have j32 : zI s21 mm 16 = zI σ mm 16 := ((hTo.k t_mm (by decide)).eI hE (by decide) rfl).trans j12
  have n33 : zI s21 nw 7 = zI s1 nw 7 ∧ zI s21 nw 8 = zI s1 nw 8 ∧ zI s21 nw 9 = zI s1 nw 9 := ⟨(hTo.k tnw (by decide)).eI hE (by decide) rfl, (hTo.k tnw (by decide)).eI hE (by decide) rfl, (hTo.k tnw (by decide)).eI hE (by decide) rfl⟩
  have n34 : zI s21 nw 7 = zI σ nw 7 ∧ zI s21 nw 8 = zI σ nw 8 ∧ zI s21 nw 9 = zI σ nw 9 := ⟨n33.1.trans n13.1, n33.2.1.trans n13.2.1, n33.2.2.trans n13.2.2⟩
  have n35 : zI s21 sl0 7 = zI s1 sl0 7 ∧ zI s21 sl0 8 = zI s1 sl0 8 ∧ zI s21 sl0 9 = zI s1 sl0 9 := ⟨(hTo.k tsl0 (by decide)).eI hE (by decide) rfl, (hTo.k tsl0 (by decide)).eI hE (by decide) rfl, (hTo.k tsl0 (by decide)).eI hE (by decide) rfl⟩
  have n36 : zI s21 sl0 7 = zI σ sl0 7 ∧ zI s21 sl0 8 = zI σ sl0 8 ∧ zI s21 sl0 9 = zI σ sl0 9 := ⟨n35.1.trans n14.1, n35.2.1.trans n14.2.1, n35.2.2.trans n14.2.2⟩
  have n37 : zI s21 sl1 7 = zI s1 sl1 7 ∧ zI s21 sl1 8 = zI s1 sl1 8 ∧ zI s21 sl1 9 = zI s1 sl1 9 := ⟨(hTo.k tsl1 (by decide)).eI hE (by decide) rfl, (hTo.k tsl1 (by decide)).eI hE (by decide) rfl, (hTo.k tsl1 (by decide)).eI hE (by decide) rfl⟩
  have n38 : zI s21 sl1 7 = zI σ sl1 7 ∧ zI s21 sl1 8 = zI σ sl1 8 ∧ zI s21 sl1 9 = zI σ sl1 9 := ⟨n37.1.trans n15.1, n37.2.1.trans n15.2.1, n37.2.2.trans n15.2.2⟩
  have n39 : ∀ j : Nat, j < 3 → zJ s21 rW j = zJ s1 rW j := fun j hj => (hTo.k trW (by decide)).eJ hE (by decide) (lt3_gX j hj)
  have n40 : ∀ j : Nat, j < 3 → zJ s21 rW j = zJ σ rW j := fun j hj => (n39 j hj).trans (n16 j hj)
  have n41 : zJ s21 rS = zJ σ rS := (show zJ s21 rS = zJ s1 rS from funext fun k => (hTo.k trS (by decide)).eJ hE (by decide) rfl).trans n17
  have z42 : zI s21 so 2 = zI s1 so 2 ∧ zI s21 so 6 = zI s1 so 6 ∧ zI s21 qP = zI s1 qP ∧ zI s21 qO = zI s1 qO := ⟨(hTo.k tso (by decide)).eI hE (by decide) rfl, (hTo.k tso (by decide)).eI hE (by decide) rfl, funext fun q9 => (hTo.k tqP (by decide)).eI hE (by decide) rfl, funext fun q9 => (hTo.k tqO (by decide)).eI hE (by decide) rfl⟩
  have z43 : zI s21 so 2 = zI σ so 2 ∧ zI s21 so 6 = zI σ so 6 ∧ zI s21 qP = zI σ qP ∧ zI s21 qO = zI σ qO := ⟨z42.1.trans z18.1, z42.2.1.trans z18.2.1, z42.2.2.1.trans z18.2.2.1, z42.2.2.2.trans z18.2.2.2⟩
  have z44 : zI s21 mm 7 = zI s1 mm 7 ∧ zI s21 mm 8 = zI s1 mm 8 ∧ zI s21 r5 = zI s1 r5 ∧ zI s21 r6 = zI s1 r6 := ⟨(hTo.k t_mm (by decide)).eI hE (by decide) rfl, (hTo.k t_mm (by decide)).eI hE (by decide) rfl, funext fun q9 => (hTo.k tr5 (by decide)).eI hE (by decide) rfl, funext fun q9 => (hTo.k tr6 (by decide)).eI hE (by decide) rfl⟩
  have z45 : zI s21 mm 7 = zI σ mm 7 ∧ zI s21 mm 8 = zI σ mm 8 ∧ zI s21 r5 = zI σ r5 ∧ zI s21 r6 = zI σ r6 := ⟨z44.1.trans z19.1, z44.2.1.trans z19.2.1, z44.2.2.1.trans z19.2.2.1, z44.2.2.2.trans z19.2.2.2⟩
  have a46 : (zI s21 mm 13).toInt = (zI s1 mm 13).toInt := by rw [(hTo.k t_mm (by decide)).eI hE (by decide) rfl]
  refine lv_pop hx hb dL_law_908 rfl ?_
  refine lv_goto (tgt := 1432) hx hb dL_law_909 (by decide) ?_
  have sl0f : zI s21 rI 0 ≠ 0 → SLT κ s21 x mm 0 := fun hq => (hsl 0 (by decide) (fun q9 => hq (by rw [erI] at q9; rw [j27]; exact q9))).tr (by rw [ers5, esl0]; exact n36) (fun j hj => by rw [erS, n41])
  have sl1f : zI s21 rI 1 ≠ 0 → SLT κ s21 x mm 1 := fun hq => (hsl 1 (by decide) (fun q9 => hq (by rw [erI] at q9; rw [j27]; exact q9))).tr (by rw [ers5, esl1]; exact n38) (fun j hj => by rw [erS, n41])
  exact KK s21 _ _ _ hT.up f23 ⟨by rw [etx]; omega, ⟨by rw [etx, erB, erT, j25, j26]; exact tal_less hal (by omega), by rw [erT, j26]; exact tnn_less hnn (by omega)⟩, ⟨by rw [etx, j29, j31]; exact hco, by rw [etx, j30, j32]; exact hpo⟩, fun i hi => by rw [erI, erK, j27, j28]; exact hkp i hi⟩ (⟨hnw.tr (by rw [enw]; exact n34) (by rw [erW]; exact n40), fun i hi => (show i = 0 ∨ i = 1 by omega).elim (fun e9 => by rw [e9, erI]; exact sl0f) (fun e9 => by rw [e9, erI]; exact sl1f)⟩) (hsm.tr (by rw [eso, eqP, eqO]; exact z43) (by rw [er5, er6]; exact z45)) (lv_sub hl [0, 1, 2, 3, 4] rfl)
set_option maxHeartbeats 4000000 in
set_option maxRecDepth 100000 in
theorem lc_25 (l : Launch) (κ : Kt) (σ0 : Gh) (x mm out b : Nat) (t_x : zk σ0 x 7) (t_mm : zk σ0 mm 20) (t_out : zk σ0 out 24) (ttx0 : zk σ0 (kR κ x 0) 6) (hdis : DIS κ x) (hlt : l.stackTraces = false) {p : Program} {e : Env} {s : State} {m : MethodId} {below : List Frame} {meth : Method} {c : Code} {L : Nat} {xs : Nat → Int32} {i : Int32} {Q9 : State → Prop} (hx : p.tables.exec = Jvm.exec) (hb : c.code = cL_law) (hml : c.maxLocals = 9) (hown : s.vm.findClass RL = some m.cls) (hg : ∀ w ∈ GW, w.before #[Value.ref b] s = true) (hK : va_K κ.1 vwCl (kTy κ) s) (hX : XY κ (tA σ0 s.heap.size) s s.heap) (hXs : va_X b L xs s s.heap) (hbl : b < s.heap.size) (hbA : ¬ tA σ0 s.heap.size b) (zx : zroomX κ s room_1 601024 7293034) (hi0 : 0 ≤ i.toInt) (hi1 : i.toInt + 6 ≤ L) (hL9 : L ≤ 3072) {σ : Gh} {H : Heap} {locs : List Loc} {ls : Array Slot} (hT : TS κ fA σ0 σ s H locs) (hR : RI κ σ mm) (hrel : LREL κ σ x mm) (hsr : SREL κ σ x mm) (hsm : SMP κ σ x mm) (hl : lv_has ls 9 [(4, .int i), (3, .ref out), (2, .ref mm), (1, .ref x), (0, .ref b)]) (KK : ∀ (σ1 : Gh) (H : Heap) (locs : List Loc) (ls : Array Slot), TS (kX κ) fA σ0 σ1 s H locs → RI (kX κ) σ1 mm → LREL κ σ1 x mm → SREL κ σ1 x mm → SMP κ σ1 x mm → lv_has ls 9 [(4, .int i), (3, .ref out), (2, .ref mm), (1, .ref x), (0, .ref b)] → W p l e room_1 s m #[Value.ref b] below meth c H locs 601024 7293034 Q9 (F0 m 1432 ls [])) : W p l e room_1 s m #[Value.ref b] below meth c H locs 601024 7293034 Q9 (F0 m 912 ls []) := by
  obtain ⟨y1, hy1⟩ : ∃ z, z = xs (ix i + 1) := ⟨_, rfl⟩
  obtain ⟨y2, hy2⟩ : ∃ z, z = xs (ix i + 2) := ⟨_, rfl⟩
  obtain ⟨y3, hy3⟩ : ∃ z, z = xs (ix i + 3) := ⟨_, rfl⟩
  obtain ⟨y4, hy4⟩ : ∃ z, z = xs (ix i + 4) := ⟨_, rfl⟩
  obtain ⟨y5, hy5⟩ : ∃ z, z = xs (ix i + 5) := ⟨_, rfl⟩
  have n0 : (0 : Int32).toInt = 0 := by decide
  have n1 : (1 : Int32).toInt = 1 := by decide
  have n2 : (2 : Int32).toInt = 2 := by decide
  have n3 : (3 : Int32).toInt = 3 := by decide
  have n4 : (4 : Int32).toInt = 4 := by decide
  have n5 : (5 : Int32).toInt = 5 := by decide
  obtain ⟨tx, etx⟩ : ∃ z, kR κ x 0 = z := ⟨_, rfl⟩
  have ttx : zk σ0 tx 6 := by rw [← etx]; exact ttx0
  obtain ⟨rB, erB⟩ : ∃ z, kR κ tx 0 = z := ⟨_, rfl⟩
  have trB : zk σ0 rB 14 := by rw [← erB]; exact hT.kr (hT.ref (hT.k ttx (by decide)) (by decide) (by decide) (by decide)) (by decide) (by decide)
  obtain ⟨rT, erT⟩ : ∃ z, kR κ mm 12 = z := ⟨_, rfl⟩
  have trT : zk σ0 rT 23 := by rw [← erT]; exact hT.kr (hT.ref (hT.k t_mm (by decide)) (by decide) (by decide) (by decide)) (by decide) (by decide)
  obtain ⟨rI, erI⟩ : ∃ z, kR κ x 6 = z := ⟨_, rfl⟩
  have trI : zk σ0 rI 13 := by rw [← erI]; exact hT.kr (hT.ref (hT.k t_x (by decide)) (by decide) (by decide) (by decide)) (by decide) (by decide)
  obtain ⟨rK, erK⟩ : ∃ z, kR κ mm 4 = z := ⟨_, rfl⟩
  have trK : zk σ0 rK 29 := by rw [← erK]; exact hT.kr (hT.ref (hT.k t_mm (by decide)) (by decide) (by decide) (by decide)) (by decide) (by decide)
  obtain ⟨hlen, ⟨hal, hnn⟩, ⟨hco, hpo⟩, hkp⟩ := hrel
  rw [etx] at hlen hal hco hpo
  rw [erB, erT] at hal
  rw [erT] at hnn
  rw [erI, erK] at hkp
  have btx := (hT.P (hT.k ttx (by decide)) (by decide)).1
  have btxl := btx.1
  have btxh := btx.2
  obtain ⟨nw, enw⟩ : ∃ z, kR κ x 3 = z := ⟨_, rfl⟩
  have tnw : zk σ0 nw 3 := by rw [← enw]; exact hT.kr (hT.ref (hT.k t_x (by decide)) (by decide) (by decide) (by decide)) (by decide) (by decide)
  obtain ⟨tr, etr⟩ : ∃ z, kR κ x 4 = z := ⟨_, rfl⟩
  have ttr : zk σ0 tr 3 := by rw [← etr]; exact hT.kr (hT.ref (hT.k t_x (by decide)) (by decide) (by decide) (by decide)) (by decide) (by decide)
  obtain ⟨rs5, ers5⟩ : ∃ z, kR κ x 5 = z := ⟨_, rfl⟩
  have trs5 : zk σ0 rs5 12 := by rw [← ers5]; exact hT.kr (hT.ref (hT.k t_x (by decide)) (by decide) (by decide) (by decide)) (by decide) (by decide)
  obtain ⟨sl0, esl0⟩ : ∃ z, kR κ rs5 0 = z := ⟨_, rfl⟩
  have tsl0 : zk σ0 sl0 3 := by rw [← esl0]; exact hT.kr (hT.ref (hT.k trs5 (by decide)) (by decide) (by decide) (by decide)) (by decide) (by decide)
  obtain ⟨sl1, esl1⟩ : ∃ z, kR κ rs5 1 = z := ⟨_, rfl⟩
  have tsl1 : zk σ0 sl1 3 := by rw [← esl1]; exact hT.kr (hT.ref (hT.k trs5 (by decide)) (by decide) (by decide) (by decide)) (by decide) (by decide)
  obtain ⟨rW, erW⟩ : ∃ z, kR κ mm 1 = z := ⟨_, rfl⟩
  have trW : zk σ0 rW 21 := by rw [← erW]; exact hT.kr (hT.ref (hT.k t_mm (by decide)) (by decide) (by decide) (by decide)) (by decide) (by decide)
  obtain ⟨rS, erS⟩ : ∃ z, kR κ mm 3 = z := ⟨_, rfl⟩
  have trS : zk σ0 rS 22 := by rw [← erS]; exact hT.kr (hT.ref (hT.k t_mm (by decide)) (by decide) (by decide) (by decide)) (by decide) (by decide)
  obtain ⟨so, eso⟩ : ∃ z, kR κ x 1 = z := ⟨_, rfl⟩
  have tso : zk σ0 so 4 := by rw [← eso]; exact hT.kr (hT.ref (hT.k t_x (by decide)) (by decide) (by decide) (by decide)) (by decide) (by decide)
  obtain ⟨qP, eqP⟩ : ∃ z, kR κ so 0 = z := ⟨_, rfl⟩
  have tqP : zk σ0 qP 8 := by rw [← eqP]; exact hT.kr (hT.ref (hT.k tso (by decide)) (by decide) (by decide) (by decide)) (by decide) (by decide)
  obtain ⟨qO, eqO⟩ : ∃ z, kR κ so 1 = z := ⟨_, rfl⟩
  have tqO : zk σ0 qO 16 := by rw [← eqO]; exact hT.kr (hT.ref (hT.k tso (by decide)) (by decide) (by decide) (by decide)) (by decide) (by decide)
  obtain ⟨r5, er5⟩ : ∃ z, kR κ mm 5 = z := ⟨_, rfl⟩
  have tr5 : zk σ0 r5 25 := by rw [← er5]; exact hT.kr (hT.ref (hT.k t_mm (by decide)) (by decide) (by decide) (by decide)) (by decide) (by decide)
  obtain ⟨r6, er6⟩ : ∃ z, kR κ mm 6 = z := ⟨_, rfl⟩
  have tr6 : zk σ0 r6 26 := by rw [← er6]; exact hT.kr (hT.ref (hT.k t_mm (by decide)) (by decide) (by decide) (by decide)) (by decide) (by decide)
  obtain ⟨hnw, hsl⟩ := hsr
  obtain ⟨hd1, ⟨hd2, hd3⟩, hd4, hd5, hd6, hd7⟩ := hdis
  have d_nt : nw ≠ tr := by rw [← enw, ← etr]; exact hd2
  have d_n0 : nw ≠ sl0 := by rw [← enw, ← esl0, ← ers5]; exact hd3 0 (by decide)
  have d_t0 : sl0 ≠ tr := by rw [← etr, ← esl0, ← ers5]; exact fun q => hd4 0 (by decide) q.symm
  have d_n1 : nw ≠ sl1 := by rw [← enw, ← esl1, ← ers5]; exact hd3 1 (by decide)
  have d_t1 : sl1 ≠ tr := by rw [← etr, ← esl1, ← ers5]; exact fun q => hd4 1 (by decide) q.symm
  have d_01 : sl0 ≠ sl1 := by rw [← esl0, ← esl1, ← ers5]; exact hd5
  have knw : zk σ nw 3 := hT.k tnw (by decide)
  have ksl0 : zk σ sl0 3 := hT.k tsl0 (by decide)
  have ksl1 : zk σ sl1 3 := hT.k tsl1 (by decide)
  refine lv_aload_n hx hb dL_law_912 rfl (lv_at hl 3 rfl) ?_
  refine lv_aload_n hx hb dL_law_913 rfl (lv_at hl 4 rfl) ?_
  refine lv_iload hx hb dL_law_914 (lv_at hl 0 rfl) ?_
  refine lv_iconst (v := 1) hx hb dL_law_916 (by decide) ?_
  refine lv_iadd hx hb dL_law_917 ?_
  refine g_add (by omega) (by omega) (fun t1 ht1 => ?_)
  refine va_sld hx hb hXs hbl hbA hT.2.2.2 (g_in (by omega) (by omega)) dL_law_918 ?_
  refine ti y1 (by rw [hy1]; exact congrArg xs (show t1.toNatClampNeg = ix i + 1 from by show t1.toInt.toNat = ix i + 1; unfold ix; omega)) ?_
  refine lv_aload_n hx hb dL_law_919 rfl (lv_at hl 1 rfl) ?_
  have hTo := hT
  refine tHi (n := 3) (As := [.ref x, .int y1, .ref out]) (rest := []) hx hb hml hown hg hT hK hX (L_forward l κ σ x y1 out (hT.k t_x (by decide)) (hT.k t_out (by decide)) hlt) sub_hfLr_fA (mwHS k1025 k1026 k83 k1027) ⟨by decide, by decide, by decide +kernel⟩ ⟨(Nat.le_of_ble_eq_true rfl), (Nat.le_of_ble_eq_true rfl)⟩ rfl hl.1 rfl (Nat.le_of_ble_eq_true rfl) dL_law_920 zx (fun r3 s2 H locs hφ hE hT => ?_)
  have R4 := hR.ext hE ⟨rfl, rfl, fun _ => rfl, fun _ => rfl, fun _ => rfl, fun _ => rfl⟩
  have a5 : (zI s2 tx 1).toInt = (zI σ tx 1).toInt := by rw [(hTo.k ttx (by decide)).eI hE (by decide) rfl]
  have j6 : zI s2 rB = zI σ rB := (show zI s2 rB = zI σ rB from funext fun k => (hTo.k trB (by decide)).eI hE (by decide) rfl)
  have j7 : zI s2 rT = zI σ rT := (show zI s2 rT = zI σ rT from funext fun k => (hTo.k trT (by decide)).eI hE (by decide) rfl)
  have j8 : zI s2 rI = zI σ rI := (show zI s2 rI = zI σ rI from funext fun k => (hTo.k trI (by decide)).eI hE (by decide) rfl)
  have j9 : zI s2 rK = zI σ rK := (show zI s2 rK = zI σ rK from funext fun k => (hTo.k trK (by decide)).eI hE (by decide) rfl)
  have j10 : zI s2 tx 2 = zI σ tx 2 := (hTo.k ttx (by decide)).eI hE (by decide) rfl
  have j11 : zI s2 tx 3 = zI σ tx 3 := (hTo.k ttx (by decide)).eI hE (by decide) rfl
  have j12 : zI s2 mm 15 = zI σ mm 15 := (hTo.k t_mm (by decide)).eI hE (by decide) rfl
  have j13 : zI s2 mm 16 = zI σ mm 16 := (hTo.k t_mm (by decide)).eI hE (by decide) rfl
  have n14 : zI s2 nw 7 = zI σ nw 7 ∧ zI s2 nw 8 = zI σ nw 8 ∧ zI s2 nw 9 = zI σ nw 9 := ⟨(hTo.k tnw (by decide)).eI hE (by decide) rfl, (hTo.k tnw (by decide)).eI hE (by decide) rfl, (hTo.k tnw (by decide)).eI hE (by decide) rfl⟩
  have n15 : zI s2 sl0 7 = zI σ sl0 7 ∧ zI s2 sl0 8 = zI σ sl0 8 ∧ zI s2 sl0 9 = zI σ sl0 9 := ⟨(hTo.k tsl0 (by decide)).eI hE (by decide) rfl, (hTo.k tsl0 (by decide)).eI hE (by decide) rfl, (hTo.k tsl0 (by decide)).eI hE (by decide) rfl⟩
  have n16 : zI s2 sl1 7 = zI σ sl1 7 ∧ zI s2 sl1 8 = zI σ sl1 8 ∧ zI s2 sl1 9 = zI σ sl1 9 := ⟨(hTo.k tsl1 (by decide)).eI hE (by decide) rfl, (hTo.k tsl1 (by decide)).eI hE (by decide) rfl, (hTo.k tsl1 (by decide)).eI hE (by decide) rfl⟩
  have n17 : ∀ j : Nat, j < 3 → zJ s2 rW j = zJ σ rW j := fun j hj => (hTo.k trW (by decide)).eJ hE (by decide) rfl
  have n18 : zJ s2 rS = zJ σ rS := (show zJ s2 rS = zJ σ rS from funext fun k => (hTo.k trS (by decide)).eJ hE (by decide) rfl)
  have z19 : zI s2 so 2 = zI σ so 2 ∧ zI s2 so 6 = zI σ so 6 ∧ zI s2 qP = zI σ qP ∧ zI s2 qO = zI σ qO := ⟨(hTo.k tso (by decide)).eI hE (by decide) rfl, (hTo.k tso (by decide)).eI hE (by decide) rfl, funext fun q9 => (hTo.k tqP (by decide)).eI hE (by decide) rfl, funext fun q9 => (hTo.k tqO (by decide)).eI hE (by decide) rfl⟩
  have z20 : zI s2 mm 7 = zI σ mm 7 ∧ zI s2 mm 8 = zI σ mm 8 ∧ zI s2 r5 = zI σ r5 ∧ zI s2 r6 = zI σ r6 := ⟨(hTo.k t_mm (by decide)).eI hE (by decide) rfl, (hTo.k t_mm (by decide)).eI hE (by decide) rfl, funext fun q9 => (hTo.k tr5 (by decide)).eI hE (by decide) rfl, funext fun q9 => (hTo.k tr6 (by decide)).eI hE (by decide) rfl⟩
  have a21 : (zI s2 mm 13).toInt = (zI σ mm 13).toInt := by rw [(hTo.k t_mm (by decide)).eI hE (by decide) rfl]
  refine lv_istore (lv' := [(5, .int r3), (4, .int i), (3, .ref out), (2, .ref mm), (1, .ref x), (0, .ref b)]) hx hb dL_law_923 hl (by decide) rfl (fun ls hl => ?_)
  refine lv_aload_n hx hb dL_law_925 rfl (lv_at hl 3 rfl) ?_
  refine lv_aload_n hx hb dL_law_926 rfl (lv_at hl 5 rfl) ?_
  refine lv_iload hx hb dL_law_927 (lv_at hl 1 rfl) ?_
  refine lv_iconst (v := 1) hx hb dL_law_929 (by decide) ?_
  refine lv_iadd hx hb dL_law_930 ?_
  refine g_add (by omega) (by omega) (fun t22 ht22 => ?_)
  refine va_sld hx hb hXs hbl hbA hT.2.2.2 (g_in (by omega) (by omega)) dL_law_931 ?_
  refine ti y1 (by rw [hy1]; exact congrArg xs (show t22.toNatClampNeg = ix i + 1 from by show t22.toInt.toNat = ix i + 1; unfold ix; omega)) ?_
  have hTo := hT
  refine tVi (n := 1) (As := [.int y1]) (rest := []) hx hb hml hown hg hT hK hX (X6_forward l (kX κ) s2 mm y1 (hT.k t_mm (by decide)) R4) sub_gX_fA (mwV k1583 k1584 k1585 k92 k1586) ⟨rfl, by decide, by decide, by decide +kernel⟩ ⟨(Nat.le_of_ble_eq_true rfl), (Nat.le_of_ble_eq_true rfl)⟩ (hT.o20 (hT.k t_mm (by decide))) rfl rfl hl.1 rfl (Nat.le_of_ble_eq_true rfl) dL_law_932 zx (fun r24 s23 H locs hφ hE hT => ?_)
  have f25 := hφ
  have a26 : (zI s23 tx 1).toInt = (zI s2 tx 1).toInt := by rw [(hTo.k ttx (by decide)).eI hE (by decide) rfl]
  have j27 : zI s23 rB = zI σ rB := ((show zI s23 rB = zI s2 rB from funext fun k => (hTo.k trB (by decide)).eI hE (by decide) rfl)).trans j6
  have j28 : zI s23 rT = zI σ rT := ((show zI s23 rT = zI s2 rT from funext fun k => (hTo.k trT (by decide)).eI hE (by decide) rfl)).trans j7
  have j29 : zI s23 rI = zI σ rI := ((show zI s23 rI = zI s2 rI from funext fun k => (hTo.k trI (by decide)).eI hE (by decide) rfl)).trans j8
  have j30 : zI s23 rK = zI σ rK := ((show zI s23 rK = zI s2 rK from funext fun k => (hTo.k trK (by decide)).eI hE (by decide) rfl)).trans j9
  have j31 : zI s23 tx 2 = zI σ tx 2 := ((hTo.k ttx (by decide)).eI hE (by decide) rfl).trans j10
  have j32 : zI s23 tx 3 = zI σ tx 3 := ((hTo.k ttx (by decide)).eI hE (by decide) rfl).trans j11
  have j33 : zI s23 mm 15 = zI σ mm 15 := ((hTo.k t_mm (by decide)).eI hE (by decide) rfl).trans j12
  have j34 : zI s23 mm 16 = zI σ mm 16 := ((hTo.k t_mm (by decide)).eI hE (by decide) rfl).trans j13
  have n35 : zI s23 nw 7 = zI s2 nw 7 ∧ zI s23 nw 8 = zI s2 nw 8 ∧ zI s23 nw 9 = zI s2 nw 9 := ⟨(hTo.k tnw (by decide)).eI hE (by decide) rfl, (hTo.k tnw (by decide)).eI hE (by decide) rfl, (hTo.k tnw (by decide)).eI hE (by decide) rfl⟩
  have n36 : zI s23 nw 7 = zI σ nw 7 ∧ zI s23 nw 8 = zI σ nw 8 ∧ zI s23 nw 9 = zI σ nw 9 := ⟨n35.1.trans n14.1, n35.2.1.trans n14.2.1, n35.2.2.trans n14.2.2⟩
  have n37 : zI s23 sl0 7 = zI s2 sl0 7 ∧ zI s23 sl0 8 = zI s2 sl0 8 ∧ zI s23 sl0 9 = zI s2 sl0 9 := ⟨(hTo.k tsl0 (by decide)).eI hE (by decide) rfl, (hTo.k tsl0 (by decide)).eI hE (by decide) rfl, (hTo.k tsl0 (by decide)).eI hE (by decide) rfl⟩
  have n38 : zI s23 sl0 7 = zI σ sl0 7 ∧ zI s23 sl0 8 = zI σ sl0 8 ∧ zI s23 sl0 9 = zI σ sl0 9 := ⟨n37.1.trans n15.1, n37.2.1.trans n15.2.1, n37.2.2.trans n15.2.2⟩
  have n39 : zI s23 sl1 7 = zI s2 sl1 7 ∧ zI s23 sl1 8 = zI s2 sl1 8 ∧ zI s23 sl1 9 = zI s2 sl1 9 := ⟨(hTo.k tsl1 (by decide)).eI hE (by decide) rfl, (hTo.k tsl1 (by decide)).eI hE (by decide) rfl, (hTo.k tsl1 (by decide)).eI hE (by decide) rfl⟩
  have n40 : zI s23 sl1 7 = zI σ sl1 7 ∧ zI s23 sl1 8 = zI σ sl1 8 ∧ zI s23 sl1 9 = zI σ sl1 9 := ⟨n39.1.trans n16.1, n39.2.1.trans n16.2.1, n39.2.2.trans n16.2.2⟩
  have n41 : ∀ j : Nat, j < 3 → zJ s23 rW j = zJ s2 rW j := fun j hj => (hTo.k trW (by decide)).eJ hE (by decide) (lt3_gX j hj)
  have n42 : ∀ j : Nat, j < 3 → zJ s23 rW j = zJ σ rW j := fun j hj => (n41 j hj).trans (n17 j hj)
  have n43 : zJ s23 rS = zJ σ rS := (show zJ s23 rS = zJ s2 rS from funext fun k => (hTo.k trS (by decide)).eJ hE (by decide) rfl).trans n18
  have z44 : zI s23 so 2 = zI s2 so 2 ∧ zI s23 so 6 = zI s2 so 6 ∧ zI s23 qP = zI s2 qP ∧ zI s23 qO = zI s2 qO := ⟨(hTo.k tso (by decide)).eI hE (by decide) rfl, (hTo.k tso (by decide)).eI hE (by decide) rfl, funext fun q9 => (hTo.k tqP (by decide)).eI hE (by decide) rfl, funext fun q9 => (hTo.k tqO (by decide)).eI hE (by decide) rfl⟩
  have z45 : zI s23 so 2 = zI σ so 2 ∧ zI s23 so 6 = zI σ so 6 ∧ zI s23 qP = zI σ qP ∧ zI s23 qO = zI σ qO := ⟨z44.1.trans z19.1, z44.2.1.trans z19.2.1, z44.2.2.1.trans z19.2.2.1, z44.2.2.2.trans z19.2.2.2⟩
  have z46 : zI s23 mm 7 = zI s2 mm 7 ∧ zI s23 mm 8 = zI s2 mm 8 ∧ zI s23 r5 = zI s2 r5 ∧ zI s23 r6 = zI s2 r6 := ⟨(hTo.k t_mm (by decide)).eI hE (by decide) rfl, (hTo.k t_mm (by decide)).eI hE (by decide) rfl, funext fun q9 => (hTo.k tr5 (by decide)).eI hE (by decide) rfl, funext fun q9 => (hTo.k tr6 (by decide)).eI hE (by decide) rfl⟩
  have z47 : zI s23 mm 7 = zI σ mm 7 ∧ zI s23 mm 8 = zI σ mm 8 ∧ zI s23 r5 = zI σ r5 ∧ zI s23 r6 = zI σ r6 := ⟨z46.1.trans z20.1, z46.2.1.trans z20.2.1, z46.2.2.1.trans z20.2.2.1, z46.2.2.2.trans z20.2.2.2⟩
  have a48 : (zI s23 mm 13).toInt = (zI s2 mm 13).toInt := by rw [(hTo.k t_mm (by decide)).eI hE (by decide) rfl]
  refine lv_istore (lv' := [(6, .int r24), (5, .int r3), (4, .int i), (3, .ref out), (2, .ref mm), (1, .ref x), (0, .ref b)]) hx hb dL_law_935 hl (by decide) rfl (fun ls hl => ?_)
  refine lv_goto (tgt := 1432) hx hb dL_law_937 (by decide) ?_
  have sl0f : zI s23 rI 0 ≠ 0 → SLT κ s23 x mm 0 := fun hq => (hsl 0 (by decide) (fun q9 => hq (by rw [erI] at q9; rw [j29]; exact q9))).tr (by rw [ers5, esl0]; exact n38) (fun j hj => by rw [erS, n43])
  have sl1f : zI s23 rI 1 ≠ 0 → SLT κ s23 x mm 1 := fun hq => (hsl 1 (by decide) (fun q9 => hq (by rw [erI] at q9; rw [j29]; exact q9))).tr (by rw [ers5, esl1]; exact n40) (fun j hj => by rw [erS, n43])
  exact KK s23 _ _ _ hT f25 ⟨by rw [etx]; omega, ⟨by rw [etx, erB, erT, j27, j28]; exact tal_less hal (by omega), by rw [erT, j28]; exact tnn_less hnn (by omega)⟩, ⟨by rw [etx, j31, j33]; exact hco, by rw [etx, j32, j34]; exact hpo⟩, fun i hi => by rw [erI, erK, j29, j30]; exact hkp i hi⟩ (⟨hnw.tr (by rw [enw]; exact n36) (by rw [erW]; exact n42), fun i hi => (show i = 0 ∨ i = 1 by omega).elim (fun e9 => by rw [e9, erI]; exact sl0f) (fun e9 => by rw [e9, erI]; exact sl1f)⟩) (hsm.tr (by rw [eso, eqP, eqO]; exact z45) (by rw [er5, er6]; exact z47)) (lv_sub hl [2, 3, 4, 5, 6] rfl)
set_option maxHeartbeats 4000000 in
set_option maxRecDepth 100000 in
theorem lc_26 (l : Launch) (κ : Kt) (σ0 : Gh) (x mm out b : Nat) (t_x : zk σ0 x 7) (t_mm : zk σ0 mm 20) (t_out : zk σ0 out 24) (ttx0 : zk σ0 (kR κ x 0) 6) (hdis : DIS κ x) (hlt : l.stackTraces = false) {p : Program} {e : Env} {s : State} {m : MethodId} {below : List Frame} {meth : Method} {c : Code} {L : Nat} {xs : Nat → Int32} {i : Int32} {Q9 : State → Prop} (hx : p.tables.exec = Jvm.exec) (hb : c.code = cL_law) (hml : c.maxLocals = 9) (hown : s.vm.findClass RL = some m.cls) (hg : ∀ w ∈ GW, w.before #[Value.ref b] s = true) (hK : va_K κ.1 vwCl (kTy κ) s) (hX : XY κ (tA σ0 s.heap.size) s s.heap) (hXs : va_X b L xs s s.heap) (hbl : b < s.heap.size) (hbA : ¬ tA σ0 s.heap.size b) (zx : zroomX κ s room_1 601024 7293034) (hi0 : 0 ≤ i.toInt) (hi1 : i.toInt + 6 ≤ L) (hL9 : L ≤ 3072) {σ : Gh} {H : Heap} {locs : List Loc} {ls : Array Slot} (hT : TS κ fA σ0 σ s H locs) (hR : RI κ σ mm) (hrel : LREL κ σ x mm) (hsr : SREL κ σ x mm) (hsm : SMP κ σ x mm) (hl : lv_has ls 9 [(4, .int i), (3, .ref out), (2, .ref mm), (1, .ref x), (0, .ref b)]) (KK : ∀ (σ1 : Gh) (H : Heap) (locs : List Loc) (ls : Array Slot), TS (kX κ) fA σ0 σ1 s H locs → RI (kX κ) σ1 mm → LREL κ σ1 x mm → SREL κ σ1 x mm → SMP κ σ1 x mm → lv_has ls 9 [(4, .int i), (3, .ref out), (2, .ref mm), (1, .ref x), (0, .ref b)] → W p l e room_1 s m #[Value.ref b] below meth c H locs 601024 7293034 Q9 (F0 m 1432 ls [])) : W p l e room_1 s m #[Value.ref b] below meth c H locs 601024 7293034 Q9 (F0 m 940 ls []) := by
  obtain ⟨y1, hy1⟩ : ∃ z, z = xs (ix i + 1) := ⟨_, rfl⟩
  obtain ⟨y2, hy2⟩ : ∃ z, z = xs (ix i + 2) := ⟨_, rfl⟩
  obtain ⟨y3, hy3⟩ : ∃ z, z = xs (ix i + 3) := ⟨_, rfl⟩
  obtain ⟨y4, hy4⟩ : ∃ z, z = xs (ix i + 4) := ⟨_, rfl⟩
  obtain ⟨y5, hy5⟩ : ∃ z, z = xs (ix i + 5) := ⟨_, rfl⟩
  have n0 : (0 : Int32).toInt = 0 := by decide
  have n1 : (1 : Int32).toInt = 1 := by decide
  have n2 : (2 : Int32).toInt = 2 := by decide
  have n3 : (3 : Int32).toInt = 3 := by decide
  have n4 : (4 : Int32).toInt = 4 := by decide
  have n5 : (5 : Int32).toInt = 5 := by decide
  obtain ⟨tx, etx⟩ : ∃ z, kR κ x 0 = z := ⟨_, rfl⟩
  have ttx : zk σ0 tx 6 := by rw [← etx]; exact ttx0
  obtain ⟨rB, erB⟩ : ∃ z, kR κ tx 0 = z := ⟨_, rfl⟩
  have trB : zk σ0 rB 14 := by rw [← erB]; exact hT.kr (hT.ref (hT.k ttx (by decide)) (by decide) (by decide) (by decide)) (by decide) (by decide)
  obtain ⟨rT, erT⟩ : ∃ z, kR κ mm 12 = z := ⟨_, rfl⟩
  have trT : zk σ0 rT 23 := by rw [← erT]; exact hT.kr (hT.ref (hT.k t_mm (by decide)) (by decide) (by decide) (by decide)) (by decide) (by decide)
  obtain ⟨rI, erI⟩ : ∃ z, kR κ x 6 = z := ⟨_, rfl⟩
  have trI : zk σ0 rI 13 := by rw [← erI]; exact hT.kr (hT.ref (hT.k t_x (by decide)) (by decide) (by decide) (by decide)) (by decide) (by decide)
  obtain ⟨rK, erK⟩ : ∃ z, kR κ mm 4 = z := ⟨_, rfl⟩
  have trK : zk σ0 rK 29 := by rw [← erK]; exact hT.kr (hT.ref (hT.k t_mm (by decide)) (by decide) (by decide) (by decide)) (by decide) (by decide)
  obtain ⟨hlen, ⟨hal, hnn⟩, ⟨hco, hpo⟩, hkp⟩ := hrel
  rw [etx] at hlen hal hco hpo
  rw [erB, erT] at hal
  rw [erT] at hnn
  rw [erI, erK] at hkp
  have btx := (hT.P (hT.k ttx (by decide)) (by decide)).1
  have btxl := btx.1
  have btxh := btx.2
  obtain ⟨nw, enw⟩ : ∃ z, kR κ x 3 = z := ⟨_, rfl⟩
  have tnw : zk σ0 nw 3 := by rw [← enw]; exact hT.kr (hT.ref (hT.k t_x (by decide)) (by decide) (by decide) (by decide)) (by decide) (by decide)
  obtain ⟨tr, etr⟩ : ∃ z, kR κ x 4 = z := ⟨_, rfl⟩
  have ttr : zk σ0 tr 3 := by rw [← etr]; exact hT.kr (hT.ref (hT.k t_x (by decide)) (by decide) (by decide) (by decide)) (by decide) (by decide)
  obtain ⟨rs5, ers5⟩ : ∃ z, kR κ x 5 = z := ⟨_, rfl⟩
  have trs5 : zk σ0 rs5 12 := by rw [← ers5]; exact hT.kr (hT.ref (hT.k t_x (by decide)) (by decide) (by decide) (by decide)) (by decide) (by decide)
  obtain ⟨sl0, esl0⟩ : ∃ z, kR κ rs5 0 = z := ⟨_, rfl⟩
  have tsl0 : zk σ0 sl0 3 := by rw [← esl0]; exact hT.kr (hT.ref (hT.k trs5 (by decide)) (by decide) (by decide) (by decide)) (by decide) (by decide)
  obtain ⟨sl1, esl1⟩ : ∃ z, kR κ rs5 1 = z := ⟨_, rfl⟩
  have tsl1 : zk σ0 sl1 3 := by rw [← esl1]; exact hT.kr (hT.ref (hT.k trs5 (by decide)) (by decide) (by decide) (by decide)) (by decide) (by decide)
  obtain ⟨rW, erW⟩ : ∃ z, kR κ mm 1 = z := ⟨_, rfl⟩
  have trW : zk σ0 rW 21 := by rw [← erW]; exact hT.kr (hT.ref (hT.k t_mm (by decide)) (by decide) (by decide) (by decide)) (by decide) (by decide)
  obtain ⟨rS, erS⟩ : ∃ z, kR κ mm 3 = z := ⟨_, rfl⟩
  have trS : zk σ0 rS 22 := by rw [← erS]; exact hT.kr (hT.ref (hT.k t_mm (by decide)) (by decide) (by decide) (by decide)) (by decide) (by decide)
  obtain ⟨so, eso⟩ : ∃ z, kR κ x 1 = z := ⟨_, rfl⟩
  have tso : zk σ0 so 4 := by rw [← eso]; exact hT.kr (hT.ref (hT.k t_x (by decide)) (by decide) (by decide) (by decide)) (by decide) (by decide)
  obtain ⟨qP, eqP⟩ : ∃ z, kR κ so 0 = z := ⟨_, rfl⟩
  have tqP : zk σ0 qP 8 := by rw [← eqP]; exact hT.kr (hT.ref (hT.k tso (by decide)) (by decide) (by decide) (by decide)) (by decide) (by decide)
  obtain ⟨qO, eqO⟩ : ∃ z, kR κ so 1 = z := ⟨_, rfl⟩
  have tqO : zk σ0 qO 16 := by rw [← eqO]; exact hT.kr (hT.ref (hT.k tso (by decide)) (by decide) (by decide) (by decide)) (by decide) (by decide)
  obtain ⟨r5, er5⟩ : ∃ z, kR κ mm 5 = z := ⟨_, rfl⟩
  have tr5 : zk σ0 r5 25 := by rw [← er5]; exact hT.kr (hT.ref (hT.k t_mm (by decide)) (by decide) (by decide) (by decide)) (by decide) (by decide)
  obtain ⟨r6, er6⟩ : ∃ z, kR κ mm 6 = z := ⟨_, rfl⟩
  have tr6 : zk σ0 r6 26 := by rw [← er6]; exact hT.kr (hT.ref (hT.k t_mm (by decide)) (by decide) (by decide) (by decide)) (by decide) (by decide)
  obtain ⟨hnw, hsl⟩ := hsr
  obtain ⟨hd1, ⟨hd2, hd3⟩, hd4, hd5, hd6, hd7⟩ := hdis
  have d_nt : nw ≠ tr := by rw [← enw, ← etr]; exact hd2
  have d_n0 : nw ≠ sl0 := by rw [← enw, ← esl0, ← ers5]; exact hd3 0 (by decide)
  have d_t0 : sl0 ≠ tr := by rw [← etr, ← esl0, ← ers5]; exact fun q => hd4 0 (by decide) q.symm
  have d_n1 : nw ≠ sl1 := by rw [← enw, ← esl1, ← ers5]; exact hd3 1 (by decide)
  have d_t1 : sl1 ≠ tr := by rw [← etr, ← esl1, ← ers5]; exact fun q => hd4 1 (by decide) q.symm
  have d_01 : sl0 ≠ sl1 := by rw [← esl0, ← esl1, ← ers5]; exact hd5
  have knw : zk σ nw 3 := hT.k tnw (by decide)
  have ksl0 : zk σ sl0 3 := hT.k tsl0 (by decide)
  have ksl1 : zk σ sl1 3 := hT.k tsl1 (by decide)
  refine lv_aload_n hx hb dL_law_940 rfl (lv_at hl 3 rfl) ?_
  refine lv_aload_n hx hb dL_law_941 rfl (lv_at hl 4 rfl) ?_
  refine lv_iload hx hb dL_law_942 (lv_at hl 0 rfl) ?_
  refine lv_iconst (v := 1) hx hb dL_law_944 (by decide) ?_
  refine lv_iadd hx hb dL_law_945 ?_
  refine g_add (by omega) (by omega) (fun t1 ht1 => ?_)
  refine va_sld hx hb hXs hbl hbA hT.2.2.2 (g_in (by omega) (by omega)) dL_law_946 ?_
  refine ti y1 (by rw [hy1]; exact congrArg xs (show t1.toNatClampNeg = ix i + 1 from by show t1.toInt.toNat = ix i + 1; unfold ix; omega)) ?_
  refine lv_aload_n hx hb dL_law_947 rfl (lv_at hl 1 rfl) ?_
  have hTo := hT
  refine tHi (n := 3) (As := [.ref x, .int y1, .ref out]) (rest := []) hx hb hml hown hg hT hK hX (L_lift l κ σ x y1 out (hT.k t_x (by decide)) (hT.k t_out (by decide)) hlt) sub_hfLr_fA (mwHS k1032 k1033 k83 k1034) ⟨by decide, by decide, by decide +kernel⟩ ⟨(Nat.le_of_ble_eq_true rfl), (Nat.le_of_ble_eq_true rfl)⟩ rfl hl.1 rfl (Nat.le_of_ble_eq_true rfl) dL_law_948 zx (fun r3 s2 H locs hφ hE hT => ?_)
  have R4 := hR.ext hE ⟨rfl, rfl, fun _ => rfl, fun _ => rfl, fun _ => rfl, fun _ => rfl⟩
  have a5 : (zI s2 tx 1).toInt = (zI σ tx 1).toInt := by rw [(hTo.k ttx (by decide)).eI hE (by decide) rfl]
  have j6 : zI s2 rB = zI σ rB := (show zI s2 rB = zI σ rB from funext fun k => (hTo.k trB (by decide)).eI hE (by decide) rfl)
  have j7 : zI s2 rT = zI σ rT := (show zI s2 rT = zI σ rT from funext fun k => (hTo.k trT (by decide)).eI hE (by decide) rfl)
  have j8 : zI s2 rI = zI σ rI := (show zI s2 rI = zI σ rI from funext fun k => (hTo.k trI (by decide)).eI hE (by decide) rfl)
  have j9 : zI s2 rK = zI σ rK := (show zI s2 rK = zI σ rK from funext fun k => (hTo.k trK (by decide)).eI hE (by decide) rfl)
  have j10 : zI s2 tx 2 = zI σ tx 2 := (hTo.k ttx (by decide)).eI hE (by decide) rfl
  have j11 : zI s2 tx 3 = zI σ tx 3 := (hTo.k ttx (by decide)).eI hE (by decide) rfl
  have j12 : zI s2 mm 15 = zI σ mm 15 := (hTo.k t_mm (by decide)).eI hE (by decide) rfl
  have j13 : zI s2 mm 16 = zI σ mm 16 := (hTo.k t_mm (by decide)).eI hE (by decide) rfl
  have n14 : zI s2 nw 7 = zI σ nw 7 ∧ zI s2 nw 8 = zI σ nw 8 ∧ zI s2 nw 9 = zI σ nw 9 := ⟨(hTo.k tnw (by decide)).eI hE (by decide) rfl, (hTo.k tnw (by decide)).eI hE (by decide) rfl, (hTo.k tnw (by decide)).eI hE (by decide) rfl⟩
  have n15 : zI s2 sl0 7 = zI σ sl0 7 ∧ zI s2 sl0 8 = zI σ sl0 8 ∧ zI s2 sl0 9 = zI σ sl0 9 := ⟨(hTo.k tsl0 (by decide)).eI hE (by decide) rfl, (hTo.k tsl0 (by decide)).eI hE (by decide) rfl, (hTo.k tsl0 (by decide)).eI hE (by decide) rfl⟩
  have n16 : zI s2 sl1 7 = zI σ sl1 7 ∧ zI s2 sl1 8 = zI σ sl1 8 ∧ zI s2 sl1 9 = zI σ sl1 9 := ⟨(hTo.k tsl1 (by decide)).eI hE (by decide) rfl, (hTo.k tsl1 (by decide)).eI hE (by decide) rfl, (hTo.k tsl1 (by decide)).eI hE (by decide) rfl⟩
  have n17 : ∀ j : Nat, j < 3 → zJ s2 rW j = zJ σ rW j := fun j hj => (hTo.k trW (by decide)).eJ hE (by decide) rfl
  have n18 : zJ s2 rS = zJ σ rS := (show zJ s2 rS = zJ σ rS from funext fun k => (hTo.k trS (by decide)).eJ hE (by decide) rfl)
  have z19 : zI s2 so 2 = zI σ so 2 ∧ zI s2 so 6 = zI σ so 6 ∧ zI s2 qP = zI σ qP ∧ zI s2 qO = zI σ qO := ⟨(hTo.k tso (by decide)).eI hE (by decide) rfl, (hTo.k tso (by decide)).eI hE (by decide) rfl, funext fun q9 => (hTo.k tqP (by decide)).eI hE (by decide) rfl, funext fun q9 => (hTo.k tqO (by decide)).eI hE (by decide) rfl⟩
  have z20 : zI s2 mm 7 = zI σ mm 7 ∧ zI s2 mm 8 = zI σ mm 8 ∧ zI s2 r5 = zI σ r5 ∧ zI s2 r6 = zI σ r6 := ⟨(hTo.k t_mm (by decide)).eI hE (by decide) rfl, (hTo.k t_mm (by decide)).eI hE (by decide) rfl, funext fun q9 => (hTo.k tr5 (by decide)).eI hE (by decide) rfl, funext fun q9 => (hTo.k tr6 (by decide)).eI hE (by decide) rfl⟩
  have a21 : (zI s2 mm 13).toInt = (zI σ mm 13).toInt := by rw [(hTo.k t_mm (by decide)).eI hE (by decide) rfl]
  refine lv_istore (lv' := [(5, .int r3), (4, .int i), (3, .ref out), (2, .ref mm), (1, .ref x), (0, .ref b)]) hx hb dL_law_951 hl (by decide) rfl (fun ls hl => ?_)
  refine lv_aload_n hx hb dL_law_953 rfl (lv_at hl 3 rfl) ?_
  refine lv_aload_n hx hb dL_law_954 rfl (lv_at hl 5 rfl) ?_
  refine lv_iload hx hb dL_law_955 (lv_at hl 1 rfl) ?_
  refine lv_iconst (v := 1) hx hb dL_law_957 (by decide) ?_
  refine lv_iadd hx hb dL_law_958 ?_
  refine g_add (by omega) (by omega) (fun t22 ht22 => ?_)
  refine va_sld hx hb hXs hbl hbA hT.2.2.2 (g_in (by omega) (by omega)) dL_law_959 ?_
  refine ti y1 (by rw [hy1]; exact congrArg xs (show t22.toNatClampNeg = ix i + 1 from by show t22.toInt.toNat = ix i + 1; unfold ix; omega)) ?_
  have hTo := hT
  refine tVl (n := 1) (As := [.int y1]) (rest := []) hx hb hml hown hg hT hK hX (X6_lift l (kX κ) s2 mm y1 (hT.k t_mm (by decide)) R4) sub_gX_fA (mwV k1608 k1609 k1610 k92 k1611) ⟨rfl, by decide, by decide, by decide +kernel⟩ ⟨(Nat.le_of_ble_eq_true rfl), (Nat.le_of_ble_eq_true rfl)⟩ (hT.o20 (hT.k t_mm (by decide))) rfl rfl hl.1 rfl (Nat.le_of_ble_eq_true rfl) dL_law_960 zx (fun r24 s23 H locs hφ hE hT => ?_)
  have f25 := hφ
  have a26 : (zI s23 tx 1).toInt = (zI s2 tx 1).toInt := by rw [(hTo.k ttx (by decide)).eI hE (by decide) rfl]
  have j27 : zI s23 rB = zI σ rB := ((show zI s23 rB = zI s2 rB from funext fun k => (hTo.k trB (by decide)).eI hE (by decide) rfl)).trans j6
  have j28 : zI s23 rT = zI σ rT := ((show zI s23 rT = zI s2 rT from funext fun k => (hTo.k trT (by decide)).eI hE (by decide) rfl)).trans j7
  have j29 : zI s23 rI = zI σ rI := ((show zI s23 rI = zI s2 rI from funext fun k => (hTo.k trI (by decide)).eI hE (by decide) rfl)).trans j8
  have j30 : zI s23 rK = zI σ rK := ((show zI s23 rK = zI s2 rK from funext fun k => (hTo.k trK (by decide)).eI hE (by decide) rfl)).trans j9
  have j31 : zI s23 tx 2 = zI σ tx 2 := ((hTo.k ttx (by decide)).eI hE (by decide) rfl).trans j10
  have j32 : zI s23 tx 3 = zI σ tx 3 := ((hTo.k ttx (by decide)).eI hE (by decide) rfl).trans j11
  have j33 : zI s23 mm 15 = zI σ mm 15 := ((hTo.k t_mm (by decide)).eI hE (by decide) rfl).trans j12
  have j34 : zI s23 mm 16 = zI σ mm 16 := ((hTo.k t_mm (by decide)).eI hE (by decide) rfl).trans j13
  have n35 : zI s23 nw 7 = zI s2 nw 7 ∧ zI s23 nw 8 = zI s2 nw 8 ∧ zI s23 nw 9 = zI s2 nw 9 := ⟨(hTo.k tnw (by decide)).eI hE (by decide) rfl, (hTo.k tnw (by decide)).eI hE (by decide) rfl, (hTo.k tnw (by decide)).eI hE (by decide) rfl⟩
  have n36 : zI s23 nw 7 = zI σ nw 7 ∧ zI s23 nw 8 = zI σ nw 8 ∧ zI s23 nw 9 = zI σ nw 9 := ⟨n35.1.trans n14.1, n35.2.1.trans n14.2.1, n35.2.2.trans n14.2.2⟩
  have n37 : zI s23 sl0 7 = zI s2 sl0 7 ∧ zI s23 sl0 8 = zI s2 sl0 8 ∧ zI s23 sl0 9 = zI s2 sl0 9 := ⟨(hTo.k tsl0 (by decide)).eI hE (by decide) rfl, (hTo.k tsl0 (by decide)).eI hE (by decide) rfl, (hTo.k tsl0 (by decide)).eI hE (by decide) rfl⟩
  have n38 : zI s23 sl0 7 = zI σ sl0 7 ∧ zI s23 sl0 8 = zI σ sl0 8 ∧ zI s23 sl0 9 = zI σ sl0 9 := ⟨n37.1.trans n15.1, n37.2.1.trans n15.2.1, n37.2.2.trans n15.2.2⟩
  have n39 : zI s23 sl1 7 = zI s2 sl1 7 ∧ zI s23 sl1 8 = zI s2 sl1 8 ∧ zI s23 sl1 9 = zI s2 sl1 9 := ⟨(hTo.k tsl1 (by decide)).eI hE (by decide) rfl, (hTo.k tsl1 (by decide)).eI hE (by decide) rfl, (hTo.k tsl1 (by decide)).eI hE (by decide) rfl⟩
  have n40 : zI s23 sl1 7 = zI σ sl1 7 ∧ zI s23 sl1 8 = zI σ sl1 8 ∧ zI s23 sl1 9 = zI σ sl1 9 := ⟨n39.1.trans n16.1, n39.2.1.trans n16.2.1, n39.2.2.trans n16.2.2⟩
  have n41 : ∀ j : Nat, j < 3 → zJ s23 rW j = zJ s2 rW j := fun j hj => (hTo.k trW (by decide)).eJ hE (by decide) (lt3_gX j hj)
  have n42 : ∀ j : Nat, j < 3 → zJ s23 rW j = zJ σ rW j := fun j hj => (n41 j hj).trans (n17 j hj)
  have n43 : zJ s23 rS = zJ σ rS := (show zJ s23 rS = zJ s2 rS from funext fun k => (hTo.k trS (by decide)).eJ hE (by decide) rfl).trans n18
  have z44 : zI s23 so 2 = zI s2 so 2 ∧ zI s23 so 6 = zI s2 so 6 ∧ zI s23 qP = zI s2 qP ∧ zI s23 qO = zI s2 qO := ⟨(hTo.k tso (by decide)).eI hE (by decide) rfl, (hTo.k tso (by decide)).eI hE (by decide) rfl, funext fun q9 => (hTo.k tqP (by decide)).eI hE (by decide) rfl, funext fun q9 => (hTo.k tqO (by decide)).eI hE (by decide) rfl⟩
  have z45 : zI s23 so 2 = zI σ so 2 ∧ zI s23 so 6 = zI σ so 6 ∧ zI s23 qP = zI σ qP ∧ zI s23 qO = zI σ qO := ⟨z44.1.trans z19.1, z44.2.1.trans z19.2.1, z44.2.2.1.trans z19.2.2.1, z44.2.2.2.trans z19.2.2.2⟩
  have z46 : zI s23 mm 7 = zI s2 mm 7 ∧ zI s23 mm 8 = zI s2 mm 8 ∧ zI s23 r5 = zI s2 r5 ∧ zI s23 r6 = zI s2 r6 := ⟨(hTo.k t_mm (by decide)).eI hE (by decide) rfl, (hTo.k t_mm (by decide)).eI hE (by decide) rfl, funext fun q9 => (hTo.k tr5 (by decide)).eI hE (by decide) rfl, funext fun q9 => (hTo.k tr6 (by decide)).eI hE (by decide) rfl⟩
  have z47 : zI s23 mm 7 = zI σ mm 7 ∧ zI s23 mm 8 = zI σ mm 8 ∧ zI s23 r5 = zI σ r5 ∧ zI s23 r6 = zI σ r6 := ⟨z46.1.trans z20.1, z46.2.1.trans z20.2.1, z46.2.2.1.trans z20.2.2.1, z46.2.2.2.trans z20.2.2.2⟩
  have a48 : (zI s23 mm 13).toInt = (zI s2 mm 13).toInt := by rw [(hTo.k t_mm (by decide)).eI hE (by decide) rfl]
  refine lv_lstore (lv' := [(6, .long r24), (5, .int r3), (4, .int i), (3, .ref out), (2, .ref mm), (1, .ref x), (0, .ref b)]) hx hb dL_law_963 hl (by decide) rfl (fun ls hl => ?_)
  refine lv_goto (tgt := 1432) hx hb dL_law_965 (by decide) ?_
  have sl0f : zI s23 rI 0 ≠ 0 → SLT κ s23 x mm 0 := fun hq => (hsl 0 (by decide) (fun q9 => hq (by rw [erI] at q9; rw [j29]; exact q9))).tr (by rw [ers5, esl0]; exact n38) (fun j hj => by rw [erS, n43])
  have sl1f : zI s23 rI 1 ≠ 0 → SLT κ s23 x mm 1 := fun hq => (hsl 1 (by decide) (fun q9 => hq (by rw [erI] at q9; rw [j29]; exact q9))).tr (by rw [ers5, esl1]; exact n40) (fun j hj => by rw [erS, n43])
  exact KK s23 _ _ _ hT f25 ⟨by rw [etx]; omega, ⟨by rw [etx, erB, erT, j27, j28]; exact tal_less hal (by omega), by rw [erT, j28]; exact tnn_less hnn (by omega)⟩, ⟨by rw [etx, j31, j33]; exact hco, by rw [etx, j32, j34]; exact hpo⟩, fun i hi => by rw [erI, erK, j29, j30]; exact hkp i hi⟩ (⟨hnw.tr (by rw [enw]; exact n36) (by rw [erW]; exact n42), fun i hi => (show i = 0 ∨ i = 1 by omega).elim (fun e9 => by rw [e9, erI]; exact sl0f) (fun e9 => by rw [e9, erI]; exact sl1f)⟩) (hsm.tr (by rw [eso, eqP, eqO]; exact z45) (by rw [er5, er6]; exact z47)) (lv_sub hl [2, 3, 4, 5, 6] rfl)
set_option maxHeartbeats 4000000 in
set_option maxRecDepth 100000 in
theorem lc_27 (l : Launch) (κ : Kt) (σ0 : Gh) (x mm out b : Nat) (t_x : zk σ0 x 7) (t_mm : zk σ0 mm 20) (t_out : zk σ0 out 24) (ttx0 : zk σ0 (kR κ x 0) 6) (hdis : DIS κ x) (hlt : l.stackTraces = false) {p : Program} {e : Env} {s : State} {m : MethodId} {below : List Frame} {meth : Method} {c : Code} {L : Nat} {xs : Nat → Int32} {i : Int32} {Q9 : State → Prop} (hx : p.tables.exec = Jvm.exec) (hb : c.code = cL_law) (hml : c.maxLocals = 9) (hown : s.vm.findClass RL = some m.cls) (hg : ∀ w ∈ GW, w.before #[Value.ref b] s = true) (hK : va_K κ.1 vwCl (kTy κ) s) (hX : XY κ (tA σ0 s.heap.size) s s.heap) (hXs : va_X b L xs s s.heap) (hbl : b < s.heap.size) (hbA : ¬ tA σ0 s.heap.size b) (zx : zroomX κ s room_1 601024 7293034) (hi0 : 0 ≤ i.toInt) (hi1 : i.toInt + 6 ≤ L) (hL9 : L ≤ 3072) {σ : Gh} {H : Heap} {locs : List Loc} {ls : Array Slot} (hT : TS κ fA σ0 σ s H locs) (hR : RI κ σ mm) (hrel : LREL κ σ x mm) (hsr : SREL κ σ x mm) (hsm : SMP κ σ x mm) (hl : lv_has ls 9 [(4, .int i), (3, .ref out), (2, .ref mm), (1, .ref x), (0, .ref b)]) (KK : ∀ (σ1 : Gh) (H : Heap) (locs : List Loc) (ls : Array Slot), TS (kX κ) fA σ0 σ1 s H locs → RI (kX κ) σ1 mm → LREL κ σ1 x mm → SREL κ σ1 x mm → SMP κ σ1 x mm → lv_has ls 9 [(4, .int i), (3, .ref out), (2, .ref mm), (1, .ref x), (0, .ref b)] → W p l e room_1 s m #[Value.ref b] below meth c H locs 601024 7293034 Q9 (F0 m 1432 ls [])) : W p l e room_1 s m #[Value.ref b] below meth c H locs 601024 7293034 Q9 (F0 m 968 ls []) := by
  obtain ⟨y1, hy1⟩ : ∃ z, z = xs (ix i + 1) := ⟨_, rfl⟩
  obtain ⟨y2, hy2⟩ : ∃ z, z = xs (ix i + 2) := ⟨_, rfl⟩
  obtain ⟨y3, hy3⟩ : ∃ z, z = xs (ix i + 3) := ⟨_, rfl⟩
  obtain ⟨y4, hy4⟩ : ∃ z, z = xs (ix i + 4) := ⟨_, rfl⟩
  obtain ⟨y5, hy5⟩ : ∃ z, z = xs (ix i + 5) := ⟨_, rfl⟩
  have n0 : (0 : Int32).toInt = 0 := by decide
  have n1 : (1 : Int32).toInt = 1 := by decide
  have n2 : (2 : Int32).toInt = 2 := by decide
  have n3 : (3 : Int32).toInt = 3 := by decide
  have n4 : (4 : Int32).toInt = 4 := by decide
  have n5 : (5 : Int32).toInt = 5 := by decide
  obtain ⟨tx, etx⟩ : ∃ z, kR κ x 0 = z := ⟨_, rfl⟩
  have ttx : zk σ0 tx 6 := by rw [← etx]; exact ttx0
  obtain ⟨rB, erB⟩ : ∃ z, kR κ tx 0 = z := ⟨_, rfl⟩
  have trB : zk σ0 rB 14 := by rw [← erB]; exact hT.kr (hT.ref (hT.k ttx (by decide)) (by decide) (by decide) (by decide)) (by decide) (by decide)
  obtain ⟨rT, erT⟩ : ∃ z, kR κ mm 12 = z := ⟨_, rfl⟩
  have trT : zk σ0 rT 23 := by rw [← erT]; exact hT.kr (hT.ref (hT.k t_mm (by decide)) (by decide) (by decide) (by decide)) (by decide) (by decide)
  obtain ⟨rI, erI⟩ : ∃ z, kR κ x 6 = z := ⟨_, rfl⟩
  have trI : zk σ0 rI 13 := by rw [← erI]; exact hT.kr (hT.ref (hT.k t_x (by decide)) (by decide) (by decide) (by decide)) (by decide) (by decide)
  obtain ⟨rK, erK⟩ : ∃ z, kR κ mm 4 = z := ⟨_, rfl⟩
  have trK : zk σ0 rK 29 := by rw [← erK]; exact hT.kr (hT.ref (hT.k t_mm (by decide)) (by decide) (by decide) (by decide)) (by decide) (by decide)
  obtain ⟨hlen, ⟨hal, hnn⟩, ⟨hco, hpo⟩, hkp⟩ := hrel
  rw [etx] at hlen hal hco hpo
  rw [erB, erT] at hal
  rw [erT] at hnn
  rw [erI, erK] at hkp
  have btx := (hT.P (hT.k ttx (by decide)) (by decide)).1
  have btxl := btx.1
  have btxh := btx.2
  obtain ⟨nw, enw⟩ : ∃ z, kR κ x 3 = z := ⟨_, rfl⟩
  have tnw : zk σ0 nw 3 := by rw [← enw]; exact hT.kr (hT.ref (hT.k t_x (by decide)) (by decide) (by decide) (by decide)) (by decide) (by decide)
  obtain ⟨tr, etr⟩ : ∃ z, kR κ x 4 = z := ⟨_, rfl⟩
  have ttr : zk σ0 tr 3 := by rw [← etr]; exact hT.kr (hT.ref (hT.k t_x (by decide)) (by decide) (by decide) (by decide)) (by decide) (by decide)
  obtain ⟨rs5, ers5⟩ : ∃ z, kR κ x 5 = z := ⟨_, rfl⟩
  have trs5 : zk σ0 rs5 12 := by rw [← ers5]; exact hT.kr (hT.ref (hT.k t_x (by decide)) (by decide) (by decide) (by decide)) (by decide) (by decide)
  obtain ⟨sl0, esl0⟩ : ∃ z, kR κ rs5 0 = z := ⟨_, rfl⟩
  have tsl0 : zk σ0 sl0 3 := by rw [← esl0]; exact hT.kr (hT.ref (hT.k trs5 (by decide)) (by decide) (by decide) (by decide)) (by decide) (by decide)
  obtain ⟨sl1, esl1⟩ : ∃ z, kR κ rs5 1 = z := ⟨_, rfl⟩
  have tsl1 : zk σ0 sl1 3 := by rw [← esl1]; exact hT.kr (hT.ref (hT.k trs5 (by decide)) (by decide) (by decide) (by decide)) (by decide) (by decide)
  obtain ⟨rW, erW⟩ : ∃ z, kR κ mm 1 = z := ⟨_, rfl⟩
  have trW : zk σ0 rW 21 := by rw [← erW]; exact hT.kr (hT.ref (hT.k t_mm (by decide)) (by decide) (by decide) (by decide)) (by decide) (by decide)
  obtain ⟨rS, erS⟩ : ∃ z, kR κ mm 3 = z := ⟨_, rfl⟩
  have trS : zk σ0 rS 22 := by rw [← erS]; exact hT.kr (hT.ref (hT.k t_mm (by decide)) (by decide) (by decide) (by decide)) (by decide) (by decide)
  obtain ⟨so, eso⟩ : ∃ z, kR κ x 1 = z := ⟨_, rfl⟩
  have tso : zk σ0 so 4 := by rw [← eso]; exact hT.kr (hT.ref (hT.k t_x (by decide)) (by decide) (by decide) (by decide)) (by decide) (by decide)
  obtain ⟨qP, eqP⟩ : ∃ z, kR κ so 0 = z := ⟨_, rfl⟩
  have tqP : zk σ0 qP 8 := by rw [← eqP]; exact hT.kr (hT.ref (hT.k tso (by decide)) (by decide) (by decide) (by decide)) (by decide) (by decide)
  obtain ⟨qO, eqO⟩ : ∃ z, kR κ so 1 = z := ⟨_, rfl⟩
  have tqO : zk σ0 qO 16 := by rw [← eqO]; exact hT.kr (hT.ref (hT.k tso (by decide)) (by decide) (by decide) (by decide)) (by decide) (by decide)
  obtain ⟨r5, er5⟩ : ∃ z, kR κ mm 5 = z := ⟨_, rfl⟩
  have tr5 : zk σ0 r5 25 := by rw [← er5]; exact hT.kr (hT.ref (hT.k t_mm (by decide)) (by decide) (by decide) (by decide)) (by decide) (by decide)
  obtain ⟨r6, er6⟩ : ∃ z, kR κ mm 6 = z := ⟨_, rfl⟩
  have tr6 : zk σ0 r6 26 := by rw [← er6]; exact hT.kr (hT.ref (hT.k t_mm (by decide)) (by decide) (by decide) (by decide)) (by decide) (by decide)
  obtain ⟨hnw, hsl⟩ := hsr
  obtain ⟨hd1, ⟨hd2, hd3⟩, hd4, hd5, hd6, hd7⟩ := hdis
  have d_nt : nw ≠ tr := by rw [← enw, ← etr]; exact hd2
  have d_n0 : nw ≠ sl0 := by rw [← enw, ← esl0, ← ers5]; exact hd3 0 (by decide)
  have d_t0 : sl0 ≠ tr := by rw [← etr, ← esl0, ← ers5]; exact fun q => hd4 0 (by decide) q.symm
  have d_n1 : nw ≠ sl1 := by rw [← enw, ← esl1, ← ers5]; exact hd3 1 (by decide)
  have d_t1 : sl1 ≠ tr := by rw [← etr, ← esl1, ← ers5]; exact fun q => hd4 1 (by decide) q.symm
  have d_01 : sl0 ≠ sl1 := by rw [← esl0, ← esl1, ← ers5]; exact hd5
  have knw : zk σ nw 3 := hT.k tnw (by decide)
  have ksl0 : zk σ sl0 3 := hT.k tsl0 (by decide)
  have ksl1 : zk σ sl1 3 := hT.k tsl1 (by decide)
  refine lv_aload_n hx hb dL_law_968 rfl (lv_at hl 3 rfl) ?_
  refine lv_aload_n hx hb dL_law_969 rfl (lv_at hl 4 rfl) ?_
  refine lv_iload hx hb dL_law_970 (lv_at hl 0 rfl) ?_
  refine lv_iconst (v := 1) hx hb dL_law_972 (by decide) ?_
  refine lv_iadd hx hb dL_law_973 ?_
  refine g_add (by omega) (by omega) (fun t1 ht1 => ?_)
  refine va_sld hx hb hXs hbl hbA hT.2.2.2 (g_in (by omega) (by omega)) dL_law_974 ?_
  refine ti y1 (by rw [hy1]; exact congrArg xs (show t1.toNatClampNeg = ix i + 1 from by show t1.toInt.toNat = ix i + 1; unfold ix; omega)) ?_
  refine lv_aload_n hx hb dL_law_975 rfl (lv_at hl 1 rfl) ?_
  have hTo := hT
  refine tHi (n := 3) (As := [.ref x, .int y1, .ref out]) (rest := []) hx hb hml hown hg hT hK hX (L_inverse l κ σ x y1 out (hT.k t_x (by decide)) (hT.k t_out (by decide)) hlt) sub_hfLr_fA (mwHS k1040 k1041 k83 k1042) ⟨by decide, by decide, by decide +kernel⟩ ⟨(Nat.le_of_ble_eq_true rfl), (Nat.le_of_ble_eq_true rfl)⟩ rfl hl.1 rfl (Nat.le_of_ble_eq_true rfl) dL_law_976 zx (fun r3 s2 H locs hφ hE hT => ?_)
  have R4 := hR.ext hE ⟨rfl, rfl, fun _ => rfl, fun _ => rfl, fun _ => rfl, fun _ => rfl⟩
  have a5 : (zI s2 tx 1).toInt = (zI σ tx 1).toInt := by rw [(hTo.k ttx (by decide)).eI hE (by decide) rfl]
  have j6 : zI s2 rB = zI σ rB := (show zI s2 rB = zI σ rB from funext fun k => (hTo.k trB (by decide)).eI hE (by decide) rfl)
  have j7 : zI s2 rT = zI σ rT := (show zI s2 rT = zI σ rT from funext fun k => (hTo.k trT (by decide)).eI hE (by decide) rfl)
  have j8 : zI s2 rI = zI σ rI := (show zI s2 rI = zI σ rI from funext fun k => (hTo.k trI (by decide)).eI hE (by decide) rfl)
  have j9 : zI s2 rK = zI σ rK := (show zI s2 rK = zI σ rK from funext fun k => (hTo.k trK (by decide)).eI hE (by decide) rfl)
  have j10 : zI s2 tx 2 = zI σ tx 2 := (hTo.k ttx (by decide)).eI hE (by decide) rfl
  have j11 : zI s2 tx 3 = zI σ tx 3 := (hTo.k ttx (by decide)).eI hE (by decide) rfl
  have j12 : zI s2 mm 15 = zI σ mm 15 := (hTo.k t_mm (by decide)).eI hE (by decide) rfl
  have j13 : zI s2 mm 16 = zI σ mm 16 := (hTo.k t_mm (by decide)).eI hE (by decide) rfl
  have n14 : zI s2 nw 7 = zI σ nw 7 ∧ zI s2 nw 8 = zI σ nw 8 ∧ zI s2 nw 9 = zI σ nw 9 := ⟨(hTo.k tnw (by decide)).eI hE (by decide) rfl, (hTo.k tnw (by decide)).eI hE (by decide) rfl, (hTo.k tnw (by decide)).eI hE (by decide) rfl⟩
  have n15 : zI s2 sl0 7 = zI σ sl0 7 ∧ zI s2 sl0 8 = zI σ sl0 8 ∧ zI s2 sl0 9 = zI σ sl0 9 := ⟨(hTo.k tsl0 (by decide)).eI hE (by decide) rfl, (hTo.k tsl0 (by decide)).eI hE (by decide) rfl, (hTo.k tsl0 (by decide)).eI hE (by decide) rfl⟩
  have n16 : zI s2 sl1 7 = zI σ sl1 7 ∧ zI s2 sl1 8 = zI σ sl1 8 ∧ zI s2 sl1 9 = zI σ sl1 9 := ⟨(hTo.k tsl1 (by decide)).eI hE (by decide) rfl, (hTo.k tsl1 (by decide)).eI hE (by decide) rfl, (hTo.k tsl1 (by decide)).eI hE (by decide) rfl⟩
  have n17 : ∀ j : Nat, j < 3 → zJ s2 rW j = zJ σ rW j := fun j hj => (hTo.k trW (by decide)).eJ hE (by decide) rfl
  have n18 : zJ s2 rS = zJ σ rS := (show zJ s2 rS = zJ σ rS from funext fun k => (hTo.k trS (by decide)).eJ hE (by decide) rfl)
  have z19 : zI s2 so 2 = zI σ so 2 ∧ zI s2 so 6 = zI σ so 6 ∧ zI s2 qP = zI σ qP ∧ zI s2 qO = zI σ qO := ⟨(hTo.k tso (by decide)).eI hE (by decide) rfl, (hTo.k tso (by decide)).eI hE (by decide) rfl, funext fun q9 => (hTo.k tqP (by decide)).eI hE (by decide) rfl, funext fun q9 => (hTo.k tqO (by decide)).eI hE (by decide) rfl⟩
  have z20 : zI s2 mm 7 = zI σ mm 7 ∧ zI s2 mm 8 = zI σ mm 8 ∧ zI s2 r5 = zI σ r5 ∧ zI s2 r6 = zI σ r6 := ⟨(hTo.k t_mm (by decide)).eI hE (by decide) rfl, (hTo.k t_mm (by decide)).eI hE (by decide) rfl, funext fun q9 => (hTo.k tr5 (by decide)).eI hE (by decide) rfl, funext fun q9 => (hTo.k tr6 (by decide)).eI hE (by decide) rfl⟩
  have a21 : (zI s2 mm 13).toInt = (zI σ mm 13).toInt := by rw [(hTo.k t_mm (by decide)).eI hE (by decide) rfl]
  refine lv_istore (lv' := [(5, .int r3), (4, .int i), (3, .ref out), (2, .ref mm), (1, .ref x), (0, .ref b)]) hx hb dL_law_979 hl (by decide) rfl (fun ls hl => ?_)
  refine lv_aload_n hx hb dL_law_981 rfl (lv_at hl 3 rfl) ?_
  refine lv_aload_n hx hb dL_law_982 rfl (lv_at hl 5 rfl) ?_
  refine lv_iload hx hb dL_law_983 (lv_at hl 1 rfl) ?_
  refine lv_iconst (v := 1) hx hb dL_law_985 (by decide) ?_
  refine lv_iadd hx hb dL_law_986 ?_
  refine g_add (by omega) (by omega) (fun t22 ht22 => ?_)
  refine va_sld hx hb hXs hbl hbA hT.2.2.2 (g_in (by omega) (by omega)) dL_law_987 ?_
  refine ti y1 (by rw [hy1]; exact congrArg xs (show t22.toNatClampNeg = ix i + 1 from by show t22.toInt.toNat = ix i + 1; unfold ix; omega)) ?_
  have hTo := hT
  refine tVi (n := 1) (As := [.int y1]) (rest := []) hx hb hml hown hg hT hK hX (X6_inverse l (kX κ) s2 mm y1 (hT.k t_mm (by decide)) R4) sub_gX_fA (mwV k1612 k1613 k1614 k92 k1615) ⟨rfl, by decide, by decide, by decide +kernel⟩ ⟨(Nat.le_of_ble_eq_true rfl), (Nat.le_of_ble_eq_true rfl)⟩ (hT.o20 (hT.k t_mm (by decide))) rfl rfl hl.1 rfl (Nat.le_of_ble_eq_true rfl) dL_law_988 zx (fun r24 s23 H locs hφ hE hT => ?_)
  have f25 := hφ
  have a26 : (zI s23 tx 1).toInt = (zI s2 tx 1).toInt := by rw [(hTo.k ttx (by decide)).eI hE (by decide) rfl]
  have j27 : zI s23 rB = zI σ rB := ((show zI s23 rB = zI s2 rB from funext fun k => (hTo.k trB (by decide)).eI hE (by decide) rfl)).trans j6
  have j28 : zI s23 rT = zI σ rT := ((show zI s23 rT = zI s2 rT from funext fun k => (hTo.k trT (by decide)).eI hE (by decide) rfl)).trans j7
  have j29 : zI s23 rI = zI σ rI := ((show zI s23 rI = zI s2 rI from funext fun k => (hTo.k trI (by decide)).eI hE (by decide) rfl)).trans j8
  have j30 : zI s23 rK = zI σ rK := ((show zI s23 rK = zI s2 rK from funext fun k => (hTo.k trK (by decide)).eI hE (by decide) rfl)).trans j9
  have j31 : zI s23 tx 2 = zI σ tx 2 := ((hTo.k ttx (by decide)).eI hE (by decide) rfl).trans j10
  have j32 : zI s23 tx 3 = zI σ tx 3 := ((hTo.k ttx (by decide)).eI hE (by decide) rfl).trans j11
  have j33 : zI s23 mm 15 = zI σ mm 15 := ((hTo.k t_mm (by decide)).eI hE (by decide) rfl).trans j12
  have j34 : zI s23 mm 16 = zI σ mm 16 := ((hTo.k t_mm (by decide)).eI hE (by decide) rfl).trans j13
  have n35 : zI s23 nw 7 = zI s2 nw 7 ∧ zI s23 nw 8 = zI s2 nw 8 ∧ zI s23 nw 9 = zI s2 nw 9 := ⟨(hTo.k tnw (by decide)).eI hE (by decide) rfl, (hTo.k tnw (by decide)).eI hE (by decide) rfl, (hTo.k tnw (by decide)).eI hE (by decide) rfl⟩
  have n36 : zI s23 nw 7 = zI σ nw 7 ∧ zI s23 nw 8 = zI σ nw 8 ∧ zI s23 nw 9 = zI σ nw 9 := ⟨n35.1.trans n14.1, n35.2.1.trans n14.2.1, n35.2.2.trans n14.2.2⟩
  have n37 : zI s23 sl0 7 = zI s2 sl0 7 ∧ zI s23 sl0 8 = zI s2 sl0 8 ∧ zI s23 sl0 9 = zI s2 sl0 9 := ⟨(hTo.k tsl0 (by decide)).eI hE (by decide) rfl, (hTo.k tsl0 (by decide)).eI hE (by decide) rfl, (hTo.k tsl0 (by decide)).eI hE (by decide) rfl⟩
  have n38 : zI s23 sl0 7 = zI σ sl0 7 ∧ zI s23 sl0 8 = zI σ sl0 8 ∧ zI s23 sl0 9 = zI σ sl0 9 := ⟨n37.1.trans n15.1, n37.2.1.trans n15.2.1, n37.2.2.trans n15.2.2⟩
  have n39 : zI s23 sl1 7 = zI s2 sl1 7 ∧ zI s23 sl1 8 = zI s2 sl1 8 ∧ zI s23 sl1 9 = zI s2 sl1 9 := ⟨(hTo.k tsl1 (by decide)).eI hE (by decide) rfl, (hTo.k tsl1 (by decide)).eI hE (by decide) rfl, (hTo.k tsl1 (by decide)).eI hE (by decide) rfl⟩
  have n40 : zI s23 sl1 7 = zI σ sl1 7 ∧ zI s23 sl1 8 = zI σ sl1 8 ∧ zI s23 sl1 9 = zI σ sl1 9 := ⟨n39.1.trans n16.1, n39.2.1.trans n16.2.1, n39.2.2.trans n16.2.2⟩
  have n41 : ∀ j : Nat, j < 3 → zJ s23 rW j = zJ s2 rW j := fun j hj => (hTo.k trW (by decide)).eJ hE (by decide) (lt3_gX j hj)
  have n42 : ∀ j : Nat, j < 3 → zJ s23 rW j = zJ σ rW j := fun j hj => (n41 j hj).trans (n17 j hj)
  have n43 : zJ s23 rS = zJ σ rS := (show zJ s23 rS = zJ s2 rS from funext fun k => (hTo.k trS (by decide)).eJ hE (by decide) rfl).trans n18
  have z44 : zI s23 so 2 = zI s2 so 2 ∧ zI s23 so 6 = zI s2 so 6 ∧ zI s23 qP = zI s2 qP ∧ zI s23 qO = zI s2 qO := ⟨(hTo.k tso (by decide)).eI hE (by decide) rfl, (hTo.k tso (by decide)).eI hE (by decide) rfl, funext fun q9 => (hTo.k tqP (by decide)).eI hE (by decide) rfl, funext fun q9 => (hTo.k tqO (by decide)).eI hE (by decide) rfl⟩
  have z45 : zI s23 so 2 = zI σ so 2 ∧ zI s23 so 6 = zI σ so 6 ∧ zI s23 qP = zI σ qP ∧ zI s23 qO = zI σ qO := ⟨z44.1.trans z19.1, z44.2.1.trans z19.2.1, z44.2.2.1.trans z19.2.2.1, z44.2.2.2.trans z19.2.2.2⟩
  have z46 : zI s23 mm 7 = zI s2 mm 7 ∧ zI s23 mm 8 = zI s2 mm 8 ∧ zI s23 r5 = zI s2 r5 ∧ zI s23 r6 = zI s2 r6 := ⟨(hTo.k t_mm (by decide)).eI hE (by decide) rfl, (hTo.k t_mm (by decide)).eI hE (by decide) rfl, funext fun q9 => (hTo.k tr5 (by decide)).eI hE (by decide) rfl, funext fun q9 => (hTo.k tr6 (by decide)).eI hE (by decide) rfl⟩
  have z47 : zI s23 mm 7 = zI σ mm 7 ∧ zI s23 mm 8 = zI σ mm 8 ∧ zI s23 r5 = zI σ r5 ∧ zI s23 r6 = zI σ r6 := ⟨z46.1.trans z20.1, z46.2.1.trans z20.2.1, z46.2.2.1.trans z20.2.2.1, z46.2.2.2.trans z20.2.2.2⟩
  have a48 : (zI s23 mm 13).toInt = (zI s2 mm 13).toInt := by rw [(hTo.k t_mm (by decide)).eI hE (by decide) rfl]
  refine lv_istore (lv' := [(6, .int r24), (5, .int r3), (4, .int i), (3, .ref out), (2, .ref mm), (1, .ref x), (0, .ref b)]) hx hb dL_law_991 hl (by decide) rfl (fun ls hl => ?_)
  refine lv_goto (tgt := 1432) hx hb dL_law_993 (by decide) ?_
  have sl0f : zI s23 rI 0 ≠ 0 → SLT κ s23 x mm 0 := fun hq => (hsl 0 (by decide) (fun q9 => hq (by rw [erI] at q9; rw [j29]; exact q9))).tr (by rw [ers5, esl0]; exact n38) (fun j hj => by rw [erS, n43])
  have sl1f : zI s23 rI 1 ≠ 0 → SLT κ s23 x mm 1 := fun hq => (hsl 1 (by decide) (fun q9 => hq (by rw [erI] at q9; rw [j29]; exact q9))).tr (by rw [ers5, esl1]; exact n40) (fun j hj => by rw [erS, n43])
  exact KK s23 _ _ _ hT f25 ⟨by rw [etx]; omega, ⟨by rw [etx, erB, erT, j27, j28]; exact tal_less hal (by omega), by rw [erT, j28]; exact tnn_less hnn (by omega)⟩, ⟨by rw [etx, j31, j33]; exact hco, by rw [etx, j32, j34]; exact hpo⟩, fun i hi => by rw [erI, erK, j29, j30]; exact hkp i hi⟩ (⟨hnw.tr (by rw [enw]; exact n36) (by rw [erW]; exact n42), fun i hi => (show i = 0 ∨ i = 1 by omega).elim (fun e9 => by rw [e9, erI]; exact sl0f) (fun e9 => by rw [e9, erI]; exact sl1f)⟩) (hsm.tr (by rw [eso, eqP, eqO]; exact z45) (by rw [er5, er6]; exact z47)) (lv_sub hl [2, 3, 4, 5, 6] rfl)
set_option maxHeartbeats 4000000 in
set_option maxRecDepth 100000 in
theorem lc_28 (l : Launch) (κ : Kt) (σ0 : Gh) (x mm out b : Nat) (t_x : zk σ0 x 7) (t_mm : zk σ0 mm 20) (t_out : zk σ0 out 24) (ttx0 : zk σ0 (kR κ x 0) 6) (hdis : DIS κ x) (hlt : l.stackTraces = false) {p : Program} {e : Env} {s : State} {m : MethodId} {below : List Frame} {meth : Method} {c : Code} {L : Nat} {xs : Nat → Int32} {i : Int32} {Q9 : State → Prop} (hx : p.tables.exec = Jvm.exec) (hb : c.code = cL_law) (hml : c.maxLocals = 9) (hown : s.vm.findClass RL = some m.cls) (hg : ∀ w ∈ GW, w.before #[Value.ref b] s = true) (hK : va_K κ.1 vwCl (kTy κ) s) (hX : XY κ (tA σ0 s.heap.size) s s.heap) (hXs : va_X b L xs s s.heap) (hbl : b < s.heap.size) (hbA : ¬ tA σ0 s.heap.size b) (zx : zroomX κ s room_1 601024 7293034) (hi0 : 0 ≤ i.toInt) (hi1 : i.toInt + 6 ≤ L) (hL9 : L ≤ 3072) {σ : Gh} {H : Heap} {locs : List Loc} {ls : Array Slot} (hT : TS κ fA σ0 σ s H locs) (hR : RI κ σ mm) (hrel : LREL κ σ x mm) (hsr : SREL κ σ x mm) (hsm : SMP κ σ x mm) (hl : lv_has ls 9 [(4, .int i), (3, .ref out), (2, .ref mm), (1, .ref x), (0, .ref b)]) (KK : ∀ (σ1 : Gh) (H : Heap) (locs : List Loc) (ls : Array Slot), TS (kX κ) fA σ0 σ1 s H locs → RI (kX κ) σ1 mm → LREL κ σ1 x mm → SREL κ σ1 x mm → SMP κ σ1 x mm → lv_has ls 9 [(4, .int i), (3, .ref out), (2, .ref mm), (1, .ref x), (0, .ref b)] → W p l e room_1 s m #[Value.ref b] below meth c H locs 601024 7293034 Q9 (F0 m 1432 ls [])) : W p l e room_1 s m #[Value.ref b] below meth c H locs 601024 7293034 Q9 (F0 m 996 ls []) := by
  obtain ⟨y1, hy1⟩ : ∃ z, z = xs (ix i + 1) := ⟨_, rfl⟩
  obtain ⟨y2, hy2⟩ : ∃ z, z = xs (ix i + 2) := ⟨_, rfl⟩
  obtain ⟨y3, hy3⟩ : ∃ z, z = xs (ix i + 3) := ⟨_, rfl⟩
  obtain ⟨y4, hy4⟩ : ∃ z, z = xs (ix i + 4) := ⟨_, rfl⟩
  obtain ⟨y5, hy5⟩ : ∃ z, z = xs (ix i + 5) := ⟨_, rfl⟩
  have n0 : (0 : Int32).toInt = 0 := by decide
  have n1 : (1 : Int32).toInt = 1 := by decide
  have n2 : (2 : Int32).toInt = 2 := by decide
  have n3 : (3 : Int32).toInt = 3 := by decide
  have n4 : (4 : Int32).toInt = 4 := by decide
  have n5 : (5 : Int32).toInt = 5 := by decide
  obtain ⟨tx, etx⟩ : ∃ z, kR κ x 0 = z := ⟨_, rfl⟩
  have ttx : zk σ0 tx 6 := by rw [← etx]; exact ttx0
  obtain ⟨rB, erB⟩ : ∃ z, kR κ tx 0 = z := ⟨_, rfl⟩
  have trB : zk σ0 rB 14 := by rw [← erB]; exact hT.kr (hT.ref (hT.k ttx (by decide)) (by decide) (by decide) (by decide)) (by decide) (by decide)
  obtain ⟨rT, erT⟩ : ∃ z, kR κ mm 12 = z := ⟨_, rfl⟩
  have trT : zk σ0 rT 23 := by rw [← erT]; exact hT.kr (hT.ref (hT.k t_mm (by decide)) (by decide) (by decide) (by decide)) (by decide) (by decide)
  obtain ⟨rI, erI⟩ : ∃ z, kR κ x 6 = z := ⟨_, rfl⟩
  have trI : zk σ0 rI 13 := by rw [← erI]; exact hT.kr (hT.ref (hT.k t_x (by decide)) (by decide) (by decide) (by decide)) (by decide) (by decide)
  obtain ⟨rK, erK⟩ : ∃ z, kR κ mm 4 = z := ⟨_, rfl⟩
  have trK : zk σ0 rK 29 := by rw [← erK]; exact hT.kr (hT.ref (hT.k t_mm (by decide)) (by decide) (by decide) (by decide)) (by decide) (by decide)
  obtain ⟨hlen, ⟨hal, hnn⟩, ⟨hco, hpo⟩, hkp⟩ := hrel
  rw [etx] at hlen hal hco hpo
  rw [erB, erT] at hal
  rw [erT] at hnn
  rw [erI, erK] at hkp
  have btx := (hT.P (hT.k ttx (by decide)) (by decide)).1
  have btxl := btx.1
  have btxh := btx.2
  obtain ⟨nw, enw⟩ : ∃ z, kR κ x 3 = z := ⟨_, rfl⟩
  have tnw : zk σ0 nw 3 := by rw [← enw]; exact hT.kr (hT.ref (hT.k t_x (by decide)) (by decide) (by decide) (by decide)) (by decide) (by decide)
  obtain ⟨tr, etr⟩ : ∃ z, kR κ x 4 = z := ⟨_, rfl⟩
  have ttr : zk σ0 tr 3 := by rw [← etr]; exact hT.kr (hT.ref (hT.k t_x (by decide)) (by decide) (by decide) (by decide)) (by decide) (by decide)
  obtain ⟨rs5, ers5⟩ : ∃ z, kR κ x 5 = z := ⟨_, rfl⟩
  have trs5 : zk σ0 rs5 12 := by rw [← ers5]; exact hT.kr (hT.ref (hT.k t_x (by decide)) (by decide) (by decide) (by decide)) (by decide) (by decide)
  obtain ⟨sl0, esl0⟩ : ∃ z, kR κ rs5 0 = z := ⟨_, rfl⟩
  have tsl0 : zk σ0 sl0 3 := by rw [← esl0]; exact hT.kr (hT.ref (hT.k trs5 (by decide)) (by decide) (by decide) (by decide)) (by decide) (by decide)
  obtain ⟨sl1, esl1⟩ : ∃ z, kR κ rs5 1 = z := ⟨_, rfl⟩
  have tsl1 : zk σ0 sl1 3 := by rw [← esl1]; exact hT.kr (hT.ref (hT.k trs5 (by decide)) (by decide) (by decide) (by decide)) (by decide) (by decide)
  obtain ⟨rW, erW⟩ : ∃ z, kR κ mm 1 = z := ⟨_, rfl⟩
  have trW : zk σ0 rW 21 := by rw [← erW]; exact hT.kr (hT.ref (hT.k t_mm (by decide)) (by decide) (by decide) (by decide)) (by decide) (by decide)
  obtain ⟨rS, erS⟩ : ∃ z, kR κ mm 3 = z := ⟨_, rfl⟩
  have trS : zk σ0 rS 22 := by rw [← erS]; exact hT.kr (hT.ref (hT.k t_mm (by decide)) (by decide) (by decide) (by decide)) (by decide) (by decide)
  obtain ⟨so, eso⟩ : ∃ z, kR κ x 1 = z := ⟨_, rfl⟩
  have tso : zk σ0 so 4 := by rw [← eso]; exact hT.kr (hT.ref (hT.k t_x (by decide)) (by decide) (by decide) (by decide)) (by decide) (by decide)
  obtain ⟨qP, eqP⟩ : ∃ z, kR κ so 0 = z := ⟨_, rfl⟩
  have tqP : zk σ0 qP 8 := by rw [← eqP]; exact hT.kr (hT.ref (hT.k tso (by decide)) (by decide) (by decide) (by decide)) (by decide) (by decide)
  obtain ⟨qO, eqO⟩ : ∃ z, kR κ so 1 = z := ⟨_, rfl⟩
  have tqO : zk σ0 qO 16 := by rw [← eqO]; exact hT.kr (hT.ref (hT.k tso (by decide)) (by decide) (by decide) (by decide)) (by decide) (by decide)
  obtain ⟨r5, er5⟩ : ∃ z, kR κ mm 5 = z := ⟨_, rfl⟩
  have tr5 : zk σ0 r5 25 := by rw [← er5]; exact hT.kr (hT.ref (hT.k t_mm (by decide)) (by decide) (by decide) (by decide)) (by decide) (by decide)
  obtain ⟨r6, er6⟩ : ∃ z, kR κ mm 6 = z := ⟨_, rfl⟩
  have tr6 : zk σ0 r6 26 := by rw [← er6]; exact hT.kr (hT.ref (hT.k t_mm (by decide)) (by decide) (by decide) (by decide)) (by decide) (by decide)
  obtain ⟨hnw, hsl⟩ := hsr
  obtain ⟨hd1, ⟨hd2, hd3⟩, hd4, hd5, hd6, hd7⟩ := hdis
  have d_nt : nw ≠ tr := by rw [← enw, ← etr]; exact hd2
  have d_n0 : nw ≠ sl0 := by rw [← enw, ← esl0, ← ers5]; exact hd3 0 (by decide)
  have d_t0 : sl0 ≠ tr := by rw [← etr, ← esl0, ← ers5]; exact fun q => hd4 0 (by decide) q.symm
  have d_n1 : nw ≠ sl1 := by rw [← enw, ← esl1, ← ers5]; exact hd3 1 (by decide)
  have d_t1 : sl1 ≠ tr := by rw [← etr, ← esl1, ← ers5]; exact fun q => hd4 1 (by decide) q.symm
  have d_01 : sl0 ≠ sl1 := by rw [← esl0, ← esl1, ← ers5]; exact hd5
  have knw : zk σ nw 3 := hT.k tnw (by decide)
  have ksl0 : zk σ sl0 3 := hT.k tsl0 (by decide)
  have ksl1 : zk σ sl1 3 := hT.k tsl1 (by decide)
  refine lv_aload_n hx hb dL_law_996 rfl (lv_at hl 3 rfl) ?_
  refine lv_aload_n hx hb dL_law_997 rfl (lv_at hl 4 rfl) ?_
  refine lv_iload hx hb dL_law_998 (lv_at hl 0 rfl) ?_
  refine lv_iconst (v := 1) hx hb dL_law_1000 (by decide) ?_
  refine lv_iadd hx hb dL_law_1001 ?_
  refine g_add (by omega) (by omega) (fun t1 ht1 => ?_)
  refine va_sld hx hb hXs hbl hbA hT.2.2.2 (g_in (by omega) (by omega)) dL_law_1002 ?_
  refine ti y1 (by rw [hy1]; exact congrArg xs (show t1.toNatClampNeg = ix i + 1 from by show t1.toInt.toNat = ix i + 1; unfold ix; omega)) ?_
  refine lv_aload_n hx hb dL_law_1003 rfl (lv_at hl 4 rfl) ?_
  refine lv_iload hx hb dL_law_1004 (lv_at hl 0 rfl) ?_
  refine lv_iconst (v := 2) hx hb dL_law_1006 (by decide) ?_
  refine lv_iadd hx hb dL_law_1007 ?_
  refine g_add (by omega) (by omega) (fun t2 ht2 => ?_)
  refine va_sld hx hb hXs hbl hbA hT.2.2.2 (g_in (by omega) (by omega)) dL_law_1008 ?_
  refine ti y2 (by rw [hy2]; exact congrArg xs (show t2.toNatClampNeg = ix i + 2 from by show t2.toInt.toNat = ix i + 2; unfold ix; omega)) ?_
  refine lv_aload_n hx hb dL_law_1009 rfl (lv_at hl 1 rfl) ?_
  have hTo := hT
  refine tHi (n := 4) (As := [.ref x, .int y1, .int y2, .ref out]) (rest := []) hx hb hml hown hg hT hK hX (L_setDetail l κ σ x y1 y2 out (hT.k t_x (by decide)) (hT.k t_out (by decide)) hlt) sub_hfW_fA (mwHS k1055 k1056 k83 k1057) ⟨by decide, by decide, by decide +kernel⟩ ⟨(Nat.le_of_ble_eq_true rfl), (Nat.le_of_ble_eq_true rfl)⟩ rfl hl.1 rfl (Nat.le_of_ble_eq_true rfl) dL_law_1010 zx (fun r4 s3 H locs hφ hE hT => ?_)
  have R5 := hR.ext hE ⟨rfl, rfl, fun _ => rfl, fun _ => rfl, fun _ => rfl, fun _ => rfl⟩
  have a6 : (zI s3 tx 1).toInt = (zI σ tx 1).toInt := by rw [(hTo.k ttx (by decide)).eI hE (by decide) rfl]
  have j7 : zI s3 rB = zI σ rB := (show zI s3 rB = zI σ rB from funext fun k => (hTo.k trB (by decide)).eI hE (by decide) rfl)
  have j8 : zI s3 rT = zI σ rT := (show zI s3 rT = zI σ rT from funext fun k => (hTo.k trT (by decide)).eI hE (by decide) rfl)
  have j9 : zI s3 rI = zI σ rI := (show zI s3 rI = zI σ rI from funext fun k => (hTo.k trI (by decide)).eI hE (by decide) rfl)
  have j10 : zI s3 rK = zI σ rK := (show zI s3 rK = zI σ rK from funext fun k => (hTo.k trK (by decide)).eI hE (by decide) rfl)
  have j11 : zI s3 tx 2 = zI σ tx 2 := (hTo.k ttx (by decide)).eI hE (by decide) rfl
  have j12 : zI s3 tx 3 = zI σ tx 3 := (hTo.k ttx (by decide)).eI hE (by decide) rfl
  have j13 : zI s3 mm 15 = zI σ mm 15 := (hTo.k t_mm (by decide)).eI hE (by decide) rfl
  have j14 : zI s3 mm 16 = zI σ mm 16 := (hTo.k t_mm (by decide)).eI hE (by decide) rfl
  have n15 : zI s3 nw 7 = zI σ nw 7 ∧ zI s3 nw 8 = zI σ nw 8 ∧ zI s3 nw 9 = zI σ nw 9 := ⟨(hTo.k tnw (by decide)).eI hE (by decide) rfl, (hTo.k tnw (by decide)).eI hE (by decide) rfl, (hTo.k tnw (by decide)).eI hE (by decide) rfl⟩
  have n16 : zI s3 sl0 7 = zI σ sl0 7 ∧ zI s3 sl0 8 = zI σ sl0 8 ∧ zI s3 sl0 9 = zI σ sl0 9 := ⟨(hTo.k tsl0 (by decide)).eI hE (by decide) rfl, (hTo.k tsl0 (by decide)).eI hE (by decide) rfl, (hTo.k tsl0 (by decide)).eI hE (by decide) rfl⟩
  have n17 : zI s3 sl1 7 = zI σ sl1 7 ∧ zI s3 sl1 8 = zI σ sl1 8 ∧ zI s3 sl1 9 = zI σ sl1 9 := ⟨(hTo.k tsl1 (by decide)).eI hE (by decide) rfl, (hTo.k tsl1 (by decide)).eI hE (by decide) rfl, (hTo.k tsl1 (by decide)).eI hE (by decide) rfl⟩
  have n18 : ∀ j : Nat, j < 3 → zJ s3 rW j = zJ σ rW j := fun j hj => (hTo.k trW (by decide)).eJ hE (by decide) rfl
  have n19 : zJ s3 rS = zJ σ rS := (show zJ s3 rS = zJ σ rS from funext fun k => (hTo.k trS (by decide)).eJ hE (by decide) rfl)
  have z20 : zI s3 so 2 = zI σ so 2 ∧ zI s3 so 6 = zI σ so 6 ∧ zI s3 qP = zI σ qP ∧ zI s3 qO = zI σ qO := ⟨(hTo.k tso (by decide)).eI hE (by decide) rfl, (hTo.k tso (by decide)).eI hE (by decide) rfl, funext fun q9 => (hTo.k tqP (by decide)).eI hE (by decide) rfl, funext fun q9 => (hTo.k tqO (by decide)).eI hE (by decide) rfl⟩
  have z21 : zI s3 mm 7 = zI σ mm 7 ∧ zI s3 mm 8 = zI σ mm 8 ∧ zI s3 r5 = zI σ r5 ∧ zI s3 r6 = zI σ r6 := ⟨(hTo.k t_mm (by decide)).eI hE (by decide) rfl, (hTo.k t_mm (by decide)).eI hE (by decide) rfl, funext fun q9 => (hTo.k tr5 (by decide)).eI hE (by decide) rfl, funext fun q9 => (hTo.k tr6 (by decide)).eI hE (by decide) rfl⟩
  have a22 : (zI s3 mm 13).toInt = (zI σ mm 13).toInt := by rw [(hTo.k t_mm (by decide)).eI hE (by decide) rfl]
  refine lv_istore (lv' := [(5, .int r4), (4, .int i), (3, .ref out), (2, .ref mm), (1, .ref x), (0, .ref b)]) hx hb dL_law_1013 hl (by decide) rfl (fun ls hl => ?_)
  refine lv_aload_n hx hb dL_law_1015 rfl (lv_at hl 3 rfl) ?_
  refine lv_aload_n hx hb dL_law_1016 rfl (lv_at hl 5 rfl) ?_
  refine lv_iload hx hb dL_law_1017 (lv_at hl 1 rfl) ?_
  refine lv_iconst (v := 1) hx hb dL_law_1019 (by decide) ?_
  refine lv_iadd hx hb dL_law_1020 ?_
  refine g_add (by omega) (by omega) (fun t23 ht23 => ?_)
  refine va_sld hx hb hXs hbl hbA hT.2.2.2 (g_in (by omega) (by omega)) dL_law_1021 ?_
  refine ti y1 (by rw [hy1]; exact congrArg xs (show t23.toNatClampNeg = ix i + 1 from by show t23.toInt.toNat = ix i + 1; unfold ix; omega)) ?_
  refine lv_aload_n hx hb dL_law_1022 rfl (lv_at hl 5 rfl) ?_
  refine lv_iload hx hb dL_law_1023 (lv_at hl 1 rfl) ?_
  refine lv_iconst (v := 2) hx hb dL_law_1025 (by decide) ?_
  refine lv_iadd hx hb dL_law_1026 ?_
  refine g_add (by omega) (by omega) (fun t24 ht24 => ?_)
  refine va_sld hx hb hXs hbl hbA hT.2.2.2 (g_in (by omega) (by omega)) dL_law_1027 ?_
  refine ti y2 (by rw [hy2]; exact congrArg xs (show t24.toNatClampNeg = ix i + 2 from by show t24.toInt.toNat = ix i + 2; unfold ix; omega)) ?_
  have hTo := hT
  refine tVl (n := 2) (As := [.int y1, .int y2]) (rest := []) hx hb hml hown hg hT hK hX (X6_setDetail l (kX κ) s3 mm y1 y2 (hT.k t_mm (by decide)) R5) sub_gX_fA (mwV k1620 k1621 k1622 k92 k1623) ⟨rfl, by decide, by decide, by decide +kernel⟩ ⟨(Nat.le_of_ble_eq_true rfl), (Nat.le_of_ble_eq_true rfl)⟩ (hT.o20 (hT.k t_mm (by decide))) rfl rfl hl.1 rfl (Nat.le_of_ble_eq_true rfl) dL_law_1028 zx (fun r26 s25 H locs hφ hE hT => ?_)
  have f27 := hφ
  have a28 : (zI s25 tx 1).toInt = (zI s3 tx 1).toInt := by rw [(hTo.k ttx (by decide)).eI hE (by decide) rfl]
  have j29 : zI s25 rB = zI σ rB := ((show zI s25 rB = zI s3 rB from funext fun k => (hTo.k trB (by decide)).eI hE (by decide) rfl)).trans j7
  have j30 : zI s25 rT = zI σ rT := ((show zI s25 rT = zI s3 rT from funext fun k => (hTo.k trT (by decide)).eI hE (by decide) rfl)).trans j8
  have j31 : zI s25 rI = zI σ rI := ((show zI s25 rI = zI s3 rI from funext fun k => (hTo.k trI (by decide)).eI hE (by decide) rfl)).trans j9
  have j32 : zI s25 rK = zI σ rK := ((show zI s25 rK = zI s3 rK from funext fun k => (hTo.k trK (by decide)).eI hE (by decide) rfl)).trans j10
  have j33 : zI s25 tx 2 = zI σ tx 2 := ((hTo.k ttx (by decide)).eI hE (by decide) rfl).trans j11
  have j34 : zI s25 tx 3 = zI σ tx 3 := ((hTo.k ttx (by decide)).eI hE (by decide) rfl).trans j12
  have j35 : zI s25 mm 15 = zI σ mm 15 := ((hTo.k t_mm (by decide)).eI hE (by decide) rfl).trans j13
  have j36 : zI s25 mm 16 = zI σ mm 16 := ((hTo.k t_mm (by decide)).eI hE (by decide) rfl).trans j14
  have n37 : zI s25 nw 7 = zI s3 nw 7 ∧ zI s25 nw 8 = zI s3 nw 8 ∧ zI s25 nw 9 = zI s3 nw 9 := ⟨(hTo.k tnw (by decide)).eI hE (by decide) rfl, (hTo.k tnw (by decide)).eI hE (by decide) rfl, (hTo.k tnw (by decide)).eI hE (by decide) rfl⟩
  have n38 : zI s25 nw 7 = zI σ nw 7 ∧ zI s25 nw 8 = zI σ nw 8 ∧ zI s25 nw 9 = zI σ nw 9 := ⟨n37.1.trans n15.1, n37.2.1.trans n15.2.1, n37.2.2.trans n15.2.2⟩
  have n39 : zI s25 sl0 7 = zI s3 sl0 7 ∧ zI s25 sl0 8 = zI s3 sl0 8 ∧ zI s25 sl0 9 = zI s3 sl0 9 := ⟨(hTo.k tsl0 (by decide)).eI hE (by decide) rfl, (hTo.k tsl0 (by decide)).eI hE (by decide) rfl, (hTo.k tsl0 (by decide)).eI hE (by decide) rfl⟩
  have n40 : zI s25 sl0 7 = zI σ sl0 7 ∧ zI s25 sl0 8 = zI σ sl0 8 ∧ zI s25 sl0 9 = zI σ sl0 9 := ⟨n39.1.trans n16.1, n39.2.1.trans n16.2.1, n39.2.2.trans n16.2.2⟩
  have n41 : zI s25 sl1 7 = zI s3 sl1 7 ∧ zI s25 sl1 8 = zI s3 sl1 8 ∧ zI s25 sl1 9 = zI s3 sl1 9 := ⟨(hTo.k tsl1 (by decide)).eI hE (by decide) rfl, (hTo.k tsl1 (by decide)).eI hE (by decide) rfl, (hTo.k tsl1 (by decide)).eI hE (by decide) rfl⟩
  have n42 : zI s25 sl1 7 = zI σ sl1 7 ∧ zI s25 sl1 8 = zI σ sl1 8 ∧ zI s25 sl1 9 = zI σ sl1 9 := ⟨n41.1.trans n17.1, n41.2.1.trans n17.2.1, n41.2.2.trans n17.2.2⟩
  have n43 : ∀ j : Nat, j < 3 → zJ s25 rW j = zJ s3 rW j := fun j hj => (hTo.k trW (by decide)).eJ hE (by decide) (lt3_gX j hj)
  have n44 : ∀ j : Nat, j < 3 → zJ s25 rW j = zJ σ rW j := fun j hj => (n43 j hj).trans (n18 j hj)
  have n45 : zJ s25 rS = zJ σ rS := (show zJ s25 rS = zJ s3 rS from funext fun k => (hTo.k trS (by decide)).eJ hE (by decide) rfl).trans n19
  have z46 : zI s25 so 2 = zI s3 so 2 ∧ zI s25 so 6 = zI s3 so 6 ∧ zI s25 qP = zI s3 qP ∧ zI s25 qO = zI s3 qO := ⟨(hTo.k tso (by decide)).eI hE (by decide) rfl, (hTo.k tso (by decide)).eI hE (by decide) rfl, funext fun q9 => (hTo.k tqP (by decide)).eI hE (by decide) rfl, funext fun q9 => (hTo.k tqO (by decide)).eI hE (by decide) rfl⟩
  have z47 : zI s25 so 2 = zI σ so 2 ∧ zI s25 so 6 = zI σ so 6 ∧ zI s25 qP = zI σ qP ∧ zI s25 qO = zI σ qO := ⟨z46.1.trans z20.1, z46.2.1.trans z20.2.1, z46.2.2.1.trans z20.2.2.1, z46.2.2.2.trans z20.2.2.2⟩
  have z48 : zI s25 mm 7 = zI s3 mm 7 ∧ zI s25 mm 8 = zI s3 mm 8 ∧ zI s25 r5 = zI s3 r5 ∧ zI s25 r6 = zI s3 r6 := ⟨(hTo.k t_mm (by decide)).eI hE (by decide) rfl, (hTo.k t_mm (by decide)).eI hE (by decide) rfl, funext fun q9 => (hTo.k tr5 (by decide)).eI hE (by decide) rfl, funext fun q9 => (hTo.k tr6 (by decide)).eI hE (by decide) rfl⟩
  have z49 : zI s25 mm 7 = zI σ mm 7 ∧ zI s25 mm 8 = zI σ mm 8 ∧ zI s25 r5 = zI σ r5 ∧ zI s25 r6 = zI σ r6 := ⟨z48.1.trans z21.1, z48.2.1.trans z21.2.1, z48.2.2.1.trans z21.2.2.1, z48.2.2.2.trans z21.2.2.2⟩
  have a50 : (zI s25 mm 13).toInt = (zI s3 mm 13).toInt := by rw [(hTo.k t_mm (by decide)).eI hE (by decide) rfl]
  refine lv_lstore (lv' := [(6, .long r26), (5, .int r4), (4, .int i), (3, .ref out), (2, .ref mm), (1, .ref x), (0, .ref b)]) hx hb dL_law_1031 hl (by decide) rfl (fun ls hl => ?_)
  refine lv_goto (tgt := 1432) hx hb dL_law_1033 (by decide) ?_
  have sl0f : zI s25 rI 0 ≠ 0 → SLT κ s25 x mm 0 := fun hq => (hsl 0 (by decide) (fun q9 => hq (by rw [erI] at q9; rw [j31]; exact q9))).tr (by rw [ers5, esl0]; exact n40) (fun j hj => by rw [erS, n45])
  have sl1f : zI s25 rI 1 ≠ 0 → SLT κ s25 x mm 1 := fun hq => (hsl 1 (by decide) (fun q9 => hq (by rw [erI] at q9; rw [j31]; exact q9))).tr (by rw [ers5, esl1]; exact n42) (fun j hj => by rw [erS, n45])
  exact KK s25 _ _ _ hT f27 ⟨by rw [etx]; omega, ⟨by rw [etx, erB, erT, j29, j30]; exact tal_less hal (by omega), by rw [erT, j30]; exact tnn_less hnn (by omega)⟩, ⟨by rw [etx, j33, j35]; exact hco, by rw [etx, j34, j36]; exact hpo⟩, fun i hi => by rw [erI, erK, j31, j32]; exact hkp i hi⟩ (⟨hnw.tr (by rw [enw]; exact n38) (by rw [erW]; exact n44), fun i hi => (show i = 0 ∨ i = 1 by omega).elim (fun e9 => by rw [e9, erI]; exact sl0f) (fun e9 => by rw [e9, erI]; exact sl1f)⟩) (hsm.tr (by rw [eso, eqP, eqO]; exact z47) (by rw [er5, er6]; exact z49)) (lv_sub hl [2, 3, 4, 5, 6] rfl)
set_option maxHeartbeats 4000000 in
set_option maxRecDepth 100000 in
theorem lc_29 (l : Launch) (κ : Kt) (σ0 : Gh) (x mm out b : Nat) (t_x : zk σ0 x 7) (t_mm : zk σ0 mm 20) (t_out : zk σ0 out 24) (ttx0 : zk σ0 (kR κ x 0) 6) (hdis : DIS κ x) (hlt : l.stackTraces = false) {p : Program} {e : Env} {s : State} {m : MethodId} {below : List Frame} {meth : Method} {c : Code} {L : Nat} {xs : Nat → Int32} {i : Int32} {Q9 : State → Prop} (hx : p.tables.exec = Jvm.exec) (hb : c.code = cL_law) (hml : c.maxLocals = 9) (hown : s.vm.findClass RL = some m.cls) (hg : ∀ w ∈ GW, w.before #[Value.ref b] s = true) (hK : va_K κ.1 vwCl (kTy κ) s) (hX : XY κ (tA σ0 s.heap.size) s s.heap) (hXs : va_X b L xs s s.heap) (hbl : b < s.heap.size) (hbA : ¬ tA σ0 s.heap.size b) (zx : zroomX κ s room_1 601024 7293034) (hi0 : 0 ≤ i.toInt) (hi1 : i.toInt + 6 ≤ L) (hL9 : L ≤ 3072) {σ : Gh} {H : Heap} {locs : List Loc} {ls : Array Slot} (hT : TS κ fA σ0 σ s H locs) (hR : RI κ σ mm) (hrel : LREL κ σ x mm) (hsr : SREL κ σ x mm) (hsm : SMP κ σ x mm) (hl : lv_has ls 9 [(4, .int i), (3, .ref out), (2, .ref mm), (1, .ref x), (0, .ref b)]) (KK : ∀ (σ1 : Gh) (H : Heap) (locs : List Loc) (ls : Array Slot), TS (kX κ) fA σ0 σ1 s H locs → RI (kX κ) σ1 mm → LREL κ σ1 x mm → SREL κ σ1 x mm → SMP κ σ1 x mm → lv_has ls 9 [(4, .int i), (3, .ref out), (2, .ref mm), (1, .ref x), (0, .ref b)] → W p l e room_1 s m #[Value.ref b] below meth c H locs 601024 7293034 Q9 (F0 m 1432 ls [])) : W p l e room_1 s m #[Value.ref b] below meth c H locs 601024 7293034 Q9 (F0 m 1036 ls []) := by
  obtain ⟨y1, hy1⟩ : ∃ z, z = xs (ix i + 1) := ⟨_, rfl⟩
  obtain ⟨y2, hy2⟩ : ∃ z, z = xs (ix i + 2) := ⟨_, rfl⟩
  obtain ⟨y3, hy3⟩ : ∃ z, z = xs (ix i + 3) := ⟨_, rfl⟩
  obtain ⟨y4, hy4⟩ : ∃ z, z = xs (ix i + 4) := ⟨_, rfl⟩
  obtain ⟨y5, hy5⟩ : ∃ z, z = xs (ix i + 5) := ⟨_, rfl⟩
  have n0 : (0 : Int32).toInt = 0 := by decide
  have n1 : (1 : Int32).toInt = 1 := by decide
  have n2 : (2 : Int32).toInt = 2 := by decide
  have n3 : (3 : Int32).toInt = 3 := by decide
  have n4 : (4 : Int32).toInt = 4 := by decide
  have n5 : (5 : Int32).toInt = 5 := by decide
  obtain ⟨tx, etx⟩ : ∃ z, kR κ x 0 = z := ⟨_, rfl⟩
  have ttx : zk σ0 tx 6 := by rw [← etx]; exact ttx0
  obtain ⟨rB, erB⟩ : ∃ z, kR κ tx 0 = z := ⟨_, rfl⟩
  have trB : zk σ0 rB 14 := by rw [← erB]; exact hT.kr (hT.ref (hT.k ttx (by decide)) (by decide) (by decide) (by decide)) (by decide) (by decide)
  obtain ⟨rT, erT⟩ : ∃ z, kR κ mm 12 = z := ⟨_, rfl⟩
  have trT : zk σ0 rT 23 := by rw [← erT]; exact hT.kr (hT.ref (hT.k t_mm (by decide)) (by decide) (by decide) (by decide)) (by decide) (by decide)
  obtain ⟨rI, erI⟩ : ∃ z, kR κ x 6 = z := ⟨_, rfl⟩
  have trI : zk σ0 rI 13 := by rw [← erI]; exact hT.kr (hT.ref (hT.k t_x (by decide)) (by decide) (by decide) (by decide)) (by decide) (by decide)
  obtain ⟨rK, erK⟩ : ∃ z, kR κ mm 4 = z := ⟨_, rfl⟩
  have trK : zk σ0 rK 29 := by rw [← erK]; exact hT.kr (hT.ref (hT.k t_mm (by decide)) (by decide) (by decide) (by decide)) (by decide) (by decide)
  obtain ⟨hlen, ⟨hal, hnn⟩, ⟨hco, hpo⟩, hkp⟩ := hrel
  rw [etx] at hlen hal hco hpo
  rw [erB, erT] at hal
  rw [erT] at hnn
  rw [erI, erK] at hkp
  have btx := (hT.P (hT.k ttx (by decide)) (by decide)).1
  have btxl := btx.1
  have btxh := btx.2
  obtain ⟨nw, enw⟩ : ∃ z, kR κ x 3 = z := ⟨_, rfl⟩
  have tnw : zk σ0 nw 3 := by rw [← enw]; exact hT.kr (hT.ref (hT.k t_x (by decide)) (by decide) (by decide) (by decide)) (by decide) (by decide)
  obtain ⟨tr, etr⟩ : ∃ z, kR κ x 4 = z := ⟨_, rfl⟩
  have ttr : zk σ0 tr 3 := by rw [← etr]; exact hT.kr (hT.ref (hT.k t_x (by decide)) (by decide) (by decide) (by decide)) (by decide) (by decide)
  obtain ⟨rs5, ers5⟩ : ∃ z, kR κ x 5 = z := ⟨_, rfl⟩
  have trs5 : zk σ0 rs5 12 := by rw [← ers5]; exact hT.kr (hT.ref (hT.k t_x (by decide)) (by decide) (by decide) (by decide)) (by decide) (by decide)
  obtain ⟨sl0, esl0⟩ : ∃ z, kR κ rs5 0 = z := ⟨_, rfl⟩
  have tsl0 : zk σ0 sl0 3 := by rw [← esl0]; exact hT.kr (hT.ref (hT.k trs5 (by decide)) (by decide) (by decide) (by decide)) (by decide) (by decide)
  obtain ⟨sl1, esl1⟩ : ∃ z, kR κ rs5 1 = z := ⟨_, rfl⟩
  have tsl1 : zk σ0 sl1 3 := by rw [← esl1]; exact hT.kr (hT.ref (hT.k trs5 (by decide)) (by decide) (by decide) (by decide)) (by decide) (by decide)
  obtain ⟨rW, erW⟩ : ∃ z, kR κ mm 1 = z := ⟨_, rfl⟩
  have trW : zk σ0 rW 21 := by rw [← erW]; exact hT.kr (hT.ref (hT.k t_mm (by decide)) (by decide) (by decide) (by decide)) (by decide) (by decide)
  obtain ⟨rS, erS⟩ : ∃ z, kR κ mm 3 = z := ⟨_, rfl⟩
  have trS : zk σ0 rS 22 := by rw [← erS]; exact hT.kr (hT.ref (hT.k t_mm (by decide)) (by decide) (by decide) (by decide)) (by decide) (by decide)
  obtain ⟨so, eso⟩ : ∃ z, kR κ x 1 = z := ⟨_, rfl⟩
  have tso : zk σ0 so 4 := by rw [← eso]; exact hT.kr (hT.ref (hT.k t_x (by decide)) (by decide) (by decide) (by decide)) (by decide) (by decide)
  obtain ⟨qP, eqP⟩ : ∃ z, kR κ so 0 = z := ⟨_, rfl⟩
  have tqP : zk σ0 qP 8 := by rw [← eqP]; exact hT.kr (hT.ref (hT.k tso (by decide)) (by decide) (by decide) (by decide)) (by decide) (by decide)
  obtain ⟨qO, eqO⟩ : ∃ z, kR κ so 1 = z := ⟨_, rfl⟩
  have tqO : zk σ0 qO 16 := by rw [← eqO]; exact hT.kr (hT.ref (hT.k tso (by decide)) (by decide) (by decide) (by decide)) (by decide) (by decide)
  obtain ⟨r5, er5⟩ : ∃ z, kR κ mm 5 = z := ⟨_, rfl⟩
  have tr5 : zk σ0 r5 25 := by rw [← er5]; exact hT.kr (hT.ref (hT.k t_mm (by decide)) (by decide) (by decide) (by decide)) (by decide) (by decide)
  obtain ⟨r6, er6⟩ : ∃ z, kR κ mm 6 = z := ⟨_, rfl⟩
  have tr6 : zk σ0 r6 26 := by rw [← er6]; exact hT.kr (hT.ref (hT.k t_mm (by decide)) (by decide) (by decide) (by decide)) (by decide) (by decide)
  obtain ⟨hnw, hsl⟩ := hsr
  obtain ⟨hd1, ⟨hd2, hd3⟩, hd4, hd5, hd6, hd7⟩ := hdis
  have d_nt : nw ≠ tr := by rw [← enw, ← etr]; exact hd2
  have d_n0 : nw ≠ sl0 := by rw [← enw, ← esl0, ← ers5]; exact hd3 0 (by decide)
  have d_t0 : sl0 ≠ tr := by rw [← etr, ← esl0, ← ers5]; exact fun q => hd4 0 (by decide) q.symm
  have d_n1 : nw ≠ sl1 := by rw [← enw, ← esl1, ← ers5]; exact hd3 1 (by decide)
  have d_t1 : sl1 ≠ tr := by rw [← etr, ← esl1, ← ers5]; exact fun q => hd4 1 (by decide) q.symm
  have d_01 : sl0 ≠ sl1 := by rw [← esl0, ← esl1, ← ers5]; exact hd5
  have knw : zk σ nw 3 := hT.k tnw (by decide)
  have ksl0 : zk σ sl0 3 := hT.k tsl0 (by decide)
  have ksl1 : zk σ sl1 3 := hT.k tsl1 (by decide)
  refine lv_aload_n hx hb dL_law_1036 rfl (lv_at hl 3 rfl) ?_
  refine lv_aload_n hx hb dL_law_1037 rfl (lv_at hl 4 rfl) ?_
  refine lv_iload hx hb dL_law_1038 (lv_at hl 0 rfl) ?_
  refine lv_iconst (v := 1) hx hb dL_law_1040 (by decide) ?_
  refine lv_iadd hx hb dL_law_1041 ?_
  refine g_add (by omega) (by omega) (fun t1 ht1 => ?_)
  refine va_sld hx hb hXs hbl hbA hT.2.2.2 (g_in (by omega) (by omega)) dL_law_1042 ?_
  refine ti y1 (by rw [hy1]; exact congrArg xs (show t1.toNatClampNeg = ix i + 1 from by show t1.toInt.toNat = ix i + 1; unfold ix; omega)) ?_
  refine lv_aload_n hx hb dL_law_1043 rfl (lv_at hl 4 rfl) ?_
  refine lv_iload hx hb dL_law_1044 (lv_at hl 0 rfl) ?_
  refine lv_iconst (v := 2) hx hb dL_law_1046 (by decide) ?_
  refine lv_iadd hx hb dL_law_1047 ?_
  refine g_add (by omega) (by omega) (fun t2 ht2 => ?_)
  refine va_sld hx hb hXs hbl hbA hT.2.2.2 (g_in (by omega) (by omega)) dL_law_1048 ?_
  refine ti y2 (by rw [hy2]; exact congrArg xs (show t2.toNatClampNeg = ix i + 2 from by show t2.toInt.toNat = ix i + 2; unfold ix; omega)) ?_
  refine lv_if_eq (tgt := 1056) hx hb dL_law_1049 (by decide) (fun c9 => ?_) (fun c9 => ?_)
  · have c7 := gi_eq c9
    refine lv_iconst (v := 0) hx hb dL_law_1056 (by decide) ?_
    refine lv_aload_n hx hb dL_law_1057 rfl (lv_at hl 1 rfl) ?_
    have hTo := hT
    refine tHi (n := 4) (As := [.ref x, .int y1, .int 0, .ref out]) (rest := []) hx hb hml hown hg hT hK hX (L_threshold l κ σ x y1 0 out (hT.k t_x (by decide)) (hT.k t_out (by decide)) isB0 hlt) sub_hfW_fA (mwHS k1065 k1066 k83 k1067) ⟨by decide, by decide, by decide +kernel⟩ ⟨(Nat.le_of_ble_eq_true rfl), (Nat.le_of_ble_eq_true rfl)⟩ rfl hl.1 rfl (Nat.le_of_ble_eq_true rfl) dL_law_1058 zx (fun r4 s3 H locs hφ hE hT => ?_)
    have R5 := hR.ext hE ⟨rfl, rfl, fun _ => rfl, fun _ => rfl, fun _ => rfl, fun _ => rfl⟩
    have a6 : (zI s3 tx 1).toInt = (zI σ tx 1).toInt := by rw [(hTo.k ttx (by decide)).eI hE (by decide) rfl]
    have j7 : zI s3 rB = zI σ rB := (show zI s3 rB = zI σ rB from funext fun k => (hTo.k trB (by decide)).eI hE (by decide) rfl)
    have j8 : zI s3 rT = zI σ rT := (show zI s3 rT = zI σ rT from funext fun k => (hTo.k trT (by decide)).eI hE (by decide) rfl)
    have j9 : zI s3 rI = zI σ rI := (show zI s3 rI = zI σ rI from funext fun k => (hTo.k trI (by decide)).eI hE (by decide) rfl)
    have j10 : zI s3 rK = zI σ rK := (show zI s3 rK = zI σ rK from funext fun k => (hTo.k trK (by decide)).eI hE (by decide) rfl)
    have j11 : zI s3 tx 2 = zI σ tx 2 := (hTo.k ttx (by decide)).eI hE (by decide) rfl
    have j12 : zI s3 tx 3 = zI σ tx 3 := (hTo.k ttx (by decide)).eI hE (by decide) rfl
    have j13 : zI s3 mm 15 = zI σ mm 15 := (hTo.k t_mm (by decide)).eI hE (by decide) rfl
    have j14 : zI s3 mm 16 = zI σ mm 16 := (hTo.k t_mm (by decide)).eI hE (by decide) rfl
    have n15 : zI s3 nw 7 = zI σ nw 7 ∧ zI s3 nw 8 = zI σ nw 8 ∧ zI s3 nw 9 = zI σ nw 9 := ⟨(hTo.k tnw (by decide)).eI hE (by decide) rfl, (hTo.k tnw (by decide)).eI hE (by decide) rfl, (hTo.k tnw (by decide)).eI hE (by decide) rfl⟩
    have n16 : zI s3 sl0 7 = zI σ sl0 7 ∧ zI s3 sl0 8 = zI σ sl0 8 ∧ zI s3 sl0 9 = zI σ sl0 9 := ⟨(hTo.k tsl0 (by decide)).eI hE (by decide) rfl, (hTo.k tsl0 (by decide)).eI hE (by decide) rfl, (hTo.k tsl0 (by decide)).eI hE (by decide) rfl⟩
    have n17 : zI s3 sl1 7 = zI σ sl1 7 ∧ zI s3 sl1 8 = zI σ sl1 8 ∧ zI s3 sl1 9 = zI σ sl1 9 := ⟨(hTo.k tsl1 (by decide)).eI hE (by decide) rfl, (hTo.k tsl1 (by decide)).eI hE (by decide) rfl, (hTo.k tsl1 (by decide)).eI hE (by decide) rfl⟩
    have n18 : ∀ j : Nat, j < 3 → zJ s3 rW j = zJ σ rW j := fun j hj => (hTo.k trW (by decide)).eJ hE (by decide) rfl
    have n19 : zJ s3 rS = zJ σ rS := (show zJ s3 rS = zJ σ rS from funext fun k => (hTo.k trS (by decide)).eJ hE (by decide) rfl)
    have z20 : zI s3 so 2 = zI σ so 2 ∧ zI s3 so 6 = zI σ so 6 ∧ zI s3 qP = zI σ qP ∧ zI s3 qO = zI σ qO := ⟨(hTo.k tso (by decide)).eI hE (by decide) rfl, (hTo.k tso (by decide)).eI hE (by decide) rfl, funext fun q9 => (hTo.k tqP (by decide)).eI hE (by decide) rfl, funext fun q9 => (hTo.k tqO (by decide)).eI hE (by decide) rfl⟩
    have z21 : zI s3 mm 7 = zI σ mm 7 ∧ zI s3 mm 8 = zI σ mm 8 ∧ zI s3 r5 = zI σ r5 ∧ zI s3 r6 = zI σ r6 := ⟨(hTo.k t_mm (by decide)).eI hE (by decide) rfl, (hTo.k t_mm (by decide)).eI hE (by decide) rfl, funext fun q9 => (hTo.k tr5 (by decide)).eI hE (by decide) rfl, funext fun q9 => (hTo.k tr6 (by decide)).eI hE (by decide) rfl⟩
    have a22 : (zI s3 mm 13).toInt = (zI σ mm 13).toInt := by rw [(hTo.k t_mm (by decide)).eI hE (by decide) rfl]
    refine lv_istore (lv' := [(5, .int r4), (4, .int i), (3, .ref out), (2, .ref mm), (1, .ref x), (0, .ref b)]) hx hb dL_law_1061 hl (by decide) rfl (fun ls hl => ?_)
    refine lv_aload_n hx hb dL_law_1063 rfl (lv_at hl 3 rfl) ?_
    refine lv_aload_n hx hb dL_law_1064 rfl (lv_at hl 5 rfl) ?_
    refine lv_iload hx hb dL_law_1065 (lv_at hl 1 rfl) ?_
    refine lv_iconst (v := 1) hx hb dL_law_1067 (by decide) ?_
    refine lv_iadd hx hb dL_law_1068 ?_
    refine g_add (by omega) (by omega) (fun t23 ht23 => ?_)
    refine va_sld hx hb hXs hbl hbA hT.2.2.2 (g_in (by omega) (by omega)) dL_law_1069 ?_
    refine ti y1 (by rw [hy1]; exact congrArg xs (show t23.toNatClampNeg = ix i + 1 from by show t23.toInt.toNat = ix i + 1; unfold ix; omega)) ?_
    refine lv_aload_n hx hb dL_law_1070 rfl (lv_at hl 5 rfl) ?_
    refine lv_iload hx hb dL_law_1071 (lv_at hl 1 rfl) ?_
    refine lv_iconst (v := 2) hx hb dL_law_1073 (by decide) ?_
    refine lv_iadd hx hb dL_law_1074 ?_
    refine g_add (by omega) (by omega) (fun t24 ht24 => ?_)
    refine va_sld hx hb hXs hbl hbA hT.2.2.2 (g_in (by omega) (by omega)) dL_law_1075 ?_
    refine ti y2 (by rw [hy2]; exact congrArg xs (show t24.toNatClampNeg = ix i + 2 from by show t24.toInt.toNat = ix i + 2; unfold ix; omega)) ?_
    refine lv_if_eq (tgt := 1083) hx hb dL_law_1076 (by decide) (fun c9 => ?_) (fun c9 => ?_)
    · have c7 := gi_eq c9
      refine lv_iconst (v := 0) hx hb dL_law_1083 (by decide) ?_
      have hTo := hT
      refine tVi (n := 2) (As := [.int y1, .int 0]) (rest := []) hx hb hml hown hg hT hK hX (X6_threshold l (kX κ) s3 mm y1 0 (hT.k t_mm (by decide)) isB0 R5) sub_gX_fA (mwV k1626 k1627 k1628 k92 k1629) ⟨rfl, by decide, by decide, by decide +kernel⟩ ⟨(Nat.le_of_ble_eq_true rfl), (Nat.le_of_ble_eq_true rfl)⟩ (hT.o20 (hT.k t_mm (by decide))) rfl rfl hl.1 rfl (Nat.le_of_ble_eq_true rfl) dL_law_1084 zx (fun r26 s25 H locs hφ hE hT => ?_)
      have f27 := hφ
      have a28 : (zI s25 tx 1).toInt = (zI s3 tx 1).toInt := by rw [(hTo.k ttx (by decide)).eI hE (by decide) rfl]
      have j29 : zI s25 rB = zI σ rB := ((show zI s25 rB = zI s3 rB from funext fun k => (hTo.k trB (by decide)).eI hE (by decide) rfl)).trans j7
      have j30 : zI s25 rT = zI σ rT := ((show zI s25 rT = zI s3 rT from funext fun k => (hTo.k trT (by decide)).eI hE (by decide) rfl)).trans j8
      have j31 : zI s25 rI = zI σ rI := ((show zI s25 rI = zI s3 rI from funext fun k => (hTo.k trI (by decide)).eI hE (by decide) rfl)).trans j9
      have j32 : zI s25 rK = zI σ rK := ((show zI s25 rK = zI s3 rK from funext fun k => (hTo.k trK (by decide)).eI hE (by decide) rfl)).trans j10
      have j33 : zI s25 tx 2 = zI σ tx 2 := ((hTo.k ttx (by decide)).eI hE (by decide) rfl).trans j11
      have j34 : zI s25 tx 3 = zI σ tx 3 := ((hTo.k ttx (by decide)).eI hE (by decide) rfl).trans j12
      have j35 : zI s25 mm 15 = zI σ mm 15 := ((hTo.k t_mm (by decide)).eI hE (by decide) rfl).trans j13
      have j36 : zI s25 mm 16 = zI σ mm 16 := ((hTo.k t_mm (by decide)).eI hE (by decide) rfl).trans j14
      have n37 : zI s25 nw 7 = zI s3 nw 7 ∧ zI s25 nw 8 = zI s3 nw 8 ∧ zI s25 nw 9 = zI s3 nw 9 := ⟨(hTo.k tnw (by decide)).eI hE (by decide) rfl, (hTo.k tnw (by decide)).eI hE (by decide) rfl, (hTo.k tnw (by decide)).eI hE (by decide) rfl⟩
      have n38 : zI s25 nw 7 = zI σ nw 7 ∧ zI s25 nw 8 = zI σ nw 8 ∧ zI s25 nw 9 = zI σ nw 9 := ⟨n37.1.trans n15.1, n37.2.1.trans n15.2.1, n37.2.2.trans n15.2.2⟩
      have n39 : zI s25 sl0 7 = zI s3 sl0 7 ∧ zI s25 sl0 8 = zI s3 sl0 8 ∧ zI s25 sl0 9 = zI s3 sl0 9 := ⟨(hTo.k tsl0 (by decide)).eI hE (by decide) rfl, (hTo.k tsl0 (by decide)).eI hE (by decide) rfl, (hTo.k tsl0 (by decide)).eI hE (by decide) rfl⟩
      have n40 : zI s25 sl0 7 = zI σ sl0 7 ∧ zI s25 sl0 8 = zI σ sl0 8 ∧ zI s25 sl0 9 = zI σ sl0 9 := ⟨n39.1.trans n16.1, n39.2.1.trans n16.2.1, n39.2.2.trans n16.2.2⟩
      have n41 : zI s25 sl1 7 = zI s3 sl1 7 ∧ zI s25 sl1 8 = zI s3 sl1 8 ∧ zI s25 sl1 9 = zI s3 sl1 9 := ⟨(hTo.k tsl1 (by decide)).eI hE (by decide) rfl, (hTo.k tsl1 (by decide)).eI hE (by decide) rfl, (hTo.k tsl1 (by decide)).eI hE (by decide) rfl⟩
      have n42 : zI s25 sl1 7 = zI σ sl1 7 ∧ zI s25 sl1 8 = zI σ sl1 8 ∧ zI s25 sl1 9 = zI σ sl1 9 := ⟨n41.1.trans n17.1, n41.2.1.trans n17.2.1, n41.2.2.trans n17.2.2⟩
      have n43 : ∀ j : Nat, j < 3 → zJ s25 rW j = zJ s3 rW j := fun j hj => (hTo.k trW (by decide)).eJ hE (by decide) (lt3_gX j hj)
      have n44 : ∀ j : Nat, j < 3 → zJ s25 rW j = zJ σ rW j := fun j hj => (n43 j hj).trans (n18 j hj)
      have n45 : zJ s25 rS = zJ σ rS := (show zJ s25 rS = zJ s3 rS from funext fun k => (hTo.k trS (by decide)).eJ hE (by decide) rfl).trans n19
      have z46 : zI s25 so 2 = zI s3 so 2 ∧ zI s25 so 6 = zI s3 so 6 ∧ zI s25 qP = zI s3 qP ∧ zI s25 qO = zI s3 qO := ⟨(hTo.k tso (by decide)).eI hE (by decide) rfl, (hTo.k tso (by decide)).eI hE (by decide) rfl, funext fun q9 => (hTo.k tqP (by decide)).eI hE (by decide) rfl, funext fun q9 => (hTo.k tqO (by decide)).eI hE (by decide) rfl⟩
      have z47 : zI s25 so 2 = zI σ so 2 ∧ zI s25 so 6 = zI σ so 6 ∧ zI s25 qP = zI σ qP ∧ zI s25 qO = zI σ qO := ⟨z46.1.trans z20.1, z46.2.1.trans z20.2.1, z46.2.2.1.trans z20.2.2.1, z46.2.2.2.trans z20.2.2.2⟩
      have z48 : zI s25 mm 7 = zI s3 mm 7 ∧ zI s25 mm 8 = zI s3 mm 8 ∧ zI s25 r5 = zI s3 r5 ∧ zI s25 r6 = zI s3 r6 := ⟨(hTo.k t_mm (by decide)).eI hE (by decide) rfl, (hTo.k t_mm (by decide)).eI hE (by decide) rfl, funext fun q9 => (hTo.k tr5 (by decide)).eI hE (by decide) rfl, funext fun q9 => (hTo.k tr6 (by decide)).eI hE (by decide) rfl⟩
      have z49 : zI s25 mm 7 = zI σ mm 7 ∧ zI s25 mm 8 = zI σ mm 8 ∧ zI s25 r5 = zI σ r5 ∧ zI s25 r6 = zI σ r6 := ⟨z48.1.trans z21.1, z48.2.1.trans z21.2.1, z48.2.2.1.trans z21.2.2.1, z48.2.2.2.trans z21.2.2.2⟩
      have a50 : (zI s25 mm 13).toInt = (zI s3 mm 13).toInt := by rw [(hTo.k t_mm (by decide)).eI hE (by decide) rfl]
      refine lv_istore (lv' := [(6, .int r26), (5, .int r4), (4, .int i), (3, .ref out), (2, .ref mm), (1, .ref x), (0, .ref b)]) hx hb dL_law_1087 hl (by decide) rfl (fun ls hl => ?_)
      refine lv_goto (tgt := 1432) hx hb dL_law_1089 (by decide) ?_
      have sl0f : zI s25 rI 0 ≠ 0 → SLT κ s25 x mm 0 := fun hq => (hsl 0 (by decide) (fun q9 => hq (by rw [erI] at q9; rw [j31]; exact q9))).tr (by rw [ers5, esl0]; exact n40) (fun j hj => by rw [erS, n45])
      have sl1f : zI s25 rI 1 ≠ 0 → SLT κ s25 x mm 1 := fun hq => (hsl 1 (by decide) (fun q9 => hq (by rw [erI] at q9; rw [j31]; exact q9))).tr (by rw [ers5, esl1]; exact n42) (fun j hj => by rw [erS, n45])
      exact KK s25 _ _ _ hT f27 ⟨by rw [etx]; omega, ⟨by rw [etx, erB, erT, j29, j30]; exact tal_less hal (by omega), by rw [erT, j30]; exact tnn_less hnn (by omega)⟩, ⟨by rw [etx, j33, j35]; exact hco, by rw [etx, j34, j36]; exact hpo⟩, fun i hi => by rw [erI, erK, j31, j32]; exact hkp i hi⟩ (⟨hnw.tr (by rw [enw]; exact n38) (by rw [erW]; exact n44), fun i hi => (show i = 0 ∨ i = 1 by omega).elim (fun e9 => by rw [e9, erI]; exact sl0f) (fun e9 => by rw [e9, erI]; exact sl1f)⟩) (hsm.tr (by rw [eso, eqP, eqO]; exact z47) (by rw [er5, er6]; exact z49)) (lv_sub hl [2, 3, 4, 5, 6] rfl)
    · have c7 := gi_ne c9
      refine lv_iconst (v := 1) hx hb dL_law_1079 (by decide) ?_
      refine lv_goto (tgt := 1084) hx hb dL_law_1080 (by decide) ?_
      have hTo := hT
      refine tVi (n := 2) (As := [.int y1, .int 1]) (rest := []) hx hb hml hown hg hT hK hX (X6_threshold l (kX κ) s3 mm y1 1 (hT.k t_mm (by decide)) isB1 R5) sub_gX_fA (mwV k1626 k1627 k1628 k92 k1629) ⟨rfl, by decide, by decide, by decide +kernel⟩ ⟨(Nat.le_of_ble_eq_true rfl), (Nat.le_of_ble_eq_true rfl)⟩ (hT.o20 (hT.k t_mm (by decide))) rfl rfl hl.1 rfl (Nat.le_of_ble_eq_true rfl) dL_law_1084 zx (fun r52 s51 H locs hφ hE hT => ?_)
      have f53 := hφ
      have a54 : (zI s51 tx 1).toInt = (zI s3 tx 1).toInt := by rw [(hTo.k ttx (by decide)).eI hE (by decide) rfl]
      have j55 : zI s51 rB = zI σ rB := ((show zI s51 rB = zI s3 rB from funext fun k => (hTo.k trB (by decide)).eI hE (by decide) rfl)).trans j7
      have j56 : zI s51 rT = zI σ rT := ((show zI s51 rT = zI s3 rT from funext fun k => (hTo.k trT (by decide)).eI hE (by decide) rfl)).trans j8
      have j57 : zI s51 rI = zI σ rI := ((show zI s51 rI = zI s3 rI from funext fun k => (hTo.k trI (by decide)).eI hE (by decide) rfl)).trans j9
      have j58 : zI s51 rK = zI σ rK := ((show zI s51 rK = zI s3 rK from funext fun k => (hTo.k trK (by decide)).eI hE (by decide) rfl)).trans j10
      have j59 : zI s51 tx 2 = zI σ tx 2 := ((hTo.k ttx (by decide)).eI hE (by decide) rfl).trans j11
      have j60 : zI s51 tx 3 = zI σ tx 3 := ((hTo.k ttx (by decide)).eI hE (by decide) rfl).trans j12
      have j61 : zI s51 mm 15 = zI σ mm 15 := ((hTo.k t_mm (by decide)).eI hE (by decide) rfl).trans j13
      have j62 : zI s51 mm 16 = zI σ mm 16 := ((hTo.k t_mm (by decide)).eI hE (by decide) rfl).trans j14
      have n63 : zI s51 nw 7 = zI s3 nw 7 ∧ zI s51 nw 8 = zI s3 nw 8 ∧ zI s51 nw 9 = zI s3 nw 9 := ⟨(hTo.k tnw (by decide)).eI hE (by decide) rfl, (hTo.k tnw (by decide)).eI hE (by decide) rfl, (hTo.k tnw (by decide)).eI hE (by decide) rfl⟩
      have n64 : zI s51 nw 7 = zI σ nw 7 ∧ zI s51 nw 8 = zI σ nw 8 ∧ zI s51 nw 9 = zI σ nw 9 := ⟨n63.1.trans n15.1, n63.2.1.trans n15.2.1, n63.2.2.trans n15.2.2⟩
      have n65 : zI s51 sl0 7 = zI s3 sl0 7 ∧ zI s51 sl0 8 = zI s3 sl0 8 ∧ zI s51 sl0 9 = zI s3 sl0 9 := ⟨(hTo.k tsl0 (by decide)).eI hE (by decide) rfl, (hTo.k tsl0 (by decide)).eI hE (by decide) rfl, (hTo.k tsl0 (by decide)).eI hE (by decide) rfl⟩
      have n66 : zI s51 sl0 7 = zI σ sl0 7 ∧ zI s51 sl0 8 = zI σ sl0 8 ∧ zI s51 sl0 9 = zI σ sl0 9 := ⟨n65.1.trans n16.1, n65.2.1.trans n16.2.1, n65.2.2.trans n16.2.2⟩
      have n67 : zI s51 sl1 7 = zI s3 sl1 7 ∧ zI s51 sl1 8 = zI s3 sl1 8 ∧ zI s51 sl1 9 = zI s3 sl1 9 := ⟨(hTo.k tsl1 (by decide)).eI hE (by decide) rfl, (hTo.k tsl1 (by decide)).eI hE (by decide) rfl, (hTo.k tsl1 (by decide)).eI hE (by decide) rfl⟩
      have n68 : zI s51 sl1 7 = zI σ sl1 7 ∧ zI s51 sl1 8 = zI σ sl1 8 ∧ zI s51 sl1 9 = zI σ sl1 9 := ⟨n67.1.trans n17.1, n67.2.1.trans n17.2.1, n67.2.2.trans n17.2.2⟩
      have n69 : ∀ j : Nat, j < 3 → zJ s51 rW j = zJ s3 rW j := fun j hj => (hTo.k trW (by decide)).eJ hE (by decide) (lt3_gX j hj)
      have n70 : ∀ j : Nat, j < 3 → zJ s51 rW j = zJ σ rW j := fun j hj => (n69 j hj).trans (n18 j hj)
      have n71 : zJ s51 rS = zJ σ rS := (show zJ s51 rS = zJ s3 rS from funext fun k => (hTo.k trS (by decide)).eJ hE (by decide) rfl).trans n19
      have z72 : zI s51 so 2 = zI s3 so 2 ∧ zI s51 so 6 = zI s3 so 6 ∧ zI s51 qP = zI s3 qP ∧ zI s51 qO = zI s3 qO := ⟨(hTo.k tso (by decide)).eI hE (by decide) rfl, (hTo.k tso (by decide)).eI hE (by decide) rfl, funext fun q9 => (hTo.k tqP (by decide)).eI hE (by decide) rfl, funext fun q9 => (hTo.k tqO (by decide)).eI hE (by decide) rfl⟩
      have z73 : zI s51 so 2 = zI σ so 2 ∧ zI s51 so 6 = zI σ so 6 ∧ zI s51 qP = zI σ qP ∧ zI s51 qO = zI σ qO := ⟨z72.1.trans z20.1, z72.2.1.trans z20.2.1, z72.2.2.1.trans z20.2.2.1, z72.2.2.2.trans z20.2.2.2⟩
      have z74 : zI s51 mm 7 = zI s3 mm 7 ∧ zI s51 mm 8 = zI s3 mm 8 ∧ zI s51 r5 = zI s3 r5 ∧ zI s51 r6 = zI s3 r6 := ⟨(hTo.k t_mm (by decide)).eI hE (by decide) rfl, (hTo.k t_mm (by decide)).eI hE (by decide) rfl, funext fun q9 => (hTo.k tr5 (by decide)).eI hE (by decide) rfl, funext fun q9 => (hTo.k tr6 (by decide)).eI hE (by decide) rfl⟩
      have z75 : zI s51 mm 7 = zI σ mm 7 ∧ zI s51 mm 8 = zI σ mm 8 ∧ zI s51 r5 = zI σ r5 ∧ zI s51 r6 = zI σ r6 := ⟨z74.1.trans z21.1, z74.2.1.trans z21.2.1, z74.2.2.1.trans z21.2.2.1, z74.2.2.2.trans z21.2.2.2⟩
      have a76 : (zI s51 mm 13).toInt = (zI s3 mm 13).toInt := by rw [(hTo.k t_mm (by decide)).eI hE (by decide) rfl]
      refine lv_istore (lv' := [(6, .int r52), (5, .int r4), (4, .int i), (3, .ref out), (2, .ref mm), (1, .ref x), (0, .ref b)]) hx hb dL_law_1087 hl (by decide) rfl (fun ls hl => ?_)
      refine lv_goto (tgt := 1432) hx hb dL_law_1089 (by decide) ?_
      have sl0f : zI s51 rI 0 ≠ 0 → SLT κ s51 x mm 0 := fun hq => (hsl 0 (by decide) (fun q9 => hq (by rw [erI] at q9; rw [j57]; exact q9))).tr (by rw [ers5, esl0]; exact n66) (fun j hj => by rw [erS, n71])
      have sl1f : zI s51 rI 1 ≠ 0 → SLT κ s51 x mm 1 := fun hq => (hsl 1 (by decide) (fun q9 => hq (by rw [erI] at q9; rw [j57]; exact q9))).tr (by rw [ers5, esl1]; exact n68) (fun j hj => by rw [erS, n71])
      exact KK s51 _ _ _ hT f53 ⟨by rw [etx]; omega, ⟨by rw [etx, erB, erT, j55, j56]; exact tal_less hal (by omega), by rw [erT, j56]; exact tnn_less hnn (by omega)⟩, ⟨by rw [etx, j59, j61]; exact hco, by rw [etx, j60, j62]; exact hpo⟩, fun i hi => by rw [erI, erK, j57, j58]; exact hkp i hi⟩ (⟨hnw.tr (by rw [enw]; exact n64) (by rw [erW]; exact n70), fun i hi => (show i = 0 ∨ i = 1 by omega).elim (fun e9 => by rw [e9, erI]; exact sl0f) (fun e9 => by rw [e9, erI]; exact sl1f)⟩) (hsm.tr (by rw [eso, eqP, eqO]; exact z73) (by rw [er5, er6]; exact z75)) (lv_sub hl [2, 3, 4, 5, 6] rfl)
  · have c7 := gi_ne c9
    refine lv_iconst (v := 1) hx hb dL_law_1052 (by decide) ?_
    refine lv_goto (tgt := 1057) hx hb dL_law_1053 (by decide) ?_
    refine lv_aload_n hx hb dL_law_1057 rfl (lv_at hl 1 rfl) ?_
    have hTo := hT
    refine tHi (n := 4) (As := [.ref x, .int y1, .int 1, .ref out]) (rest := []) hx hb hml hown hg hT hK hX (L_threshold l κ σ x y1 1 out (hT.k t_x (by decide)) (hT.k t_out (by decide)) isB1 hlt) sub_hfW_fA (mwHS k1065 k1066 k83 k1067) ⟨by decide, by decide, by decide +kernel⟩ ⟨(Nat.le_of_ble_eq_true rfl), (Nat.le_of_ble_eq_true rfl)⟩ rfl hl.1 rfl (Nat.le_of_ble_eq_true rfl) dL_law_1058 zx (fun r78 s77 H locs hφ hE hT => ?_)
    have R79 := hR.ext hE ⟨rfl, rfl, fun _ => rfl, fun _ => rfl, fun _ => rfl, fun _ => rfl⟩
    have a80 : (zI s77 tx 1).toInt = (zI σ tx 1).toInt := by rw [(hTo.k ttx (by decide)).eI hE (by decide) rfl]
    have j81 : zI s77 rB = zI σ rB := (show zI s77 rB = zI σ rB from funext fun k => (hTo.k trB (by decide)).eI hE (by decide) rfl)
    have j82 : zI s77 rT = zI σ rT := (show zI s77 rT = zI σ rT from funext fun k => (hTo.k trT (by decide)).eI hE (by decide) rfl)
    have j83 : zI s77 rI = zI σ rI := (show zI s77 rI = zI σ rI from funext fun k => (hTo.k trI (by decide)).eI hE (by decide) rfl)
    have j84 : zI s77 rK = zI σ rK := (show zI s77 rK = zI σ rK from funext fun k => (hTo.k trK (by decide)).eI hE (by decide) rfl)
    have j85 : zI s77 tx 2 = zI σ tx 2 := (hTo.k ttx (by decide)).eI hE (by decide) rfl
    have j86 : zI s77 tx 3 = zI σ tx 3 := (hTo.k ttx (by decide)).eI hE (by decide) rfl
    have j87 : zI s77 mm 15 = zI σ mm 15 := (hTo.k t_mm (by decide)).eI hE (by decide) rfl
    have j88 : zI s77 mm 16 = zI σ mm 16 := (hTo.k t_mm (by decide)).eI hE (by decide) rfl
    have n89 : zI s77 nw 7 = zI σ nw 7 ∧ zI s77 nw 8 = zI σ nw 8 ∧ zI s77 nw 9 = zI σ nw 9 := ⟨(hTo.k tnw (by decide)).eI hE (by decide) rfl, (hTo.k tnw (by decide)).eI hE (by decide) rfl, (hTo.k tnw (by decide)).eI hE (by decide) rfl⟩
    have n90 : zI s77 sl0 7 = zI σ sl0 7 ∧ zI s77 sl0 8 = zI σ sl0 8 ∧ zI s77 sl0 9 = zI σ sl0 9 := ⟨(hTo.k tsl0 (by decide)).eI hE (by decide) rfl, (hTo.k tsl0 (by decide)).eI hE (by decide) rfl, (hTo.k tsl0 (by decide)).eI hE (by decide) rfl⟩
    have n91 : zI s77 sl1 7 = zI σ sl1 7 ∧ zI s77 sl1 8 = zI σ sl1 8 ∧ zI s77 sl1 9 = zI σ sl1 9 := ⟨(hTo.k tsl1 (by decide)).eI hE (by decide) rfl, (hTo.k tsl1 (by decide)).eI hE (by decide) rfl, (hTo.k tsl1 (by decide)).eI hE (by decide) rfl⟩
    have n92 : ∀ j : Nat, j < 3 → zJ s77 rW j = zJ σ rW j := fun j hj => (hTo.k trW (by decide)).eJ hE (by decide) rfl
    have n93 : zJ s77 rS = zJ σ rS := (show zJ s77 rS = zJ σ rS from funext fun k => (hTo.k trS (by decide)).eJ hE (by decide) rfl)
    have z94 : zI s77 so 2 = zI σ so 2 ∧ zI s77 so 6 = zI σ so 6 ∧ zI s77 qP = zI σ qP ∧ zI s77 qO = zI σ qO := ⟨(hTo.k tso (by decide)).eI hE (by decide) rfl, (hTo.k tso (by decide)).eI hE (by decide) rfl, funext fun q9 => (hTo.k tqP (by decide)).eI hE (by decide) rfl, funext fun q9 => (hTo.k tqO (by decide)).eI hE (by decide) rfl⟩
    have z95 : zI s77 mm 7 = zI σ mm 7 ∧ zI s77 mm 8 = zI σ mm 8 ∧ zI s77 r5 = zI σ r5 ∧ zI s77 r6 = zI σ r6 := ⟨(hTo.k t_mm (by decide)).eI hE (by decide) rfl, (hTo.k t_mm (by decide)).eI hE (by decide) rfl, funext fun q9 => (hTo.k tr5 (by decide)).eI hE (by decide) rfl, funext fun q9 => (hTo.k tr6 (by decide)).eI hE (by decide) rfl⟩
    have a96 : (zI s77 mm 13).toInt = (zI σ mm 13).toInt := by rw [(hTo.k t_mm (by decide)).eI hE (by decide) rfl]
    refine lv_istore (lv' := [(5, .int r78), (4, .int i), (3, .ref out), (2, .ref mm), (1, .ref x), (0, .ref b)]) hx hb dL_law_1061 hl (by decide) rfl (fun ls hl => ?_)
    refine lv_aload_n hx hb dL_law_1063 rfl (lv_at hl 3 rfl) ?_
    refine lv_aload_n hx hb dL_law_1064 rfl (lv_at hl 5 rfl) ?_
    refine lv_iload hx hb dL_law_1065 (lv_at hl 1 rfl) ?_
    refine lv_iconst (v := 1) hx hb dL_law_1067 (by decide) ?_
    refine lv_iadd hx hb dL_law_1068 ?_
    refine g_add (by omega) (by omega) (fun t97 ht97 => ?_)
    refine va_sld hx hb hXs hbl hbA hT.2.2.2 (g_in (by omega) (by omega)) dL_law_1069 ?_
    refine ti y1 (by rw [hy1]; exact congrArg xs (show t97.toNatClampNeg = ix i + 1 from by show t97.toInt.toNat = ix i + 1; unfold ix; omega)) ?_
    refine lv_aload_n hx hb dL_law_1070 rfl (lv_at hl 5 rfl) ?_
    refine lv_iload hx hb dL_law_1071 (lv_at hl 1 rfl) ?_
    refine lv_iconst (v := 2) hx hb dL_law_1073 (by decide) ?_
    refine lv_iadd hx hb dL_law_1074 ?_
    refine g_add (by omega) (by omega) (fun t98 ht98 => ?_)
    refine va_sld hx hb hXs hbl hbA hT.2.2.2 (g_in (by omega) (by omega)) dL_law_1075 ?_
    refine ti y2 (by rw [hy2]; exact congrArg xs (show t98.toNatClampNeg = ix i + 2 from by show t98.toInt.toNat = ix i + 2; unfold ix; omega)) ?_
    refine lv_if_eq (tgt := 1083) hx hb dL_law_1076 (by decide) (fun c9 => ?_) (fun c9 => ?_)
    · have c7 := gi_eq c9
      refine lv_iconst (v := 0) hx hb dL_law_1083 (by decide) ?_
      have hTo := hT
      refine tVi (n := 2) (As := [.int y1, .int 0]) (rest := []) hx hb hml hown hg hT hK hX (X6_threshold l (kX κ) s77 mm y1 0 (hT.k t_mm (by decide)) isB0 R79) sub_gX_fA (mwV k1626 k1627 k1628 k92 k1629) ⟨rfl, by decide, by decide, by decide +kernel⟩ ⟨(Nat.le_of_ble_eq_true rfl), (Nat.le_of_ble_eq_true rfl)⟩ (hT.o20 (hT.k t_mm (by decide))) rfl rfl hl.1 rfl (Nat.le_of_ble_eq_true rfl) dL_law_1084 zx (fun r100 s99 H locs hφ hE hT => ?_)
      have f101 := hφ
      have a102 : (zI s99 tx 1).toInt = (zI s77 tx 1).toInt := by rw [(hTo.k ttx (by decide)).eI hE (by decide) rfl]
      have j103 : zI s99 rB = zI σ rB := ((show zI s99 rB = zI s77 rB from funext fun k => (hTo.k trB (by decide)).eI hE (by decide) rfl)).trans j81
      have j104 : zI s99 rT = zI σ rT := ((show zI s99 rT = zI s77 rT from funext fun k => (hTo.k trT (by decide)).eI hE (by decide) rfl)).trans j82
      have j105 : zI s99 rI = zI σ rI := ((show zI s99 rI = zI s77 rI from funext fun k => (hTo.k trI (by decide)).eI hE (by decide) rfl)).trans j83
      have j106 : zI s99 rK = zI σ rK := ((show zI s99 rK = zI s77 rK from funext fun k => (hTo.k trK (by decide)).eI hE (by decide) rfl)).trans j84
      have j107 : zI s99 tx 2 = zI σ tx 2 := ((hTo.k ttx (by decide)).eI hE (by decide) rfl).trans j85
      have j108 : zI s99 tx 3 = zI σ tx 3 := ((hTo.k ttx (by decide)).eI hE (by decide) rfl).trans j86
      have j109 : zI s99 mm 15 = zI σ mm 15 := ((hTo.k t_mm (by decide)).eI hE (by decide) rfl).trans j87
      have j110 : zI s99 mm 16 = zI σ mm 16 := ((hTo.k t_mm (by decide)).eI hE (by decide) rfl).trans j88
      have n111 : zI s99 nw 7 = zI s77 nw 7 ∧ zI s99 nw 8 = zI s77 nw 8 ∧ zI s99 nw 9 = zI s77 nw 9 := ⟨(hTo.k tnw (by decide)).eI hE (by decide) rfl, (hTo.k tnw (by decide)).eI hE (by decide) rfl, (hTo.k tnw (by decide)).eI hE (by decide) rfl⟩
      have n112 : zI s99 nw 7 = zI σ nw 7 ∧ zI s99 nw 8 = zI σ nw 8 ∧ zI s99 nw 9 = zI σ nw 9 := ⟨n111.1.trans n89.1, n111.2.1.trans n89.2.1, n111.2.2.trans n89.2.2⟩
      have n113 : zI s99 sl0 7 = zI s77 sl0 7 ∧ zI s99 sl0 8 = zI s77 sl0 8 ∧ zI s99 sl0 9 = zI s77 sl0 9 := ⟨(hTo.k tsl0 (by decide)).eI hE (by decide) rfl, (hTo.k tsl0 (by decide)).eI hE (by decide) rfl, (hTo.k tsl0 (by decide)).eI hE (by decide) rfl⟩
      have n114 : zI s99 sl0 7 = zI σ sl0 7 ∧ zI s99 sl0 8 = zI σ sl0 8 ∧ zI s99 sl0 9 = zI σ sl0 9 := ⟨n113.1.trans n90.1, n113.2.1.trans n90.2.1, n113.2.2.trans n90.2.2⟩
      have n115 : zI s99 sl1 7 = zI s77 sl1 7 ∧ zI s99 sl1 8 = zI s77 sl1 8 ∧ zI s99 sl1 9 = zI s77 sl1 9 := ⟨(hTo.k tsl1 (by decide)).eI hE (by decide) rfl, (hTo.k tsl1 (by decide)).eI hE (by decide) rfl, (hTo.k tsl1 (by decide)).eI hE (by decide) rfl⟩
      have n116 : zI s99 sl1 7 = zI σ sl1 7 ∧ zI s99 sl1 8 = zI σ sl1 8 ∧ zI s99 sl1 9 = zI σ sl1 9 := ⟨n115.1.trans n91.1, n115.2.1.trans n91.2.1, n115.2.2.trans n91.2.2⟩
      have n117 : ∀ j : Nat, j < 3 → zJ s99 rW j = zJ s77 rW j := fun j hj => (hTo.k trW (by decide)).eJ hE (by decide) (lt3_gX j hj)
      have n118 : ∀ j : Nat, j < 3 → zJ s99 rW j = zJ σ rW j := fun j hj => (n117 j hj).trans (n92 j hj)
      have n119 : zJ s99 rS = zJ σ rS := (show zJ s99 rS = zJ s77 rS from funext fun k => (hTo.k trS (by decide)).eJ hE (by decide) rfl).trans n93
      have z120 : zI s99 so 2 = zI s77 so 2 ∧ zI s99 so 6 = zI s77 so 6 ∧ zI s99 qP = zI s77 qP ∧ zI s99 qO = zI s77 qO := ⟨(hTo.k tso (by decide)).eI hE (by decide) rfl, (hTo.k tso (by decide)).eI hE (by decide) rfl, funext fun q9 => (hTo.k tqP (by decide)).eI hE (by decide) rfl, funext fun q9 => (hTo.k tqO (by decide)).eI hE (by decide) rfl⟩
      have z121 : zI s99 so 2 = zI σ so 2 ∧ zI s99 so 6 = zI σ so 6 ∧ zI s99 qP = zI σ qP ∧ zI s99 qO = zI σ qO := ⟨z120.1.trans z94.1, z120.2.1.trans z94.2.1, z120.2.2.1.trans z94.2.2.1, z120.2.2.2.trans z94.2.2.2⟩
      have z122 : zI s99 mm 7 = zI s77 mm 7 ∧ zI s99 mm 8 = zI s77 mm 8 ∧ zI s99 r5 = zI s77 r5 ∧ zI s99 r6 = zI s77 r6 := ⟨(hTo.k t_mm (by decide)).eI hE (by decide) rfl, (hTo.k t_mm (by decide)).eI hE (by decide) rfl, funext fun q9 => (hTo.k tr5 (by decide)).eI hE (by decide) rfl, funext fun q9 => (hTo.k tr6 (by decide)).eI hE (by decide) rfl⟩
      have z123 : zI s99 mm 7 = zI σ mm 7 ∧ zI s99 mm 8 = zI σ mm 8 ∧ zI s99 r5 = zI σ r5 ∧ zI s99 r6 = zI σ r6 := ⟨z122.1.trans z95.1, z122.2.1.trans z95.2.1, z122.2.2.1.trans z95.2.2.1, z122.2.2.2.trans z95.2.2.2⟩
      have a124 : (zI s99 mm 13).toInt = (zI s77 mm 13).toInt := by rw [(hTo.k t_mm (by decide)).eI hE (by decide) rfl]
      refine lv_istore (lv' := [(6, .int r100), (5, .int r78), (4, .int i), (3, .ref out), (2, .ref mm), (1, .ref x), (0, .ref b)]) hx hb dL_law_1087 hl (by decide) rfl (fun ls hl => ?_)
      refine lv_goto (tgt := 1432) hx hb dL_law_1089 (by decide) ?_
      have sl0f : zI s99 rI 0 ≠ 0 → SLT κ s99 x mm 0 := fun hq => (hsl 0 (by decide) (fun q9 => hq (by rw [erI] at q9; rw [j105]; exact q9))).tr (by rw [ers5, esl0]; exact n114) (fun j hj => by rw [erS, n119])
      have sl1f : zI s99 rI 1 ≠ 0 → SLT κ s99 x mm 1 := fun hq => (hsl 1 (by decide) (fun q9 => hq (by rw [erI] at q9; rw [j105]; exact q9))).tr (by rw [ers5, esl1]; exact n116) (fun j hj => by rw [erS, n119])
      exact KK s99 _ _ _ hT f101 ⟨by rw [etx]; omega, ⟨by rw [etx, erB, erT, j103, j104]; exact tal_less hal (by omega), by rw [erT, j104]; exact tnn_less hnn (by omega)⟩, ⟨by rw [etx, j107, j109]; exact hco, by rw [etx, j108, j110]; exact hpo⟩, fun i hi => by rw [erI, erK, j105, j106]; exact hkp i hi⟩ (⟨hnw.tr (by rw [enw]; exact n112) (by rw [erW]; exact n118), fun i hi => (show i = 0 ∨ i = 1 by omega).elim (fun e9 => by rw [e9, erI]; exact sl0f) (fun e9 => by rw [e9, erI]; exact sl1f)⟩) (hsm.tr (by rw [eso, eqP, eqO]; exact z121) (by rw [er5, er6]; exact z123)) (lv_sub hl [2, 3, 4, 5, 6] rfl)
    · have c7 := gi_ne c9
      refine lv_iconst (v := 1) hx hb dL_law_1079 (by decide) ?_
      refine lv_goto (tgt := 1084) hx hb dL_law_1080 (by decide) ?_
      have hTo := hT
      refine tVi (n := 2) (As := [.int y1, .int 1]) (rest := []) hx hb hml hown hg hT hK hX (X6_threshold l (kX κ) s77 mm y1 1 (hT.k t_mm (by decide)) isB1 R79) sub_gX_fA (mwV k1626 k1627 k1628 k92 k1629) ⟨rfl, by decide, by decide, by decide +kernel⟩ ⟨(Nat.le_of_ble_eq_true rfl), (Nat.le_of_ble_eq_true rfl)⟩ (hT.o20 (hT.k t_mm (by decide))) rfl rfl hl.1 rfl (Nat.le_of_ble_eq_true rfl) dL_law_1084 zx (fun r126 s125 H locs hφ hE hT => ?_)
      have f127 := hφ
      have a128 : (zI s125 tx 1).toInt = (zI s77 tx 1).toInt := by rw [(hTo.k ttx (by decide)).eI hE (by decide) rfl]
      have j129 : zI s125 rB = zI σ rB := ((show zI s125 rB = zI s77 rB from funext fun k => (hTo.k trB (by decide)).eI hE (by decide) rfl)).trans j81
      have j130 : zI s125 rT = zI σ rT := ((show zI s125 rT = zI s77 rT from funext fun k => (hTo.k trT (by decide)).eI hE (by decide) rfl)).trans j82
      have j131 : zI s125 rI = zI σ rI := ((show zI s125 rI = zI s77 rI from funext fun k => (hTo.k trI (by decide)).eI hE (by decide) rfl)).trans j83
      have j132 : zI s125 rK = zI σ rK := ((show zI s125 rK = zI s77 rK from funext fun k => (hTo.k trK (by decide)).eI hE (by decide) rfl)).trans j84
      have j133 : zI s125 tx 2 = zI σ tx 2 := ((hTo.k ttx (by decide)).eI hE (by decide) rfl).trans j85
      have j134 : zI s125 tx 3 = zI σ tx 3 := ((hTo.k ttx (by decide)).eI hE (by decide) rfl).trans j86
      have j135 : zI s125 mm 15 = zI σ mm 15 := ((hTo.k t_mm (by decide)).eI hE (by decide) rfl).trans j87
      have j136 : zI s125 mm 16 = zI σ mm 16 := ((hTo.k t_mm (by decide)).eI hE (by decide) rfl).trans j88
      have n137 : zI s125 nw 7 = zI s77 nw 7 ∧ zI s125 nw 8 = zI s77 nw 8 ∧ zI s125 nw 9 = zI s77 nw 9 := ⟨(hTo.k tnw (by decide)).eI hE (by decide) rfl, (hTo.k tnw (by decide)).eI hE (by decide) rfl, (hTo.k tnw (by decide)).eI hE (by decide) rfl⟩
      have n138 : zI s125 nw 7 = zI σ nw 7 ∧ zI s125 nw 8 = zI σ nw 8 ∧ zI s125 nw 9 = zI σ nw 9 := ⟨n137.1.trans n89.1, n137.2.1.trans n89.2.1, n137.2.2.trans n89.2.2⟩
      have n139 : zI s125 sl0 7 = zI s77 sl0 7 ∧ zI s125 sl0 8 = zI s77 sl0 8 ∧ zI s125 sl0 9 = zI s77 sl0 9 := ⟨(hTo.k tsl0 (by decide)).eI hE (by decide) rfl, (hTo.k tsl0 (by decide)).eI hE (by decide) rfl, (hTo.k tsl0 (by decide)).eI hE (by decide) rfl⟩
      have n140 : zI s125 sl0 7 = zI σ sl0 7 ∧ zI s125 sl0 8 = zI σ sl0 8 ∧ zI s125 sl0 9 = zI σ sl0 9 := ⟨n139.1.trans n90.1, n139.2.1.trans n90.2.1, n139.2.2.trans n90.2.2⟩
      have n141 : zI s125 sl1 7 = zI s77 sl1 7 ∧ zI s125 sl1 8 = zI s77 sl1 8 ∧ zI s125 sl1 9 = zI s77 sl1 9 := ⟨(hTo.k tsl1 (by decide)).eI hE (by decide) rfl, (hTo.k tsl1 (by decide)).eI hE (by decide) rfl, (hTo.k tsl1 (by decide)).eI hE (by decide) rfl⟩
      have n142 : zI s125 sl1 7 = zI σ sl1 7 ∧ zI s125 sl1 8 = zI σ sl1 8 ∧ zI s125 sl1 9 = zI σ sl1 9 := ⟨n141.1.trans n91.1, n141.2.1.trans n91.2.1, n141.2.2.trans n91.2.2⟩
      have n143 : ∀ j : Nat, j < 3 → zJ s125 rW j = zJ s77 rW j := fun j hj => (hTo.k trW (by decide)).eJ hE (by decide) (lt3_gX j hj)
      have n144 : ∀ j : Nat, j < 3 → zJ s125 rW j = zJ σ rW j := fun j hj => (n143 j hj).trans (n92 j hj)
      have n145 : zJ s125 rS = zJ σ rS := (show zJ s125 rS = zJ s77 rS from funext fun k => (hTo.k trS (by decide)).eJ hE (by decide) rfl).trans n93
      have z146 : zI s125 so 2 = zI s77 so 2 ∧ zI s125 so 6 = zI s77 so 6 ∧ zI s125 qP = zI s77 qP ∧ zI s125 qO = zI s77 qO := ⟨(hTo.k tso (by decide)).eI hE (by decide) rfl, (hTo.k tso (by decide)).eI hE (by decide) rfl, funext fun q9 => (hTo.k tqP (by decide)).eI hE (by decide) rfl, funext fun q9 => (hTo.k tqO (by decide)).eI hE (by decide) rfl⟩
      have z147 : zI s125 so 2 = zI σ so 2 ∧ zI s125 so 6 = zI σ so 6 ∧ zI s125 qP = zI σ qP ∧ zI s125 qO = zI σ qO := ⟨z146.1.trans z94.1, z146.2.1.trans z94.2.1, z146.2.2.1.trans z94.2.2.1, z146.2.2.2.trans z94.2.2.2⟩
      have z148 : zI s125 mm 7 = zI s77 mm 7 ∧ zI s125 mm 8 = zI s77 mm 8 ∧ zI s125 r5 = zI s77 r5 ∧ zI s125 r6 = zI s77 r6 := ⟨(hTo.k t_mm (by decide)).eI hE (by decide) rfl, (hTo.k t_mm (by decide)).eI hE (by decide) rfl, funext fun q9 => (hTo.k tr5 (by decide)).eI hE (by decide) rfl, funext fun q9 => (hTo.k tr6 (by decide)).eI hE (by decide) rfl⟩
      have z149 : zI s125 mm 7 = zI σ mm 7 ∧ zI s125 mm 8 = zI σ mm 8 ∧ zI s125 r5 = zI σ r5 ∧ zI s125 r6 = zI σ r6 := ⟨z148.1.trans z95.1, z148.2.1.trans z95.2.1, z148.2.2.1.trans z95.2.2.1, z148.2.2.2.trans z95.2.2.2⟩
      have a150 : (zI s125 mm 13).toInt = (zI s77 mm 13).toInt := by rw [(hTo.k t_mm (by decide)).eI hE (by decide) rfl]
      refine lv_istore (lv' := [(6, .int r126), (5, .int r78), (4, .int i), (3, .ref out), (2, .ref mm), (1, .ref x), (0, .ref b)]) hx hb dL_law_1087 hl (by decide) rfl (fun ls hl => ?_)
      refine lv_goto (tgt := 1432) hx hb dL_law_1089 (by decide) ?_
      have sl0f : zI s125 rI 0 ≠ 0 → SLT κ s125 x mm 0 := fun hq => (hsl 0 (by decide) (fun q9 => hq (by rw [erI] at q9; rw [j131]; exact q9))).tr (by rw [ers5, esl0]; exact n140) (fun j hj => by rw [erS, n145])
      have sl1f : zI s125 rI 1 ≠ 0 → SLT κ s125 x mm 1 := fun hq => (hsl 1 (by decide) (fun q9 => hq (by rw [erI] at q9; rw [j131]; exact q9))).tr (by rw [ers5, esl1]; exact n142) (fun j hj => by rw [erS, n145])
      exact KK s125 _ _ _ hT f127 ⟨by rw [etx]; omega, ⟨by rw [etx, erB, erT, j129, j130]; exact tal_less hal (by omega), by rw [erT, j130]; exact tnn_less hnn (by omega)⟩, ⟨by rw [etx, j133, j135]; exact hco, by rw [etx, j134, j136]; exact hpo⟩, fun i hi => by rw [erI, erK, j131, j132]; exact hkp i hi⟩ (⟨hnw.tr (by rw [enw]; exact n138) (by rw [erW]; exact n144), fun i hi => (show i = 0 ∨ i = 1 by omega).elim (fun e9 => by rw [e9, erI]; exact sl0f) (fun e9 => by rw [e9, erI]; exact sl1f)⟩) (hsm.tr (by rw [eso, eqP, eqO]; exact z147) (by rw [er5, er6]; exact z149)) (lv_sub hl [2, 3, 4, 5, 6] rfl)
set_option maxHeartbeats 4000000 in
set_option maxRecDepth 100000 in
theorem lc_30 (l : Launch) (κ : Kt) (σ0 : Gh) (x mm out b : Nat) (t_x : zk σ0 x 7) (t_mm : zk σ0 mm 20) (t_out : zk σ0 out 24) (ttx0 : zk σ0 (kR κ x 0) 6) (hdis : DIS κ x) (hlt : l.stackTraces = false) {p : Program} {e : Env} {s : State} {m : MethodId} {below : List Frame} {meth : Method} {c : Code} {L : Nat} {xs : Nat → Int32} {i : Int32} {Q9 : State → Prop} (hx : p.tables.exec = Jvm.exec) (hb : c.code = cL_law) (hml : c.maxLocals = 9) (hown : s.vm.findClass RL = some m.cls) (hg : ∀ w ∈ GW, w.before #[Value.ref b] s = true) (hK : va_K κ.1 vwCl (kTy κ) s) (hX : XY κ (tA σ0 s.heap.size) s s.heap) (hXs : va_X b L xs s s.heap) (hbl : b < s.heap.size) (hbA : ¬ tA σ0 s.heap.size b) (zx : zroomX κ s room_1 601024 7293034) (hi0 : 0 ≤ i.toInt) (hi1 : i.toInt + 6 ≤ L) (hL9 : L ≤ 3072) {σ : Gh} {H : Heap} {locs : List Loc} {ls : Array Slot} (hT : TS κ fA σ0 σ s H locs) (hR : RI κ σ mm) (hrel : LREL κ σ x mm) (hsr : SREL κ σ x mm) (hsm : SMP κ σ x mm) (hl : lv_has ls 9 [(4, .int i), (3, .ref out), (2, .ref mm), (1, .ref x), (0, .ref b)]) (KK : ∀ (σ1 : Gh) (H : Heap) (locs : List Loc) (ls : Array Slot), TS (kX κ) fA σ0 σ1 s H locs → RI (kX κ) σ1 mm → LREL κ σ1 x mm → SREL κ σ1 x mm → SMP κ σ1 x mm → lv_has ls 9 [(4, .int i), (3, .ref out), (2, .ref mm), (1, .ref x), (0, .ref b)] → W p l e room_1 s m #[Value.ref b] below meth c H locs 601024 7293034 Q9 (F0 m 1432 ls [])) : W p l e room_1 s m #[Value.ref b] below meth c H locs 601024 7293034 Q9 (F0 m 1092 ls []) := by
  obtain ⟨y1, hy1⟩ : ∃ z, z = xs (ix i + 1) := ⟨_, rfl⟩
  obtain ⟨y2, hy2⟩ : ∃ z, z = xs (ix i + 2) := ⟨_, rfl⟩
  obtain ⟨y3, hy3⟩ : ∃ z, z = xs (ix i + 3) := ⟨_, rfl⟩
  obtain ⟨y4, hy4⟩ : ∃ z, z = xs (ix i + 4) := ⟨_, rfl⟩
  obtain ⟨y5, hy5⟩ : ∃ z, z = xs (ix i + 5) := ⟨_, rfl⟩
  have n0 : (0 : Int32).toInt = 0 := by decide
  have n1 : (1 : Int32).toInt = 1 := by decide
  have n2 : (2 : Int32).toInt = 2 := by decide
  have n3 : (3 : Int32).toInt = 3 := by decide
  have n4 : (4 : Int32).toInt = 4 := by decide
  have n5 : (5 : Int32).toInt = 5 := by decide
  obtain ⟨tx, etx⟩ : ∃ z, kR κ x 0 = z := ⟨_, rfl⟩
  have ttx : zk σ0 tx 6 := by rw [← etx]; exact ttx0
  obtain ⟨rB, erB⟩ : ∃ z, kR κ tx 0 = z := ⟨_, rfl⟩
  have trB : zk σ0 rB 14 := by rw [← erB]; exact hT.kr (hT.ref (hT.k ttx (by decide)) (by decide) (by decide) (by decide)) (by decide) (by decide)
  obtain ⟨rT, erT⟩ : ∃ z, kR κ mm 12 = z := ⟨_, rfl⟩
  have trT : zk σ0 rT 23 := by rw [← erT]; exact hT.kr (hT.ref (hT.k t_mm (by decide)) (by decide) (by decide) (by decide)) (by decide) (by decide)
  obtain ⟨rI, erI⟩ : ∃ z, kR κ x 6 = z := ⟨_, rfl⟩
  have trI : zk σ0 rI 13 := by rw [← erI]; exact hT.kr (hT.ref (hT.k t_x (by decide)) (by decide) (by decide) (by decide)) (by decide) (by decide)
  obtain ⟨rK, erK⟩ : ∃ z, kR κ mm 4 = z := ⟨_, rfl⟩
  have trK : zk σ0 rK 29 := by rw [← erK]; exact hT.kr (hT.ref (hT.k t_mm (by decide)) (by decide) (by decide) (by decide)) (by decide) (by decide)
  obtain ⟨hlen, ⟨hal, hnn⟩, ⟨hco, hpo⟩, hkp⟩ := hrel
  rw [etx] at hlen hal hco hpo
  rw [erB, erT] at hal
  rw [erT] at hnn
  rw [erI, erK] at hkp
  have btx := (hT.P (hT.k ttx (by decide)) (by decide)).1
  have btxl := btx.1
  have btxh := btx.2
  obtain ⟨nw, enw⟩ : ∃ z, kR κ x 3 = z := ⟨_, rfl⟩
  have tnw : zk σ0 nw 3 := by rw [← enw]; exact hT.kr (hT.ref (hT.k t_x (by decide)) (by decide) (by decide) (by decide)) (by decide) (by decide)
  obtain ⟨tr, etr⟩ : ∃ z, kR κ x 4 = z := ⟨_, rfl⟩
  have ttr : zk σ0 tr 3 := by rw [← etr]; exact hT.kr (hT.ref (hT.k t_x (by decide)) (by decide) (by decide) (by decide)) (by decide) (by decide)
  obtain ⟨rs5, ers5⟩ : ∃ z, kR κ x 5 = z := ⟨_, rfl⟩
  have trs5 : zk σ0 rs5 12 := by rw [← ers5]; exact hT.kr (hT.ref (hT.k t_x (by decide)) (by decide) (by decide) (by decide)) (by decide) (by decide)
  obtain ⟨sl0, esl0⟩ : ∃ z, kR κ rs5 0 = z := ⟨_, rfl⟩
  have tsl0 : zk σ0 sl0 3 := by rw [← esl0]; exact hT.kr (hT.ref (hT.k trs5 (by decide)) (by decide) (by decide) (by decide)) (by decide) (by decide)
  obtain ⟨sl1, esl1⟩ : ∃ z, kR κ rs5 1 = z := ⟨_, rfl⟩
  have tsl1 : zk σ0 sl1 3 := by rw [← esl1]; exact hT.kr (hT.ref (hT.k trs5 (by decide)) (by decide) (by decide) (by decide)) (by decide) (by decide)
  obtain ⟨rW, erW⟩ : ∃ z, kR κ mm 1 = z := ⟨_, rfl⟩
  have trW : zk σ0 rW 21 := by rw [← erW]; exact hT.kr (hT.ref (hT.k t_mm (by decide)) (by decide) (by decide) (by decide)) (by decide) (by decide)
  obtain ⟨rS, erS⟩ : ∃ z, kR κ mm 3 = z := ⟨_, rfl⟩
  have trS : zk σ0 rS 22 := by rw [← erS]; exact hT.kr (hT.ref (hT.k t_mm (by decide)) (by decide) (by decide) (by decide)) (by decide) (by decide)
  obtain ⟨so, eso⟩ : ∃ z, kR κ x 1 = z := ⟨_, rfl⟩
  have tso : zk σ0 so 4 := by rw [← eso]; exact hT.kr (hT.ref (hT.k t_x (by decide)) (by decide) (by decide) (by decide)) (by decide) (by decide)
  obtain ⟨qP, eqP⟩ : ∃ z, kR κ so 0 = z := ⟨_, rfl⟩
  have tqP : zk σ0 qP 8 := by rw [← eqP]; exact hT.kr (hT.ref (hT.k tso (by decide)) (by decide) (by decide) (by decide)) (by decide) (by decide)
  obtain ⟨qO, eqO⟩ : ∃ z, kR κ so 1 = z := ⟨_, rfl⟩
  have tqO : zk σ0 qO 16 := by rw [← eqO]; exact hT.kr (hT.ref (hT.k tso (by decide)) (by decide) (by decide) (by decide)) (by decide) (by decide)
  obtain ⟨r5, er5⟩ : ∃ z, kR κ mm 5 = z := ⟨_, rfl⟩
  have tr5 : zk σ0 r5 25 := by rw [← er5]; exact hT.kr (hT.ref (hT.k t_mm (by decide)) (by decide) (by decide) (by decide)) (by decide) (by decide)
  obtain ⟨r6, er6⟩ : ∃ z, kR κ mm 6 = z := ⟨_, rfl⟩
  have tr6 : zk σ0 r6 26 := by rw [← er6]; exact hT.kr (hT.ref (hT.k t_mm (by decide)) (by decide) (by decide) (by decide)) (by decide) (by decide)
  obtain ⟨hnw, hsl⟩ := hsr
  obtain ⟨hd1, ⟨hd2, hd3⟩, hd4, hd5, hd6, hd7⟩ := hdis
  have d_nt : nw ≠ tr := by rw [← enw, ← etr]; exact hd2
  have d_n0 : nw ≠ sl0 := by rw [← enw, ← esl0, ← ers5]; exact hd3 0 (by decide)
  have d_t0 : sl0 ≠ tr := by rw [← etr, ← esl0, ← ers5]; exact fun q => hd4 0 (by decide) q.symm
  have d_n1 : nw ≠ sl1 := by rw [← enw, ← esl1, ← ers5]; exact hd3 1 (by decide)
  have d_t1 : sl1 ≠ tr := by rw [← etr, ← esl1, ← ers5]; exact fun q => hd4 1 (by decide) q.symm
  have d_01 : sl0 ≠ sl1 := by rw [← esl0, ← esl1, ← ers5]; exact hd5
  have knw : zk σ nw 3 := hT.k tnw (by decide)
  have ksl0 : zk σ sl0 3 := hT.k tsl0 (by decide)
  have ksl1 : zk σ sl1 3 := hT.k tsl1 (by decide)
  refine lv_aload_n hx hb dL_law_1092 rfl (lv_at hl 3 rfl) ?_
  refine lv_aload_n hx hb dL_law_1093 rfl (lv_at hl 4 rfl) ?_
  refine lv_iload hx hb dL_law_1094 (lv_at hl 0 rfl) ?_
  refine lv_iconst (v := 1) hx hb dL_law_1096 (by decide) ?_
  refine lv_iadd hx hb dL_law_1097 ?_
  refine g_add (by omega) (by omega) (fun t1 ht1 => ?_)
  refine va_sld hx hb hXs hbl hbA hT.2.2.2 (g_in (by omega) (by omega)) dL_law_1098 ?_
  refine ti y1 (by rw [hy1]; exact congrArg xs (show t1.toNatClampNeg = ix i + 1 from by show t1.toInt.toNat = ix i + 1; unfold ix; omega)) ?_
  refine lv_aload_n hx hb dL_law_1099 rfl (lv_at hl 1 rfl) ?_
  have hTo := hT
  refine tHi (n := 3) (As := [.ref x, .int y1, .ref out]) (rest := []) hx hb hml hown hg hT hK hX (L_quantize l κ σ x y1 out (hT.k t_x (by decide)) (hT.k t_out (by decide)) hlt) sub_hfW_fA (mwHS k1084 k1085 k83 k1086) ⟨by decide, by decide, by decide +kernel⟩ ⟨(Nat.le_of_ble_eq_true rfl), (Nat.le_of_ble_eq_true rfl)⟩ rfl hl.1 rfl (Nat.le_of_ble_eq_true rfl) dL_law_1100 zx (fun r3 s2 H locs hφ hE hT => ?_)
  have R4 := hR.ext hE ⟨rfl, rfl, fun _ => rfl, fun _ => rfl, fun _ => rfl, fun _ => rfl⟩
  have a5 : (zI s2 tx 1).toInt = (zI σ tx 1).toInt := by rw [(hTo.k ttx (by decide)).eI hE (by decide) rfl]
  have j6 : zI s2 rB = zI σ rB := (show zI s2 rB = zI σ rB from funext fun k => (hTo.k trB (by decide)).eI hE (by decide) rfl)
  have j7 : zI s2 rT = zI σ rT := (show zI s2 rT = zI σ rT from funext fun k => (hTo.k trT (by decide)).eI hE (by decide) rfl)
  have j8 : zI s2 rI = zI σ rI := (show zI s2 rI = zI σ rI from funext fun k => (hTo.k trI (by decide)).eI hE (by decide) rfl)
  have j9 : zI s2 rK = zI σ rK := (show zI s2 rK = zI σ rK from funext fun k => (hTo.k trK (by decide)).eI hE (by decide) rfl)
  have j10 : zI s2 tx 2 = zI σ tx 2 := (hTo.k ttx (by decide)).eI hE (by decide) rfl
  have j11 : zI s2 tx 3 = zI σ tx 3 := (hTo.k ttx (by decide)).eI hE (by decide) rfl
  have j12 : zI s2 mm 15 = zI σ mm 15 := (hTo.k t_mm (by decide)).eI hE (by decide) rfl
  have j13 : zI s2 mm 16 = zI σ mm 16 := (hTo.k t_mm (by decide)).eI hE (by decide) rfl
  have n14 : zI s2 nw 7 = zI σ nw 7 ∧ zI s2 nw 8 = zI σ nw 8 ∧ zI s2 nw 9 = zI σ nw 9 := ⟨(hTo.k tnw (by decide)).eI hE (by decide) rfl, (hTo.k tnw (by decide)).eI hE (by decide) rfl, (hTo.k tnw (by decide)).eI hE (by decide) rfl⟩
  have n15 : zI s2 sl0 7 = zI σ sl0 7 ∧ zI s2 sl0 8 = zI σ sl0 8 ∧ zI s2 sl0 9 = zI σ sl0 9 := ⟨(hTo.k tsl0 (by decide)).eI hE (by decide) rfl, (hTo.k tsl0 (by decide)).eI hE (by decide) rfl, (hTo.k tsl0 (by decide)).eI hE (by decide) rfl⟩
  have n16 : zI s2 sl1 7 = zI σ sl1 7 ∧ zI s2 sl1 8 = zI σ sl1 8 ∧ zI s2 sl1 9 = zI σ sl1 9 := ⟨(hTo.k tsl1 (by decide)).eI hE (by decide) rfl, (hTo.k tsl1 (by decide)).eI hE (by decide) rfl, (hTo.k tsl1 (by decide)).eI hE (by decide) rfl⟩
  have n17 : ∀ j : Nat, j < 3 → zJ s2 rW j = zJ σ rW j := fun j hj => (hTo.k trW (by decide)).eJ hE (by decide) rfl
  have n18 : zJ s2 rS = zJ σ rS := (show zJ s2 rS = zJ σ rS from funext fun k => (hTo.k trS (by decide)).eJ hE (by decide) rfl)
  have z19 : zI s2 so 2 = zI σ so 2 ∧ zI s2 so 6 = zI σ so 6 ∧ zI s2 qP = zI σ qP ∧ zI s2 qO = zI σ qO := ⟨(hTo.k tso (by decide)).eI hE (by decide) rfl, (hTo.k tso (by decide)).eI hE (by decide) rfl, funext fun q9 => (hTo.k tqP (by decide)).eI hE (by decide) rfl, funext fun q9 => (hTo.k tqO (by decide)).eI hE (by decide) rfl⟩
  have z20 : zI s2 mm 7 = zI σ mm 7 ∧ zI s2 mm 8 = zI σ mm 8 ∧ zI s2 r5 = zI σ r5 ∧ zI s2 r6 = zI σ r6 := ⟨(hTo.k t_mm (by decide)).eI hE (by decide) rfl, (hTo.k t_mm (by decide)).eI hE (by decide) rfl, funext fun q9 => (hTo.k tr5 (by decide)).eI hE (by decide) rfl, funext fun q9 => (hTo.k tr6 (by decide)).eI hE (by decide) rfl⟩
  have a21 : (zI s2 mm 13).toInt = (zI σ mm 13).toInt := by rw [(hTo.k t_mm (by decide)).eI hE (by decide) rfl]
  refine lv_istore (lv' := [(5, .int r3), (4, .int i), (3, .ref out), (2, .ref mm), (1, .ref x), (0, .ref b)]) hx hb dL_law_1103 hl (by decide) rfl (fun ls hl => ?_)
  refine lv_aload_n hx hb dL_law_1105 rfl (lv_at hl 3 rfl) ?_
  refine lv_aload_n hx hb dL_law_1106 rfl (lv_at hl 5 rfl) ?_
  refine lv_iload hx hb dL_law_1107 (lv_at hl 1 rfl) ?_
  refine lv_iconst (v := 1) hx hb dL_law_1109 (by decide) ?_
  refine lv_iadd hx hb dL_law_1110 ?_
  refine g_add (by omega) (by omega) (fun t22 ht22 => ?_)
  refine va_sld hx hb hXs hbl hbA hT.2.2.2 (g_in (by omega) (by omega)) dL_law_1111 ?_
  refine ti y1 (by rw [hy1]; exact congrArg xs (show t22.toNatClampNeg = ix i + 1 from by show t22.toInt.toNat = ix i + 1; unfold ix; omega)) ?_
  have hTo := hT
  refine tVl (n := 1) (As := [.int y1]) (rest := []) hx hb hml hown hg hT hK hX (X6_quantize l (kX κ) s2 mm y1 (hT.k t_mm (by decide)) R4) sub_gX_fA (mwV k1634 k1635 k1636 k92 k1637) ⟨rfl, by decide, by decide, by decide +kernel⟩ ⟨(Nat.le_of_ble_eq_true rfl), (Nat.le_of_ble_eq_true rfl)⟩ (hT.o20 (hT.k t_mm (by decide))) rfl rfl hl.1 rfl (Nat.le_of_ble_eq_true rfl) dL_law_1112 zx (fun r24 s23 H locs hφ hE hT => ?_)
  have f25 := hφ
  have a26 : (zI s23 tx 1).toInt = (zI s2 tx 1).toInt := by rw [(hTo.k ttx (by decide)).eI hE (by decide) rfl]
  have j27 : zI s23 rB = zI σ rB := ((show zI s23 rB = zI s2 rB from funext fun k => (hTo.k trB (by decide)).eI hE (by decide) rfl)).trans j6
  have j28 : zI s23 rT = zI σ rT := ((show zI s23 rT = zI s2 rT from funext fun k => (hTo.k trT (by decide)).eI hE (by decide) rfl)).trans j7
  have j29 : zI s23 rI = zI σ rI := ((show zI s23 rI = zI s2 rI from funext fun k => (hTo.k trI (by decide)).eI hE (by decide) rfl)).trans j8
  have j30 : zI s23 rK = zI σ rK := ((show zI s23 rK = zI s2 rK from funext fun k => (hTo.k trK (by decide)).eI hE (by decide) rfl)).trans j9
  have j31 : zI s23 tx 2 = zI σ tx 2 := ((hTo.k ttx (by decide)).eI hE (by decide) rfl).trans j10
  have j32 : zI s23 tx 3 = zI σ tx 3 := ((hTo.k ttx (by decide)).eI hE (by decide) rfl).trans j11
  have j33 : zI s23 mm 15 = zI σ mm 15 := ((hTo.k t_mm (by decide)).eI hE (by decide) rfl).trans j12
  have j34 : zI s23 mm 16 = zI σ mm 16 := ((hTo.k t_mm (by decide)).eI hE (by decide) rfl).trans j13
  have n35 : zI s23 nw 7 = zI s2 nw 7 ∧ zI s23 nw 8 = zI s2 nw 8 ∧ zI s23 nw 9 = zI s2 nw 9 := ⟨(hTo.k tnw (by decide)).eI hE (by decide) rfl, (hTo.k tnw (by decide)).eI hE (by decide) rfl, (hTo.k tnw (by decide)).eI hE (by decide) rfl⟩
  have n36 : zI s23 nw 7 = zI σ nw 7 ∧ zI s23 nw 8 = zI σ nw 8 ∧ zI s23 nw 9 = zI σ nw 9 := ⟨n35.1.trans n14.1, n35.2.1.trans n14.2.1, n35.2.2.trans n14.2.2⟩
  have n37 : zI s23 sl0 7 = zI s2 sl0 7 ∧ zI s23 sl0 8 = zI s2 sl0 8 ∧ zI s23 sl0 9 = zI s2 sl0 9 := ⟨(hTo.k tsl0 (by decide)).eI hE (by decide) rfl, (hTo.k tsl0 (by decide)).eI hE (by decide) rfl, (hTo.k tsl0 (by decide)).eI hE (by decide) rfl⟩
  have n38 : zI s23 sl0 7 = zI σ sl0 7 ∧ zI s23 sl0 8 = zI σ sl0 8 ∧ zI s23 sl0 9 = zI σ sl0 9 := ⟨n37.1.trans n15.1, n37.2.1.trans n15.2.1, n37.2.2.trans n15.2.2⟩
  have n39 : zI s23 sl1 7 = zI s2 sl1 7 ∧ zI s23 sl1 8 = zI s2 sl1 8 ∧ zI s23 sl1 9 = zI s2 sl1 9 := ⟨(hTo.k tsl1 (by decide)).eI hE (by decide) rfl, (hTo.k tsl1 (by decide)).eI hE (by decide) rfl, (hTo.k tsl1 (by decide)).eI hE (by decide) rfl⟩
  have n40 : zI s23 sl1 7 = zI σ sl1 7 ∧ zI s23 sl1 8 = zI σ sl1 8 ∧ zI s23 sl1 9 = zI σ sl1 9 := ⟨n39.1.trans n16.1, n39.2.1.trans n16.2.1, n39.2.2.trans n16.2.2⟩
  have n41 : ∀ j : Nat, j < 3 → zJ s23 rW j = zJ s2 rW j := fun j hj => (hTo.k trW (by decide)).eJ hE (by decide) (lt3_gX j hj)
  have n42 : ∀ j : Nat, j < 3 → zJ s23 rW j = zJ σ rW j := fun j hj => (n41 j hj).trans (n17 j hj)
  have n43 : zJ s23 rS = zJ σ rS := (show zJ s23 rS = zJ s2 rS from funext fun k => (hTo.k trS (by decide)).eJ hE (by decide) rfl).trans n18
  have z44 : zI s23 so 2 = zI s2 so 2 ∧ zI s23 so 6 = zI s2 so 6 ∧ zI s23 qP = zI s2 qP ∧ zI s23 qO = zI s2 qO := ⟨(hTo.k tso (by decide)).eI hE (by decide) rfl, (hTo.k tso (by decide)).eI hE (by decide) rfl, funext fun q9 => (hTo.k tqP (by decide)).eI hE (by decide) rfl, funext fun q9 => (hTo.k tqO (by decide)).eI hE (by decide) rfl⟩
  have z45 : zI s23 so 2 = zI σ so 2 ∧ zI s23 so 6 = zI σ so 6 ∧ zI s23 qP = zI σ qP ∧ zI s23 qO = zI σ qO := ⟨z44.1.trans z19.1, z44.2.1.trans z19.2.1, z44.2.2.1.trans z19.2.2.1, z44.2.2.2.trans z19.2.2.2⟩
  have z46 : zI s23 mm 7 = zI s2 mm 7 ∧ zI s23 mm 8 = zI s2 mm 8 ∧ zI s23 r5 = zI s2 r5 ∧ zI s23 r6 = zI s2 r6 := ⟨(hTo.k t_mm (by decide)).eI hE (by decide) rfl, (hTo.k t_mm (by decide)).eI hE (by decide) rfl, funext fun q9 => (hTo.k tr5 (by decide)).eI hE (by decide) rfl, funext fun q9 => (hTo.k tr6 (by decide)).eI hE (by decide) rfl⟩
  have z47 : zI s23 mm 7 = zI σ mm 7 ∧ zI s23 mm 8 = zI σ mm 8 ∧ zI s23 r5 = zI σ r5 ∧ zI s23 r6 = zI σ r6 := ⟨z46.1.trans z20.1, z46.2.1.trans z20.2.1, z46.2.2.1.trans z20.2.2.1, z46.2.2.2.trans z20.2.2.2⟩
  have a48 : (zI s23 mm 13).toInt = (zI s2 mm 13).toInt := by rw [(hTo.k t_mm (by decide)).eI hE (by decide) rfl]
  refine lv_lstore (lv' := [(6, .long r24), (5, .int r3), (4, .int i), (3, .ref out), (2, .ref mm), (1, .ref x), (0, .ref b)]) hx hb dL_law_1115 hl (by decide) rfl (fun ls hl => ?_)
  refine lv_goto (tgt := 1432) hx hb dL_law_1117 (by decide) ?_
  have sl0f : zI s23 rI 0 ≠ 0 → SLT κ s23 x mm 0 := fun hq => (hsl 0 (by decide) (fun q9 => hq (by rw [erI] at q9; rw [j29]; exact q9))).tr (by rw [ers5, esl0]; exact n38) (fun j hj => by rw [erS, n43])
  have sl1f : zI s23 rI 1 ≠ 0 → SLT κ s23 x mm 1 := fun hq => (hsl 1 (by decide) (fun q9 => hq (by rw [erI] at q9; rw [j29]; exact q9))).tr (by rw [ers5, esl1]; exact n40) (fun j hj => by rw [erS, n43])
  exact KK s23 _ _ _ hT f25 ⟨by rw [etx]; omega, ⟨by rw [etx, erB, erT, j27, j28]; exact tal_less hal (by omega), by rw [erT, j28]; exact tnn_less hnn (by omega)⟩, ⟨by rw [etx, j31, j33]; exact hco, by rw [etx, j32, j34]; exact hpo⟩, fun i hi => by rw [erI, erK, j29, j30]; exact hkp i hi⟩ (⟨hnw.tr (by rw [enw]; exact n36) (by rw [erW]; exact n42), fun i hi => (show i = 0 ∨ i = 1 by omega).elim (fun e9 => by rw [e9, erI]; exact sl0f) (fun e9 => by rw [e9, erI]; exact sl1f)⟩) (hsm.tr (by rw [eso, eqP, eqO]; exact z45) (by rw [er5, er6]; exact z47)) (lv_sub hl [2, 3, 4, 5, 6] rfl)
set_option maxHeartbeats 4000000 in
set_option maxRecDepth 100000 in
theorem lc_31 (l : Launch) (κ : Kt) (σ0 : Gh) (x mm out b : Nat) (t_x : zk σ0 x 7) (t_mm : zk σ0 mm 20) (t_out : zk σ0 out 24) (ttx0 : zk σ0 (kR κ x 0) 6) (hdis : DIS κ x) (hlt : l.stackTraces = false) {p : Program} {e : Env} {s : State} {m : MethodId} {below : List Frame} {meth : Method} {c : Code} {L : Nat} {xs : Nat → Int32} {i : Int32} {Q9 : State → Prop} (hx : p.tables.exec = Jvm.exec) (hb : c.code = cL_law) (hml : c.maxLocals = 9) (hown : s.vm.findClass RL = some m.cls) (hg : ∀ w ∈ GW, w.before #[Value.ref b] s = true) (hK : va_K κ.1 vwCl (kTy κ) s) (hX : XY κ (tA σ0 s.heap.size) s s.heap) (hXs : va_X b L xs s s.heap) (hbl : b < s.heap.size) (hbA : ¬ tA σ0 s.heap.size b) (zx : zroomX κ s room_1 601024 7293034) (hi0 : 0 ≤ i.toInt) (hi1 : i.toInt + 6 ≤ L) (hL9 : L ≤ 3072) {σ : Gh} {H : Heap} {locs : List Loc} {ls : Array Slot} (hT : TS κ fA σ0 σ s H locs) (hR : RI κ σ mm) (hrel : LREL κ σ x mm) (hsr : SREL κ σ x mm) (hsm : SMP κ σ x mm) (hl : lv_has ls 9 [(4, .int i), (3, .ref out), (2, .ref mm), (1, .ref x), (0, .ref b)]) (KK : ∀ (σ1 : Gh) (H : Heap) (locs : List Loc) (ls : Array Slot), TS (kX κ) fA σ0 σ1 s H locs → RI (kX κ) σ1 mm → LREL κ σ1 x mm → SREL κ σ1 x mm → SMP κ σ1 x mm → lv_has ls 9 [(4, .int i), (3, .ref out), (2, .ref mm), (1, .ref x), (0, .ref b)] → W p l e room_1 s m #[Value.ref b] below meth c H locs 601024 7293034 Q9 (F0 m 1432 ls [])) : W p l e room_1 s m #[Value.ref b] below meth c H locs 601024 7293034 Q9 (F0 m 1120 ls []) := by
  obtain ⟨y1, hy1⟩ : ∃ z, z = xs (ix i + 1) := ⟨_, rfl⟩
  obtain ⟨y2, hy2⟩ : ∃ z, z = xs (ix i + 2) := ⟨_, rfl⟩
  obtain ⟨y3, hy3⟩ : ∃ z, z = xs (ix i + 3) := ⟨_, rfl⟩
  obtain ⟨y4, hy4⟩ : ∃ z, z = xs (ix i + 4) := ⟨_, rfl⟩
  obtain ⟨y5, hy5⟩ : ∃ z, z = xs (ix i + 5) := ⟨_, rfl⟩
  have n0 : (0 : Int32).toInt = 0 := by decide
  have n1 : (1 : Int32).toInt = 1 := by decide
  have n2 : (2 : Int32).toInt = 2 := by decide
  have n3 : (3 : Int32).toInt = 3 := by decide
  have n4 : (4 : Int32).toInt = 4 := by decide
  have n5 : (5 : Int32).toInt = 5 := by decide
  obtain ⟨tx, etx⟩ : ∃ z, kR κ x 0 = z := ⟨_, rfl⟩
  have ttx : zk σ0 tx 6 := by rw [← etx]; exact ttx0
  obtain ⟨rB, erB⟩ : ∃ z, kR κ tx 0 = z := ⟨_, rfl⟩
  have trB : zk σ0 rB 14 := by rw [← erB]; exact hT.kr (hT.ref (hT.k ttx (by decide)) (by decide) (by decide) (by decide)) (by decide) (by decide)
  obtain ⟨rT, erT⟩ : ∃ z, kR κ mm 12 = z := ⟨_, rfl⟩
  have trT : zk σ0 rT 23 := by rw [← erT]; exact hT.kr (hT.ref (hT.k t_mm (by decide)) (by decide) (by decide) (by decide)) (by decide) (by decide)
  obtain ⟨rI, erI⟩ : ∃ z, kR κ x 6 = z := ⟨_, rfl⟩
  have trI : zk σ0 rI 13 := by rw [← erI]; exact hT.kr (hT.ref (hT.k t_x (by decide)) (by decide) (by decide) (by decide)) (by decide) (by decide)
  obtain ⟨rK, erK⟩ : ∃ z, kR κ mm 4 = z := ⟨_, rfl⟩
  have trK : zk σ0 rK 29 := by rw [← erK]; exact hT.kr (hT.ref (hT.k t_mm (by decide)) (by decide) (by decide) (by decide)) (by decide) (by decide)
  obtain ⟨hlen, ⟨hal, hnn⟩, ⟨hco, hpo⟩, hkp⟩ := hrel
  rw [etx] at hlen hal hco hpo
  rw [erB, erT] at hal
  rw [erT] at hnn
  rw [erI, erK] at hkp
  have btx := (hT.P (hT.k ttx (by decide)) (by decide)).1
  have btxl := btx.1
  have btxh := btx.2
  obtain ⟨nw, enw⟩ : ∃ z, kR κ x 3 = z := ⟨_, rfl⟩
  have tnw : zk σ0 nw 3 := by rw [← enw]; exact hT.kr (hT.ref (hT.k t_x (by decide)) (by decide) (by decide) (by decide)) (by decide) (by decide)
  obtain ⟨tr, etr⟩ : ∃ z, kR κ x 4 = z := ⟨_, rfl⟩
  have ttr : zk σ0 tr 3 := by rw [← etr]; exact hT.kr (hT.ref (hT.k t_x (by decide)) (by decide) (by decide) (by decide)) (by decide) (by decide)
  obtain ⟨rs5, ers5⟩ : ∃ z, kR κ x 5 = z := ⟨_, rfl⟩
  have trs5 : zk σ0 rs5 12 := by rw [← ers5]; exact hT.kr (hT.ref (hT.k t_x (by decide)) (by decide) (by decide) (by decide)) (by decide) (by decide)
  obtain ⟨sl0, esl0⟩ : ∃ z, kR κ rs5 0 = z := ⟨_, rfl⟩
  have tsl0 : zk σ0 sl0 3 := by rw [← esl0]; exact hT.kr (hT.ref (hT.k trs5 (by decide)) (by decide) (by decide) (by decide)) (by decide) (by decide)
  obtain ⟨sl1, esl1⟩ : ∃ z, kR κ rs5 1 = z := ⟨_, rfl⟩
  have tsl1 : zk σ0 sl1 3 := by rw [← esl1]; exact hT.kr (hT.ref (hT.k trs5 (by decide)) (by decide) (by decide) (by decide)) (by decide) (by decide)
  obtain ⟨rW, erW⟩ : ∃ z, kR κ mm 1 = z := ⟨_, rfl⟩
  have trW : zk σ0 rW 21 := by rw [← erW]; exact hT.kr (hT.ref (hT.k t_mm (by decide)) (by decide) (by decide) (by decide)) (by decide) (by decide)
  obtain ⟨rS, erS⟩ : ∃ z, kR κ mm 3 = z := ⟨_, rfl⟩
  have trS : zk σ0 rS 22 := by rw [← erS]; exact hT.kr (hT.ref (hT.k t_mm (by decide)) (by decide) (by decide) (by decide)) (by decide) (by decide)
  obtain ⟨so, eso⟩ : ∃ z, kR κ x 1 = z := ⟨_, rfl⟩
  have tso : zk σ0 so 4 := by rw [← eso]; exact hT.kr (hT.ref (hT.k t_x (by decide)) (by decide) (by decide) (by decide)) (by decide) (by decide)
  obtain ⟨qP, eqP⟩ : ∃ z, kR κ so 0 = z := ⟨_, rfl⟩
  have tqP : zk σ0 qP 8 := by rw [← eqP]; exact hT.kr (hT.ref (hT.k tso (by decide)) (by decide) (by decide) (by decide)) (by decide) (by decide)
  obtain ⟨qO, eqO⟩ : ∃ z, kR κ so 1 = z := ⟨_, rfl⟩
  have tqO : zk σ0 qO 16 := by rw [← eqO]; exact hT.kr (hT.ref (hT.k tso (by decide)) (by decide) (by decide) (by decide)) (by decide) (by decide)
  obtain ⟨r5, er5⟩ : ∃ z, kR κ mm 5 = z := ⟨_, rfl⟩
  have tr5 : zk σ0 r5 25 := by rw [← er5]; exact hT.kr (hT.ref (hT.k t_mm (by decide)) (by decide) (by decide) (by decide)) (by decide) (by decide)
  obtain ⟨r6, er6⟩ : ∃ z, kR κ mm 6 = z := ⟨_, rfl⟩
  have tr6 : zk σ0 r6 26 := by rw [← er6]; exact hT.kr (hT.ref (hT.k t_mm (by decide)) (by decide) (by decide) (by decide)) (by decide) (by decide)
  obtain ⟨hnw, hsl⟩ := hsr
  obtain ⟨hd1, ⟨hd2, hd3⟩, hd4, hd5, hd6, hd7⟩ := hdis
  have d_nt : nw ≠ tr := by rw [← enw, ← etr]; exact hd2
  have d_n0 : nw ≠ sl0 := by rw [← enw, ← esl0, ← ers5]; exact hd3 0 (by decide)
  have d_t0 : sl0 ≠ tr := by rw [← etr, ← esl0, ← ers5]; exact fun q => hd4 0 (by decide) q.symm
  have d_n1 : nw ≠ sl1 := by rw [← enw, ← esl1, ← ers5]; exact hd3 1 (by decide)
  have d_t1 : sl1 ≠ tr := by rw [← etr, ← esl1, ← ers5]; exact fun q => hd4 1 (by decide) q.symm
  have d_01 : sl0 ≠ sl1 := by rw [← esl0, ← esl1, ← ers5]; exact hd5
  have knw : zk σ nw 3 := hT.k tnw (by decide)
  have ksl0 : zk σ sl0 3 := hT.k tsl0 (by decide)
  have ksl1 : zk σ sl1 3 := hT.k tsl1 (by decide)
  refine lv_aload_n hx hb dL_law_1120 rfl (lv_at hl 3 rfl) ?_
  refine lv_aload_n hx hb dL_law_1121 rfl (lv_at hl 4 rfl) ?_
  refine lv_iload hx hb dL_law_1122 (lv_at hl 0 rfl) ?_
  refine lv_iconst (v := 1) hx hb dL_law_1124 (by decide) ?_
  refine lv_iadd hx hb dL_law_1125 ?_
  refine g_add (by omega) (by omega) (fun t1 ht1 => ?_)
  refine va_sld hx hb hXs hbl hbA hT.2.2.2 (g_in (by omega) (by omega)) dL_law_1126 ?_
  refine ti y1 (by rw [hy1]; exact congrArg xs (show t1.toNatClampNeg = ix i + 1 from by show t1.toInt.toNat = ix i + 1; unfold ix; omega)) ?_
  refine lv_aload_n hx hb dL_law_1127 rfl (lv_at hl 1 rfl) ?_
  have hTo := hT
  refine tHi (n := 3) (As := [.ref x, .int y1, .ref out]) (rest := []) hx hb hml hown hg hT hK hX (L_keepLargest l κ σ x y1 out (hT.k t_x (by decide)) (hT.k t_out (by decide)) hlt) sub_hfW_fA (mwHS k1100 k1101 k83 k1102) ⟨by decide, by decide, by decide +kernel⟩ ⟨(Nat.le_of_ble_eq_true rfl), (Nat.le_of_ble_eq_true rfl)⟩ rfl hl.1 rfl (Nat.le_of_ble_eq_true rfl) dL_law_1128 zx (fun r3 s2 H locs hφ hE hT => ?_)
  have R4 := hR.ext hE ⟨rfl, rfl, fun _ => rfl, fun _ => rfl, fun _ => rfl, fun _ => rfl⟩
  have a5 : (zI s2 tx 1).toInt = (zI σ tx 1).toInt := by rw [(hTo.k ttx (by decide)).eI hE (by decide) rfl]
  have j6 : zI s2 rB = zI σ rB := (show zI s2 rB = zI σ rB from funext fun k => (hTo.k trB (by decide)).eI hE (by decide) rfl)
  have j7 : zI s2 rT = zI σ rT := (show zI s2 rT = zI σ rT from funext fun k => (hTo.k trT (by decide)).eI hE (by decide) rfl)
  have j8 : zI s2 rI = zI σ rI := (show zI s2 rI = zI σ rI from funext fun k => (hTo.k trI (by decide)).eI hE (by decide) rfl)
  have j9 : zI s2 rK = zI σ rK := (show zI s2 rK = zI σ rK from funext fun k => (hTo.k trK (by decide)).eI hE (by decide) rfl)
  have j10 : zI s2 tx 2 = zI σ tx 2 := (hTo.k ttx (by decide)).eI hE (by decide) rfl
  have j11 : zI s2 tx 3 = zI σ tx 3 := (hTo.k ttx (by decide)).eI hE (by decide) rfl
  have j12 : zI s2 mm 15 = zI σ mm 15 := (hTo.k t_mm (by decide)).eI hE (by decide) rfl
  have j13 : zI s2 mm 16 = zI σ mm 16 := (hTo.k t_mm (by decide)).eI hE (by decide) rfl
  have n14 : zI s2 nw 7 = zI σ nw 7 ∧ zI s2 nw 8 = zI σ nw 8 ∧ zI s2 nw 9 = zI σ nw 9 := ⟨(hTo.k tnw (by decide)).eI hE (by decide) rfl, (hTo.k tnw (by decide)).eI hE (by decide) rfl, (hTo.k tnw (by decide)).eI hE (by decide) rfl⟩
  have n15 : zI s2 sl0 7 = zI σ sl0 7 ∧ zI s2 sl0 8 = zI σ sl0 8 ∧ zI s2 sl0 9 = zI σ sl0 9 := ⟨(hTo.k tsl0 (by decide)).eI hE (by decide) rfl, (hTo.k tsl0 (by decide)).eI hE (by decide) rfl, (hTo.k tsl0 (by decide)).eI hE (by decide) rfl⟩
  have n16 : zI s2 sl1 7 = zI σ sl1 7 ∧ zI s2 sl1 8 = zI σ sl1 8 ∧ zI s2 sl1 9 = zI σ sl1 9 := ⟨(hTo.k tsl1 (by decide)).eI hE (by decide) rfl, (hTo.k tsl1 (by decide)).eI hE (by decide) rfl, (hTo.k tsl1 (by decide)).eI hE (by decide) rfl⟩
  have n17 : ∀ j : Nat, j < 3 → zJ s2 rW j = zJ σ rW j := fun j hj => (hTo.k trW (by decide)).eJ hE (by decide) rfl
  have n18 : zJ s2 rS = zJ σ rS := (show zJ s2 rS = zJ σ rS from funext fun k => (hTo.k trS (by decide)).eJ hE (by decide) rfl)
  have z19 : zI s2 so 2 = zI σ so 2 ∧ zI s2 so 6 = zI σ so 6 ∧ zI s2 qP = zI σ qP ∧ zI s2 qO = zI σ qO := ⟨(hTo.k tso (by decide)).eI hE (by decide) rfl, (hTo.k tso (by decide)).eI hE (by decide) rfl, funext fun q9 => (hTo.k tqP (by decide)).eI hE (by decide) rfl, funext fun q9 => (hTo.k tqO (by decide)).eI hE (by decide) rfl⟩
  have z20 : zI s2 mm 7 = zI σ mm 7 ∧ zI s2 mm 8 = zI σ mm 8 ∧ zI s2 r5 = zI σ r5 ∧ zI s2 r6 = zI σ r6 := ⟨(hTo.k t_mm (by decide)).eI hE (by decide) rfl, (hTo.k t_mm (by decide)).eI hE (by decide) rfl, funext fun q9 => (hTo.k tr5 (by decide)).eI hE (by decide) rfl, funext fun q9 => (hTo.k tr6 (by decide)).eI hE (by decide) rfl⟩
  have a21 : (zI s2 mm 13).toInt = (zI σ mm 13).toInt := by rw [(hTo.k t_mm (by decide)).eI hE (by decide) rfl]
  refine lv_istore (lv' := [(5, .int r3), (4, .int i), (3, .ref out), (2, .ref mm), (1, .ref x), (0, .ref b)]) hx hb dL_law_1131 hl (by decide) rfl (fun ls hl => ?_)
  refine lv_aload_n hx hb dL_law_1133 rfl (lv_at hl 3 rfl) ?_
  refine lv_aload_n hx hb dL_law_1134 rfl (lv_at hl 5 rfl) ?_
  refine lv_iload hx hb dL_law_1135 (lv_at hl 1 rfl) ?_
  refine lv_iconst (v := 1) hx hb dL_law_1137 (by decide) ?_
  refine lv_iadd hx hb dL_law_1138 ?_
  refine g_add (by omega) (by omega) (fun t22 ht22 => ?_)
  refine va_sld hx hb hXs hbl hbA hT.2.2.2 (g_in (by omega) (by omega)) dL_law_1139 ?_
  refine ti y1 (by rw [hy1]; exact congrArg xs (show t22.toNatClampNeg = ix i + 1 from by show t22.toInt.toNat = ix i + 1; unfold ix; omega)) ?_
  have hTo := hT
  refine tVl (n := 1) (As := [.int y1]) (rest := []) hx hb hml hown hg hT hK hX (X6_keepLargest l (kX κ) s2 mm y1 (hT.k t_mm (by decide)) R4) sub_gZ_fA (mwV k1638 k1639 k1640 k92 k1641) ⟨rfl, by decide, by decide, by decide +kernel⟩ ⟨(Nat.le_of_ble_eq_true rfl), (Nat.le_of_ble_eq_true rfl)⟩ (hT.o20 (hT.k t_mm (by decide))) rfl rfl hl.1 rfl (Nat.le_of_ble_eq_true rfl) dL_law_1140 zx (fun r24 s23 H locs hφ hE hT => ?_)
  have f25 := hφ
  have a26 : (zI s23 tx 1).toInt = (zI s2 tx 1).toInt := by rw [(hTo.k ttx (by decide)).eI hE (by decide) rfl]
  have j27 : zI s23 rB = zI σ rB := ((show zI s23 rB = zI s2 rB from funext fun k => (hTo.k trB (by decide)).eI hE (by decide) rfl)).trans j6
  have j28 : zI s23 rT = zI σ rT := ((show zI s23 rT = zI s2 rT from funext fun k => (hTo.k trT (by decide)).eI hE (by decide) rfl)).trans j7
  have j29 : zI s23 rI = zI σ rI := ((show zI s23 rI = zI s2 rI from funext fun k => (hTo.k trI (by decide)).eI hE (by decide) rfl)).trans j8
  have j30 : zI s23 rK = zI σ rK := ((show zI s23 rK = zI s2 rK from funext fun k => (hTo.k trK (by decide)).eI hE (by decide) rfl)).trans j9
  have j31 : zI s23 tx 2 = zI σ tx 2 := ((hTo.k ttx (by decide)).eI hE (by decide) rfl).trans j10
  have j32 : zI s23 tx 3 = zI σ tx 3 := ((hTo.k ttx (by decide)).eI hE (by decide) rfl).trans j11
  have j33 : zI s23 mm 15 = zI σ mm 15 := ((hTo.k t_mm (by decide)).eI hE (by decide) rfl).trans j12
  have j34 : zI s23 mm 16 = zI σ mm 16 := ((hTo.k t_mm (by decide)).eI hE (by decide) rfl).trans j13
  have n35 : zI s23 nw 7 = zI s2 nw 7 ∧ zI s23 nw 8 = zI s2 nw 8 ∧ zI s23 nw 9 = zI s2 nw 9 := ⟨(hTo.k tnw (by decide)).eI hE (by decide) rfl, (hTo.k tnw (by decide)).eI hE (by decide) rfl, (hTo.k tnw (by decide)).eI hE (by decide) rfl⟩
  have n36 : zI s23 nw 7 = zI σ nw 7 ∧ zI s23 nw 8 = zI σ nw 8 ∧ zI s23 nw 9 = zI σ nw 9 := ⟨n35.1.trans n14.1, n35.2.1.trans n14.2.1, n35.2.2.trans n14.2.2⟩
  have n37 : zI s23 sl0 7 = zI s2 sl0 7 ∧ zI s23 sl0 8 = zI s2 sl0 8 ∧ zI s23 sl0 9 = zI s2 sl0 9 := ⟨(hTo.k tsl0 (by decide)).eI hE (by decide) rfl, (hTo.k tsl0 (by decide)).eI hE (by decide) rfl, (hTo.k tsl0 (by decide)).eI hE (by decide) rfl⟩
  have n38 : zI s23 sl0 7 = zI σ sl0 7 ∧ zI s23 sl0 8 = zI σ sl0 8 ∧ zI s23 sl0 9 = zI σ sl0 9 := ⟨n37.1.trans n15.1, n37.2.1.trans n15.2.1, n37.2.2.trans n15.2.2⟩
  have n39 : zI s23 sl1 7 = zI s2 sl1 7 ∧ zI s23 sl1 8 = zI s2 sl1 8 ∧ zI s23 sl1 9 = zI s2 sl1 9 := ⟨(hTo.k tsl1 (by decide)).eI hE (by decide) rfl, (hTo.k tsl1 (by decide)).eI hE (by decide) rfl, (hTo.k tsl1 (by decide)).eI hE (by decide) rfl⟩
  have n40 : zI s23 sl1 7 = zI σ sl1 7 ∧ zI s23 sl1 8 = zI σ sl1 8 ∧ zI s23 sl1 9 = zI σ sl1 9 := ⟨n39.1.trans n16.1, n39.2.1.trans n16.2.1, n39.2.2.trans n16.2.2⟩
  have n41 : ∀ j : Nat, j < 3 → zJ s23 rW j = zJ s2 rW j := fun j hj => (hTo.k trW (by decide)).eJ hE (by decide) (lt3_gZ j hj)
  have n42 : ∀ j : Nat, j < 3 → zJ s23 rW j = zJ σ rW j := fun j hj => (n41 j hj).trans (n17 j hj)
  have n43 : zJ s23 rS = zJ σ rS := (show zJ s23 rS = zJ s2 rS from funext fun k => (hTo.k trS (by decide)).eJ hE (by decide) rfl).trans n18
  have z44 : zI s23 so 2 = zI s2 so 2 ∧ zI s23 so 6 = zI s2 so 6 ∧ zI s23 qP = zI s2 qP ∧ zI s23 qO = zI s2 qO := ⟨(hTo.k tso (by decide)).eI hE (by decide) rfl, (hTo.k tso (by decide)).eI hE (by decide) rfl, funext fun q9 => (hTo.k tqP (by decide)).eI hE (by decide) rfl, funext fun q9 => (hTo.k tqO (by decide)).eI hE (by decide) rfl⟩
  have z45 : zI s23 so 2 = zI σ so 2 ∧ zI s23 so 6 = zI σ so 6 ∧ zI s23 qP = zI σ qP ∧ zI s23 qO = zI σ qO := ⟨z44.1.trans z19.1, z44.2.1.trans z19.2.1, z44.2.2.1.trans z19.2.2.1, z44.2.2.2.trans z19.2.2.2⟩
  have z46 : zI s23 mm 7 = zI s2 mm 7 ∧ zI s23 mm 8 = zI s2 mm 8 ∧ zI s23 r5 = zI s2 r5 ∧ zI s23 r6 = zI s2 r6 := ⟨(hTo.k t_mm (by decide)).eI hE (by decide) rfl, (hTo.k t_mm (by decide)).eI hE (by decide) rfl, funext fun q9 => (hTo.k tr5 (by decide)).eI hE (by decide) rfl, funext fun q9 => (hTo.k tr6 (by decide)).eI hE (by decide) rfl⟩
  have z47 : zI s23 mm 7 = zI σ mm 7 ∧ zI s23 mm 8 = zI σ mm 8 ∧ zI s23 r5 = zI σ r5 ∧ zI s23 r6 = zI σ r6 := ⟨z46.1.trans z20.1, z46.2.1.trans z20.2.1, z46.2.2.1.trans z20.2.2.1, z46.2.2.2.trans z20.2.2.2⟩
  have a48 : (zI s23 mm 13).toInt = (zI s2 mm 13).toInt := by rw [(hTo.k t_mm (by decide)).eI hE (by decide) rfl]
  refine lv_lstore (lv' := [(6, .long r24), (5, .int r3), (4, .int i), (3, .ref out), (2, .ref mm), (1, .ref x), (0, .ref b)]) hx hb dL_law_1143 hl (by decide) rfl (fun ls hl => ?_)
  refine lv_goto (tgt := 1432) hx hb dL_law_1145 (by decide) ?_
  have sl0f : zI s23 rI 0 ≠ 0 → SLT κ s23 x mm 0 := fun hq => (hsl 0 (by decide) (fun q9 => hq (by rw [erI] at q9; rw [j29]; exact q9))).tr (by rw [ers5, esl0]; exact n38) (fun j hj => by rw [erS, n43])
  have sl1f : zI s23 rI 1 ≠ 0 → SLT κ s23 x mm 1 := fun hq => (hsl 1 (by decide) (fun q9 => hq (by rw [erI] at q9; rw [j29]; exact q9))).tr (by rw [ers5, esl1]; exact n40) (fun j hj => by rw [erS, n43])
  exact KK s23 _ _ _ hT f25 ⟨by rw [etx]; omega, ⟨by rw [etx, erB, erT, j27, j28]; exact tal_less hal (by omega), by rw [erT, j28]; exact tnn_less hnn (by omega)⟩, ⟨by rw [etx, j31, j33]; exact hco, by rw [etx, j32, j34]; exact hpo⟩, fun i hi => by rw [erI, erK, j29, j30]; exact hkp i hi⟩ (⟨hnw.tr (by rw [enw]; exact n36) (by rw [erW]; exact n42), fun i hi => (show i = 0 ∨ i = 1 by omega).elim (fun e9 => by rw [e9, erI]; exact sl0f) (fun e9 => by rw [e9, erI]; exact sl1f)⟩) (hsm.tr (by rw [eso, eqP, eqO]; exact z45) (by rw [er5, er6]; exact z47)) (lv_sub hl [2, 3, 4, 5, 6] rfl)
set_option maxHeartbeats 4000000 in
set_option maxRecDepth 100000 in
theorem lc_32 (l : Launch) (κ : Kt) (σ0 : Gh) (x mm out b : Nat) (t_x : zk σ0 x 7) (t_mm : zk σ0 mm 20) (t_out : zk σ0 out 24) (ttx0 : zk σ0 (kR κ x 0) 6) (hdis : DIS κ x) (hlt : l.stackTraces = false) {p : Program} {e : Env} {s : State} {m : MethodId} {below : List Frame} {meth : Method} {c : Code} {L : Nat} {xs : Nat → Int32} {i : Int32} {Q9 : State → Prop} (hx : p.tables.exec = Jvm.exec) (hb : c.code = cL_law) (hml : c.maxLocals = 9) (hown : s.vm.findClass RL = some m.cls) (hg : ∀ w ∈ GW, w.before #[Value.ref b] s = true) (hK : va_K κ.1 vwCl (kTy κ) s) (hX : XY κ (tA σ0 s.heap.size) s s.heap) (hXs : va_X b L xs s s.heap) (hbl : b < s.heap.size) (hbA : ¬ tA σ0 s.heap.size b) (zx : zroomX κ s room_1 601024 7293034) (hi0 : 0 ≤ i.toInt) (hi1 : i.toInt + 6 ≤ L) (hL9 : L ≤ 3072) {σ : Gh} {H : Heap} {locs : List Loc} {ls : Array Slot} (hT : TS κ fA σ0 σ s H locs) (hR : RI κ σ mm) (hrel : LREL κ σ x mm) (hsr : SREL κ σ x mm) (hsm : SMP κ σ x mm) (hl : lv_has ls 9 [(4, .int i), (3, .ref out), (2, .ref mm), (1, .ref x), (0, .ref b)]) (KK : ∀ (σ1 : Gh) (H : Heap) (locs : List Loc) (ls : Array Slot), TS (kX κ) fA σ0 σ1 s H locs → RI (kX κ) σ1 mm → LREL κ σ1 x mm → SREL κ σ1 x mm → SMP κ σ1 x mm → lv_has ls 9 [(4, .int i), (3, .ref out), (2, .ref mm), (1, .ref x), (0, .ref b)] → W p l e room_1 s m #[Value.ref b] below meth c H locs 601024 7293034 Q9 (F0 m 1432 ls [])) : W p l e room_1 s m #[Value.ref b] below meth c H locs 601024 7293034 Q9 (F0 m 1148 ls []) := by
  obtain ⟨y1, hy1⟩ : ∃ z, z = xs (ix i + 1) := ⟨_, rfl⟩
  obtain ⟨y2, hy2⟩ : ∃ z, z = xs (ix i + 2) := ⟨_, rfl⟩
  obtain ⟨y3, hy3⟩ : ∃ z, z = xs (ix i + 3) := ⟨_, rfl⟩
  obtain ⟨y4, hy4⟩ : ∃ z, z = xs (ix i + 4) := ⟨_, rfl⟩
  obtain ⟨y5, hy5⟩ : ∃ z, z = xs (ix i + 5) := ⟨_, rfl⟩
  have n0 : (0 : Int32).toInt = 0 := by decide
  have n1 : (1 : Int32).toInt = 1 := by decide
  have n2 : (2 : Int32).toInt = 2 := by decide
  have n3 : (3 : Int32).toInt = 3 := by decide
  have n4 : (4 : Int32).toInt = 4 := by decide
  have n5 : (5 : Int32).toInt = 5 := by decide
  obtain ⟨tx, etx⟩ : ∃ z, kR κ x 0 = z := ⟨_, rfl⟩
  have ttx : zk σ0 tx 6 := by rw [← etx]; exact ttx0
  obtain ⟨rB, erB⟩ : ∃ z, kR κ tx 0 = z := ⟨_, rfl⟩
  have trB : zk σ0 rB 14 := by rw [← erB]; exact hT.kr (hT.ref (hT.k ttx (by decide)) (by decide) (by decide) (by decide)) (by decide) (by decide)
  obtain ⟨rT, erT⟩ : ∃ z, kR κ mm 12 = z := ⟨_, rfl⟩
  have trT : zk σ0 rT 23 := by rw [← erT]; exact hT.kr (hT.ref (hT.k t_mm (by decide)) (by decide) (by decide) (by decide)) (by decide) (by decide)
  obtain ⟨rI, erI⟩ : ∃ z, kR κ x 6 = z := ⟨_, rfl⟩
  have trI : zk σ0 rI 13 := by rw [← erI]; exact hT.kr (hT.ref (hT.k t_x (by decide)) (by decide) (by decide) (by decide)) (by decide) (by decide)
  obtain ⟨rK, erK⟩ : ∃ z, kR κ mm 4 = z := ⟨_, rfl⟩
  have trK : zk σ0 rK 29 := by rw [← erK]; exact hT.kr (hT.ref (hT.k t_mm (by decide)) (by decide) (by decide) (by decide)) (by decide) (by decide)
  obtain ⟨hlen, ⟨hal, hnn⟩, ⟨hco, hpo⟩, hkp⟩ := hrel
  rw [etx] at hlen hal hco hpo
  rw [erB, erT] at hal
  rw [erT] at hnn
  rw [erI, erK] at hkp
  have btx := (hT.P (hT.k ttx (by decide)) (by decide)).1
  have btxl := btx.1
  have btxh := btx.2
  obtain ⟨nw, enw⟩ : ∃ z, kR κ x 3 = z := ⟨_, rfl⟩
  have tnw : zk σ0 nw 3 := by rw [← enw]; exact hT.kr (hT.ref (hT.k t_x (by decide)) (by decide) (by decide) (by decide)) (by decide) (by decide)
  obtain ⟨tr, etr⟩ : ∃ z, kR κ x 4 = z := ⟨_, rfl⟩
  have ttr : zk σ0 tr 3 := by rw [← etr]; exact hT.kr (hT.ref (hT.k t_x (by decide)) (by decide) (by decide) (by decide)) (by decide) (by decide)
  obtain ⟨rs5, ers5⟩ : ∃ z, kR κ x 5 = z := ⟨_, rfl⟩
  have trs5 : zk σ0 rs5 12 := by rw [← ers5]; exact hT.kr (hT.ref (hT.k t_x (by decide)) (by decide) (by decide) (by decide)) (by decide) (by decide)
  obtain ⟨sl0, esl0⟩ : ∃ z, kR κ rs5 0 = z := ⟨_, rfl⟩
  have tsl0 : zk σ0 sl0 3 := by rw [← esl0]; exact hT.kr (hT.ref (hT.k trs5 (by decide)) (by decide) (by decide) (by decide)) (by decide) (by decide)
  obtain ⟨sl1, esl1⟩ : ∃ z, kR κ rs5 1 = z := ⟨_, rfl⟩
  have tsl1 : zk σ0 sl1 3 := by rw [← esl1]; exact hT.kr (hT.ref (hT.k trs5 (by decide)) (by decide) (by decide) (by decide)) (by decide) (by decide)
  obtain ⟨rW, erW⟩ : ∃ z, kR κ mm 1 = z := ⟨_, rfl⟩
  have trW : zk σ0 rW 21 := by rw [← erW]; exact hT.kr (hT.ref (hT.k t_mm (by decide)) (by decide) (by decide) (by decide)) (by decide) (by decide)
  obtain ⟨rS, erS⟩ : ∃ z, kR κ mm 3 = z := ⟨_, rfl⟩
  have trS : zk σ0 rS 22 := by rw [← erS]; exact hT.kr (hT.ref (hT.k t_mm (by decide)) (by decide) (by decide) (by decide)) (by decide) (by decide)
  obtain ⟨so, eso⟩ : ∃ z, kR κ x 1 = z := ⟨_, rfl⟩
  have tso : zk σ0 so 4 := by rw [← eso]; exact hT.kr (hT.ref (hT.k t_x (by decide)) (by decide) (by decide) (by decide)) (by decide) (by decide)
  obtain ⟨qP, eqP⟩ : ∃ z, kR κ so 0 = z := ⟨_, rfl⟩
  have tqP : zk σ0 qP 8 := by rw [← eqP]; exact hT.kr (hT.ref (hT.k tso (by decide)) (by decide) (by decide) (by decide)) (by decide) (by decide)
  obtain ⟨qO, eqO⟩ : ∃ z, kR κ so 1 = z := ⟨_, rfl⟩
  have tqO : zk σ0 qO 16 := by rw [← eqO]; exact hT.kr (hT.ref (hT.k tso (by decide)) (by decide) (by decide) (by decide)) (by decide) (by decide)
  obtain ⟨r5, er5⟩ : ∃ z, kR κ mm 5 = z := ⟨_, rfl⟩
  have tr5 : zk σ0 r5 25 := by rw [← er5]; exact hT.kr (hT.ref (hT.k t_mm (by decide)) (by decide) (by decide) (by decide)) (by decide) (by decide)
  obtain ⟨r6, er6⟩ : ∃ z, kR κ mm 6 = z := ⟨_, rfl⟩
  have tr6 : zk σ0 r6 26 := by rw [← er6]; exact hT.kr (hT.ref (hT.k t_mm (by decide)) (by decide) (by decide) (by decide)) (by decide) (by decide)
  obtain ⟨hnw, hsl⟩ := hsr
  obtain ⟨hd1, ⟨hd2, hd3⟩, hd4, hd5, hd6, hd7⟩ := hdis
  have d_nt : nw ≠ tr := by rw [← enw, ← etr]; exact hd2
  have d_n0 : nw ≠ sl0 := by rw [← enw, ← esl0, ← ers5]; exact hd3 0 (by decide)
  have d_t0 : sl0 ≠ tr := by rw [← etr, ← esl0, ← ers5]; exact fun q => hd4 0 (by decide) q.symm
  have d_n1 : nw ≠ sl1 := by rw [← enw, ← esl1, ← ers5]; exact hd3 1 (by decide)
  have d_t1 : sl1 ≠ tr := by rw [← etr, ← esl1, ← ers5]; exact fun q => hd4 1 (by decide) q.symm
  have d_01 : sl0 ≠ sl1 := by rw [← esl0, ← esl1, ← ers5]; exact hd5
  have knw : zk σ nw 3 := hT.k tnw (by decide)
  have ksl0 : zk σ sl0 3 := hT.k tsl0 (by decide)
  have ksl1 : zk σ sl1 3 := hT.k tsl1 (by decide)
  refine lv_aload_n hx hb dL_law_1148 rfl (lv_at hl 3 rfl) ?_
  refine lv_aload_n hx hb dL_law_1149 rfl (lv_at hl 4 rfl) ?_
  refine lv_iload hx hb dL_law_1150 (lv_at hl 0 rfl) ?_
  refine lv_iconst (v := 1) hx hb dL_law_1152 (by decide) ?_
  refine lv_iadd hx hb dL_law_1153 ?_
  refine g_add (by omega) (by omega) (fun t1 ht1 => ?_)
  refine va_sld hx hb hXs hbl hbA hT.2.2.2 (g_in (by omega) (by omega)) dL_law_1154 ?_
  refine ti y1 (by rw [hy1]; exact congrArg xs (show t1.toNatClampNeg = ix i + 1 from by show t1.toInt.toNat = ix i + 1; unfold ix; omega)) ?_
  refine lv_aload_n hx hb dL_law_1155 rfl (lv_at hl 1 rfl) ?_
  have hTo := hT
  refine tHi (n := 3) (As := [.ref x, .int y1, .ref out]) (rest := []) hx hb hml hown hg hT hK hX (L_error l κ σ x y1 out (hT.k t_x (by decide)) (hT.k t_out (by decide)) hlt) sub_hfCp_fA (mwHS k1116 k1117 k83 k1118) ⟨by decide, by decide, by decide +kernel⟩ ⟨(Nat.le_of_ble_eq_true rfl), (Nat.le_of_ble_eq_true rfl)⟩ rfl hl.1 rfl (Nat.le_of_ble_eq_true rfl) dL_law_1156 zx (fun r3 s2 H locs hφ hE hT => ?_)
  have f4 := hφ
  have R5 := hR.ext hE ⟨rfl, rfl, fun _ => rfl, fun _ => rfl, fun _ => rfl, fun _ => rfl⟩
  have a6 : (zI s2 tx 1).toInt = (zI σ tx 1).toInt := by rw [(hTo.k ttx (by decide)).eI hE (by decide) rfl]
  have j7 : zI s2 rB = zI σ rB := (show zI s2 rB = zI σ rB from funext fun k => (hTo.k trB (by decide)).eI hE (by decide) rfl)
  have j8 : zI s2 rT = zI σ rT := (show zI s2 rT = zI σ rT from funext fun k => (hTo.k trT (by decide)).eI hE (by decide) rfl)
  have j9 : zI s2 rI = zI σ rI := (show zI s2 rI = zI σ rI from funext fun k => (hTo.k trI (by decide)).eI hE (by decide) rfl)
  have j10 : zI s2 rK = zI σ rK := (show zI s2 rK = zI σ rK from funext fun k => (hTo.k trK (by decide)).eI hE (by decide) rfl)
  have j11 : zI s2 tx 2 = zI σ tx 2 := (hTo.k ttx (by decide)).eI hE (by decide) rfl
  have j12 : zI s2 tx 3 = zI σ tx 3 := (hTo.k ttx (by decide)).eI hE (by decide) rfl
  have j13 : zI s2 mm 15 = zI σ mm 15 := (hTo.k t_mm (by decide)).eI hE (by decide) rfl
  have j14 : zI s2 mm 16 = zI σ mm 16 := (hTo.k t_mm (by decide)).eI hE (by decide) rfl
  have f49 := f4
  try rw [etr] at f49
  try rw [enw] at f49
  have n15 : zI s2 nw 7 = zI σ nw 7 ∧ zI s2 nw 8 = zI σ nw 8 ∧ zI s2 nw 9 = zI σ nw 9 := f49 nw d_nt (hTo.k tnw (by decide))
  have n16 : zI s2 sl0 7 = zI σ sl0 7 ∧ zI s2 sl0 8 = zI σ sl0 8 ∧ zI s2 sl0 9 = zI σ sl0 9 := f49 sl0 d_t0 (hTo.k tsl0 (by decide))
  have n17 : zI s2 sl1 7 = zI σ sl1 7 ∧ zI s2 sl1 8 = zI σ sl1 8 ∧ zI s2 sl1 9 = zI σ sl1 9 := f49 sl1 d_t1 (hTo.k tsl1 (by decide))
  have n18 : ∀ j : Nat, j < 3 → zJ s2 rW j = zJ σ rW j := fun j hj => (hTo.k trW (by decide)).eJ hE (by decide) rfl
  have n19 : zJ s2 rS = zJ σ rS := (show zJ s2 rS = zJ σ rS from funext fun k => (hTo.k trS (by decide)).eJ hE (by decide) rfl)
  have z20 : zI s2 so 2 = zI σ so 2 ∧ zI s2 so 6 = zI σ so 6 ∧ zI s2 qP = zI σ qP ∧ zI s2 qO = zI σ qO := ⟨(hTo.k tso (by decide)).eI hE (by decide) rfl, (hTo.k tso (by decide)).eI hE (by decide) rfl, funext fun q9 => (hTo.k tqP (by decide)).eI hE (by decide) rfl, funext fun q9 => (hTo.k tqO (by decide)).eI hE (by decide) rfl⟩
  have z21 : zI s2 mm 7 = zI σ mm 7 ∧ zI s2 mm 8 = zI σ mm 8 ∧ zI s2 r5 = zI σ r5 ∧ zI s2 r6 = zI σ r6 := ⟨(hTo.k t_mm (by decide)).eI hE (by decide) rfl, (hTo.k t_mm (by decide)).eI hE (by decide) rfl, funext fun q9 => (hTo.k tr5 (by decide)).eI hE (by decide) rfl, funext fun q9 => (hTo.k tr6 (by decide)).eI hE (by decide) rfl⟩
  have a22 : (zI s2 mm 13).toInt = (zI σ mm 13).toInt := by rw [(hTo.k t_mm (by decide)).eI hE (by decide) rfl]
  refine lv_istore (lv' := [(5, .int r3), (4, .int i), (3, .ref out), (2, .ref mm), (1, .ref x), (0, .ref b)]) hx hb dL_law_1159 hl (by decide) rfl (fun ls hl => ?_)
  refine lv_aload_n hx hb dL_law_1161 rfl (lv_at hl 3 rfl) ?_
  refine lv_aload_n hx hb dL_law_1162 rfl (lv_at hl 5 rfl) ?_
  refine lv_iload hx hb dL_law_1163 (lv_at hl 1 rfl) ?_
  refine lv_iconst (v := 1) hx hb dL_law_1165 (by decide) ?_
  refine lv_iadd hx hb dL_law_1166 ?_
  refine g_add (by omega) (by omega) (fun t23 ht23 => ?_)
  refine va_sld hx hb hXs hbl hbA hT.2.2.2 (g_in (by omega) (by omega)) dL_law_1167 ?_
  refine ti y1 (by rw [hy1]; exact congrArg xs (show t23.toNatClampNeg = ix i + 1 from by show t23.toInt.toNat = ix i + 1; unfold ix; omega)) ?_
  have hTo := hT
  refine tVl (n := 1) (As := [.int y1]) (rest := []) hx hb hml hown hg hT hK hX (X6_error l (kX κ) s2 mm y1 (hT.k t_mm (by decide)) R5) sub_gZb_fA (mwV k1642 k1643 k1644 k92 k1645) ⟨rfl, by decide, by decide, by decide +kernel⟩ ⟨(Nat.le_of_ble_eq_true rfl), (Nat.le_of_ble_eq_true rfl)⟩ (hT.o20 (hT.k t_mm (by decide))) rfl rfl hl.1 rfl (Nat.le_of_ble_eq_true rfl) dL_law_1168 zx (fun r25 s24 H locs hφ hE hT => ?_)
  obtain ⟨f26, f27⟩ := hφ
  have a28 : (zI s24 tx 1).toInt = (zI s2 tx 1).toInt := by rw [(hTo.k ttx (by decide)).eI hE (by decide) rfl]
  have j29 : zI s24 rB = zI σ rB := ((show zI s24 rB = zI s2 rB from funext fun k => (hTo.k trB (by decide)).eI hE (by decide) rfl)).trans j7
  have j30 : zI s24 rT = zI σ rT := ((show zI s24 rT = zI s2 rT from funext fun k => (hTo.k trT (by decide)).eI hE (by decide) rfl)).trans j8
  have j31 : zI s24 rI = zI σ rI := ((show zI s24 rI = zI s2 rI from funext fun k => (hTo.k trI (by decide)).eI hE (by decide) rfl)).trans j9
  have j32 : zI s24 rK = zI σ rK := ((show zI s24 rK = zI s2 rK from funext fun k => (hTo.k trK (by decide)).eI hE (by decide) rfl)).trans j10
  have j33 : zI s24 tx 2 = zI σ tx 2 := ((hTo.k ttx (by decide)).eI hE (by decide) rfl).trans j11
  have j34 : zI s24 tx 3 = zI σ tx 3 := ((hTo.k ttx (by decide)).eI hE (by decide) rfl).trans j12
  have j35 : zI s24 mm 15 = zI σ mm 15 := ((hTo.k t_mm (by decide)).eI hE (by decide) rfl).trans j13
  have j36 : zI s24 mm 16 = zI σ mm 16 := ((hTo.k t_mm (by decide)).eI hE (by decide) rfl).trans j14
  have n37 : zI s24 nw 7 = zI s2 nw 7 ∧ zI s24 nw 8 = zI s2 nw 8 ∧ zI s24 nw 9 = zI s2 nw 9 := ⟨(hTo.k tnw (by decide)).eI hE (by decide) rfl, (hTo.k tnw (by decide)).eI hE (by decide) rfl, (hTo.k tnw (by decide)).eI hE (by decide) rfl⟩
  have n38 : zI s24 nw 7 = zI σ nw 7 ∧ zI s24 nw 8 = zI σ nw 8 ∧ zI s24 nw 9 = zI σ nw 9 := ⟨n37.1.trans n15.1, n37.2.1.trans n15.2.1, n37.2.2.trans n15.2.2⟩
  have n39 : zI s24 sl0 7 = zI s2 sl0 7 ∧ zI s24 sl0 8 = zI s2 sl0 8 ∧ zI s24 sl0 9 = zI s2 sl0 9 := ⟨(hTo.k tsl0 (by decide)).eI hE (by decide) rfl, (hTo.k tsl0 (by decide)).eI hE (by decide) rfl, (hTo.k tsl0 (by decide)).eI hE (by decide) rfl⟩
  have n40 : zI s24 sl0 7 = zI σ sl0 7 ∧ zI s24 sl0 8 = zI σ sl0 8 ∧ zI s24 sl0 9 = zI σ sl0 9 := ⟨n39.1.trans n16.1, n39.2.1.trans n16.2.1, n39.2.2.trans n16.2.2⟩
  have n41 : zI s24 sl1 7 = zI s2 sl1 7 ∧ zI s24 sl1 8 = zI s2 sl1 8 ∧ zI s24 sl1 9 = zI s2 sl1 9 := ⟨(hTo.k tsl1 (by decide)).eI hE (by decide) rfl, (hTo.k tsl1 (by decide)).eI hE (by decide) rfl, (hTo.k tsl1 (by decide)).eI hE (by decide) rfl⟩
  have n42 : zI s24 sl1 7 = zI σ sl1 7 ∧ zI s24 sl1 8 = zI σ sl1 8 ∧ zI s24 sl1 9 = zI σ sl1 9 := ⟨n41.1.trans n17.1, n41.2.1.trans n17.2.1, n41.2.2.trans n17.2.2⟩
  have n43 : ∀ j : Nat, j < 3 → zJ s24 rW j = zJ s2 rW j := fun j hj => by have z9 := f27 j hj; (try rw [show kR (kX κ) mm 1 = rW from erW] at z9); exact z9
  have n44 : ∀ j : Nat, j < 3 → zJ s24 rW j = zJ σ rW j := fun j hj => (n43 j hj).trans (n18 j hj)
  have n45 : zJ s24 rS = zJ σ rS := (show zJ s24 rS = zJ s2 rS from funext fun k => (hTo.k trS (by decide)).eJ hE (by decide) rfl).trans n19
  have z46 : zI s24 so 2 = zI s2 so 2 ∧ zI s24 so 6 = zI s2 so 6 ∧ zI s24 qP = zI s2 qP ∧ zI s24 qO = zI s2 qO := ⟨(hTo.k tso (by decide)).eI hE (by decide) rfl, (hTo.k tso (by decide)).eI hE (by decide) rfl, funext fun q9 => (hTo.k tqP (by decide)).eI hE (by decide) rfl, funext fun q9 => (hTo.k tqO (by decide)).eI hE (by decide) rfl⟩
  have z47 : zI s24 so 2 = zI σ so 2 ∧ zI s24 so 6 = zI σ so 6 ∧ zI s24 qP = zI σ qP ∧ zI s24 qO = zI σ qO := ⟨z46.1.trans z20.1, z46.2.1.trans z20.2.1, z46.2.2.1.trans z20.2.2.1, z46.2.2.2.trans z20.2.2.2⟩
  have z48 : zI s24 mm 7 = zI s2 mm 7 ∧ zI s24 mm 8 = zI s2 mm 8 ∧ zI s24 r5 = zI s2 r5 ∧ zI s24 r6 = zI s2 r6 := ⟨(hTo.k t_mm (by decide)).eI hE (by decide) rfl, (hTo.k t_mm (by decide)).eI hE (by decide) rfl, funext fun q9 => (hTo.k tr5 (by decide)).eI hE (by decide) rfl, funext fun q9 => (hTo.k tr6 (by decide)).eI hE (by decide) rfl⟩
  have z49 : zI s24 mm 7 = zI σ mm 7 ∧ zI s24 mm 8 = zI σ mm 8 ∧ zI s24 r5 = zI σ r5 ∧ zI s24 r6 = zI σ r6 := ⟨z48.1.trans z21.1, z48.2.1.trans z21.2.1, z48.2.2.1.trans z21.2.2.1, z48.2.2.2.trans z21.2.2.2⟩
  have a50 : (zI s24 mm 13).toInt = (zI s2 mm 13).toInt := by rw [(hTo.k t_mm (by decide)).eI hE (by decide) rfl]
  refine lv_lstore (lv' := [(6, .long r25), (5, .int r3), (4, .int i), (3, .ref out), (2, .ref mm), (1, .ref x), (0, .ref b)]) hx hb dL_law_1171 hl (by decide) rfl (fun ls hl => ?_)
  refine lv_goto (tgt := 1432) hx hb dL_law_1173 (by decide) ?_
  have sl0f : zI s24 rI 0 ≠ 0 → SLT κ s24 x mm 0 := fun hq => (hsl 0 (by decide) (fun q9 => hq (by rw [erI] at q9; rw [j31]; exact q9))).tr (by rw [ers5, esl0]; exact n40) (fun j hj => by rw [erS, n45])
  have sl1f : zI s24 rI 1 ≠ 0 → SLT κ s24 x mm 1 := fun hq => (hsl 1 (by decide) (fun q9 => hq (by rw [erI] at q9; rw [j31]; exact q9))).tr (by rw [ers5, esl1]; exact n42) (fun j hj => by rw [erS, n45])
  exact KK s24 _ _ _ hT f26 ⟨by rw [etx]; omega, ⟨by rw [etx, erB, erT, j29, j30]; exact tal_less hal (by omega), by rw [erT, j30]; exact tnn_less hnn (by omega)⟩, ⟨by rw [etx, j33, j35]; exact hco, by rw [etx, j34, j36]; exact hpo⟩, fun i hi => by rw [erI, erK, j31, j32]; exact hkp i hi⟩ (⟨hnw.tr (by rw [enw]; exact n38) (by rw [erW]; exact n44), fun i hi => (show i = 0 ∨ i = 1 by omega).elim (fun e9 => by rw [e9, erI]; exact sl0f) (fun e9 => by rw [e9, erI]; exact sl1f)⟩) (hsm.tr (by rw [eso, eqP, eqO]; exact z47) (by rw [er5, er6]; exact z49)) (lv_sub hl [2, 3, 4, 5, 6] rfl)
set_option maxHeartbeats 4000000 in
set_option maxRecDepth 100000 in
theorem lc_33 (l : Launch) (κ : Kt) (σ0 : Gh) (x mm out b : Nat) (t_x : zk σ0 x 7) (t_mm : zk σ0 mm 20) (t_out : zk σ0 out 24) (ttx0 : zk σ0 (kR κ x 0) 6) (hdis : DIS κ x) (hlt : l.stackTraces = false) {p : Program} {e : Env} {s : State} {m : MethodId} {below : List Frame} {meth : Method} {c : Code} {L : Nat} {xs : Nat → Int32} {i : Int32} {Q9 : State → Prop} (hx : p.tables.exec = Jvm.exec) (hb : c.code = cL_law) (hml : c.maxLocals = 9) (hown : s.vm.findClass RL = some m.cls) (hg : ∀ w ∈ GW, w.before #[Value.ref b] s = true) (hK : va_K κ.1 vwCl (kTy κ) s) (hX : XY κ (tA σ0 s.heap.size) s s.heap) (hXs : va_X b L xs s s.heap) (hbl : b < s.heap.size) (hbA : ¬ tA σ0 s.heap.size b) (zx : zroomX κ s room_1 601024 7293034) (hi0 : 0 ≤ i.toInt) (hi1 : i.toInt + 6 ≤ L) (hL9 : L ≤ 3072) {σ : Gh} {H : Heap} {locs : List Loc} {ls : Array Slot} (hT : TS κ fA σ0 σ s H locs) (hR : RI κ σ mm) (hrel : LREL κ σ x mm) (hsr : SREL κ σ x mm) (hsm : SMP κ σ x mm) (hl : lv_has ls 9 [(4, .int i), (3, .ref out), (2, .ref mm), (1, .ref x), (0, .ref b)]) (KK : ∀ (σ1 : Gh) (H : Heap) (locs : List Loc) (ls : Array Slot), TS (kX κ) fA σ0 σ1 s H locs → RI (kX κ) σ1 mm → LREL κ σ1 x mm → SREL κ σ1 x mm → SMP κ σ1 x mm → lv_has ls 9 [(4, .int i), (3, .ref out), (2, .ref mm), (1, .ref x), (0, .ref b)] → W p l e room_1 s m #[Value.ref b] below meth c H locs 601024 7293034 Q9 (F0 m 1432 ls [])) : W p l e room_1 s m #[Value.ref b] below meth c H locs 601024 7293034 Q9 (F0 m 1176 ls []) := by
  obtain ⟨y1, hy1⟩ : ∃ z, z = xs (ix i + 1) := ⟨_, rfl⟩
  obtain ⟨y2, hy2⟩ : ∃ z, z = xs (ix i + 2) := ⟨_, rfl⟩
  obtain ⟨y3, hy3⟩ : ∃ z, z = xs (ix i + 3) := ⟨_, rfl⟩
  obtain ⟨y4, hy4⟩ : ∃ z, z = xs (ix i + 4) := ⟨_, rfl⟩
  obtain ⟨y5, hy5⟩ : ∃ z, z = xs (ix i + 5) := ⟨_, rfl⟩
  have n0 : (0 : Int32).toInt = 0 := by decide
  have n1 : (1 : Int32).toInt = 1 := by decide
  have n2 : (2 : Int32).toInt = 2 := by decide
  have n3 : (3 : Int32).toInt = 3 := by decide
  have n4 : (4 : Int32).toInt = 4 := by decide
  have n5 : (5 : Int32).toInt = 5 := by decide
  obtain ⟨tx, etx⟩ : ∃ z, kR κ x 0 = z := ⟨_, rfl⟩
  have ttx : zk σ0 tx 6 := by rw [← etx]; exact ttx0
  obtain ⟨rB, erB⟩ : ∃ z, kR κ tx 0 = z := ⟨_, rfl⟩
  have trB : zk σ0 rB 14 := by rw [← erB]; exact hT.kr (hT.ref (hT.k ttx (by decide)) (by decide) (by decide) (by decide)) (by decide) (by decide)
  obtain ⟨rT, erT⟩ : ∃ z, kR κ mm 12 = z := ⟨_, rfl⟩
  have trT : zk σ0 rT 23 := by rw [← erT]; exact hT.kr (hT.ref (hT.k t_mm (by decide)) (by decide) (by decide) (by decide)) (by decide) (by decide)
  obtain ⟨rI, erI⟩ : ∃ z, kR κ x 6 = z := ⟨_, rfl⟩
  have trI : zk σ0 rI 13 := by rw [← erI]; exact hT.kr (hT.ref (hT.k t_x (by decide)) (by decide) (by decide) (by decide)) (by decide) (by decide)
  obtain ⟨rK, erK⟩ : ∃ z, kR κ mm 4 = z := ⟨_, rfl⟩
  have trK : zk σ0 rK 29 := by rw [← erK]; exact hT.kr (hT.ref (hT.k t_mm (by decide)) (by decide) (by decide) (by decide)) (by decide) (by decide)
  obtain ⟨hlen, ⟨hal, hnn⟩, ⟨hco, hpo⟩, hkp⟩ := hrel
  rw [etx] at hlen hal hco hpo
  rw [erB, erT] at hal
  rw [erT] at hnn
  rw [erI, erK] at hkp
  have btx := (hT.P (hT.k ttx (by decide)) (by decide)).1
  have btxl := btx.1
  have btxh := btx.2
  obtain ⟨nw, enw⟩ : ∃ z, kR κ x 3 = z := ⟨_, rfl⟩
  have tnw : zk σ0 nw 3 := by rw [← enw]; exact hT.kr (hT.ref (hT.k t_x (by decide)) (by decide) (by decide) (by decide)) (by decide) (by decide)
  obtain ⟨tr, etr⟩ : ∃ z, kR κ x 4 = z := ⟨_, rfl⟩
  have ttr : zk σ0 tr 3 := by rw [← etr]; exact hT.kr (hT.ref (hT.k t_x (by decide)) (by decide) (by decide) (by decide)) (by decide) (by decide)
  obtain ⟨rs5, ers5⟩ : ∃ z, kR κ x 5 = z := ⟨_, rfl⟩
  have trs5 : zk σ0 rs5 12 := by rw [← ers5]; exact hT.kr (hT.ref (hT.k t_x (by decide)) (by decide) (by decide) (by decide)) (by decide) (by decide)
  obtain ⟨sl0, esl0⟩ : ∃ z, kR κ rs5 0 = z := ⟨_, rfl⟩
  have tsl0 : zk σ0 sl0 3 := by rw [← esl0]; exact hT.kr (hT.ref (hT.k trs5 (by decide)) (by decide) (by decide) (by decide)) (by decide) (by decide)
  obtain ⟨sl1, esl1⟩ : ∃ z, kR κ rs5 1 = z := ⟨_, rfl⟩
  have tsl1 : zk σ0 sl1 3 := by rw [← esl1]; exact hT.kr (hT.ref (hT.k trs5 (by decide)) (by decide) (by decide) (by decide)) (by decide) (by decide)
  obtain ⟨rW, erW⟩ : ∃ z, kR κ mm 1 = z := ⟨_, rfl⟩
  have trW : zk σ0 rW 21 := by rw [← erW]; exact hT.kr (hT.ref (hT.k t_mm (by decide)) (by decide) (by decide) (by decide)) (by decide) (by decide)
  obtain ⟨rS, erS⟩ : ∃ z, kR κ mm 3 = z := ⟨_, rfl⟩
  have trS : zk σ0 rS 22 := by rw [← erS]; exact hT.kr (hT.ref (hT.k t_mm (by decide)) (by decide) (by decide) (by decide)) (by decide) (by decide)
  obtain ⟨so, eso⟩ : ∃ z, kR κ x 1 = z := ⟨_, rfl⟩
  have tso : zk σ0 so 4 := by rw [← eso]; exact hT.kr (hT.ref (hT.k t_x (by decide)) (by decide) (by decide) (by decide)) (by decide) (by decide)
  obtain ⟨qP, eqP⟩ : ∃ z, kR κ so 0 = z := ⟨_, rfl⟩
  have tqP : zk σ0 qP 8 := by rw [← eqP]; exact hT.kr (hT.ref (hT.k tso (by decide)) (by decide) (by decide) (by decide)) (by decide) (by decide)
  obtain ⟨qO, eqO⟩ : ∃ z, kR κ so 1 = z := ⟨_, rfl⟩
  have tqO : zk σ0 qO 16 := by rw [← eqO]; exact hT.kr (hT.ref (hT.k tso (by decide)) (by decide) (by decide) (by decide)) (by decide) (by decide)
  obtain ⟨r5, er5⟩ : ∃ z, kR κ mm 5 = z := ⟨_, rfl⟩
  have tr5 : zk σ0 r5 25 := by rw [← er5]; exact hT.kr (hT.ref (hT.k t_mm (by decide)) (by decide) (by decide) (by decide)) (by decide) (by decide)
  obtain ⟨r6, er6⟩ : ∃ z, kR κ mm 6 = z := ⟨_, rfl⟩
  have tr6 : zk σ0 r6 26 := by rw [← er6]; exact hT.kr (hT.ref (hT.k t_mm (by decide)) (by decide) (by decide) (by decide)) (by decide) (by decide)
  obtain ⟨hnw, hsl⟩ := hsr
  obtain ⟨hd1, ⟨hd2, hd3⟩, hd4, hd5, hd6, hd7⟩ := hdis
  have d_nt : nw ≠ tr := by rw [← enw, ← etr]; exact hd2
  have d_n0 : nw ≠ sl0 := by rw [← enw, ← esl0, ← ers5]; exact hd3 0 (by decide)
  have d_t0 : sl0 ≠ tr := by rw [← etr, ← esl0, ← ers5]; exact fun q => hd4 0 (by decide) q.symm
  have d_n1 : nw ≠ sl1 := by rw [← enw, ← esl1, ← ers5]; exact hd3 1 (by decide)
  have d_t1 : sl1 ≠ tr := by rw [← etr, ← esl1, ← ers5]; exact fun q => hd4 1 (by decide) q.symm
  have d_01 : sl0 ≠ sl1 := by rw [← esl0, ← esl1, ← ers5]; exact hd5
  have knw : zk σ nw 3 := hT.k tnw (by decide)
  have ksl0 : zk σ sl0 3 := hT.k tsl0 (by decide)
  have ksl1 : zk σ sl1 3 := hT.k tsl1 (by decide)
  refine lv_aload_n hx hb dL_law_1176 rfl (lv_at hl 3 rfl) ?_
  refine lv_aload_n hx hb dL_law_1177 rfl (lv_at hl 4 rfl) ?_
  refine lv_iload hx hb dL_law_1178 (lv_at hl 0 rfl) ?_
  refine lv_iconst (v := 1) hx hb dL_law_1180 (by decide) ?_
  refine lv_iadd hx hb dL_law_1181 ?_
  refine g_add (by omega) (by omega) (fun t1 ht1 => ?_)
  refine va_sld hx hb hXs hbl hbA hT.2.2.2 (g_in (by omega) (by omega)) dL_law_1182 ?_
  refine ti y1 (by rw [hy1]; exact congrArg xs (show t1.toNatClampNeg = ix i + 1 from by show t1.toInt.toNat = ix i + 1; unfold ix; omega)) ?_
  refine lv_aload_n hx hb dL_law_1183 rfl (lv_at hl 4 rfl) ?_
  refine lv_iload hx hb dL_law_1184 (lv_at hl 0 rfl) ?_
  refine lv_iconst (v := 2) hx hb dL_law_1186 (by decide) ?_
  refine lv_iadd hx hb dL_law_1187 ?_
  refine g_add (by omega) (by omega) (fun t2 ht2 => ?_)
  refine va_sld hx hb hXs hbl hbA hT.2.2.2 (g_in (by omega) (by omega)) dL_law_1188 ?_
  refine ti y2 (by rw [hy2]; exact congrArg xs (show t2.toNatClampNeg = ix i + 2 from by show t2.toInt.toNat = ix i + 2; unfold ix; omega)) ?_
  refine lv_if_eq (tgt := 1196) hx hb dL_law_1189 (by decide) (fun c9 => ?_) (fun c9 => ?_)
  · have c7 := gi_eq c9
    refine lv_iconst (v := 0) hx hb dL_law_1196 (by decide) ?_
    refine lv_aload_n hx hb dL_law_1197 rfl (lv_at hl 1 rfl) ?_
    have hTo := hT
    refine tHi (n := 4) (As := [.ref x, .int y1, .int 0, .ref out]) (rest := []) hx hb hml hown hg hT hK hX (L_errorWith l κ σ x y1 0 out (hT.k t_x (by decide)) (hT.k t_out (by decide)) isB0 hlt) sub_hfCp_fA (mwHS k1149 k1150 k83 k1151) ⟨by decide, by decide, by decide +kernel⟩ ⟨(Nat.le_of_ble_eq_true rfl), (Nat.le_of_ble_eq_true rfl)⟩ rfl hl.1 rfl (Nat.le_of_ble_eq_true rfl) dL_law_1198 zx (fun r4 s3 H locs hφ hE hT => ?_)
    have f5 := hφ
    have R6 := hR.ext hE ⟨rfl, rfl, fun _ => rfl, fun _ => rfl, fun _ => rfl, fun _ => rfl⟩
    have a7 : (zI s3 tx 1).toInt = (zI σ tx 1).toInt := by rw [(hTo.k ttx (by decide)).eI hE (by decide) rfl]
    have j8 : zI s3 rB = zI σ rB := (show zI s3 rB = zI σ rB from funext fun k => (hTo.k trB (by decide)).eI hE (by decide) rfl)
    have j9 : zI s3 rT = zI σ rT := (show zI s3 rT = zI σ rT from funext fun k => (hTo.k trT (by decide)).eI hE (by decide) rfl)
    have j10 : zI s3 rI = zI σ rI := (show zI s3 rI = zI σ rI from funext fun k => (hTo.k trI (by decide)).eI hE (by decide) rfl)
    have j11 : zI s3 rK = zI σ rK := (show zI s3 rK = zI σ rK from funext fun k => (hTo.k trK (by decide)).eI hE (by decide) rfl)
    have j12 : zI s3 tx 2 = zI σ tx 2 := (hTo.k ttx (by decide)).eI hE (by decide) rfl
    have j13 : zI s3 tx 3 = zI σ tx 3 := (hTo.k ttx (by decide)).eI hE (by decide) rfl
    have j14 : zI s3 mm 15 = zI σ mm 15 := (hTo.k t_mm (by decide)).eI hE (by decide) rfl
    have j15 : zI s3 mm 16 = zI σ mm 16 := (hTo.k t_mm (by decide)).eI hE (by decide) rfl
    have f59 := f5
    try rw [etr] at f59
    try rw [enw] at f59
    have n16 : zI s3 nw 7 = zI σ nw 7 ∧ zI s3 nw 8 = zI σ nw 8 ∧ zI s3 nw 9 = zI σ nw 9 := f59 nw d_nt (hTo.k tnw (by decide))
    have n17 : zI s3 sl0 7 = zI σ sl0 7 ∧ zI s3 sl0 8 = zI σ sl0 8 ∧ zI s3 sl0 9 = zI σ sl0 9 := f59 sl0 d_t0 (hTo.k tsl0 (by decide))
    have n18 : zI s3 sl1 7 = zI σ sl1 7 ∧ zI s3 sl1 8 = zI σ sl1 8 ∧ zI s3 sl1 9 = zI σ sl1 9 := f59 sl1 d_t1 (hTo.k tsl1 (by decide))
    have n19 : ∀ j : Nat, j < 3 → zJ s3 rW j = zJ σ rW j := fun j hj => (hTo.k trW (by decide)).eJ hE (by decide) rfl
    have n20 : zJ s3 rS = zJ σ rS := (show zJ s3 rS = zJ σ rS from funext fun k => (hTo.k trS (by decide)).eJ hE (by decide) rfl)
    have z21 : zI s3 so 2 = zI σ so 2 ∧ zI s3 so 6 = zI σ so 6 ∧ zI s3 qP = zI σ qP ∧ zI s3 qO = zI σ qO := ⟨(hTo.k tso (by decide)).eI hE (by decide) rfl, (hTo.k tso (by decide)).eI hE (by decide) rfl, funext fun q9 => (hTo.k tqP (by decide)).eI hE (by decide) rfl, funext fun q9 => (hTo.k tqO (by decide)).eI hE (by decide) rfl⟩
    have z22 : zI s3 mm 7 = zI σ mm 7 ∧ zI s3 mm 8 = zI σ mm 8 ∧ zI s3 r5 = zI σ r5 ∧ zI s3 r6 = zI σ r6 := ⟨(hTo.k t_mm (by decide)).eI hE (by decide) rfl, (hTo.k t_mm (by decide)).eI hE (by decide) rfl, funext fun q9 => (hTo.k tr5 (by decide)).eI hE (by decide) rfl, funext fun q9 => (hTo.k tr6 (by decide)).eI hE (by decide) rfl⟩
    have a23 : (zI s3 mm 13).toInt = (zI σ mm 13).toInt := by rw [(hTo.k t_mm (by decide)).eI hE (by decide) rfl]
    refine lv_istore (lv' := [(5, .int r4), (4, .int i), (3, .ref out), (2, .ref mm), (1, .ref x), (0, .ref b)]) hx hb dL_law_1201 hl (by decide) rfl (fun ls hl => ?_)
    refine lv_aload_n hx hb dL_law_1203 rfl (lv_at hl 3 rfl) ?_
    refine lv_aload_n hx hb dL_law_1204 rfl (lv_at hl 5 rfl) ?_
    refine lv_iload hx hb dL_law_1205 (lv_at hl 1 rfl) ?_
    refine lv_iconst (v := 1) hx hb dL_law_1207 (by decide) ?_
    refine lv_iadd hx hb dL_law_1208 ?_
    refine g_add (by omega) (by omega) (fun t24 ht24 => ?_)
    refine va_sld hx hb hXs hbl hbA hT.2.2.2 (g_in (by omega) (by omega)) dL_law_1209 ?_
    refine ti y1 (by rw [hy1]; exact congrArg xs (show t24.toNatClampNeg = ix i + 1 from by show t24.toInt.toNat = ix i + 1; unfold ix; omega)) ?_
    refine lv_aload_n hx hb dL_law_1210 rfl (lv_at hl 5 rfl) ?_
    refine lv_iload hx hb dL_law_1211 (lv_at hl 1 rfl) ?_
    refine lv_iconst (v := 2) hx hb dL_law_1213 (by decide) ?_
    refine lv_iadd hx hb dL_law_1214 ?_
    refine g_add (by omega) (by omega) (fun t25 ht25 => ?_)
    refine va_sld hx hb hXs hbl hbA hT.2.2.2 (g_in (by omega) (by omega)) dL_law_1215 ?_
    refine ti y2 (by rw [hy2]; exact congrArg xs (show t25.toNatClampNeg = ix i + 2 from by show t25.toInt.toNat = ix i + 2; unfold ix; omega)) ?_
    refine lv_if_eq (tgt := 1223) hx hb dL_law_1216 (by decide) (fun c9 => ?_) (fun c9 => ?_)
    · have c7 := gi_eq c9
      refine lv_iconst (v := 0) hx hb dL_law_1223 (by decide) ?_
      have hTo := hT
      refine tVl (n := 2) (As := [.int y1, .int 0]) (rest := []) hx hb hml hown hg hT hK hX (X6_errorWith l (kX κ) s3 mm y1 0 (hT.k t_mm (by decide)) isB0 R6) sub_gZb_fA (mwV k1658 k1659 k1660 k92 k1661) ⟨rfl, by decide, by decide, by decide +kernel⟩ ⟨(Nat.le_of_ble_eq_true rfl), (Nat.le_of_ble_eq_true rfl)⟩ (hT.o20 (hT.k t_mm (by decide))) rfl rfl hl.1 rfl (Nat.le_of_ble_eq_true rfl) dL_law_1224 zx (fun r27 s26 H locs hφ hE hT => ?_)
      obtain ⟨f28, f29⟩ := hφ
      have a30 : (zI s26 tx 1).toInt = (zI s3 tx 1).toInt := by rw [(hTo.k ttx (by decide)).eI hE (by decide) rfl]
      have j31 : zI s26 rB = zI σ rB := ((show zI s26 rB = zI s3 rB from funext fun k => (hTo.k trB (by decide)).eI hE (by decide) rfl)).trans j8
      have j32 : zI s26 rT = zI σ rT := ((show zI s26 rT = zI s3 rT from funext fun k => (hTo.k trT (by decide)).eI hE (by decide) rfl)).trans j9
      have j33 : zI s26 rI = zI σ rI := ((show zI s26 rI = zI s3 rI from funext fun k => (hTo.k trI (by decide)).eI hE (by decide) rfl)).trans j10
      have j34 : zI s26 rK = zI σ rK := ((show zI s26 rK = zI s3 rK from funext fun k => (hTo.k trK (by decide)).eI hE (by decide) rfl)).trans j11
      have j35 : zI s26 tx 2 = zI σ tx 2 := ((hTo.k ttx (by decide)).eI hE (by decide) rfl).trans j12
      have j36 : zI s26 tx 3 = zI σ tx 3 := ((hTo.k ttx (by decide)).eI hE (by decide) rfl).trans j13
      have j37 : zI s26 mm 15 = zI σ mm 15 := ((hTo.k t_mm (by decide)).eI hE (by decide) rfl).trans j14
      have j38 : zI s26 mm 16 = zI σ mm 16 := ((hTo.k t_mm (by decide)).eI hE (by decide) rfl).trans j15
      have n39 : zI s26 nw 7 = zI s3 nw 7 ∧ zI s26 nw 8 = zI s3 nw 8 ∧ zI s26 nw 9 = zI s3 nw 9 := ⟨(hTo.k tnw (by decide)).eI hE (by decide) rfl, (hTo.k tnw (by decide)).eI hE (by decide) rfl, (hTo.k tnw (by decide)).eI hE (by decide) rfl⟩
      have n40 : zI s26 nw 7 = zI σ nw 7 ∧ zI s26 nw 8 = zI σ nw 8 ∧ zI s26 nw 9 = zI σ nw 9 := ⟨n39.1.trans n16.1, n39.2.1.trans n16.2.1, n39.2.2.trans n16.2.2⟩
      have n41 : zI s26 sl0 7 = zI s3 sl0 7 ∧ zI s26 sl0 8 = zI s3 sl0 8 ∧ zI s26 sl0 9 = zI s3 sl0 9 := ⟨(hTo.k tsl0 (by decide)).eI hE (by decide) rfl, (hTo.k tsl0 (by decide)).eI hE (by decide) rfl, (hTo.k tsl0 (by decide)).eI hE (by decide) rfl⟩
      have n42 : zI s26 sl0 7 = zI σ sl0 7 ∧ zI s26 sl0 8 = zI σ sl0 8 ∧ zI s26 sl0 9 = zI σ sl0 9 := ⟨n41.1.trans n17.1, n41.2.1.trans n17.2.1, n41.2.2.trans n17.2.2⟩
      have n43 : zI s26 sl1 7 = zI s3 sl1 7 ∧ zI s26 sl1 8 = zI s3 sl1 8 ∧ zI s26 sl1 9 = zI s3 sl1 9 := ⟨(hTo.k tsl1 (by decide)).eI hE (by decide) rfl, (hTo.k tsl1 (by decide)).eI hE (by decide) rfl, (hTo.k tsl1 (by decide)).eI hE (by decide) rfl⟩
      have n44 : zI s26 sl1 7 = zI σ sl1 7 ∧ zI s26 sl1 8 = zI σ sl1 8 ∧ zI s26 sl1 9 = zI σ sl1 9 := ⟨n43.1.trans n18.1, n43.2.1.trans n18.2.1, n43.2.2.trans n18.2.2⟩
      have n45 : ∀ j : Nat, j < 3 → zJ s26 rW j = zJ s3 rW j := fun j hj => by have z9 := f29 j hj; (try rw [show kR (kX κ) mm 1 = rW from erW] at z9); exact z9
      have n46 : ∀ j : Nat, j < 3 → zJ s26 rW j = zJ σ rW j := fun j hj => (n45 j hj).trans (n19 j hj)
      have n47 : zJ s26 rS = zJ σ rS := (show zJ s26 rS = zJ s3 rS from funext fun k => (hTo.k trS (by decide)).eJ hE (by decide) rfl).trans n20
      have z48 : zI s26 so 2 = zI s3 so 2 ∧ zI s26 so 6 = zI s3 so 6 ∧ zI s26 qP = zI s3 qP ∧ zI s26 qO = zI s3 qO := ⟨(hTo.k tso (by decide)).eI hE (by decide) rfl, (hTo.k tso (by decide)).eI hE (by decide) rfl, funext fun q9 => (hTo.k tqP (by decide)).eI hE (by decide) rfl, funext fun q9 => (hTo.k tqO (by decide)).eI hE (by decide) rfl⟩
      have z49 : zI s26 so 2 = zI σ so 2 ∧ zI s26 so 6 = zI σ so 6 ∧ zI s26 qP = zI σ qP ∧ zI s26 qO = zI σ qO := ⟨z48.1.trans z21.1, z48.2.1.trans z21.2.1, z48.2.2.1.trans z21.2.2.1, z48.2.2.2.trans z21.2.2.2⟩
      have z50 : zI s26 mm 7 = zI s3 mm 7 ∧ zI s26 mm 8 = zI s3 mm 8 ∧ zI s26 r5 = zI s3 r5 ∧ zI s26 r6 = zI s3 r6 := ⟨(hTo.k t_mm (by decide)).eI hE (by decide) rfl, (hTo.k t_mm (by decide)).eI hE (by decide) rfl, funext fun q9 => (hTo.k tr5 (by decide)).eI hE (by decide) rfl, funext fun q9 => (hTo.k tr6 (by decide)).eI hE (by decide) rfl⟩
      have z51 : zI s26 mm 7 = zI σ mm 7 ∧ zI s26 mm 8 = zI σ mm 8 ∧ zI s26 r5 = zI σ r5 ∧ zI s26 r6 = zI σ r6 := ⟨z50.1.trans z22.1, z50.2.1.trans z22.2.1, z50.2.2.1.trans z22.2.2.1, z50.2.2.2.trans z22.2.2.2⟩
      have a52 : (zI s26 mm 13).toInt = (zI s3 mm 13).toInt := by rw [(hTo.k t_mm (by decide)).eI hE (by decide) rfl]
      refine lv_lstore (lv' := [(6, .long r27), (5, .int r4), (4, .int i), (3, .ref out), (2, .ref mm), (1, .ref x), (0, .ref b)]) hx hb dL_law_1227 hl (by decide) rfl (fun ls hl => ?_)
      refine lv_goto (tgt := 1432) hx hb dL_law_1229 (by decide) ?_
      have sl0f : zI s26 rI 0 ≠ 0 → SLT κ s26 x mm 0 := fun hq => (hsl 0 (by decide) (fun q9 => hq (by rw [erI] at q9; rw [j33]; exact q9))).tr (by rw [ers5, esl0]; exact n42) (fun j hj => by rw [erS, n47])
      have sl1f : zI s26 rI 1 ≠ 0 → SLT κ s26 x mm 1 := fun hq => (hsl 1 (by decide) (fun q9 => hq (by rw [erI] at q9; rw [j33]; exact q9))).tr (by rw [ers5, esl1]; exact n44) (fun j hj => by rw [erS, n47])
      exact KK s26 _ _ _ hT f28 ⟨by rw [etx]; omega, ⟨by rw [etx, erB, erT, j31, j32]; exact tal_less hal (by omega), by rw [erT, j32]; exact tnn_less hnn (by omega)⟩, ⟨by rw [etx, j35, j37]; exact hco, by rw [etx, j36, j38]; exact hpo⟩, fun i hi => by rw [erI, erK, j33, j34]; exact hkp i hi⟩ (⟨hnw.tr (by rw [enw]; exact n40) (by rw [erW]; exact n46), fun i hi => (show i = 0 ∨ i = 1 by omega).elim (fun e9 => by rw [e9, erI]; exact sl0f) (fun e9 => by rw [e9, erI]; exact sl1f)⟩) (hsm.tr (by rw [eso, eqP, eqO]; exact z49) (by rw [er5, er6]; exact z51)) (lv_sub hl [2, 3, 4, 5, 6] rfl)
    · have c7 := gi_ne c9
      refine lv_iconst (v := 1) hx hb dL_law_1219 (by decide) ?_
      refine lv_goto (tgt := 1224) hx hb dL_law_1220 (by decide) ?_
      have hTo := hT
      refine tVl (n := 2) (As := [.int y1, .int 1]) (rest := []) hx hb hml hown hg hT hK hX (X6_errorWith l (kX κ) s3 mm y1 1 (hT.k t_mm (by decide)) isB1 R6) sub_gZb_fA (mwV k1658 k1659 k1660 k92 k1661) ⟨rfl, by decide, by decide, by decide +kernel⟩ ⟨(Nat.le_of_ble_eq_true rfl), (Nat.le_of_ble_eq_true rfl)⟩ (hT.o20 (hT.k t_mm (by decide))) rfl rfl hl.1 rfl (Nat.le_of_ble_eq_true rfl) dL_law_1224 zx (fun r54 s53 H locs hφ hE hT => ?_)
      obtain ⟨f55, f56⟩ := hφ
      have a57 : (zI s53 tx 1).toInt = (zI s3 tx 1).toInt := by rw [(hTo.k ttx (by decide)).eI hE (by decide) rfl]
      have j58 : zI s53 rB = zI σ rB := ((show zI s53 rB = zI s3 rB from funext fun k => (hTo.k trB (by decide)).eI hE (by decide) rfl)).trans j8
      have j59 : zI s53 rT = zI σ rT := ((show zI s53 rT = zI s3 rT from funext fun k => (hTo.k trT (by decide)).eI hE (by decide) rfl)).trans j9
      have j60 : zI s53 rI = zI σ rI := ((show zI s53 rI = zI s3 rI from funext fun k => (hTo.k trI (by decide)).eI hE (by decide) rfl)).trans j10
      have j61 : zI s53 rK = zI σ rK := ((show zI s53 rK = zI s3 rK from funext fun k => (hTo.k trK (by decide)).eI hE (by decide) rfl)).trans j11
      have j62 : zI s53 tx 2 = zI σ tx 2 := ((hTo.k ttx (by decide)).eI hE (by decide) rfl).trans j12
      have j63 : zI s53 tx 3 = zI σ tx 3 := ((hTo.k ttx (by decide)).eI hE (by decide) rfl).trans j13
      have j64 : zI s53 mm 15 = zI σ mm 15 := ((hTo.k t_mm (by decide)).eI hE (by decide) rfl).trans j14
      have j65 : zI s53 mm 16 = zI σ mm 16 := ((hTo.k t_mm (by decide)).eI hE (by decide) rfl).trans j15
      have n66 : zI s53 nw 7 = zI s3 nw 7 ∧ zI s53 nw 8 = zI s3 nw 8 ∧ zI s53 nw 9 = zI s3 nw 9 := ⟨(hTo.k tnw (by decide)).eI hE (by decide) rfl, (hTo.k tnw (by decide)).eI hE (by decide) rfl, (hTo.k tnw (by decide)).eI hE (by decide) rfl⟩
      have n67 : zI s53 nw 7 = zI σ nw 7 ∧ zI s53 nw 8 = zI σ nw 8 ∧ zI s53 nw 9 = zI σ nw 9 := ⟨n66.1.trans n16.1, n66.2.1.trans n16.2.1, n66.2.2.trans n16.2.2⟩
      have n68 : zI s53 sl0 7 = zI s3 sl0 7 ∧ zI s53 sl0 8 = zI s3 sl0 8 ∧ zI s53 sl0 9 = zI s3 sl0 9 := ⟨(hTo.k tsl0 (by decide)).eI hE (by decide) rfl, (hTo.k tsl0 (by decide)).eI hE (by decide) rfl, (hTo.k tsl0 (by decide)).eI hE (by decide) rfl⟩
      have n69 : zI s53 sl0 7 = zI σ sl0 7 ∧ zI s53 sl0 8 = zI σ sl0 8 ∧ zI s53 sl0 9 = zI σ sl0 9 := ⟨n68.1.trans n17.1, n68.2.1.trans n17.2.1, n68.2.2.trans n17.2.2⟩
      have n70 : zI s53 sl1 7 = zI s3 sl1 7 ∧ zI s53 sl1 8 = zI s3 sl1 8 ∧ zI s53 sl1 9 = zI s3 sl1 9 := ⟨(hTo.k tsl1 (by decide)).eI hE (by decide) rfl, (hTo.k tsl1 (by decide)).eI hE (by decide) rfl, (hTo.k tsl1 (by decide)).eI hE (by decide) rfl⟩
      have n71 : zI s53 sl1 7 = zI σ sl1 7 ∧ zI s53 sl1 8 = zI σ sl1 8 ∧ zI s53 sl1 9 = zI σ sl1 9 := ⟨n70.1.trans n18.1, n70.2.1.trans n18.2.1, n70.2.2.trans n18.2.2⟩
      have n72 : ∀ j : Nat, j < 3 → zJ s53 rW j = zJ s3 rW j := fun j hj => by have z9 := f56 j hj; (try rw [show kR (kX κ) mm 1 = rW from erW] at z9); exact z9
      have n73 : ∀ j : Nat, j < 3 → zJ s53 rW j = zJ σ rW j := fun j hj => (n72 j hj).trans (n19 j hj)
      have n74 : zJ s53 rS = zJ σ rS := (show zJ s53 rS = zJ s3 rS from funext fun k => (hTo.k trS (by decide)).eJ hE (by decide) rfl).trans n20
      have z75 : zI s53 so 2 = zI s3 so 2 ∧ zI s53 so 6 = zI s3 so 6 ∧ zI s53 qP = zI s3 qP ∧ zI s53 qO = zI s3 qO := ⟨(hTo.k tso (by decide)).eI hE (by decide) rfl, (hTo.k tso (by decide)).eI hE (by decide) rfl, funext fun q9 => (hTo.k tqP (by decide)).eI hE (by decide) rfl, funext fun q9 => (hTo.k tqO (by decide)).eI hE (by decide) rfl⟩
      have z76 : zI s53 so 2 = zI σ so 2 ∧ zI s53 so 6 = zI σ so 6 ∧ zI s53 qP = zI σ qP ∧ zI s53 qO = zI σ qO := ⟨z75.1.trans z21.1, z75.2.1.trans z21.2.1, z75.2.2.1.trans z21.2.2.1, z75.2.2.2.trans z21.2.2.2⟩
      have z77 : zI s53 mm 7 = zI s3 mm 7 ∧ zI s53 mm 8 = zI s3 mm 8 ∧ zI s53 r5 = zI s3 r5 ∧ zI s53 r6 = zI s3 r6 := ⟨(hTo.k t_mm (by decide)).eI hE (by decide) rfl, (hTo.k t_mm (by decide)).eI hE (by decide) rfl, funext fun q9 => (hTo.k tr5 (by decide)).eI hE (by decide) rfl, funext fun q9 => (hTo.k tr6 (by decide)).eI hE (by decide) rfl⟩
      have z78 : zI s53 mm 7 = zI σ mm 7 ∧ zI s53 mm 8 = zI σ mm 8 ∧ zI s53 r5 = zI σ r5 ∧ zI s53 r6 = zI σ r6 := ⟨z77.1.trans z22.1, z77.2.1.trans z22.2.1, z77.2.2.1.trans z22.2.2.1, z77.2.2.2.trans z22.2.2.2⟩
      have a79 : (zI s53 mm 13).toInt = (zI s3 mm 13).toInt := by rw [(hTo.k t_mm (by decide)).eI hE (by decide) rfl]
      refine lv_lstore (lv' := [(6, .long r54), (5, .int r4), (4, .int i), (3, .ref out), (2, .ref mm), (1, .ref x), (0, .ref b)]) hx hb dL_law_1227 hl (by decide) rfl (fun ls hl => ?_)
      refine lv_goto (tgt := 1432) hx hb dL_law_1229 (by decide) ?_
      have sl0f : zI s53 rI 0 ≠ 0 → SLT κ s53 x mm 0 := fun hq => (hsl 0 (by decide) (fun q9 => hq (by rw [erI] at q9; rw [j60]; exact q9))).tr (by rw [ers5, esl0]; exact n69) (fun j hj => by rw [erS, n74])
      have sl1f : zI s53 rI 1 ≠ 0 → SLT κ s53 x mm 1 := fun hq => (hsl 1 (by decide) (fun q9 => hq (by rw [erI] at q9; rw [j60]; exact q9))).tr (by rw [ers5, esl1]; exact n71) (fun j hj => by rw [erS, n74])
      exact KK s53 _ _ _ hT f55 ⟨by rw [etx]; omega, ⟨by rw [etx, erB, erT, j58, j59]; exact tal_less hal (by omega), by rw [erT, j59]; exact tnn_less hnn (by omega)⟩, ⟨by rw [etx, j62, j64]; exact hco, by rw [etx, j63, j65]; exact hpo⟩, fun i hi => by rw [erI, erK, j60, j61]; exact hkp i hi⟩ (⟨hnw.tr (by rw [enw]; exact n67) (by rw [erW]; exact n73), fun i hi => (show i = 0 ∨ i = 1 by omega).elim (fun e9 => by rw [e9, erI]; exact sl0f) (fun e9 => by rw [e9, erI]; exact sl1f)⟩) (hsm.tr (by rw [eso, eqP, eqO]; exact z76) (by rw [er5, er6]; exact z78)) (lv_sub hl [2, 3, 4, 5, 6] rfl)
  · have c7 := gi_ne c9
    refine lv_iconst (v := 1) hx hb dL_law_1192 (by decide) ?_
    refine lv_goto (tgt := 1197) hx hb dL_law_1193 (by decide) ?_
    refine lv_aload_n hx hb dL_law_1197 rfl (lv_at hl 1 rfl) ?_
    have hTo := hT
    refine tHi (n := 4) (As := [.ref x, .int y1, .int 1, .ref out]) (rest := []) hx hb hml hown hg hT hK hX (L_errorWith l κ σ x y1 1 out (hT.k t_x (by decide)) (hT.k t_out (by decide)) isB1 hlt) sub_hfCp_fA (mwHS k1149 k1150 k83 k1151) ⟨by decide, by decide, by decide +kernel⟩ ⟨(Nat.le_of_ble_eq_true rfl), (Nat.le_of_ble_eq_true rfl)⟩ rfl hl.1 rfl (Nat.le_of_ble_eq_true rfl) dL_law_1198 zx (fun r81 s80 H locs hφ hE hT => ?_)
    have f82 := hφ
    have R83 := hR.ext hE ⟨rfl, rfl, fun _ => rfl, fun _ => rfl, fun _ => rfl, fun _ => rfl⟩
    have a84 : (zI s80 tx 1).toInt = (zI σ tx 1).toInt := by rw [(hTo.k ttx (by decide)).eI hE (by decide) rfl]
    have j85 : zI s80 rB = zI σ rB := (show zI s80 rB = zI σ rB from funext fun k => (hTo.k trB (by decide)).eI hE (by decide) rfl)
    have j86 : zI s80 rT = zI σ rT := (show zI s80 rT = zI σ rT from funext fun k => (hTo.k trT (by decide)).eI hE (by decide) rfl)
    have j87 : zI s80 rI = zI σ rI := (show zI s80 rI = zI σ rI from funext fun k => (hTo.k trI (by decide)).eI hE (by decide) rfl)
    have j88 : zI s80 rK = zI σ rK := (show zI s80 rK = zI σ rK from funext fun k => (hTo.k trK (by decide)).eI hE (by decide) rfl)
    have j89 : zI s80 tx 2 = zI σ tx 2 := (hTo.k ttx (by decide)).eI hE (by decide) rfl
    have j90 : zI s80 tx 3 = zI σ tx 3 := (hTo.k ttx (by decide)).eI hE (by decide) rfl
    have j91 : zI s80 mm 15 = zI σ mm 15 := (hTo.k t_mm (by decide)).eI hE (by decide) rfl
    have j92 : zI s80 mm 16 = zI σ mm 16 := (hTo.k t_mm (by decide)).eI hE (by decide) rfl
    have f829 := f82
    try rw [etr] at f829
    try rw [enw] at f829
    have n93 : zI s80 nw 7 = zI σ nw 7 ∧ zI s80 nw 8 = zI σ nw 8 ∧ zI s80 nw 9 = zI σ nw 9 := f829 nw d_nt (hTo.k tnw (by decide))
    have n94 : zI s80 sl0 7 = zI σ sl0 7 ∧ zI s80 sl0 8 = zI σ sl0 8 ∧ zI s80 sl0 9 = zI σ sl0 9 := f829 sl0 d_t0 (hTo.k tsl0 (by decide))
    have n95 : zI s80 sl1 7 = zI σ sl1 7 ∧ zI s80 sl1 8 = zI σ sl1 8 ∧ zI s80 sl1 9 = zI σ sl1 9 := f829 sl1 d_t1 (hTo.k tsl1 (by decide))
    have n96 : ∀ j : Nat, j < 3 → zJ s80 rW j = zJ σ rW j := fun j hj => (hTo.k trW (by decide)).eJ hE (by decide) rfl
    have n97 : zJ s80 rS = zJ σ rS := (show zJ s80 rS = zJ σ rS from funext fun k => (hTo.k trS (by decide)).eJ hE (by decide) rfl)
    have z98 : zI s80 so 2 = zI σ so 2 ∧ zI s80 so 6 = zI σ so 6 ∧ zI s80 qP = zI σ qP ∧ zI s80 qO = zI σ qO := ⟨(hTo.k tso (by decide)).eI hE (by decide) rfl, (hTo.k tso (by decide)).eI hE (by decide) rfl, funext fun q9 => (hTo.k tqP (by decide)).eI hE (by decide) rfl, funext fun q9 => (hTo.k tqO (by decide)).eI hE (by decide) rfl⟩
    have z99 : zI s80 mm 7 = zI σ mm 7 ∧ zI s80 mm 8 = zI σ mm 8 ∧ zI s80 r5 = zI σ r5 ∧ zI s80 r6 = zI σ r6 := ⟨(hTo.k t_mm (by decide)).eI hE (by decide) rfl, (hTo.k t_mm (by decide)).eI hE (by decide) rfl, funext fun q9 => (hTo.k tr5 (by decide)).eI hE (by decide) rfl, funext fun q9 => (hTo.k tr6 (by decide)).eI hE (by decide) rfl⟩
    have a100 : (zI s80 mm 13).toInt = (zI σ mm 13).toInt := by rw [(hTo.k t_mm (by decide)).eI hE (by decide) rfl]
    refine lv_istore (lv' := [(5, .int r81), (4, .int i), (3, .ref out), (2, .ref mm), (1, .ref x), (0, .ref b)]) hx hb dL_law_1201 hl (by decide) rfl (fun ls hl => ?_)
    refine lv_aload_n hx hb dL_law_1203 rfl (lv_at hl 3 rfl) ?_
    refine lv_aload_n hx hb dL_law_1204 rfl (lv_at hl 5 rfl) ?_
    refine lv_iload hx hb dL_law_1205 (lv_at hl 1 rfl) ?_
    refine lv_iconst (v := 1) hx hb dL_law_1207 (by decide) ?_
    refine lv_iadd hx hb dL_law_1208 ?_
    refine g_add (by omega) (by omega) (fun t101 ht101 => ?_)
    refine va_sld hx hb hXs hbl hbA hT.2.2.2 (g_in (by omega) (by omega)) dL_law_1209 ?_
    refine ti y1 (by rw [hy1]; exact congrArg xs (show t101.toNatClampNeg = ix i + 1 from by show t101.toInt.toNat = ix i + 1; unfold ix; omega)) ?_
    refine lv_aload_n hx hb dL_law_1210 rfl (lv_at hl 5 rfl) ?_
    refine lv_iload hx hb dL_law_1211 (lv_at hl 1 rfl) ?_
    refine lv_iconst (v := 2) hx hb dL_law_1213 (by decide) ?_
    refine lv_iadd hx hb dL_law_1214 ?_
    refine g_add (by omega) (by omega) (fun t102 ht102 => ?_)
    refine va_sld hx hb hXs hbl hbA hT.2.2.2 (g_in (by omega) (by omega)) dL_law_1215 ?_
    refine ti y2 (by rw [hy2]; exact congrArg xs (show t102.toNatClampNeg = ix i + 2 from by show t102.toInt.toNat = ix i + 2; unfold ix; omega)) ?_
    refine lv_if_eq (tgt := 1223) hx hb dL_law_1216 (by decide) (fun c9 => ?_) (fun c9 => ?_)
    · have c7 := gi_eq c9
      refine lv_iconst (v := 0) hx hb dL_law_1223 (by decide) ?_
      have hTo := hT
      refine tVl (n := 2) (As := [.int y1, .int 0]) (rest := []) hx hb hml hown hg hT hK hX (X6_errorWith l (kX κ) s80 mm y1 0 (hT.k t_mm (by decide)) isB0 R83) sub_gZb_fA (mwV k1658 k1659 k1660 k92 k1661) ⟨rfl, by decide, by decide, by decide +kernel⟩ ⟨(Nat.le_of_ble_eq_true rfl), (Nat.le_of_ble_eq_true rfl)⟩ (hT.o20 (hT.k t_mm (by decide))) rfl rfl hl.1 rfl (Nat.le_of_ble_eq_true rfl) dL_law_1224 zx (fun r104 s103 H locs hφ hE hT => ?_)
      obtain ⟨f105, f106⟩ := hφ
      have a107 : (zI s103 tx 1).toInt = (zI s80 tx 1).toInt := by rw [(hTo.k ttx (by decide)).eI hE (by decide) rfl]
      have j108 : zI s103 rB = zI σ rB := ((show zI s103 rB = zI s80 rB from funext fun k => (hTo.k trB (by decide)).eI hE (by decide) rfl)).trans j85
      have j109 : zI s103 rT = zI σ rT := ((show zI s103 rT = zI s80 rT from funext fun k => (hTo.k trT (by decide)).eI hE (by decide) rfl)).trans j86
      have j110 : zI s103 rI = zI σ rI := ((show zI s103 rI = zI s80 rI from funext fun k => (hTo.k trI (by decide)).eI hE (by decide) rfl)).trans j87
      have j111 : zI s103 rK = zI σ rK := ((show zI s103 rK = zI s80 rK from funext fun k => (hTo.k trK (by decide)).eI hE (by decide) rfl)).trans j88
      have j112 : zI s103 tx 2 = zI σ tx 2 := ((hTo.k ttx (by decide)).eI hE (by decide) rfl).trans j89
      have j113 : zI s103 tx 3 = zI σ tx 3 := ((hTo.k ttx (by decide)).eI hE (by decide) rfl).trans j90
      have j114 : zI s103 mm 15 = zI σ mm 15 := ((hTo.k t_mm (by decide)).eI hE (by decide) rfl).trans j91
      have j115 : zI s103 mm 16 = zI σ mm 16 := ((hTo.k t_mm (by decide)).eI hE (by decide) rfl).trans j92
      have n116 : zI s103 nw 7 = zI s80 nw 7 ∧ zI s103 nw 8 = zI s80 nw 8 ∧ zI s103 nw 9 = zI s80 nw 9 := ⟨(hTo.k tnw (by decide)).eI hE (by decide) rfl, (hTo.k tnw (by decide)).eI hE (by decide) rfl, (hTo.k tnw (by decide)).eI hE (by decide) rfl⟩
      have n117 : zI s103 nw 7 = zI σ nw 7 ∧ zI s103 nw 8 = zI σ nw 8 ∧ zI s103 nw 9 = zI σ nw 9 := ⟨n116.1.trans n93.1, n116.2.1.trans n93.2.1, n116.2.2.trans n93.2.2⟩
      have n118 : zI s103 sl0 7 = zI s80 sl0 7 ∧ zI s103 sl0 8 = zI s80 sl0 8 ∧ zI s103 sl0 9 = zI s80 sl0 9 := ⟨(hTo.k tsl0 (by decide)).eI hE (by decide) rfl, (hTo.k tsl0 (by decide)).eI hE (by decide) rfl, (hTo.k tsl0 (by decide)).eI hE (by decide) rfl⟩
      have n119 : zI s103 sl0 7 = zI σ sl0 7 ∧ zI s103 sl0 8 = zI σ sl0 8 ∧ zI s103 sl0 9 = zI σ sl0 9 := ⟨n118.1.trans n94.1, n118.2.1.trans n94.2.1, n118.2.2.trans n94.2.2⟩
      have n120 : zI s103 sl1 7 = zI s80 sl1 7 ∧ zI s103 sl1 8 = zI s80 sl1 8 ∧ zI s103 sl1 9 = zI s80 sl1 9 := ⟨(hTo.k tsl1 (by decide)).eI hE (by decide) rfl, (hTo.k tsl1 (by decide)).eI hE (by decide) rfl, (hTo.k tsl1 (by decide)).eI hE (by decide) rfl⟩
      have n121 : zI s103 sl1 7 = zI σ sl1 7 ∧ zI s103 sl1 8 = zI σ sl1 8 ∧ zI s103 sl1 9 = zI σ sl1 9 := ⟨n120.1.trans n95.1, n120.2.1.trans n95.2.1, n120.2.2.trans n95.2.2⟩
      have n122 : ∀ j : Nat, j < 3 → zJ s103 rW j = zJ s80 rW j := fun j hj => by have z9 := f106 j hj; (try rw [show kR (kX κ) mm 1 = rW from erW] at z9); exact z9
      have n123 : ∀ j : Nat, j < 3 → zJ s103 rW j = zJ σ rW j := fun j hj => (n122 j hj).trans (n96 j hj)
      have n124 : zJ s103 rS = zJ σ rS := (show zJ s103 rS = zJ s80 rS from funext fun k => (hTo.k trS (by decide)).eJ hE (by decide) rfl).trans n97
      have z125 : zI s103 so 2 = zI s80 so 2 ∧ zI s103 so 6 = zI s80 so 6 ∧ zI s103 qP = zI s80 qP ∧ zI s103 qO = zI s80 qO := ⟨(hTo.k tso (by decide)).eI hE (by decide) rfl, (hTo.k tso (by decide)).eI hE (by decide) rfl, funext fun q9 => (hTo.k tqP (by decide)).eI hE (by decide) rfl, funext fun q9 => (hTo.k tqO (by decide)).eI hE (by decide) rfl⟩
      have z126 : zI s103 so 2 = zI σ so 2 ∧ zI s103 so 6 = zI σ so 6 ∧ zI s103 qP = zI σ qP ∧ zI s103 qO = zI σ qO := ⟨z125.1.trans z98.1, z125.2.1.trans z98.2.1, z125.2.2.1.trans z98.2.2.1, z125.2.2.2.trans z98.2.2.2⟩
      have z127 : zI s103 mm 7 = zI s80 mm 7 ∧ zI s103 mm 8 = zI s80 mm 8 ∧ zI s103 r5 = zI s80 r5 ∧ zI s103 r6 = zI s80 r6 := ⟨(hTo.k t_mm (by decide)).eI hE (by decide) rfl, (hTo.k t_mm (by decide)).eI hE (by decide) rfl, funext fun q9 => (hTo.k tr5 (by decide)).eI hE (by decide) rfl, funext fun q9 => (hTo.k tr6 (by decide)).eI hE (by decide) rfl⟩
      have z128 : zI s103 mm 7 = zI σ mm 7 ∧ zI s103 mm 8 = zI σ mm 8 ∧ zI s103 r5 = zI σ r5 ∧ zI s103 r6 = zI σ r6 := ⟨z127.1.trans z99.1, z127.2.1.trans z99.2.1, z127.2.2.1.trans z99.2.2.1, z127.2.2.2.trans z99.2.2.2⟩
      have a129 : (zI s103 mm 13).toInt = (zI s80 mm 13).toInt := by rw [(hTo.k t_mm (by decide)).eI hE (by decide) rfl]
      refine lv_lstore (lv' := [(6, .long r104), (5, .int r81), (4, .int i), (3, .ref out), (2, .ref mm), (1, .ref x), (0, .ref b)]) hx hb dL_law_1227 hl (by decide) rfl (fun ls hl => ?_)
      refine lv_goto (tgt := 1432) hx hb dL_law_1229 (by decide) ?_
      have sl0f : zI s103 rI 0 ≠ 0 → SLT κ s103 x mm 0 := fun hq => (hsl 0 (by decide) (fun q9 => hq (by rw [erI] at q9; rw [j110]; exact q9))).tr (by rw [ers5, esl0]; exact n119) (fun j hj => by rw [erS, n124])
      have sl1f : zI s103 rI 1 ≠ 0 → SLT κ s103 x mm 1 := fun hq => (hsl 1 (by decide) (fun q9 => hq (by rw [erI] at q9; rw [j110]; exact q9))).tr (by rw [ers5, esl1]; exact n121) (fun j hj => by rw [erS, n124])
      exact KK s103 _ _ _ hT f105 ⟨by rw [etx]; omega, ⟨by rw [etx, erB, erT, j108, j109]; exact tal_less hal (by omega), by rw [erT, j109]; exact tnn_less hnn (by omega)⟩, ⟨by rw [etx, j112, j114]; exact hco, by rw [etx, j113, j115]; exact hpo⟩, fun i hi => by rw [erI, erK, j110, j111]; exact hkp i hi⟩ (⟨hnw.tr (by rw [enw]; exact n117) (by rw [erW]; exact n123), fun i hi => (show i = 0 ∨ i = 1 by omega).elim (fun e9 => by rw [e9, erI]; exact sl0f) (fun e9 => by rw [e9, erI]; exact sl1f)⟩) (hsm.tr (by rw [eso, eqP, eqO]; exact z126) (by rw [er5, er6]; exact z128)) (lv_sub hl [2, 3, 4, 5, 6] rfl)
    · have c7 := gi_ne c9
      refine lv_iconst (v := 1) hx hb dL_law_1219 (by decide) ?_
      refine lv_goto (tgt := 1224) hx hb dL_law_1220 (by decide) ?_
      have hTo := hT
      refine tVl (n := 2) (As := [.int y1, .int 1]) (rest := []) hx hb hml hown hg hT hK hX (X6_errorWith l (kX κ) s80 mm y1 1 (hT.k t_mm (by decide)) isB1 R83) sub_gZb_fA (mwV k1658 k1659 k1660 k92 k1661) ⟨rfl, by decide, by decide, by decide +kernel⟩ ⟨(Nat.le_of_ble_eq_true rfl), (Nat.le_of_ble_eq_true rfl)⟩ (hT.o20 (hT.k t_mm (by decide))) rfl rfl hl.1 rfl (Nat.le_of_ble_eq_true rfl) dL_law_1224 zx (fun r131 s130 H locs hφ hE hT => ?_)
      obtain ⟨f132, f133⟩ := hφ
      have a134 : (zI s130 tx 1).toInt = (zI s80 tx 1).toInt := by rw [(hTo.k ttx (by decide)).eI hE (by decide) rfl]
      have j135 : zI s130 rB = zI σ rB := ((show zI s130 rB = zI s80 rB from funext fun k => (hTo.k trB (by decide)).eI hE (by decide) rfl)).trans j85
      have j136 : zI s130 rT = zI σ rT := ((show zI s130 rT = zI s80 rT from funext fun k => (hTo.k trT (by decide)).eI hE (by decide) rfl)).trans j86
      have j137 : zI s130 rI = zI σ rI := ((show zI s130 rI = zI s80 rI from funext fun k => (hTo.k trI (by decide)).eI hE (by decide) rfl)).trans j87
      have j138 : zI s130 rK = zI σ rK := ((show zI s130 rK = zI s80 rK from funext fun k => (hTo.k trK (by decide)).eI hE (by decide) rfl)).trans j88
      have j139 : zI s130 tx 2 = zI σ tx 2 := ((hTo.k ttx (by decide)).eI hE (by decide) rfl).trans j89
      have j140 : zI s130 tx 3 = zI σ tx 3 := ((hTo.k ttx (by decide)).eI hE (by decide) rfl).trans j90
      have j141 : zI s130 mm 15 = zI σ mm 15 := ((hTo.k t_mm (by decide)).eI hE (by decide) rfl).trans j91
      have j142 : zI s130 mm 16 = zI σ mm 16 := ((hTo.k t_mm (by decide)).eI hE (by decide) rfl).trans j92
      have n143 : zI s130 nw 7 = zI s80 nw 7 ∧ zI s130 nw 8 = zI s80 nw 8 ∧ zI s130 nw 9 = zI s80 nw 9 := ⟨(hTo.k tnw (by decide)).eI hE (by decide) rfl, (hTo.k tnw (by decide)).eI hE (by decide) rfl, (hTo.k tnw (by decide)).eI hE (by decide) rfl⟩
      have n144 : zI s130 nw 7 = zI σ nw 7 ∧ zI s130 nw 8 = zI σ nw 8 ∧ zI s130 nw 9 = zI σ nw 9 := ⟨n143.1.trans n93.1, n143.2.1.trans n93.2.1, n143.2.2.trans n93.2.2⟩
      have n145 : zI s130 sl0 7 = zI s80 sl0 7 ∧ zI s130 sl0 8 = zI s80 sl0 8 ∧ zI s130 sl0 9 = zI s80 sl0 9 := ⟨(hTo.k tsl0 (by decide)).eI hE (by decide) rfl, (hTo.k tsl0 (by decide)).eI hE (by decide) rfl, (hTo.k tsl0 (by decide)).eI hE (by decide) rfl⟩
      have n146 : zI s130 sl0 7 = zI σ sl0 7 ∧ zI s130 sl0 8 = zI σ sl0 8 ∧ zI s130 sl0 9 = zI σ sl0 9 := ⟨n145.1.trans n94.1, n145.2.1.trans n94.2.1, n145.2.2.trans n94.2.2⟩
      have n147 : zI s130 sl1 7 = zI s80 sl1 7 ∧ zI s130 sl1 8 = zI s80 sl1 8 ∧ zI s130 sl1 9 = zI s80 sl1 9 := ⟨(hTo.k tsl1 (by decide)).eI hE (by decide) rfl, (hTo.k tsl1 (by decide)).eI hE (by decide) rfl, (hTo.k tsl1 (by decide)).eI hE (by decide) rfl⟩
      have n148 : zI s130 sl1 7 = zI σ sl1 7 ∧ zI s130 sl1 8 = zI σ sl1 8 ∧ zI s130 sl1 9 = zI σ sl1 9 := ⟨n147.1.trans n95.1, n147.2.1.trans n95.2.1, n147.2.2.trans n95.2.2⟩
      have n149 : ∀ j : Nat, j < 3 → zJ s130 rW j = zJ s80 rW j := fun j hj => by have z9 := f133 j hj; (try rw [show kR (kX κ) mm 1 = rW from erW] at z9); exact z9
      have n150 : ∀ j : Nat, j < 3 → zJ s130 rW j = zJ σ rW j := fun j hj => (n149 j hj).trans (n96 j hj)
      have n151 : zJ s130 rS = zJ σ rS := (show zJ s130 rS = zJ s80 rS from funext fun k => (hTo.k trS (by decide)).eJ hE (by decide) rfl).trans n97
      have z152 : zI s130 so 2 = zI s80 so 2 ∧ zI s130 so 6 = zI s80 so 6 ∧ zI s130 qP = zI s80 qP ∧ zI s130 qO = zI s80 qO := ⟨(hTo.k tso (by decide)).eI hE (by decide) rfl, (hTo.k tso (by decide)).eI hE (by decide) rfl, funext fun q9 => (hTo.k tqP (by decide)).eI hE (by decide) rfl, funext fun q9 => (hTo.k tqO (by decide)).eI hE (by decide) rfl⟩
      have z153 : zI s130 so 2 = zI σ so 2 ∧ zI s130 so 6 = zI σ so 6 ∧ zI s130 qP = zI σ qP ∧ zI s130 qO = zI σ qO := ⟨z152.1.trans z98.1, z152.2.1.trans z98.2.1, z152.2.2.1.trans z98.2.2.1, z152.2.2.2.trans z98.2.2.2⟩
      have z154 : zI s130 mm 7 = zI s80 mm 7 ∧ zI s130 mm 8 = zI s80 mm 8 ∧ zI s130 r5 = zI s80 r5 ∧ zI s130 r6 = zI s80 r6 := ⟨(hTo.k t_mm (by decide)).eI hE (by decide) rfl, (hTo.k t_mm (by decide)).eI hE (by decide) rfl, funext fun q9 => (hTo.k tr5 (by decide)).eI hE (by decide) rfl, funext fun q9 => (hTo.k tr6 (by decide)).eI hE (by decide) rfl⟩
      have z155 : zI s130 mm 7 = zI σ mm 7 ∧ zI s130 mm 8 = zI σ mm 8 ∧ zI s130 r5 = zI σ r5 ∧ zI s130 r6 = zI σ r6 := ⟨z154.1.trans z99.1, z154.2.1.trans z99.2.1, z154.2.2.1.trans z99.2.2.1, z154.2.2.2.trans z99.2.2.2⟩
      have a156 : (zI s130 mm 13).toInt = (zI s80 mm 13).toInt := by rw [(hTo.k t_mm (by decide)).eI hE (by decide) rfl]
      refine lv_lstore (lv' := [(6, .long r131), (5, .int r81), (4, .int i), (3, .ref out), (2, .ref mm), (1, .ref x), (0, .ref b)]) hx hb dL_law_1227 hl (by decide) rfl (fun ls hl => ?_)
      refine lv_goto (tgt := 1432) hx hb dL_law_1229 (by decide) ?_
      have sl0f : zI s130 rI 0 ≠ 0 → SLT κ s130 x mm 0 := fun hq => (hsl 0 (by decide) (fun q9 => hq (by rw [erI] at q9; rw [j137]; exact q9))).tr (by rw [ers5, esl0]; exact n146) (fun j hj => by rw [erS, n151])
      have sl1f : zI s130 rI 1 ≠ 0 → SLT κ s130 x mm 1 := fun hq => (hsl 1 (by decide) (fun q9 => hq (by rw [erI] at q9; rw [j137]; exact q9))).tr (by rw [ers5, esl1]; exact n148) (fun j hj => by rw [erS, n151])
      exact KK s130 _ _ _ hT f132 ⟨by rw [etx]; omega, ⟨by rw [etx, erB, erT, j135, j136]; exact tal_less hal (by omega), by rw [erT, j136]; exact tnn_less hnn (by omega)⟩, ⟨by rw [etx, j139, j141]; exact hco, by rw [etx, j140, j142]; exact hpo⟩, fun i hi => by rw [erI, erK, j137, j138]; exact hkp i hi⟩ (⟨hnw.tr (by rw [enw]; exact n144) (by rw [erW]; exact n150), fun i hi => (show i = 0 ∨ i = 1 by omega).elim (fun e9 => by rw [e9, erI]; exact sl0f) (fun e9 => by rw [e9, erI]; exact sl1f)⟩) (hsm.tr (by rw [eso, eqP, eqO]; exact z153) (by rw [er5, er6]; exact z155)) (lv_sub hl [2, 3, 4, 5, 6] rfl)
set_option maxHeartbeats 4000000 in
set_option maxRecDepth 100000 in
theorem lc_34 (l : Launch) (κ : Kt) (σ0 : Gh) (x mm out b : Nat) (t_x : zk σ0 x 7) (t_mm : zk σ0 mm 20) (t_out : zk σ0 out 24) (ttx0 : zk σ0 (kR κ x 0) 6) (hdis : DIS κ x) (hlt : l.stackTraces = false) {p : Program} {e : Env} {s : State} {m : MethodId} {below : List Frame} {meth : Method} {c : Code} {L : Nat} {xs : Nat → Int32} {i : Int32} {Q9 : State → Prop} (hx : p.tables.exec = Jvm.exec) (hb : c.code = cL_law) (hml : c.maxLocals = 9) (hown : s.vm.findClass RL = some m.cls) (hg : ∀ w ∈ GW, w.before #[Value.ref b] s = true) (hK : va_K κ.1 vwCl (kTy κ) s) (hX : XY κ (tA σ0 s.heap.size) s s.heap) (hXs : va_X b L xs s s.heap) (hbl : b < s.heap.size) (hbA : ¬ tA σ0 s.heap.size b) (zx : zroomX κ s room_1 601024 7293034) (hi0 : 0 ≤ i.toInt) (hi1 : i.toInt + 6 ≤ L) (hL9 : L ≤ 3072) {σ : Gh} {H : Heap} {locs : List Loc} {ls : Array Slot} (hT : TS κ fA σ0 σ s H locs) (hR : RI κ σ mm) (hrel : LREL κ σ x mm) (hsr : SREL κ σ x mm) (hsm : SMP κ σ x mm) (hl : lv_has ls 9 [(4, .int i), (3, .ref out), (2, .ref mm), (1, .ref x), (0, .ref b)]) (KK : ∀ (σ1 : Gh) (H : Heap) (locs : List Loc) (ls : Array Slot), TS (kX κ) fA σ0 σ1 s H locs → RI (kX κ) σ1 mm → LREL κ σ1 x mm → SREL κ σ1 x mm → SMP κ σ1 x mm → lv_has ls 9 [(4, .int i), (3, .ref out), (2, .ref mm), (1, .ref x), (0, .ref b)] → W p l e room_1 s m #[Value.ref b] below meth c H locs 601024 7293034 Q9 (F0 m 1432 ls [])) : W p l e room_1 s m #[Value.ref b] below meth c H locs 601024 7293034 Q9 (F0 m 1232 ls []) := by
  obtain ⟨y1, hy1⟩ : ∃ z, z = xs (ix i + 1) := ⟨_, rfl⟩
  obtain ⟨y2, hy2⟩ : ∃ z, z = xs (ix i + 2) := ⟨_, rfl⟩
  obtain ⟨y3, hy3⟩ : ∃ z, z = xs (ix i + 3) := ⟨_, rfl⟩
  obtain ⟨y4, hy4⟩ : ∃ z, z = xs (ix i + 4) := ⟨_, rfl⟩
  obtain ⟨y5, hy5⟩ : ∃ z, z = xs (ix i + 5) := ⟨_, rfl⟩
  have n0 : (0 : Int32).toInt = 0 := by decide
  have n1 : (1 : Int32).toInt = 1 := by decide
  have n2 : (2 : Int32).toInt = 2 := by decide
  have n3 : (3 : Int32).toInt = 3 := by decide
  have n4 : (4 : Int32).toInt = 4 := by decide
  have n5 : (5 : Int32).toInt = 5 := by decide
  obtain ⟨tx, etx⟩ : ∃ z, kR κ x 0 = z := ⟨_, rfl⟩
  have ttx : zk σ0 tx 6 := by rw [← etx]; exact ttx0
  obtain ⟨rB, erB⟩ : ∃ z, kR κ tx 0 = z := ⟨_, rfl⟩
  have trB : zk σ0 rB 14 := by rw [← erB]; exact hT.kr (hT.ref (hT.k ttx (by decide)) (by decide) (by decide) (by decide)) (by decide) (by decide)
  obtain ⟨rT, erT⟩ : ∃ z, kR κ mm 12 = z := ⟨_, rfl⟩
  have trT : zk σ0 rT 23 := by rw [← erT]; exact hT.kr (hT.ref (hT.k t_mm (by decide)) (by decide) (by decide) (by decide)) (by decide) (by decide)
  obtain ⟨rI, erI⟩ : ∃ z, kR κ x 6 = z := ⟨_, rfl⟩
  have trI : zk σ0 rI 13 := by rw [← erI]; exact hT.kr (hT.ref (hT.k t_x (by decide)) (by decide) (by decide) (by decide)) (by decide) (by decide)
  obtain ⟨rK, erK⟩ : ∃ z, kR κ mm 4 = z := ⟨_, rfl⟩
  have trK : zk σ0 rK 29 := by rw [← erK]; exact hT.kr (hT.ref (hT.k t_mm (by decide)) (by decide) (by decide) (by decide)) (by decide) (by decide)
  obtain ⟨hlen, ⟨hal, hnn⟩, ⟨hco, hpo⟩, hkp⟩ := hrel
  rw [etx] at hlen hal hco hpo
  rw [erB, erT] at hal
  rw [erT] at hnn
  rw [erI, erK] at hkp
  have btx := (hT.P (hT.k ttx (by decide)) (by decide)).1
  have btxl := btx.1
  have btxh := btx.2
  obtain ⟨nw, enw⟩ : ∃ z, kR κ x 3 = z := ⟨_, rfl⟩
  have tnw : zk σ0 nw 3 := by rw [← enw]; exact hT.kr (hT.ref (hT.k t_x (by decide)) (by decide) (by decide) (by decide)) (by decide) (by decide)
  obtain ⟨tr, etr⟩ : ∃ z, kR κ x 4 = z := ⟨_, rfl⟩
  have ttr : zk σ0 tr 3 := by rw [← etr]; exact hT.kr (hT.ref (hT.k t_x (by decide)) (by decide) (by decide) (by decide)) (by decide) (by decide)
  obtain ⟨rs5, ers5⟩ : ∃ z, kR κ x 5 = z := ⟨_, rfl⟩
  have trs5 : zk σ0 rs5 12 := by rw [← ers5]; exact hT.kr (hT.ref (hT.k t_x (by decide)) (by decide) (by decide) (by decide)) (by decide) (by decide)
  obtain ⟨sl0, esl0⟩ : ∃ z, kR κ rs5 0 = z := ⟨_, rfl⟩
  have tsl0 : zk σ0 sl0 3 := by rw [← esl0]; exact hT.kr (hT.ref (hT.k trs5 (by decide)) (by decide) (by decide) (by decide)) (by decide) (by decide)
  obtain ⟨sl1, esl1⟩ : ∃ z, kR κ rs5 1 = z := ⟨_, rfl⟩
  have tsl1 : zk σ0 sl1 3 := by rw [← esl1]; exact hT.kr (hT.ref (hT.k trs5 (by decide)) (by decide) (by decide) (by decide)) (by decide) (by decide)
  obtain ⟨rW, erW⟩ : ∃ z, kR κ mm 1 = z := ⟨_, rfl⟩
  have trW : zk σ0 rW 21 := by rw [← erW]; exact hT.kr (hT.ref (hT.k t_mm (by decide)) (by decide) (by decide) (by decide)) (by decide) (by decide)
  obtain ⟨rS, erS⟩ : ∃ z, kR κ mm 3 = z := ⟨_, rfl⟩
  have trS : zk σ0 rS 22 := by rw [← erS]; exact hT.kr (hT.ref (hT.k t_mm (by decide)) (by decide) (by decide) (by decide)) (by decide) (by decide)
  obtain ⟨so, eso⟩ : ∃ z, kR κ x 1 = z := ⟨_, rfl⟩
  have tso : zk σ0 so 4 := by rw [← eso]; exact hT.kr (hT.ref (hT.k t_x (by decide)) (by decide) (by decide) (by decide)) (by decide) (by decide)
  obtain ⟨qP, eqP⟩ : ∃ z, kR κ so 0 = z := ⟨_, rfl⟩
  have tqP : zk σ0 qP 8 := by rw [← eqP]; exact hT.kr (hT.ref (hT.k tso (by decide)) (by decide) (by decide) (by decide)) (by decide) (by decide)
  obtain ⟨qO, eqO⟩ : ∃ z, kR κ so 1 = z := ⟨_, rfl⟩
  have tqO : zk σ0 qO 16 := by rw [← eqO]; exact hT.kr (hT.ref (hT.k tso (by decide)) (by decide) (by decide) (by decide)) (by decide) (by decide)
  obtain ⟨r5, er5⟩ : ∃ z, kR κ mm 5 = z := ⟨_, rfl⟩
  have tr5 : zk σ0 r5 25 := by rw [← er5]; exact hT.kr (hT.ref (hT.k t_mm (by decide)) (by decide) (by decide) (by decide)) (by decide) (by decide)
  obtain ⟨r6, er6⟩ : ∃ z, kR κ mm 6 = z := ⟨_, rfl⟩
  have tr6 : zk σ0 r6 26 := by rw [← er6]; exact hT.kr (hT.ref (hT.k t_mm (by decide)) (by decide) (by decide) (by decide)) (by decide) (by decide)
  obtain ⟨hnw, hsl⟩ := hsr
  obtain ⟨hd1, ⟨hd2, hd3⟩, hd4, hd5, hd6, hd7⟩ := hdis
  have d_nt : nw ≠ tr := by rw [← enw, ← etr]; exact hd2
  have d_n0 : nw ≠ sl0 := by rw [← enw, ← esl0, ← ers5]; exact hd3 0 (by decide)
  have d_t0 : sl0 ≠ tr := by rw [← etr, ← esl0, ← ers5]; exact fun q => hd4 0 (by decide) q.symm
  have d_n1 : nw ≠ sl1 := by rw [← enw, ← esl1, ← ers5]; exact hd3 1 (by decide)
  have d_t1 : sl1 ≠ tr := by rw [← etr, ← esl1, ← ers5]; exact fun q => hd4 1 (by decide) q.symm
  have d_01 : sl0 ≠ sl1 := by rw [← esl0, ← esl1, ← ers5]; exact hd5
  have knw : zk σ nw 3 := hT.k tnw (by decide)
  have ksl0 : zk σ sl0 3 := hT.k tsl0 (by decide)
  have ksl1 : zk σ sl1 3 := hT.k tsl1 (by decide)
  refine lv_aload_n hx hb dL_law_1232 rfl (lv_at hl 3 rfl) ?_
  refine lv_aload_n hx hb dL_law_1233 rfl (lv_at hl 4 rfl) ?_
  refine lv_iload hx hb dL_law_1234 (lv_at hl 0 rfl) ?_
  refine lv_iconst (v := 1) hx hb dL_law_1236 (by decide) ?_
  refine lv_iadd hx hb dL_law_1237 ?_
  refine g_add (by omega) (by omega) (fun t1 ht1 => ?_)
  refine va_sld hx hb hXs hbl hbA hT.2.2.2 (g_in (by omega) (by omega)) dL_law_1238 ?_
  refine ti y1 (by rw [hy1]; exact congrArg xs (show t1.toNatClampNeg = ix i + 1 from by show t1.toInt.toNat = ix i + 1; unfold ix; omega)) ?_
  refine lv_aload_n hx hb dL_law_1239 rfl (lv_at hl 1 rfl) ?_
  have hTo := hT
  refine tHi (n := 3) (As := [.ref x, .int y1, .ref out]) (rest := []) hx hb hml hown hg hT hK hX (L_bestThreshold l κ σ x y1 out (hT.k t_x (by decide)) (hT.k t_out (by decide)) hlt) sub_hfCp_fA (mwHS k1160 k1161 k83 k1162) ⟨by decide, by decide, by decide +kernel⟩ ⟨(Nat.le_of_ble_eq_true rfl), (Nat.le_of_ble_eq_true rfl)⟩ rfl hl.1 rfl (Nat.le_of_ble_eq_true rfl) dL_law_1240 zx (fun r3 s2 H locs hφ hE hT => ?_)
  have f4 := hφ
  have R5 := hR.ext hE ⟨rfl, rfl, fun _ => rfl, fun _ => rfl, fun _ => rfl, fun _ => rfl⟩
  have a6 : (zI s2 tx 1).toInt = (zI σ tx 1).toInt := by rw [(hTo.k ttx (by decide)).eI hE (by decide) rfl]
  have j7 : zI s2 rB = zI σ rB := (show zI s2 rB = zI σ rB from funext fun k => (hTo.k trB (by decide)).eI hE (by decide) rfl)
  have j8 : zI s2 rT = zI σ rT := (show zI s2 rT = zI σ rT from funext fun k => (hTo.k trT (by decide)).eI hE (by decide) rfl)
  have j9 : zI s2 rI = zI σ rI := (show zI s2 rI = zI σ rI from funext fun k => (hTo.k trI (by decide)).eI hE (by decide) rfl)
  have j10 : zI s2 rK = zI σ rK := (show zI s2 rK = zI σ rK from funext fun k => (hTo.k trK (by decide)).eI hE (by decide) rfl)
  have j11 : zI s2 tx 2 = zI σ tx 2 := (hTo.k ttx (by decide)).eI hE (by decide) rfl
  have j12 : zI s2 tx 3 = zI σ tx 3 := (hTo.k ttx (by decide)).eI hE (by decide) rfl
  have j13 : zI s2 mm 15 = zI σ mm 15 := (hTo.k t_mm (by decide)).eI hE (by decide) rfl
  have j14 : zI s2 mm 16 = zI σ mm 16 := (hTo.k t_mm (by decide)).eI hE (by decide) rfl
  have f49 := f4
  try rw [etr] at f49
  try rw [enw] at f49
  have n15 : zI s2 nw 7 = zI σ nw 7 ∧ zI s2 nw 8 = zI σ nw 8 ∧ zI s2 nw 9 = zI σ nw 9 := f49 nw d_nt (hTo.k tnw (by decide))
  have n16 : zI s2 sl0 7 = zI σ sl0 7 ∧ zI s2 sl0 8 = zI σ sl0 8 ∧ zI s2 sl0 9 = zI σ sl0 9 := f49 sl0 d_t0 (hTo.k tsl0 (by decide))
  have n17 : zI s2 sl1 7 = zI σ sl1 7 ∧ zI s2 sl1 8 = zI σ sl1 8 ∧ zI s2 sl1 9 = zI σ sl1 9 := f49 sl1 d_t1 (hTo.k tsl1 (by decide))
  have n18 : ∀ j : Nat, j < 3 → zJ s2 rW j = zJ σ rW j := fun j hj => (hTo.k trW (by decide)).eJ hE (by decide) rfl
  have n19 : zJ s2 rS = zJ σ rS := (show zJ s2 rS = zJ σ rS from funext fun k => (hTo.k trS (by decide)).eJ hE (by decide) rfl)
  have z20 : zI s2 so 2 = zI σ so 2 ∧ zI s2 so 6 = zI σ so 6 ∧ zI s2 qP = zI σ qP ∧ zI s2 qO = zI σ qO := ⟨(hTo.k tso (by decide)).eI hE (by decide) rfl, (hTo.k tso (by decide)).eI hE (by decide) rfl, funext fun q9 => (hTo.k tqP (by decide)).eI hE (by decide) rfl, funext fun q9 => (hTo.k tqO (by decide)).eI hE (by decide) rfl⟩
  have z21 : zI s2 mm 7 = zI σ mm 7 ∧ zI s2 mm 8 = zI σ mm 8 ∧ zI s2 r5 = zI σ r5 ∧ zI s2 r6 = zI σ r6 := ⟨(hTo.k t_mm (by decide)).eI hE (by decide) rfl, (hTo.k t_mm (by decide)).eI hE (by decide) rfl, funext fun q9 => (hTo.k tr5 (by decide)).eI hE (by decide) rfl, funext fun q9 => (hTo.k tr6 (by decide)).eI hE (by decide) rfl⟩
  have a22 : (zI s2 mm 13).toInt = (zI σ mm 13).toInt := by rw [(hTo.k t_mm (by decide)).eI hE (by decide) rfl]
  refine lv_istore (lv' := [(5, .int r3), (4, .int i), (3, .ref out), (2, .ref mm), (1, .ref x), (0, .ref b)]) hx hb dL_law_1243 hl (by decide) rfl (fun ls hl => ?_)
  refine lv_aload_n hx hb dL_law_1245 rfl (lv_at hl 3 rfl) ?_
  refine lv_aload_n hx hb dL_law_1246 rfl (lv_at hl 5 rfl) ?_
  refine lv_iload hx hb dL_law_1247 (lv_at hl 1 rfl) ?_
  refine lv_iconst (v := 1) hx hb dL_law_1249 (by decide) ?_
  refine lv_iadd hx hb dL_law_1250 ?_
  refine g_add (by omega) (by omega) (fun t23 ht23 => ?_)
  refine va_sld hx hb hXs hbl hbA hT.2.2.2 (g_in (by omega) (by omega)) dL_law_1251 ?_
  refine ti y1 (by rw [hy1]; exact congrArg xs (show t23.toNatClampNeg = ix i + 1 from by show t23.toInt.toNat = ix i + 1; unfold ix; omega)) ?_
  have hTo := hT
  refine tVi (n := 1) (As := [.int y1]) (rest := []) hx hb hml hown hg hT hK hX (X6_bestThreshold l (kX κ) s2 mm y1 (hT.k t_mm (by decide)) R5) sub_gZb_fA (mwV k1666 k1667 k1668 k92 k1669) ⟨rfl, by decide, by decide, by decide +kernel⟩ ⟨(Nat.le_of_ble_eq_true rfl), (Nat.le_of_ble_eq_true rfl)⟩ (hT.o20 (hT.k t_mm (by decide))) rfl rfl hl.1 rfl (Nat.le_of_ble_eq_true rfl) dL_law_1252 zx (fun r25 s24 H locs hφ hE hT => ?_)
  obtain ⟨f26, f27⟩ := hφ
  have a28 : (zI s24 tx 1).toInt = (zI s2 tx 1).toInt := by rw [(hTo.k ttx (by decide)).eI hE (by decide) rfl]
  have j29 : zI s24 rB = zI σ rB := ((show zI s24 rB = zI s2 rB from funext fun k => (hTo.k trB (by decide)).eI hE (by decide) rfl)).trans j7
  have j30 : zI s24 rT = zI σ rT := ((show zI s24 rT = zI s2 rT from funext fun k => (hTo.k trT (by decide)).eI hE (by decide) rfl)).trans j8
  have j31 : zI s24 rI = zI σ rI := ((show zI s24 rI = zI s2 rI from funext fun k => (hTo.k trI (by decide)).eI hE (by decide) rfl)).trans j9
  have j32 : zI s24 rK = zI σ rK := ((show zI s24 rK = zI s2 rK from funext fun k => (hTo.k trK (by decide)).eI hE (by decide) rfl)).trans j10
  have j33 : zI s24 tx 2 = zI σ tx 2 := ((hTo.k ttx (by decide)).eI hE (by decide) rfl).trans j11
  have j34 : zI s24 tx 3 = zI σ tx 3 := ((hTo.k ttx (by decide)).eI hE (by decide) rfl).trans j12
  have j35 : zI s24 mm 15 = zI σ mm 15 := ((hTo.k t_mm (by decide)).eI hE (by decide) rfl).trans j13
  have j36 : zI s24 mm 16 = zI σ mm 16 := ((hTo.k t_mm (by decide)).eI hE (by decide) rfl).trans j14
  have n37 : zI s24 nw 7 = zI s2 nw 7 ∧ zI s24 nw 8 = zI s2 nw 8 ∧ zI s24 nw 9 = zI s2 nw 9 := ⟨(hTo.k tnw (by decide)).eI hE (by decide) rfl, (hTo.k tnw (by decide)).eI hE (by decide) rfl, (hTo.k tnw (by decide)).eI hE (by decide) rfl⟩
  have n38 : zI s24 nw 7 = zI σ nw 7 ∧ zI s24 nw 8 = zI σ nw 8 ∧ zI s24 nw 9 = zI σ nw 9 := ⟨n37.1.trans n15.1, n37.2.1.trans n15.2.1, n37.2.2.trans n15.2.2⟩
  have n39 : zI s24 sl0 7 = zI s2 sl0 7 ∧ zI s24 sl0 8 = zI s2 sl0 8 ∧ zI s24 sl0 9 = zI s2 sl0 9 := ⟨(hTo.k tsl0 (by decide)).eI hE (by decide) rfl, (hTo.k tsl0 (by decide)).eI hE (by decide) rfl, (hTo.k tsl0 (by decide)).eI hE (by decide) rfl⟩
  have n40 : zI s24 sl0 7 = zI σ sl0 7 ∧ zI s24 sl0 8 = zI σ sl0 8 ∧ zI s24 sl0 9 = zI σ sl0 9 := ⟨n39.1.trans n16.1, n39.2.1.trans n16.2.1, n39.2.2.trans n16.2.2⟩
  have n41 : zI s24 sl1 7 = zI s2 sl1 7 ∧ zI s24 sl1 8 = zI s2 sl1 8 ∧ zI s24 sl1 9 = zI s2 sl1 9 := ⟨(hTo.k tsl1 (by decide)).eI hE (by decide) rfl, (hTo.k tsl1 (by decide)).eI hE (by decide) rfl, (hTo.k tsl1 (by decide)).eI hE (by decide) rfl⟩
  have n42 : zI s24 sl1 7 = zI σ sl1 7 ∧ zI s24 sl1 8 = zI σ sl1 8 ∧ zI s24 sl1 9 = zI σ sl1 9 := ⟨n41.1.trans n17.1, n41.2.1.trans n17.2.1, n41.2.2.trans n17.2.2⟩
  have n43 : ∀ j : Nat, j < 3 → zJ s24 rW j = zJ s2 rW j := fun j hj => by have z9 := f27 j hj; (try rw [show kR (kX κ) mm 1 = rW from erW] at z9); exact z9
  have n44 : ∀ j : Nat, j < 3 → zJ s24 rW j = zJ σ rW j := fun j hj => (n43 j hj).trans (n18 j hj)
  have n45 : zJ s24 rS = zJ σ rS := (show zJ s24 rS = zJ s2 rS from funext fun k => (hTo.k trS (by decide)).eJ hE (by decide) rfl).trans n19
  have z46 : zI s24 so 2 = zI s2 so 2 ∧ zI s24 so 6 = zI s2 so 6 ∧ zI s24 qP = zI s2 qP ∧ zI s24 qO = zI s2 qO := ⟨(hTo.k tso (by decide)).eI hE (by decide) rfl, (hTo.k tso (by decide)).eI hE (by decide) rfl, funext fun q9 => (hTo.k tqP (by decide)).eI hE (by decide) rfl, funext fun q9 => (hTo.k tqO (by decide)).eI hE (by decide) rfl⟩
  have z47 : zI s24 so 2 = zI σ so 2 ∧ zI s24 so 6 = zI σ so 6 ∧ zI s24 qP = zI σ qP ∧ zI s24 qO = zI σ qO := ⟨z46.1.trans z20.1, z46.2.1.trans z20.2.1, z46.2.2.1.trans z20.2.2.1, z46.2.2.2.trans z20.2.2.2⟩
  have z48 : zI s24 mm 7 = zI s2 mm 7 ∧ zI s24 mm 8 = zI s2 mm 8 ∧ zI s24 r5 = zI s2 r5 ∧ zI s24 r6 = zI s2 r6 := ⟨(hTo.k t_mm (by decide)).eI hE (by decide) rfl, (hTo.k t_mm (by decide)).eI hE (by decide) rfl, funext fun q9 => (hTo.k tr5 (by decide)).eI hE (by decide) rfl, funext fun q9 => (hTo.k tr6 (by decide)).eI hE (by decide) rfl⟩
  have z49 : zI s24 mm 7 = zI σ mm 7 ∧ zI s24 mm 8 = zI σ mm 8 ∧ zI s24 r5 = zI σ r5 ∧ zI s24 r6 = zI σ r6 := ⟨z48.1.trans z21.1, z48.2.1.trans z21.2.1, z48.2.2.1.trans z21.2.2.1, z48.2.2.2.trans z21.2.2.2⟩
  have a50 : (zI s24 mm 13).toInt = (zI s2 mm 13).toInt := by rw [(hTo.k t_mm (by decide)).eI hE (by decide) rfl]
  refine lv_istore (lv' := [(6, .int r25), (5, .int r3), (4, .int i), (3, .ref out), (2, .ref mm), (1, .ref x), (0, .ref b)]) hx hb dL_law_1255 hl (by decide) rfl (fun ls hl => ?_)
  refine lv_goto (tgt := 1432) hx hb dL_law_1257 (by decide) ?_
  have sl0f : zI s24 rI 0 ≠ 0 → SLT κ s24 x mm 0 := fun hq => (hsl 0 (by decide) (fun q9 => hq (by rw [erI] at q9; rw [j31]; exact q9))).tr (by rw [ers5, esl0]; exact n40) (fun j hj => by rw [erS, n45])
  have sl1f : zI s24 rI 1 ≠ 0 → SLT κ s24 x mm 1 := fun hq => (hsl 1 (by decide) (fun q9 => hq (by rw [erI] at q9; rw [j31]; exact q9))).tr (by rw [ers5, esl1]; exact n42) (fun j hj => by rw [erS, n45])
  exact KK s24 _ _ _ hT f26 ⟨by rw [etx]; omega, ⟨by rw [etx, erB, erT, j29, j30]; exact tal_less hal (by omega), by rw [erT, j30]; exact tnn_less hnn (by omega)⟩, ⟨by rw [etx, j33, j35]; exact hco, by rw [etx, j34, j36]; exact hpo⟩, fun i hi => by rw [erI, erK, j31, j32]; exact hkp i hi⟩ (⟨hnw.tr (by rw [enw]; exact n38) (by rw [erW]; exact n44), fun i hi => (show i = 0 ∨ i = 1 by omega).elim (fun e9 => by rw [e9, erI]; exact sl0f) (fun e9 => by rw [e9, erI]; exact sl1f)⟩) (hsm.tr (by rw [eso, eqP, eqO]; exact z47) (by rw [er5, er6]; exact z49)) (lv_sub hl [2, 3, 4, 5, 6] rfl)
set_option maxHeartbeats 4000000 in
set_option maxRecDepth 100000 in
theorem lc_36 (l : Launch) (κ : Kt) (σ0 : Gh) (x mm out b : Nat) (t_x : zk σ0 x 7) (t_mm : zk σ0 mm 20) (t_out : zk σ0 out 24) (ttx0 : zk σ0 (kR κ x 0) 6) (hdis : DIS κ x) (hlt : l.stackTraces = false) {p : Program} {e : Env} {s : State} {m : MethodId} {below : List Frame} {meth : Method} {c : Code} {L : Nat} {xs : Nat → Int32} {i : Int32} {Q9 : State → Prop} (hx : p.tables.exec = Jvm.exec) (hb : c.code = cL_law) (hml : c.maxLocals = 9) (hown : s.vm.findClass RL = some m.cls) (hg : ∀ w ∈ GW, w.before #[Value.ref b] s = true) (hK : va_K κ.1 vwCl (kTy κ) s) (hX : XY κ (tA σ0 s.heap.size) s s.heap) (hXs : va_X b L xs s s.heap) (hbl : b < s.heap.size) (hbA : ¬ tA σ0 s.heap.size b) (zx : zroomX κ s room_1 601024 7293034) (hi0 : 0 ≤ i.toInt) (hi1 : i.toInt + 6 ≤ L) (hL9 : L ≤ 3072) {σ : Gh} {H : Heap} {locs : List Loc} {ls : Array Slot} (hT : TS κ fA σ0 σ s H locs) (hR : RI κ σ mm) (hrel : LREL κ σ x mm) (hsr : SREL κ σ x mm) (hsm : SMP κ σ x mm) (hl : lv_has ls 9 [(4, .int i), (3, .ref out), (2, .ref mm), (1, .ref x), (0, .ref b)]) (KK : ∀ (σ1 : Gh) (H : Heap) (locs : List Loc) (ls : Array Slot), TS (kX κ) fA σ0 σ1 s H locs → RI (kX κ) σ1 mm → LREL κ σ1 x mm → SREL κ σ1 x mm → SMP κ σ1 x mm → lv_has ls 9 [(4, .int i), (3, .ref out), (2, .ref mm), (1, .ref x), (0, .ref b)] → W p l e room_1 s m #[Value.ref b] below meth c H locs 601024 7293034 Q9 (F0 m 1432 ls [])) : W p l e room_1 s m #[Value.ref b] below meth c H locs 601024 7293034 Q9 (F0 m 1328 ls []) := by
  obtain ⟨y1, hy1⟩ : ∃ z, z = xs (ix i + 1) := ⟨_, rfl⟩
  obtain ⟨y2, hy2⟩ : ∃ z, z = xs (ix i + 2) := ⟨_, rfl⟩
  obtain ⟨y3, hy3⟩ : ∃ z, z = xs (ix i + 3) := ⟨_, rfl⟩
  obtain ⟨y4, hy4⟩ : ∃ z, z = xs (ix i + 4) := ⟨_, rfl⟩
  obtain ⟨y5, hy5⟩ : ∃ z, z = xs (ix i + 5) := ⟨_, rfl⟩
  have n0 : (0 : Int32).toInt = 0 := by decide
  have n1 : (1 : Int32).toInt = 1 := by decide
  have n2 : (2 : Int32).toInt = 2 := by decide
  have n3 : (3 : Int32).toInt = 3 := by decide
  have n4 : (4 : Int32).toInt = 4 := by decide
  have n5 : (5 : Int32).toInt = 5 := by decide
  obtain ⟨tx, etx⟩ : ∃ z, kR κ x 0 = z := ⟨_, rfl⟩
  have ttx : zk σ0 tx 6 := by rw [← etx]; exact ttx0
  obtain ⟨rB, erB⟩ : ∃ z, kR κ tx 0 = z := ⟨_, rfl⟩
  have trB : zk σ0 rB 14 := by rw [← erB]; exact hT.kr (hT.ref (hT.k ttx (by decide)) (by decide) (by decide) (by decide)) (by decide) (by decide)
  obtain ⟨rT, erT⟩ : ∃ z, kR κ mm 12 = z := ⟨_, rfl⟩
  have trT : zk σ0 rT 23 := by rw [← erT]; exact hT.kr (hT.ref (hT.k t_mm (by decide)) (by decide) (by decide) (by decide)) (by decide) (by decide)
  obtain ⟨rI, erI⟩ : ∃ z, kR κ x 6 = z := ⟨_, rfl⟩
  have trI : zk σ0 rI 13 := by rw [← erI]; exact hT.kr (hT.ref (hT.k t_x (by decide)) (by decide) (by decide) (by decide)) (by decide) (by decide)
  obtain ⟨rK, erK⟩ : ∃ z, kR κ mm 4 = z := ⟨_, rfl⟩
  have trK : zk σ0 rK 29 := by rw [← erK]; exact hT.kr (hT.ref (hT.k t_mm (by decide)) (by decide) (by decide) (by decide)) (by decide) (by decide)
  obtain ⟨hlen, ⟨hal, hnn⟩, ⟨hco, hpo⟩, hkp⟩ := hrel
  rw [etx] at hlen hal hco hpo
  rw [erB, erT] at hal
  rw [erT] at hnn
  rw [erI, erK] at hkp
  have btx := (hT.P (hT.k ttx (by decide)) (by decide)).1
  have btxl := btx.1
  have btxh := btx.2
  obtain ⟨nw, enw⟩ : ∃ z, kR κ x 3 = z := ⟨_, rfl⟩
  have tnw : zk σ0 nw 3 := by rw [← enw]; exact hT.kr (hT.ref (hT.k t_x (by decide)) (by decide) (by decide) (by decide)) (by decide) (by decide)
  obtain ⟨tr, etr⟩ : ∃ z, kR κ x 4 = z := ⟨_, rfl⟩
  have ttr : zk σ0 tr 3 := by rw [← etr]; exact hT.kr (hT.ref (hT.k t_x (by decide)) (by decide) (by decide) (by decide)) (by decide) (by decide)
  obtain ⟨rs5, ers5⟩ : ∃ z, kR κ x 5 = z := ⟨_, rfl⟩
  have trs5 : zk σ0 rs5 12 := by rw [← ers5]; exact hT.kr (hT.ref (hT.k t_x (by decide)) (by decide) (by decide) (by decide)) (by decide) (by decide)
  obtain ⟨sl0, esl0⟩ : ∃ z, kR κ rs5 0 = z := ⟨_, rfl⟩
  have tsl0 : zk σ0 sl0 3 := by rw [← esl0]; exact hT.kr (hT.ref (hT.k trs5 (by decide)) (by decide) (by decide) (by decide)) (by decide) (by decide)
  obtain ⟨sl1, esl1⟩ : ∃ z, kR κ rs5 1 = z := ⟨_, rfl⟩
  have tsl1 : zk σ0 sl1 3 := by rw [← esl1]; exact hT.kr (hT.ref (hT.k trs5 (by decide)) (by decide) (by decide) (by decide)) (by decide) (by decide)
  obtain ⟨rW, erW⟩ : ∃ z, kR κ mm 1 = z := ⟨_, rfl⟩
  have trW : zk σ0 rW 21 := by rw [← erW]; exact hT.kr (hT.ref (hT.k t_mm (by decide)) (by decide) (by decide) (by decide)) (by decide) (by decide)
  obtain ⟨rS, erS⟩ : ∃ z, kR κ mm 3 = z := ⟨_, rfl⟩
  have trS : zk σ0 rS 22 := by rw [← erS]; exact hT.kr (hT.ref (hT.k t_mm (by decide)) (by decide) (by decide) (by decide)) (by decide) (by decide)
  obtain ⟨so, eso⟩ : ∃ z, kR κ x 1 = z := ⟨_, rfl⟩
  have tso : zk σ0 so 4 := by rw [← eso]; exact hT.kr (hT.ref (hT.k t_x (by decide)) (by decide) (by decide) (by decide)) (by decide) (by decide)
  obtain ⟨qP, eqP⟩ : ∃ z, kR κ so 0 = z := ⟨_, rfl⟩
  have tqP : zk σ0 qP 8 := by rw [← eqP]; exact hT.kr (hT.ref (hT.k tso (by decide)) (by decide) (by decide) (by decide)) (by decide) (by decide)
  obtain ⟨qO, eqO⟩ : ∃ z, kR κ so 1 = z := ⟨_, rfl⟩
  have tqO : zk σ0 qO 16 := by rw [← eqO]; exact hT.kr (hT.ref (hT.k tso (by decide)) (by decide) (by decide) (by decide)) (by decide) (by decide)
  obtain ⟨r5, er5⟩ : ∃ z, kR κ mm 5 = z := ⟨_, rfl⟩
  have tr5 : zk σ0 r5 25 := by rw [← er5]; exact hT.kr (hT.ref (hT.k t_mm (by decide)) (by decide) (by decide) (by decide)) (by decide) (by decide)
  obtain ⟨r6, er6⟩ : ∃ z, kR κ mm 6 = z := ⟨_, rfl⟩
  have tr6 : zk σ0 r6 26 := by rw [← er6]; exact hT.kr (hT.ref (hT.k t_mm (by decide)) (by decide) (by decide) (by decide)) (by decide) (by decide)
  obtain ⟨hnw, hsl⟩ := hsr
  obtain ⟨hd1, ⟨hd2, hd3⟩, hd4, hd5, hd6, hd7⟩ := hdis
  have d_nt : nw ≠ tr := by rw [← enw, ← etr]; exact hd2
  have d_n0 : nw ≠ sl0 := by rw [← enw, ← esl0, ← ers5]; exact hd3 0 (by decide)
  have d_t0 : sl0 ≠ tr := by rw [← etr, ← esl0, ← ers5]; exact fun q => hd4 0 (by decide) q.symm
  have d_n1 : nw ≠ sl1 := by rw [← enw, ← esl1, ← ers5]; exact hd3 1 (by decide)
  have d_t1 : sl1 ≠ tr := by rw [← etr, ← esl1, ← ers5]; exact fun q => hd4 1 (by decide) q.symm
  have d_01 : sl0 ≠ sl1 := by rw [← esl0, ← esl1, ← ers5]; exact hd5
  have knw : zk σ nw 3 := hT.k tnw (by decide)
  have ksl0 : zk σ sl0 3 := hT.k tsl0 (by decide)
  have ksl1 : zk σ sl1 3 := hT.k tsl1 (by decide)
  have hw7 : (zI σ nw 7).toInt = (zJ σ rW 0).toInt := by rw [← enw, ← erW]; exact hnw.1
  have hb7 := Int32.le_toInt (zI σ nw 7)
  have hc7 := Int32.toInt_lt (zI σ nw 7)
  have hw8 : (zI σ nw 8).toInt = (zJ σ rW 1).toInt := by rw [← enw, ← erW]; exact hnw.2.1
  have hb8 := Int32.le_toInt (zI σ nw 8)
  have hc8 := Int32.toInt_lt (zI σ nw 8)
  have hw9 : (zI σ nw 9).toInt = (zJ σ rW 2).toInt := by rw [← enw, ← erW]; exact hnw.2.2
  have hb9 := Int32.le_toInt (zI σ nw 9)
  have hc9 := Int32.toInt_lt (zI σ nw 9)
  refine lv_aload_n hx hb dL_law_1328 rfl (lv_at hl 3 rfl) ?_
  have hTo := hT
  refine tVi (n := 0) (As := []) (rest := []) hx hb hml hown hg hT hK hX (X5t_bestScheme l κ σ x (hT.k t_x (by decide))) sub_fCp_fA (mwV k518 k519 k520 k84 k521) ⟨rfl, by decide, by decide, by decide +kernel⟩ ⟨(Nat.le_of_ble_eq_true rfl), (Nat.le_of_ble_eq_true rfl)⟩ (hT.o7 (hT.k t_x (by decide))) rfl rfl hl.1 rfl (Nat.le_of_ble_eq_true rfl) dL_law_1329 zx.dn (fun r2 s1 H locs hφ hE hT => ?_)
  have f3 := hφ
  have R4 := hR.ext hE ⟨rfl, rfl, fun _ => rfl, fun _ => rfl, fun _ => rfl, fun _ => rfl⟩
  have a5 : (zI s1 tx 1).toInt = (zI σ tx 1).toInt := by rw [(hTo.k ttx (by decide)).eI hE (by decide) rfl]
  have j6 : zI s1 rB = zI σ rB := (show zI s1 rB = zI σ rB from funext fun k => (hTo.k trB (by decide)).eI hE (by decide) rfl)
  have j7 : zI s1 rT = zI σ rT := (show zI s1 rT = zI σ rT from funext fun k => (hTo.k trT (by decide)).eI hE (by decide) rfl)
  have j8 : zI s1 rI = zI σ rI := (show zI s1 rI = zI σ rI from funext fun k => (hTo.k trI (by decide)).eI hE (by decide) rfl)
  have j9 : zI s1 rK = zI σ rK := (show zI s1 rK = zI σ rK from funext fun k => (hTo.k trK (by decide)).eI hE (by decide) rfl)
  have j10 : zI s1 tx 2 = zI σ tx 2 := (hTo.k ttx (by decide)).eI hE (by decide) rfl
  have j11 : zI s1 tx 3 = zI σ tx 3 := (hTo.k ttx (by decide)).eI hE (by decide) rfl
  have j12 : zI s1 mm 15 = zI σ mm 15 := (hTo.k t_mm (by decide)).eI hE (by decide) rfl
  have j13 : zI s1 mm 16 = zI σ mm 16 := (hTo.k t_mm (by decide)).eI hE (by decide) rfl
  have f39 := f3
  try rw [etr] at f39
  try rw [enw] at f39
  have n14 : zI s1 nw 7 = zI σ nw 7 ∧ zI s1 nw 8 = zI σ nw 8 ∧ zI s1 nw 9 = zI σ nw 9 := f39 nw d_nt (hTo.k tnw (by decide))
  have n15 : zI s1 sl0 7 = zI σ sl0 7 ∧ zI s1 sl0 8 = zI σ sl0 8 ∧ zI s1 sl0 9 = zI σ sl0 9 := f39 sl0 d_t0 (hTo.k tsl0 (by decide))
  have n16 : zI s1 sl1 7 = zI σ sl1 7 ∧ zI s1 sl1 8 = zI σ sl1 8 ∧ zI s1 sl1 9 = zI σ sl1 9 := f39 sl1 d_t1 (hTo.k tsl1 (by decide))
  have n17 : ∀ j : Nat, j < 3 → zJ s1 rW j = zJ σ rW j := fun j hj => (hTo.k trW (by decide)).eJ hE (by decide) rfl
  have n18 : zJ s1 rS = zJ σ rS := (show zJ s1 rS = zJ σ rS from funext fun k => (hTo.k trS (by decide)).eJ hE (by decide) rfl)
  have z19 : zI s1 so 2 = zI σ so 2 ∧ zI s1 so 6 = zI σ so 6 ∧ zI s1 qP = zI σ qP ∧ zI s1 qO = zI σ qO := ⟨(hTo.k tso (by decide)).eI hE (by decide) rfl, (hTo.k tso (by decide)).eI hE (by decide) rfl, funext fun q9 => (hTo.k tqP (by decide)).eI hE (by decide) rfl, funext fun q9 => (hTo.k tqO (by decide)).eI hE (by decide) rfl⟩
  have z20 : zI s1 mm 7 = zI σ mm 7 ∧ zI s1 mm 8 = zI σ mm 8 ∧ zI s1 r5 = zI σ r5 ∧ zI s1 r6 = zI σ r6 := ⟨(hTo.k t_mm (by decide)).eI hE (by decide) rfl, (hTo.k t_mm (by decide)).eI hE (by decide) rfl, funext fun q9 => (hTo.k tr5 (by decide)).eI hE (by decide) rfl, funext fun q9 => (hTo.k tr6 (by decide)).eI hE (by decide) rfl⟩
  have a21 : (zI s1 mm 13).toInt = (zI σ mm 13).toInt := by rw [(hTo.k t_mm (by decide)).eI hE (by decide) rfl]
  refine lv_pop hx hb dL_law_1332 rfl ?_
  refine lv_aload_n hx hb dL_law_1333 rfl (lv_at hl 2 rfl) ?_
  have hTo := hT
  refine tVi (n := 0) (As := []) (rest := []) hx hb hml hown hg hT hK hX (X6_bestScheme l κ s1 mm (hT.k t_mm (by decide)) R4) sub_gZb_fA (mwV k1678 k1679 k1680 k92 k1681) ⟨rfl, by decide, by decide, by decide +kernel⟩ ⟨(Nat.le_of_ble_eq_true rfl), (Nat.le_of_ble_eq_true rfl)⟩ (hT.o20 (hT.k t_mm (by decide))) rfl rfl hl.1 rfl (Nat.le_of_ble_eq_true rfl) dL_law_1334 zx.dn (fun r23 s22 H locs hφ hE hT => ?_)
  obtain ⟨f24, f25⟩ := hφ
  have a26 : (zI s22 tx 1).toInt = (zI s1 tx 1).toInt := by rw [(hTo.k ttx (by decide)).eI hE (by decide) rfl]
  have j27 : zI s22 rB = zI σ rB := ((show zI s22 rB = zI s1 rB from funext fun k => (hTo.k trB (by decide)).eI hE (by decide) rfl)).trans j6
  have j28 : zI s22 rT = zI σ rT := ((show zI s22 rT = zI s1 rT from funext fun k => (hTo.k trT (by decide)).eI hE (by decide) rfl)).trans j7
  have j29 : zI s22 rI = zI σ rI := ((show zI s22 rI = zI s1 rI from funext fun k => (hTo.k trI (by decide)).eI hE (by decide) rfl)).trans j8
  have j30 : zI s22 rK = zI σ rK := ((show zI s22 rK = zI s1 rK from funext fun k => (hTo.k trK (by decide)).eI hE (by decide) rfl)).trans j9
  have j31 : zI s22 tx 2 = zI σ tx 2 := ((hTo.k ttx (by decide)).eI hE (by decide) rfl).trans j10
  have j32 : zI s22 tx 3 = zI σ tx 3 := ((hTo.k ttx (by decide)).eI hE (by decide) rfl).trans j11
  have j33 : zI s22 mm 15 = zI σ mm 15 := ((hTo.k t_mm (by decide)).eI hE (by decide) rfl).trans j12
  have j34 : zI s22 mm 16 = zI σ mm 16 := ((hTo.k t_mm (by decide)).eI hE (by decide) rfl).trans j13
  have n35 : zI s22 nw 7 = zI s1 nw 7 ∧ zI s22 nw 8 = zI s1 nw 8 ∧ zI s22 nw 9 = zI s1 nw 9 := ⟨(hTo.k tnw (by decide)).eI hE (by decide) rfl, (hTo.k tnw (by decide)).eI hE (by decide) rfl, (hTo.k tnw (by decide)).eI hE (by decide) rfl⟩
  have n36 : zI s22 nw 7 = zI σ nw 7 ∧ zI s22 nw 8 = zI σ nw 8 ∧ zI s22 nw 9 = zI σ nw 9 := ⟨n35.1.trans n14.1, n35.2.1.trans n14.2.1, n35.2.2.trans n14.2.2⟩
  have n37 : zI s22 sl0 7 = zI s1 sl0 7 ∧ zI s22 sl0 8 = zI s1 sl0 8 ∧ zI s22 sl0 9 = zI s1 sl0 9 := ⟨(hTo.k tsl0 (by decide)).eI hE (by decide) rfl, (hTo.k tsl0 (by decide)).eI hE (by decide) rfl, (hTo.k tsl0 (by decide)).eI hE (by decide) rfl⟩
  have n38 : zI s22 sl0 7 = zI σ sl0 7 ∧ zI s22 sl0 8 = zI σ sl0 8 ∧ zI s22 sl0 9 = zI σ sl0 9 := ⟨n37.1.trans n15.1, n37.2.1.trans n15.2.1, n37.2.2.trans n15.2.2⟩
  have n39 : zI s22 sl1 7 = zI s1 sl1 7 ∧ zI s22 sl1 8 = zI s1 sl1 8 ∧ zI s22 sl1 9 = zI s1 sl1 9 := ⟨(hTo.k tsl1 (by decide)).eI hE (by decide) rfl, (hTo.k tsl1 (by decide)).eI hE (by decide) rfl, (hTo.k tsl1 (by decide)).eI hE (by decide) rfl⟩
  have n40 : zI s22 sl1 7 = zI σ sl1 7 ∧ zI s22 sl1 8 = zI σ sl1 8 ∧ zI s22 sl1 9 = zI σ sl1 9 := ⟨n39.1.trans n16.1, n39.2.1.trans n16.2.1, n39.2.2.trans n16.2.2⟩
  have n41 : ∀ j : Nat, j < 3 → zJ s22 rW j = zJ s1 rW j := fun j hj => by have z9 := f25 j hj; (try rw [show kR κ mm 1 = rW from erW] at z9); exact z9
  have n42 : ∀ j : Nat, j < 3 → zJ s22 rW j = zJ σ rW j := fun j hj => (n41 j hj).trans (n17 j hj)
  have n43 : zJ s22 rS = zJ σ rS := (show zJ s22 rS = zJ s1 rS from funext fun k => (hTo.k trS (by decide)).eJ hE (by decide) rfl).trans n18
  have z44 : zI s22 so 2 = zI s1 so 2 ∧ zI s22 so 6 = zI s1 so 6 ∧ zI s22 qP = zI s1 qP ∧ zI s22 qO = zI s1 qO := ⟨(hTo.k tso (by decide)).eI hE (by decide) rfl, (hTo.k tso (by decide)).eI hE (by decide) rfl, funext fun q9 => (hTo.k tqP (by decide)).eI hE (by decide) rfl, funext fun q9 => (hTo.k tqO (by decide)).eI hE (by decide) rfl⟩
  have z45 : zI s22 so 2 = zI σ so 2 ∧ zI s22 so 6 = zI σ so 6 ∧ zI s22 qP = zI σ qP ∧ zI s22 qO = zI σ qO := ⟨z44.1.trans z19.1, z44.2.1.trans z19.2.1, z44.2.2.1.trans z19.2.2.1, z44.2.2.2.trans z19.2.2.2⟩
  have z46 : zI s22 mm 7 = zI s1 mm 7 ∧ zI s22 mm 8 = zI s1 mm 8 ∧ zI s22 r5 = zI s1 r5 ∧ zI s22 r6 = zI s1 r6 := ⟨(hTo.k t_mm (by decide)).eI hE (by decide) rfl, (hTo.k t_mm (by decide)).eI hE (by decide) rfl, funext fun q9 => (hTo.k tr5 (by decide)).eI hE (by decide) rfl, funext fun q9 => (hTo.k tr6 (by decide)).eI hE (by decide) rfl⟩
  have z47 : zI s22 mm 7 = zI σ mm 7 ∧ zI s22 mm 8 = zI σ mm 8 ∧ zI s22 r5 = zI σ r5 ∧ zI s22 r6 = zI σ r6 := ⟨z46.1.trans z20.1, z46.2.1.trans z20.2.1, z46.2.2.1.trans z20.2.2.1, z46.2.2.2.trans z20.2.2.2⟩
  have a48 : (zI s22 mm 13).toInt = (zI s1 mm 13).toInt := by rw [(hTo.k t_mm (by decide)).eI hE (by decide) rfl]
  refine lv_pop hx hb dL_law_1337 rfl ?_
  refine lv_goto (tgt := 1432) hx hb dL_law_1338 (by decide) ?_
  have sl0f : zI s22 rI 0 ≠ 0 → SLT κ s22 x mm 0 := fun hq => (hsl 0 (by decide) (fun q9 => hq (by rw [erI] at q9; rw [j29]; exact q9))).tr (by rw [ers5, esl0]; exact n38) (fun j hj => by rw [erS, n43])
  have sl1f : zI s22 rI 1 ≠ 0 → SLT κ s22 x mm 1 := fun hq => (hsl 1 (by decide) (fun q9 => hq (by rw [erI] at q9; rw [j29]; exact q9))).tr (by rw [ers5, esl1]; exact n40) (fun j hj => by rw [erS, n43])
  exact KK s22 _ _ _ hT.up f24 ⟨by rw [etx]; omega, ⟨by rw [etx, erB, erT, j27, j28]; exact tal_less hal (by omega), by rw [erT, j28]; exact tnn_less hnn (by omega)⟩, ⟨by rw [etx, j31, j33]; exact hco, by rw [etx, j32, j34]; exact hpo⟩, fun i hi => by rw [erI, erK, j29, j30]; exact hkp i hi⟩ (⟨hnw.tr (by rw [enw]; exact n36) (by rw [erW]; exact n42), fun i hi => (show i = 0 ∨ i = 1 by omega).elim (fun e9 => by rw [e9, erI]; exact sl0f) (fun e9 => by rw [e9, erI]; exact sl1f)⟩) (hsm.tr (by rw [eso, eqP, eqO]; exact z45) (by rw [er5, er6]; exact z47)) (lv_sub hl [0, 1, 2, 3, 4] rfl)
set_option maxHeartbeats 4000000 in
set_option maxRecDepth 100000 in
theorem lc_37 (l : Launch) (κ : Kt) (σ0 : Gh) (x mm out b : Nat) (t_x : zk σ0 x 7) (t_mm : zk σ0 mm 20) (t_out : zk σ0 out 24) (ttx0 : zk σ0 (kR κ x 0) 6) (hdis : DIS κ x) (hlt : l.stackTraces = false) {p : Program} {e : Env} {s : State} {m : MethodId} {below : List Frame} {meth : Method} {c : Code} {L : Nat} {xs : Nat → Int32} {i : Int32} {Q9 : State → Prop} (hx : p.tables.exec = Jvm.exec) (hb : c.code = cL_law) (hml : c.maxLocals = 9) (hown : s.vm.findClass RL = some m.cls) (hg : ∀ w ∈ GW, w.before #[Value.ref b] s = true) (hK : va_K κ.1 vwCl (kTy κ) s) (hX : XY κ (tA σ0 s.heap.size) s s.heap) (hXs : va_X b L xs s s.heap) (hbl : b < s.heap.size) (hbA : ¬ tA σ0 s.heap.size b) (zx : zroomX κ s room_1 601024 7293034) (hi0 : 0 ≤ i.toInt) (hi1 : i.toInt + 6 ≤ L) (hL9 : L ≤ 3072) {σ : Gh} {H : Heap} {locs : List Loc} {ls : Array Slot} (hT : TS κ fA σ0 σ s H locs) (hR : RI κ σ mm) (hrel : LREL κ σ x mm) (hsr : SREL κ σ x mm) (hsm : SMP κ σ x mm) (hl : lv_has ls 9 [(4, .int i), (3, .ref out), (2, .ref mm), (1, .ref x), (0, .ref b)]) (KK : ∀ (σ1 : Gh) (H : Heap) (locs : List Loc) (ls : Array Slot), TS (kX κ) fA σ0 σ1 s H locs → RI (kX κ) σ1 mm → LREL κ σ1 x mm → SREL κ σ1 x mm → SMP κ σ1 x mm → lv_has ls 9 [(4, .int i), (3, .ref out), (2, .ref mm), (1, .ref x), (0, .ref b)] → W p l e room_1 s m #[Value.ref b] below meth c H locs 601024 7293034 Q9 (F0 m 1432 ls [])) : W p l e room_1 s m #[Value.ref b] below meth c H locs 601024 7293034 Q9 (F0 m 1341 ls []) := by
  obtain ⟨y1, hy1⟩ : ∃ z, z = xs (ix i + 1) := ⟨_, rfl⟩
  obtain ⟨y2, hy2⟩ : ∃ z, z = xs (ix i + 2) := ⟨_, rfl⟩
  obtain ⟨y3, hy3⟩ : ∃ z, z = xs (ix i + 3) := ⟨_, rfl⟩
  obtain ⟨y4, hy4⟩ : ∃ z, z = xs (ix i + 4) := ⟨_, rfl⟩
  obtain ⟨y5, hy5⟩ : ∃ z, z = xs (ix i + 5) := ⟨_, rfl⟩
  have n0 : (0 : Int32).toInt = 0 := by decide
  have n1 : (1 : Int32).toInt = 1 := by decide
  have n2 : (2 : Int32).toInt = 2 := by decide
  have n3 : (3 : Int32).toInt = 3 := by decide
  have n4 : (4 : Int32).toInt = 4 := by decide
  have n5 : (5 : Int32).toInt = 5 := by decide
  obtain ⟨tx, etx⟩ : ∃ z, kR κ x 0 = z := ⟨_, rfl⟩
  have ttx : zk σ0 tx 6 := by rw [← etx]; exact ttx0
  obtain ⟨rB, erB⟩ : ∃ z, kR κ tx 0 = z := ⟨_, rfl⟩
  have trB : zk σ0 rB 14 := by rw [← erB]; exact hT.kr (hT.ref (hT.k ttx (by decide)) (by decide) (by decide) (by decide)) (by decide) (by decide)
  obtain ⟨rT, erT⟩ : ∃ z, kR κ mm 12 = z := ⟨_, rfl⟩
  have trT : zk σ0 rT 23 := by rw [← erT]; exact hT.kr (hT.ref (hT.k t_mm (by decide)) (by decide) (by decide) (by decide)) (by decide) (by decide)
  obtain ⟨rI, erI⟩ : ∃ z, kR κ x 6 = z := ⟨_, rfl⟩
  have trI : zk σ0 rI 13 := by rw [← erI]; exact hT.kr (hT.ref (hT.k t_x (by decide)) (by decide) (by decide) (by decide)) (by decide) (by decide)
  obtain ⟨rK, erK⟩ : ∃ z, kR κ mm 4 = z := ⟨_, rfl⟩
  have trK : zk σ0 rK 29 := by rw [← erK]; exact hT.kr (hT.ref (hT.k t_mm (by decide)) (by decide) (by decide) (by decide)) (by decide) (by decide)
  obtain ⟨hlen, ⟨hal, hnn⟩, ⟨hco, hpo⟩, hkp⟩ := hrel
  rw [etx] at hlen hal hco hpo
  rw [erB, erT] at hal
  rw [erT] at hnn
  rw [erI, erK] at hkp
  have btx := (hT.P (hT.k ttx (by decide)) (by decide)).1
  have btxl := btx.1
  have btxh := btx.2
  obtain ⟨nw, enw⟩ : ∃ z, kR κ x 3 = z := ⟨_, rfl⟩
  have tnw : zk σ0 nw 3 := by rw [← enw]; exact hT.kr (hT.ref (hT.k t_x (by decide)) (by decide) (by decide) (by decide)) (by decide) (by decide)
  obtain ⟨tr, etr⟩ : ∃ z, kR κ x 4 = z := ⟨_, rfl⟩
  have ttr : zk σ0 tr 3 := by rw [← etr]; exact hT.kr (hT.ref (hT.k t_x (by decide)) (by decide) (by decide) (by decide)) (by decide) (by decide)
  obtain ⟨rs5, ers5⟩ : ∃ z, kR κ x 5 = z := ⟨_, rfl⟩
  have trs5 : zk σ0 rs5 12 := by rw [← ers5]; exact hT.kr (hT.ref (hT.k t_x (by decide)) (by decide) (by decide) (by decide)) (by decide) (by decide)
  obtain ⟨sl0, esl0⟩ : ∃ z, kR κ rs5 0 = z := ⟨_, rfl⟩
  have tsl0 : zk σ0 sl0 3 := by rw [← esl0]; exact hT.kr (hT.ref (hT.k trs5 (by decide)) (by decide) (by decide) (by decide)) (by decide) (by decide)
  obtain ⟨sl1, esl1⟩ : ∃ z, kR κ rs5 1 = z := ⟨_, rfl⟩
  have tsl1 : zk σ0 sl1 3 := by rw [← esl1]; exact hT.kr (hT.ref (hT.k trs5 (by decide)) (by decide) (by decide) (by decide)) (by decide) (by decide)
  obtain ⟨rW, erW⟩ : ∃ z, kR κ mm 1 = z := ⟨_, rfl⟩
  have trW : zk σ0 rW 21 := by rw [← erW]; exact hT.kr (hT.ref (hT.k t_mm (by decide)) (by decide) (by decide) (by decide)) (by decide) (by decide)
  obtain ⟨rS, erS⟩ : ∃ z, kR κ mm 3 = z := ⟨_, rfl⟩
  have trS : zk σ0 rS 22 := by rw [← erS]; exact hT.kr (hT.ref (hT.k t_mm (by decide)) (by decide) (by decide) (by decide)) (by decide) (by decide)
  obtain ⟨so, eso⟩ : ∃ z, kR κ x 1 = z := ⟨_, rfl⟩
  have tso : zk σ0 so 4 := by rw [← eso]; exact hT.kr (hT.ref (hT.k t_x (by decide)) (by decide) (by decide) (by decide)) (by decide) (by decide)
  obtain ⟨qP, eqP⟩ : ∃ z, kR κ so 0 = z := ⟨_, rfl⟩
  have tqP : zk σ0 qP 8 := by rw [← eqP]; exact hT.kr (hT.ref (hT.k tso (by decide)) (by decide) (by decide) (by decide)) (by decide) (by decide)
  obtain ⟨qO, eqO⟩ : ∃ z, kR κ so 1 = z := ⟨_, rfl⟩
  have tqO : zk σ0 qO 16 := by rw [← eqO]; exact hT.kr (hT.ref (hT.k tso (by decide)) (by decide) (by decide) (by decide)) (by decide) (by decide)
  obtain ⟨r5, er5⟩ : ∃ z, kR κ mm 5 = z := ⟨_, rfl⟩
  have tr5 : zk σ0 r5 25 := by rw [← er5]; exact hT.kr (hT.ref (hT.k t_mm (by decide)) (by decide) (by decide) (by decide)) (by decide) (by decide)
  obtain ⟨r6, er6⟩ : ∃ z, kR κ mm 6 = z := ⟨_, rfl⟩
  have tr6 : zk σ0 r6 26 := by rw [← er6]; exact hT.kr (hT.ref (hT.k t_mm (by decide)) (by decide) (by decide) (by decide)) (by decide) (by decide)
  obtain ⟨hnw, hsl⟩ := hsr
  obtain ⟨hd1, ⟨hd2, hd3⟩, hd4, hd5, hd6, hd7⟩ := hdis
  have d_nt : nw ≠ tr := by rw [← enw, ← etr]; exact hd2
  have d_n0 : nw ≠ sl0 := by rw [← enw, ← esl0, ← ers5]; exact hd3 0 (by decide)
  have d_t0 : sl0 ≠ tr := by rw [← etr, ← esl0, ← ers5]; exact fun q => hd4 0 (by decide) q.symm
  have d_n1 : nw ≠ sl1 := by rw [← enw, ← esl1, ← ers5]; exact hd3 1 (by decide)
  have d_t1 : sl1 ≠ tr := by rw [← etr, ← esl1, ← ers5]; exact fun q => hd4 1 (by decide) q.symm
  have d_01 : sl0 ≠ sl1 := by rw [← esl0, ← esl1, ← ers5]; exact hd5
  have knw : zk σ nw 3 := hT.k tnw (by decide)
  have ksl0 : zk σ sl0 3 := hT.k tsl0 (by decide)
  have ksl1 : zk σ sl1 3 := hT.k tsl1 (by decide)
  refine lv_aload_n hx hb dL_law_1341 rfl (lv_at hl 3 rfl) ?_
  refine lv_aload_n hx hb dL_law_1342 rfl (lv_at hl 4 rfl) ?_
  refine lv_iload hx hb dL_law_1343 (lv_at hl 0 rfl) ?_
  refine lv_iconst (v := 1) hx hb dL_law_1345 (by decide) ?_
  refine lv_iadd hx hb dL_law_1346 ?_
  refine g_add (by omega) (by omega) (fun t1 ht1 => ?_)
  refine va_sld hx hb hXs hbl hbA hT.2.2.2 (g_in (by omega) (by omega)) dL_law_1347 ?_
  refine ti y1 (by rw [hy1]; exact congrArg xs (show t1.toNatClampNeg = ix i + 1 from by show t1.toInt.toNat = ix i + 1; unfold ix; omega)) ?_
  refine lv_aload_n hx hb dL_law_1348 rfl (lv_at hl 1 rfl) ?_
  have hTo := hT
  refine tHi (n := 3) (As := [.ref x, .int y1, .ref out]) (rest := []) hx hb hml hown hg hT hK hX (L_reason l κ σ x y1 out (hT.k t_x (by decide)) (hT.k t_out (by decide)) hlt) sub_hfE_fA (mwHS k1182 k1183 k83 k1184) ⟨by decide, by decide, by decide +kernel⟩ ⟨(Nat.le_of_ble_eq_true rfl), (Nat.le_of_ble_eq_true rfl)⟩ rfl hl.1 rfl (Nat.le_of_ble_eq_true rfl) dL_law_1349 zx (fun r3 s2 H locs hφ hE hT => ?_)
  have R4 := hR.ext hE ⟨rfl, rfl, fun _ => rfl, fun _ => rfl, fun _ => rfl, fun _ => rfl⟩
  have a5 : (zI s2 tx 1).toInt = (zI σ tx 1).toInt := by rw [(hTo.k ttx (by decide)).eI hE (by decide) rfl]
  have j6 : zI s2 rB = zI σ rB := (show zI s2 rB = zI σ rB from funext fun k => (hTo.k trB (by decide)).eI hE (by decide) rfl)
  have j7 : zI s2 rT = zI σ rT := (show zI s2 rT = zI σ rT from funext fun k => (hTo.k trT (by decide)).eI hE (by decide) rfl)
  have j8 : zI s2 rI = zI σ rI := (show zI s2 rI = zI σ rI from funext fun k => (hTo.k trI (by decide)).eI hE (by decide) rfl)
  have j9 : zI s2 rK = zI σ rK := (show zI s2 rK = zI σ rK from funext fun k => (hTo.k trK (by decide)).eI hE (by decide) rfl)
  have j10 : zI s2 tx 2 = zI σ tx 2 := (hTo.k ttx (by decide)).eI hE (by decide) rfl
  have j11 : zI s2 tx 3 = zI σ tx 3 := (hTo.k ttx (by decide)).eI hE (by decide) rfl
  have j12 : zI s2 mm 15 = zI σ mm 15 := (hTo.k t_mm (by decide)).eI hE (by decide) rfl
  have j13 : zI s2 mm 16 = zI σ mm 16 := (hTo.k t_mm (by decide)).eI hE (by decide) rfl
  have n14 : zI s2 nw 7 = zI σ nw 7 ∧ zI s2 nw 8 = zI σ nw 8 ∧ zI s2 nw 9 = zI σ nw 9 := ⟨(hTo.k tnw (by decide)).eI hE (by decide) rfl, (hTo.k tnw (by decide)).eI hE (by decide) rfl, (hTo.k tnw (by decide)).eI hE (by decide) rfl⟩
  have n15 : zI s2 sl0 7 = zI σ sl0 7 ∧ zI s2 sl0 8 = zI σ sl0 8 ∧ zI s2 sl0 9 = zI σ sl0 9 := ⟨(hTo.k tsl0 (by decide)).eI hE (by decide) rfl, (hTo.k tsl0 (by decide)).eI hE (by decide) rfl, (hTo.k tsl0 (by decide)).eI hE (by decide) rfl⟩
  have n16 : zI s2 sl1 7 = zI σ sl1 7 ∧ zI s2 sl1 8 = zI σ sl1 8 ∧ zI s2 sl1 9 = zI σ sl1 9 := ⟨(hTo.k tsl1 (by decide)).eI hE (by decide) rfl, (hTo.k tsl1 (by decide)).eI hE (by decide) rfl, (hTo.k tsl1 (by decide)).eI hE (by decide) rfl⟩
  have n17 : ∀ j : Nat, j < 3 → zJ s2 rW j = zJ σ rW j := fun j hj => (hTo.k trW (by decide)).eJ hE (by decide) rfl
  have n18 : zJ s2 rS = zJ σ rS := (show zJ s2 rS = zJ σ rS from funext fun k => (hTo.k trS (by decide)).eJ hE (by decide) rfl)
  have z19 : zI s2 so 2 = zI σ so 2 ∧ zI s2 so 6 = zI σ so 6 ∧ zI s2 qP = zI σ qP ∧ zI s2 qO = zI σ qO := ⟨(hTo.k tso (by decide)).eI hE (by decide) rfl, (hTo.k tso (by decide)).eI hE (by decide) rfl, funext fun q9 => (hTo.k tqP (by decide)).eI hE (by decide) rfl, funext fun q9 => (hTo.k tqO (by decide)).eI hE (by decide) rfl⟩
  have z20 : zI s2 mm 7 = zI σ mm 7 ∧ zI s2 mm 8 = zI σ mm 8 ∧ zI s2 r5 = zI σ r5 ∧ zI s2 r6 = zI σ r6 := ⟨(hTo.k t_mm (by decide)).eI hE (by decide) rfl, (hTo.k t_mm (by decide)).eI hE (by decide) rfl, funext fun q9 => (hTo.k tr5 (by decide)).eI hE (by decide) rfl, funext fun q9 => (hTo.k tr6 (by decide)).eI hE (by decide) rfl⟩
  have a21 : (zI s2 mm 13).toInt = (zI σ mm 13).toInt := by rw [(hTo.k t_mm (by decide)).eI hE (by decide) rfl]
  refine lv_istore (lv' := [(5, .int r3), (4, .int i), (3, .ref out), (2, .ref mm), (1, .ref x), (0, .ref b)]) hx hb dL_law_1352 hl (by decide) rfl (fun ls hl => ?_)
  refine lv_aload_n hx hb dL_law_1354 rfl (lv_at hl 3 rfl) ?_
  refine lv_aload_n hx hb dL_law_1355 rfl (lv_at hl 5 rfl) ?_
  refine lv_iload hx hb dL_law_1356 (lv_at hl 1 rfl) ?_
  refine lv_iconst (v := 1) hx hb dL_law_1358 (by decide) ?_
  refine lv_iadd hx hb dL_law_1359 ?_
  refine g_add (by omega) (by omega) (fun t22 ht22 => ?_)
  refine va_sld hx hb hXs hbl hbA hT.2.2.2 (g_in (by omega) (by omega)) dL_law_1360 ?_
  refine ti y1 (by rw [hy1]; exact congrArg xs (show t22.toNatClampNeg = ix i + 1 from by show t22.toInt.toNat = ix i + 1; unfold ix; omega)) ?_
  have hTo := hT
  refine tVi (n := 1) (As := [.int y1]) (rest := []) hx hb hml hown hg hT hK hX (X6_reason l (kX κ) s2 mm y1 (hT.k t_mm (by decide)) R4) sub_gR_fA (mwV k1682 k1683 k1684 k92 k1685) ⟨rfl, by decide, by decide, by decide +kernel⟩ ⟨(Nat.le_of_ble_eq_true rfl), (Nat.le_of_ble_eq_true rfl)⟩ (hT.o20 (hT.k t_mm (by decide))) rfl rfl hl.1 rfl (Nat.le_of_ble_eq_true rfl) dL_law_1361 zx (fun r24 s23 H locs hφ hE hT => ?_)
  have R25 := R4.ext hE ⟨rfl, rfl, fun _ => rfl, fun _ => rfl, fun _ => rfl, fun _ => rfl⟩
  have a26 : (zI s23 tx 1).toInt = (zI s2 tx 1).toInt := by rw [(hTo.k ttx (by decide)).eI hE (by decide) rfl]
  have j27 : zI s23 rB = zI σ rB := ((show zI s23 rB = zI s2 rB from funext fun k => (hTo.k trB (by decide)).eI hE (by decide) rfl)).trans j6
  have j28 : zI s23 rT = zI σ rT := ((show zI s23 rT = zI s2 rT from funext fun k => (hTo.k trT (by decide)).eI hE (by decide) rfl)).trans j7
  have j29 : zI s23 rI = zI σ rI := ((show zI s23 rI = zI s2 rI from funext fun k => (hTo.k trI (by decide)).eI hE (by decide) rfl)).trans j8
  have j30 : zI s23 rK = zI σ rK := ((show zI s23 rK = zI s2 rK from funext fun k => (hTo.k trK (by decide)).eI hE (by decide) rfl)).trans j9
  have j31 : zI s23 tx 2 = zI σ tx 2 := ((hTo.k ttx (by decide)).eI hE (by decide) rfl).trans j10
  have j32 : zI s23 tx 3 = zI σ tx 3 := ((hTo.k ttx (by decide)).eI hE (by decide) rfl).trans j11
  have j33 : zI s23 mm 15 = zI σ mm 15 := ((hTo.k t_mm (by decide)).eI hE (by decide) rfl).trans j12
  have j34 : zI s23 mm 16 = zI σ mm 16 := ((hTo.k t_mm (by decide)).eI hE (by decide) rfl).trans j13
  have n35 : zI s23 nw 7 = zI s2 nw 7 ∧ zI s23 nw 8 = zI s2 nw 8 ∧ zI s23 nw 9 = zI s2 nw 9 := ⟨(hTo.k tnw (by decide)).eI hE (by decide) rfl, (hTo.k tnw (by decide)).eI hE (by decide) rfl, (hTo.k tnw (by decide)).eI hE (by decide) rfl⟩
  have n36 : zI s23 nw 7 = zI σ nw 7 ∧ zI s23 nw 8 = zI σ nw 8 ∧ zI s23 nw 9 = zI σ nw 9 := ⟨n35.1.trans n14.1, n35.2.1.trans n14.2.1, n35.2.2.trans n14.2.2⟩
  have n37 : zI s23 sl0 7 = zI s2 sl0 7 ∧ zI s23 sl0 8 = zI s2 sl0 8 ∧ zI s23 sl0 9 = zI s2 sl0 9 := ⟨(hTo.k tsl0 (by decide)).eI hE (by decide) rfl, (hTo.k tsl0 (by decide)).eI hE (by decide) rfl, (hTo.k tsl0 (by decide)).eI hE (by decide) rfl⟩
  have n38 : zI s23 sl0 7 = zI σ sl0 7 ∧ zI s23 sl0 8 = zI σ sl0 8 ∧ zI s23 sl0 9 = zI σ sl0 9 := ⟨n37.1.trans n15.1, n37.2.1.trans n15.2.1, n37.2.2.trans n15.2.2⟩
  have n39 : zI s23 sl1 7 = zI s2 sl1 7 ∧ zI s23 sl1 8 = zI s2 sl1 8 ∧ zI s23 sl1 9 = zI s2 sl1 9 := ⟨(hTo.k tsl1 (by decide)).eI hE (by decide) rfl, (hTo.k tsl1 (by decide)).eI hE (by decide) rfl, (hTo.k tsl1 (by decide)).eI hE (by decide) rfl⟩
  have n40 : zI s23 sl1 7 = zI σ sl1 7 ∧ zI s23 sl1 8 = zI σ sl1 8 ∧ zI s23 sl1 9 = zI σ sl1 9 := ⟨n39.1.trans n16.1, n39.2.1.trans n16.2.1, n39.2.2.trans n16.2.2⟩
  have n41 : ∀ j : Nat, j < 3 → zJ s23 rW j = zJ s2 rW j := fun j hj => (hTo.k trW (by decide)).eJ hE (by decide) rfl
  have n42 : ∀ j : Nat, j < 3 → zJ s23 rW j = zJ σ rW j := fun j hj => (n41 j hj).trans (n17 j hj)
  have n43 : zJ s23 rS = zJ σ rS := (show zJ s23 rS = zJ s2 rS from funext fun k => (hTo.k trS (by decide)).eJ hE (by decide) rfl).trans n18
  have z44 : zI s23 so 2 = zI s2 so 2 ∧ zI s23 so 6 = zI s2 so 6 ∧ zI s23 qP = zI s2 qP ∧ zI s23 qO = zI s2 qO := ⟨(hTo.k tso (by decide)).eI hE (by decide) rfl, (hTo.k tso (by decide)).eI hE (by decide) rfl, funext fun q9 => (hTo.k tqP (by decide)).eI hE (by decide) rfl, funext fun q9 => (hTo.k tqO (by decide)).eI hE (by decide) rfl⟩
  have z45 : zI s23 so 2 = zI σ so 2 ∧ zI s23 so 6 = zI σ so 6 ∧ zI s23 qP = zI σ qP ∧ zI s23 qO = zI σ qO := ⟨z44.1.trans z19.1, z44.2.1.trans z19.2.1, z44.2.2.1.trans z19.2.2.1, z44.2.2.2.trans z19.2.2.2⟩
  have z46 : zI s23 mm 7 = zI s2 mm 7 ∧ zI s23 mm 8 = zI s2 mm 8 ∧ zI s23 r5 = zI s2 r5 ∧ zI s23 r6 = zI s2 r6 := ⟨(hTo.k t_mm (by decide)).eI hE (by decide) rfl, (hTo.k t_mm (by decide)).eI hE (by decide) rfl, funext fun q9 => (hTo.k tr5 (by decide)).eI hE (by decide) rfl, funext fun q9 => (hTo.k tr6 (by decide)).eI hE (by decide) rfl⟩
  have z47 : zI s23 mm 7 = zI σ mm 7 ∧ zI s23 mm 8 = zI σ mm 8 ∧ zI s23 r5 = zI σ r5 ∧ zI s23 r6 = zI σ r6 := ⟨z46.1.trans z20.1, z46.2.1.trans z20.2.1, z46.2.2.1.trans z20.2.2.1, z46.2.2.2.trans z20.2.2.2⟩
  have a48 : (zI s23 mm 13).toInt = (zI s2 mm 13).toInt := by rw [(hTo.k t_mm (by decide)).eI hE (by decide) rfl]
  refine lv_istore (lv' := [(6, .int r24), (5, .int r3), (4, .int i), (3, .ref out), (2, .ref mm), (1, .ref x), (0, .ref b)]) hx hb dL_law_1364 hl (by decide) rfl (fun ls hl => ?_)
  refine lv_goto (tgt := 1432) hx hb dL_law_1366 (by decide) ?_
  have sl0f : zI s23 rI 0 ≠ 0 → SLT κ s23 x mm 0 := fun hq => (hsl 0 (by decide) (fun q9 => hq (by rw [erI] at q9; rw [j29]; exact q9))).tr (by rw [ers5, esl0]; exact n38) (fun j hj => by rw [erS, n43])
  have sl1f : zI s23 rI 1 ≠ 0 → SLT κ s23 x mm 1 := fun hq => (hsl 1 (by decide) (fun q9 => hq (by rw [erI] at q9; rw [j29]; exact q9))).tr (by rw [ers5, esl1]; exact n40) (fun j hj => by rw [erS, n43])
  exact KK s23 _ _ _ hT R25 ⟨by rw [etx]; omega, ⟨by rw [etx, erB, erT, j27, j28]; exact tal_less hal (by omega), by rw [erT, j28]; exact tnn_less hnn (by omega)⟩, ⟨by rw [etx, j31, j33]; exact hco, by rw [etx, j32, j34]; exact hpo⟩, fun i hi => by rw [erI, erK, j29, j30]; exact hkp i hi⟩ (⟨hnw.tr (by rw [enw]; exact n36) (by rw [erW]; exact n42), fun i hi => (show i = 0 ∨ i = 1 by omega).elim (fun e9 => by rw [e9, erI]; exact sl0f) (fun e9 => by rw [e9, erI]; exact sl1f)⟩) (hsm.tr (by rw [eso, eqP, eqO]; exact z45) (by rw [er5, er6]; exact z47)) (lv_sub hl [2, 3, 4, 5, 6] rfl)
set_option maxHeartbeats 4000000 in
set_option maxRecDepth 100000 in
theorem lc_38 (l : Launch) (κ : Kt) (σ0 : Gh) (x mm out b : Nat) (t_x : zk σ0 x 7) (t_mm : zk σ0 mm 20) (t_out : zk σ0 out 24) (ttx0 : zk σ0 (kR κ x 0) 6) (hdis : DIS κ x) (hlt : l.stackTraces = false) {p : Program} {e : Env} {s : State} {m : MethodId} {below : List Frame} {meth : Method} {c : Code} {L : Nat} {xs : Nat → Int32} {i : Int32} {Q9 : State → Prop} (hx : p.tables.exec = Jvm.exec) (hb : c.code = cL_law) (hml : c.maxLocals = 9) (hown : s.vm.findClass RL = some m.cls) (hg : ∀ w ∈ GW, w.before #[Value.ref b] s = true) (hK : va_K κ.1 vwCl (kTy κ) s) (hX : XY κ (tA σ0 s.heap.size) s s.heap) (hXs : va_X b L xs s s.heap) (hbl : b < s.heap.size) (hbA : ¬ tA σ0 s.heap.size b) (zx : zroomX κ s room_1 601024 7293034) (hi0 : 0 ≤ i.toInt) (hi1 : i.toInt + 6 ≤ L) (hL9 : L ≤ 3072) {σ : Gh} {H : Heap} {locs : List Loc} {ls : Array Slot} (hT : TS κ fA σ0 σ s H locs) (hR : RI κ σ mm) (hrel : LREL κ σ x mm) (hsr : SREL κ σ x mm) (hsm : SMP κ σ x mm) (hl : lv_has ls 9 [(4, .int i), (3, .ref out), (2, .ref mm), (1, .ref x), (0, .ref b)]) (KK : ∀ (σ1 : Gh) (H : Heap) (locs : List Loc) (ls : Array Slot), TS (kX κ) fA σ0 σ1 s H locs → RI (kX κ) σ1 mm → LREL κ σ1 x mm → SREL κ σ1 x mm → SMP κ σ1 x mm → lv_has ls 9 [(4, .int i), (3, .ref out), (2, .ref mm), (1, .ref x), (0, .ref b)] → W p l e room_1 s m #[Value.ref b] below meth c H locs 601024 7293034 Q9 (F0 m 1432 ls [])) : W p l e room_1 s m #[Value.ref b] below meth c H locs 601024 7293034 Q9 (F0 m 1369 ls []) := by
  obtain ⟨y1, hy1⟩ : ∃ z, z = xs (ix i + 1) := ⟨_, rfl⟩
  obtain ⟨y2, hy2⟩ : ∃ z, z = xs (ix i + 2) := ⟨_, rfl⟩
  obtain ⟨y3, hy3⟩ : ∃ z, z = xs (ix i + 3) := ⟨_, rfl⟩
  obtain ⟨y4, hy4⟩ : ∃ z, z = xs (ix i + 4) := ⟨_, rfl⟩
  obtain ⟨y5, hy5⟩ : ∃ z, z = xs (ix i + 5) := ⟨_, rfl⟩
  have n0 : (0 : Int32).toInt = 0 := by decide
  have n1 : (1 : Int32).toInt = 1 := by decide
  have n2 : (2 : Int32).toInt = 2 := by decide
  have n3 : (3 : Int32).toInt = 3 := by decide
  have n4 : (4 : Int32).toInt = 4 := by decide
  have n5 : (5 : Int32).toInt = 5 := by decide
  obtain ⟨tx, etx⟩ : ∃ z, kR κ x 0 = z := ⟨_, rfl⟩
  have ttx : zk σ0 tx 6 := by rw [← etx]; exact ttx0
  obtain ⟨rB, erB⟩ : ∃ z, kR κ tx 0 = z := ⟨_, rfl⟩
  have trB : zk σ0 rB 14 := by rw [← erB]; exact hT.kr (hT.ref (hT.k ttx (by decide)) (by decide) (by decide) (by decide)) (by decide) (by decide)
  obtain ⟨rT, erT⟩ : ∃ z, kR κ mm 12 = z := ⟨_, rfl⟩
  have trT : zk σ0 rT 23 := by rw [← erT]; exact hT.kr (hT.ref (hT.k t_mm (by decide)) (by decide) (by decide) (by decide)) (by decide) (by decide)
  obtain ⟨rI, erI⟩ : ∃ z, kR κ x 6 = z := ⟨_, rfl⟩
  have trI : zk σ0 rI 13 := by rw [← erI]; exact hT.kr (hT.ref (hT.k t_x (by decide)) (by decide) (by decide) (by decide)) (by decide) (by decide)
  obtain ⟨rK, erK⟩ : ∃ z, kR κ mm 4 = z := ⟨_, rfl⟩
  have trK : zk σ0 rK 29 := by rw [← erK]; exact hT.kr (hT.ref (hT.k t_mm (by decide)) (by decide) (by decide) (by decide)) (by decide) (by decide)
  obtain ⟨hlen, ⟨hal, hnn⟩, ⟨hco, hpo⟩, hkp⟩ := hrel
  rw [etx] at hlen hal hco hpo
  rw [erB, erT] at hal
  rw [erT] at hnn
  rw [erI, erK] at hkp
  have btx := (hT.P (hT.k ttx (by decide)) (by decide)).1
  have btxl := btx.1
  have btxh := btx.2
  obtain ⟨nw, enw⟩ : ∃ z, kR κ x 3 = z := ⟨_, rfl⟩
  have tnw : zk σ0 nw 3 := by rw [← enw]; exact hT.kr (hT.ref (hT.k t_x (by decide)) (by decide) (by decide) (by decide)) (by decide) (by decide)
  obtain ⟨tr, etr⟩ : ∃ z, kR κ x 4 = z := ⟨_, rfl⟩
  have ttr : zk σ0 tr 3 := by rw [← etr]; exact hT.kr (hT.ref (hT.k t_x (by decide)) (by decide) (by decide) (by decide)) (by decide) (by decide)
  obtain ⟨rs5, ers5⟩ : ∃ z, kR κ x 5 = z := ⟨_, rfl⟩
  have trs5 : zk σ0 rs5 12 := by rw [← ers5]; exact hT.kr (hT.ref (hT.k t_x (by decide)) (by decide) (by decide) (by decide)) (by decide) (by decide)
  obtain ⟨sl0, esl0⟩ : ∃ z, kR κ rs5 0 = z := ⟨_, rfl⟩
  have tsl0 : zk σ0 sl0 3 := by rw [← esl0]; exact hT.kr (hT.ref (hT.k trs5 (by decide)) (by decide) (by decide) (by decide)) (by decide) (by decide)
  obtain ⟨sl1, esl1⟩ : ∃ z, kR κ rs5 1 = z := ⟨_, rfl⟩
  have tsl1 : zk σ0 sl1 3 := by rw [← esl1]; exact hT.kr (hT.ref (hT.k trs5 (by decide)) (by decide) (by decide) (by decide)) (by decide) (by decide)
  obtain ⟨rW, erW⟩ : ∃ z, kR κ mm 1 = z := ⟨_, rfl⟩
  have trW : zk σ0 rW 21 := by rw [← erW]; exact hT.kr (hT.ref (hT.k t_mm (by decide)) (by decide) (by decide) (by decide)) (by decide) (by decide)
  obtain ⟨rS, erS⟩ : ∃ z, kR κ mm 3 = z := ⟨_, rfl⟩
  have trS : zk σ0 rS 22 := by rw [← erS]; exact hT.kr (hT.ref (hT.k t_mm (by decide)) (by decide) (by decide) (by decide)) (by decide) (by decide)
  obtain ⟨so, eso⟩ : ∃ z, kR κ x 1 = z := ⟨_, rfl⟩
  have tso : zk σ0 so 4 := by rw [← eso]; exact hT.kr (hT.ref (hT.k t_x (by decide)) (by decide) (by decide) (by decide)) (by decide) (by decide)
  obtain ⟨qP, eqP⟩ : ∃ z, kR κ so 0 = z := ⟨_, rfl⟩
  have tqP : zk σ0 qP 8 := by rw [← eqP]; exact hT.kr (hT.ref (hT.k tso (by decide)) (by decide) (by decide) (by decide)) (by decide) (by decide)
  obtain ⟨qO, eqO⟩ : ∃ z, kR κ so 1 = z := ⟨_, rfl⟩
  have tqO : zk σ0 qO 16 := by rw [← eqO]; exact hT.kr (hT.ref (hT.k tso (by decide)) (by decide) (by decide) (by decide)) (by decide) (by decide)
  obtain ⟨r5, er5⟩ : ∃ z, kR κ mm 5 = z := ⟨_, rfl⟩
  have tr5 : zk σ0 r5 25 := by rw [← er5]; exact hT.kr (hT.ref (hT.k t_mm (by decide)) (by decide) (by decide) (by decide)) (by decide) (by decide)
  obtain ⟨r6, er6⟩ : ∃ z, kR κ mm 6 = z := ⟨_, rfl⟩
  have tr6 : zk σ0 r6 26 := by rw [← er6]; exact hT.kr (hT.ref (hT.k t_mm (by decide)) (by decide) (by decide) (by decide)) (by decide) (by decide)
  obtain ⟨hnw, hsl⟩ := hsr
  obtain ⟨hd1, ⟨hd2, hd3⟩, hd4, hd5, hd6, hd7⟩ := hdis
  have d_nt : nw ≠ tr := by rw [← enw, ← etr]; exact hd2
  have d_n0 : nw ≠ sl0 := by rw [← enw, ← esl0, ← ers5]; exact hd3 0 (by decide)
  have d_t0 : sl0 ≠ tr := by rw [← etr, ← esl0, ← ers5]; exact fun q => hd4 0 (by decide) q.symm
  have d_n1 : nw ≠ sl1 := by rw [← enw, ← esl1, ← ers5]; exact hd3 1 (by decide)
  have d_t1 : sl1 ≠ tr := by rw [← etr, ← esl1, ← ers5]; exact fun q => hd4 1 (by decide) q.symm
  have d_01 : sl0 ≠ sl1 := by rw [← esl0, ← esl1, ← ers5]; exact hd5
  have knw : zk σ nw 3 := hT.k tnw (by decide)
  have ksl0 : zk σ sl0 3 := hT.k tsl0 (by decide)
  have ksl1 : zk σ sl1 3 := hT.k tsl1 (by decide)
  refine lv_aload_n hx hb dL_law_1369 rfl (lv_at hl 3 rfl) ?_
  have hTo := hT
  refine tVi (n := 0) (As := []) (rest := []) hx hb hml hown hg hT hK hX (X5_reasonSample l κ σ x (hT.k t_x (by decide))) sub_fE_fA (mwV k598 k599 k600 k84 k601) ⟨rfl, by decide, by decide, by decide +kernel⟩ ⟨(Nat.le_of_ble_eq_true rfl), (Nat.le_of_ble_eq_true rfl)⟩ (hT.o7 (hT.k t_x (by decide))) rfl rfl hl.1 rfl (Nat.le_of_ble_eq_true rfl) dL_law_1370 zx.dn (fun r2 s1 H locs hφ hE hT => ?_)
  have R3 := hR.ext hE ⟨rfl, rfl, fun _ => rfl, fun _ => rfl, fun _ => rfl, fun _ => rfl⟩
  have a4 : (zI s1 tx 1).toInt = (zI σ tx 1).toInt := by rw [(hTo.k ttx (by decide)).eI hE (by decide) rfl]
  have j5 : zI s1 rB = zI σ rB := (show zI s1 rB = zI σ rB from funext fun k => (hTo.k trB (by decide)).eI hE (by decide) rfl)
  have j6 : zI s1 rT = zI σ rT := (show zI s1 rT = zI σ rT from funext fun k => (hTo.k trT (by decide)).eI hE (by decide) rfl)
  have j7 : zI s1 rI = zI σ rI := (show zI s1 rI = zI σ rI from funext fun k => (hTo.k trI (by decide)).eI hE (by decide) rfl)
  have j8 : zI s1 rK = zI σ rK := (show zI s1 rK = zI σ rK from funext fun k => (hTo.k trK (by decide)).eI hE (by decide) rfl)
  have j9 : zI s1 tx 2 = zI σ tx 2 := (hTo.k ttx (by decide)).eI hE (by decide) rfl
  have j10 : zI s1 tx 3 = zI σ tx 3 := (hTo.k ttx (by decide)).eI hE (by decide) rfl
  have j11 : zI s1 mm 15 = zI σ mm 15 := (hTo.k t_mm (by decide)).eI hE (by decide) rfl
  have j12 : zI s1 mm 16 = zI σ mm 16 := (hTo.k t_mm (by decide)).eI hE (by decide) rfl
  have n13 : zI s1 nw 7 = zI σ nw 7 ∧ zI s1 nw 8 = zI σ nw 8 ∧ zI s1 nw 9 = zI σ nw 9 := ⟨(hTo.k tnw (by decide)).eI hE (by decide) rfl, (hTo.k tnw (by decide)).eI hE (by decide) rfl, (hTo.k tnw (by decide)).eI hE (by decide) rfl⟩
  have n14 : zI s1 sl0 7 = zI σ sl0 7 ∧ zI s1 sl0 8 = zI σ sl0 8 ∧ zI s1 sl0 9 = zI σ sl0 9 := ⟨(hTo.k tsl0 (by decide)).eI hE (by decide) rfl, (hTo.k tsl0 (by decide)).eI hE (by decide) rfl, (hTo.k tsl0 (by decide)).eI hE (by decide) rfl⟩
  have n15 : zI s1 sl1 7 = zI σ sl1 7 ∧ zI s1 sl1 8 = zI σ sl1 8 ∧ zI s1 sl1 9 = zI σ sl1 9 := ⟨(hTo.k tsl1 (by decide)).eI hE (by decide) rfl, (hTo.k tsl1 (by decide)).eI hE (by decide) rfl, (hTo.k tsl1 (by decide)).eI hE (by decide) rfl⟩
  have n16 : ∀ j : Nat, j < 3 → zJ s1 rW j = zJ σ rW j := fun j hj => (hTo.k trW (by decide)).eJ hE (by decide) rfl
  have n17 : zJ s1 rS = zJ σ rS := (show zJ s1 rS = zJ σ rS from funext fun k => (hTo.k trS (by decide)).eJ hE (by decide) rfl)
  have z18 : zI s1 so 2 = zI σ so 2 ∧ zI s1 so 6 = zI σ so 6 ∧ zI s1 qP = zI σ qP ∧ zI s1 qO = zI σ qO := ⟨(hTo.k tso (by decide)).eI hE (by decide) rfl, (hTo.k tso (by decide)).eI hE (by decide) rfl, funext fun q9 => (hTo.k tqP (by decide)).eI hE (by decide) rfl, funext fun q9 => (hTo.k tqO (by decide)).eI hE (by decide) rfl⟩
  have z19 : zI s1 mm 7 = zI σ mm 7 ∧ zI s1 mm 8 = zI σ mm 8 ∧ zI s1 r5 = zI σ r5 ∧ zI s1 r6 = zI σ r6 := ⟨(hTo.k t_mm (by decide)).eI hE (by decide) rfl, (hTo.k t_mm (by decide)).eI hE (by decide) rfl, funext fun q9 => (hTo.k tr5 (by decide)).eI hE (by decide) rfl, funext fun q9 => (hTo.k tr6 (by decide)).eI hE (by decide) rfl⟩
  have a20 : (zI s1 mm 13).toInt = (zI σ mm 13).toInt := by rw [(hTo.k t_mm (by decide)).eI hE (by decide) rfl]
  refine lv_pop hx hb dL_law_1373 rfl ?_
  refine lv_aload_n hx hb dL_law_1374 rfl (lv_at hl 2 rfl) ?_
  have hTo := hT
  refine tVi (n := 0) (As := []) (rest := []) hx hb hml hown hg hT hK hX (X6_reasonSample l κ s1 mm (hT.k t_mm (by decide)) R3) sub_gR_fA (mwV k1686 k1687 k1688 k92 k1689) ⟨rfl, by decide, by decide, by decide +kernel⟩ ⟨(Nat.le_of_ble_eq_true rfl), (Nat.le_of_ble_eq_true rfl)⟩ (hT.o20 (hT.k t_mm (by decide))) rfl rfl hl.1 rfl (Nat.le_of_ble_eq_true rfl) dL_law_1375 zx.dn (fun r22 s21 H locs hφ hE hT => ?_)
  have R23 := R3.ext hE ⟨rfl, rfl, fun _ => rfl, fun _ => rfl, fun _ => rfl, fun _ => rfl⟩
  have a24 : (zI s21 tx 1).toInt = (zI s1 tx 1).toInt := by rw [(hTo.k ttx (by decide)).eI hE (by decide) rfl]
  have j25 : zI s21 rB = zI σ rB := ((show zI s21 rB = zI s1 rB from funext fun k => (hTo.k trB (by decide)).eI hE (by decide) rfl)).trans j5
  have j26 : zI s21 rT = zI σ rT := ((show zI s21 rT = zI s1 rT from funext fun k => (hTo.k trT (by decide)).eI hE (by decide) rfl)).trans j6
  have j27 : zI s21 rI = zI σ rI := ((show zI s21 rI = zI s1 rI from funext fun k => (hTo.k trI (by decide)).eI hE (by decide) rfl)).trans j7
  have j28 : zI s21 rK = zI σ rK := ((show zI s21 rK = zI s1 rK from funext fun k => (hTo.k trK (by decide)).eI hE (by decide) rfl)).trans j8
  have j29 : zI s21 tx 2 = zI σ tx 2 := ((hTo.k ttx (by decide)).eI hE (by decide) rfl).trans j9
  have j30 : zI s21 tx 3 = zI σ tx 3 := ((hTo.k ttx (by decide)).eI hE (by decide) rfl).trans j10
  have j31 : zI s21 mm 15 = zI σ mm 15 := ((hTo.k t_mm (by decide)).eI hE (by decide) rfl).trans j11
  have j32 : zI s21 mm 16 = zI σ mm 16 := ((hTo.k t_mm (by decide)).eI hE (by decide) rfl).trans j12
  have n33 : zI s21 nw 7 = zI s1 nw 7 ∧ zI s21 nw 8 = zI s1 nw 8 ∧ zI s21 nw 9 = zI s1 nw 9 := ⟨(hTo.k tnw (by decide)).eI hE (by decide) rfl, (hTo.k tnw (by decide)).eI hE (by decide) rfl, (hTo.k tnw (by decide)).eI hE (by decide) rfl⟩
  have n34 : zI s21 nw 7 = zI σ nw 7 ∧ zI s21 nw 8 = zI σ nw 8 ∧ zI s21 nw 9 = zI σ nw 9 := ⟨n33.1.trans n13.1, n33.2.1.trans n13.2.1, n33.2.2.trans n13.2.2⟩
  have n35 : zI s21 sl0 7 = zI s1 sl0 7 ∧ zI s21 sl0 8 = zI s1 sl0 8 ∧ zI s21 sl0 9 = zI s1 sl0 9 := ⟨(hTo.k tsl0 (by decide)).eI hE (by decide) rfl, (hTo.k tsl0 (by decide)).eI hE (by decide) rfl, (hTo.k tsl0 (by decide)).eI hE (by decide) rfl⟩
  have n36 : zI s21 sl0 7 = zI σ sl0 7 ∧ zI s21 sl0 8 = zI σ sl0 8 ∧ zI s21 sl0 9 = zI σ sl0 9 := ⟨n35.1.trans n14.1, n35.2.1.trans n14.2.1, n35.2.2.trans n14.2.2⟩
  have n37 : zI s21 sl1 7 = zI s1 sl1 7 ∧ zI s21 sl1 8 = zI s1 sl1 8 ∧ zI s21 sl1 9 = zI s1 sl1 9 := ⟨(hTo.k tsl1 (by decide)).eI hE (by decide) rfl, (hTo.k tsl1 (by decide)).eI hE (by decide) rfl, (hTo.k tsl1 (by decide)).eI hE (by decide) rfl⟩
  have n38 : zI s21 sl1 7 = zI σ sl1 7 ∧ zI s21 sl1 8 = zI σ sl1 8 ∧ zI s21 sl1 9 = zI σ sl1 9 := ⟨n37.1.trans n15.1, n37.2.1.trans n15.2.1, n37.2.2.trans n15.2.2⟩
  have n39 : ∀ j : Nat, j < 3 → zJ s21 rW j = zJ s1 rW j := fun j hj => (hTo.k trW (by decide)).eJ hE (by decide) rfl
  have n40 : ∀ j : Nat, j < 3 → zJ s21 rW j = zJ σ rW j := fun j hj => (n39 j hj).trans (n16 j hj)
  have n41 : zJ s21 rS = zJ σ rS := (show zJ s21 rS = zJ s1 rS from funext fun k => (hTo.k trS (by decide)).eJ hE (by decide) rfl).trans n17
  have z42 : zI s21 so 2 = zI s1 so 2 ∧ zI s21 so 6 = zI s1 so 6 ∧ zI s21 qP = zI s1 qP ∧ zI s21 qO = zI s1 qO := ⟨(hTo.k tso (by decide)).eI hE (by decide) rfl, (hTo.k tso (by decide)).eI hE (by decide) rfl, funext fun q9 => (hTo.k tqP (by decide)).eI hE (by decide) rfl, funext fun q9 => (hTo.k tqO (by decide)).eI hE (by decide) rfl⟩
  have z43 : zI s21 so 2 = zI σ so 2 ∧ zI s21 so 6 = zI σ so 6 ∧ zI s21 qP = zI σ qP ∧ zI s21 qO = zI σ qO := ⟨z42.1.trans z18.1, z42.2.1.trans z18.2.1, z42.2.2.1.trans z18.2.2.1, z42.2.2.2.trans z18.2.2.2⟩
  have z44 : zI s21 mm 7 = zI s1 mm 7 ∧ zI s21 mm 8 = zI s1 mm 8 ∧ zI s21 r5 = zI s1 r5 ∧ zI s21 r6 = zI s1 r6 := ⟨(hTo.k t_mm (by decide)).eI hE (by decide) rfl, (hTo.k t_mm (by decide)).eI hE (by decide) rfl, funext fun q9 => (hTo.k tr5 (by decide)).eI hE (by decide) rfl, funext fun q9 => (hTo.k tr6 (by decide)).eI hE (by decide) rfl⟩
  have z45 : zI s21 mm 7 = zI σ mm 7 ∧ zI s21 mm 8 = zI σ mm 8 ∧ zI s21 r5 = zI σ r5 ∧ zI s21 r6 = zI σ r6 := ⟨z44.1.trans z19.1, z44.2.1.trans z19.2.1, z44.2.2.1.trans z19.2.2.1, z44.2.2.2.trans z19.2.2.2⟩
  have a46 : (zI s21 mm 13).toInt = (zI s1 mm 13).toInt := by rw [(hTo.k t_mm (by decide)).eI hE (by decide) rfl]
  refine lv_pop hx hb dL_law_1378 rfl ?_
  refine lv_goto (tgt := 1432) hx hb dL_law_1379 (by decide) ?_
  have sl0f : zI s21 rI 0 ≠ 0 → SLT κ s21 x mm 0 := fun hq => (hsl 0 (by decide) (fun q9 => hq (by rw [erI] at q9; rw [j27]; exact q9))).tr (by rw [ers5, esl0]; exact n36) (fun j hj => by rw [erS, n41])
  have sl1f : zI s21 rI 1 ≠ 0 → SLT κ s21 x mm 1 := fun hq => (hsl 1 (by decide) (fun q9 => hq (by rw [erI] at q9; rw [j27]; exact q9))).tr (by rw [ers5, esl1]; exact n38) (fun j hj => by rw [erS, n41])
  exact KK s21 _ _ _ hT.up R23 ⟨by rw [etx]; omega, ⟨by rw [etx, erB, erT, j25, j26]; exact tal_less hal (by omega), by rw [erT, j26]; exact tnn_less hnn (by omega)⟩, ⟨by rw [etx, j29, j31]; exact hco, by rw [etx, j30, j32]; exact hpo⟩, fun i hi => by rw [erI, erK, j27, j28]; exact hkp i hi⟩ (⟨hnw.tr (by rw [enw]; exact n34) (by rw [erW]; exact n40), fun i hi => (show i = 0 ∨ i = 1 by omega).elim (fun e9 => by rw [e9, erI]; exact sl0f) (fun e9 => by rw [e9, erI]; exact sl1f)⟩) (hsm.tr (by rw [eso, eqP, eqO]; exact z43) (by rw [er5, er6]; exact z45)) (lv_sub hl [0, 1, 2, 3, 4] rfl)
