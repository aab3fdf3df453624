/-! The wrappers of the law -/
def fA : Nat → Nat → Bool := fun t k => true
theorem fL_fA {n : Nat} : ∀ k, fA (100 + n) k = true := by intro k; unfold fA; simp <;> omega
def hfTr : Nat → Nat → Bool := fun t k => t == 24 || (t == 6 && k == 1)
def hfLd : Nat → Nat → Bool := fun t k => t == 24 || (t == 6 || (t == 5 || (t == 17 || (t == 18 || (t == 4 || (t == 8 || (t == 16 || (t == 3 || (t == 9 || (t == 15 || (t == 13 || (t == 1 || decide (100 ≤ t)))))))))))))
theorem fL_hfLd {n : Nat} : ∀ k, hfLd (100 + n) k = true := by intro k; unfold hfLd; simp <;> omega
def hfE : Nat → Nat → Bool := fun t k => t == 24 || (false)
def hfW : Nat → Nat → Bool := fun t k => t == 24 || (t == 1 || decide (100 ≤ t))
theorem fL_hfW {n : Nat} : ∀ k, hfW (100 + n) k = true := by intro k; unfold hfW; simp <;> omega
def hfSet : Nat → Nat → Bool := fun t k => t == 24 || (t == 3 && (k == 7 || (k == 8 || k == 9)))
def hfWr : Nat → Nat → Bool := fun t k => t == 24 || ((t == 7 && decide (7 ≤ k)) || (t == 1 || decide (100 ≤ t)))
theorem fL_hfWr {n : Nat} : ∀ k, hfWr (100 + n) k = true := by intro k; unfold hfWr; simp <;> omega
def hfLr : Nat → Nat → Bool := fun t k => t == 24 || ((t == 7 && decide (7 ≤ k)) || ((t == 3 && k == 5) || (t == 2 || (t == 9 || (t == 15 || (t == 1 || decide (100 ≤ t)))))))
theorem fL_hfLr {n : Nat} : ∀ k, hfLr (100 + n) k = true := by intro k; unfold hfLr; simp <;> omega
def hfCp : Nat → Nat → Bool := fun t k => t == 24 || (t == 3 || (t == 2 || (t == 9 || (t == 15 || (t == 1 || decide (100 ≤ t))))))
theorem fL_hfCp {n : Nat} : ∀ k, hfCp (100 + n) k = true := by intro k; unfold hfCp; simp <;> omega
def hfCv : Nat → Nat → Bool := fun t k => t == 24 || (t == 3 || (t == 2 || (t == 9 || (t == 15 || ((t == 1 && !(k == 0)) || decide (100 ≤ t))))))
theorem fL_hfCv {n : Nat} : ∀ k, hfCv (100 + n) k = true := by intro k; unfold hfCv; simp <;> omega
def hfSv : Nat → Nat → Bool := fun t k => t == 24 || (t == 13 || (t == 3 || (t == 2 || (t == 9 || (t == 15 || (t == 1 || decide (100 ≤ t)))))))
theorem fL_hfSv {n : Nat} : ∀ k, hfSv (100 + n) k = true := by intro k; unfold hfSv; simp <;> omega
theorem sub_fCp_hfCp : ∀ t k, hfCp t k = false → fCp t k = false := by
  intro t k h
  simp [fCp, hfCp] at h ⊢ <;> omega
theorem sub_fCv_hfCv : ∀ t k, hfCv t k = false → fCv t k = false := by
  intro t k h
  simp [fCv, hfCv] at h ⊢ <;> omega
theorem sub_fE_hfE : ∀ t k, hfE t k = false → fE t k = false := by
  intro t k h
  simp [fE, hfE] at h ⊢ <;> omega
theorem sub_fLd_hfLd : ∀ t k, hfLd t k = false → fLd t k = false := by
  intro t k h
  simp [fLd, hfLd] at h ⊢ <;> omega
theorem sub_fLr_hfLr : ∀ t k, hfLr t k = false → fLr t k = false := by
  intro t k h
  simp [fLr, hfLr] at h ⊢ <;> omega
theorem sub_fSet_hfSet : ∀ t k, hfSet t k = false → fSet t k = false := by
  intro t k h
  simp [fSet, hfSet] at h ⊢ <;> omega
theorem sub_fSv_hfSv : ∀ t k, hfSv t k = false → fSv t k = false := by
  intro t k h
  simp [fSv, hfSv] at h ⊢ <;> omega
theorem sub_fTr_hfTr : ∀ t k, hfTr t k = false → fTr t k = false := by
  intro t k h
  simp [fTr, hfTr] at h ⊢ <;> omega
theorem sub_fW_hfW : ∀ t k, hfW t k = false → fW t k = false := by
  intro t k h
  simp [fW, hfW] at h ⊢ <;> omega
theorem sub_fWr_hfWr : ∀ t k, hfWr t k = false → fWr t k = false := by
  intro t k h
  simp [fWr, hfWr] at h ⊢ <;> omega
theorem k605 : Cond.classLink RL 13 "java/lang/IndexOutOfBoundsException" ∈ GW := gm 605 (by decide +kernel) (by decide +kernel)
theorem k606 : Cond.methodLink RL 7 yX5_truncate ∈ GW := gm 606 (by decide +kernel) (by decide +kernel)
theorem k607 : Cond.instanceMethod yX5_truncate ∈ GW := gm 607 (by decide +kernel) (by decide +kernel)
theorem k608 : Cond.selects RX5 yX5_truncate yX5_truncate ∈ GW := gm 608 (by decide +kernel) (by decide +kernel)
theorem k609 : Cond.code yX5_truncate cX5_truncate 2 (some .int) ∈ GW := gm 609 (by decide +kernel) (by decide +kernel)
theorem k684 : Cond.classLink RL 19 "java/lang/IllegalArgumentException" ∈ GW := gm 684 (by decide +kernel) (by decide +kernel)
theorem k685 : Cond.methodLink RL 15 yX5_load ∈ GW := gm 685 (by decide +kernel) (by decide +kernel)
theorem k686 : Cond.instanceMethod yX5_load ∈ GW := gm 686 (by decide +kernel) (by decide +kernel)
theorem k687 : Cond.selects RX5 yX5_load yX5_load ∈ GW := gm 687 (by decide +kernel) (by decide +kernel)
theorem k688 : Cond.code yX5_load cX5_load 3 (some .int) ∈ GW := gm 688 (by decide +kernel) (by decide +kernel)
theorem k837 : Cond.methodLink RL 21 yX5_count ∈ GW := gm 837 (by decide +kernel) (by decide +kernel)
theorem k838 : Cond.instanceMethod yX5_count ∈ GW := gm 838 (by decide +kernel) (by decide +kernel)
theorem k839 : Cond.selects RX5 yX5_count yX5_count ∈ GW := gm 839 (by decide +kernel) (by decide +kernel)
theorem k840 : Cond.code yX5_count cX5_count 2 (some .int) ∈ GW := gm 840 (by decide +kernel) (by decide +kernel)
theorem k857 : Cond.methodLink RL 24 yX5_sample ∈ GW := gm 857 (by decide +kernel) (by decide +kernel)
theorem k858 : Cond.instanceMethod yX5_sample ∈ GW := gm 858 (by decide +kernel) (by decide +kernel)
theorem k859 : Cond.selects RX5 yX5_sample yX5_sample ∈ GW := gm 859 (by decide +kernel) (by decide +kernel)
theorem k860 : Cond.code yX5_sample cX5_sample 3 (some .long) ∈ GW := gm 860 (by decide +kernel) (by decide +kernel)
theorem k866 : Cond.methodLink RL 28 yX5_present ∈ GW := gm 866 (by decide +kernel) (by decide +kernel)
theorem k867 : Cond.instanceMethod yX5_present ∈ GW := gm 867 (by decide +kernel) (by decide +kernel)
theorem k868 : Cond.selects RX5 yX5_present yX5_present ∈ GW := gm 868 (by decide +kernel) (by decide +kernel)
theorem k869 : Cond.code yX5_present cX5_present 2 (some .int) ∈ GW := gm 869 (by decide +kernel) (by decide +kernel)
theorem k877 : Cond.methodLink RL 31 yX5_neighbour ∈ GW := gm 877 (by decide +kernel) (by decide +kernel)
theorem k878 : Cond.instanceMethod yX5_neighbour ∈ GW := gm 878 (by decide +kernel) (by decide +kernel)
theorem k879 : Cond.selects RX5 yX5_neighbour yX5_neighbour ∈ GW := gm 879 (by decide +kernel) (by decide +kernel)
theorem k880 : Cond.code yX5_neighbour cX5_neighbour 3 (some .int) ∈ GW := gm 880 (by decide +kernel) (by decide +kernel)
theorem k886 : Cond.methodLink RL 35 yX5_step ∈ GW := gm 886 (by decide +kernel) (by decide +kernel)
theorem k887 : Cond.instanceMethod yX5_step ∈ GW := gm 887 (by decide +kernel) (by decide +kernel)
theorem k888 : Cond.selects RX5 yX5_step yX5_step ∈ GW := gm 888 (by decide +kernel) (by decide +kernel)
theorem k889 : Cond.code yX5_step cX5_step 4 (some .long) ∈ GW := gm 889 (by decide +kernel) (by decide +kernel)
theorem k893 : Cond.methodLink RL 38 yX5_valueAt ∈ GW := gm 893 (by decide +kernel) (by decide +kernel)
theorem k894 : Cond.instanceMethod yX5_valueAt ∈ GW := gm 894 (by decide +kernel) (by decide +kernel)
theorem k895 : Cond.selects RX5 yX5_valueAt yX5_valueAt ∈ GW := gm 895 (by decide +kernel) (by decide +kernel)
theorem k896 : Cond.code yX5_valueAt cX5_valueAt 2 (some .long) ∈ GW := gm 896 (by decide +kernel) (by decide +kernel)
theorem k905 : Cond.methodLink RL 42 yX5_mean ∈ GW := gm 905 (by decide +kernel) (by decide +kernel)
theorem k906 : Cond.instanceMethod yX5_mean ∈ GW := gm 906 (by decide +kernel) (by decide +kernel)
theorem k907 : Cond.selects RX5 yX5_mean yX5_mean ∈ GW := gm 907 (by decide +kernel) (by decide +kernel)
theorem k908 : Cond.code yX5_mean cX5_mean 6 (some .long) ∈ GW := gm 908 (by decide +kernel) (by decide +kernel)
theorem k930 : Cond.methodLink RL 45 yX5_largest ∈ GW := gm 930 (by decide +kernel) (by decide +kernel)
theorem k931 : Cond.instanceMethod yX5_largest ∈ GW := gm 931 (by decide +kernel) (by decide +kernel)
theorem k932 : Cond.selects RX5 yX5_largest yX5_largest ∈ GW := gm 932 (by decide +kernel) (by decide +kernel)
theorem k933 : Cond.code yX5_largest cX5_largest 2 (some .int) ∈ GW := gm 933 (by decide +kernel) (by decide +kernel)
theorem k945 : Cond.classLink RL 51 "java/util/NoSuchElementException" ∈ GW := gm 945 (by decide +kernel) (by decide +kernel)
theorem k946 : Cond.methodLink RL 48 yX5_next ∈ GW := gm 946 (by decide +kernel) (by decide +kernel)
theorem k947 : Cond.instanceMethod yX5_next ∈ GW := gm 947 (by decide +kernel) (by decide +kernel)
theorem k948 : Cond.selects RX5 yX5_next yX5_next ∈ GW := gm 948 (by decide +kernel) (by decide +kernel)
theorem k949 : Cond.code yX5_next cX5_next 2 (some .int) ∈ GW := gm 949 (by decide +kernel) (by decide +kernel)
theorem k970 : Cond.methodLink RL 53 yX5_setSplit ∈ GW := gm 970 (by decide +kernel) (by decide +kernel)
theorem k971 : Cond.instanceMethod yX5_setSplit ∈ GW := gm 971 (by decide +kernel) (by decide +kernel)
theorem k972 : Cond.selects RX5 yX5_setSplit yX5_setSplit ∈ GW := gm 972 (by decide +kernel) (by decide +kernel)
theorem k973 : Cond.code yX5_setSplit cX5_setSplit 3 (some .int) ∈ GW := gm 973 (by decide +kernel) (by decide +kernel)
theorem k977 : Cond.methodLink RL 56 yX5_setPredict ∈ GW := gm 977 (by decide +kernel) (by decide +kernel)
theorem k978 : Cond.instanceMethod yX5_setPredict ∈ GW := gm 978 (by decide +kernel) (by decide +kernel)
theorem k979 : Cond.selects RX5 yX5_setPredict yX5_setPredict ∈ GW := gm 979 (by decide +kernel) (by decide +kernel)
theorem k980 : Cond.code yX5_setPredict cX5_setPredict 3 (some .int) ∈ GW := gm 980 (by decide +kernel) (by decide +kernel)
theorem k984 : Cond.classLink RL 62 "java/lang/IllegalStateException" ∈ GW := gm 984 (by decide +kernel) (by decide +kernel)
theorem k985 : Cond.methodLink RL 59 yX5_set ∈ GW := gm 985 (by decide +kernel) (by decide +kernel)
theorem k986 : Cond.instanceMethod yX5_set ∈ GW := gm 986 (by decide +kernel) (by decide +kernel)
theorem k987 : Cond.selects RX5 yX5_set yX5_set ∈ GW := gm 987 (by decide +kernel) (by decide +kernel)
theorem k988 : Cond.code yX5_set cX5_set 5 (some .long) ∈ GW := gm 988 (by decide +kernel) (by decide +kernel)
theorem k1016 : Cond.methodLink RL 64 yX5_noise ∈ GW := gm 1016 (by decide +kernel) (by decide +kernel)
theorem k1017 : Cond.instanceMethod yX5_noise ∈ GW := gm 1017 (by decide +kernel) (by decide +kernel)
theorem k1018 : Cond.selects RX5 yX5_noise yX5_noise ∈ GW := gm 1018 (by decide +kernel) (by decide +kernel)
theorem k1019 : Cond.code yX5_noise cX5_noise 3 (some .long) ∈ GW := gm 1019 (by decide +kernel) (by decide +kernel)
theorem k1028 : Cond.methodLink RL 67 yX5_forward ∈ GW := gm 1028 (by decide +kernel) (by decide +kernel)
theorem k1029 : Cond.instanceMethod yX5_forward ∈ GW := gm 1029 (by decide +kernel) (by decide +kernel)
theorem k1030 : Cond.selects RX5 yX5_forward yX5_forward ∈ GW := gm 1030 (by decide +kernel) (by decide +kernel)
theorem k1031 : Cond.code yX5_forward cX5_forward 3 (some .int) ∈ GW := gm 1031 (by decide +kernel) (by decide +kernel)
theorem k1035 : Cond.methodLink RL 70 yX5_lift ∈ GW := gm 1035 (by decide +kernel) (by decide +kernel)
theorem k1036 : Cond.instanceMethod yX5_lift ∈ GW := gm 1036 (by decide +kernel) (by decide +kernel)
theorem k1037 : Cond.selects RX5 yX5_lift yX5_lift ∈ GW := gm 1037 (by decide +kernel) (by decide +kernel)
theorem k1038 : Cond.code yX5_lift cX5_lift 2 (some .long) ∈ GW := gm 1038 (by decide +kernel) (by decide +kernel)
theorem k1043 : Cond.methodLink RL 73 yX5_inverse ∈ GW := gm 1043 (by decide +kernel) (by decide +kernel)
theorem k1044 : Cond.instanceMethod yX5_inverse ∈ GW := gm 1044 (by decide +kernel) (by decide +kernel)
theorem k1045 : Cond.selects RX5 yX5_inverse yX5_inverse ∈ GW := gm 1045 (by decide +kernel) (by decide +kernel)
theorem k1046 : Cond.code yX5_inverse cX5_inverse 2 (some .int) ∈ GW := gm 1046 (by decide +kernel) (by decide +kernel)
theorem k1058 : Cond.methodLink RL 76 yX5_setDetail ∈ GW := gm 1058 (by decide +kernel) (by decide +kernel)
theorem k1059 : Cond.instanceMethod yX5_setDetail ∈ GW := gm 1059 (by decide +kernel) (by decide +kernel)
theorem k1060 : Cond.selects RX5 yX5_setDetail yX5_setDetail ∈ GW := gm 1060 (by decide +kernel) (by decide +kernel)
theorem k1061 : Cond.code yX5_setDetail cX5_setDetail 5 (some .long) ∈ GW := gm 1061 (by decide +kernel) (by decide +kernel)
theorem k1068 : Cond.methodLink RL 79 yX5_threshold ∈ GW := gm 1068 (by decide +kernel) (by decide +kernel)
theorem k1069 : Cond.instanceMethod yX5_threshold ∈ GW := gm 1069 (by decide +kernel) (by decide +kernel)
theorem k1070 : Cond.selects RX5 yX5_threshold yX5_threshold ∈ GW := gm 1070 (by decide +kernel) (by decide +kernel)
theorem k1071 : Cond.code yX5_threshold cX5_threshold 3 (some .int) ∈ GW := gm 1071 (by decide +kernel) (by decide +kernel)
theorem k1087 : Cond.methodLink RL 82 yX5_quantize ∈ GW := gm 1087 (by decide +kernel) (by decide +kernel)
theorem k1088 : Cond.instanceMethod yX5_quantize ∈ GW := gm 1088 (by decide +kernel) (by decide +kernel)
theorem k1089 : Cond.selects RX5 yX5_quantize yX5_quantize ∈ GW := gm 1089 (by decide +kernel) (by decide +kernel)
theorem k1090 : Cond.code yX5_quantize cX5_quantize 2 (some .long) ∈ GW := gm 1090 (by decide +kernel) (by decide +kernel)
theorem k1103 : Cond.methodLink RL 85 yX5_keepLargest ∈ GW := gm 1103 (by decide +kernel) (by decide +kernel)
theorem k1104 : Cond.instanceMethod yX5_keepLargest ∈ GW := gm 1104 (by decide +kernel) (by decide +kernel)
theorem k1105 : Cond.selects RX5 yX5_keepLargest yX5_keepLargest ∈ GW := gm 1105 (by decide +kernel) (by decide +kernel)
theorem k1106 : Cond.code yX5_keepLargest cX5_keepLargest 2 (some .long) ∈ GW := gm 1106 (by decide +kernel) (by decide +kernel)
theorem k1119 : Cond.methodLink RL 88 yX5_error ∈ GW := gm 1119 (by decide +kernel) (by decide +kernel)
theorem k1120 : Cond.instanceMethod yX5_error ∈ GW := gm 1120 (by decide +kernel) (by decide +kernel)
theorem k1121 : Cond.selects RX5 yX5_error yX5_error ∈ GW := gm 1121 (by decide +kernel) (by decide +kernel)
theorem k1122 : Cond.code yX5_error cX5_error 2 (some .long) ∈ GW := gm 1122 (by decide +kernel) (by decide +kernel)
theorem k1152 : Cond.methodLink RL 91 yX5_errorWith ∈ GW := gm 1152 (by decide +kernel) (by decide +kernel)
theorem k1153 : Cond.instanceMethod yX5_errorWith ∈ GW := gm 1153 (by decide +kernel) (by decide +kernel)
theorem k1154 : Cond.selects RX5 yX5_errorWith yX5_errorWith ∈ GW := gm 1154 (by decide +kernel) (by decide +kernel)
theorem k1155 : Cond.code yX5_errorWith cX5_errorWith 3 (some .long) ∈ GW := gm 1155 (by decide +kernel) (by decide +kernel)
theorem k1163 : Cond.methodLink RL 95 yX5_bestThreshold ∈ GW := gm 1163 (by decide +kernel) (by decide +kernel)
theorem k1164 : Cond.instanceMethod yX5_bestThreshold ∈ GW := gm 1164 (by decide +kernel) (by decide +kernel)
theorem k1165 : Cond.selects RX5 yX5_bestThreshold yX5_bestThreshold ∈ GW := gm 1165 (by decide +kernel) (by decide +kernel)
theorem k1166 : Cond.code yX5_bestThreshold cX5_bestThreshold 5 (some .int) ∈ GW := gm 1166 (by decide +kernel) (by decide +kernel)
theorem k1178 : Cond.methodLink RL 98 yX5_bitsBy ∈ GW := gm 1178 (by decide +kernel) (by decide +kernel)
theorem k1179 : Cond.instanceMethod yX5_bitsBy ∈ GW := gm 1179 (by decide +kernel) (by decide +kernel)
theorem k1180 : Cond.selects RX5 yX5_bitsBy yX5_bitsBy ∈ GW := gm 1180 (by decide +kernel) (by decide +kernel)
theorem k1181 : Cond.code yX5_bitsBy cX5_bitsBy 3 (some .int) ∈ GW := gm 1181 (by decide +kernel) (by decide +kernel)
theorem k1185 : Cond.methodLink RL 102 yX5_reason ∈ GW := gm 1185 (by decide +kernel) (by decide +kernel)
theorem k1186 : Cond.instanceMethod yX5_reason ∈ GW := gm 1186 (by decide +kernel) (by decide +kernel)
theorem k1187 : Cond.selects RX5 yX5_reason yX5_reason ∈ GW := gm 1187 (by decide +kernel) (by decide +kernel)
theorem k1188 : Cond.code yX5_reason cX5_reason 2 (some .int) ∈ GW := gm 1188 (by decide +kernel) (by decide +kernel)
theorem k1192 : Cond.methodLink RL 105 yX5_save ∈ GW := gm 1192 (by decide +kernel) (by decide +kernel)
theorem k1193 : Cond.instanceMethod yX5_save ∈ GW := gm 1193 (by decide +kernel) (by decide +kernel)
theorem k1194 : Cond.selects RX5 yX5_save yX5_save ∈ GW := gm 1194 (by decide +kernel) (by decide +kernel)
theorem k1195 : Cond.code yX5_save cX5_save 2 none ∈ GW := gm 1195 (by decide +kernel) (by decide +kernel)
theorem k1199 : Cond.methodLink RL 109 yX5_restore ∈ GW := gm 1199 (by decide +kernel) (by decide +kernel)
theorem k1200 : Cond.instanceMethod yX5_restore ∈ GW := gm 1200 (by decide +kernel) (by decide +kernel)
theorem k1201 : Cond.selects RX5 yX5_restore yX5_restore ∈ GW := gm 1201 (by decide +kernel) (by decide +kernel)
theorem k1202 : Cond.code yX5_restore cX5_restore 2 none ∈ GW := gm 1202 (by decide +kernel) (by decide +kernel)
theorem dL_bestThreshold_0 : decode cL_bestThreshold 0 = .ok (.aload_n 2, 1) := by decide +kernel
theorem dL_bestThreshold_1 : decode cL_bestThreshold 1 = .ok (.iconst 0, 1) := by decide +kernel
theorem dL_bestThreshold_2 : decode cL_bestThreshold 2 = .ok (.aload_n 0, 1) := by decide +kernel
theorem dL_bestThreshold_3 : decode cL_bestThreshold 3 = .ok (.iload_n 1, 1) := by decide +kernel
theorem dL_bestThreshold_4 : decode cL_bestThreshold 4 = .ok (.invokevirtual 95, 3) := by decide +kernel
theorem dL_bestThreshold_7 : decode cL_bestThreshold 7 = .ok (.i2l, 1) := by decide +kernel
theorem dL_bestThreshold_8 : decode cL_bestThreshold 8 = .ok (.lastore, 1) := by decide +kernel
theorem dL_bestThreshold_9 : decode cL_bestThreshold 9 = .ok (.goto 9, 3) := by decide +kernel
theorem dL_bestThreshold_12 : decode cL_bestThreshold 12 = .ok (.astore_n 3, 1) := by decide +kernel
theorem dL_bestThreshold_13 : decode cL_bestThreshold 13 = .ok (.iconst 1, 1) := by decide +kernel
theorem dL_bestThreshold_14 : decode cL_bestThreshold 14 = .ok (.ireturn, 1) := by decide +kernel
theorem dL_bestThreshold_15 : decode cL_bestThreshold 15 = .ok (.astore_n 3, 1) := by decide +kernel
theorem dL_bestThreshold_16 : decode cL_bestThreshold 16 = .ok (.iconst 2, 1) := by decide +kernel
theorem dL_bestThreshold_17 : decode cL_bestThreshold 17 = .ok (.ireturn, 1) := by decide +kernel
theorem dL_bestThreshold_18 : decode cL_bestThreshold 18 = .ok (.iconst 0, 1) := by decide +kernel
theorem dL_bestThreshold_19 : decode cL_bestThreshold 19 = .ok (.ireturn, 1) := by decide +kernel
theorem dL_bitsBy_0 : decode cL_bitsBy 0 = .ok (.aload_n 3, 1) := by decide +kernel
theorem dL_bitsBy_1 : decode cL_bitsBy 1 = .ok (.iconst 0, 1) := by decide +kernel
theorem dL_bitsBy_2 : decode cL_bitsBy 2 = .ok (.aload_n 0, 1) := by decide +kernel
theorem dL_bitsBy_3 : decode cL_bitsBy 3 = .ok (.iload_n 1, 1) := by decide +kernel
theorem dL_bitsBy_4 : decode cL_bitsBy 4 = .ok (.iload_n 2, 1) := by decide +kernel
theorem dL_bitsBy_5 : decode cL_bitsBy 5 = .ok (.invokevirtual 98, 3) := by decide +kernel
theorem dL_bitsBy_8 : decode cL_bitsBy 8 = .ok (.i2l, 1) := by decide +kernel
theorem dL_bitsBy_9 : decode cL_bitsBy 9 = .ok (.lastore, 1) := by decide +kernel
theorem dL_bitsBy_10 : decode cL_bitsBy 10 = .ok (.goto 7, 3) := by decide +kernel
theorem dL_bitsBy_13 : decode cL_bitsBy 13 = .ok (.astore 4, 2) := by decide +kernel
theorem dL_bitsBy_15 : decode cL_bitsBy 15 = .ok (.iconst 1, 1) := by decide +kernel
theorem dL_bitsBy_16 : decode cL_bitsBy 16 = .ok (.ireturn, 1) := by decide +kernel
theorem dL_bitsBy_17 : decode cL_bitsBy 17 = .ok (.iconst 0, 1) := by decide +kernel
theorem dL_bitsBy_18 : decode cL_bitsBy 18 = .ok (.ireturn, 1) := by decide +kernel
theorem dL_count_0 : decode cL_count 0 = .ok (.aload_n 2, 1) := by decide +kernel
theorem dL_count_1 : decode cL_count 1 = .ok (.iconst 0, 1) := by decide +kernel
theorem dL_count_2 : decode cL_count 2 = .ok (.aload_n 0, 1) := by decide +kernel
theorem dL_count_3 : decode cL_count 3 = .ok (.iload_n 1, 1) := by decide +kernel
theorem dL_count_4 : decode cL_count 4 = .ok (.invokevirtual 21, 3) := by decide +kernel
theorem dL_count_7 : decode cL_count 7 = .ok (.i2l, 1) := by decide +kernel
theorem dL_count_8 : decode cL_count 8 = .ok (.lastore, 1) := by decide +kernel
theorem dL_count_9 : decode cL_count 9 = .ok (.goto 6, 3) := by decide +kernel
theorem dL_count_12 : decode cL_count 12 = .ok (.astore_n 3, 1) := by decide +kernel
theorem dL_count_13 : decode cL_count 13 = .ok (.iconst 1, 1) := by decide +kernel
theorem dL_count_14 : decode cL_count 14 = .ok (.ireturn, 1) := by decide +kernel
theorem dL_count_15 : decode cL_count 15 = .ok (.iconst 0, 1) := by decide +kernel
theorem dL_count_16 : decode cL_count 16 = .ok (.ireturn, 1) := by decide +kernel
theorem dL_error_0 : decode cL_error 0 = .ok (.aload_n 2, 1) := by decide +kernel
theorem dL_error_1 : decode cL_error 1 = .ok (.iconst 0, 1) := by decide +kernel
theorem dL_error_2 : decode cL_error 2 = .ok (.aload_n 0, 1) := by decide +kernel
theorem dL_error_3 : decode cL_error 3 = .ok (.iload_n 1, 1) := by decide +kernel
theorem dL_error_4 : decode cL_error 4 = .ok (.invokevirtual 88, 3) := by decide +kernel
theorem dL_error_7 : decode cL_error 7 = .ok (.lastore, 1) := by decide +kernel
theorem dL_error_8 : decode cL_error 8 = .ok (.goto 6, 3) := by decide +kernel
theorem dL_error_11 : decode cL_error 11 = .ok (.astore_n 3, 1) := by decide +kernel
theorem dL_error_12 : decode cL_error 12 = .ok (.iconst 1, 1) := by decide +kernel
theorem dL_error_13 : decode cL_error 13 = .ok (.ireturn, 1) := by decide +kernel
theorem dL_error_14 : decode cL_error 14 = .ok (.iconst 0, 1) := by decide +kernel
theorem dL_error_15 : decode cL_error 15 = .ok (.ireturn, 1) := by decide +kernel
theorem dL_errorWith_0 : decode cL_errorWith 0 = .ok (.aload_n 3, 1) := by decide +kernel
theorem dL_errorWith_1 : decode cL_errorWith 1 = .ok (.iconst 0, 1) := by decide +kernel
theorem dL_errorWith_2 : decode cL_errorWith 2 = .ok (.aload_n 0, 1) := by decide +kernel
theorem dL_errorWith_3 : decode cL_errorWith 3 = .ok (.iload_n 1, 1) := by decide +kernel
theorem dL_errorWith_4 : decode cL_errorWith 4 = .ok (.iload_n 2, 1) := by decide +kernel
theorem dL_errorWith_5 : decode cL_errorWith 5 = .ok (.invokevirtual 91, 3) := by decide +kernel
theorem dL_errorWith_8 : decode cL_errorWith 8 = .ok (.lastore, 1) := by decide +kernel
theorem dL_errorWith_9 : decode cL_errorWith 9 = .ok (.goto 7, 3) := by decide +kernel
theorem dL_errorWith_12 : decode cL_errorWith 12 = .ok (.astore 4, 2) := by decide +kernel
theorem dL_errorWith_14 : decode cL_errorWith 14 = .ok (.iconst 1, 1) := by decide +kernel
theorem dL_errorWith_15 : decode cL_errorWith 15 = .ok (.ireturn, 1) := by decide +kernel
theorem dL_errorWith_16 : decode cL_errorWith 16 = .ok (.iconst 0, 1) := by decide +kernel
theorem dL_errorWith_17 : decode cL_errorWith 17 = .ok (.ireturn, 1) := by decide +kernel
theorem dL_forward_0 : decode cL_forward 0 = .ok (.aload_n 2, 1) := by decide +kernel
theorem dL_forward_1 : decode cL_forward 1 = .ok (.iconst 0, 1) := by decide +kernel
theorem dL_forward_2 : decode cL_forward 2 = .ok (.aload_n 0, 1) := by decide +kernel
theorem dL_forward_3 : decode cL_forward 3 = .ok (.iload_n 1, 1) := by decide +kernel
theorem dL_forward_4 : decode cL_forward 4 = .ok (.invokevirtual 67, 3) := by decide +kernel
theorem dL_forward_7 : decode cL_forward 7 = .ok (.i2l, 1) := by decide +kernel
theorem dL_forward_8 : decode cL_forward 8 = .ok (.lastore, 1) := by decide +kernel
theorem dL_forward_9 : decode cL_forward 9 = .ok (.goto 9, 3) := by decide +kernel
theorem dL_forward_12 : decode cL_forward 12 = .ok (.astore_n 3, 1) := by decide +kernel
theorem dL_forward_13 : decode cL_forward 13 = .ok (.iconst 1, 1) := by decide +kernel
theorem dL_forward_14 : decode cL_forward 14 = .ok (.ireturn, 1) := by decide +kernel
theorem dL_forward_15 : decode cL_forward 15 = .ok (.astore_n 3, 1) := by decide +kernel
theorem dL_forward_16 : decode cL_forward 16 = .ok (.iconst 2, 1) := by decide +kernel
theorem dL_forward_17 : decode cL_forward 17 = .ok (.ireturn, 1) := by decide +kernel
theorem dL_forward_18 : decode cL_forward 18 = .ok (.iconst 0, 1) := by decide +kernel
theorem dL_forward_19 : decode cL_forward 19 = .ok (.ireturn, 1) := by decide +kernel
theorem dL_inverse_0 : decode cL_inverse 0 = .ok (.aload_n 2, 1) := by decide +kernel
theorem dL_inverse_1 : decode cL_inverse 1 = .ok (.iconst 0, 1) := by decide +kernel
theorem dL_inverse_2 : decode cL_inverse 2 = .ok (.aload_n 0, 1) := by decide +kernel
theorem dL_inverse_3 : decode cL_inverse 3 = .ok (.iload_n 1, 1) := by decide +kernel
theorem dL_inverse_4 : decode cL_inverse 4 = .ok (.invokevirtual 73, 3) := by decide +kernel
theorem dL_inverse_7 : decode cL_inverse 7 = .ok (.i2l, 1) := by decide +kernel
theorem dL_inverse_8 : decode cL_inverse 8 = .ok (.lastore, 1) := by decide +kernel
theorem dL_inverse_9 : decode cL_inverse 9 = .ok (.goto 9, 3) := by decide +kernel
theorem dL_inverse_12 : decode cL_inverse 12 = .ok (.astore_n 3, 1) := by decide +kernel
theorem dL_inverse_13 : decode cL_inverse 13 = .ok (.iconst 1, 1) := by decide +kernel
theorem dL_inverse_14 : decode cL_inverse 14 = .ok (.ireturn, 1) := by decide +kernel
theorem dL_inverse_15 : decode cL_inverse 15 = .ok (.astore_n 3, 1) := by decide +kernel
theorem dL_inverse_16 : decode cL_inverse 16 = .ok (.iconst 2, 1) := by decide +kernel
theorem dL_inverse_17 : decode cL_inverse 17 = .ok (.ireturn, 1) := by decide +kernel
theorem dL_inverse_18 : decode cL_inverse 18 = .ok (.iconst 0, 1) := by decide +kernel
theorem dL_inverse_19 : decode cL_inverse 19 = .ok (.ireturn, 1) := by decide +kernel
theorem dL_keepLargest_0 : decode cL_keepLargest 0 = .ok (.aload_n 2, 1) := by decide +kernel
theorem dL_keepLargest_1 : decode cL_keepLargest 1 = .ok (.iconst 0, 1) := by decide +kernel
theorem dL_keepLargest_2 : decode cL_keepLargest 2 = .ok (.aload_n 0, 1) := by decide +kernel
theorem dL_keepLargest_3 : decode cL_keepLargest 3 = .ok (.iload_n 1, 1) := by decide +kernel
theorem dL_keepLargest_4 : decode cL_keepLargest 4 = .ok (.invokevirtual 85, 3) := by decide +kernel
theorem dL_keepLargest_7 : decode cL_keepLargest 7 = .ok (.lastore, 1) := by decide +kernel
theorem dL_keepLargest_8 : decode cL_keepLargest 8 = .ok (.goto 6, 3) := by decide +kernel
theorem dL_keepLargest_11 : decode cL_keepLargest 11 = .ok (.astore_n 3, 1) := by decide +kernel
theorem dL_keepLargest_12 : decode cL_keepLargest 12 = .ok (.iconst 1, 1) := by decide +kernel
theorem dL_keepLargest_13 : decode cL_keepLargest 13 = .ok (.ireturn, 1) := by decide +kernel
theorem dL_keepLargest_14 : decode cL_keepLargest 14 = .ok (.iconst 0, 1) := by decide +kernel
theorem dL_keepLargest_15 : decode cL_keepLargest 15 = .ok (.ireturn, 1) := by decide +kernel
theorem dL_largest_0 : decode cL_largest 0 = .ok (.aload_n 2, 1) := by decide +kernel
theorem dL_largest_1 : decode cL_largest 1 = .ok (.iconst 0, 1) := by decide +kernel
theorem dL_largest_2 : decode cL_largest 2 = .ok (.aload_n 0, 1) := by decide +kernel
theorem dL_largest_3 : decode cL_largest 3 = .ok (.iload_n 1, 1) := by decide +kernel
theorem dL_largest_4 : decode cL_largest 4 = .ok (.invokevirtual 45, 3) := by decide +kernel
theorem dL_largest_7 : decode cL_largest 7 = .ok (.i2l, 1) := by decide +kernel
theorem dL_largest_8 : decode cL_largest 8 = .ok (.lastore, 1) := by decide +kernel
theorem dL_largest_9 : decode cL_largest 9 = .ok (.goto 6, 3) := by decide +kernel
theorem dL_largest_12 : decode cL_largest 12 = .ok (.astore_n 3, 1) := by decide +kernel
theorem dL_largest_13 : decode cL_largest 13 = .ok (.iconst 1, 1) := by decide +kernel
theorem dL_largest_14 : decode cL_largest 14 = .ok (.ireturn, 1) := by decide +kernel
theorem dL_largest_15 : decode cL_largest 15 = .ok (.iconst 0, 1) := by decide +kernel
theorem dL_largest_16 : decode cL_largest 16 = .ok (.ireturn, 1) := by decide +kernel
theorem dL_lift_0 : decode cL_lift 0 = .ok (.aload_n 2, 1) := by decide +kernel
theorem dL_lift_1 : decode cL_lift 1 = .ok (.iconst 0, 1) := by decide +kernel
theorem dL_lift_2 : decode cL_lift 2 = .ok (.aload_n 0, 1) := by decide +kernel
theorem dL_lift_3 : decode cL_lift 3 = .ok (.iload_n 1, 1) := by decide +kernel
theorem dL_lift_4 : decode cL_lift 4 = .ok (.invokevirtual 70, 3) := by decide +kernel
theorem dL_lift_7 : decode cL_lift 7 = .ok (.lastore, 1) := by decide +kernel
theorem dL_lift_8 : decode cL_lift 8 = .ok (.goto 9, 3) := by decide +kernel
theorem dL_lift_11 : decode cL_lift 11 = .ok (.astore_n 3, 1) := by decide +kernel
theorem dL_lift_12 : decode cL_lift 12 = .ok (.iconst 1, 1) := by decide +kernel
theorem dL_lift_13 : decode cL_lift 13 = .ok (.ireturn, 1) := by decide +kernel
theorem dL_lift_14 : decode cL_lift 14 = .ok (.astore_n 3, 1) := by decide +kernel
theorem dL_lift_15 : decode cL_lift 15 = .ok (.iconst 2, 1) := by decide +kernel
theorem dL_lift_16 : decode cL_lift 16 = .ok (.ireturn, 1) := by decide +kernel
theorem dL_lift_17 : decode cL_lift 17 = .ok (.iconst 0, 1) := by decide +kernel
theorem dL_lift_18 : decode cL_lift 18 = .ok (.ireturn, 1) := by decide +kernel
theorem dL_load_0 : decode cL_load 0 = .ok (.aload_n 1, 1) := by decide +kernel
theorem dL_load_1 : decode cL_load 1 = .ok (.iconst 0, 1) := by decide +kernel
theorem dL_load_2 : decode cL_load 2 = .ok (.aload_n 0, 1) := by decide +kernel
theorem dL_load_3 : decode cL_load 3 = .ok (.invokevirtual 15, 3) := by decide +kernel
theorem dL_load_6 : decode cL_load 6 = .ok (.i2l, 1) := by decide +kernel
theorem dL_load_7 : decode cL_load 7 = .ok (.lastore, 1) := by decide +kernel
theorem dL_load_8 : decode cL_load 8 = .ok (.goto 6, 3) := by decide +kernel
theorem dL_load_11 : decode cL_load 11 = .ok (.astore_n 2, 1) := by decide +kernel
theorem dL_load_12 : decode cL_load 12 = .ok (.iconst 1, 1) := by decide +kernel
theorem dL_load_13 : decode cL_load 13 = .ok (.ireturn, 1) := by decide +kernel
theorem dL_load_14 : decode cL_load 14 = .ok (.iconst 0, 1) := by decide +kernel
theorem dL_load_15 : decode cL_load 15 = .ok (.ireturn, 1) := by decide +kernel
theorem dL_mean_0 : decode cL_mean 0 = .ok (.aload_n 2, 1) := by decide +kernel
theorem dL_mean_1 : decode cL_mean 1 = .ok (.iconst 0, 1) := by decide +kernel
theorem dL_mean_2 : decode cL_mean 2 = .ok (.aload_n 0, 1) := by decide +kernel
theorem dL_mean_3 : decode cL_mean 3 = .ok (.iload_n 1, 1) := by decide +kernel
theorem dL_mean_4 : decode cL_mean 4 = .ok (.invokevirtual 42, 3) := by decide +kernel
theorem dL_mean_7 : decode cL_mean 7 = .ok (.lastore, 1) := by decide +kernel
theorem dL_mean_8 : decode cL_mean 8 = .ok (.goto 6, 3) := by decide +kernel
theorem dL_mean_11 : decode cL_mean 11 = .ok (.astore_n 3, 1) := by decide +kernel
theorem dL_mean_12 : decode cL_mean 12 = .ok (.iconst 1, 1) := by decide +kernel
theorem dL_mean_13 : decode cL_mean 13 = .ok (.ireturn, 1) := by decide +kernel
theorem dL_mean_14 : decode cL_mean 14 = .ok (.iconst 0, 1) := by decide +kernel
theorem dL_mean_15 : decode cL_mean 15 = .ok (.ireturn, 1) := by decide +kernel
theorem dL_neighbour_0 : decode cL_neighbour 0 = .ok (.aload_n 3, 1) := by decide +kernel
theorem dL_neighbour_1 : decode cL_neighbour 1 = .ok (.iconst 0, 1) := by decide +kernel
theorem dL_neighbour_2 : decode cL_neighbour 2 = .ok (.aload_n 0, 1) := by decide +kernel
theorem dL_neighbour_3 : decode cL_neighbour 3 = .ok (.iload_n 1, 1) := by decide +kernel
theorem dL_neighbour_4 : decode cL_neighbour 4 = .ok (.iload_n 2, 1) := by decide +kernel
theorem dL_neighbour_5 : decode cL_neighbour 5 = .ok (.invokevirtual 31, 3) := by decide +kernel
theorem dL_neighbour_8 : decode cL_neighbour 8 = .ok (.i2l, 1) := by decide +kernel
theorem dL_neighbour_9 : decode cL_neighbour 9 = .ok (.lastore, 1) := by decide +kernel
theorem dL_neighbour_10 : decode cL_neighbour 10 = .ok (.goto 7, 3) := by decide +kernel
theorem dL_neighbour_13 : decode cL_neighbour 13 = .ok (.astore 4, 2) := by decide +kernel
theorem dL_neighbour_15 : decode cL_neighbour 15 = .ok (.iconst 1, 1) := by decide +kernel
theorem dL_neighbour_16 : decode cL_neighbour 16 = .ok (.ireturn, 1) := by decide +kernel
theorem dL_neighbour_17 : decode cL_neighbour 17 = .ok (.iconst 0, 1) := by decide +kernel
theorem dL_neighbour_18 : decode cL_neighbour 18 = .ok (.ireturn, 1) := by decide +kernel
theorem dL_next_0 : decode cL_next 0 = .ok (.aload_n 1, 1) := by decide +kernel
theorem dL_next_1 : decode cL_next 1 = .ok (.iconst 0, 1) := by decide +kernel
theorem dL_next_2 : decode cL_next 2 = .ok (.aload_n 0, 1) := by decide +kernel
theorem dL_next_3 : decode cL_next 3 = .ok (.invokevirtual 48, 3) := by decide +kernel
theorem dL_next_6 : decode cL_next 6 = .ok (.i2l, 1) := by decide +kernel
theorem dL_next_7 : decode cL_next 7 = .ok (.lastore, 1) := by decide +kernel
theorem dL_next_8 : decode cL_next 8 = .ok (.goto 6, 3) := by decide +kernel
theorem dL_next_11 : decode cL_next 11 = .ok (.astore_n 2, 1) := by decide +kernel
theorem dL_next_12 : decode cL_next 12 = .ok (.iconst 1, 1) := by decide +kernel
theorem dL_next_13 : decode cL_next 13 = .ok (.ireturn, 1) := by decide +kernel
theorem dL_next_14 : decode cL_next 14 = .ok (.iconst 0, 1) := by decide +kernel
theorem dL_next_15 : decode cL_next 15 = .ok (.ireturn, 1) := by decide +kernel
theorem dL_noise_0 : decode cL_noise 0 = .ok (.aload_n 3, 1) := by decide +kernel
theorem dL_noise_1 : decode cL_noise 1 = .ok (.iconst 0, 1) := by decide +kernel
theorem dL_noise_2 : decode cL_noise 2 = .ok (.aload_n 0, 1) := by decide +kernel
theorem dL_noise_3 : decode cL_noise 3 = .ok (.iload_n 1, 1) := by decide +kernel
theorem dL_noise_4 : decode cL_noise 4 = .ok (.iload_n 2, 1) := by decide +kernel
theorem dL_noise_5 : decode cL_noise 5 = .ok (.invokevirtual 64, 3) := by decide +kernel
theorem dL_noise_8 : decode cL_noise 8 = .ok (.lastore, 1) := by decide +kernel
theorem dL_noise_9 : decode cL_noise 9 = .ok (.goto 11, 3) := by decide +kernel
theorem dL_noise_12 : decode cL_noise 12 = .ok (.astore 4, 2) := by decide +kernel
theorem dL_noise_14 : decode cL_noise 14 = .ok (.iconst 1, 1) := by decide +kernel
theorem dL_noise_15 : decode cL_noise 15 = .ok (.ireturn, 1) := by decide +kernel
theorem dL_noise_16 : decode cL_noise 16 = .ok (.astore 4, 2) := by decide +kernel
theorem dL_noise_18 : decode cL_noise 18 = .ok (.iconst 2, 1) := by decide +kernel
theorem dL_noise_19 : decode cL_noise 19 = .ok (.ireturn, 1) := by decide +kernel
theorem dL_noise_20 : decode cL_noise 20 = .ok (.iconst 0, 1) := by decide +kernel
theorem dL_noise_21 : decode cL_noise 21 = .ok (.ireturn, 1) := by decide +kernel
theorem dL_present_0 : decode cL_present 0 = .ok (.aload_n 2, 1) := by decide +kernel
theorem dL_present_1 : decode cL_present 1 = .ok (.iconst 0, 1) := by decide +kernel
theorem dL_present_2 : decode cL_present 2 = .ok (.aload_n 0, 1) := by decide +kernel
theorem dL_present_3 : decode cL_present 3 = .ok (.iload_n 1, 1) := by decide +kernel
theorem dL_present_4 : decode cL_present 4 = .ok (.invokevirtual 28, 3) := by decide +kernel
theorem dL_present_7 : decode cL_present 7 = .ok (.i2l, 1) := by decide +kernel
theorem dL_present_8 : decode cL_present 8 = .ok (.lastore, 1) := by decide +kernel
theorem dL_present_9 : decode cL_present 9 = .ok (.goto 6, 3) := by decide +kernel
theorem dL_present_12 : decode cL_present 12 = .ok (.astore_n 3, 1) := by decide +kernel
theorem dL_present_13 : decode cL_present 13 = .ok (.iconst 1, 1) := by decide +kernel
theorem dL_present_14 : decode cL_present 14 = .ok (.ireturn, 1) := by decide +kernel
theorem dL_present_15 : decode cL_present 15 = .ok (.iconst 0, 1) := by decide +kernel
theorem dL_present_16 : decode cL_present 16 = .ok (.ireturn, 1) := by decide +kernel
theorem dL_quantize_0 : decode cL_quantize 0 = .ok (.aload_n 2, 1) := by decide +kernel
theorem dL_quantize_1 : decode cL_quantize 1 = .ok (.iconst 0, 1) := by decide +kernel
theorem dL_quantize_2 : decode cL_quantize 2 = .ok (.aload_n 0, 1) := by decide +kernel
theorem dL_quantize_3 : decode cL_quantize 3 = .ok (.iload_n 1, 1) := by decide +kernel
theorem dL_quantize_4 : decode cL_quantize 4 = .ok (.invokevirtual 82, 3) := by decide +kernel
theorem dL_quantize_7 : decode cL_quantize 7 = .ok (.lastore, 1) := by decide +kernel
theorem dL_quantize_8 : decode cL_quantize 8 = .ok (.goto 6, 3) := by decide +kernel
theorem dL_quantize_11 : decode cL_quantize 11 = .ok (.astore_n 3, 1) := by decide +kernel
theorem dL_quantize_12 : decode cL_quantize 12 = .ok (.iconst 1, 1) := by decide +kernel
theorem dL_quantize_13 : decode cL_quantize 13 = .ok (.ireturn, 1) := by decide +kernel
theorem dL_quantize_14 : decode cL_quantize 14 = .ok (.iconst 0, 1) := by decide +kernel
theorem dL_quantize_15 : decode cL_quantize 15 = .ok (.ireturn, 1) := by decide +kernel
theorem dL_reason_0 : decode cL_reason 0 = .ok (.aload_n 2, 1) := by decide +kernel
theorem dL_reason_1 : decode cL_reason 1 = .ok (.iconst 0, 1) := by decide +kernel
theorem dL_reason_2 : decode cL_reason 2 = .ok (.aload_n 0, 1) := by decide +kernel
theorem dL_reason_3 : decode cL_reason 3 = .ok (.iload_n 1, 1) := by decide +kernel
theorem dL_reason_4 : decode cL_reason 4 = .ok (.invokevirtual 102, 3) := by decide +kernel
theorem dL_reason_7 : decode cL_reason 7 = .ok (.i2l, 1) := by decide +kernel
theorem dL_reason_8 : decode cL_reason 8 = .ok (.lastore, 1) := by decide +kernel
theorem dL_reason_9 : decode cL_reason 9 = .ok (.goto 6, 3) := by decide +kernel
theorem dL_reason_12 : decode cL_reason 12 = .ok (.astore_n 3, 1) := by decide +kernel
theorem dL_reason_13 : decode cL_reason 13 = .ok (.iconst 1, 1) := by decide +kernel
theorem dL_reason_14 : decode cL_reason 14 = .ok (.ireturn, 1) := by decide +kernel
theorem dL_reason_15 : decode cL_reason 15 = .ok (.iconst 0, 1) := by decide +kernel
theorem dL_reason_16 : decode cL_reason 16 = .ok (.ireturn, 1) := by decide +kernel
theorem dL_restore_0 : decode cL_restore 0 = .ok (.aload_n 0, 1) := by decide +kernel
theorem dL_restore_1 : decode cL_restore 1 = .ok (.iload_n 1, 1) := by decide +kernel
theorem dL_restore_2 : decode cL_restore 2 = .ok (.invokevirtual 109, 3) := by decide +kernel
theorem dL_restore_5 : decode cL_restore 5 = .ok (.goto 9, 3) := by decide +kernel
theorem dL_restore_8 : decode cL_restore 8 = .ok (.astore_n 2, 1) := by decide +kernel
theorem dL_restore_9 : decode cL_restore 9 = .ok (.iconst 1, 1) := by decide +kernel
theorem dL_restore_10 : decode cL_restore 10 = .ok (.ireturn, 1) := by decide +kernel
theorem dL_restore_11 : decode cL_restore 11 = .ok (.astore_n 2, 1) := by decide +kernel
theorem dL_restore_12 : decode cL_restore 12 = .ok (.iconst 2, 1) := by decide +kernel
theorem dL_restore_13 : decode cL_restore 13 = .ok (.ireturn, 1) := by decide +kernel
theorem dL_restore_14 : decode cL_restore 14 = .ok (.iconst 0, 1) := by decide +kernel
theorem dL_restore_15 : decode cL_restore 15 = .ok (.ireturn, 1) := by decide +kernel
theorem dL_sample_0 : decode cL_sample 0 = .ok (.aload_n 3, 1) := by decide +kernel
theorem dL_sample_1 : decode cL_sample 1 = .ok (.iconst 0, 1) := by decide +kernel
theorem dL_sample_2 : decode cL_sample 2 = .ok (.aload_n 0, 1) := by decide +kernel
theorem dL_sample_3 : decode cL_sample 3 = .ok (.iload_n 1, 1) := by decide +kernel
theorem dL_sample_4 : decode cL_sample 4 = .ok (.iload_n 2, 1) := by decide +kernel
theorem dL_sample_5 : decode cL_sample 5 = .ok (.invokevirtual 24, 3) := by decide +kernel
theorem dL_sample_8 : decode cL_sample 8 = .ok (.lastore, 1) := by decide +kernel
theorem dL_sample_9 : decode cL_sample 9 = .ok (.goto 11, 3) := by decide +kernel
theorem dL_sample_12 : decode cL_sample 12 = .ok (.astore 4, 2) := by decide +kernel
theorem dL_sample_14 : decode cL_sample 14 = .ok (.iconst 1, 1) := by decide +kernel
theorem dL_sample_15 : decode cL_sample 15 = .ok (.ireturn, 1) := by decide +kernel
theorem dL_sample_16 : decode cL_sample 16 = .ok (.astore 4, 2) := by decide +kernel
theorem dL_sample_18 : decode cL_sample 18 = .ok (.iconst 2, 1) := by decide +kernel
theorem dL_sample_19 : decode cL_sample 19 = .ok (.ireturn, 1) := by decide +kernel
theorem dL_sample_20 : decode cL_sample 20 = .ok (.iconst 0, 1) := by decide +kernel
theorem dL_sample_21 : decode cL_sample 21 = .ok (.ireturn, 1) := by decide +kernel
theorem dL_save_0 : decode cL_save 0 = .ok (.aload_n 0, 1) := by decide +kernel
theorem dL_save_1 : decode cL_save 1 = .ok (.iload_n 1, 1) := by decide +kernel
theorem dL_save_2 : decode cL_save 2 = .ok (.invokevirtual 105, 3) := by decide +kernel
theorem dL_save_5 : decode cL_save 5 = .ok (.goto 6, 3) := by decide +kernel
theorem dL_save_8 : decode cL_save 8 = .ok (.astore_n 2, 1) := by decide +kernel
theorem dL_save_9 : decode cL_save 9 = .ok (.iconst 1, 1) := by decide +kernel
theorem dL_save_10 : decode cL_save 10 = .ok (.ireturn, 1) := by decide +kernel
theorem dL_save_11 : decode cL_save 11 = .ok (.iconst 0, 1) := by decide +kernel
theorem dL_save_12 : decode cL_save 12 = .ok (.ireturn, 1) := by decide +kernel
theorem dL_set_0 : decode cL_set 0 = .ok (.aload_n 3, 1) := by decide +kernel
theorem dL_set_1 : decode cL_set 1 = .ok (.iconst 0, 1) := by decide +kernel
theorem dL_set_2 : decode cL_set 2 = .ok (.aload_n 0, 1) := by decide +kernel
theorem dL_set_3 : decode cL_set 3 = .ok (.iload_n 1, 1) := by decide +kernel
theorem dL_set_4 : decode cL_set 4 = .ok (.iload_n 2, 1) := by decide +kernel
theorem dL_set_5 : decode cL_set 5 = .ok (.invokevirtual 59, 3) := by decide +kernel
theorem dL_set_8 : decode cL_set 8 = .ok (.lastore, 1) := by decide +kernel
theorem dL_set_9 : decode cL_set 9 = .ok (.goto 15, 3) := by decide +kernel
theorem dL_set_12 : decode cL_set 12 = .ok (.astore 4, 2) := by decide +kernel
theorem dL_set_14 : decode cL_set 14 = .ok (.iconst 1, 1) := by decide +kernel
theorem dL_set_15 : decode cL_set 15 = .ok (.ireturn, 1) := by decide +kernel
theorem dL_set_16 : decode cL_set 16 = .ok (.astore 4, 2) := by decide +kernel
theorem dL_set_18 : decode cL_set 18 = .ok (.iconst 2, 1) := by decide +kernel
theorem dL_set_19 : decode cL_set 19 = .ok (.ireturn, 1) := by decide +kernel
theorem dL_set_20 : decode cL_set 20 = .ok (.astore 4, 2) := by decide +kernel
theorem dL_set_22 : decode cL_set 22 = .ok (.iconst 3, 1) := by decide +kernel
theorem dL_set_23 : decode cL_set 23 = .ok (.ireturn, 1) := by decide +kernel
theorem dL_set_24 : decode cL_set 24 = .ok (.iconst 0, 1) := by decide +kernel
theorem dL_set_25 : decode cL_set 25 = .ok (.ireturn, 1) := by decide +kernel
theorem dL_setDetail_0 : decode cL_setDetail 0 = .ok (.aload_n 3, 1) := by decide +kernel
theorem dL_setDetail_1 : decode cL_setDetail 1 = .ok (.iconst 0, 1) := by decide +kernel
theorem dL_setDetail_2 : decode cL_setDetail 2 = .ok (.aload_n 0, 1) := by decide +kernel
theorem dL_setDetail_3 : decode cL_setDetail 3 = .ok (.iload_n 1, 1) := by decide +kernel
theorem dL_setDetail_4 : decode cL_setDetail 4 = .ok (.iload_n 2, 1) := by decide +kernel
theorem dL_setDetail_5 : decode cL_setDetail 5 = .ok (.invokevirtual 76, 3) := by decide +kernel
theorem dL_setDetail_8 : decode cL_setDetail 8 = .ok (.lastore, 1) := by decide +kernel
theorem dL_setDetail_9 : decode cL_setDetail 9 = .ok (.goto 11, 3) := by decide +kernel
theorem dL_setDetail_12 : decode cL_setDetail 12 = .ok (.astore 4, 2) := by decide +kernel
theorem dL_setDetail_14 : decode cL_setDetail 14 = .ok (.iconst 1, 1) := by decide +kernel
theorem dL_setDetail_15 : decode cL_setDetail 15 = .ok (.ireturn, 1) := by decide +kernel
theorem dL_setDetail_16 : decode cL_setDetail 16 = .ok (.astore 4, 2) := by decide +kernel
theorem dL_setDetail_18 : decode cL_setDetail 18 = .ok (.iconst 2, 1) := by decide +kernel
theorem dL_setDetail_19 : decode cL_setDetail 19 = .ok (.ireturn, 1) := by decide +kernel
theorem dL_setDetail_20 : decode cL_setDetail 20 = .ok (.iconst 0, 1) := by decide +kernel
theorem dL_setDetail_21 : decode cL_setDetail 21 = .ok (.ireturn, 1) := by decide +kernel
theorem dL_setPredict_0 : decode cL_setPredict 0 = .ok (.aload_n 2, 1) := by decide +kernel
theorem dL_setPredict_1 : decode cL_setPredict 1 = .ok (.iconst 0, 1) := by decide +kernel
theorem dL_setPredict_2 : decode cL_setPredict 2 = .ok (.aload_n 0, 1) := by decide +kernel
theorem dL_setPredict_3 : decode cL_setPredict 3 = .ok (.iload_n 1, 1) := by decide +kernel
theorem dL_setPredict_4 : decode cL_setPredict 4 = .ok (.invokevirtual 56, 3) := by decide +kernel
theorem dL_setPredict_7 : decode cL_setPredict 7 = .ok (.i2l, 1) := by decide +kernel
theorem dL_setPredict_8 : decode cL_setPredict 8 = .ok (.lastore, 1) := by decide +kernel
theorem dL_setPredict_9 : decode cL_setPredict 9 = .ok (.goto 6, 3) := by decide +kernel
theorem dL_setPredict_12 : decode cL_setPredict 12 = .ok (.astore_n 3, 1) := by decide +kernel
theorem dL_setPredict_13 : decode cL_setPredict 13 = .ok (.iconst 1, 1) := by decide +kernel
theorem dL_setPredict_14 : decode cL_setPredict 14 = .ok (.ireturn, 1) := by decide +kernel
theorem dL_setPredict_15 : decode cL_setPredict 15 = .ok (.iconst 0, 1) := by decide +kernel
theorem dL_setPredict_16 : decode cL_setPredict 16 = .ok (.ireturn, 1) := by decide +kernel
theorem dL_setSplit_0 : decode cL_setSplit 0 = .ok (.aload_n 2, 1) := by decide +kernel
theorem dL_setSplit_1 : decode cL_setSplit 1 = .ok (.iconst 0, 1) := by decide +kernel
theorem dL_setSplit_2 : decode cL_setSplit 2 = .ok (.aload_n 0, 1) := by decide +kernel
theorem dL_setSplit_3 : decode cL_setSplit 3 = .ok (.iload_n 1, 1) := by decide +kernel
theorem dL_setSplit_4 : decode cL_setSplit 4 = .ok (.invokevirtual 53, 3) := by decide +kernel
theorem dL_setSplit_7 : decode cL_setSplit 7 = .ok (.i2l, 1) := by decide +kernel
theorem dL_setSplit_8 : decode cL_setSplit 8 = .ok (.lastore, 1) := by decide +kernel
theorem dL_setSplit_9 : decode cL_setSplit 9 = .ok (.goto 6, 3) := by decide +kernel
theorem dL_setSplit_12 : decode cL_setSplit 12 = .ok (.astore_n 3, 1) := by decide +kernel
theorem dL_setSplit_13 : decode cL_setSplit 13 = .ok (.iconst 1, 1) := by decide +kernel
theorem dL_setSplit_14 : decode cL_setSplit 14 = .ok (.ireturn, 1) := by decide +kernel
theorem dL_setSplit_15 : decode cL_setSplit 15 = .ok (.iconst 0, 1) := by decide +kernel
theorem dL_setSplit_16 : decode cL_setSplit 16 = .ok (.ireturn, 1) := by decide +kernel
theorem dL_step_0 : decode cL_step 0 = .ok (.aload_n 3, 1) := by decide +kernel
theorem dL_step_1 : decode cL_step 1 = .ok (.iconst 0, 1) := by decide +kernel
theorem dL_step_2 : decode cL_step 2 = .ok (.aload_n 0, 1) := by decide +kernel
theorem dL_step_3 : decode cL_step 3 = .ok (.iload_n 1, 1) := by decide +kernel
theorem dL_step_4 : decode cL_step 4 = .ok (.iload_n 2, 1) := by decide +kernel
theorem dL_step_5 : decode cL_step 5 = .ok (.invokevirtual 35, 3) := by decide +kernel
theorem dL_step_8 : decode cL_step 8 = .ok (.lastore, 1) := by decide +kernel
theorem dL_step_9 : decode cL_step 9 = .ok (.goto 11, 3) := by decide +kernel
theorem dL_step_12 : decode cL_step 12 = .ok (.astore 4, 2) := by decide +kernel
theorem dL_step_14 : decode cL_step 14 = .ok (.iconst 1, 1) := by decide +kernel
theorem dL_step_15 : decode cL_step 15 = .ok (.ireturn, 1) := by decide +kernel
theorem dL_step_16 : decode cL_step 16 = .ok (.astore 4, 2) := by decide +kernel
theorem dL_step_18 : decode cL_step 18 = .ok (.iconst 2, 1) := by decide +kernel
theorem dL_step_19 : decode cL_step 19 = .ok (.ireturn, 1) := by decide +kernel
theorem dL_step_20 : decode cL_step 20 = .ok (.iconst 0, 1) := by decide +kernel
theorem dL_step_21 : decode cL_step 21 = .ok (.ireturn, 1) := by decide +kernel
theorem dL_threshold_0 : decode cL_threshold 0 = .ok (.aload_n 3, 1) := by decide +kernel
theorem dL_threshold_1 : decode cL_threshold 1 = .ok (.iconst 0, 1) := by decide +kernel
theorem dL_threshold_2 : decode cL_threshold 2 = .ok (.aload_n 0, 1) := by decide +kernel
theorem dL_threshold_3 : decode cL_threshold 3 = .ok (.iload_n 1, 1) := by decide +kernel
theorem dL_threshold_4 : decode cL_threshold 4 = .ok (.iload_n 2, 1) := by decide +kernel
theorem dL_threshold_5 : decode cL_threshold 5 = .ok (.invokevirtual 79, 3) := by decide +kernel
theorem dL_threshold_8 : decode cL_threshold 8 = .ok (.i2l, 1) := by decide +kernel
theorem dL_threshold_9 : decode cL_threshold 9 = .ok (.lastore, 1) := by decide +kernel
theorem dL_threshold_10 : decode cL_threshold 10 = .ok (.goto 7, 3) := by decide +kernel
theorem dL_threshold_13 : decode cL_threshold 13 = .ok (.astore 4, 2) := by decide +kernel
theorem dL_threshold_15 : decode cL_threshold 15 = .ok (.iconst 1, 1) := by decide +kernel
theorem dL_threshold_16 : decode cL_threshold 16 = .ok (.ireturn, 1) := by decide +kernel
theorem dL_threshold_17 : decode cL_threshold 17 = .ok (.iconst 0, 1) := by decide +kernel
theorem dL_threshold_18 : decode cL_threshold 18 = .ok (.ireturn, 1) := by decide +kernel
theorem dL_truncate_0 : decode cL_truncate 0 = .ok (.aload_n 2, 1) := by decide +kernel
theorem dL_truncate_1 : decode cL_truncate 1 = .ok (.iconst 0, 1) := by decide +kernel
theorem dL_truncate_2 : decode cL_truncate 2 = .ok (.aload_n 0, 1) := by decide +kernel
theorem dL_truncate_3 : decode cL_truncate 3 = .ok (.iload_n 1, 1) := by decide +kernel
theorem dL_truncate_4 : decode cL_truncate 4 = .ok (.invokevirtual 7, 3) := by decide +kernel
theorem dL_truncate_7 : decode cL_truncate 7 = .ok (.i2l, 1) := by decide +kernel
theorem dL_truncate_8 : decode cL_truncate 8 = .ok (.lastore, 1) := by decide +kernel
theorem dL_truncate_9 : decode cL_truncate 9 = .ok (.goto 6, 3) := by decide +kernel
theorem dL_truncate_12 : decode cL_truncate 12 = .ok (.astore_n 3, 1) := by decide +kernel
theorem dL_truncate_13 : decode cL_truncate 13 = .ok (.iconst 1, 1) := by decide +kernel
theorem dL_truncate_14 : decode cL_truncate 14 = .ok (.ireturn, 1) := by decide +kernel
theorem dL_truncate_15 : decode cL_truncate 15 = .ok (.iconst 0, 1) := by decide +kernel
theorem dL_truncate_16 : decode cL_truncate 16 = .ok (.ireturn, 1) := by decide +kernel
theorem dL_valueAt_0 : decode cL_valueAt 0 = .ok (.aload_n 2, 1) := by decide +kernel
theorem dL_valueAt_1 : decode cL_valueAt 1 = .ok (.iconst 0, 1) := by decide +kernel
theorem dL_valueAt_2 : decode cL_valueAt 2 = .ok (.aload_n 0, 1) := by decide +kernel
theorem dL_valueAt_3 : decode cL_valueAt 3 = .ok (.iload_n 1, 1) := by decide +kernel
theorem dL_valueAt_4 : decode cL_valueAt 4 = .ok (.invokevirtual 38, 3) := by decide +kernel
theorem dL_valueAt_7 : decode cL_valueAt 7 = .ok (.lastore, 1) := by decide +kernel
theorem dL_valueAt_8 : decode cL_valueAt 8 = .ok (.goto 6, 3) := by decide +kernel
theorem dL_valueAt_11 : decode cL_valueAt 11 = .ok (.astore_n 3, 1) := by decide +kernel
theorem dL_valueAt_12 : decode cL_valueAt 12 = .ok (.iconst 1, 1) := by decide +kernel
theorem dL_valueAt_13 : decode cL_valueAt 13 = .ok (.ireturn, 1) := by decide +kernel
theorem dL_valueAt_14 : decode cL_valueAt 14 = .ok (.iconst 0, 1) := by decide +kernel
theorem dL_valueAt_15 : decode cL_valueAt 15 = .ok (.ireturn, 1) := by decide +kernel
set_option maxHeartbeats 4000000 in
set_option maxRecDepth 100000 in
theorem L_truncate (l : Launch) (κ : Kt) (σ0 : Gh) (x : Nat) (p0 : Int32) (out : Nat) (t_x : zk σ0 x 7) (t_out : zk σ0 out 24) (hlt : l.stackTraces = false) : TH l yL_truncate cL_truncate 4 [(0, 9, 12, 13)] 8 132 [.ref x, .int p0, .ref out] κ σ0 (tqi (kX κ) hfTr σ0 (fun (r : Int32) (τ : Gh) => ((0 ≤ p0.toInt ∧ p0.toInt ≤ (zI σ0 (kR κ x 0) 1).toInt ∧ (zI τ (kR κ x 0) 1).toInt = p0.toInt) ∨ ((p0.toInt < 0 ∨ (zI σ0 (kR κ x 0) 1).toInt < p0.toInt) ∧ (zI τ (kR κ x 0) 1).toInt = (zI σ0 (kR κ x 0) 1).toInt)))) := by
  refine TH.of hfTr (by decide +kernel) (Nat.le_of_ble_eq_true rfl) ?_
  intro p e s m below meth c ls hcs htab hK hX hT hl
  obtain ⟨hx, hb, hr, hml, hown, hg, hlocks, hin⟩ := hcs
  have hown : s.vm.findClass RL = some m.cls := hown
  have hl : lv_has ls 4 [(0, .ref x), (1, .int p0), (2, .ref out)] := hl
  have hT0 := hT
  have n0 : (0 : Int32).toInt = 0 := by decide
  have n1 : (1 : Int32).toInt = 1 := by decide
  have p0_lo := Int32.le_toInt p0
  have p0_hi := Int32.toInt_lt p0
  generalize hQ9 : tQ _ _ _ _ _ _ = Q9
  obtain ⟨tx, etx⟩ : ∃ z, kR κ x 0 = z := ⟨_, rfl⟩
  have ttx : zk σ0 tx 6 := by rw [← etx]; exact hT0.ref t_x (by decide) (by decide) (by decide)
  refine lv_aload_n hx hb dL_truncate_0 rfl (lv_at hl 2 rfl) ?_
  refine lv_iconst (v := 0) hx hb dL_truncate_1 (by decide) ?_
  refine lv_aload_n hx hb dL_truncate_2 rfl (lv_at hl 0 rfl) ?_
  refine lv_iload_n hx hb dL_truncate_3 rfl (lv_at hl 1 rfl) ?_
  have hTo := hT
  refine xtVi (n := 1) (As := [.int p0]) (rest := [.int 0, .ref out]) hx hb hml hown hg hT hK hX (X5_truncate l κ σ0 x p0  (hT.k t_x (by decide))  hlt) sub_fTr_hfTr (mwV k606 k607 k608 k84 k609) ⟨rfl, by decide, by decide, by decide +kernel⟩ ⟨(Nat.le_of_ble_eq_true rfl), (Nat.le_of_ble_eq_true rfl)⟩ (hT.o7 (hT.k t_x (by decide))) rfl rfl hl.1 rfl (Nat.le_of_ble_eq_true rfl) dL_truncate_4 zroomX.rf (fun E9 ce9 q9 τ9 H9 locs9 hp9 hE9 hT9 hce9 hcv9 hcl9 => ?_) (fun x1 s2 H locs hφ hEs2 hT => ?_)
  · have hT := hT9
    obtain ⟨rfl, hp9⟩ := hp9
    refine vx_catch hown [] { startPc := 0, endPc := 9, handlerPc := 12, catchType := 13 } [] (htab.trans rfl) (fun z hz => nomatch hz) (by decide) (by decide) (hg _ k605) (XX_cIOOBE hX.1) hce9 hcv9 hcl9 ?_
    obtain ⟨hq1, hq2⟩ := hp9
    rw [etx] at hq1 hq2
    refine lv_astore_n (lv' := [(3, .ref q9), (0, .ref x), (1, .int p0), (2, .ref out)]) hx hb dL_truncate_12 rfl hl (by decide) rfl (fun ls hl => ?_)
    refine lv_iconst (v := 1) hx hb dL_truncate_13 (by decide) ?_
    subst hQ9
    exact t_i hx hb hr hlocks hT (by rw [etx]; omega) dL_truncate_14
  obtain ⟨f3, f4, f5, f6⟩ := hφ
  rw [etx] at f4
  rw [etx] at f6
  obtain ⟨v7, ev7⟩ : ∃ zz9 : Int32, zI s2 tx 1 = zz9 := ⟨_, rfl⟩
  have qv7 : v7.toInt = (zI s2 tx 1).toInt := by rw [ev7]
  have b8 := (hT.P (hT.k ttx (by decide)) (by decide)).1
  rw [ev7] at b8
  have b8l := b8.1
  have b8h := b8.2
  refine lv_i2l hx hb dL_truncate_7 rfl ?_
  refine g_i2l (fun t9 ht9 => ?_)
  have hTo := hT
  refine tastl (n := 1) hx hb hK hT (hT.k t_out (by decide)) ⟨by decide, by decide⟩ (fun _ _ _ => rfl) (fun _ _ => trivial) (fun _ => rfl) (by omega) (by omega) dL_truncate_8 (fun H locs s10 hus10 hT => ?_)
  have ev7 : zI s10 tx 1 = v7 := by rw [zpul_I hus10]; exact ev7
  refine lv_goto (tgt := 15) hx hb dL_truncate_9 (by decide) ?_
  refine lv_iconst (v := 0) hx hb dL_truncate_15 (by decide) ?_
  subst hQ9
  exact t_i hx hb hr hlocks hT.up (by rw [etx, ev7]; omega) dL_truncate_16
set_option maxHeartbeats 4000000 in
set_option maxRecDepth 100000 in
theorem L_load (l : Launch) (κ : Kt) (σ0 : Gh) (x : Nat) (out : Nat) {tc : Nat → Int} {Ln : Nat} (t_x : zk σ0 x 7) (t_out : zk σ0 out 24) (h0 : TXc κ σ0 (kR κ x 0) tc Ln) (h1 : kR κ (kR κ x 3) 0 = kR κ x 1) (hlt : l.stackTraces = false) : TH l yL_load cL_load 3 [(0, 8, 11, 19)] 9 196 [.ref x, .ref out] κ σ0 (tqi (kX κ) hfLd σ0 (fun (r : Int32) (τ : Gh) => ((zI τ (kR κ x 0) 1).toInt = 0) ∧ (∀ a : Nat, a ≠ (kR κ x 3) → zk σ0 a 3 → zI τ a 7 = zI σ0 a 7 ∧ zI τ a 8 = zI σ0 a 8 ∧ zI τ a 9 = zI σ0 a 9) ∧ (∃ (x9 : uRd) (co po : Int), uRds tc Ln x9 co po ∧ ((r.toInt = 0 ∧ co = 0 ∧ (zJ τ out 0).toInt = po ∧ (zI τ (kR κ x 0) 2).toInt = 0 ∧ (zI τ (kR κ x 0) 3).toInt = -1 ∧ (∀ i : Nat, i < 2 → zI τ (kR κ x 6) i = 0) ∧ (zI τ (kR κ x 3) 7).toInt = x9.2.2.2.2 0 ∧ (zI τ (kR κ x 3) 8).toInt = x9.2.2.2.2 1 ∧ (zI τ (kR κ x 3) 9).toInt = x9.2.2.2.2 2 ∧ (zI τ (kR κ x 1) 2).toInt = po ∧ (zI τ (kR κ x 1) 6).toInt = x9.2.2.2.2 3 ∧ usP (zI τ (kR κ (kR κ x 1) 0)) po.toNat x9.2.2.2.2 ∧ usO (zI τ (kR κ (kR κ x 1) 1)) po.toNat x9.2.2.2.2 ∧ usB po.toNat x9.2.2.2.2) ∨ (r.toInt = 1 ∧ co ≠ 0 ∧ (zI τ (kR κ x 0) 2).toInt = co ∧ (zI τ (kR κ x 0) 3).toInt = po ∧ zI τ (kR κ x 6) = zI σ0 (kR κ x 6) ∧ zI τ (kR κ x 3) 7 = zI σ0 (kR κ x 3) 7 ∧ zI τ (kR κ x 3) 8 = zI σ0 (kR κ x 3) 8 ∧ zI τ (kR κ x 3) 9 = zI σ0 (kR κ x 3) 9 ∧ zI τ (kR κ x 1) 2 = zI σ0 (kR κ x 1) 2 ∧ zI τ (kR κ x 1) 6 = zI σ0 (kR κ x 1) 6 ∧ zI τ (kR κ (kR κ x 1) 0) = zI σ0 (kR κ (kR κ x 1) 0) ∧ zI τ (kR κ (kR κ x 1) 1) = zI σ0 (kR κ (kR κ x 1) 1)))))) := by
  refine TH.of hfLd (by decide +kernel) (Nat.le_of_ble_eq_true rfl) ?_
  intro p e s m below meth c ls hcs htab hK hX hT hl
  obtain ⟨hx, hb, hr, hml, hown, hg, hlocks, hin⟩ := hcs
  have hown : s.vm.findClass RL = some m.cls := hown
  have hl : lv_has ls 3 [(0, .ref x), (1, .ref out)] := hl
  have hT0 := hT
  have n0 : (0 : Int32).toInt = 0 := by decide
  have n1 : (1 : Int32).toInt = 1 := by decide
  generalize hQ9 : tQ _ _ _ _ _ _ = Q9
  obtain ⟨tx, etx⟩ : ∃ z, kR κ x 0 = z := ⟨_, rfl⟩
  have ttx : zk σ0 tx 6 := by rw [← etx]; exact hT0.ref t_x (by decide) (by decide) (by decide)
  obtain ⟨rI, erI⟩ : ∃ z, kR κ x 6 = z := ⟨_, rfl⟩
  have trI : zk σ0 rI 13 := by rw [← erI]; exact hT0.ref t_x (by decide) (by decide) (by decide)
  obtain ⟨nw, enw⟩ : ∃ z, kR κ x 3 = z := ⟨_, rfl⟩
  have tnw : zk σ0 nw 3 := by rw [← enw]; exact hT0.ref t_x (by decide) (by decide) (by decide)
  obtain ⟨so, eso⟩ : ∃ z, kR κ x 1 = z := ⟨_, rfl⟩
  have tso : zk σ0 so 4 := by rw [← eso]; exact hT0.ref t_x (by decide) (by decide) (by decide)
  obtain ⟨qP, eqP⟩ : ∃ z, kR κ so 0 = z := ⟨_, rfl⟩
  have tqP : zk σ0 qP 8 := by rw [← eqP]; exact hT0.ref tso (by decide) (by decide) (by decide)
  obtain ⟨qO, eqO⟩ : ∃ z, kR κ so 1 = z := ⟨_, rfl⟩
  have tqO : zk σ0 qO 16 := by rw [← eqO]; exact hT0.ref tso (by decide) (by decide) (by decide)
  refine lv_aload_n hx hb dL_load_0 rfl (lv_at hl 1 rfl) ?_
  refine lv_iconst (v := 0) hx hb dL_load_1 (by decide) ?_
  refine lv_aload_n hx hb dL_load_2 rfl (lv_at hl 0 rfl) ?_
  have hTo := hT
  refine xtVi (n := 0) (As := []) (rest := [.int 0, .ref out]) hx hb hml hown hg hT hK hX (X5s_load l κ σ0 x  (hT.k t_x (by decide)) h0 h1 hlt) sub_fLd_hfLd (mwV k685 k686 k687 k84 k688) ⟨rfl, by decide, by decide, by decide +kernel⟩ ⟨(Nat.le_of_ble_eq_true rfl), (Nat.le_of_ble_eq_true rfl)⟩ (hT.o7 (hT.k t_x (by decide))) rfl rfl hl.1 rfl (Nat.le_of_ble_eq_true rfl) dL_load_3 zroomX.rf (fun E9 ce9 q9 τ9 H9 locs9 hp9 hE9 hT9 hce9 hcv9 hcl9 => ?_) (fun x1 s2 H locs hφ hEs2 hT => ?_)
  · have hT := hT9
    obtain ⟨rfl, hp9⟩ := hp9
    refine vx_catch hown [] { startPc := 0, endPc := 8, handlerPc := 11, catchType := 19 } [] (htab.trans rfl) (fun z hz => nomatch hz) (by decide) (by decide) (hg _ k684) (XX_cIAE hX.1) hce9 hcv9 hcl9 ?_
    rw [etx] at hp9
    refine lv_astore_n (lv' := [(2, .ref q9), (0, .ref x), (1, .ref out)]) hx hb dL_load_11 rfl hl (by decide) rfl (fun ls hl => ?_)
    refine lv_iconst (v := 1) hx hb dL_load_12 (by decide) ?_
    subst hQ9
    exact t_i hx hb hr hlocks hT (by rw [etx]; exact ⟨hp9.1, hp9.2.2.1, hp9.2.1.elim fun x9 q9 => q9.elim fun co q9 => q9.elim fun po q9 => ⟨x9, co, po, q9.1, Or.inr ⟨n1, q9.2.1, q9.2.2.1, q9.2.2.2.1, q9.2.2.2.2, hp9.2.2.2⟩⟩⟩) dL_load_13
  obtain ⟨f3, f4, f5⟩ := hφ
  try rw [enw] at f5
  have fr6 : ∀ a : Nat, a ≠ nw → zk σ0 a 3 → zI s2 a 7 = zI σ0 a 7 ∧ zI s2 a 8 = zI σ0 a 8 ∧ zI s2 a 9 = zI σ0 a 9 := fun a ha hk => ⟨(f5 a ha (hTo.k hk (by decide))).1.trans ((show ∀ a : Nat, a ≠ nw → zk σ0 a 3 → zI σ0 a 7 = zI σ0 a 7 ∧ zI σ0 a 8 = zI σ0 a 8 ∧ zI σ0 a 9 = zI σ0 a 9 from fun _ _ _ => ⟨rfl, rfl, rfl⟩) a ha hk).1, (f5 a ha (hTo.k hk (by decide))).2.1.trans ((show ∀ a : Nat, a ≠ nw → zk σ0 a 3 → zI σ0 a 7 = zI σ0 a 7 ∧ zI σ0 a 8 = zI σ0 a 8 ∧ zI σ0 a 9 = zI σ0 a 9 from fun _ _ _ => ⟨rfl, rfl, rfl⟩) a ha hk).2.1, (f5 a ha (hTo.k hk (by decide))).2.2.trans ((show ∀ a : Nat, a ≠ nw → zk σ0 a 3 → zI σ0 a 7 = zI σ0 a 7 ∧ zI σ0 a 8 = zI σ0 a 8 ∧ zI σ0 a 9 = zI σ0 a 9 from fun _ _ _ => ⟨rfl, rfl, rfl⟩) a ha hk).2.2⟩
  rw [etx] at f3 f4
  rw [erI] at f4
  rw [enw] at f4
  try rw [enw] at f5
  rw [eso, eqP, eqO] at f4
  obtain ⟨x9, po, rds9, a1, a2, a3, a4, a5, a6, a7, a8, a9, a10, a11, a12⟩ := f4
  obtain ⟨v7, ev7⟩ : ∃ zz9 : Int32, zI s2 tx 1 = zz9 := ⟨_, rfl⟩
  have qv7 : v7.toInt = (zI s2 tx 1).toInt := by rw [ev7]
  have b8 := (hT.P (hT.k ttx (by decide)) (by decide)).1
  rw [ev7] at b8
  have b8l := b8.1
  have b8h := b8.2
  obtain ⟨v9, ev9⟩ : ∃ zz9 : Int32, zI s2 tx 2 = zz9 := ⟨_, rfl⟩
  have qv9 : v9.toInt = (zI s2 tx 2).toInt := by rw [ev9]
  obtain ⟨v10, ev10⟩ : ∃ zz9 : Int32, zI s2 tx 3 = zz9 := ⟨_, rfl⟩
  have qv10 : v10.toInt = (zI s2 tx 3).toInt := by rw [ev10]
  obtain ⟨v11, ev11⟩ : ∃ zz9 : Int32, zI s2 so 2 = zz9 := ⟨_, rfl⟩
  have qv11 : v11.toInt = (zI s2 so 2).toInt := by rw [ev11]
  have b12 := (hT.P (hT.k tso (by decide)) (by decide)).1
  rw [ev11] at b12
  have b12l := b12.1
  have b12h := b12.2
  rw [(show zI s2 so 2 = v11 from ev11)] at a8
  obtain ⟨v13, ev13⟩ : ∃ zz9 : Int32, zI s2 so 6 = zz9 := ⟨_, rfl⟩
  have qv13 : v13.toInt = (zI s2 so 6).toInt := by rw [ev13]
  rw [(show zI s2 so 6 = v13 from ev13)] at a9
  obtain ⟨v14, ev14⟩ : ∃ zz9 : Int32, zI s2 nw 7 = zz9 := ⟨_, rfl⟩
  have qv14 : v14.toInt = (zI s2 nw 7).toInt := by rw [ev14]
  obtain ⟨v15, ev15⟩ : ∃ zz9 : Int32, zI s2 nw 8 = zz9 := ⟨_, rfl⟩
  have qv15 : v15.toInt = (zI s2 nw 8).toInt := by rw [ev15]
  obtain ⟨v16, ev16⟩ : ∃ zz9 : Int32, zI s2 nw 9 = zz9 := ⟨_, rfl⟩
  have qv16 : v16.toInt = (zI s2 nw 9).toInt := by rw [ev16]
  have b17 : isB v16 := by have q9 := (hT.P (hT.k tnw (by decide)) (by decide)).2; rw [ev16] at q9; exact q9
  rw [(show zI s2 tx 1 = v7 from ev7)] at f3
  rw [(show zI s2 tx 2 = v9 from ev9)] at a2
  rw [(show zI s2 tx 3 = v10 from ev10)] at a3
  rw [(show zI s2 nw 7 = v14 from ev14)] at a5
  rw [(show zI s2 nw 8 = v15 from ev15)] at a6
  rw [(show zI s2 nw 9 = v16 from ev16)] at a7
  refine lv_i2l hx hb dL_load_6 rfl ?_
  refine g_i2l (fun t18 ht18 => ?_)
  have hTo := hT
  refine tastl (n := 1) hx hb hK hT (hT.k t_out (by decide)) ⟨by decide, by decide⟩ (fun _ _ _ => rfl) (fun _ _ => trivial) (fun _ => rfl) (by omega) (by omega) dL_load_7 (fun H locs s19 hus19 hT => ?_)
  have ev7 : zI s19 tx 1 = v7 := by rw [zpul_I hus19]; exact ev7
  have ev9 : zI s19 tx 2 = v9 := by rw [zpul_I hus19]; exact ev9
  have ev10 : zI s19 tx 3 = v10 := by rw [zpul_I hus19]; exact ev10
  have ev11 : zI s19 so 2 = v11 := by rw [zpul_I hus19]; exact ev11
  have ev13 : zI s19 so 6 = v13 := by rw [zpul_I hus19]; exact ev13
  have ev14 : zI s19 nw 7 = v14 := by rw [zpul_I hus19]; exact ev14
  have ev15 : zI s19 nw 8 = v15 := by rw [zpul_I hus19]; exact ev15
  have ev16 : zI s19 nw 9 = v16 := by rw [zpul_I hus19]; exact ev16
  have fr20 : ∀ a : Nat, a ≠ nw → zk σ0 a 3 → zI s19 a 7 = zI σ0 a 7 ∧ zI s19 a 8 = zI σ0 a 8 ∧ zI s19 a 9 = zI σ0 a 9 := fun a ha hk => ⟨((by rw [zpul_I hus19] : zI s19 a 7 = zI s2 a 7)).trans (f5 a ha hk).1, ((by rw [zpul_I hus19] : zI s19 a 8 = zI s2 a 8)).trans (f5 a ha hk).2.1, ((by rw [zpul_I hus19] : zI s19 a 9 = zI s2 a 9)).trans (f5 a ha hk).2.2⟩
  have Y21 : ∀ i : Nat, i < 2 → zI s19 rI i = 0 := by first | (rw [show zI s19 rI = zI s2 rI from (zpul_I hus19)]; exact a4) | rw [show zI s19 rI = zI s2 rI from (zpul_I hus19)]
  have Y22 : usP (zI s19 qP) po.toNat x9.2.2.2.2 := by first | (rw [show zI s19 qP = zI s2 qP from (zpul_I hus19)]; exact a10) | rw [show zI s19 qP = zI s2 qP from (zpul_I hus19)]
  have Y23 : usO (zI s19 qO) po.toNat x9.2.2.2.2 := by first | (rw [show zI s19 qO = zI s2 qO from (zpul_I hus19)]; exact a11) | rw [show zI s19 qO = zI s2 qO from (zpul_I hus19)]
  refine lv_goto (tgt := 14) hx hb dL_load_8 (by decide) ?_
  refine lv_iconst (v := 0) hx hb dL_load_14 (by decide) ?_
  subst hQ9
  exact t_i hx hb hr hlocks hT.up (by rw [etx, erI, enw, eso, eqP, eqO]; exact ⟨by rw [(show zI s19 tx 1 = v7 from ev7)]; omega, fr20, x9, 0, po, rds9, Or.inl ⟨n0, rfl, (congrArg Int64.toInt (by rw [zpul_Ja hus19]; exact uh : zJ s19 out 0 = t18)).trans (by omega), by rw [(show zI s19 tx 2 = v9 from ev9)]; omega, by rw [(show zI s19 tx 3 = v10 from ev10)]; omega, Y21, by rw [(show zI s19 nw 7 = v14 from ev14)]; omega, by rw [(show zI s19 nw 8 = v15 from ev15)]; omega, by rw [(show zI s19 nw 9 = v16 from ev16)]; omega, by rw [(show zI s19 so 2 = v11 from ev11)]; omega, by rw [(show zI s19 so 6 = v13 from ev13)]; exact a9, Y22, Y23, a12⟩⟩) dL_load_15
set_option maxHeartbeats 4000000 in
set_option maxRecDepth 100000 in
theorem L_count (l : Launch) (κ : Kt) (σ0 : Gh) (x : Nat) (p0 : Int32) (out : Nat) (t_x : zk σ0 x 7) (t_out : zk σ0 out 24) (hlt : l.stackTraces = false) : TH l yL_count cL_count 4 [(0, 9, 12, 19)] 7 111 [.ref x, .int p0, .ref out] κ σ0 (tqi (kX κ) hfE σ0 (fun (r : Int32) (τ : Gh) => True)) := by
  refine TH.of hfE (by decide +kernel) (Nat.le_of_ble_eq_true rfl) ?_
  intro p e s m below meth c ls hcs htab hK hX hT hl
  obtain ⟨hx, hb, hr, hml, hown, hg, hlocks, hin⟩ := hcs
  have hown : s.vm.findClass RL = some m.cls := hown
  have hl : lv_has ls 4 [(0, .ref x), (1, .int p0), (2, .ref out)] := hl
  have hT0 := hT
  have n0 : (0 : Int32).toInt = 0 := by decide
  have n1 : (1 : Int32).toInt = 1 := by decide
  have p0_lo := Int32.le_toInt p0
  have p0_hi := Int32.toInt_lt p0
  generalize hQ9 : tQ _ _ _ _ _ _ = Q9
  refine lv_aload_n hx hb dL_count_0 rfl (lv_at hl 2 rfl) ?_
  refine lv_iconst (v := 0) hx hb dL_count_1 (by decide) ?_
  refine lv_aload_n hx hb dL_count_2 rfl (lv_at hl 0 rfl) ?_
  refine lv_iload_n hx hb dL_count_3 rfl (lv_at hl 1 rfl) ?_
  have hTo := hT
  refine xtVi (n := 1) (As := [.int p0]) (rest := [.int 0, .ref out]) hx hb hml hown hg hT hK hX (X5_count l κ σ0 x p0  (hT.k t_x (by decide))  hlt) sub_fE_hfE (mwV k837 k838 k839 k84 k840) ⟨rfl, by decide, by decide, by decide +kernel⟩ ⟨(Nat.le_of_ble_eq_true rfl), (Nat.le_of_ble_eq_true rfl)⟩ (hT.o7 (hT.k t_x (by decide))) rfl rfl hl.1 rfl (Nat.le_of_ble_eq_true rfl) dL_count_4 zroomX.rf (fun E9 ce9 q9 τ9 H9 locs9 hp9 hE9 hT9 hce9 hcv9 hcl9 => ?_) (fun x1 s2 H locs hφ hEs2 hT => ?_)
  · have hT := hT9
    subst hp9
    refine vx_catch hown [] { startPc := 0, endPc := 9, handlerPc := 12, catchType := 19 } [] (htab.trans rfl) (fun z hz => nomatch hz) (by decide) (by decide) (hg _ k684) (XX_cIAE hX.1) hce9 hcv9 hcl9 ?_
    refine lv_astore_n (lv' := [(3, .ref q9), (0, .ref x), (1, .int p0), (2, .ref out)]) hx hb dL_count_12 rfl hl (by decide) rfl (fun ls hl => ?_)
    refine lv_iconst (v := 1) hx hb dL_count_13 (by decide) ?_
    subst hQ9
    exact t_i hx hb hr hlocks hT trivial dL_count_14
  refine lv_i2l hx hb dL_count_7 rfl ?_
  refine g_i2l (fun t3 ht3 => ?_)
  have hTo := hT
  refine tastl (n := 1) hx hb hK hT (hT.k t_out (by decide)) ⟨by decide, by decide⟩ (fun _ _ _ => rfl) (fun _ _ => trivial) (fun _ => rfl) (by omega) (by omega) dL_count_8 (fun H locs s4 hus4 hT => ?_)
  refine lv_goto (tgt := 15) hx hb dL_count_9 (by decide) ?_
  refine lv_iconst (v := 0) hx hb dL_count_15 (by decide) ?_
  subst hQ9
  exact t_i hx hb hr hlocks hT.up trivial dL_count_16
set_option maxHeartbeats 4000000 in
set_option maxRecDepth 100000 in
theorem L_sample (l : Launch) (κ : Kt) (σ0 : Gh) (x : Nat) (p0 : Int32) (p1 : Int32) (out : Nat) (t_x : zk σ0 x 7) (t_out : zk σ0 out 24) (hlt : l.stackTraces = false) : TH l yL_sample cL_sample 5 [(0, 9, 12, 13), (0, 9, 16, 19)] 8 133 [.ref x, .int p0, .int p1, .ref out] κ σ0 (tqi (kX κ) hfE σ0 (fun (r : Int32) (τ : Gh) => True)) := by
  refine TH.of hfE (by decide +kernel) (Nat.le_of_ble_eq_true rfl) ?_
  intro p e s m below meth c ls hcs htab hK hX hT hl
  obtain ⟨hx, hb, hr, hml, hown, hg, hlocks, hin⟩ := hcs
  have hown : s.vm.findClass RL = some m.cls := hown
  have hl : lv_has ls 5 [(0, .ref x), (1, .int p0), (2, .int p1), (3, .ref out)] := hl
  have hT0 := hT
  have n0 : (0 : Int32).toInt = 0 := by decide
  have n1 : (1 : Int32).toInt = 1 := by decide
  have n2 : (2 : Int32).toInt = 2 := by decide
  have p0_lo := Int32.le_toInt p0
  have p0_hi := Int32.toInt_lt p0
  have p1_lo := Int32.le_toInt p1
  have p1_hi := Int32.toInt_lt p1
  generalize hQ9 : tQ _ _ _ _ _ _ = Q9
  refine lv_aload_n hx hb dL_sample_0 rfl (lv_at hl 3 rfl) ?_
  refine lv_iconst (v := 0) hx hb dL_sample_1 (by decide) ?_
  refine lv_aload_n hx hb dL_sample_2 rfl (lv_at hl 0 rfl) ?_
  refine lv_iload_n hx hb dL_sample_3 rfl (lv_at hl 1 rfl) ?_
  refine lv_iload_n hx hb dL_sample_4 rfl (lv_at hl 2 rfl) ?_
  have hTo := hT
  refine xtVl (n := 2) (As := [.int p0, .int p1]) (rest := [.int 0, .ref out]) hx hb hml hown hg hT hK hX (X5_sample l κ σ0 x p0 p1  (hT.k t_x (by decide))  hlt) sub_fE_hfE (mwV k857 k858 k859 k84 k860) ⟨rfl, by decide, by decide, by decide +kernel⟩ ⟨(Nat.le_of_ble_eq_true rfl), (Nat.le_of_ble_eq_true rfl)⟩ (hT.o7 (hT.k t_x (by decide))) rfl rfl hl.1 rfl (Nat.le_of_ble_eq_true rfl) dL_sample_5 zroomX.rf (fun E9 ce9 q9 τ9 H9 locs9 hp9 hE9 hT9 hce9 hcv9 hcl9 => ?_) (fun x1 s2 H locs hφ hEs2 hT => ?_)
  · have hT := hT9
    rcases hp9 with rfl | rfl
    · skip
      refine vx_catch hown [] { startPc := 0, endPc := 9, handlerPc := 12, catchType := 13 } [{ startPc := 0, endPc := 9, handlerPc := 16, catchType := 19 }] (htab.trans rfl) (fun z hz => nomatch hz) (by decide) (by decide) (hg _ k605) (XX_cIOOBE hX.1) hce9 hcv9 hcl9 ?_
      refine lv_astore (lv' := [(4, .ref q9), (0, .ref x), (1, .int p0), (2, .int p1), (3, .ref out)]) hx hb dL_sample_12 hl (by decide) rfl (fun ls hl => ?_)
      refine lv_iconst (v := 1) hx hb dL_sample_14 (by decide) ?_
      subst hQ9
      exact t_i hx hb hr hlocks hT trivial dL_sample_15
    · skip
      refine vx_catch hown [{ startPc := 0, endPc := 9, handlerPc := 12, catchType := 13 }] { startPc := 0, endPc := 9, handlerPc := 16, catchType := 19 } [] (htab.trans rfl) (fun z hz => (List.mem_cons.mp hz).elim (fun e9 => by rw [e9]; exact Or.inr ⟨by decide, "java/lang/IndexOutOfBoundsException", hg _ k605, XX_qIAE_IOOBE hX.1⟩) (fun hz => nomatch hz)) (by decide) (by decide) (hg _ k684) (XX_cIAE hX.1) hce9 hcv9 hcl9 ?_
      refine lv_astore (lv' := [(4, .ref q9), (0, .ref x), (1, .int p0), (2, .int p1), (3, .ref out)]) hx hb dL_sample_16 hl (by decide) rfl (fun ls hl => ?_)
      refine lv_iconst (v := 2) hx hb dL_sample_18 (by decide) ?_
      subst hQ9
      exact t_i hx hb hr hlocks hT trivial dL_sample_19
  have hTo := hT
  refine tastl (n := 1) hx hb hK hT (hT.k t_out (by decide)) ⟨by decide, by decide⟩ (fun _ _ _ => rfl) (fun _ _ => trivial) (fun _ => rfl) (by omega) (by omega) dL_sample_8 (fun H locs s3 hus3 hT => ?_)
  refine lv_goto (tgt := 20) hx hb dL_sample_9 (by decide) ?_
  refine lv_iconst (v := 0) hx hb dL_sample_20 (by decide) ?_
  subst hQ9
  exact t_i hx hb hr hlocks hT.up trivial dL_sample_21
set_option maxHeartbeats 4000000 in
set_option maxRecDepth 100000 in
theorem L_present (l : Launch) (κ : Kt) (σ0 : Gh) (x : Nat) (p0 : Int32) (out : Nat) (t_x : zk σ0 x 7) (t_out : zk σ0 out 24) (hlt : l.stackTraces = false) : TH l yL_present cL_present 4 [(0, 9, 12, 13)] 8 132 [.ref x, .int p0, .ref out] κ σ0 (tqi (kX κ) hfE σ0 (fun (r : Int32) (τ : Gh) => True)) := by
  refine TH.of hfE (by decide +kernel) (Nat.le_of_ble_eq_true rfl) ?_
  intro p e s m below meth c ls hcs htab hK hX hT hl
  obtain ⟨hx, hb, hr, hml, hown, hg, hlocks, hin⟩ := hcs
  have hown : s.vm.findClass RL = some m.cls := hown
  have hl : lv_has ls 4 [(0, .ref x), (1, .int p0), (2, .ref out)] := hl
  have hT0 := hT
  have n0 : (0 : Int32).toInt = 0 := by decide
  have n1 : (1 : Int32).toInt = 1 := by decide
  have p0_lo := Int32.le_toInt p0
  have p0_hi := Int32.toInt_lt p0
  generalize hQ9 : tQ _ _ _ _ _ _ = Q9
  refine lv_aload_n hx hb dL_present_0 rfl (lv_at hl 2 rfl) ?_
  refine lv_iconst (v := 0) hx hb dL_present_1 (by decide) ?_
  refine lv_aload_n hx hb dL_present_2 rfl (lv_at hl 0 rfl) ?_
  refine lv_iload_n hx hb dL_present_3 rfl (lv_at hl 1 rfl) ?_
  have hTo := hT
  refine xtVi (n := 1) (As := [.int p0]) (rest := [.int 0, .ref out]) hx hb hml hown hg hT hK hX (X5_present l κ σ0 x p0  (hT.k t_x (by decide))  hlt) sub_fE_hfE (mwV k866 k867 k868 k84 k869) ⟨rfl, by decide, by decide, by decide +kernel⟩ ⟨(Nat.le_of_ble_eq_true rfl), (Nat.le_of_ble_eq_true rfl)⟩ (hT.o7 (hT.k t_x (by decide))) rfl rfl hl.1 rfl (Nat.le_of_ble_eq_true rfl) dL_present_4 zroomX.rf (fun E9 ce9 q9 τ9 H9 locs9 hp9 hE9 hT9 hce9 hcv9 hcl9 => ?_) (fun x1 s2 H locs hφ hEs2 hT => ?_)
  · have hT := hT9
    subst hp9
    refine vx_catch hown [] { startPc := 0, endPc := 9, handlerPc := 12, catchType := 13 } [] (htab.trans rfl) (fun z hz => nomatch hz) (by decide) (by decide) (hg _ k605) (XX_cIOOBE hX.1) hce9 hcv9 hcl9 ?_
    refine lv_astore_n (lv' := [(3, .ref q9), (0, .ref x), (1, .int p0), (2, .ref out)]) hx hb dL_present_12 rfl hl (by decide) rfl (fun ls hl => ?_)
    refine lv_iconst (v := 1) hx hb dL_present_13 (by decide) ?_
    subst hQ9
    exact t_i hx hb hr hlocks hT trivial dL_present_14
  refine lv_i2l hx hb dL_present_7 rfl ?_
  refine g_i2l (fun t3 ht3 => ?_)
  have hTo := hT
  refine tastl (n := 1) hx hb hK hT (hT.k t_out (by decide)) ⟨by decide, by decide⟩ (fun _ _ _ => rfl) (fun _ _ => trivial) (fun _ => rfl) (by omega) (by omega) dL_present_8 (fun H locs s4 hus4 hT => ?_)
  refine lv_goto (tgt := 15) hx hb dL_present_9 (by decide) ?_
  refine lv_iconst (v := 0) hx hb dL_present_15 (by decide) ?_
  subst hQ9
  exact t_i hx hb hr hlocks hT.up trivial dL_present_16
set_option maxHeartbeats 4000000 in
set_option maxRecDepth 100000 in
theorem L_neighbour (l : Launch) (κ : Kt) (σ0 : Gh) (x : Nat) (p0 : Int32) (p1 : Int32) (out : Nat) (t_x : zk σ0 x 7) (t_out : zk σ0 out 24) (b_p1 : isB p1) (hlt : l.stackTraces = false) : TH l yL_neighbour cL_neighbour 5 [(0, 10, 13, 13)] 8 133 [.ref x, .int p0, .int p1, .ref out] κ σ0 (tqi (kX κ) hfE σ0 (fun (r : Int32) (τ : Gh) => True)) := by
  refine TH.of hfE (by decide +kernel) (Nat.le_of_ble_eq_true rfl) ?_
  intro p e s m below meth c ls hcs htab hK hX hT hl
  obtain ⟨hx, hb, hr, hml, hown, hg, hlocks, hin⟩ := hcs
  have hown : s.vm.findClass RL = some m.cls := hown
  have hl : lv_has ls 5 [(0, .ref x), (1, .int p0), (2, .int p1), (3, .ref out)] := hl
  have hT0 := hT
  have n0 : (0 : Int32).toInt = 0 := by decide
  have n1 : (1 : Int32).toInt = 1 := by decide
  have p0_lo := Int32.le_toInt p0
  have p0_hi := Int32.toInt_lt p0
  generalize hQ9 : tQ _ _ _ _ _ _ = Q9
  refine lv_aload_n hx hb dL_neighbour_0 rfl (lv_at hl 3 rfl) ?_
  refine lv_iconst (v := 0) hx hb dL_neighbour_1 (by decide) ?_
  refine lv_aload_n hx hb dL_neighbour_2 rfl (lv_at hl 0 rfl) ?_
  refine lv_iload_n hx hb dL_neighbour_3 rfl (lv_at hl 1 rfl) ?_
  refine lv_iload_n hx hb dL_neighbour_4 rfl (lv_at hl 2 rfl) ?_
  have hTo := hT
  refine xtVi (n := 2) (As := [.int p0, .int p1]) (rest := [.int 0, .ref out]) hx hb hml hown hg hT hK hX (X5_neighbour l κ σ0 x p0 p1  (hT.k t_x (by decide)) b_p1  hlt) sub_fE_hfE (mwV k877 k878 k879 k84 k880) ⟨rfl, by decide, by decide, by decide +kernel⟩ ⟨(Nat.le_of_ble_eq_true rfl), (Nat.le_of_ble_eq_true rfl)⟩ (hT.o7 (hT.k t_x (by decide))) rfl rfl hl.1 rfl (Nat.le_of_ble_eq_true rfl) dL_neighbour_5 zroomX.rf (fun E9 ce9 q9 τ9 H9 locs9 hp9 hE9 hT9 hce9 hcv9 hcl9 => ?_) (fun x1 s2 H locs hφ hEs2 hT => ?_)
  · have hT := hT9
    subst hp9
    refine vx_catch hown [] { startPc := 0, endPc := 10, handlerPc := 13, catchType := 13 } [] (htab.trans rfl) (fun z hz => nomatch hz) (by decide) (by decide) (hg _ k605) (XX_cIOOBE hX.1) hce9 hcv9 hcl9 ?_
    refine lv_astore (lv' := [(4, .ref q9), (0, .ref x), (1, .int p0), (2, .int p1), (3, .ref out)]) hx hb dL_neighbour_13 hl (by decide) rfl (fun ls hl => ?_)
    refine lv_iconst (v := 1) hx hb dL_neighbour_15 (by decide) ?_
    subst hQ9
    exact t_i hx hb hr hlocks hT trivial dL_neighbour_16
  refine lv_i2l hx hb dL_neighbour_8 rfl ?_
  refine g_i2l (fun t3 ht3 => ?_)
  have hTo := hT
  refine tastl (n := 1) hx hb hK hT (hT.k t_out (by decide)) ⟨by decide, by decide⟩ (fun _ _ _ => rfl) (fun _ _ => trivial) (fun _ => rfl) (by omega) (by omega) dL_neighbour_9 (fun H locs s4 hus4 hT => ?_)
  refine lv_goto (tgt := 17) hx hb dL_neighbour_10 (by decide) ?_
  refine lv_iconst (v := 0) hx hb dL_neighbour_17 (by decide) ?_
  subst hQ9
  exact t_i hx hb hr hlocks hT.up trivial dL_neighbour_18
set_option maxHeartbeats 4000000 in
set_option maxRecDepth 100000 in
theorem L_step (l : Launch) (κ : Kt) (σ0 : Gh) (x : Nat) (p0 : Int32) (p1 : Int32) (out : Nat) (t_x : zk σ0 x 7) (t_out : zk σ0 out 24) (hlt : l.stackTraces = false) : TH l yL_step cL_step 5 [(0, 9, 12, 13), (0, 9, 16, 19)] 8 134 [.ref x, .int p0, .int p1, .ref out] κ σ0 (tqi (kX κ) hfE σ0 (fun (r : Int32) (τ : Gh) => True)) := by
  refine TH.of hfE (by decide +kernel) (Nat.le_of_ble_eq_true rfl) ?_
  intro p e s m below meth c ls hcs htab hK hX hT hl
  obtain ⟨hx, hb, hr, hml, hown, hg, hlocks, hin⟩ := hcs
  have hown : s.vm.findClass RL = some m.cls := hown
  have hl : lv_has ls 5 [(0, .ref x), (1, .int p0), (2, .int p1), (3, .ref out)] := hl
  have hT0 := hT
  have n0 : (0 : Int32).toInt = 0 := by decide
  have n1 : (1 : Int32).toInt = 1 := by decide
  have n2 : (2 : Int32).toInt = 2 := by decide
  have p0_lo := Int32.le_toInt p0
  have p0_hi := Int32.toInt_lt p0
  have p1_lo := Int32.le_toInt p1
  have p1_hi := Int32.toInt_lt p1
  generalize hQ9 : tQ _ _ _ _ _ _ = Q9
  refine lv_aload_n hx hb dL_step_0 rfl (lv_at hl 3 rfl) ?_
  refine lv_iconst (v := 0) hx hb dL_step_1 (by decide) ?_
  refine lv_aload_n hx hb dL_step_2 rfl (lv_at hl 0 rfl) ?_
  refine lv_iload_n hx hb dL_step_3 rfl (lv_at hl 1 rfl) ?_
  refine lv_iload_n hx hb dL_step_4 rfl (lv_at hl 2 rfl) ?_
  have hTo := hT
  refine xtVl (n := 2) (As := [.int p0, .int p1]) (rest := [.int 0, .ref out]) hx hb hml hown hg hT hK hX (X5_step l κ σ0 x p0 p1  (hT.k t_x (by decide))  hlt) sub_fE_hfE (mwV k886 k887 k888 k84 k889) ⟨rfl, by decide, by decide, by decide +kernel⟩ ⟨(Nat.le_of_ble_eq_true rfl), (Nat.le_of_ble_eq_true rfl)⟩ (hT.o7 (hT.k t_x (by decide))) rfl rfl hl.1 rfl (Nat.le_of_ble_eq_true rfl) dL_step_5 zroomX.rf (fun E9 ce9 q9 τ9 H9 locs9 hp9 hE9 hT9 hce9 hcv9 hcl9 => ?_) (fun x1 s2 H locs hφ hEs2 hT => ?_)
  · have hT := hT9
    rcases hp9 with rfl | rfl
    · skip
      refine vx_catch hown [] { startPc := 0, endPc := 9, handlerPc := 12, catchType := 13 } [{ startPc := 0, endPc := 9, handlerPc := 16, catchType := 19 }] (htab.trans rfl) (fun z hz => nomatch hz) (by decide) (by decide) (hg _ k605) (XX_cIOOBE hX.1) hce9 hcv9 hcl9 ?_
      refine lv_astore (lv' := [(4, .ref q9), (0, .ref x), (1, .int p0), (2, .int p1), (3, .ref out)]) hx hb dL_step_12 hl (by decide) rfl (fun ls hl => ?_)
      refine lv_iconst (v := 1) hx hb dL_step_14 (by decide) ?_
      subst hQ9
      exact t_i hx hb hr hlocks hT trivial dL_step_15
    · skip
      refine vx_catch hown [{ startPc := 0, endPc := 9, handlerPc := 12, catchType := 13 }] { startPc := 0, endPc := 9, handlerPc := 16, catchType := 19 } [] (htab.trans rfl) (fun z hz => (List.mem_cons.mp hz).elim (fun e9 => by rw [e9]; exact Or.inr ⟨by decide, "java/lang/IndexOutOfBoundsException", hg _ k605, XX_qIAE_IOOBE hX.1⟩) (fun hz => nomatch hz)) (by decide) (by decide) (hg _ k684) (XX_cIAE hX.1) hce9 hcv9 hcl9 ?_
      refine lv_astore (lv' := [(4, .ref q9), (0, .ref x), (1, .int p0), (2, .int p1), (3, .ref out)]) hx hb dL_step_16 hl (by decide) rfl (fun ls hl => ?_)
      refine lv_iconst (v := 2) hx hb dL_step_18 (by decide) ?_
      subst hQ9
      exact t_i hx hb hr hlocks hT trivial dL_step_19
  have hTo := hT
  refine tastl (n := 1) hx hb hK hT (hT.k t_out (by decide)) ⟨by decide, by decide⟩ (fun _ _ _ => rfl) (fun _ _ => trivial) (fun _ => rfl) (by omega) (by omega) dL_step_8 (fun H locs s3 hus3 hT => ?_)
  refine lv_goto (tgt := 20) hx hb dL_step_9 (by decide) ?_
  refine lv_iconst (v := 0) hx hb dL_step_20 (by decide) ?_
  subst hQ9
  exact t_i hx hb hr hlocks hT.up trivial dL_step_21
set_option maxHeartbeats 4000000 in
set_option maxRecDepth 100000 in
theorem L_valueAt (l : Launch) (κ : Kt) (σ0 : Gh) (x : Nat) (p0 : Int32) (out : Nat) (t_x : zk σ0 x 7) (t_out : zk σ0 out 24) (hlt : l.stackTraces = false) : TH l yL_valueAt cL_valueAt 4 [(0, 8, 11, 13)] 7 158 [.ref x, .int p0, .ref out] κ σ0 (tqi (kX κ) hfW σ0 (fun (r : Int32) (τ : Gh) => True)) := by
  refine TH.of hfW (by decide +kernel) (Nat.le_of_ble_eq_true rfl) ?_
  intro p e s m below meth c ls hcs htab hK hX hT hl
  obtain ⟨hx, hb, hr, hml, hown, hg, hlocks, hin⟩ := hcs
  have hown : s.vm.findClass RL = some m.cls := hown
  have hl : lv_has ls 4 [(0, .ref x), (1, .int p0), (2, .ref out)] := hl
  have hT0 := hT
  have n0 : (0 : Int32).toInt = 0 := by decide
  have n1 : (1 : Int32).toInt = 1 := by decide
  have p0_lo := Int32.le_toInt p0
  have p0_hi := Int32.toInt_lt p0
  generalize hQ9 : tQ _ _ _ _ _ _ = Q9
  refine lv_aload_n hx hb dL_valueAt_0 rfl (lv_at hl 2 rfl) ?_
  refine lv_iconst (v := 0) hx hb dL_valueAt_1 (by decide) ?_
  refine lv_aload_n hx hb dL_valueAt_2 rfl (lv_at hl 0 rfl) ?_
  refine lv_iload_n hx hb dL_valueAt_3 rfl (lv_at hl 1 rfl) ?_
  have hTo := hT
  refine xtVl (n := 1) (As := [.int p0]) (rest := [.int 0, .ref out]) hx hb hml hown hg hT hK hX (X5_valueAt l κ σ0 x p0  (hT.k t_x (by decide))  hlt) sub_fW_hfW (mwV k893 k894 k895 k84 k896) ⟨rfl, by decide, by decide, by decide +kernel⟩ ⟨(Nat.le_of_ble_eq_true rfl), (Nat.le_of_ble_eq_true rfl)⟩ (hT.o7 (hT.k t_x (by decide))) rfl rfl hl.1 rfl (Nat.le_of_ble_eq_true rfl) dL_valueAt_4 zroomX.rf (fun E9 ce9 q9 τ9 H9 locs9 hp9 hE9 hT9 hce9 hcv9 hcl9 => ?_) (fun x1 s2 H locs hφ hEs2 hT => ?_)
  · have hT := hT9
    subst hp9
    refine vx_catch hown [] { startPc := 0, endPc := 8, handlerPc := 11, catchType := 13 } [] (htab.trans rfl) (fun z hz => nomatch hz) (by decide) (by decide) (hg _ k605) (XX_cIOOBE hX.1) hce9 hcv9 hcl9 ?_
    refine lv_astore_n (lv' := [(3, .ref q9), (0, .ref x), (1, .int p0), (2, .ref out)]) hx hb dL_valueAt_11 rfl hl (by decide) rfl (fun ls hl => ?_)
    refine lv_iconst (v := 1) hx hb dL_valueAt_12 (by decide) ?_
    subst hQ9
    exact t_i hx hb hr hlocks hT trivial dL_valueAt_13
  have hTo := hT
  refine tastl (n := 1) hx hb hK hT (hT.k t_out (by decide)) ⟨by decide, by decide⟩ (fun _ _ _ => rfl) (fun _ _ => trivial) (fun _ => rfl) (by omega) (by omega) dL_valueAt_7 (fun H locs s3 hus3 hT => ?_)
  refine lv_goto (tgt := 14) hx hb dL_valueAt_8 (by decide) ?_
  refine lv_iconst (v := 0) hx hb dL_valueAt_14 (by decide) ?_
  subst hQ9
  exact t_i hx hb hr hlocks hT.up trivial dL_valueAt_15
set_option maxHeartbeats 4000000 in
set_option maxRecDepth 100000 in
theorem L_mean (l : Launch) (κ : Kt) (σ0 : Gh) (x : Nat) (p0 : Int32) (out : Nat) (t_x : zk σ0 x 7) (t_out : zk σ0 out 24) (hlt : l.stackTraces = false) : TH l yL_mean cL_mean 4 [(0, 8, 11, 19)] 8 137 [.ref x, .int p0, .ref out] κ σ0 (tqi (kX κ) hfW σ0 (fun (r : Int32) (τ : Gh) => True)) := by
  refine TH.of hfW (by decide +kernel) (Nat.le_of_ble_eq_true rfl) ?_
  intro p e s m below meth c ls hcs htab hK hX hT hl
  obtain ⟨hx, hb, hr, hml, hown, hg, hlocks, hin⟩ := hcs
  have hown : s.vm.findClass RL = some m.cls := hown
  have hl : lv_has ls 4 [(0, .ref x), (1, .int p0), (2, .ref out)] := hl
  have hT0 := hT
  have n0 : (0 : Int32).toInt = 0 := by decide
  have n1 : (1 : Int32).toInt = 1 := by decide
  have p0_lo := Int32.le_toInt p0
  have p0_hi := Int32.toInt_lt p0
  generalize hQ9 : tQ _ _ _ _ _ _ = Q9
  refine lv_aload_n hx hb dL_mean_0 rfl (lv_at hl 2 rfl) ?_
  refine lv_iconst (v := 0) hx hb dL_mean_1 (by decide) ?_
  refine lv_aload_n hx hb dL_mean_2 rfl (lv_at hl 0 rfl) ?_
  refine lv_iload_n hx hb dL_mean_3 rfl (lv_at hl 1 rfl) ?_
  have hTo := hT
  refine xtVl (n := 1) (As := [.int p0]) (rest := [.int 0, .ref out]) hx hb hml hown hg hT hK hX (X5_mean l κ σ0 x p0  (hT.k t_x (by decide))  hlt) sub_fW_hfW (mwV k905 k906 k907 k84 k908) ⟨rfl, by decide, by decide, by decide +kernel⟩ ⟨(Nat.le_of_ble_eq_true rfl), (Nat.le_of_ble_eq_true rfl)⟩ (hT.o7 (hT.k t_x (by decide))) rfl rfl hl.1 rfl (Nat.le_of_ble_eq_true rfl) dL_mean_4 zroomX.rf (fun E9 ce9 q9 τ9 H9 locs9 hp9 hE9 hT9 hce9 hcv9 hcl9 => ?_) (fun x1 s2 H locs hφ hEs2 hT => ?_)
  · have hT := hT9
    subst hp9
    refine vx_catch hown [] { startPc := 0, endPc := 8, handlerPc := 11, catchType := 19 } [] (htab.trans rfl) (fun z hz => nomatch hz) (by decide) (by decide) (hg _ k684) (XX_cIAE hX.1) hce9 hcv9 hcl9 ?_
    refine lv_astore_n (lv' := [(3, .ref q9), (0, .ref x), (1, .int p0), (2, .ref out)]) hx hb dL_mean_11 rfl hl (by decide) rfl (fun ls hl => ?_)
    refine lv_iconst (v := 1) hx hb dL_mean_12 (by decide) ?_
    subst hQ9
    exact t_i hx hb hr hlocks hT trivial dL_mean_13
  have hTo := hT
  refine tastl (n := 1) hx hb hK hT (hT.k t_out (by decide)) ⟨by decide, by decide⟩ (fun _ _ _ => rfl) (fun _ _ => trivial) (fun _ => rfl) (by omega) (by omega) dL_mean_7 (fun H locs s3 hus3 hT => ?_)
  refine lv_goto (tgt := 14) hx hb dL_mean_8 (by decide) ?_
  refine lv_iconst (v := 0) hx hb dL_mean_14 (by decide) ?_
  subst hQ9
  exact t_i hx hb hr hlocks hT.up trivial dL_mean_15
set_option maxHeartbeats 4000000 in
set_option maxRecDepth 100000 in
theorem L_largest (l : Launch) (κ : Kt) (σ0 : Gh) (x : Nat) (p0 : Int32) (out : Nat) (t_x : zk σ0 x 7) (t_out : zk σ0 out 24) (hlt : l.stackTraces = false) : TH l yL_largest cL_largest 4 [(0, 9, 12, 13)] 8 132 [.ref x, .int p0, .ref out] κ σ0 (tqi (kX κ) hfE σ0 (fun (r : Int32) (τ : Gh) => True)) := by
  refine TH.of hfE (by decide +kernel) (Nat.le_of_ble_eq_true rfl) ?_
  intro p e s m below meth c ls hcs htab hK hX hT hl
  obtain ⟨hx, hb, hr, hml, hown, hg, hlocks, hin⟩ := hcs
  have hown : s.vm.findClass RL = some m.cls := hown
  have hl : lv_has ls 4 [(0, .ref x), (1, .int p0), (2, .ref out)] := hl
  have hT0 := hT
  have n0 : (0 : Int32).toInt = 0 := by decide
  have n1 : (1 : Int32).toInt = 1 := by decide
  have p0_lo := Int32.le_toInt p0
  have p0_hi := Int32.toInt_lt p0
  generalize hQ9 : tQ _ _ _ _ _ _ = Q9
  refine lv_aload_n hx hb dL_largest_0 rfl (lv_at hl 2 rfl) ?_
  refine lv_iconst (v := 0) hx hb dL_largest_1 (by decide) ?_
  refine lv_aload_n hx hb dL_largest_2 rfl (lv_at hl 0 rfl) ?_
  refine lv_iload_n hx hb dL_largest_3 rfl (lv_at hl 1 rfl) ?_
  have hTo := hT
  refine xtVi (n := 1) (As := [.int p0]) (rest := [.int 0, .ref out]) hx hb hml hown hg hT hK hX (X5_largest l κ σ0 x p0  (hT.k t_x (by decide))  hlt) sub_fE_hfE (mwV k930 k931 k932 k84 k933) ⟨rfl, by decide, by decide, by decide +kernel⟩ ⟨(Nat.le_of_ble_eq_true rfl), (Nat.le_of_ble_eq_true rfl)⟩ (hT.o7 (hT.k t_x (by decide))) rfl rfl hl.1 rfl (Nat.le_of_ble_eq_true rfl) dL_largest_4 zroomX.rf (fun E9 ce9 q9 τ9 H9 locs9 hp9 hE9 hT9 hce9 hcv9 hcl9 => ?_) (fun x1 s2 H locs hφ hEs2 hT => ?_)
  · have hT := hT9
    subst hp9
    refine vx_catch hown [] { startPc := 0, endPc := 9, handlerPc := 12, catchType := 13 } [] (htab.trans rfl) (fun z hz => nomatch hz) (by decide) (by decide) (hg _ k605) (XX_cIOOBE hX.1) hce9 hcv9 hcl9 ?_
    refine lv_astore_n (lv' := [(3, .ref q9), (0, .ref x), (1, .int p0), (2, .ref out)]) hx hb dL_largest_12 rfl hl (by decide) rfl (fun ls hl => ?_)
    refine lv_iconst (v := 1) hx hb dL_largest_13 (by decide) ?_
    subst hQ9
    exact t_i hx hb hr hlocks hT trivial dL_largest_14
  refine lv_i2l hx hb dL_largest_7 rfl ?_
  refine g_i2l (fun t3 ht3 => ?_)
  have hTo := hT
  refine tastl (n := 1) hx hb hK hT (hT.k t_out (by decide)) ⟨by decide, by decide⟩ (fun _ _ _ => rfl) (fun _ _ => trivial) (fun _ => rfl) (by omega) (by omega) dL_largest_8 (fun H locs s4 hus4 hT => ?_)
  refine lv_goto (tgt := 15) hx hb dL_largest_9 (by decide) ?_
  refine lv_iconst (v := 0) hx hb dL_largest_15 (by decide) ?_
  subst hQ9
  exact t_i hx hb hr hlocks hT.up trivial dL_largest_16
set_option maxHeartbeats 4000000 in
set_option maxRecDepth 100000 in
theorem L_next (l : Launch) (κ : Kt) (σ0 : Gh) (x : Nat) (out : Nat) (t_x : zk σ0 x 7) (t_out : zk σ0 out 24) (hlt : l.stackTraces = false) : TH l yL_next cL_next 3 [(0, 8, 11, 51)] 7 185 [.ref x, .ref out] κ σ0 (tqi (kX κ) hfW σ0 (fun (r : Int32) (τ : Gh) => True)) := by
  refine TH.of hfW (by decide +kernel) (Nat.le_of_ble_eq_true rfl) ?_
  intro p e s m below meth c ls hcs htab hK hX hT hl
  obtain ⟨hx, hb, hr, hml, hown, hg, hlocks, hin⟩ := hcs
  have hown : s.vm.findClass RL = some m.cls := hown
  have hl : lv_has ls 3 [(0, .ref x), (1, .ref out)] := hl
  have hT0 := hT
  have n0 : (0 : Int32).toInt = 0 := by decide
  have n1 : (1 : Int32).toInt = 1 := by decide
  generalize hQ9 : tQ _ _ _ _ _ _ = Q9
  refine lv_aload_n hx hb dL_next_0 rfl (lv_at hl 1 rfl) ?_
  refine lv_iconst (v := 0) hx hb dL_next_1 (by decide) ?_
  refine lv_aload_n hx hb dL_next_2 rfl (lv_at hl 0 rfl) ?_
  have hTo := hT
  refine xtVi (n := 0) (As := []) (rest := [.int 0, .ref out]) hx hb hml hown hg hT hK hX (X5_next l κ σ0 x  (hT.k t_x (by decide))  hlt) sub_fW_hfW (mwV k946 k947 k948 k84 k949) ⟨rfl, by decide, by decide, by decide +kernel⟩ ⟨(Nat.le_of_ble_eq_true rfl), (Nat.le_of_ble_eq_true rfl)⟩ (hT.o7 (hT.k t_x (by decide))) rfl rfl hl.1 rfl (Nat.le_of_ble_eq_true rfl) dL_next_3 zroomX.rf (fun E9 ce9 q9 τ9 H9 locs9 hp9 hE9 hT9 hce9 hcv9 hcl9 => ?_) (fun x1 s2 H locs hφ hEs2 hT => ?_)
  · have hT := hT9
    subst hp9
    refine vx_catch hown [] { startPc := 0, endPc := 8, handlerPc := 11, catchType := 51 } [] (htab.trans rfl) (fun z hz => nomatch hz) (by decide) (by decide) (hg _ k945) (XX_cNSEE hX.1) hce9 hcv9 hcl9 ?_
    refine lv_astore_n (lv' := [(2, .ref q9), (0, .ref x), (1, .ref out)]) hx hb dL_next_11 rfl hl (by decide) rfl (fun ls hl => ?_)
    refine lv_iconst (v := 1) hx hb dL_next_12 (by decide) ?_
    subst hQ9
    exact t_i hx hb hr hlocks hT trivial dL_next_13
  refine lv_i2l hx hb dL_next_6 rfl ?_
  refine g_i2l (fun t3 ht3 => ?_)
  have hTo := hT
  refine tastl (n := 1) hx hb hK hT (hT.k t_out (by decide)) ⟨by decide, by decide⟩ (fun _ _ _ => rfl) (fun _ _ => trivial) (fun _ => rfl) (by omega) (by omega) dL_next_7 (fun H locs s4 hus4 hT => ?_)
  refine lv_goto (tgt := 14) hx hb dL_next_8 (by decide) ?_
  refine lv_iconst (v := 0) hx hb dL_next_14 (by decide) ?_
  subst hQ9
  exact t_i hx hb hr hlocks hT.up trivial dL_next_15
set_option maxHeartbeats 4000000 in
set_option maxRecDepth 100000 in
theorem L_setSplit (l : Launch) (κ : Kt) (σ0 : Gh) (x : Nat) (p0 : Int32) (out : Nat) (t_x : zk σ0 x 7) (t_out : zk σ0 out 24) (hlt : l.stackTraces = false) : TH l yL_setSplit cL_setSplit 4 [(0, 9, 12, 19)] 8 134 [.ref x, .int p0, .ref out] κ σ0 (tqi (kX κ) hfSet σ0 (fun (r : Int32) (τ : Gh) => ((r.toInt = 0 ∧ 0 ≤ p0.toInt ∧ p0.toInt ≤ 2 ∧ (zJ τ out 0).toInt = (zI σ0 (kR κ x 3) 7).toInt ∧ zI τ (kR κ x 3) 7 = p0 ∧ zI τ (kR κ x 3) 8 = zI σ0 (kR κ x 3) 8 ∧ zI τ (kR κ x 3) 9 = zI σ0 (kR κ x 3) 9 ∧ ∀ a : Nat, a ≠ (kR κ x 3) → zk σ0 a 3 → zI τ a 7 = zI σ0 a 7 ∧ zI τ a 8 = zI σ0 a 8 ∧ zI τ a 9 = zI σ0 a 9) ∨ (r.toInt = 1 ∧ (p0.toInt < 0 ∨ 2 < p0.toInt) ∧ ∀ a : Nat, zk σ0 a 3 → zI τ a 7 = zI σ0 a 7 ∧ zI τ a 8 = zI σ0 a 8 ∧ zI τ a 9 = zI σ0 a 9)))) := by
  refine TH.of hfSet (by decide +kernel) (Nat.le_of_ble_eq_true rfl) ?_
  intro p e s m below meth c ls hcs htab hK hX hT hl
  obtain ⟨hx, hb, hr, hml, hown, hg, hlocks, hin⟩ := hcs
  have hown : s.vm.findClass RL = some m.cls := hown
  have hl : lv_has ls 4 [(0, .ref x), (1, .int p0), (2, .ref out)] := hl
  have hT0 := hT
  have n0 : (0 : Int32).toInt = 0 := by decide
  have n1 : (1 : Int32).toInt = 1 := by decide
  have p0_lo := Int32.le_toInt p0
  have p0_hi := Int32.toInt_lt p0
  generalize hQ9 : tQ _ _ _ _ _ _ = Q9
  obtain ⟨nw, enw⟩ : ∃ z, kR κ x 3 = z := ⟨_, rfl⟩
  have tnw : zk σ0 nw 3 := by rw [← enw]; exact hT0.ref t_x (by decide) (by decide) (by decide)
  refine lv_aload_n hx hb dL_setSplit_0 rfl (lv_at hl 2 rfl) ?_
  refine lv_iconst (v := 0) hx hb dL_setSplit_1 (by decide) ?_
  refine lv_aload_n hx hb dL_setSplit_2 rfl (lv_at hl 0 rfl) ?_
  refine lv_iload_n hx hb dL_setSplit_3 rfl (lv_at hl 1 rfl) ?_
  have hTo := hT
  refine xtVi (n := 1) (As := [.int p0]) (rest := [.int 0, .ref out]) hx hb hml hown hg hT hK hX (X5t_setSplit l κ σ0 x p0  (hT.k t_x (by decide))  hlt) sub_fSet_hfSet (mwV k970 k971 k972 k84 k973) ⟨rfl, by decide, by decide, by decide +kernel⟩ ⟨(Nat.le_of_ble_eq_true rfl), (Nat.le_of_ble_eq_true rfl)⟩ (hT.o7 (hT.k t_x (by decide))) rfl rfl hl.1 rfl (Nat.le_of_ble_eq_true rfl) dL_setSplit_4 zroomX.rf (fun E9 ce9 q9 τ9 H9 locs9 hp9 hE9 hT9 hce9 hcv9 hcl9 => ?_) (fun x1 s2 H locs hφ hEs2 hT => ?_)
  · have hT := hT9
    obtain ⟨rfl, hp9⟩ := hp9
    refine vx_catch hown [] { startPc := 0, endPc := 9, handlerPc := 12, catchType := 19 } [] (htab.trans rfl) (fun z hz => nomatch hz) (by decide) (by decide) (hg _ k684) (XX_cIAE hX.1) hce9 hcv9 hcl9 ?_
    refine lv_astore_n (lv' := [(3, .ref q9), (0, .ref x), (1, .int p0), (2, .ref out)]) hx hb dL_setSplit_12 rfl hl (by decide) rfl (fun ls hl => ?_)
    refine lv_iconst (v := 1) hx hb dL_setSplit_13 (by decide) ?_
    subst hQ9
    exact t_i hx hb hr hlocks hT (Or.inr ⟨n1, hp9.1, hp9.2⟩) dL_setSplit_14
  obtain ⟨f3, f4, f5, f6, f7, f8, f9⟩ := hφ
  try rw [enw] at f9
  have fr10 : ∀ a : Nat, a ≠ nw → zk σ0 a 3 → zI s2 a 7 = zI σ0 a 7 ∧ zI s2 a 8 = zI σ0 a 8 ∧ zI s2 a 9 = zI σ0 a 9 := fun a ha hk => ⟨(f9 a ha (hTo.k hk (by decide))).1.trans ((show ∀ a : Nat, a ≠ nw → zk σ0 a 3 → zI σ0 a 7 = zI σ0 a 7 ∧ zI σ0 a 8 = zI σ0 a 8 ∧ zI σ0 a 9 = zI σ0 a 9 from fun _ _ _ => ⟨rfl, rfl, rfl⟩) a ha hk).1, (f9 a ha (hTo.k hk (by decide))).2.1.trans ((show ∀ a : Nat, a ≠ nw → zk σ0 a 3 → zI σ0 a 7 = zI σ0 a 7 ∧ zI σ0 a 8 = zI σ0 a 8 ∧ zI σ0 a 9 = zI σ0 a 9 from fun _ _ _ => ⟨rfl, rfl, rfl⟩) a ha hk).2.1, (f9 a ha (hTo.k hk (by decide))).2.2.trans ((show ∀ a : Nat, a ≠ nw → zk σ0 a 3 → zI σ0 a 7 = zI σ0 a 7 ∧ zI σ0 a 8 = zI σ0 a 8 ∧ zI σ0 a 9 = zI σ0 a 9 from fun _ _ _ => ⟨rfl, rfl, rfl⟩) a ha hk).2.2⟩
  try rw [enw] at f5
  try rw [enw] at f6
  try rw [enw] at f7
  try rw [enw] at f8
  try rw [enw] at f9
  obtain ⟨v11, ev11⟩ : ∃ zz9 : Int32, zI s2 nw 7 = zz9 := ⟨_, rfl⟩
  have qv11 : v11.toInt = (zI s2 nw 7).toInt := by rw [ev11]
  obtain ⟨v12, ev12⟩ : ∃ zz9 : Int32, zI s2 nw 8 = zz9 := ⟨_, rfl⟩
  have qv12 : v12.toInt = (zI s2 nw 8).toInt := by rw [ev12]
  obtain ⟨v13, ev13⟩ : ∃ zz9 : Int32, zI s2 nw 9 = zz9 := ⟨_, rfl⟩
  have qv13 : v13.toInt = (zI s2 nw 9).toInt := by rw [ev13]
  have b14 : isB v13 := by have q9 := (hT.P (hT.k tnw (by decide)) (by decide)).2; rw [ev13] at q9; exact q9
  rw [(show zI s2 nw 7 = v11 from ev11)] at f6
  rw [(show zI s2 nw 8 = v12 from ev12)] at f7
  rw [(show zI s2 nw 9 = v13 from ev13)] at f8
  refine lv_i2l hx hb dL_setSplit_7 rfl ?_
  refine g_i2l (fun t15 ht15 => ?_)
  have hTo := hT
  refine tastl (n := 1) hx hb hK hT (hT.k t_out (by decide)) ⟨by decide, by decide⟩ (fun _ _ _ => rfl) (fun _ _ => trivial) (fun _ => rfl) (by omega) (by omega) dL_setSplit_8 (fun H locs s16 hus16 hT => ?_)
  have ev11 : zI s16 nw 7 = v11 := by rw [zpul_I hus16]; exact ev11
  have ev12 : zI s16 nw 8 = v12 := by rw [zpul_I hus16]; exact ev12
  have ev13 : zI s16 nw 9 = v13 := by rw [zpul_I hus16]; exact ev13
  have fr17 : ∀ a : Nat, a ≠ nw → zk σ0 a 3 → zI s16 a 7 = zI σ0 a 7 ∧ zI s16 a 8 = zI σ0 a 8 ∧ zI s16 a 9 = zI σ0 a 9 := fun a ha hk => ⟨((by rw [zpul_I hus16] : zI s16 a 7 = zI s2 a 7)).trans (f9 a ha hk).1, ((by rw [zpul_I hus16] : zI s16 a 8 = zI s2 a 8)).trans (f9 a ha hk).2.1, ((by rw [zpul_I hus16] : zI s16 a 9 = zI s2 a 9)).trans (f9 a ha hk).2.2⟩
  refine lv_goto (tgt := 15) hx hb dL_setSplit_9 (by decide) ?_
  refine lv_iconst (v := 0) hx hb dL_setSplit_15 (by decide) ?_
  subst hQ9
  exact t_i hx hb hr hlocks hT.up (by rw [enw]; exact Or.inl ⟨n0, by omega, by omega, (congrArg Int64.toInt (by rw [zpul_Ja hus16]; exact uh : zJ s16 out 0 = t15)).trans (by rw [← f5]; omega), (show zI s16 nw 7 = v11 from ev11).trans f6, (show zI s16 nw 8 = v12 from ev12).trans f7, (show zI s16 nw 9 = v13 from ev13).trans f8, fr17⟩) dL_setSplit_16
set_option maxHeartbeats 4000000 in
set_option maxRecDepth 100000 in
theorem L_setPredict (l : Launch) (κ : Kt) (σ0 : Gh) (x : Nat) (p0 : Int32) (out : Nat) (t_x : zk σ0 x 7) (t_out : zk σ0 out 24) (hlt : l.stackTraces = false) : TH l yL_setPredict cL_setPredict 4 [(0, 9, 12, 19)] 8 134 [.ref x, .int p0, .ref out] κ σ0 (tqi (kX κ) hfSet σ0 (fun (r : Int32) (τ : Gh) => ((r.toInt = 0 ∧ 0 ≤ p0.toInt ∧ p0.toInt ≤ 2 ∧ (zJ τ out 0).toInt = (zI σ0 (kR κ x 3) 8).toInt ∧ zI τ (kR κ x 3) 8 = p0 ∧ zI τ (kR κ x 3) 7 = zI σ0 (kR κ x 3) 7 ∧ zI τ (kR κ x 3) 9 = zI σ0 (kR κ x 3) 9 ∧ ∀ a : Nat, a ≠ (kR κ x 3) → zk σ0 a 3 → zI τ a 7 = zI σ0 a 7 ∧ zI τ a 8 = zI σ0 a 8 ∧ zI τ a 9 = zI σ0 a 9) ∨ (r.toInt = 1 ∧ (p0.toInt < 0 ∨ 2 < p0.toInt) ∧ ∀ a : Nat, zk σ0 a 3 → zI τ a 7 = zI σ0 a 7 ∧ zI τ a 8 = zI σ0 a 8 ∧ zI τ a 9 = zI σ0 a 9)))) := by
  refine TH.of hfSet (by decide +kernel) (Nat.le_of_ble_eq_true rfl) ?_
  intro p e s m below meth c ls hcs htab hK hX hT hl
  obtain ⟨hx, hb, hr, hml, hown, hg, hlocks, hin⟩ := hcs
  have hown : s.vm.findClass RL = some m.cls := hown
  have hl : lv_has ls 4 [(0, .ref x), (1, .int p0), (2, .ref out)] := hl
  have hT0 := hT
  have n0 : (0 : Int32).toInt = 0 := by decide
  have n1 : (1 : Int32).toInt = 1 := by decide
  have p0_lo := Int32.le_toInt p0
  have p0_hi := Int32.toInt_lt p0
  generalize hQ9 : tQ _ _ _ _ _ _ = Q9
  obtain ⟨nw, enw⟩ : ∃ z, kR κ x 3 = z := ⟨_, rfl⟩
  have tnw : zk σ0 nw 3 := by rw [← enw]; exact hT0.ref t_x (by decide) (by decide) (by decide)
  refine lv_aload_n hx hb dL_setPredict_0 rfl (lv_at hl 2 rfl) ?_
  refine lv_iconst (v := 0) hx hb dL_setPredict_1 (by decide) ?_
  refine lv_aload_n hx hb dL_setPredict_2 rfl (lv_at hl 0 rfl) ?_
  refine lv_iload_n hx hb dL_setPredict_3 rfl (lv_at hl 1 rfl) ?_
  have hTo := hT
  refine xtVi (n := 1) (As := [.int p0]) (rest := [.int 0, .ref out]) hx hb hml hown hg hT hK hX (X5t_setPredict l κ σ0 x p0  (hT.k t_x (by decide))  hlt) sub_fSet_hfSet (mwV k977 k978 k979 k84 k980) ⟨rfl, by decide, by decide, by decide +kernel⟩ ⟨(Nat.le_of_ble_eq_true rfl), (Nat.le_of_ble_eq_true rfl)⟩ (hT.o7 (hT.k t_x (by decide))) rfl rfl hl.1 rfl (Nat.le_of_ble_eq_true rfl) dL_setPredict_4 zroomX.rf (fun E9 ce9 q9 τ9 H9 locs9 hp9 hE9 hT9 hce9 hcv9 hcl9 => ?_) (fun x1 s2 H locs hφ hEs2 hT => ?_)
  · have hT := hT9
    obtain ⟨rfl, hp9⟩ := hp9
    refine vx_catch hown [] { startPc := 0, endPc := 9, handlerPc := 12, catchType := 19 } [] (htab.trans rfl) (fun z hz => nomatch hz) (by decide) (by decide) (hg _ k684) (XX_cIAE hX.1) hce9 hcv9 hcl9 ?_
    refine lv_astore_n (lv' := [(3, .ref q9), (0, .ref x), (1, .int p0), (2, .ref out)]) hx hb dL_setPredict_12 rfl hl (by decide) rfl (fun ls hl => ?_)
    refine lv_iconst (v := 1) hx hb dL_setPredict_13 (by decide) ?_
    subst hQ9
    exact t_i hx hb hr hlocks hT (Or.inr ⟨n1, hp9.1, hp9.2⟩) dL_setPredict_14
  obtain ⟨f3, f4, f5, f6, f7, f8, f9⟩ := hφ
  try rw [enw] at f9
  have fr10 : ∀ a : Nat, a ≠ nw → zk σ0 a 3 → zI s2 a 7 = zI σ0 a 7 ∧ zI s2 a 8 = zI σ0 a 8 ∧ zI s2 a 9 = zI σ0 a 9 := fun a ha hk => ⟨(f9 a ha (hTo.k hk (by decide))).1.trans ((show ∀ a : Nat, a ≠ nw → zk σ0 a 3 → zI σ0 a 7 = zI σ0 a 7 ∧ zI σ0 a 8 = zI σ0 a 8 ∧ zI σ0 a 9 = zI σ0 a 9 from fun _ _ _ => ⟨rfl, rfl, rfl⟩) a ha hk).1, (f9 a ha (hTo.k hk (by decide))).2.1.trans ((show ∀ a : Nat, a ≠ nw → zk σ0 a 3 → zI σ0 a 7 = zI σ0 a 7 ∧ zI σ0 a 8 = zI σ0 a 8 ∧ zI σ0 a 9 = zI σ0 a 9 from fun _ _ _ => ⟨rfl, rfl, rfl⟩) a ha hk).2.1, (f9 a ha (hTo.k hk (by decide))).2.2.trans ((show ∀ a : Nat, a ≠ nw → zk σ0 a 3 → zI σ0 a 7 = zI σ0 a 7 ∧ zI σ0 a 8 = zI σ0 a 8 ∧ zI σ0 a 9 = zI σ0 a 9 from fun _ _ _ => ⟨rfl, rfl, rfl⟩) a ha hk).2.2⟩
  try rw [enw] at f5
  try rw [enw] at f6
  try rw [enw] at f7
  try rw [enw] at f8
  try rw [enw] at f9
  obtain ⟨v11, ev11⟩ : ∃ zz9 : Int32, zI s2 nw 7 = zz9 := ⟨_, rfl⟩
  have qv11 : v11.toInt = (zI s2 nw 7).toInt := by rw [ev11]
  obtain ⟨v12, ev12⟩ : ∃ zz9 : Int32, zI s2 nw 8 = zz9 := ⟨_, rfl⟩
  have qv12 : v12.toInt = (zI s2 nw 8).toInt := by rw [ev12]
  obtain ⟨v13, ev13⟩ : ∃ zz9 : Int32, zI s2 nw 9 = zz9 := ⟨_, rfl⟩
  have qv13 : v13.toInt = (zI s2 nw 9).toInt := by rw [ev13]
  have b14 : isB v13 := by have q9 := (hT.P (hT.k tnw (by decide)) (by decide)).2; rw [ev13] at q9; exact q9
  rw [(show zI s2 nw 8 = v12 from ev12)] at f6
  rw [(show zI s2 nw 7 = v11 from ev11)] at f7
  rw [(show zI s2 nw 9 = v13 from ev13)] at f8
  refine lv_i2l hx hb dL_setPredict_7 rfl ?_
  refine g_i2l (fun t15 ht15 => ?_)
  have hTo := hT
  refine tastl (n := 1) hx hb hK hT (hT.k t_out (by decide)) ⟨by decide, by decide⟩ (fun _ _ _ => rfl) (fun _ _ => trivial) (fun _ => rfl) (by omega) (by omega) dL_setPredict_8 (fun H locs s16 hus16 hT => ?_)
  have ev11 : zI s16 nw 7 = v11 := by rw [zpul_I hus16]; exact ev11
  have ev12 : zI s16 nw 8 = v12 := by rw [zpul_I hus16]; exact ev12
  have ev13 : zI s16 nw 9 = v13 := by rw [zpul_I hus16]; exact ev13
  have fr17 : ∀ a : Nat, a ≠ nw → zk σ0 a 3 → zI s16 a 7 = zI σ0 a 7 ∧ zI s16 a 8 = zI σ0 a 8 ∧ zI s16 a 9 = zI σ0 a 9 := fun a ha hk => ⟨((by rw [zpul_I hus16] : zI s16 a 7 = zI s2 a 7)).trans (f9 a ha hk).1, ((by rw [zpul_I hus16] : zI s16 a 8 = zI s2 a 8)).trans (f9 a ha hk).2.1, ((by rw [zpul_I hus16] : zI s16 a 9 = zI s2 a 9)).trans (f9 a ha hk).2.2⟩
  refine lv_goto (tgt := 15) hx hb dL_setPredict_9 (by decide) ?_
  refine lv_iconst (v := 0) hx hb dL_setPredict_15 (by decide) ?_
  subst hQ9
  exact t_i hx hb hr hlocks hT.up (by rw [enw]; exact Or.inl ⟨n0, by omega, by omega, (congrArg Int64.toInt (by rw [zpul_Ja hus16]; exact uh : zJ s16 out 0 = t15)).trans (by rw [← f5]; omega), (show zI s16 nw 8 = v12 from ev12).trans f6, (show zI s16 nw 7 = v11 from ev11).trans f7, (show zI s16 nw 9 = v13 from ev13).trans f8, fr17⟩) dL_setPredict_16
set_option maxHeartbeats 4000000 in
set_option maxRecDepth 100000 in
theorem L_set (l : Launch) (κ : Kt) (σ0 : Gh) (x : Nat) (p0 : Int32) (p1 : Int32) (out : Nat) (t_x : zk σ0 x 7) (t_out : zk σ0 out 24) (hlt : l.stackTraces = false) : TH l yL_set cL_set 5 [(0, 9, 12, 13), (0, 9, 16, 19), (0, 9, 20, 62)] 8 137 [.ref x, .int p0, .int p1, .ref out] κ σ0 (tqi (kX κ) hfWr σ0 (fun (r : Int32) (τ : Gh) => True)) := by
  refine TH.of hfWr (by decide +kernel) (Nat.le_of_ble_eq_true rfl) ?_
  intro p e s m below meth c ls hcs htab hK hX hT hl
  obtain ⟨hx, hb, hr, hml, hown, hg, hlocks, hin⟩ := hcs
  have hown : s.vm.findClass RL = some m.cls := hown
  have hl : lv_has ls 5 [(0, .ref x), (1, .int p0), (2, .int p1), (3, .ref out)] := hl
  have hT0 := hT
  have n0 : (0 : Int32).toInt = 0 := by decide
  have n1 : (1 : Int32).toInt = 1 := by decide
  have n2 : (2 : Int32).toInt = 2 := by decide
  have n3 : (3 : Int32).toInt = 3 := by decide
  have p0_lo := Int32.le_toInt p0
  have p0_hi := Int32.toInt_lt p0
  have p1_lo := Int32.le_toInt p1
  have p1_hi := Int32.toInt_lt p1
  generalize hQ9 : tQ _ _ _ _ _ _ = Q9
  refine lv_aload_n hx hb dL_set_0 rfl (lv_at hl 3 rfl) ?_
  refine lv_iconst (v := 0) hx hb dL_set_1 (by decide) ?_
  refine lv_aload_n hx hb dL_set_2 rfl (lv_at hl 0 rfl) ?_
  refine lv_iload_n hx hb dL_set_3 rfl (lv_at hl 1 rfl) ?_
  refine lv_iload_n hx hb dL_set_4 rfl (lv_at hl 2 rfl) ?_
  have hTo := hT
  refine xtVl (n := 2) (As := [.int p0, .int p1]) (rest := [.int 0, .ref out]) hx hb hml hown hg hT hK hX (X5_set l κ σ0 x p0 p1  (hT.k t_x (by decide))  hlt) sub_fWr_hfWr (mwV k985 k986 k987 k84 k988) ⟨rfl, by decide, by decide, by decide +kernel⟩ ⟨(Nat.le_of_ble_eq_true rfl), (Nat.le_of_ble_eq_true rfl)⟩ (hT.o7 (hT.k t_x (by decide))) rfl rfl hl.1 rfl (Nat.le_of_ble_eq_true rfl) dL_set_5 zroomX.rf (fun E9 ce9 q9 τ9 H9 locs9 hp9 hE9 hT9 hce9 hcv9 hcl9 => ?_) (fun x1 s2 H locs hφ hEs2 hT => ?_)
  · have hT := hT9
    rcases hp9 with rfl | rfl | rfl
    · skip
      refine vx_catch hown [] { startPc := 0, endPc := 9, handlerPc := 12, catchType := 13 } [{ startPc := 0, endPc := 9, handlerPc := 16, catchType := 19 }, { startPc := 0, endPc := 9, handlerPc := 20, catchType := 62 }] (htab.trans rfl) (fun z hz => nomatch hz) (by decide) (by decide) (hg _ k605) (XX_cIOOBE hX.1) hce9 hcv9 hcl9 ?_
      refine lv_astore (lv' := [(4, .ref q9), (0, .ref x), (1, .int p0), (2, .int p1), (3, .ref out)]) hx hb dL_set_12 hl (by decide) rfl (fun ls hl => ?_)
      refine lv_iconst (v := 1) hx hb dL_set_14 (by decide) ?_
      subst hQ9
      exact t_i hx hb hr hlocks hT trivial dL_set_15
    · skip
      refine vx_catch hown [{ startPc := 0, endPc := 9, handlerPc := 12, catchType := 13 }] { startPc := 0, endPc := 9, handlerPc := 16, catchType := 19 } [{ startPc := 0, endPc := 9, handlerPc := 20, catchType := 62 }] (htab.trans rfl) (fun z hz => (List.mem_cons.mp hz).elim (fun e9 => by rw [e9]; exact Or.inr ⟨by decide, "java/lang/IndexOutOfBoundsException", hg _ k605, XX_qIAE_IOOBE hX.1⟩) (fun hz => nomatch hz)) (by decide) (by decide) (hg _ k684) (XX_cIAE hX.1) hce9 hcv9 hcl9 ?_
      refine lv_astore (lv' := [(4, .ref q9), (0, .ref x), (1, .int p0), (2, .int p1), (3, .ref out)]) hx hb dL_set_16 hl (by decide) rfl (fun ls hl => ?_)
      refine lv_iconst (v := 2) hx hb dL_set_18 (by decide) ?_
      subst hQ9
      exact t_i hx hb hr hlocks hT trivial dL_set_19
    · skip
      refine vx_catch hown [{ startPc := 0, endPc := 9, handlerPc := 12, catchType := 13 }, { startPc := 0, endPc := 9, handlerPc := 16, catchType := 19 }] { startPc := 0, endPc := 9, handlerPc := 20, catchType := 62 } [] (htab.trans rfl) (fun z hz => (List.mem_cons.mp hz).elim (fun e9 => by rw [e9]; exact Or.inr ⟨by decide, "java/lang/IndexOutOfBoundsException", hg _ k605, XX_qISE_IOOBE hX.1⟩) (fun hz => (List.mem_cons.mp hz).elim (fun e9 => by rw [e9]; exact Or.inr ⟨by decide, "java/lang/IllegalArgumentException", hg _ k684, XX_qISE_IAE hX.1⟩) (fun hz => nomatch hz))) (by decide) (by decide) (hg _ k984) (XX_cISE hX.1) hce9 hcv9 hcl9 ?_
      refine lv_astore (lv' := [(4, .ref q9), (0, .ref x), (1, .int p0), (2, .int p1), (3, .ref out)]) hx hb dL_set_20 hl (by decide) rfl (fun ls hl => ?_)
      refine lv_iconst (v := 3) hx hb dL_set_22 (by decide) ?_
      subst hQ9
      exact t_i hx hb hr hlocks hT trivial dL_set_23
  have hTo := hT
  refine tastl (n := 1) hx hb hK hT (hT.k t_out (by decide)) ⟨by decide, by decide⟩ (fun _ _ _ => rfl) (fun _ _ => trivial) (fun _ => rfl) (by omega) (by omega) dL_set_8 (fun H locs s3 hus3 hT => ?_)
  refine lv_goto (tgt := 24) hx hb dL_set_9 (by decide) ?_
  refine lv_iconst (v := 0) hx hb dL_set_24 (by decide) ?_
  subst hQ9
  exact t_i hx hb hr hlocks hT.up trivial dL_set_25
set_option maxHeartbeats 4000000 in
set_option maxRecDepth 100000 in
theorem L_noise (l : Launch) (κ : Kt) (σ0 : Gh) (x : Nat) (p0 : Int32) (p1 : Int32) (out : Nat) (t_x : zk σ0 x 7) (t_out : zk σ0 out 24) (hlt : l.stackTraces = false) : TH l yL_noise cL_noise 5 [(0, 9, 12, 19), (0, 9, 16, 62)] 8 137 [.ref x, .int p0, .int p1, .ref out] κ σ0 (tqi (kX κ) hfWr σ0 (fun (r : Int32) (τ : Gh) => True)) := by
  refine TH.of hfWr (by decide +kernel) (Nat.le_of_ble_eq_true rfl) ?_
  intro p e s m below meth c ls hcs htab hK hX hT hl
  obtain ⟨hx, hb, hr, hml, hown, hg, hlocks, hin⟩ := hcs
  have hown : s.vm.findClass RL = some m.cls := hown
  have hl : lv_has ls 5 [(0, .ref x), (1, .int p0), (2, .int p1), (3, .ref out)] := hl
  have hT0 := hT
  have n0 : (0 : Int32).toInt = 0 := by decide
  have n1 : (1 : Int32).toInt = 1 := by decide
  have n2 : (2 : Int32).toInt = 2 := by decide
  have p0_lo := Int32.le_toInt p0
  have p0_hi := Int32.toInt_lt p0
  have p1_lo := Int32.le_toInt p1
  have p1_hi := Int32.toInt_lt p1
  generalize hQ9 : tQ _ _ _ _ _ _ = Q9
  refine lv_aload_n hx hb dL_noise_0 rfl (lv_at hl 3 rfl) ?_
  refine lv_iconst (v := 0) hx hb dL_noise_1 (by decide) ?_
  refine lv_aload_n hx hb dL_noise_2 rfl (lv_at hl 0 rfl) ?_
  refine lv_iload_n hx hb dL_noise_3 rfl (lv_at hl 1 rfl) ?_
  refine lv_iload_n hx hb dL_noise_4 rfl (lv_at hl 2 rfl) ?_
  have hTo := hT
  refine xtVl (n := 2) (As := [.int p0, .int p1]) (rest := [.int 0, .ref out]) hx hb hml hown hg hT hK hX (X5_noise l κ σ0 x p0 p1  (hT.k t_x (by decide))  hlt) sub_fWr_hfWr (mwV k1016 k1017 k1018 k84 k1019) ⟨rfl, by decide, by decide, by decide +kernel⟩ ⟨(Nat.le_of_ble_eq_true rfl), (Nat.le_of_ble_eq_true rfl)⟩ (hT.o7 (hT.k t_x (by decide))) rfl rfl hl.1 rfl (Nat.le_of_ble_eq_true rfl) dL_noise_5 zroomX.rf (fun E9 ce9 q9 τ9 H9 locs9 hp9 hE9 hT9 hce9 hcv9 hcl9 => ?_) (fun x1 s2 H locs hφ hEs2 hT => ?_)
  · have hT := hT9
    rcases hp9 with rfl | rfl
    · skip
      refine vx_catch hown [] { startPc := 0, endPc := 9, handlerPc := 12, catchType := 19 } [{ startPc := 0, endPc := 9, handlerPc := 16, catchType := 62 }] (htab.trans rfl) (fun z hz => nomatch hz) (by decide) (by decide) (hg _ k684) (XX_cIAE hX.1) hce9 hcv9 hcl9 ?_
      refine lv_astore (lv' := [(4, .ref q9), (0, .ref x), (1, .int p0), (2, .int p1), (3, .ref out)]) hx hb dL_noise_12 hl (by decide) rfl (fun ls hl => ?_)
      refine lv_iconst (v := 1) hx hb dL_noise_14 (by decide) ?_
      subst hQ9
      exact t_i hx hb hr hlocks hT trivial dL_noise_15
    · skip
      refine vx_catch hown [{ startPc := 0, endPc := 9, handlerPc := 12, catchType := 19 }] { startPc := 0, endPc := 9, handlerPc := 16, catchType := 62 } [] (htab.trans rfl) (fun z hz => (List.mem_cons.mp hz).elim (fun e9 => by rw [e9]; exact Or.inr ⟨by decide, "java/lang/IllegalArgumentException", hg _ k684, XX_qISE_IAE hX.1⟩) (fun hz => nomatch hz)) (by decide) (by decide) (hg _ k984) (XX_cISE hX.1) hce9 hcv9 hcl9 ?_
      refine lv_astore (lv' := [(4, .ref q9), (0, .ref x), (1, .int p0), (2, .int p1), (3, .ref out)]) hx hb dL_noise_16 hl (by decide) rfl (fun ls hl => ?_)
      refine lv_iconst (v := 2) hx hb dL_noise_18 (by decide) ?_
      subst hQ9
      exact t_i hx hb hr hlocks hT trivial dL_noise_19
  have hTo := hT
  refine tastl (n := 1) hx hb hK hT (hT.k t_out (by decide)) ⟨by decide, by decide⟩ (fun _ _ _ => rfl) (fun _ _ => trivial) (fun _ => rfl) (by omega) (by omega) dL_noise_8 (fun H locs s3 hus3 hT => ?_)
  refine lv_goto (tgt := 20) hx hb dL_noise_9 (by decide) ?_
  refine lv_iconst (v := 0) hx hb dL_noise_20 (by decide) ?_
  subst hQ9
  exact t_i hx hb hr hlocks hT.up trivial dL_noise_21
set_option maxHeartbeats 4000000 in
set_option maxRecDepth 100000 in
theorem L_forward (l : Launch) (κ : Kt) (σ0 : Gh) (x : Nat) (p0 : Int32) (out : Nat) (t_x : zk σ0 x 7) (t_out : zk σ0 out 24) (hlt : l.stackTraces = false) : TH l yL_forward cL_forward 4 [(0, 9, 12, 19), (0, 9, 15, 62)] 8 209 [.ref x, .int p0, .ref out] κ σ0 (tqi (kX κ) hfLr σ0 (fun (r : Int32) (τ : Gh) => True)) := by
  refine TH.of hfLr (by decide +kernel) (Nat.le_of_ble_eq_true rfl) ?_
  intro p e s m below meth c ls hcs htab hK hX hT hl
  obtain ⟨hx, hb, hr, hml, hown, hg, hlocks, hin⟩ := hcs
  have hown : s.vm.findClass RL = some m.cls := hown
  have hl : lv_has ls 4 [(0, .ref x), (1, .int p0), (2, .ref out)] := hl
  have hT0 := hT
  have n0 : (0 : Int32).toInt = 0 := by decide
  have n1 : (1 : Int32).toInt = 1 := by decide
  have n2 : (2 : Int32).toInt = 2 := by decide
  have p0_lo := Int32.le_toInt p0
  have p0_hi := Int32.toInt_lt p0
  generalize hQ9 : tQ _ _ _ _ _ _ = Q9
  refine lv_aload_n hx hb dL_forward_0 rfl (lv_at hl 2 rfl) ?_
  refine lv_iconst (v := 0) hx hb dL_forward_1 (by decide) ?_
  refine lv_aload_n hx hb dL_forward_2 rfl (lv_at hl 0 rfl) ?_
  refine lv_iload_n hx hb dL_forward_3 rfl (lv_at hl 1 rfl) ?_
  have hTo := hT
  refine xtVi (n := 1) (As := [.int p0]) (rest := [.int 0, .ref out]) hx hb hml hown hg hT hK hX (X5_forward l κ σ0 x p0  (hT.k t_x (by decide))  hlt) sub_fLr_hfLr (mwV k1028 k1029 k1030 k84 k1031) ⟨rfl, by decide, by decide, by decide +kernel⟩ ⟨(Nat.le_of_ble_eq_true rfl), (Nat.le_of_ble_eq_true rfl)⟩ (hT.o7 (hT.k t_x (by decide))) rfl rfl hl.1 rfl (Nat.le_of_ble_eq_true rfl) dL_forward_4 zroomX.rf (fun E9 ce9 q9 τ9 H9 locs9 hp9 hE9 hT9 hce9 hcv9 hcl9 => ?_) (fun x1 s2 H locs hφ hEs2 hT => ?_)
  · have hT := hT9
    rcases hp9 with rfl | rfl
    · skip
      refine vx_catch hown [] { startPc := 0, endPc := 9, handlerPc := 12, catchType := 19 } [{ startPc := 0, endPc := 9, handlerPc := 15, catchType := 62 }] (htab.trans rfl) (fun z hz => nomatch hz) (by decide) (by decide) (hg _ k684) (XX_cIAE hX.1) hce9 hcv9 hcl9 ?_
      refine lv_astore_n (lv' := [(3, .ref q9), (0, .ref x), (1, .int p0), (2, .ref out)]) hx hb dL_forward_12 rfl hl (by decide) rfl (fun ls hl => ?_)
      refine lv_iconst (v := 1) hx hb dL_forward_13 (by decide) ?_
      subst hQ9
      exact t_i hx hb hr hlocks hT trivial dL_forward_14
    · skip
      refine vx_catch hown [{ startPc := 0, endPc := 9, handlerPc := 12, catchType := 19 }] { startPc := 0, endPc := 9, handlerPc := 15, catchType := 62 } [] (htab.trans rfl) (fun z hz => (List.mem_cons.mp hz).elim (fun e9 => by rw [e9]; exact Or.inr ⟨by decide, "java/lang/IllegalArgumentException", hg _ k684, XX_qISE_IAE hX.1⟩) (fun hz => nomatch hz)) (by decide) (by decide) (hg _ k984) (XX_cISE hX.1) hce9 hcv9 hcl9 ?_
      refine lv_astore_n (lv' := [(3, .ref q9), (0, .ref x), (1, .int p0), (2, .ref out)]) hx hb dL_forward_15 rfl hl (by decide) rfl (fun ls hl => ?_)
      refine lv_iconst (v := 2) hx hb dL_forward_16 (by decide) ?_
      subst hQ9
      exact t_i hx hb hr hlocks hT trivial dL_forward_17
  refine lv_i2l hx hb dL_forward_7 rfl ?_
  refine g_i2l (fun t3 ht3 => ?_)
  have hTo := hT
  refine tastl (n := 1) hx hb hK hT (hT.k t_out (by decide)) ⟨by decide, by decide⟩ (fun _ _ _ => rfl) (fun _ _ => trivial) (fun _ => rfl) (by omega) (by omega) dL_forward_8 (fun H locs s4 hus4 hT => ?_)
  refine lv_goto (tgt := 18) hx hb dL_forward_9 (by decide) ?_
  refine lv_iconst (v := 0) hx hb dL_forward_18 (by decide) ?_
  subst hQ9
  exact t_i hx hb hr hlocks hT.up trivial dL_forward_19
set_option maxHeartbeats 4000000 in
set_option maxRecDepth 100000 in
theorem L_lift (l : Launch) (κ : Kt) (σ0 : Gh) (x : Nat) (p0 : Int32) (out : Nat) (t_x : zk σ0 x 7) (t_out : zk σ0 out 24) (hlt : l.stackTraces = false) : TH l yL_lift cL_lift 4 [(0, 8, 11, 13), (0, 8, 14, 62)] 8 160 [.ref x, .int p0, .ref out] κ σ0 (tqi (kX κ) hfLr σ0 (fun (r : Int32) (τ : Gh) => True)) := by
  refine TH.of hfLr (by decide +kernel) (Nat.le_of_ble_eq_true rfl) ?_
  intro p e s m below meth c ls hcs htab hK hX hT hl
  obtain ⟨hx, hb, hr, hml, hown, hg, hlocks, hin⟩ := hcs
  have hown : s.vm.findClass RL = some m.cls := hown
  have hl : lv_has ls 4 [(0, .ref x), (1, .int p0), (2, .ref out)] := hl
  have hT0 := hT
  have n0 : (0 : Int32).toInt = 0 := by decide
  have n1 : (1 : Int32).toInt = 1 := by decide
  have n2 : (2 : Int32).toInt = 2 := by decide
  have p0_lo := Int32.le_toInt p0
  have p0_hi := Int32.toInt_lt p0
  generalize hQ9 : tQ _ _ _ _ _ _ = Q9
  refine lv_aload_n hx hb dL_lift_0 rfl (lv_at hl 2 rfl) ?_
  refine lv_iconst (v := 0) hx hb dL_lift_1 (by decide) ?_
  refine lv_aload_n hx hb dL_lift_2 rfl (lv_at hl 0 rfl) ?_
  refine lv_iload_n hx hb dL_lift_3 rfl (lv_at hl 1 rfl) ?_
  have hTo := hT
  refine xtVl (n := 1) (As := [.int p0]) (rest := [.int 0, .ref out]) hx hb hml hown hg hT hK hX (X5_lift l κ σ0 x p0  (hT.k t_x (by decide))  hlt) sub_fLr_hfLr (mwV k1035 k1036 k1037 k84 k1038) ⟨rfl, by decide, by decide, by decide +kernel⟩ ⟨(Nat.le_of_ble_eq_true rfl), (Nat.le_of_ble_eq_true rfl)⟩ (hT.o7 (hT.k t_x (by decide))) rfl rfl hl.1 rfl (Nat.le_of_ble_eq_true rfl) dL_lift_4 zroomX.rf (fun E9 ce9 q9 τ9 H9 locs9 hp9 hE9 hT9 hce9 hcv9 hcl9 => ?_) (fun x1 s2 H locs hφ hEs2 hT => ?_)
  · have hT := hT9
    rcases hp9 with rfl | rfl
    · skip
      refine vx_catch hown [] { startPc := 0, endPc := 8, handlerPc := 11, catchType := 13 } [{ startPc := 0, endPc := 8, handlerPc := 14, catchType := 62 }] (htab.trans rfl) (fun z hz => nomatch hz) (by decide) (by decide) (hg _ k605) (XX_cIOOBE hX.1) hce9 hcv9 hcl9 ?_
      refine lv_astore_n (lv' := [(3, .ref q9), (0, .ref x), (1, .int p0), (2, .ref out)]) hx hb dL_lift_11 rfl hl (by decide) rfl (fun ls hl => ?_)
      refine lv_iconst (v := 1) hx hb dL_lift_12 (by decide) ?_
      subst hQ9
      exact t_i hx hb hr hlocks hT trivial dL_lift_13
    · skip
      refine vx_catch hown [{ startPc := 0, endPc := 8, handlerPc := 11, catchType := 13 }] { startPc := 0, endPc := 8, handlerPc := 14, catchType := 62 } [] (htab.trans rfl) (fun z hz => (List.mem_cons.mp hz).elim (fun e9 => by rw [e9]; exact Or.inr ⟨by decide, "java/lang/IndexOutOfBoundsException", hg _ k605, XX_qISE_IOOBE hX.1⟩) (fun hz => nomatch hz)) (by decide) (by decide) (hg _ k984) (XX_cISE hX.1) hce9 hcv9 hcl9 ?_
      refine lv_astore_n (lv' := [(3, .ref q9), (0, .ref x), (1, .int p0), (2, .ref out)]) hx hb dL_lift_14 rfl hl (by decide) rfl (fun ls hl => ?_)
      refine lv_iconst (v := 2) hx hb dL_lift_15 (by decide) ?_
      subst hQ9
      exact t_i hx hb hr hlocks hT trivial dL_lift_16
  have hTo := hT
  refine tastl (n := 1) hx hb hK hT (hT.k t_out (by decide)) ⟨by decide, by decide⟩ (fun _ _ _ => rfl) (fun _ _ => trivial) (fun _ => rfl) (by omega) (by omega) dL_lift_7 (fun H locs s3 hus3 hT => ?_)
  refine lv_goto (tgt := 17) hx hb dL_lift_8 (by decide) ?_
  refine lv_iconst (v := 0) hx hb dL_lift_17 (by decide) ?_
  subst hQ9
  exact t_i hx hb hr hlocks hT.up trivial dL_lift_18
set_option maxHeartbeats 4000000 in
set_option maxRecDepth 100000 in
theorem L_inverse (l : Launch) (κ : Kt) (σ0 : Gh) (x : Nat) (p0 : Int32) (out : Nat) (t_x : zk σ0 x 7) (t_out : zk σ0 out 24) (hlt : l.stackTraces = false) : TH l yL_inverse cL_inverse 4 [(0, 9, 12, 19), (0, 9, 15, 62)] 8 179 [.ref x, .int p0, .ref out] κ σ0 (tqi (kX κ) hfLr σ0 (fun (r : Int32) (τ : Gh) => True)) := by
  refine TH.of hfLr (by decide +kernel) (Nat.le_of_ble_eq_true rfl) ?_
  intro p e s m below meth c ls hcs htab hK hX hT hl
  obtain ⟨hx, hb, hr, hml, hown, hg, hlocks, hin⟩ := hcs
  have hown : s.vm.findClass RL = some m.cls := hown
  have hl : lv_has ls 4 [(0, .ref x), (1, .int p0), (2, .ref out)] := hl
  have hT0 := hT
  have n0 : (0 : Int32).toInt = 0 := by decide
  have n1 : (1 : Int32).toInt = 1 := by decide
  have n2 : (2 : Int32).toInt = 2 := by decide
  have p0_lo := Int32.le_toInt p0
  have p0_hi := Int32.toInt_lt p0
  generalize hQ9 : tQ _ _ _ _ _ _ = Q9
  refine lv_aload_n hx hb dL_inverse_0 rfl (lv_at hl 2 rfl) ?_
  refine lv_iconst (v := 0) hx hb dL_inverse_1 (by decide) ?_
  refine lv_aload_n hx hb dL_inverse_2 rfl (lv_at hl 0 rfl) ?_
  refine lv_iload_n hx hb dL_inverse_3 rfl (lv_at hl 1 rfl) ?_
  have hTo := hT
  refine xtVi (n := 1) (As := [.int p0]) (rest := [.int 0, .ref out]) hx hb hml hown hg hT hK hX (X5_inverse l κ σ0 x p0  (hT.k t_x (by decide))  hlt) sub_fLr_hfLr (mwV k1043 k1044 k1045 k84 k1046) ⟨rfl, by decide, by decide, by decide +kernel⟩ ⟨(Nat.le_of_ble_eq_true rfl), (Nat.le_of_ble_eq_true rfl)⟩ (hT.o7 (hT.k t_x (by decide))) rfl rfl hl.1 rfl (Nat.le_of_ble_eq_true rfl) dL_inverse_4 zroomX.rf (fun E9 ce9 q9 τ9 H9 locs9 hp9 hE9 hT9 hce9 hcv9 hcl9 => ?_) (fun x1 s2 H locs hφ hEs2 hT => ?_)
  · have hT := hT9
    rcases hp9 with rfl | rfl
    · skip
      refine vx_catch hown [] { startPc := 0, endPc := 9, handlerPc := 12, catchType := 19 } [{ startPc := 0, endPc := 9, handlerPc := 15, catchType := 62 }] (htab.trans rfl) (fun z hz => nomatch hz) (by decide) (by decide) (hg _ k684) (XX_cIAE hX.1) hce9 hcv9 hcl9 ?_
      refine lv_astore_n (lv' := [(3, .ref q9), (0, .ref x), (1, .int p0), (2, .ref out)]) hx hb dL_inverse_12 rfl hl (by decide) rfl (fun ls hl => ?_)
      refine lv_iconst (v := 1) hx hb dL_inverse_13 (by decide) ?_
      subst hQ9
      exact t_i hx hb hr hlocks hT trivial dL_inverse_14
    · skip
      refine vx_catch hown [{ startPc := 0, endPc := 9, handlerPc := 12, catchType := 19 }] { startPc := 0, endPc := 9, handlerPc := 15, catchType := 62 } [] (htab.trans rfl) (fun z hz => (List.mem_cons.mp hz).elim (fun e9 => by rw [e9]; exact Or.inr ⟨by decide, "java/lang/IllegalArgumentException", hg _ k684, XX_qISE_IAE hX.1⟩) (fun hz => nomatch hz)) (by decide) (by decide) (hg _ k984) (XX_cISE hX.1) hce9 hcv9 hcl9 ?_
      refine lv_astore_n (lv' := [(3, .ref q9), (0, .ref x), (1, .int p0), (2, .ref out)]) hx hb dL_inverse_15 rfl hl (by decide) rfl (fun ls hl => ?_)
      refine lv_iconst (v := 2) hx hb dL_inverse_16 (by decide) ?_
      subst hQ9
      exact t_i hx hb hr hlocks hT trivial dL_inverse_17
  refine lv_i2l hx hb dL_inverse_7 rfl ?_
  refine g_i2l (fun t3 ht3 => ?_)
  have hTo := hT
  refine tastl (n := 1) hx hb hK hT (hT.k t_out (by decide)) ⟨by decide, by decide⟩ (fun _ _ _ => rfl) (fun _ _ => trivial) (fun _ => rfl) (by omega) (by omega) dL_inverse_8 (fun H locs s4 hus4 hT => ?_)
  refine lv_goto (tgt := 18) hx hb dL_inverse_9 (by decide) ?_
  refine lv_iconst (v := 0) hx hb dL_inverse_18 (by decide) ?_
  subst hQ9
  exact t_i hx hb hr hlocks hT.up trivial dL_inverse_19
set_option maxHeartbeats 4000000 in
set_option maxRecDepth 100000 in
theorem L_setDetail (l : Launch) (κ : Kt) (σ0 : Gh) (x : Nat) (p0 : Int32) (p1 : Int32) (out : Nat) (t_x : zk σ0 x 7) (t_out : zk σ0 out 24) (hlt : l.stackTraces = false) : TH l yL_setDetail cL_setDetail 5 [(0, 9, 12, 13), (0, 9, 16, 19)] 8 136 [.ref x, .int p0, .int p1, .ref out] κ σ0 (tqi (kX κ) hfW σ0 (fun (r : Int32) (τ : Gh) => True)) := by
  refine TH.of hfW (by decide +kernel) (Nat.le_of_ble_eq_true rfl) ?_
  intro p e s m below meth c ls hcs htab hK hX hT hl
  obtain ⟨hx, hb, hr, hml, hown, hg, hlocks, hin⟩ := hcs
  have hown : s.vm.findClass RL = some m.cls := hown
  have hl : lv_has ls 5 [(0, .ref x), (1, .int p0), (2, .int p1), (3, .ref out)] := hl
  have hT0 := hT
  have n0 : (0 : Int32).toInt = 0 := by decide
  have n1 : (1 : Int32).toInt = 1 := by decide
  have n2 : (2 : Int32).toInt = 2 := by decide
  have p0_lo := Int32.le_toInt p0
  have p0_hi := Int32.toInt_lt p0
  have p1_lo := Int32.le_toInt p1
  have p1_hi := Int32.toInt_lt p1
  generalize hQ9 : tQ _ _ _ _ _ _ = Q9
  refine lv_aload_n hx hb dL_setDetail_0 rfl (lv_at hl 3 rfl) ?_
  refine lv_iconst (v := 0) hx hb dL_setDetail_1 (by decide) ?_
  refine lv_aload_n hx hb dL_setDetail_2 rfl (lv_at hl 0 rfl) ?_
  refine lv_iload_n hx hb dL_setDetail_3 rfl (lv_at hl 1 rfl) ?_
  refine lv_iload_n hx hb dL_setDetail_4 rfl (lv_at hl 2 rfl) ?_
  have hTo := hT
  refine xtVl (n := 2) (As := [.int p0, .int p1]) (rest := [.int 0, .ref out]) hx hb hml hown hg hT hK hX (X5_setDetail l κ σ0 x p0 p1  (hT.k t_x (by decide))  hlt) sub_fW_hfW (mwV k1058 k1059 k1060 k84 k1061) ⟨rfl, by decide, by decide, by decide +kernel⟩ ⟨(Nat.le_of_ble_eq_true rfl), (Nat.le_of_ble_eq_true rfl)⟩ (hT.o7 (hT.k t_x (by decide))) rfl rfl hl.1 rfl (Nat.le_of_ble_eq_true rfl) dL_setDetail_5 zroomX.rf (fun E9 ce9 q9 τ9 H9 locs9 hp9 hE9 hT9 hce9 hcv9 hcl9 => ?_) (fun x1 s2 H locs hφ hEs2 hT => ?_)
  · have hT := hT9
    rcases hp9 with rfl | rfl
    · skip
      refine vx_catch hown [] { startPc := 0, endPc := 9, handlerPc := 12, catchType := 13 } [{ startPc := 0, endPc := 9, handlerPc := 16, catchType := 19 }] (htab.trans rfl) (fun z hz => nomatch hz) (by decide) (by decide) (hg _ k605) (XX_cIOOBE hX.1) hce9 hcv9 hcl9 ?_
      refine lv_astore (lv' := [(4, .ref q9), (0, .ref x), (1, .int p0), (2, .int p1), (3, .ref out)]) hx hb dL_setDetail_12 hl (by decide) rfl (fun ls hl => ?_)
      refine lv_iconst (v := 1) hx hb dL_setDetail_14 (by decide) ?_
      subst hQ9
      exact t_i hx hb hr hlocks hT trivial dL_setDetail_15
    · skip
      refine vx_catch hown [{ startPc := 0, endPc := 9, handlerPc := 12, catchType := 13 }] { startPc := 0, endPc := 9, handlerPc := 16, catchType := 19 } [] (htab.trans rfl) (fun z hz => (List.mem_cons.mp hz).elim (fun e9 => by rw [e9]; exact Or.inr ⟨by decide, "java/lang/IndexOutOfBoundsException", hg _ k605, XX_qIAE_IOOBE hX.1⟩) (fun hz => nomatch hz)) (by decide) (by decide) (hg _ k684) (XX_cIAE hX.1) hce9 hcv9 hcl9 ?_
      refine lv_astore (lv' := [(4, .ref q9), (0, .ref x), (1, .int p0), (2, .int p1), (3, .ref out)]) hx hb dL_setDetail_16 hl (by decide) rfl (fun ls hl => ?_)
      refine lv_iconst (v := 2) hx hb dL_setDetail_18 (by decide) ?_
      subst hQ9
      exact t_i hx hb hr hlocks hT trivial dL_setDetail_19
  have hTo := hT
  refine tastl (n := 1) hx hb hK hT (hT.k t_out (by decide)) ⟨by decide, by decide⟩ (fun _ _ _ => rfl) (fun _ _ => trivial) (fun _ => rfl) (by omega) (by omega) dL_setDetail_8 (fun H locs s3 hus3 hT => ?_)
  refine lv_goto (tgt := 20) hx hb dL_setDetail_9 (by decide) ?_
  refine lv_iconst (v := 0) hx hb dL_setDetail_20 (by decide) ?_
  subst hQ9
  exact t_i hx hb hr hlocks hT.up trivial dL_setDetail_21
set_option maxHeartbeats 4000000 in
set_option maxRecDepth 100000 in
theorem L_threshold (l : Launch) (κ : Kt) (σ0 : Gh) (x : Nat) (p0 : Int32) (p1 : Int32) (out : Nat) (t_x : zk σ0 x 7) (t_out : zk σ0 out 24) (b_p1 : isB p1) (hlt : l.stackTraces = false) : TH l yL_threshold cL_threshold 5 [(0, 10, 13, 19)] 8 135 [.ref x, .int p0, .int p1, .ref out] κ σ0 (tqi (kX κ) hfW σ0 (fun (r : Int32) (τ : Gh) => True)) := by
  refine TH.of hfW (by decide +kernel) (Nat.le_of_ble_eq_true rfl) ?_
  intro p e s m below meth c ls hcs htab hK hX hT hl
  obtain ⟨hx, hb, hr, hml, hown, hg, hlocks, hin⟩ := hcs
  have hown : s.vm.findClass RL = some m.cls := hown
  have hl : lv_has ls 5 [(0, .ref x), (1, .int p0), (2, .int p1), (3, .ref out)] := hl
  have hT0 := hT
  have n0 : (0 : Int32).toInt = 0 := by decide
  have n1 : (1 : Int32).toInt = 1 := by decide
  have p0_lo := Int32.le_toInt p0
  have p0_hi := Int32.toInt_lt p0
  generalize hQ9 : tQ _ _ _ _ _ _ = Q9
  refine lv_aload_n hx hb dL_threshold_0 rfl (lv_at hl 3 rfl) ?_
  refine lv_iconst (v := 0) hx hb dL_threshold_1 (by decide) ?_
  refine lv_aload_n hx hb dL_threshold_2 rfl (lv_at hl 0 rfl) ?_
  refine lv_iload_n hx hb dL_threshold_3 rfl (lv_at hl 1 rfl) ?_
  refine lv_iload_n hx hb dL_threshold_4 rfl (lv_at hl 2 rfl) ?_
  have hTo := hT
  refine xtVi (n := 2) (As := [.int p0, .int p1]) (rest := [.int 0, .ref out]) hx hb hml hown hg hT hK hX (X5_threshold l κ σ0 x p0 p1  (hT.k t_x (by decide)) b_p1  hlt) sub_fW_hfW (mwV k1068 k1069 k1070 k84 k1071) ⟨rfl, by decide, by decide, by decide +kernel⟩ ⟨(Nat.le_of_ble_eq_true rfl), (Nat.le_of_ble_eq_true rfl)⟩ (hT.o7 (hT.k t_x (by decide))) rfl rfl hl.1 rfl (Nat.le_of_ble_eq_true rfl) dL_threshold_5 zroomX.rf (fun E9 ce9 q9 τ9 H9 locs9 hp9 hE9 hT9 hce9 hcv9 hcl9 => ?_) (fun x1 s2 H locs hφ hEs2 hT => ?_)
  · have hT := hT9
    subst hp9
    refine vx_catch hown [] { startPc := 0, endPc := 10, handlerPc := 13, catchType := 19 } [] (htab.trans rfl) (fun z hz => nomatch hz) (by decide) (by decide) (hg _ k684) (XX_cIAE hX.1) hce9 hcv9 hcl9 ?_
    refine lv_astore (lv' := [(4, .ref q9), (0, .ref x), (1, .int p0), (2, .int p1), (3, .ref out)]) hx hb dL_threshold_13 hl (by decide) rfl (fun ls hl => ?_)
    refine lv_iconst (v := 1) hx hb dL_threshold_15 (by decide) ?_
    subst hQ9
    exact t_i hx hb hr hlocks hT trivial dL_threshold_16
  refine lv_i2l hx hb dL_threshold_8 rfl ?_
  refine g_i2l (fun t3 ht3 => ?_)
  have hTo := hT
  refine tastl (n := 1) hx hb hK hT (hT.k t_out (by decide)) ⟨by decide, by decide⟩ (fun _ _ _ => rfl) (fun _ _ => trivial) (fun _ => rfl) (by omega) (by omega) dL_threshold_9 (fun H locs s4 hus4 hT => ?_)
  refine lv_goto (tgt := 17) hx hb dL_threshold_10 (by decide) ?_
  refine lv_iconst (v := 0) hx hb dL_threshold_17 (by decide) ?_
  subst hQ9
  exact t_i hx hb hr hlocks hT.up trivial dL_threshold_18
set_option maxHeartbeats 4000000 in
set_option maxRecDepth 100000 in
theorem L_quantize (l : Launch) (κ : Kt) (σ0 : Gh) (x : Nat) (p0 : Int32) (out : Nat) (t_x : zk σ0 x 7) (t_out : zk σ0 out 24) (hlt : l.stackTraces = false) : TH l yL_quantize cL_quantize 4 [(0, 8, 11, 19)] 8 139 [.ref x, .int p0, .ref out] κ σ0 (tqi (kX κ) hfW σ0 (fun (r : Int32) (τ : Gh) => True)) := by
  refine TH.of hfW (by decide +kernel) (Nat.le_of_ble_eq_true rfl) ?_
  intro p e s m below meth c ls hcs htab hK hX hT hl
  obtain ⟨hx, hb, hr, hml, hown, hg, hlocks, hin⟩ := hcs
  have hown : s.vm.findClass RL = some m.cls := hown
  have hl : lv_has ls 4 [(0, .ref x), (1, .int p0), (2, .ref out)] := hl
  have hT0 := hT
  have n0 : (0 : Int32).toInt = 0 := by decide
  have n1 : (1 : Int32).toInt = 1 := by decide
  have p0_lo := Int32.le_toInt p0
  have p0_hi := Int32.toInt_lt p0
  generalize hQ9 : tQ _ _ _ _ _ _ = Q9
  refine lv_aload_n hx hb dL_quantize_0 rfl (lv_at hl 2 rfl) ?_
  refine lv_iconst (v := 0) hx hb dL_quantize_1 (by decide) ?_
  refine lv_aload_n hx hb dL_quantize_2 rfl (lv_at hl 0 rfl) ?_
  refine lv_iload_n hx hb dL_quantize_3 rfl (lv_at hl 1 rfl) ?_
  have hTo := hT
  refine xtVl (n := 1) (As := [.int p0]) (rest := [.int 0, .ref out]) hx hb hml hown hg hT hK hX (X5_quantize l κ σ0 x p0  (hT.k t_x (by decide))  hlt) sub_fW_hfW (mwV k1087 k1088 k1089 k84 k1090) ⟨rfl, by decide, by decide, by decide +kernel⟩ ⟨(Nat.le_of_ble_eq_true rfl), (Nat.le_of_ble_eq_true rfl)⟩ (hT.o7 (hT.k t_x (by decide))) rfl rfl hl.1 rfl (Nat.le_of_ble_eq_true rfl) dL_quantize_4 zroomX.rf (fun E9 ce9 q9 τ9 H9 locs9 hp9 hE9 hT9 hce9 hcv9 hcl9 => ?_) (fun x1 s2 H locs hφ hEs2 hT => ?_)
  · have hT := hT9
    subst hp9
    refine vx_catch hown [] { startPc := 0, endPc := 8, handlerPc := 11, catchType := 19 } [] (htab.trans rfl) (fun z hz => nomatch hz) (by decide) (by decide) (hg _ k684) (XX_cIAE hX.1) hce9 hcv9 hcl9 ?_
    refine lv_astore_n (lv' := [(3, .ref q9), (0, .ref x), (1, .int p0), (2, .ref out)]) hx hb dL_quantize_11 rfl hl (by decide) rfl (fun ls hl => ?_)
    refine lv_iconst (v := 1) hx hb dL_quantize_12 (by decide) ?_
    subst hQ9
    exact t_i hx hb hr hlocks hT trivial dL_quantize_13
  have hTo := hT
  refine tastl (n := 1) hx hb hK hT (hT.k t_out (by decide)) ⟨by decide, by decide⟩ (fun _ _ _ => rfl) (fun _ _ => trivial) (fun _ => rfl) (by omega) (by omega) dL_quantize_7 (fun H locs s3 hus3 hT => ?_)
  refine lv_goto (tgt := 14) hx hb dL_quantize_8 (by decide) ?_
  refine lv_iconst (v := 0) hx hb dL_quantize_14 (by decide) ?_
  subst hQ9
  exact t_i hx hb hr hlocks hT.up trivial dL_quantize_15
set_option maxHeartbeats 4000000 in
set_option maxRecDepth 100000 in
theorem L_keepLargest (l : Launch) (κ : Kt) (σ0 : Gh) (x : Nat) (p0 : Int32) (out : Nat) (t_x : zk σ0 x 7) (t_out : zk σ0 out 24) (hlt : l.stackTraces = false) : TH l yL_keepLargest cL_keepLargest 4 [(0, 8, 11, 19)] 8 133 [.ref x, .int p0, .ref out] κ σ0 (tqi (kX κ) hfW σ0 (fun (r : Int32) (τ : Gh) => True)) := by
  refine TH.of hfW (by decide +kernel) (Nat.le_of_ble_eq_true rfl) ?_
  intro p e s m below meth c ls hcs htab hK hX hT hl
  obtain ⟨hx, hb, hr, hml, hown, hg, hlocks, hin⟩ := hcs
  have hown : s.vm.findClass RL = some m.cls := hown
  have hl : lv_has ls 4 [(0, .ref x), (1, .int p0), (2, .ref out)] := hl
  have hT0 := hT
  have n0 : (0 : Int32).toInt = 0 := by decide
  have n1 : (1 : Int32).toInt = 1 := by decide
  have p0_lo := Int32.le_toInt p0
  have p0_hi := Int32.toInt_lt p0
  generalize hQ9 : tQ _ _ _ _ _ _ = Q9
  refine lv_aload_n hx hb dL_keepLargest_0 rfl (lv_at hl 2 rfl) ?_
  refine lv_iconst (v := 0) hx hb dL_keepLargest_1 (by decide) ?_
  refine lv_aload_n hx hb dL_keepLargest_2 rfl (lv_at hl 0 rfl) ?_
  refine lv_iload_n hx hb dL_keepLargest_3 rfl (lv_at hl 1 rfl) ?_
  have hTo := hT
  refine xtVl (n := 1) (As := [.int p0]) (rest := [.int 0, .ref out]) hx hb hml hown hg hT hK hX (X5_keepLargest l κ σ0 x p0  (hT.k t_x (by decide))  hlt) sub_fW_hfW (mwV k1103 k1104 k1105 k84 k1106) ⟨rfl, by decide, by decide, by decide +kernel⟩ ⟨(Nat.le_of_ble_eq_true rfl), (Nat.le_of_ble_eq_true rfl)⟩ (hT.o7 (hT.k t_x (by decide))) rfl rfl hl.1 rfl (Nat.le_of_ble_eq_true rfl) dL_keepLargest_4 zroomX.rf (fun E9 ce9 q9 τ9 H9 locs9 hp9 hE9 hT9 hce9 hcv9 hcl9 => ?_) (fun x1 s2 H locs hφ hEs2 hT => ?_)
  · have hT := hT9
    subst hp9
    refine vx_catch hown [] { startPc := 0, endPc := 8, handlerPc := 11, catchType := 19 } [] (htab.trans rfl) (fun z hz => nomatch hz) (by decide) (by decide) (hg _ k684) (XX_cIAE hX.1) hce9 hcv9 hcl9 ?_
    refine lv_astore_n (lv' := [(3, .ref q9), (0, .ref x), (1, .int p0), (2, .ref out)]) hx hb dL_keepLargest_11 rfl hl (by decide) rfl (fun ls hl => ?_)
    refine lv_iconst (v := 1) hx hb dL_keepLargest_12 (by decide) ?_
    subst hQ9
    exact t_i hx hb hr hlocks hT trivial dL_keepLargest_13
  have hTo := hT
  refine tastl (n := 1) hx hb hK hT (hT.k t_out (by decide)) ⟨by decide, by decide⟩ (fun _ _ _ => rfl) (fun _ _ => trivial) (fun _ => rfl) (by omega) (by omega) dL_keepLargest_7 (fun H locs s3 hus3 hT => ?_)
  refine lv_goto (tgt := 14) hx hb dL_keepLargest_8 (by decide) ?_
  refine lv_iconst (v := 0) hx hb dL_keepLargest_14 (by decide) ?_
  subst hQ9
  exact t_i hx hb hr hlocks hT.up trivial dL_keepLargest_15
set_option maxHeartbeats 4000000 in
set_option maxRecDepth 100000 in
theorem L_error (l : Launch) (κ : Kt) (σ0 : Gh) (x : Nat) (p0 : Int32) (out : Nat) (t_x : zk σ0 x 7) (t_out : zk σ0 out 24) (hlt : l.stackTraces = false) : TH l yL_error cL_error 4 [(0, 8, 11, 19)] 8 179 [.ref x, .int p0, .ref out] κ σ0 (tqi (kX κ) hfCp σ0 (fun (r : Int32) (τ : Gh) => (∀ a : Nat, a ≠ (kR κ x 4) → zk σ0 a 3 → zI τ a 7 = zI σ0 a 7 ∧ zI τ a 8 = zI σ0 a 8 ∧ zI τ a 9 = zI σ0 a 9))) := by
  refine TH.of hfCp (by decide +kernel) (Nat.le_of_ble_eq_true rfl) ?_
  intro p e s m below meth c ls hcs htab hK hX hT hl
  obtain ⟨hx, hb, hr, hml, hown, hg, hlocks, hin⟩ := hcs
  have hown : s.vm.findClass RL = some m.cls := hown
  have hl : lv_has ls 4 [(0, .ref x), (1, .int p0), (2, .ref out)] := hl
  have hT0 := hT
  have n0 : (0 : Int32).toInt = 0 := by decide
  have n1 : (1 : Int32).toInt = 1 := by decide
  have p0_lo := Int32.le_toInt p0
  have p0_hi := Int32.toInt_lt p0
  generalize hQ9 : tQ _ _ _ _ _ _ = Q9
  refine lv_aload_n hx hb dL_error_0 rfl (lv_at hl 2 rfl) ?_
  refine lv_iconst (v := 0) hx hb dL_error_1 (by decide) ?_
  refine lv_aload_n hx hb dL_error_2 rfl (lv_at hl 0 rfl) ?_
  refine lv_iload_n hx hb dL_error_3 rfl (lv_at hl 1 rfl) ?_
  have hTo := hT
  refine xtVl (n := 1) (As := [.int p0]) (rest := [.int 0, .ref out]) hx hb hml hown hg hT hK hX (X5t_error l κ σ0 x p0  (hT.k t_x (by decide))  hlt) sub_fCp_hfCp (mwV k1119 k1120 k1121 k84 k1122) ⟨rfl, by decide, by decide, by decide +kernel⟩ ⟨(Nat.le_of_ble_eq_true rfl), (Nat.le_of_ble_eq_true rfl)⟩ (hT.o7 (hT.k t_x (by decide))) rfl rfl hl.1 rfl (Nat.le_of_ble_eq_true rfl) dL_error_4 zroomX.rf (fun E9 ce9 q9 τ9 H9 locs9 hp9 hE9 hT9 hce9 hcv9 hcl9 => ?_) (fun x1 s2 H locs hφ hEs2 hT => ?_)
  · have hT := hT9
    obtain ⟨rfl, hp9⟩ := hp9
    refine vx_catch hown [] { startPc := 0, endPc := 8, handlerPc := 11, catchType := 19 } [] (htab.trans rfl) (fun z hz => nomatch hz) (by decide) (by decide) (hg _ k684) (XX_cIAE hX.1) hce9 hcv9 hcl9 ?_
    refine lv_astore_n (lv' := [(3, .ref q9), (0, .ref x), (1, .int p0), (2, .ref out)]) hx hb dL_error_11 rfl hl (by decide) rfl (fun ls hl => ?_)
    refine lv_iconst (v := 1) hx hb dL_error_12 (by decide) ?_
    subst hQ9
    exact t_i hx hb hr hlocks hT (fun a _ hk => hp9 a hk) dL_error_13
  have f3 := hφ
  have fr4 : ∀ a : Nat, a ≠ (kR κ x 4) → zk σ0 a 3 → zI s2 a 7 = zI σ0 a 7 ∧ zI s2 a 8 = zI σ0 a 8 ∧ zI s2 a 9 = zI σ0 a 9 := fun a ha hk => ⟨(f3 a ha (hTo.k hk (by decide))).1.trans ((show ∀ a : Nat, a ≠ (kR κ x 4) → zk σ0 a 3 → zI σ0 a 7 = zI σ0 a 7 ∧ zI σ0 a 8 = zI σ0 a 8 ∧ zI σ0 a 9 = zI σ0 a 9 from fun _ _ _ => ⟨rfl, rfl, rfl⟩) a ha hk).1, (f3 a ha (hTo.k hk (by decide))).2.1.trans ((show ∀ a : Nat, a ≠ (kR κ x 4) → zk σ0 a 3 → zI σ0 a 7 = zI σ0 a 7 ∧ zI σ0 a 8 = zI σ0 a 8 ∧ zI σ0 a 9 = zI σ0 a 9 from fun _ _ _ => ⟨rfl, rfl, rfl⟩) a ha hk).2.1, (f3 a ha (hTo.k hk (by decide))).2.2.trans ((show ∀ a : Nat, a ≠ (kR κ x 4) → zk σ0 a 3 → zI σ0 a 7 = zI σ0 a 7 ∧ zI σ0 a 8 = zI σ0 a 8 ∧ zI σ0 a 9 = zI σ0 a 9 from fun _ _ _ => ⟨rfl, rfl, rfl⟩) a ha hk).2.2⟩
  have hTo := hT
  refine tastl (n := 1) hx hb hK hT (hT.k t_out (by decide)) ⟨by decide, by decide⟩ (fun _ _ _ => rfl) (fun _ _ => trivial) (fun _ => rfl) (by omega) (by omega) dL_error_7 (fun H locs s5 hus5 hT => ?_)
  have fr6 : ∀ a : Nat, a ≠ (kR κ x 4) → zk σ0 a 3 → zI s5 a 7 = zI σ0 a 7 ∧ zI s5 a 8 = zI σ0 a 8 ∧ zI s5 a 9 = zI σ0 a 9 := fun a ha hk => ⟨((by rw [zpul_I hus5] : zI s5 a 7 = zI s2 a 7)).trans (fr4 a ha hk).1, ((by rw [zpul_I hus5] : zI s5 a 8 = zI s2 a 8)).trans (fr4 a ha hk).2.1, ((by rw [zpul_I hus5] : zI s5 a 9 = zI s2 a 9)).trans (fr4 a ha hk).2.2⟩
  refine lv_goto (tgt := 14) hx hb dL_error_8 (by decide) ?_
  refine lv_iconst (v := 0) hx hb dL_error_14 (by decide) ?_
  subst hQ9
  exact t_i hx hb hr hlocks hT.up fr6 dL_error_15
set_option maxHeartbeats 4000000 in
set_option maxRecDepth 100000 in
theorem L_errorWith (l : Launch) (κ : Kt) (σ0 : Gh) (x : Nat) (p0 : Int32) (p1 : Int32) (out : Nat) (t_x : zk σ0 x 7) (t_out : zk σ0 out 24) (b_p1 : isB p1) (hlt : l.stackTraces = false) : TH l yL_errorWith cL_errorWith 5 [(0, 9, 12, 19)] 8 202 [.ref x, .int p0, .int p1, .ref out] κ σ0 (tqi (kX κ) hfCp σ0 (fun (r : Int32) (τ : Gh) => (∀ a : Nat, a ≠ (kR κ x 4) → zk σ0 a 3 → zI τ a 7 = zI σ0 a 7 ∧ zI τ a 8 = zI σ0 a 8 ∧ zI τ a 9 = zI σ0 a 9))) := by
  refine TH.of hfCp (by decide +kernel) (Nat.le_of_ble_eq_true rfl) ?_
  intro p e s m below meth c ls hcs htab hK hX hT hl
  obtain ⟨hx, hb, hr, hml, hown, hg, hlocks, hin⟩ := hcs
  have hown : s.vm.findClass RL = some m.cls := hown
  have hl : lv_has ls 5 [(0, .ref x), (1, .int p0), (2, .int p1), (3, .ref out)] := hl
  have hT0 := hT
  have n0 : (0 : Int32).toInt = 0 := by decide
  have n1 : (1 : Int32).toInt = 1 := by decide
  have p0_lo := Int32.le_toInt p0
  have p0_hi := Int32.toInt_lt p0
  generalize hQ9 : tQ _ _ _ _ _ _ = Q9
  refine lv_aload_n hx hb dL_errorWith_0 rfl (lv_at hl 3 rfl) ?_
  refine lv_iconst (v := 0) hx hb dL_errorWith_1 (by decide) ?_
  refine lv_aload_n hx hb dL_errorWith_2 rfl (lv_at hl 0 rfl) ?_
  refine lv_iload_n hx hb dL_errorWith_3 rfl (lv_at hl 1 rfl) ?_
  refine lv_iload_n hx hb dL_errorWith_4 rfl (lv_at hl 2 rfl) ?_
  have hTo := hT
  refine xtVl (n := 2) (As := [.int p0, .int p1]) (rest := [.int 0, .ref out]) hx hb hml hown hg hT hK hX (X5t_errorWith l κ σ0 x p0 p1  (hT.k t_x (by decide)) b_p1  hlt) sub_fCp_hfCp (mwV k1152 k1153 k1154 k84 k1155) ⟨rfl, by decide, by decide, by decide +kernel⟩ ⟨(Nat.le_of_ble_eq_true rfl), (Nat.le_of_ble_eq_true rfl)⟩ (hT.o7 (hT.k t_x (by decide))) rfl rfl hl.1 rfl (Nat.le_of_ble_eq_true rfl) dL_errorWith_5 zroomX.rf (fun E9 ce9 q9 τ9 H9 locs9 hp9 hE9 hT9 hce9 hcv9 hcl9 => ?_) (fun x1 s2 H locs hφ hEs2 hT => ?_)
  · have hT := hT9
    obtain ⟨rfl, hp9⟩ := hp9
    refine vx_catch hown [] { startPc := 0, endPc := 9, handlerPc := 12, catchType := 19 } [] (htab.trans rfl) (fun z hz => nomatch hz) (by decide) (by decide) (hg _ k684) (XX_cIAE hX.1) hce9 hcv9 hcl9 ?_
    refine lv_astore (lv' := [(4, .ref q9), (0, .ref x), (1, .int p0), (2, .int p1), (3, .ref out)]) hx hb dL_errorWith_12 hl (by decide) rfl (fun ls hl => ?_)
    refine lv_iconst (v := 1) hx hb dL_errorWith_14 (by decide) ?_
    subst hQ9
    exact t_i hx hb hr hlocks hT (fun a _ hk => hp9 a hk) dL_errorWith_15
  have f3 := hφ
  have fr4 : ∀ a : Nat, a ≠ (kR κ x 4) → zk σ0 a 3 → zI s2 a 7 = zI σ0 a 7 ∧ zI s2 a 8 = zI σ0 a 8 ∧ zI s2 a 9 = zI σ0 a 9 := fun a ha hk => ⟨(f3 a ha (hTo.k hk (by decide))).1.trans ((show ∀ a : Nat, a ≠ (kR κ x 4) → zk σ0 a 3 → zI σ0 a 7 = zI σ0 a 7 ∧ zI σ0 a 8 = zI σ0 a 8 ∧ zI σ0 a 9 = zI σ0 a 9 from fun _ _ _ => ⟨rfl, rfl, rfl⟩) a ha hk).1, (f3 a ha (hTo.k hk (by decide))).2.1.trans ((show ∀ a : Nat, a ≠ (kR κ x 4) → zk σ0 a 3 → zI σ0 a 7 = zI σ0 a 7 ∧ zI σ0 a 8 = zI σ0 a 8 ∧ zI σ0 a 9 = zI σ0 a 9 from fun _ _ _ => ⟨rfl, rfl, rfl⟩) a ha hk).2.1, (f3 a ha (hTo.k hk (by decide))).2.2.trans ((show ∀ a : Nat, a ≠ (kR κ x 4) → zk σ0 a 3 → zI σ0 a 7 = zI σ0 a 7 ∧ zI σ0 a 8 = zI σ0 a 8 ∧ zI σ0 a 9 = zI σ0 a 9 from fun _ _ _ => ⟨rfl, rfl, rfl⟩) a ha hk).2.2⟩
  have hTo := hT
  refine tastl (n := 1) hx hb hK hT (hT.k t_out (by decide)) ⟨by decide, by decide⟩ (fun _ _ _ => rfl) (fun _ _ => trivial) (fun _ => rfl) (by omega) (by omega) dL_errorWith_8 (fun H locs s5 hus5 hT => ?_)
  have fr6 : ∀ a : Nat, a ≠ (kR κ x 4) → zk σ0 a 3 → zI s5 a 7 = zI σ0 a 7 ∧ zI s5 a 8 = zI σ0 a 8 ∧ zI s5 a 9 = zI σ0 a 9 := fun a ha hk => ⟨((by rw [zpul_I hus5] : zI s5 a 7 = zI s2 a 7)).trans (fr4 a ha hk).1, ((by rw [zpul_I hus5] : zI s5 a 8 = zI s2 a 8)).trans (fr4 a ha hk).2.1, ((by rw [zpul_I hus5] : zI s5 a 9 = zI s2 a 9)).trans (fr4 a ha hk).2.2⟩
  refine lv_goto (tgt := 16) hx hb dL_errorWith_9 (by decide) ?_
  refine lv_iconst (v := 0) hx hb dL_errorWith_16 (by decide) ?_
  subst hQ9
  exact t_i hx hb hr hlocks hT.up fr6 dL_errorWith_17
set_option maxHeartbeats 4000000 in
set_option maxRecDepth 100000 in
theorem L_bestThreshold (l : Launch) (κ : Kt) (σ0 : Gh) (x : Nat) (p0 : Int32) (out : Nat) (t_x : zk σ0 x 7) (t_out : zk σ0 out 24) (hlt : l.stackTraces = false) : TH l yL_bestThreshold cL_bestThreshold 4 [(0, 9, 12, 19), (0, 9, 15, 51)] 8 204 [.ref x, .int p0, .ref out] κ σ0 (tqi (kX κ) hfCp σ0 (fun (r : Int32) (τ : Gh) => (∀ a : Nat, a ≠ (kR κ x 4) → zk σ0 a 3 → zI τ a 7 = zI σ0 a 7 ∧ zI τ a 8 = zI σ0 a 8 ∧ zI τ a 9 = zI σ0 a 9))) := by
  refine TH.of hfCp (by decide +kernel) (Nat.le_of_ble_eq_true rfl) ?_
  intro p e s m below meth c ls hcs htab hK hX hT hl
  obtain ⟨hx, hb, hr, hml, hown, hg, hlocks, hin⟩ := hcs
  have hown : s.vm.findClass RL = some m.cls := hown
  have hl : lv_has ls 4 [(0, .ref x), (1, .int p0), (2, .ref out)] := hl
  have hT0 := hT
  have n0 : (0 : Int32).toInt = 0 := by decide
  have n1 : (1 : Int32).toInt = 1 := by decide
  have n2 : (2 : Int32).toInt = 2 := by decide
  have p0_lo := Int32.le_toInt p0
  have p0_hi := Int32.toInt_lt p0
  generalize hQ9 : tQ _ _ _ _ _ _ = Q9
  refine lv_aload_n hx hb dL_bestThreshold_0 rfl (lv_at hl 2 rfl) ?_
  refine lv_iconst (v := 0) hx hb dL_bestThreshold_1 (by decide) ?_
  refine lv_aload_n hx hb dL_bestThreshold_2 rfl (lv_at hl 0 rfl) ?_
  refine lv_iload_n hx hb dL_bestThreshold_3 rfl (lv_at hl 1 rfl) ?_
  have hTo := hT
  refine xtVi (n := 1) (As := [.int p0]) (rest := [.int 0, .ref out]) hx hb hml hown hg hT hK hX (X5t_bestThreshold l κ σ0 x p0  (hT.k t_x (by decide))  hlt) sub_fCp_hfCp (mwV k1163 k1164 k1165 k84 k1166) ⟨rfl, by decide, by decide, by decide +kernel⟩ ⟨(Nat.le_of_ble_eq_true rfl), (Nat.le_of_ble_eq_true rfl)⟩ (hT.o7 (hT.k t_x (by decide))) rfl rfl hl.1 rfl (Nat.le_of_ble_eq_true rfl) dL_bestThreshold_4 zroomX.rf (fun E9 ce9 q9 τ9 H9 locs9 hp9 hE9 hT9 hce9 hcv9 hcl9 => ?_) (fun x1 s2 H locs hφ hEs2 hT => ?_)
  · have hT := hT9
    rcases hp9 with ⟨rfl, hp9⟩ | ⟨rfl, hp9⟩
    · skip
      refine vx_catch hown [] { startPc := 0, endPc := 9, handlerPc := 12, catchType := 19 } [{ startPc := 0, endPc := 9, handlerPc := 15, catchType := 51 }] (htab.trans rfl) (fun z hz => nomatch hz) (by decide) (by decide) (hg _ k684) (XX_cIAE hX.1) hce9 hcv9 hcl9 ?_
      refine lv_astore_n (lv' := [(3, .ref q9), (0, .ref x), (1, .int p0), (2, .ref out)]) hx hb dL_bestThreshold_12 rfl hl (by decide) rfl (fun ls hl => ?_)
      refine lv_iconst (v := 1) hx hb dL_bestThreshold_13 (by decide) ?_
      subst hQ9
      exact t_i hx hb hr hlocks hT hp9 dL_bestThreshold_14
    · skip
      refine vx_catch hown [{ startPc := 0, endPc := 9, handlerPc := 12, catchType := 19 }] { startPc := 0, endPc := 9, handlerPc := 15, catchType := 51 } [] (htab.trans rfl) (fun z hz => (List.mem_cons.mp hz).elim (fun e9 => by rw [e9]; exact Or.inr ⟨by decide, "java/lang/IllegalArgumentException", hg _ k684, XX_qNSEE_IAE hX.1⟩) (fun hz => nomatch hz)) (by decide) (by decide) (hg _ k945) (XX_cNSEE hX.1) hce9 hcv9 hcl9 ?_
      refine lv_astore_n (lv' := [(3, .ref q9), (0, .ref x), (1, .int p0), (2, .ref out)]) hx hb dL_bestThreshold_15 rfl hl (by decide) rfl (fun ls hl => ?_)
      refine lv_iconst (v := 2) hx hb dL_bestThreshold_16 (by decide) ?_
      subst hQ9
      exact t_i hx hb hr hlocks hT hp9 dL_bestThreshold_17
  have f3 := hφ
  have fr4 : ∀ a : Nat, a ≠ (kR κ x 4) → zk σ0 a 3 → zI s2 a 7 = zI σ0 a 7 ∧ zI s2 a 8 = zI σ0 a 8 ∧ zI s2 a 9 = zI σ0 a 9 := fun a ha hk => ⟨(f3 a ha (hTo.k hk (by decide))).1.trans ((show ∀ a : Nat, a ≠ (kR κ x 4) → zk σ0 a 3 → zI σ0 a 7 = zI σ0 a 7 ∧ zI σ0 a 8 = zI σ0 a 8 ∧ zI σ0 a 9 = zI σ0 a 9 from fun _ _ _ => ⟨rfl, rfl, rfl⟩) a ha hk).1, (f3 a ha (hTo.k hk (by decide))).2.1.trans ((show ∀ a : Nat, a ≠ (kR κ x 4) → zk σ0 a 3 → zI σ0 a 7 = zI σ0 a 7 ∧ zI σ0 a 8 = zI σ0 a 8 ∧ zI σ0 a 9 = zI σ0 a 9 from fun _ _ _ => ⟨rfl, rfl, rfl⟩) a ha hk).2.1, (f3 a ha (hTo.k hk (by decide))).2.2.trans ((show ∀ a : Nat, a ≠ (kR κ x 4) → zk σ0 a 3 → zI σ0 a 7 = zI σ0 a 7 ∧ zI σ0 a 8 = zI σ0 a 8 ∧ zI σ0 a 9 = zI σ0 a 9 from fun _ _ _ => ⟨rfl, rfl, rfl⟩) a ha hk).2.2⟩
  refine lv_i2l hx hb dL_bestThreshold_7 rfl ?_
  refine g_i2l (fun t5 ht5 => ?_)
  have hTo := hT
  refine tastl (n := 1) hx hb hK hT (hT.k t_out (by decide)) ⟨by decide, by decide⟩ (fun _ _ _ => rfl) (fun _ _ => trivial) (fun _ => rfl) (by omega) (by omega) dL_bestThreshold_8 (fun H locs s6 hus6 hT => ?_)
  have fr7 : ∀ a : Nat, a ≠ (kR κ x 4) → zk σ0 a 3 → zI s6 a 7 = zI σ0 a 7 ∧ zI s6 a 8 = zI σ0 a 8 ∧ zI s6 a 9 = zI σ0 a 9 := fun a ha hk => ⟨((by rw [zpul_I hus6] : zI s6 a 7 = zI s2 a 7)).trans (fr4 a ha hk).1, ((by rw [zpul_I hus6] : zI s6 a 8 = zI s2 a 8)).trans (fr4 a ha hk).2.1, ((by rw [zpul_I hus6] : zI s6 a 9 = zI s2 a 9)).trans (fr4 a ha hk).2.2⟩
  refine lv_goto (tgt := 18) hx hb dL_bestThreshold_9 (by decide) ?_
  refine lv_iconst (v := 0) hx hb dL_bestThreshold_18 (by decide) ?_
  subst hQ9
  exact t_i hx hb hr hlocks hT.up fr7 dL_bestThreshold_19
set_option maxHeartbeats 4000000 in
set_option maxRecDepth 100000 in
theorem L_bitsBy (l : Launch) (κ : Kt) (σ0 : Gh) (x : Nat) (p0 : Int32) (p1 : Int32) (out : Nat) {N : Nat} {P V : Nat → Int} (t_x : zk σ0 x 7) (t_out : zk σ0 out 24) (h0 : SRC κ σ0 (kR κ x 4) N P) (h1 : PLI N P) (h2 : ∀ k, k < N → (zI σ0 (kR κ (kR κ (kR κ x 4) 0) 1) k).toInt = V k) (h3 : ∀ k, k < N → -9999 ≤ V k ∧ V k ≤ 9999) (h4 : DW κ (kR κ x 4)) (hlt : l.stackTraces = false) : TH l yL_bitsBy cL_bitsBy 5 [(0, 10, 13, 19)] 8 170 [.ref x, .int p0, .int p1, .ref out] κ σ0 (tqi (kX κ) hfCv σ0 (fun (r : Int32) (τ : Gh) => (∀ a : Nat, a ≠ (kR κ x 4) → zk σ0 a 3 → zI τ a 7 = zI σ0 a 7 ∧ zI τ a 8 = zI σ0 a 8 ∧ zI τ a 9 = zI σ0 a 9) ∧ ((r.toInt = 0 ∧ (0 ≤ p0.toInt ∧ p0.toInt ≤ 2 ∧ 0 ≤ p1.toInt ∧ p1.toInt ≤ 2) ∧ ∃ Y, Run N P (zI σ0 (kR κ (kR κ x 4) 0) 6).toInt p0.toInt p1.toInt (zI σ0 (kR κ x 3) 9).toInt (ini N P V) Y ∧ (zJ τ out 0).toInt = bsum Y) ∨ (r.toInt = 1 ∧ (p0.toInt < 0 ∨ 2 < p0.toInt ∨ p1.toInt < 0 ∨ 2 < p1.toInt))))) := by
  refine TH.of hfCv (by decide +kernel) (Nat.le_of_ble_eq_true rfl) ?_
  intro p e s m below meth c ls hcs htab hK hX hT hl
  obtain ⟨hx, hb, hr, hml, hown, hg, hlocks, hin⟩ := hcs
  have hown : s.vm.findClass RL = some m.cls := hown
  have hl : lv_has ls 5 [(0, .ref x), (1, .int p0), (2, .int p1), (3, .ref out)] := hl
  have hT0 := hT
  have n0 : (0 : Int32).toInt = 0 := by decide
  have n1 : (1 : Int32).toInt = 1 := by decide
  have p0_lo := Int32.le_toInt p0
  have p0_hi := Int32.toInt_lt p0
  have p1_lo := Int32.le_toInt p1
  have p1_hi := Int32.toInt_lt p1
  generalize hQ9 : tQ _ _ _ _ _ _ = Q9
  refine lv_aload_n hx hb dL_bitsBy_0 rfl (lv_at hl 3 rfl) ?_
  refine lv_iconst (v := 0) hx hb dL_bitsBy_1 (by decide) ?_
  refine lv_aload_n hx hb dL_bitsBy_2 rfl (lv_at hl 0 rfl) ?_
  refine lv_iload_n hx hb dL_bitsBy_3 rfl (lv_at hl 1 rfl) ?_
  refine lv_iload_n hx hb dL_bitsBy_4 rfl (lv_at hl 2 rfl) ?_
  have hTo := hT
  refine xtVi (n := 2) (As := [.int p0, .int p1]) (rest := [.int 0, .ref out]) hx hb hml hown hg hT hK hX (X5v_bitsBy (N := N) (P := P) (V := V) l κ σ0 x p0 p1  (hT.k t_x (by decide)) h0 h1 h2 h3 h4 hlt) sub_fCv_hfCv (mwV k1178 k1179 k1180 k84 k1181) ⟨rfl, by decide, by decide, by decide +kernel⟩ ⟨(Nat.le_of_ble_eq_true rfl), (Nat.le_of_ble_eq_true rfl)⟩ (hT.o7 (hT.k t_x (by decide))) rfl rfl hl.1 rfl (Nat.le_of_ble_eq_true rfl) dL_bitsBy_5 zroomX.rf (fun E9 ce9 q9 τ9 H9 locs9 hp9 hE9 hT9 hce9 hcv9 hcl9 => ?_) (fun x1 s2 H locs hφ hEs2 hT => ?_)
  · have hT := hT9
    obtain ⟨rfl, hp9⟩ := hp9
    refine vx_catch hown [] { startPc := 0, endPc := 10, handlerPc := 13, catchType := 19 } [] (htab.trans rfl) (fun z hz => nomatch hz) (by decide) (by decide) (hg _ k684) (XX_cIAE hX.1) hce9 hcv9 hcl9 ?_
    refine lv_astore (lv' := [(4, .ref q9), (0, .ref x), (1, .int p0), (2, .int p1), (3, .ref out)]) hx hb dL_bitsBy_13 hl (by decide) rfl (fun ls hl => ?_)
    refine lv_iconst (v := 1) hx hb dL_bitsBy_15 (by decide) ?_
    subst hQ9
    exact t_i hx hb hr hlocks hT ⟨(fun a _ hk => hp9.2 a hk), Or.inr ⟨n1, hp9.1⟩⟩ dL_bitsBy_16
  obtain ⟨f3, f4, f5⟩ := hφ
  have fr6 : ∀ a : Nat, a ≠ (kR κ x 4) → zk σ0 a 3 → zI s2 a 7 = zI σ0 a 7 ∧ zI s2 a 8 = zI σ0 a 8 ∧ zI s2 a 9 = zI σ0 a 9 := fun a ha hk => ⟨(f5 a ha (hTo.k hk (by decide))).1.trans ((show ∀ a : Nat, a ≠ (kR κ x 4) → zk σ0 a 3 → zI σ0 a 7 = zI σ0 a 7 ∧ zI σ0 a 8 = zI σ0 a 8 ∧ zI σ0 a 9 = zI σ0 a 9 from fun _ _ _ => ⟨rfl, rfl, rfl⟩) a ha hk).1, (f5 a ha (hTo.k hk (by decide))).2.1.trans ((show ∀ a : Nat, a ≠ (kR κ x 4) → zk σ0 a 3 → zI σ0 a 7 = zI σ0 a 7 ∧ zI σ0 a 8 = zI σ0 a 8 ∧ zI σ0 a 9 = zI σ0 a 9 from fun _ _ _ => ⟨rfl, rfl, rfl⟩) a ha hk).2.1, (f5 a ha (hTo.k hk (by decide))).2.2.trans ((show ∀ a : Nat, a ≠ (kR κ x 4) → zk σ0 a 3 → zI σ0 a 7 = zI σ0 a 7 ∧ zI σ0 a 8 = zI σ0 a 8 ∧ zI σ0 a 9 = zI σ0 a 9 from fun _ _ _ => ⟨rfl, rfl, rfl⟩) a ha hk).2.2⟩
  obtain ⟨Y9, hR9, hb9⟩ := f4
  refine lv_i2l hx hb dL_bitsBy_8 rfl ?_
  refine g_i2l (fun t7 ht7 => ?_)
  have hTo := hT
  refine tastl (n := 1) hx hb hK hT (hT.k t_out (by decide)) ⟨by decide, by decide⟩ (fun _ _ _ => rfl) (fun _ _ => trivial) (fun _ => rfl) (by omega) (by omega) dL_bitsBy_9 (fun H locs s8 hus8 hT => ?_)
  have fr9 : ∀ a : Nat, a ≠ (kR κ x 4) → zk σ0 a 3 → zI s8 a 7 = zI σ0 a 7 ∧ zI s8 a 8 = zI σ0 a 8 ∧ zI s8 a 9 = zI σ0 a 9 := fun a ha hk => ⟨((by rw [zpul_I hus8] : zI s8 a 7 = zI s2 a 7)).trans (fr6 a ha hk).1, ((by rw [zpul_I hus8] : zI s8 a 8 = zI s2 a 8)).trans (fr6 a ha hk).2.1, ((by rw [zpul_I hus8] : zI s8 a 9 = zI s2 a 9)).trans (fr6 a ha hk).2.2⟩
  refine lv_goto (tgt := 17) hx hb dL_bitsBy_10 (by decide) ?_
  refine lv_iconst (v := 0) hx hb dL_bitsBy_17 (by decide) ?_
  subst hQ9
  exact t_i hx hb hr hlocks hT.up ⟨fr9, Or.inl ⟨n0, f3, Y9, hR9, (congrArg Int64.toInt (by rw [zpul_Ja hus8]; exact uh : zJ s8 out 0 = t7)).trans (by omega)⟩⟩ dL_bitsBy_18
set_option maxHeartbeats 4000000 in
set_option maxRecDepth 100000 in
theorem L_reason (l : Launch) (κ : Kt) (σ0 : Gh) (x : Nat) (p0 : Int32) (out : Nat) (t_x : zk σ0 x 7) (t_out : zk σ0 out 24) (hlt : l.stackTraces = false) : TH l yL_reason cL_reason 4 [(0, 9, 12, 19)] 8 133 [.ref x, .int p0, .ref out] κ σ0 (tqi (kX κ) hfE σ0 (fun (r : Int32) (τ : Gh) => True)) := by
  refine TH.of hfE (by decide +kernel) (Nat.le_of_ble_eq_true rfl) ?_
  intro p e s m below meth c ls hcs htab hK hX hT hl
  obtain ⟨hx, hb, hr, hml, hown, hg, hlocks, hin⟩ := hcs
  have hown : s.vm.findClass RL = some m.cls := hown
  have hl : lv_has ls 4 [(0, .ref x), (1, .int p0), (2, .ref out)] := hl
  have hT0 := hT
  have n0 : (0 : Int32).toInt = 0 := by decide
  have n1 : (1 : Int32).toInt = 1 := by decide
  have p0_lo := Int32.le_toInt p0
  have p0_hi := Int32.toInt_lt p0
  generalize hQ9 : tQ _ _ _ _ _ _ = Q9
  refine lv_aload_n hx hb dL_reason_0 rfl (lv_at hl 2 rfl) ?_
  refine lv_iconst (v := 0) hx hb dL_reason_1 (by decide) ?_
  refine lv_aload_n hx hb dL_reason_2 rfl (lv_at hl 0 rfl) ?_
  refine lv_iload_n hx hb dL_reason_3 rfl (lv_at hl 1 rfl) ?_
  have hTo := hT
  refine xtVi (n := 1) (As := [.int p0]) (rest := [.int 0, .ref out]) hx hb hml hown hg hT hK hX (X5_reason l κ σ0 x p0  (hT.k t_x (by decide))  hlt) sub_fE_hfE (mwV k1185 k1186 k1187 k84 k1188) ⟨rfl, by decide, by decide, by decide +kernel⟩ ⟨(Nat.le_of_ble_eq_true rfl), (Nat.le_of_ble_eq_true rfl)⟩ (hT.o7 (hT.k t_x (by decide))) rfl rfl hl.1 rfl (Nat.le_of_ble_eq_true rfl) dL_reason_4 zroomX.rf (fun E9 ce9 q9 τ9 H9 locs9 hp9 hE9 hT9 hce9 hcv9 hcl9 => ?_) (fun x1 s2 H locs hφ hEs2 hT => ?_)
  · have hT := hT9
    subst hp9
    refine vx_catch hown [] { startPc := 0, endPc := 9, handlerPc := 12, catchType := 19 } [] (htab.trans rfl) (fun z hz => nomatch hz) (by decide) (by decide) (hg _ k684) (XX_cIAE hX.1) hce9 hcv9 hcl9 ?_
    refine lv_astore_n (lv' := [(3, .ref q9), (0, .ref x), (1, .int p0), (2, .ref out)]) hx hb dL_reason_12 rfl hl (by decide) rfl (fun ls hl => ?_)
    refine lv_iconst (v := 1) hx hb dL_reason_13 (by decide) ?_
    subst hQ9
    exact t_i hx hb hr hlocks hT trivial dL_reason_14
  refine lv_i2l hx hb dL_reason_7 rfl ?_
  refine g_i2l (fun t3 ht3 => ?_)
  have hTo := hT
  refine tastl (n := 1) hx hb hK hT (hT.k t_out (by decide)) ⟨by decide, by decide⟩ (fun _ _ _ => rfl) (fun _ _ => trivial) (fun _ => rfl) (by omega) (by omega) dL_reason_8 (fun H locs s4 hus4 hT => ?_)
  refine lv_goto (tgt := 15) hx hb dL_reason_9 (by decide) ?_
  refine lv_iconst (v := 0) hx hb dL_reason_15 (by decide) ?_
  subst hQ9
  exact t_i hx hb hr hlocks hT.up trivial dL_reason_16
set_option maxHeartbeats 4000000 in
set_option maxRecDepth 100000 in
theorem L_save (l : Launch) (κ : Kt) (σ0 : Gh) (x : Nat) (p0 : Int32) (t_x : zk σ0 x 7) (hlt : l.stackTraces = false) : TH l yL_save cL_save 3 [(0, 5, 8, 13)] 8 148 [.ref x, .int p0] κ σ0 (tqi (kX κ) hfSv σ0 (fun (r : Int32) (τ : Gh) => ((0 ≤ p0.toInt ∧ p0.toInt ≤ 1 ∧ r.toInt = 0 ∧ (∀ j : Nat, zI τ (kR κ x 6) j = if j = ix p0 then 1 else zI σ0 (kR κ x 6) j) ∧ (zI τ (kR κ (kR κ x 5) (ix p0)) 7 = zI σ0 (kR κ x 3) 7 ∧ zI τ (kR κ (kR κ x 5) (ix p0)) 8 = zI σ0 (kR κ x 3) 8 ∧ zI τ (kR κ (kR κ x 5) (ix p0)) 9 = zI σ0 (kR κ x 3) 9) ∧ ∀ a : Nat, a ≠ (kR κ (kR κ x 5) (ix p0)) → zk σ0 a 3 → zI τ a 7 = zI σ0 a 7 ∧ zI τ a 8 = zI σ0 a 8 ∧ zI τ a 9 = zI σ0 a 9) ∨ ((p0.toInt < 0 ∨ 1 < p0.toInt) ∧ r.toInt = 1 ∧ zI τ (kR κ x 6) = zI σ0 (kR κ x 6) ∧ ∀ a : Nat, zk σ0 a 3 → zI τ a 7 = zI σ0 a 7 ∧ zI τ a 8 = zI σ0 a 8 ∧ zI τ a 9 = zI σ0 a 9)))) := by
  refine TH.of hfSv (by decide +kernel) (Nat.le_of_ble_eq_true rfl) ?_
  intro p e s m below meth c ls hcs htab hK hX hT hl
  obtain ⟨hx, hb, hr, hml, hown, hg, hlocks, hin⟩ := hcs
  have hown : s.vm.findClass RL = some m.cls := hown
  have hl : lv_has ls 3 [(0, .ref x), (1, .int p0)] := hl
  have hT0 := hT
  have n0 : (0 : Int32).toInt = 0 := by decide
  have n1 : (1 : Int32).toInt = 1 := by decide
  have p0_lo := Int32.le_toInt p0
  have p0_hi := Int32.toInt_lt p0
  generalize hQ9 : tQ _ _ _ _ _ _ = Q9
  refine lv_aload_n hx hb dL_save_0 rfl (lv_at hl 0 rfl) ?_
  refine lv_iload_n hx hb dL_save_1 rfl (lv_at hl 1 rfl) ?_
  have hTo := hT
  refine xtVv (n := 1) (As := [.int p0]) (rest := []) hx hb hml hown hg hT hK hX (X5s_save l κ σ0 x p0  (hT.k t_x (by decide))  hlt) sub_fSv_hfSv (mwV k1192 k1193 k1194 k84 k1195) ⟨rfl, by decide, by decide, by decide +kernel⟩ ⟨(Nat.le_of_ble_eq_true rfl), (Nat.le_of_ble_eq_true rfl)⟩ (hT.o7 (hT.k t_x (by decide))) rfl rfl hl.1 rfl (Nat.le_of_ble_eq_true rfl) dL_save_2 zroomX.rf (fun E9 ce9 q9 τ9 H9 locs9 hp9 hE9 hT9 hce9 hcv9 hcl9 => ?_) (fun s2 H locs hφ hEs2 hT => ?_)
  · have hT := hT9
    obtain ⟨rfl, hp9⟩ := hp9
    refine vx_catch hown [] { startPc := 0, endPc := 5, handlerPc := 8, catchType := 13 } [] (htab.trans rfl) (fun z hz => nomatch hz) (by decide) (by decide) (hg _ k605) (XX_cIOOBE hX.1) hce9 hcv9 hcl9 ?_
    refine lv_astore_n (lv' := [(2, .ref q9), (0, .ref x), (1, .int p0)]) hx hb dL_save_8 rfl hl (by decide) rfl (fun ls hl => ?_)
    refine lv_iconst (v := 1) hx hb dL_save_9 (by decide) ?_
    subst hQ9
    exact t_i hx hb hr hlocks hT (Or.inr ⟨hp9.1, n1, hp9.2.1, hp9.2.2⟩) dL_save_10
  obtain ⟨f3, f4, f5, f6, f7⟩ := hφ
  refine lv_goto (tgt := 11) hx hb dL_save_5 (by decide) ?_
  refine lv_iconst (v := 0) hx hb dL_save_11 (by decide) ?_
  subst hQ9
  exact t_i hx hb hr hlocks hT.up (Or.inl ⟨f3, f4, n0, f5, f6, f7⟩) dL_save_12
set_option maxHeartbeats 4000000 in
set_option maxRecDepth 100000 in
theorem L_restore (l : Launch) (κ : Kt) (σ0 : Gh) (x : Nat) (p0 : Int32) (t_x : zk σ0 x 7) (hlt : l.stackTraces = false) : TH l yL_restore cL_restore 3 [(0, 5, 8, 13), (0, 5, 11, 51)] 8 148 [.ref x, .int p0] κ σ0 (tqi (kX κ) hfCp σ0 (fun (r : Int32) (τ : Gh) => ((r.toInt = 0 ∧ 0 ≤ p0.toInt ∧ p0.toInt ≤ 1 ∧ zI σ0 (kR κ x 6) (ix p0) ≠ 0 ∧ (zI τ (kR κ x 3) 7 = zI σ0 (kR κ (kR κ x 5) (ix p0)) 7 ∧ zI τ (kR κ x 3) 8 = zI σ0 (kR κ (kR κ x 5) (ix p0)) 8 ∧ zI τ (kR κ x 3) 9 = zI σ0 (kR κ (kR κ x 5) (ix p0)) 9) ∧ ∀ a : Nat, a ≠ (kR κ x 3) → zk σ0 a 3 → zI τ a 7 = zI σ0 a 7 ∧ zI τ a 8 = zI σ0 a 8 ∧ zI τ a 9 = zI σ0 a 9) ∨ (r.toInt = 1 ∧ (p0.toInt < 0 ∨ 1 < p0.toInt) ∧ ∀ a : Nat, zk σ0 a 3 → zI τ a 7 = zI σ0 a 7 ∧ zI τ a 8 = zI σ0 a 8 ∧ zI τ a 9 = zI σ0 a 9) ∨ (r.toInt = 2 ∧ 0 ≤ p0.toInt ∧ p0.toInt ≤ 1 ∧ zI σ0 (kR κ x 6) (ix p0) = 0 ∧ ∀ a : Nat, zk σ0 a 3 → zI τ a 7 = zI σ0 a 7 ∧ zI τ a 8 = zI σ0 a 8 ∧ zI τ a 9 = zI σ0 a 9)))) := by
  refine TH.of hfCp (by decide +kernel) (Nat.le_of_ble_eq_true rfl) ?_
  intro p e s m below meth c ls hcs htab hK hX hT hl
  obtain ⟨hx, hb, hr, hml, hown, hg, hlocks, hin⟩ := hcs
  have hown : s.vm.findClass RL = some m.cls := hown
  have hl : lv_has ls 3 [(0, .ref x), (1, .int p0)] := hl
  have hT0 := hT
  have n0 : (0 : Int32).toInt = 0 := by decide
  have n1 : (1 : Int32).toInt = 1 := by decide
  have n2 : (2 : Int32).toInt = 2 := by decide
  have p0_lo := Int32.le_toInt p0
  have p0_hi := Int32.toInt_lt p0
  generalize hQ9 : tQ _ _ _ _ _ _ = Q9
  refine lv_aload_n hx hb dL_restore_0 rfl (lv_at hl 0 rfl) ?_
  refine lv_iload_n hx hb dL_restore_1 rfl (lv_at hl 1 rfl) ?_
  have hTo := hT
  refine xtVv (n := 1) (As := [.int p0]) (rest := []) hx hb hml hown hg hT hK hX (X5s_restore l κ σ0 x p0  (hT.k t_x (by decide))  hlt) sub_fCp_hfCp (mwV k1199 k1200 k1201 k84 k1202) ⟨rfl, by decide, by decide, by decide +kernel⟩ ⟨(Nat.le_of_ble_eq_true rfl), (Nat.le_of_ble_eq_true rfl)⟩ (hT.o7 (hT.k t_x (by decide))) rfl rfl hl.1 rfl (Nat.le_of_ble_eq_true rfl) dL_restore_2 zroomX.rf (fun E9 ce9 q9 τ9 H9 locs9 hp9 hE9 hT9 hce9 hcv9 hcl9 => ?_) (fun s2 H locs hφ hEs2 hT => ?_)
  · have hT := hT9
    rcases hp9 with ⟨rfl, hp9⟩ | ⟨rfl, hp9⟩
    · skip
      refine vx_catch hown [] { startPc := 0, endPc := 5, handlerPc := 8, catchType := 13 } [{ startPc := 0, endPc := 5, handlerPc := 11, catchType := 51 }] (htab.trans rfl) (fun z hz => nomatch hz) (by decide) (by decide) (hg _ k605) (XX_cIOOBE hX.1) hce9 hcv9 hcl9 ?_
      refine lv_astore_n (lv' := [(2, .ref q9), (0, .ref x), (1, .int p0)]) hx hb dL_restore_8 rfl hl (by decide) rfl (fun ls hl => ?_)
      refine lv_iconst (v := 1) hx hb dL_restore_9 (by decide) ?_
      subst hQ9
      exact t_i hx hb hr hlocks hT (Or.inr (Or.inl ⟨n1, hp9.1, hp9.2⟩)) dL_restore_10
    · skip
      refine vx_catch hown [{ startPc := 0, endPc := 5, handlerPc := 8, catchType := 13 }] { startPc := 0, endPc := 5, handlerPc := 11, catchType := 51 } [] (htab.trans rfl) (fun z hz => (List.mem_cons.mp hz).elim (fun e9 => by rw [e9]; exact Or.inr ⟨by decide, "java/lang/IndexOutOfBoundsException", hg _ k605, XX_qNSEE_IOOBE hX.1⟩) (fun hz => nomatch hz)) (by decide) (by decide) (hg _ k945) (XX_cNSEE hX.1) hce9 hcv9 hcl9 ?_
      refine lv_astore_n (lv' := [(2, .ref q9), (0, .ref x), (1, .int p0)]) hx hb dL_restore_11 rfl hl (by decide) rfl (fun ls hl => ?_)
      refine lv_iconst (v := 2) hx hb dL_restore_12 (by decide) ?_
      subst hQ9
      exact t_i hx hb hr hlocks hT (Or.inr (Or.inr ⟨n2, hp9⟩)) dL_restore_13
  obtain ⟨f3, f4, f5, f6, f7⟩ := hφ
  refine lv_goto (tgt := 14) hx hb dL_restore_5 (by decide) ?_
  refine lv_iconst (v := 0) hx hb dL_restore_14 (by decide) ?_
  subst hQ9
  exact t_i hx hb hr hlocks hT.up (Or.inl ⟨n0, f3, f4, f5, f6, f7⟩) dL_restore_15
