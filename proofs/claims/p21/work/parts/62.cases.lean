/-! The law, a row a case -/
theorem sub_fBe_fA : ∀ t k, fA t k = false → fBe t k = false := by
  intro t k h
  simp [fBe, fA] at h ⊢ <;> omega
theorem sub_fCp_fA : ∀ t k, fA t k = false → fCp t k = false := by
  intro t k h
  simp [fCp, fA] at h ⊢ <;> omega
theorem sub_fE_fA : ∀ t k, fA t k = false → fE t k = false := by
  intro t k h
  simp [fE, fA] at h ⊢ <;> omega
theorem sub_fSet_fA : ∀ t k, fA t k = false → fSet t k = false := by
  intro t k h
  simp [fSet, fA] at h ⊢ <;> omega
theorem sub_fT1_fA : ∀ t k, fA t k = false → fT1 t k = false := by
  intro t k h
  simp [fT1, fA] at h ⊢ <;> omega
theorem sub_fW_fA : ∀ t k, fA t k = false → fW t k = false := by
  intro t k h
  simp [fW, fA] at h ⊢ <;> omega
theorem sub_gAp_fA : ∀ t k, fA t k = false → gAp t k = false := by
  intro t k h
  simp [gAp, fA] at h ⊢ <;> omega
theorem sub_gLd_fA : ∀ t k, fA t k = false → gLd t k = false := by
  intro t k h
  simp [gLd, fA] at h ⊢ <;> omega
theorem sub_gR_fA : ∀ t k, fA t k = false → gR t k = false := by
  intro t k h
  simp [gR, fA] at h ⊢ <;> omega
theorem sub_gS_fA : ∀ t k, fA t k = false → gS t k = false := by
  intro t k h
  simp [gS, fA] at h ⊢ <;> omega
theorem sub_gTr_fA : ∀ t k, fA t k = false → gTr t k = false := by
  intro t k h
  simp [gTr, fA] at h ⊢ <;> omega
theorem sub_gX_fA : ∀ t k, fA t k = false → gX t k = false := by
  intro t k h
  simp [gX, fA] at h ⊢ <;> omega
theorem sub_gXs_fA : ∀ t k, fA t k = false → gXs t k = false := by
  intro t k h
  simp [gXs, fA] at h ⊢ <;> omega
theorem sub_gZ_fA : ∀ t k, fA t k = false → gZ t k = false := by
  intro t k h
  simp [gZ, fA] at h ⊢ <;> omega
theorem sub_gZb_fA : ∀ t k, fA t k = false → gZb t k = false := by
  intro t k h
  simp [gZb, fA] at h ⊢ <;> omega
theorem sub_hfCp_fA : ∀ t k, fA t k = false → hfCp t k = false := by
  intro t k h
  simp [hfCp, fA] at h ⊢ <;> omega
theorem sub_hfE_fA : ∀ t k, fA t k = false → hfE t k = false := by
  intro t k h
  simp [hfE, fA] at h ⊢ <;> omega
theorem sub_hfLd_fA : ∀ t k, fA t k = false → hfLd t k = false := by
  intro t k h
  simp [hfLd, fA] at h ⊢ <;> omega
theorem sub_hfLr_fA : ∀ t k, fA t k = false → hfLr t k = false := by
  intro t k h
  simp [hfLr, fA] at h ⊢ <;> omega
theorem sub_hfSet_fA : ∀ t k, fA t k = false → hfSet t k = false := by
  intro t k h
  simp [hfSet, fA] at h ⊢ <;> omega
theorem sub_hfSv_fA : ∀ t k, fA t k = false → hfSv t k = false := by
  intro t k h
  simp [hfSv, fA] at h ⊢ <;> omega
theorem sub_hfTr_fA : ∀ t k, fA t k = false → hfTr t k = false := by
  intro t k h
  simp [hfTr, fA] at h ⊢ <;> omega
theorem sub_hfW_fA : ∀ t k, fA t k = false → hfW t k = false := by
  intro t k h
  simp [hfW, fA] at h ⊢ <;> omega
theorem sub_hfWr_fA : ∀ t k, fA t k = false → hfWr t k = false := by
  intro t k h
  simp [hfWr, fA] at h ⊢ <;> omega
theorem k83 : Cond.initialized RL ∈ GW := gm 83 (by decide +kernel) (by decide +kernel)
theorem k411 : Cond.methodLink RL 116 yX5_append ∈ GW := gm 411 (by decide +kernel) (by decide +kernel)
theorem k412 : Cond.instanceMethod yX5_append ∈ GW := gm 412 (by decide +kernel) (by decide +kernel)
theorem k413 : Cond.selects RX5 yX5_append yX5_append ∈ GW := gm 413 (by decide +kernel) (by decide +kernel)
theorem k414 : Cond.code yX5_append cX5_append 6 (some .int) ∈ GW := gm 414 (by decide +kernel) (by decide +kernel)
theorem k423 : Cond.methodLink RL 131 yX5_errorCode ∈ GW := gm 423 (by decide +kernel) (by decide +kernel)
theorem k424 : Cond.instanceMethod yX5_errorCode ∈ GW := gm 424 (by decide +kernel) (by decide +kernel)
theorem k425 : Cond.selects RX5 yX5_errorCode yX5_errorCode ∈ GW := gm 425 (by decide +kernel) (by decide +kernel)
theorem k426 : Cond.code yX5_errorCode cX5_errorCode 1 (some .int) ∈ GW := gm 426 (by decide +kernel) (by decide +kernel)
theorem k427 : Cond.methodLink RL 135 yX5_errorPosition ∈ GW := gm 427 (by decide +kernel) (by decide +kernel)
theorem k428 : Cond.instanceMethod yX5_errorPosition ∈ GW := gm 428 (by decide +kernel) (by decide +kernel)
theorem k429 : Cond.selects RX5 yX5_errorPosition yX5_errorPosition ∈ GW := gm 429 (by decide +kernel) (by decide +kernel)
theorem k430 : Cond.code yX5_errorPosition cX5_errorPosition 1 (some .int) ∈ GW := gm 430 (by decide +kernel) (by decide +kernel)
theorem k431 : Cond.methodLink RL 159 yX5_integral ∈ GW := gm 431 (by decide +kernel) (by decide +kernel)
theorem k432 : Cond.instanceMethod yX5_integral ∈ GW := gm 432 (by decide +kernel) (by decide +kernel)
theorem k433 : Cond.selects RX5 yX5_integral yX5_integral ∈ GW := gm 433 (by decide +kernel) (by decide +kernel)
theorem k434 : Cond.code yX5_integral cX5_integral 1 (some .long) ∈ GW := gm 434 (by decide +kernel) (by decide +kernel)
theorem k447 : Cond.methodLink RL 164 yX5_drift ∈ GW := gm 447 (by decide +kernel) (by decide +kernel)
theorem k448 : Cond.instanceMethod yX5_drift ∈ GW := gm 448 (by decide +kernel) (by decide +kernel)
theorem k449 : Cond.selects RX5 yX5_drift yX5_drift ∈ GW := gm 449 (by decide +kernel) (by decide +kernel)
theorem k450 : Cond.code yX5_drift cX5_drift 1 (some .long) ∈ GW := gm 450 (by decide +kernel) (by decide +kernel)
theorem k463 : Cond.methodLink RL 171 yX5_plainMean ∈ GW := gm 463 (by decide +kernel) (by decide +kernel)
theorem k464 : Cond.instanceMethod yX5_plainMean ∈ GW := gm 464 (by decide +kernel) (by decide +kernel)
theorem k465 : Cond.selects RX5 yX5_plainMean yX5_plainMean ∈ GW := gm 465 (by decide +kernel) (by decide +kernel)
theorem k466 : Cond.code yX5_plainMean cX5_plainMean 1 (some .double) ∈ GW := gm 466 (by decide +kernel) (by decide +kernel)
theorem k492 : Cond.methodLink RL 176 yX5_energy ∈ GW := gm 492 (by decide +kernel) (by decide +kernel)
theorem k493 : Cond.instanceMethod yX5_energy ∈ GW := gm 493 (by decide +kernel) (by decide +kernel)
theorem k494 : Cond.selects RX5 yX5_energy yX5_energy ∈ GW := gm 494 (by decide +kernel) (by decide +kernel)
theorem k495 : Cond.code yX5_energy cX5_energy 1 (some .long) ∈ GW := gm 495 (by decide +kernel) (by decide +kernel)
theorem k501 : Cond.methodLink RL 180 yX5_bits ∈ GW := gm 501 (by decide +kernel) (by decide +kernel)
theorem k502 : Cond.instanceMethod yX5_bits ∈ GW := gm 502 (by decide +kernel) (by decide +kernel)
theorem k503 : Cond.selects RX5 yX5_bits yX5_bits ∈ GW := gm 503 (by decide +kernel) (by decide +kernel)
theorem k504 : Cond.code yX5_bits cX5_bits 1 (some .int) ∈ GW := gm 504 (by decide +kernel) (by decide +kernel)
theorem k510 : Cond.methodLink RL 199 yX5_setUpdate ∈ GW := gm 510 (by decide +kernel) (by decide +kernel)
theorem k511 : Cond.instanceMethod yX5_setUpdate ∈ GW := gm 511 (by decide +kernel) (by decide +kernel)
theorem k512 : Cond.selects RX5 yX5_setUpdate yX5_setUpdate ∈ GW := gm 512 (by decide +kernel) (by decide +kernel)
theorem k513 : Cond.code yX5_setUpdate cX5_setUpdate 3 (some .boolean) ∈ GW := gm 513 (by decide +kernel) (by decide +kernel)
theorem k514 : Cond.methodLink RL 210 yX5_reset ∈ GW := gm 514 (by decide +kernel) (by decide +kernel)
theorem k515 : Cond.instanceMethod yX5_reset ∈ GW := gm 515 (by decide +kernel) (by decide +kernel)
theorem k516 : Cond.selects RX5 yX5_reset yX5_reset ∈ GW := gm 516 (by decide +kernel) (by decide +kernel)
theorem k517 : Cond.code yX5_reset cX5_reset 2 (some .int) ∈ GW := gm 517 (by decide +kernel) (by decide +kernel)
theorem k518 : Cond.methodLink RL 247 yX5_bestScheme ∈ GW := gm 518 (by decide +kernel) (by decide +kernel)
theorem k519 : Cond.instanceMethod yX5_bestScheme ∈ GW := gm 519 (by decide +kernel) (by decide +kernel)
theorem k520 : Cond.selects RX5 yX5_bestScheme yX5_bestScheme ∈ GW := gm 520 (by decide +kernel) (by decide +kernel)
theorem k521 : Cond.code yX5_bestScheme cX5_bestScheme 5 (some .int) ∈ GW := gm 521 (by decide +kernel) (by decide +kernel)
theorem k598 : Cond.methodLink RL 254 yX5_reasonSample ∈ GW := gm 598 (by decide +kernel) (by decide +kernel)
theorem k599 : Cond.instanceMethod yX5_reasonSample ∈ GW := gm 599 (by decide +kernel) (by decide +kernel)
theorem k600 : Cond.selects RX5 yX5_reasonSample yX5_reasonSample ∈ GW := gm 600 (by decide +kernel) (by decide +kernel)
theorem k601 : Cond.code yX5_reasonSample cX5_reasonSample 1 (some .int) ∈ GW := gm 601 (by decide +kernel) (by decide +kernel)
theorem k602 : Cond.methodLink RL 121 yL_truncate ∈ GW := gm 602 (by decide +kernel) (by decide +kernel)
theorem k603 : Cond.static yL_truncate ∈ GW := gm 603 (by decide +kernel) (by decide +kernel)
theorem k604 : Cond.codeWith yL_truncate cL_truncate 4 (some .int) [(0, 9, 12, 13)] ∈ GW := gm 604 (by decide +kernel) (by decide +kernel)
theorem k681 : Cond.methodLink RL 127 yL_load ∈ GW := gm 681 (by decide +kernel) (by decide +kernel)
theorem k682 : Cond.static yL_load ∈ GW := gm 682 (by decide +kernel) (by decide +kernel)
theorem k683 : Cond.codeWith yL_load cL_load 3 (some .int) [(0, 8, 11, 19)] ∈ GW := gm 683 (by decide +kernel) (by decide +kernel)
theorem k834 : Cond.methodLink RL 139 yL_count ∈ GW := gm 834 (by decide +kernel) (by decide +kernel)
theorem k835 : Cond.static yL_count ∈ GW := gm 835 (by decide +kernel) (by decide +kernel)
theorem k836 : Cond.codeWith yL_count cL_count 4 (some .int) [(0, 9, 12, 19)] ∈ GW := gm 836 (by decide +kernel) (by decide +kernel)
theorem k854 : Cond.methodLink RL 142 yL_sample ∈ GW := gm 854 (by decide +kernel) (by decide +kernel)
theorem k855 : Cond.static yL_sample ∈ GW := gm 855 (by decide +kernel) (by decide +kernel)
theorem k856 : Cond.codeWith yL_sample cL_sample 5 (some .int) [(0, 9, 12, 13), (0, 9, 16, 19)] ∈ GW := gm 856 (by decide +kernel) (by decide +kernel)
theorem k863 : Cond.methodLink RL 146 yL_present ∈ GW := gm 863 (by decide +kernel) (by decide +kernel)
theorem k864 : Cond.static yL_present ∈ GW := gm 864 (by decide +kernel) (by decide +kernel)
theorem k865 : Cond.codeWith yL_present cL_present 4 (some .int) [(0, 9, 12, 13)] ∈ GW := gm 865 (by decide +kernel) (by decide +kernel)
theorem k874 : Cond.methodLink RL 149 yL_neighbour ∈ GW := gm 874 (by decide +kernel) (by decide +kernel)
theorem k875 : Cond.static yL_neighbour ∈ GW := gm 875 (by decide +kernel) (by decide +kernel)
theorem k876 : Cond.codeWith yL_neighbour cL_neighbour 5 (some .int) [(0, 10, 13, 13)] ∈ GW := gm 876 (by decide +kernel) (by decide +kernel)
theorem k883 : Cond.methodLink RL 153 yL_step ∈ GW := gm 883 (by decide +kernel) (by decide +kernel)
theorem k884 : Cond.static yL_step ∈ GW := gm 884 (by decide +kernel) (by decide +kernel)
theorem k885 : Cond.codeWith yL_step cL_step 5 (some .int) [(0, 9, 12, 13), (0, 9, 16, 19)] ∈ GW := gm 885 (by decide +kernel) (by decide +kernel)
theorem k890 : Cond.methodLink RL 156 yL_valueAt ∈ GW := gm 890 (by decide +kernel) (by decide +kernel)
theorem k891 : Cond.static yL_valueAt ∈ GW := gm 891 (by decide +kernel) (by decide +kernel)
theorem k892 : Cond.codeWith yL_valueAt cL_valueAt 4 (some .int) [(0, 8, 11, 13)] ∈ GW := gm 892 (by decide +kernel) (by decide +kernel)
theorem k902 : Cond.methodLink RL 168 yL_mean ∈ GW := gm 902 (by decide +kernel) (by decide +kernel)
theorem k903 : Cond.static yL_mean ∈ GW := gm 903 (by decide +kernel) (by decide +kernel)
theorem k904 : Cond.codeWith yL_mean cL_mean 4 (some .int) [(0, 8, 11, 19)] ∈ GW := gm 904 (by decide +kernel) (by decide +kernel)
theorem k927 : Cond.methodLink RL 184 yL_largest ∈ GW := gm 927 (by decide +kernel) (by decide +kernel)
theorem k928 : Cond.static yL_largest ∈ GW := gm 928 (by decide +kernel) (by decide +kernel)
theorem k929 : Cond.codeWith yL_largest cL_largest 4 (some .int) [(0, 9, 12, 13)] ∈ GW := gm 929 (by decide +kernel) (by decide +kernel)
theorem k942 : Cond.methodLink RL 187 yL_next ∈ GW := gm 942 (by decide +kernel) (by decide +kernel)
theorem k943 : Cond.static yL_next ∈ GW := gm 943 (by decide +kernel) (by decide +kernel)
theorem k944 : Cond.codeWith yL_next cL_next 3 (some .int) [(0, 8, 11, 51)] ∈ GW := gm 944 (by decide +kernel) (by decide +kernel)
theorem k967 : Cond.methodLink RL 190 yL_setSplit ∈ GW := gm 967 (by decide +kernel) (by decide +kernel)
theorem k968 : Cond.static yL_setSplit ∈ GW := gm 968 (by decide +kernel) (by decide +kernel)
theorem k969 : Cond.codeWith yL_setSplit cL_setSplit 4 (some .int) [(0, 9, 12, 19)] ∈ GW := gm 969 (by decide +kernel) (by decide +kernel)
theorem k974 : Cond.methodLink RL 196 yL_setPredict ∈ GW := gm 974 (by decide +kernel) (by decide +kernel)
theorem k975 : Cond.static yL_setPredict ∈ GW := gm 975 (by decide +kernel) (by decide +kernel)
theorem k976 : Cond.codeWith yL_setPredict cL_setPredict 4 (some .int) [(0, 9, 12, 19)] ∈ GW := gm 976 (by decide +kernel) (by decide +kernel)
theorem k981 : Cond.methodLink RL 204 yL_set ∈ GW := gm 981 (by decide +kernel) (by decide +kernel)
theorem k982 : Cond.static yL_set ∈ GW := gm 982 (by decide +kernel) (by decide +kernel)
theorem k983 : Cond.codeWith yL_set cL_set 5 (some .int) [(0, 9, 12, 13), (0, 9, 16, 19), (0, 9, 20, 62)] ∈ GW := gm 983 (by decide +kernel) (by decide +kernel)
theorem k1013 : Cond.methodLink RL 207 yL_noise ∈ GW := gm 1013 (by decide +kernel) (by decide +kernel)
theorem k1014 : Cond.static yL_noise ∈ GW := gm 1014 (by decide +kernel) (by decide +kernel)
theorem k1015 : Cond.codeWith yL_noise cL_noise 5 (some .int) [(0, 9, 12, 19), (0, 9, 16, 62)] ∈ GW := gm 1015 (by decide +kernel) (by decide +kernel)
theorem k1025 : Cond.methodLink RL 214 yL_forward ∈ GW := gm 1025 (by decide +kernel) (by decide +kernel)
theorem k1026 : Cond.static yL_forward ∈ GW := gm 1026 (by decide +kernel) (by decide +kernel)
theorem k1027 : Cond.codeWith yL_forward cL_forward 4 (some .int) [(0, 9, 12, 19), (0, 9, 15, 62)] ∈ GW := gm 1027 (by decide +kernel) (by decide +kernel)
theorem k1032 : Cond.methodLink RL 217 yL_lift ∈ GW := gm 1032 (by decide +kernel) (by decide +kernel)
theorem k1033 : Cond.static yL_lift ∈ GW := gm 1033 (by decide +kernel) (by decide +kernel)
theorem k1034 : Cond.codeWith yL_lift cL_lift 4 (some .int) [(0, 8, 11, 13), (0, 8, 14, 62)] ∈ GW := gm 1034 (by decide +kernel) (by decide +kernel)
theorem k1040 : Cond.methodLink RL 220 yL_inverse ∈ GW := gm 1040 (by decide +kernel) (by decide +kernel)
theorem k1041 : Cond.static yL_inverse ∈ GW := gm 1041 (by decide +kernel) (by decide +kernel)
theorem k1042 : Cond.codeWith yL_inverse cL_inverse 4 (some .int) [(0, 9, 12, 19), (0, 9, 15, 62)] ∈ GW := gm 1042 (by decide +kernel) (by decide +kernel)
theorem k1055 : Cond.methodLink RL 223 yL_setDetail ∈ GW := gm 1055 (by decide +kernel) (by decide +kernel)
theorem k1056 : Cond.static yL_setDetail ∈ GW := gm 1056 (by decide +kernel) (by decide +kernel)
theorem k1057 : Cond.codeWith yL_setDetail cL_setDetail 5 (some .int) [(0, 9, 12, 13), (0, 9, 16, 19)] ∈ GW := gm 1057 (by decide +kernel) (by decide +kernel)
theorem k1065 : Cond.methodLink RL 226 yL_threshold ∈ GW := gm 1065 (by decide +kernel) (by decide +kernel)
theorem k1066 : Cond.static yL_threshold ∈ GW := gm 1066 (by decide +kernel) (by decide +kernel)
theorem k1067 : Cond.codeWith yL_threshold cL_threshold 5 (some .int) [(0, 10, 13, 19)] ∈ GW := gm 1067 (by decide +kernel) (by decide +kernel)
theorem k1084 : Cond.methodLink RL 229 yL_quantize ∈ GW := gm 1084 (by decide +kernel) (by decide +kernel)
theorem k1085 : Cond.static yL_quantize ∈ GW := gm 1085 (by decide +kernel) (by decide +kernel)
theorem k1086 : Cond.codeWith yL_quantize cL_quantize 4 (some .int) [(0, 8, 11, 19)] ∈ GW := gm 1086 (by decide +kernel) (by decide +kernel)
theorem k1100 : Cond.methodLink RL 232 yL_keepLargest ∈ GW := gm 1100 (by decide +kernel) (by decide +kernel)
theorem k1101 : Cond.static yL_keepLargest ∈ GW := gm 1101 (by decide +kernel) (by decide +kernel)
theorem k1102 : Cond.codeWith yL_keepLargest cL_keepLargest 4 (some .int) [(0, 8, 11, 19)] ∈ GW := gm 1102 (by decide +kernel) (by decide +kernel)
theorem k1116 : Cond.methodLink RL 235 yL_error ∈ GW := gm 1116 (by decide +kernel) (by decide +kernel)
theorem k1117 : Cond.static yL_error ∈ GW := gm 1117 (by decide +kernel) (by decide +kernel)
theorem k1118 : Cond.codeWith yL_error cL_error 4 (some .int) [(0, 8, 11, 19)] ∈ GW := gm 1118 (by decide +kernel) (by decide +kernel)
theorem k1149 : Cond.methodLink RL 238 yL_errorWith ∈ GW := gm 1149 (by decide +kernel) (by decide +kernel)
theorem k1150 : Cond.static yL_errorWith ∈ GW := gm 1150 (by decide +kernel) (by decide +kernel)
theorem k1151 : Cond.codeWith yL_errorWith cL_errorWith 5 (some .int) [(0, 9, 12, 19)] ∈ GW := gm 1151 (by decide +kernel) (by decide +kernel)
theorem k1160 : Cond.methodLink RL 241 yL_bestThreshold ∈ GW := gm 1160 (by decide +kernel) (by decide +kernel)
theorem k1161 : Cond.static yL_bestThreshold ∈ GW := gm 1161 (by decide +kernel) (by decide +kernel)
theorem k1162 : Cond.codeWith yL_bestThreshold cL_bestThreshold 4 (some .int) [(0, 9, 12, 19), (0, 9, 15, 51)] ∈ GW := gm 1162 (by decide +kernel) (by decide +kernel)
theorem k1175 : Cond.methodLink RL 244 yL_bitsBy ∈ GW := gm 1175 (by decide +kernel) (by decide +kernel)
theorem k1176 : Cond.static yL_bitsBy ∈ GW := gm 1176 (by decide +kernel) (by decide +kernel)
theorem k1177 : Cond.codeWith yL_bitsBy cL_bitsBy 5 (some .int) [(0, 10, 13, 19)] ∈ GW := gm 1177 (by decide +kernel) (by decide +kernel)
theorem k1182 : Cond.methodLink RL 251 yL_reason ∈ GW := gm 1182 (by decide +kernel) (by decide +kernel)
theorem k1183 : Cond.static yL_reason ∈ GW := gm 1183 (by decide +kernel) (by decide +kernel)
theorem k1184 : Cond.codeWith yL_reason cL_reason 4 (some .int) [(0, 9, 12, 19)] ∈ GW := gm 1184 (by decide +kernel) (by decide +kernel)
theorem k1189 : Cond.methodLink RL 258 yL_save ∈ GW := gm 1189 (by decide +kernel) (by decide +kernel)
theorem k1190 : Cond.static yL_save ∈ GW := gm 1190 (by decide +kernel) (by decide +kernel)
theorem k1191 : Cond.codeWith yL_save cL_save 3 (some .int) [(0, 5, 8, 13)] ∈ GW := gm 1191 (by decide +kernel) (by decide +kernel)
theorem k1196 : Cond.methodLink RL 262 yL_restore ∈ GW := gm 1196 (by decide +kernel) (by decide +kernel)
theorem k1197 : Cond.static yL_restore ∈ GW := gm 1197 (by decide +kernel) (by decide +kernel)
theorem k1198 : Cond.codeWith yL_restore cL_restore 3 (some .int) [(0, 5, 8, 13), (0, 5, 11, 51)] ∈ GW := gm 1198 (by decide +kernel) (by decide +kernel)
theorem k1301 : Cond.methodLink RL 193 yX6_thrown ∈ GW := gm 1301 (by decide +kernel) (by decide +kernel)
theorem k1302 : Cond.instanceMethod yX6_thrown ∈ GW := gm 1302 (by decide +kernel) (by decide +kernel)
theorem k1303 : Cond.selects RX6 yX6_thrown yX6_thrown ∈ GW := gm 1303 (by decide +kernel) (by decide +kernel)
theorem k1304 : Cond.code yX6_thrown cX6_thrown 1 (some .int) ∈ GW := gm 1304 (by decide +kernel) (by decide +kernel)
theorem k1305 : Cond.methodLink RL 120 yX6_append ∈ GW := gm 1305 (by decide +kernel) (by decide +kernel)
theorem k1306 : Cond.instanceMethod yX6_append ∈ GW := gm 1306 (by decide +kernel) (by decide +kernel)
theorem k1307 : Cond.selects RX6 yX6_append yX6_append ∈ GW := gm 1307 (by decide +kernel) (by decide +kernel)
theorem k1308 : Cond.code yX6_append cX6_append 6 (some .int) ∈ GW := gm 1308 (by decide +kernel) (by decide +kernel)
theorem k1313 : Cond.methodLink RL 126 yX6_truncate ∈ GW := gm 1313 (by decide +kernel) (by decide +kernel)
theorem k1314 : Cond.instanceMethod yX6_truncate ∈ GW := gm 1314 (by decide +kernel) (by decide +kernel)
theorem k1315 : Cond.selects RX6 yX6_truncate yX6_truncate ∈ GW := gm 1315 (by decide +kernel) (by decide +kernel)
theorem k1316 : Cond.code yX6_truncate cX6_truncate 2 (some .int) ∈ GW := gm 1316 (by decide +kernel) (by decide +kernel)
theorem k1324 : Cond.methodLink RL 130 yX6_load ∈ GW := gm 1324 (by decide +kernel) (by decide +kernel)
theorem k1325 : Cond.instanceMethod yX6_load ∈ GW := gm 1325 (by decide +kernel) (by decide +kernel)
theorem k1326 : Cond.selects RX6 yX6_load yX6_load ∈ GW := gm 1326 (by decide +kernel) (by decide +kernel)
theorem k1327 : Cond.code yX6_load cX6_load 1 (some .int) ∈ GW := gm 1327 (by decide +kernel) (by decide +kernel)
theorem k1399 : Cond.methodLink RL 134 yX6_errorCode ∈ GW := gm 1399 (by decide +kernel) (by decide +kernel)
theorem k1400 : Cond.instanceMethod yX6_errorCode ∈ GW := gm 1400 (by decide +kernel) (by decide +kernel)
theorem k1401 : Cond.selects RX6 yX6_errorCode yX6_errorCode ∈ GW := gm 1401 (by decide +kernel) (by decide +kernel)
theorem k1402 : Cond.code yX6_errorCode cX6_errorCode 1 (some .int) ∈ GW := gm 1402 (by decide +kernel) (by decide +kernel)
theorem k1403 : Cond.methodLink RL 138 yX6_errorPosition ∈ GW := gm 1403 (by decide +kernel) (by decide +kernel)
theorem k1404 : Cond.instanceMethod yX6_errorPosition ∈ GW := gm 1404 (by decide +kernel) (by decide +kernel)
theorem k1405 : Cond.selects RX6 yX6_errorPosition yX6_errorPosition ∈ GW := gm 1405 (by decide +kernel) (by decide +kernel)
theorem k1406 : Cond.code yX6_errorPosition cX6_errorPosition 1 (some .int) ∈ GW := gm 1406 (by decide +kernel) (by decide +kernel)
theorem k1407 : Cond.methodLink RL 141 yX6_count ∈ GW := gm 1407 (by decide +kernel) (by decide +kernel)
theorem k1408 : Cond.instanceMethod yX6_count ∈ GW := gm 1408 (by decide +kernel) (by decide +kernel)
theorem k1409 : Cond.selects RX6 yX6_count yX6_count ∈ GW := gm 1409 (by decide +kernel) (by decide +kernel)
theorem k1410 : Cond.code yX6_count cX6_count 2 (some .int) ∈ GW := gm 1410 (by decide +kernel) (by decide +kernel)
theorem k1436 : Cond.methodLink RL 145 yX6_sample ∈ GW := gm 1436 (by decide +kernel) (by decide +kernel)
theorem k1437 : Cond.instanceMethod yX6_sample ∈ GW := gm 1437 (by decide +kernel) (by decide +kernel)
theorem k1438 : Cond.selects RX6 yX6_sample yX6_sample ∈ GW := gm 1438 (by decide +kernel) (by decide +kernel)
theorem k1439 : Cond.code yX6_sample cX6_sample 3 (some .long) ∈ GW := gm 1439 (by decide +kernel) (by decide +kernel)
theorem k1445 : Cond.methodLink RL 148 yX6_present ∈ GW := gm 1445 (by decide +kernel) (by decide +kernel)
theorem k1446 : Cond.instanceMethod yX6_present ∈ GW := gm 1446 (by decide +kernel) (by decide +kernel)
theorem k1447 : Cond.selects RX6 yX6_present yX6_present ∈ GW := gm 1447 (by decide +kernel) (by decide +kernel)
theorem k1448 : Cond.code yX6_present cX6_present 4 (some .int) ∈ GW := gm 1448 (by decide +kernel) (by decide +kernel)
theorem k1453 : Cond.methodLink RL 152 yX6_neighbour ∈ GW := gm 1453 (by decide +kernel) (by decide +kernel)
theorem k1454 : Cond.instanceMethod yX6_neighbour ∈ GW := gm 1454 (by decide +kernel) (by decide +kernel)
theorem k1455 : Cond.selects RX6 yX6_neighbour yX6_neighbour ∈ GW := gm 1455 (by decide +kernel) (by decide +kernel)
theorem k1456 : Cond.code yX6_neighbour cX6_neighbour 3 (some .int) ∈ GW := gm 1456 (by decide +kernel) (by decide +kernel)
theorem k1457 : Cond.methodLink RL 155 yX6_step ∈ GW := gm 1457 (by decide +kernel) (by decide +kernel)
theorem k1458 : Cond.instanceMethod yX6_step ∈ GW := gm 1458 (by decide +kernel) (by decide +kernel)
theorem k1459 : Cond.selects RX6 yX6_step yX6_step ∈ GW := gm 1459 (by decide +kernel) (by decide +kernel)
theorem k1460 : Cond.code yX6_step cX6_step 3 (some .long) ∈ GW := gm 1460 (by decide +kernel) (by decide +kernel)
theorem k1465 : Cond.methodLink RL 158 yX6_valueAt ∈ GW := gm 1465 (by decide +kernel) (by decide +kernel)
theorem k1466 : Cond.instanceMethod yX6_valueAt ∈ GW := gm 1466 (by decide +kernel) (by decide +kernel)
theorem k1467 : Cond.selects RX6 yX6_valueAt yX6_valueAt ∈ GW := gm 1467 (by decide +kernel) (by decide +kernel)
theorem k1468 : Cond.code yX6_valueAt cX6_valueAt 4 (some .long) ∈ GW := gm 1468 (by decide +kernel) (by decide +kernel)
theorem k1472 : Cond.methodLink RL 163 yX6_integral ∈ GW := gm 1472 (by decide +kernel) (by decide +kernel)
theorem k1473 : Cond.instanceMethod yX6_integral ∈ GW := gm 1473 (by decide +kernel) (by decide +kernel)
theorem k1474 : Cond.selects RX6 yX6_integral yX6_integral ∈ GW := gm 1474 (by decide +kernel) (by decide +kernel)
theorem k1475 : Cond.code yX6_integral cX6_integral 1 (some .long) ∈ GW := gm 1475 (by decide +kernel) (by decide +kernel)
theorem k1480 : Cond.methodLink RL 167 yX6_drift ∈ GW := gm 1480 (by decide +kernel) (by decide +kernel)
theorem k1481 : Cond.instanceMethod yX6_drift ∈ GW := gm 1481 (by decide +kernel) (by decide +kernel)
theorem k1482 : Cond.selects RX6 yX6_drift yX6_drift ∈ GW := gm 1482 (by decide +kernel) (by decide +kernel)
theorem k1483 : Cond.code yX6_drift cX6_drift 1 (some .long) ∈ GW := gm 1483 (by decide +kernel) (by decide +kernel)
theorem k1484 : Cond.methodLink RL 170 yX6_mean ∈ GW := gm 1484 (by decide +kernel) (by decide +kernel)
theorem k1485 : Cond.instanceMethod yX6_mean ∈ GW := gm 1485 (by decide +kernel) (by decide +kernel)
theorem k1486 : Cond.selects RX6 yX6_mean yX6_mean ∈ GW := gm 1486 (by decide +kernel) (by decide +kernel)
theorem k1487 : Cond.code yX6_mean cX6_mean 4 (some .long) ∈ GW := gm 1487 (by decide +kernel) (by decide +kernel)
theorem k1494 : Cond.methodLink RL 175 yX6_plainMean ∈ GW := gm 1494 (by decide +kernel) (by decide +kernel)
theorem k1495 : Cond.instanceMethod yX6_plainMean ∈ GW := gm 1495 (by decide +kernel) (by decide +kernel)
theorem k1496 : Cond.selects RX6 yX6_plainMean yX6_plainMean ∈ GW := gm 1496 (by decide +kernel) (by decide +kernel)
theorem k1497 : Cond.code yX6_plainMean cX6_plainMean 4 (some .double) ∈ GW := gm 1497 (by decide +kernel) (by decide +kernel)
theorem k1498 : Cond.methodLink RL 179 yX6_energy ∈ GW := gm 1498 (by decide +kernel) (by decide +kernel)
theorem k1499 : Cond.instanceMethod yX6_energy ∈ GW := gm 1499 (by decide +kernel) (by decide +kernel)
theorem k1500 : Cond.selects RX6 yX6_energy yX6_energy ∈ GW := gm 1500 (by decide +kernel) (by decide +kernel)
theorem k1501 : Cond.code yX6_energy cX6_energy 4 (some .long) ∈ GW := gm 1501 (by decide +kernel) (by decide +kernel)
theorem k1502 : Cond.methodLink RL 183 yX6_bits ∈ GW := gm 1502 (by decide +kernel) (by decide +kernel)
theorem k1503 : Cond.instanceMethod yX6_bits ∈ GW := gm 1503 (by decide +kernel) (by decide +kernel)
theorem k1504 : Cond.selects RX6 yX6_bits yX6_bits ∈ GW := gm 1504 (by decide +kernel) (by decide +kernel)
theorem k1505 : Cond.code yX6_bits cX6_bits 1 (some .int) ∈ GW := gm 1505 (by decide +kernel) (by decide +kernel)
theorem k1511 : Cond.methodLink RL 186 yX6_largest ∈ GW := gm 1511 (by decide +kernel) (by decide +kernel)
theorem k1512 : Cond.instanceMethod yX6_largest ∈ GW := gm 1512 (by decide +kernel) (by decide +kernel)
theorem k1513 : Cond.selects RX6 yX6_largest yX6_largest ∈ GW := gm 1513 (by decide +kernel) (by decide +kernel)
theorem k1514 : Cond.code yX6_largest cX6_largest 3 (some .int) ∈ GW := gm 1514 (by decide +kernel) (by decide +kernel)
theorem k1519 : Cond.methodLink RL 189 yX6_next ∈ GW := gm 1519 (by decide +kernel) (by decide +kernel)
theorem k1520 : Cond.instanceMethod yX6_next ∈ GW := gm 1520 (by decide +kernel) (by decide +kernel)
theorem k1521 : Cond.selects RX6 yX6_next yX6_next ∈ GW := gm 1521 (by decide +kernel) (by decide +kernel)
theorem k1522 : Cond.code yX6_next cX6_next 2 (some .int) ∈ GW := gm 1522 (by decide +kernel) (by decide +kernel)
theorem k1547 : Cond.methodLink RL 192 yX6_setSplit ∈ GW := gm 1547 (by decide +kernel) (by decide +kernel)
theorem k1548 : Cond.instanceMethod yX6_setSplit ∈ GW := gm 1548 (by decide +kernel) (by decide +kernel)
theorem k1549 : Cond.selects RX6 yX6_setSplit yX6_setSplit ∈ GW := gm 1549 (by decide +kernel) (by decide +kernel)
theorem k1550 : Cond.code yX6_setSplit cX6_setSplit 2 (some .int) ∈ GW := gm 1550 (by decide +kernel) (by decide +kernel)
theorem k1555 : Cond.methodLink RL 198 yX6_setPredict ∈ GW := gm 1555 (by decide +kernel) (by decide +kernel)
theorem k1556 : Cond.instanceMethod yX6_setPredict ∈ GW := gm 1556 (by decide +kernel) (by decide +kernel)
theorem k1557 : Cond.selects RX6 yX6_setPredict yX6_setPredict ∈ GW := gm 1557 (by decide +kernel) (by decide +kernel)
theorem k1558 : Cond.code yX6_setPredict cX6_setPredict 2 (some .int) ∈ GW := gm 1558 (by decide +kernel) (by decide +kernel)
theorem k1559 : Cond.methodLink RL 203 yX6_setUpdate ∈ GW := gm 1559 (by decide +kernel) (by decide +kernel)
theorem k1560 : Cond.instanceMethod yX6_setUpdate ∈ GW := gm 1560 (by decide +kernel) (by decide +kernel)
theorem k1561 : Cond.selects RX6 yX6_setUpdate yX6_setUpdate ∈ GW := gm 1561 (by decide +kernel) (by decide +kernel)
theorem k1562 : Cond.code yX6_setUpdate cX6_setUpdate 2 (some .boolean) ∈ GW := gm 1562 (by decide +kernel) (by decide +kernel)
theorem k1563 : Cond.methodLink RL 206 yX6_set ∈ GW := gm 1563 (by decide +kernel) (by decide +kernel)
theorem k1564 : Cond.instanceMethod yX6_set ∈ GW := gm 1564 (by decide +kernel) (by decide +kernel)
theorem k1565 : Cond.selects RX6 yX6_set yX6_set ∈ GW := gm 1565 (by decide +kernel) (by decide +kernel)
theorem k1566 : Cond.code yX6_set cX6_set 5 (some .long) ∈ GW := gm 1566 (by decide +kernel) (by decide +kernel)
theorem k1573 : Cond.methodLink RL 209 yX6_noise ∈ GW := gm 1573 (by decide +kernel) (by decide +kernel)
theorem k1574 : Cond.instanceMethod yX6_noise ∈ GW := gm 1574 (by decide +kernel) (by decide +kernel)
theorem k1575 : Cond.selects RX6 yX6_noise yX6_noise ∈ GW := gm 1575 (by decide +kernel) (by decide +kernel)
theorem k1576 : Cond.code yX6_noise cX6_noise 7 (some .long) ∈ GW := gm 1576 (by decide +kernel) (by decide +kernel)
theorem k1579 : Cond.methodLink RL 213 yX6_reset ∈ GW := gm 1579 (by decide +kernel) (by decide +kernel)
theorem k1580 : Cond.instanceMethod yX6_reset ∈ GW := gm 1580 (by decide +kernel) (by decide +kernel)
theorem k1581 : Cond.selects RX6 yX6_reset yX6_reset ∈ GW := gm 1581 (by decide +kernel) (by decide +kernel)
theorem k1582 : Cond.code yX6_reset cX6_reset 2 (some .int) ∈ GW := gm 1582 (by decide +kernel) (by decide +kernel)
theorem k1583 : Cond.methodLink RL 216 yX6_forward ∈ GW := gm 1583 (by decide +kernel) (by decide +kernel)
theorem k1584 : Cond.instanceMethod yX6_forward ∈ GW := gm 1584 (by decide +kernel) (by decide +kernel)
theorem k1585 : Cond.selects RX6 yX6_forward yX6_forward ∈ GW := gm 1585 (by decide +kernel) (by decide +kernel)
theorem k1586 : Cond.code yX6_forward cX6_forward 2 (some .int) ∈ GW := gm 1586 (by decide +kernel) (by decide +kernel)
theorem k1608 : Cond.methodLink RL 219 yX6_lift ∈ GW := gm 1608 (by decide +kernel) (by decide +kernel)
theorem k1609 : Cond.instanceMethod yX6_lift ∈ GW := gm 1609 (by decide +kernel) (by decide +kernel)
theorem k1610 : Cond.selects RX6 yX6_lift yX6_lift ∈ GW := gm 1610 (by decide +kernel) (by decide +kernel)
theorem k1611 : Cond.code yX6_lift cX6_lift 2 (some .long) ∈ GW := gm 1611 (by decide +kernel) (by decide +kernel)
theorem k1612 : Cond.methodLink RL 222 yX6_inverse ∈ GW := gm 1612 (by decide +kernel) (by decide +kernel)
theorem k1613 : Cond.instanceMethod yX6_inverse ∈ GW := gm 1613 (by decide +kernel) (by decide +kernel)
theorem k1614 : Cond.selects RX6 yX6_inverse yX6_inverse ∈ GW := gm 1614 (by decide +kernel) (by decide +kernel)
theorem k1615 : Cond.code yX6_inverse cX6_inverse 3 (some .int) ∈ GW := gm 1615 (by decide +kernel) (by decide +kernel)
theorem k1620 : Cond.methodLink RL 225 yX6_setDetail ∈ GW := gm 1620 (by decide +kernel) (by decide +kernel)
theorem k1621 : Cond.instanceMethod yX6_setDetail ∈ GW := gm 1621 (by decide +kernel) (by decide +kernel)
theorem k1622 : Cond.selects RX6 yX6_setDetail yX6_setDetail ∈ GW := gm 1622 (by decide +kernel) (by decide +kernel)
theorem k1623 : Cond.code yX6_setDetail cX6_setDetail 5 (some .long) ∈ GW := gm 1623 (by decide +kernel) (by decide +kernel)
theorem k1626 : Cond.methodLink RL 228 yX6_threshold ∈ GW := gm 1626 (by decide +kernel) (by decide +kernel)
theorem k1627 : Cond.instanceMethod yX6_threshold ∈ GW := gm 1627 (by decide +kernel) (by decide +kernel)
theorem k1628 : Cond.selects RX6 yX6_threshold yX6_threshold ∈ GW := gm 1628 (by decide +kernel) (by decide +kernel)
theorem k1629 : Cond.code yX6_threshold cX6_threshold 3 (some .int) ∈ GW := gm 1629 (by decide +kernel) (by decide +kernel)
theorem k1634 : Cond.methodLink RL 231 yX6_quantize ∈ GW := gm 1634 (by decide +kernel) (by decide +kernel)
theorem k1635 : Cond.instanceMethod yX6_quantize ∈ GW := gm 1635 (by decide +kernel) (by decide +kernel)
theorem k1636 : Cond.selects RX6 yX6_quantize yX6_quantize ∈ GW := gm 1636 (by decide +kernel) (by decide +kernel)
theorem k1637 : Cond.code yX6_quantize cX6_quantize 13 (some .long) ∈ GW := gm 1637 (by decide +kernel) (by decide +kernel)
theorem k1638 : Cond.methodLink RL 234 yX6_keepLargest ∈ GW := gm 1638 (by decide +kernel) (by decide +kernel)
theorem k1639 : Cond.instanceMethod yX6_keepLargest ∈ GW := gm 1639 (by decide +kernel) (by decide +kernel)
theorem k1640 : Cond.selects RX6 yX6_keepLargest yX6_keepLargest ∈ GW := gm 1640 (by decide +kernel) (by decide +kernel)
theorem k1641 : Cond.code yX6_keepLargest cX6_keepLargest 6 (some .long) ∈ GW := gm 1641 (by decide +kernel) (by decide +kernel)
theorem k1642 : Cond.methodLink RL 237 yX6_error ∈ GW := gm 1642 (by decide +kernel) (by decide +kernel)
theorem k1643 : Cond.instanceMethod yX6_error ∈ GW := gm 1643 (by decide +kernel) (by decide +kernel)
theorem k1644 : Cond.selects RX6 yX6_error yX6_error ∈ GW := gm 1644 (by decide +kernel) (by decide +kernel)
theorem k1645 : Cond.code yX6_error cX6_error 2 (some .long) ∈ GW := gm 1645 (by decide +kernel) (by decide +kernel)
theorem k1658 : Cond.methodLink RL 240 yX6_errorWith ∈ GW := gm 1658 (by decide +kernel) (by decide +kernel)
theorem k1659 : Cond.instanceMethod yX6_errorWith ∈ GW := gm 1659 (by decide +kernel) (by decide +kernel)
theorem k1660 : Cond.selects RX6 yX6_errorWith yX6_errorWith ∈ GW := gm 1660 (by decide +kernel) (by decide +kernel)
theorem k1661 : Cond.code yX6_errorWith cX6_errorWith 3 (some .long) ∈ GW := gm 1661 (by decide +kernel) (by decide +kernel)
theorem k1666 : Cond.methodLink RL 243 yX6_bestThreshold ∈ GW := gm 1666 (by decide +kernel) (by decide +kernel)
theorem k1667 : Cond.instanceMethod yX6_bestThreshold ∈ GW := gm 1667 (by decide +kernel) (by decide +kernel)
theorem k1668 : Cond.selects RX6 yX6_bestThreshold yX6_bestThreshold ∈ GW := gm 1668 (by decide +kernel) (by decide +kernel)
theorem k1669 : Cond.code yX6_bestThreshold cX6_bestThreshold 3 (some .int) ∈ GW := gm 1669 (by decide +kernel) (by decide +kernel)
theorem k1670 : Cond.methodLink RL 246 yX6_bitsBy ∈ GW := gm 1670 (by decide +kernel) (by decide +kernel)
theorem k1671 : Cond.instanceMethod yX6_bitsBy ∈ GW := gm 1671 (by decide +kernel) (by decide +kernel)
theorem k1672 : Cond.selects RX6 yX6_bitsBy yX6_bitsBy ∈ GW := gm 1672 (by decide +kernel) (by decide +kernel)
theorem k1673 : Cond.code yX6_bitsBy cX6_bitsBy 3 (some .int) ∈ GW := gm 1673 (by decide +kernel) (by decide +kernel)
theorem k1678 : Cond.methodLink RL 250 yX6_bestScheme ∈ GW := gm 1678 (by decide +kernel) (by decide +kernel)
theorem k1679 : Cond.instanceMethod yX6_bestScheme ∈ GW := gm 1679 (by decide +kernel) (by decide +kernel)
theorem k1680 : Cond.selects RX6 yX6_bestScheme yX6_bestScheme ∈ GW := gm 1680 (by decide +kernel) (by decide +kernel)
theorem k1681 : Cond.code yX6_bestScheme cX6_bestScheme 5 (some .int) ∈ GW := gm 1681 (by decide +kernel) (by decide +kernel)
theorem k1682 : Cond.methodLink RL 253 yX6_reason ∈ GW := gm 1682 (by decide +kernel) (by decide +kernel)
theorem k1683 : Cond.instanceMethod yX6_reason ∈ GW := gm 1683 (by decide +kernel) (by decide +kernel)
theorem k1684 : Cond.selects RX6 yX6_reason yX6_reason ∈ GW := gm 1684 (by decide +kernel) (by decide +kernel)
theorem k1685 : Cond.code yX6_reason cX6_reason 2 (some .int) ∈ GW := gm 1685 (by decide +kernel) (by decide +kernel)
theorem k1686 : Cond.methodLink RL 257 yX6_reasonSample ∈ GW := gm 1686 (by decide +kernel) (by decide +kernel)
theorem k1687 : Cond.instanceMethod yX6_reasonSample ∈ GW := gm 1687 (by decide +kernel) (by decide +kernel)
theorem k1688 : Cond.selects RX6 yX6_reasonSample yX6_reasonSample ∈ GW := gm 1688 (by decide +kernel) (by decide +kernel)
theorem k1689 : Cond.code yX6_reasonSample cX6_reasonSample 1 (some .int) ∈ GW := gm 1689 (by decide +kernel) (by decide +kernel)
theorem k1690 : Cond.methodLink RL 261 yX6_save ∈ GW := gm 1690 (by decide +kernel) (by decide +kernel)
theorem k1691 : Cond.instanceMethod yX6_save ∈ GW := gm 1691 (by decide +kernel) (by decide +kernel)
theorem k1692 : Cond.selects RX6 yX6_save yX6_save ∈ GW := gm 1692 (by decide +kernel) (by decide +kernel)
theorem k1693 : Cond.code yX6_save cX6_save 3 none ∈ GW := gm 1693 (by decide +kernel) (by decide +kernel)
theorem k1694 : Cond.methodLink RL 264 yX6_restore ∈ GW := gm 1694 (by decide +kernel) (by decide +kernel)
theorem k1695 : Cond.instanceMethod yX6_restore ∈ GW := gm 1695 (by decide +kernel) (by decide +kernel)
theorem k1696 : Cond.selects RX6 yX6_restore yX6_restore ∈ GW := gm 1696 (by decide +kernel) (by decide +kernel)
theorem k1697 : Cond.code yX6_restore cX6_restore 3 none ∈ GW := gm 1697 (by decide +kernel) (by decide +kernel)
theorem dL_law_220 : decode cL_law 220 = .ok (.aload_n 1, 1) := by decide +kernel
theorem dL_law_221 : decode cL_law 221 = .ok (.aload_n 0, 1) := by decide +kernel
theorem dL_law_222 : decode cL_law 222 = .ok (.iload 4, 2) := by decide +kernel
theorem dL_law_224 : decode cL_law 224 = .ok (.iconst 1, 1) := by decide +kernel
theorem dL_law_225 : decode cL_law 225 = .ok (.iadd, 1) := by decide +kernel
theorem dL_law_226 : decode cL_law 226 = .ok (.iaload, 1) := by decide +kernel
theorem dL_law_227 : decode cL_law 227 = .ok (.aload_n 0, 1) := by decide +kernel
theorem dL_law_228 : decode cL_law 228 = .ok (.iload 4, 2) := by decide +kernel
theorem dL_law_230 : decode cL_law 230 = .ok (.iconst 2, 1) := by decide +kernel
theorem dL_law_231 : decode cL_law 231 = .ok (.iadd, 1) := by decide +kernel
theorem dL_law_232 : decode cL_law 232 = .ok (.iaload, 1) := by decide +kernel
theorem dL_law_233 : decode cL_law 233 = .ok (.aload_n 0, 1) := by decide +kernel
theorem dL_law_234 : decode cL_law 234 = .ok (.iload 4, 2) := by decide +kernel
theorem dL_law_236 : decode cL_law 236 = .ok (.iconst 3, 1) := by decide +kernel
theorem dL_law_237 : decode cL_law 237 = .ok (.iadd, 1) := by decide +kernel
theorem dL_law_238 : decode cL_law 238 = .ok (.iaload, 1) := by decide +kernel
theorem dL_law_239 : decode cL_law 239 = .ok (.aload_n 0, 1) := by decide +kernel
theorem dL_law_240 : decode cL_law 240 = .ok (.iload 4, 2) := by decide +kernel
theorem dL_law_242 : decode cL_law 242 = .ok (.iconst 4, 1) := by decide +kernel
theorem dL_law_243 : decode cL_law 243 = .ok (.iadd, 1) := by decide +kernel
theorem dL_law_244 : decode cL_law 244 = .ok (.iaload, 1) := by decide +kernel
theorem dL_law_245 : decode cL_law 245 = .ok (.aload_n 0, 1) := by decide +kernel
theorem dL_law_246 : decode cL_law 246 = .ok (.iload 4, 2) := by decide +kernel
theorem dL_law_248 : decode cL_law 248 = .ok (.iconst 5, 1) := by decide +kernel
theorem dL_law_249 : decode cL_law 249 = .ok (.iadd, 1) := by decide +kernel
theorem dL_law_250 : decode cL_law 250 = .ok (.iaload, 1) := by decide +kernel
theorem dL_law_251 : decode cL_law 251 = .ok (.invokevirtual 116, 3) := by decide +kernel
theorem dL_law_254 : decode cL_law 254 = .ok (.pop, 1) := by decide +kernel
theorem dL_law_255 : decode cL_law 255 = .ok (.aload_n 2, 1) := by decide +kernel
theorem dL_law_256 : decode cL_law 256 = .ok (.aload_n 0, 1) := by decide +kernel
theorem dL_law_257 : decode cL_law 257 = .ok (.iload 4, 2) := by decide +kernel
theorem dL_law_259 : decode cL_law 259 = .ok (.iconst 1, 1) := by decide +kernel
theorem dL_law_260 : decode cL_law 260 = .ok (.iadd, 1) := by decide +kernel
theorem dL_law_261 : decode cL_law 261 = .ok (.iaload, 1) := by decide +kernel
theorem dL_law_262 : decode cL_law 262 = .ok (.aload_n 0, 1) := by decide +kernel
theorem dL_law_263 : decode cL_law 263 = .ok (.iload 4, 2) := by decide +kernel
theorem dL_law_265 : decode cL_law 265 = .ok (.iconst 2, 1) := by decide +kernel
theorem dL_law_266 : decode cL_law 266 = .ok (.iadd, 1) := by decide +kernel
theorem dL_law_267 : decode cL_law 267 = .ok (.iaload, 1) := by decide +kernel
theorem dL_law_268 : decode cL_law 268 = .ok (.aload_n 0, 1) := by decide +kernel
theorem dL_law_269 : decode cL_law 269 = .ok (.iload 4, 2) := by decide +kernel
theorem dL_law_271 : decode cL_law 271 = .ok (.iconst 3, 1) := by decide +kernel
theorem dL_law_272 : decode cL_law 272 = .ok (.iadd, 1) := by decide +kernel
theorem dL_law_273 : decode cL_law 273 = .ok (.iaload, 1) := by decide +kernel
theorem dL_law_274 : decode cL_law 274 = .ok (.aload_n 0, 1) := by decide +kernel
theorem dL_law_275 : decode cL_law 275 = .ok (.iload 4, 2) := by decide +kernel
theorem dL_law_277 : decode cL_law 277 = .ok (.iconst 4, 1) := by decide +kernel
theorem dL_law_278 : decode cL_law 278 = .ok (.iadd, 1) := by decide +kernel
theorem dL_law_279 : decode cL_law 279 = .ok (.iaload, 1) := by decide +kernel
theorem dL_law_280 : decode cL_law 280 = .ok (.aload_n 0, 1) := by decide +kernel
theorem dL_law_281 : decode cL_law 281 = .ok (.iload 4, 2) := by decide +kernel
theorem dL_law_283 : decode cL_law 283 = .ok (.iconst 5, 1) := by decide +kernel
theorem dL_law_284 : decode cL_law 284 = .ok (.iadd, 1) := by decide +kernel
theorem dL_law_285 : decode cL_law 285 = .ok (.iaload, 1) := by decide +kernel
theorem dL_law_286 : decode cL_law 286 = .ok (.invokevirtual 120, 3) := by decide +kernel
theorem dL_law_289 : decode cL_law 289 = .ok (.pop, 1) := by decide +kernel
theorem dL_law_290 : decode cL_law 290 = .ok (.goto 1142, 3) := by decide +kernel
theorem dL_law_293 : decode cL_law 293 = .ok (.aload_n 1, 1) := by decide +kernel
theorem dL_law_294 : decode cL_law 294 = .ok (.aload_n 0, 1) := by decide +kernel
theorem dL_law_295 : decode cL_law 295 = .ok (.iload 4, 2) := by decide +kernel
theorem dL_law_297 : decode cL_law 297 = .ok (.iconst 1, 1) := by decide +kernel
theorem dL_law_298 : decode cL_law 298 = .ok (.iadd, 1) := by decide +kernel
theorem dL_law_299 : decode cL_law 299 = .ok (.iaload, 1) := by decide +kernel
theorem dL_law_300 : decode cL_law 300 = .ok (.aload_n 3, 1) := by decide +kernel
theorem dL_law_301 : decode cL_law 301 = .ok (.invokestatic 121, 3) := by decide +kernel
theorem dL_law_304 : decode cL_law 304 = .ok (.istore 5, 2) := by decide +kernel
theorem dL_law_306 : decode cL_law 306 = .ok (.aload_n 2, 1) := by decide +kernel
theorem dL_law_307 : decode cL_law 307 = .ok (.aload_n 0, 1) := by decide +kernel
theorem dL_law_308 : decode cL_law 308 = .ok (.iload 4, 2) := by decide +kernel
theorem dL_law_310 : decode cL_law 310 = .ok (.iconst 1, 1) := by decide +kernel
theorem dL_law_311 : decode cL_law 311 = .ok (.iadd, 1) := by decide +kernel
theorem dL_law_312 : decode cL_law 312 = .ok (.iaload, 1) := by decide +kernel
theorem dL_law_313 : decode cL_law 313 = .ok (.invokevirtual 126, 3) := by decide +kernel
theorem dL_law_316 : decode cL_law 316 = .ok (.istore 6, 2) := by decide +kernel
theorem dL_law_318 : decode cL_law 318 = .ok (.goto 1114, 3) := by decide +kernel
theorem dL_law_321 : decode cL_law 321 = .ok (.aload_n 1, 1) := by decide +kernel
theorem dL_law_322 : decode cL_law 322 = .ok (.aload_n 3, 1) := by decide +kernel
theorem dL_law_323 : decode cL_law 323 = .ok (.invokestatic 127, 3) := by decide +kernel
theorem dL_law_326 : decode cL_law 326 = .ok (.istore 5, 2) := by decide +kernel
theorem dL_law_328 : decode cL_law 328 = .ok (.aload_n 2, 1) := by decide +kernel
theorem dL_law_329 : decode cL_law 329 = .ok (.invokevirtual 130, 3) := by decide +kernel
theorem dL_law_332 : decode cL_law 332 = .ok (.istore 6, 2) := by decide +kernel
theorem dL_law_334 : decode cL_law 334 = .ok (.goto 1098, 3) := by decide +kernel
theorem dL_law_337 : decode cL_law 337 = .ok (.aload_n 1, 1) := by decide +kernel
theorem dL_law_338 : decode cL_law 338 = .ok (.invokevirtual 131, 3) := by decide +kernel
theorem dL_law_341 : decode cL_law 341 = .ok (.pop, 1) := by decide +kernel
theorem dL_law_342 : decode cL_law 342 = .ok (.aload_n 2, 1) := by decide +kernel
theorem dL_law_343 : decode cL_law 343 = .ok (.invokevirtual 134, 3) := by decide +kernel
theorem dL_law_346 : decode cL_law 346 = .ok (.pop, 1) := by decide +kernel
theorem dL_law_347 : decode cL_law 347 = .ok (.goto 1085, 3) := by decide +kernel
theorem dL_law_350 : decode cL_law 350 = .ok (.aload_n 1, 1) := by decide +kernel
theorem dL_law_351 : decode cL_law 351 = .ok (.invokevirtual 135, 3) := by decide +kernel
theorem dL_law_354 : decode cL_law 354 = .ok (.pop, 1) := by decide +kernel
theorem dL_law_355 : decode cL_law 355 = .ok (.aload_n 2, 1) := by decide +kernel
theorem dL_law_356 : decode cL_law 356 = .ok (.invokevirtual 138, 3) := by decide +kernel
theorem dL_law_359 : decode cL_law 359 = .ok (.pop, 1) := by decide +kernel
theorem dL_law_360 : decode cL_law 360 = .ok (.goto 1072, 3) := by decide +kernel
theorem dL_law_363 : decode cL_law 363 = .ok (.aload_n 1, 1) := by decide +kernel
theorem dL_law_364 : decode cL_law 364 = .ok (.aload_n 0, 1) := by decide +kernel
theorem dL_law_365 : decode cL_law 365 = .ok (.iload 4, 2) := by decide +kernel
theorem dL_law_367 : decode cL_law 367 = .ok (.iconst 1, 1) := by decide +kernel
theorem dL_law_368 : decode cL_law 368 = .ok (.iadd, 1) := by decide +kernel
theorem dL_law_369 : decode cL_law 369 = .ok (.iaload, 1) := by decide +kernel
theorem dL_law_370 : decode cL_law 370 = .ok (.aload_n 3, 1) := by decide +kernel
theorem dL_law_371 : decode cL_law 371 = .ok (.invokestatic 139, 3) := by decide +kernel
theorem dL_law_374 : decode cL_law 374 = .ok (.istore 5, 2) := by decide +kernel
theorem dL_law_376 : decode cL_law 376 = .ok (.aload_n 2, 1) := by decide +kernel
theorem dL_law_377 : decode cL_law 377 = .ok (.aload_n 0, 1) := by decide +kernel
theorem dL_law_378 : decode cL_law 378 = .ok (.iload 4, 2) := by decide +kernel
theorem dL_law_380 : decode cL_law 380 = .ok (.iconst 1, 1) := by decide +kernel
theorem dL_law_381 : decode cL_law 381 = .ok (.iadd, 1) := by decide +kernel
theorem dL_law_382 : decode cL_law 382 = .ok (.iaload, 1) := by decide +kernel
theorem dL_law_383 : decode cL_law 383 = .ok (.invokevirtual 141, 3) := by decide +kernel
theorem dL_law_386 : decode cL_law 386 = .ok (.istore 6, 2) := by decide +kernel
theorem dL_law_388 : decode cL_law 388 = .ok (.goto 1044, 3) := by decide +kernel
theorem dL_law_391 : decode cL_law 391 = .ok (.aload_n 1, 1) := by decide +kernel
theorem dL_law_392 : decode cL_law 392 = .ok (.aload_n 0, 1) := by decide +kernel
theorem dL_law_393 : decode cL_law 393 = .ok (.iload 4, 2) := by decide +kernel
theorem dL_law_395 : decode cL_law 395 = .ok (.iconst 1, 1) := by decide +kernel
theorem dL_law_396 : decode cL_law 396 = .ok (.iadd, 1) := by decide +kernel
theorem dL_law_397 : decode cL_law 397 = .ok (.iaload, 1) := by decide +kernel
theorem dL_law_398 : decode cL_law 398 = .ok (.aload_n 0, 1) := by decide +kernel
theorem dL_law_399 : decode cL_law 399 = .ok (.iload 4, 2) := by decide +kernel
theorem dL_law_401 : decode cL_law 401 = .ok (.iconst 2, 1) := by decide +kernel
theorem dL_law_402 : decode cL_law 402 = .ok (.iadd, 1) := by decide +kernel
theorem dL_law_403 : decode cL_law 403 = .ok (.iaload, 1) := by decide +kernel
theorem dL_law_404 : decode cL_law 404 = .ok (.aload_n 3, 1) := by decide +kernel
theorem dL_law_405 : decode cL_law 405 = .ok (.invokestatic 142, 3) := by decide +kernel
theorem dL_law_408 : decode cL_law 408 = .ok (.istore 5, 2) := by decide +kernel
theorem dL_law_410 : decode cL_law 410 = .ok (.aload_n 2, 1) := by decide +kernel
theorem dL_law_411 : decode cL_law 411 = .ok (.aload_n 0, 1) := by decide +kernel
theorem dL_law_412 : decode cL_law 412 = .ok (.iload 4, 2) := by decide +kernel
theorem dL_law_414 : decode cL_law 414 = .ok (.iconst 1, 1) := by decide +kernel
theorem dL_law_415 : decode cL_law 415 = .ok (.iadd, 1) := by decide +kernel
theorem dL_law_416 : decode cL_law 416 = .ok (.iaload, 1) := by decide +kernel
theorem dL_law_417 : decode cL_law 417 = .ok (.aload_n 0, 1) := by decide +kernel
theorem dL_law_418 : decode cL_law 418 = .ok (.iload 4, 2) := by decide +kernel
theorem dL_law_420 : decode cL_law 420 = .ok (.iconst 2, 1) := by decide +kernel
theorem dL_law_421 : decode cL_law 421 = .ok (.iadd, 1) := by decide +kernel
theorem dL_law_422 : decode cL_law 422 = .ok (.iaload, 1) := by decide +kernel
theorem dL_law_423 : decode cL_law 423 = .ok (.invokevirtual 145, 3) := by decide +kernel
theorem dL_law_426 : decode cL_law 426 = .ok (.lstore 6, 2) := by decide +kernel
theorem dL_law_428 : decode cL_law 428 = .ok (.goto 1004, 3) := by decide +kernel
theorem dL_law_431 : decode cL_law 431 = .ok (.aload_n 1, 1) := by decide +kernel
theorem dL_law_432 : decode cL_law 432 = .ok (.aload_n 0, 1) := by decide +kernel
theorem dL_law_433 : decode cL_law 433 = .ok (.iload 4, 2) := by decide +kernel
theorem dL_law_435 : decode cL_law 435 = .ok (.iconst 1, 1) := by decide +kernel
theorem dL_law_436 : decode cL_law 436 = .ok (.iadd, 1) := by decide +kernel
theorem dL_law_437 : decode cL_law 437 = .ok (.iaload, 1) := by decide +kernel
theorem dL_law_438 : decode cL_law 438 = .ok (.aload_n 3, 1) := by decide +kernel
theorem dL_law_439 : decode cL_law 439 = .ok (.invokestatic 146, 3) := by decide +kernel
theorem dL_law_442 : decode cL_law 442 = .ok (.istore 5, 2) := by decide +kernel
theorem dL_law_444 : decode cL_law 444 = .ok (.aload_n 2, 1) := by decide +kernel
theorem dL_law_445 : decode cL_law 445 = .ok (.aload_n 0, 1) := by decide +kernel
theorem dL_law_446 : decode cL_law 446 = .ok (.iload 4, 2) := by decide +kernel
theorem dL_law_448 : decode cL_law 448 = .ok (.iconst 1, 1) := by decide +kernel
theorem dL_law_449 : decode cL_law 449 = .ok (.iadd, 1) := by decide +kernel
theorem dL_law_450 : decode cL_law 450 = .ok (.iaload, 1) := by decide +kernel
theorem dL_law_451 : decode cL_law 451 = .ok (.invokevirtual 148, 3) := by decide +kernel
theorem dL_law_454 : decode cL_law 454 = .ok (.istore 6, 2) := by decide +kernel
theorem dL_law_456 : decode cL_law 456 = .ok (.goto 976, 3) := by decide +kernel
theorem dL_law_459 : decode cL_law 459 = .ok (.aload_n 1, 1) := by decide +kernel
theorem dL_law_460 : decode cL_law 460 = .ok (.aload_n 0, 1) := by decide +kernel
theorem dL_law_461 : decode cL_law 461 = .ok (.iload 4, 2) := by decide +kernel
theorem dL_law_463 : decode cL_law 463 = .ok (.iconst 1, 1) := by decide +kernel
theorem dL_law_464 : decode cL_law 464 = .ok (.iadd, 1) := by decide +kernel
theorem dL_law_465 : decode cL_law 465 = .ok (.iaload, 1) := by decide +kernel
theorem dL_law_466 : decode cL_law 466 = .ok (.aload_n 0, 1) := by decide +kernel
theorem dL_law_467 : decode cL_law 467 = .ok (.iload 4, 2) := by decide +kernel
theorem dL_law_469 : decode cL_law 469 = .ok (.iconst 2, 1) := by decide +kernel
theorem dL_law_470 : decode cL_law 470 = .ok (.iadd, 1) := by decide +kernel
theorem dL_law_471 : decode cL_law 471 = .ok (.iaload, 1) := by decide +kernel
theorem dL_law_472 : decode cL_law 472 = .ok (.ifCond .eq 7, 3) := by decide +kernel
theorem dL_law_475 : decode cL_law 475 = .ok (.iconst 1, 1) := by decide +kernel
theorem dL_law_476 : decode cL_law 476 = .ok (.goto 4, 3) := by decide +kernel
theorem dL_law_479 : decode cL_law 479 = .ok (.iconst 0, 1) := by decide +kernel
theorem dL_law_480 : decode cL_law 480 = .ok (.aload_n 3, 1) := by decide +kernel
theorem dL_law_481 : decode cL_law 481 = .ok (.invokestatic 149, 3) := by decide +kernel
theorem dL_law_484 : decode cL_law 484 = .ok (.istore 5, 2) := by decide +kernel
theorem dL_law_486 : decode cL_law 486 = .ok (.aload_n 2, 1) := by decide +kernel
theorem dL_law_487 : decode cL_law 487 = .ok (.aload_n 0, 1) := by decide +kernel
theorem dL_law_488 : decode cL_law 488 = .ok (.iload 4, 2) := by decide +kernel
theorem dL_law_490 : decode cL_law 490 = .ok (.iconst 1, 1) := by decide +kernel
theorem dL_law_491 : decode cL_law 491 = .ok (.iadd, 1) := by decide +kernel
theorem dL_law_492 : decode cL_law 492 = .ok (.iaload, 1) := by decide +kernel
theorem dL_law_493 : decode cL_law 493 = .ok (.aload_n 0, 1) := by decide +kernel
theorem dL_law_494 : decode cL_law 494 = .ok (.iload 4, 2) := by decide +kernel
theorem dL_law_496 : decode cL_law 496 = .ok (.iconst 2, 1) := by decide +kernel
theorem dL_law_497 : decode cL_law 497 = .ok (.iadd, 1) := by decide +kernel
theorem dL_law_498 : decode cL_law 498 = .ok (.iaload, 1) := by decide +kernel
theorem dL_law_499 : decode cL_law 499 = .ok (.ifCond .eq 7, 3) := by decide +kernel
theorem dL_law_502 : decode cL_law 502 = .ok (.iconst 1, 1) := by decide +kernel
theorem dL_law_503 : decode cL_law 503 = .ok (.goto 4, 3) := by decide +kernel
theorem dL_law_506 : decode cL_law 506 = .ok (.iconst 0, 1) := by decide +kernel
theorem dL_law_507 : decode cL_law 507 = .ok (.invokevirtual 152, 3) := by decide +kernel
theorem dL_law_510 : decode cL_law 510 = .ok (.istore 6, 2) := by decide +kernel
theorem dL_law_512 : decode cL_law 512 = .ok (.goto 920, 3) := by decide +kernel
theorem dL_law_515 : decode cL_law 515 = .ok (.aload_n 1, 1) := by decide +kernel
theorem dL_law_516 : decode cL_law 516 = .ok (.aload_n 0, 1) := by decide +kernel
theorem dL_law_517 : decode cL_law 517 = .ok (.iload 4, 2) := by decide +kernel
theorem dL_law_519 : decode cL_law 519 = .ok (.iconst 1, 1) := by decide +kernel
theorem dL_law_520 : decode cL_law 520 = .ok (.iadd, 1) := by decide +kernel
theorem dL_law_521 : decode cL_law 521 = .ok (.iaload, 1) := by decide +kernel
theorem dL_law_522 : decode cL_law 522 = .ok (.aload_n 0, 1) := by decide +kernel
theorem dL_law_523 : decode cL_law 523 = .ok (.iload 4, 2) := by decide +kernel
theorem dL_law_525 : decode cL_law 525 = .ok (.iconst 2, 1) := by decide +kernel
theorem dL_law_526 : decode cL_law 526 = .ok (.iadd, 1) := by decide +kernel
theorem dL_law_527 : decode cL_law 527 = .ok (.iaload, 1) := by decide +kernel
theorem dL_law_528 : decode cL_law 528 = .ok (.aload_n 3, 1) := by decide +kernel
theorem dL_law_529 : decode cL_law 529 = .ok (.invokestatic 153, 3) := by decide +kernel
theorem dL_law_532 : decode cL_law 532 = .ok (.istore 5, 2) := by decide +kernel
theorem dL_law_534 : decode cL_law 534 = .ok (.aload_n 2, 1) := by decide +kernel
theorem dL_law_535 : decode cL_law 535 = .ok (.aload_n 0, 1) := by decide +kernel
theorem dL_law_536 : decode cL_law 536 = .ok (.iload 4, 2) := by decide +kernel
theorem dL_law_538 : decode cL_law 538 = .ok (.iconst 1, 1) := by decide +kernel
theorem dL_law_539 : decode cL_law 539 = .ok (.iadd, 1) := by decide +kernel
theorem dL_law_540 : decode cL_law 540 = .ok (.iaload, 1) := by decide +kernel
theorem dL_law_541 : decode cL_law 541 = .ok (.aload_n 0, 1) := by decide +kernel
theorem dL_law_542 : decode cL_law 542 = .ok (.iload 4, 2) := by decide +kernel
theorem dL_law_544 : decode cL_law 544 = .ok (.iconst 2, 1) := by decide +kernel
theorem dL_law_545 : decode cL_law 545 = .ok (.iadd, 1) := by decide +kernel
theorem dL_law_546 : decode cL_law 546 = .ok (.iaload, 1) := by decide +kernel
theorem dL_law_547 : decode cL_law 547 = .ok (.invokevirtual 155, 3) := by decide +kernel
theorem dL_law_550 : decode cL_law 550 = .ok (.lstore 6, 2) := by decide +kernel
theorem dL_law_552 : decode cL_law 552 = .ok (.goto 880, 3) := by decide +kernel
theorem dL_law_555 : decode cL_law 555 = .ok (.aload_n 1, 1) := by decide +kernel
theorem dL_law_556 : decode cL_law 556 = .ok (.aload_n 0, 1) := by decide +kernel
theorem dL_law_557 : decode cL_law 557 = .ok (.iload 4, 2) := by decide +kernel
theorem dL_law_559 : decode cL_law 559 = .ok (.iconst 1, 1) := by decide +kernel
theorem dL_law_560 : decode cL_law 560 = .ok (.iadd, 1) := by decide +kernel
theorem dL_law_561 : decode cL_law 561 = .ok (.iaload, 1) := by decide +kernel
theorem dL_law_562 : decode cL_law 562 = .ok (.aload_n 3, 1) := by decide +kernel
theorem dL_law_563 : decode cL_law 563 = .ok (.invokestatic 156, 3) := by decide +kernel
theorem dL_law_566 : decode cL_law 566 = .ok (.istore 5, 2) := by decide +kernel
theorem dL_law_568 : decode cL_law 568 = .ok (.aload_n 2, 1) := by decide +kernel
theorem dL_law_569 : decode cL_law 569 = .ok (.aload_n 0, 1) := by decide +kernel
theorem dL_law_570 : decode cL_law 570 = .ok (.iload 4, 2) := by decide +kernel
theorem dL_law_572 : decode cL_law 572 = .ok (.iconst 1, 1) := by decide +kernel
theorem dL_law_573 : decode cL_law 573 = .ok (.iadd, 1) := by decide +kernel
theorem dL_law_574 : decode cL_law 574 = .ok (.iaload, 1) := by decide +kernel
theorem dL_law_575 : decode cL_law 575 = .ok (.invokevirtual 158, 3) := by decide +kernel
theorem dL_law_578 : decode cL_law 578 = .ok (.lstore 6, 2) := by decide +kernel
theorem dL_law_580 : decode cL_law 580 = .ok (.goto 852, 3) := by decide +kernel
theorem dL_law_583 : decode cL_law 583 = .ok (.aload_n 1, 1) := by decide +kernel
theorem dL_law_584 : decode cL_law 584 = .ok (.invokevirtual 159, 3) := by decide +kernel
theorem dL_law_587 : decode cL_law 587 = .ok (.pop2, 1) := by decide +kernel
theorem dL_law_588 : decode cL_law 588 = .ok (.aload_n 2, 1) := by decide +kernel
theorem dL_law_589 : decode cL_law 589 = .ok (.invokevirtual 163, 3) := by decide +kernel
theorem dL_law_592 : decode cL_law 592 = .ok (.pop2, 1) := by decide +kernel
theorem dL_law_593 : decode cL_law 593 = .ok (.goto 839, 3) := by decide +kernel
theorem dL_law_596 : decode cL_law 596 = .ok (.aload_n 1, 1) := by decide +kernel
theorem dL_law_597 : decode cL_law 597 = .ok (.invokevirtual 164, 3) := by decide +kernel
theorem dL_law_600 : decode cL_law 600 = .ok (.pop2, 1) := by decide +kernel
theorem dL_law_601 : decode cL_law 601 = .ok (.aload_n 2, 1) := by decide +kernel
theorem dL_law_602 : decode cL_law 602 = .ok (.invokevirtual 167, 3) := by decide +kernel
theorem dL_law_605 : decode cL_law 605 = .ok (.pop2, 1) := by decide +kernel
theorem dL_law_606 : decode cL_law 606 = .ok (.goto 826, 3) := by decide +kernel
theorem dL_law_609 : decode cL_law 609 = .ok (.aload_n 1, 1) := by decide +kernel
theorem dL_law_610 : decode cL_law 610 = .ok (.aload_n 0, 1) := by decide +kernel
theorem dL_law_611 : decode cL_law 611 = .ok (.iload 4, 2) := by decide +kernel
theorem dL_law_613 : decode cL_law 613 = .ok (.iconst 1, 1) := by decide +kernel
theorem dL_law_614 : decode cL_law 614 = .ok (.iadd, 1) := by decide +kernel
theorem dL_law_615 : decode cL_law 615 = .ok (.iaload, 1) := by decide +kernel
theorem dL_law_616 : decode cL_law 616 = .ok (.aload_n 3, 1) := by decide +kernel
theorem dL_law_617 : decode cL_law 617 = .ok (.invokestatic 168, 3) := by decide +kernel
theorem dL_law_620 : decode cL_law 620 = .ok (.istore 5, 2) := by decide +kernel
theorem dL_law_622 : decode cL_law 622 = .ok (.aload_n 2, 1) := by decide +kernel
theorem dL_law_623 : decode cL_law 623 = .ok (.aload_n 0, 1) := by decide +kernel
theorem dL_law_624 : decode cL_law 624 = .ok (.iload 4, 2) := by decide +kernel
theorem dL_law_626 : decode cL_law 626 = .ok (.iconst 1, 1) := by decide +kernel
theorem dL_law_627 : decode cL_law 627 = .ok (.iadd, 1) := by decide +kernel
theorem dL_law_628 : decode cL_law 628 = .ok (.iaload, 1) := by decide +kernel
theorem dL_law_629 : decode cL_law 629 = .ok (.invokevirtual 170, 3) := by decide +kernel
theorem dL_law_632 : decode cL_law 632 = .ok (.lstore 6, 2) := by decide +kernel
theorem dL_law_634 : decode cL_law 634 = .ok (.goto 798, 3) := by decide +kernel
theorem dL_law_637 : decode cL_law 637 = .ok (.aload_n 1, 1) := by decide +kernel
theorem dL_law_638 : decode cL_law 638 = .ok (.invokevirtual 171, 3) := by decide +kernel
theorem dL_law_641 : decode cL_law 641 = .ok (.dstore 5, 2) := by decide +kernel
theorem dL_law_643 : decode cL_law 643 = .ok (.aload_n 2, 1) := by decide +kernel
theorem dL_law_644 : decode cL_law 644 = .ok (.invokevirtual 175, 3) := by decide +kernel
theorem dL_law_647 : decode cL_law 647 = .ok (.dstore 7, 2) := by decide +kernel
theorem dL_law_649 : decode cL_law 649 = .ok (.goto 783, 3) := by decide +kernel
theorem dL_law_652 : decode cL_law 652 = .ok (.aload_n 1, 1) := by decide +kernel
theorem dL_law_653 : decode cL_law 653 = .ok (.invokevirtual 176, 3) := by decide +kernel
theorem dL_law_656 : decode cL_law 656 = .ok (.pop2, 1) := by decide +kernel
theorem dL_law_657 : decode cL_law 657 = .ok (.aload_n 2, 1) := by decide +kernel
theorem dL_law_658 : decode cL_law 658 = .ok (.invokevirtual 179, 3) := by decide +kernel
theorem dL_law_661 : decode cL_law 661 = .ok (.pop2, 1) := by decide +kernel
theorem dL_law_662 : decode cL_law 662 = .ok (.goto 770, 3) := by decide +kernel
theorem dL_law_665 : decode cL_law 665 = .ok (.aload_n 1, 1) := by decide +kernel
theorem dL_law_666 : decode cL_law 666 = .ok (.invokevirtual 180, 3) := by decide +kernel
theorem dL_law_669 : decode cL_law 669 = .ok (.pop, 1) := by decide +kernel
theorem dL_law_670 : decode cL_law 670 = .ok (.aload_n 2, 1) := by decide +kernel
theorem dL_law_671 : decode cL_law 671 = .ok (.invokevirtual 183, 3) := by decide +kernel
theorem dL_law_674 : decode cL_law 674 = .ok (.pop, 1) := by decide +kernel
theorem dL_law_675 : decode cL_law 675 = .ok (.goto 757, 3) := by decide +kernel
theorem dL_law_678 : decode cL_law 678 = .ok (.aload_n 1, 1) := by decide +kernel
theorem dL_law_679 : decode cL_law 679 = .ok (.aload_n 0, 1) := by decide +kernel
theorem dL_law_680 : decode cL_law 680 = .ok (.iload 4, 2) := by decide +kernel
theorem dL_law_682 : decode cL_law 682 = .ok (.iconst 1, 1) := by decide +kernel
theorem dL_law_683 : decode cL_law 683 = .ok (.iadd, 1) := by decide +kernel
theorem dL_law_684 : decode cL_law 684 = .ok (.iaload, 1) := by decide +kernel
theorem dL_law_685 : decode cL_law 685 = .ok (.aload_n 3, 1) := by decide +kernel
theorem dL_law_686 : decode cL_law 686 = .ok (.invokestatic 184, 3) := by decide +kernel
theorem dL_law_689 : decode cL_law 689 = .ok (.istore 5, 2) := by decide +kernel
theorem dL_law_691 : decode cL_law 691 = .ok (.aload_n 2, 1) := by decide +kernel
theorem dL_law_692 : decode cL_law 692 = .ok (.aload_n 0, 1) := by decide +kernel
theorem dL_law_693 : decode cL_law 693 = .ok (.iload 4, 2) := by decide +kernel
theorem dL_law_695 : decode cL_law 695 = .ok (.iconst 1, 1) := by decide +kernel
theorem dL_law_696 : decode cL_law 696 = .ok (.iadd, 1) := by decide +kernel
theorem dL_law_697 : decode cL_law 697 = .ok (.iaload, 1) := by decide +kernel
theorem dL_law_698 : decode cL_law 698 = .ok (.invokevirtual 186, 3) := by decide +kernel
theorem dL_law_701 : decode cL_law 701 = .ok (.istore 6, 2) := by decide +kernel
theorem dL_law_703 : decode cL_law 703 = .ok (.goto 729, 3) := by decide +kernel
theorem dL_law_706 : decode cL_law 706 = .ok (.aload_n 1, 1) := by decide +kernel
theorem dL_law_707 : decode cL_law 707 = .ok (.aload_n 3, 1) := by decide +kernel
theorem dL_law_708 : decode cL_law 708 = .ok (.invokestatic 187, 3) := by decide +kernel
theorem dL_law_711 : decode cL_law 711 = .ok (.istore 5, 2) := by decide +kernel
theorem dL_law_713 : decode cL_law 713 = .ok (.aload_n 2, 1) := by decide +kernel
theorem dL_law_714 : decode cL_law 714 = .ok (.invokevirtual 189, 3) := by decide +kernel
theorem dL_law_717 : decode cL_law 717 = .ok (.istore 6, 2) := by decide +kernel
theorem dL_law_719 : decode cL_law 719 = .ok (.goto 713, 3) := by decide +kernel
theorem dL_law_722 : decode cL_law 722 = .ok (.aload_n 1, 1) := by decide +kernel
theorem dL_law_723 : decode cL_law 723 = .ok (.aload_n 0, 1) := by decide +kernel
theorem dL_law_724 : decode cL_law 724 = .ok (.iload 4, 2) := by decide +kernel
theorem dL_law_726 : decode cL_law 726 = .ok (.iconst 1, 1) := by decide +kernel
theorem dL_law_727 : decode cL_law 727 = .ok (.iadd, 1) := by decide +kernel
theorem dL_law_728 : decode cL_law 728 = .ok (.iaload, 1) := by decide +kernel
theorem dL_law_729 : decode cL_law 729 = .ok (.aload_n 3, 1) := by decide +kernel
theorem dL_law_730 : decode cL_law 730 = .ok (.invokestatic 190, 3) := by decide +kernel
theorem dL_law_733 : decode cL_law 733 = .ok (.istore 5, 2) := by decide +kernel
theorem dL_law_735 : decode cL_law 735 = .ok (.aload_n 2, 1) := by decide +kernel
theorem dL_law_736 : decode cL_law 736 = .ok (.aload_n 0, 1) := by decide +kernel
theorem dL_law_737 : decode cL_law 737 = .ok (.iload 4, 2) := by decide +kernel
theorem dL_law_739 : decode cL_law 739 = .ok (.iconst 1, 1) := by decide +kernel
theorem dL_law_740 : decode cL_law 740 = .ok (.iadd, 1) := by decide +kernel
theorem dL_law_741 : decode cL_law 741 = .ok (.iaload, 1) := by decide +kernel
theorem dL_law_742 : decode cL_law 742 = .ok (.invokevirtual 192, 3) := by decide +kernel
theorem dL_law_745 : decode cL_law 745 = .ok (.istore 6, 2) := by decide +kernel
theorem dL_law_747 : decode cL_law 747 = .ok (.aload_n 2, 1) := by decide +kernel
theorem dL_law_748 : decode cL_law 748 = .ok (.invokevirtual 193, 3) := by decide +kernel
theorem dL_law_751 : decode cL_law 751 = .ok (.iload 5, 2) := by decide +kernel
theorem dL_law_753 : decode cL_law 753 = .ok (.if_icmp .eq 5, 3) := by decide +kernel
theorem dL_law_758 : decode cL_law 758 = .ok (.iload 5, 2) := by decide +kernel
theorem dL_law_760 : decode cL_law 760 = .ok (.ifCond .ne 15, 3) := by decide +kernel
theorem dL_law_763 : decode cL_law 763 = .ok (.aload_n 3, 1) := by decide +kernel
theorem dL_law_764 : decode cL_law 764 = .ok (.iconst 0, 1) := by decide +kernel
theorem dL_law_765 : decode cL_law 765 = .ok (.laload, 1) := by decide +kernel
theorem dL_law_766 : decode cL_law 766 = .ok (.iload 6, 2) := by decide +kernel
theorem dL_law_768 : decode cL_law 768 = .ok (.i2l, 1) := by decide +kernel
theorem dL_law_769 : decode cL_law 769 = .ok (.lcmp, 1) := by decide +kernel
theorem dL_law_770 : decode cL_law 770 = .ok (.ifCond .eq 5, 3) := by decide +kernel
theorem dL_law_775 : decode cL_law 775 = .ok (.goto 657, 3) := by decide +kernel
theorem dL_law_778 : decode cL_law 778 = .ok (.aload_n 1, 1) := by decide +kernel
theorem dL_law_779 : decode cL_law 779 = .ok (.aload_n 0, 1) := by decide +kernel
theorem dL_law_780 : decode cL_law 780 = .ok (.iload 4, 2) := by decide +kernel
theorem dL_law_782 : decode cL_law 782 = .ok (.iconst 1, 1) := by decide +kernel
theorem dL_law_783 : decode cL_law 783 = .ok (.iadd, 1) := by decide +kernel
theorem dL_law_784 : decode cL_law 784 = .ok (.iaload, 1) := by decide +kernel
theorem dL_law_785 : decode cL_law 785 = .ok (.aload_n 3, 1) := by decide +kernel
theorem dL_law_786 : decode cL_law 786 = .ok (.invokestatic 196, 3) := by decide +kernel
theorem dL_law_789 : decode cL_law 789 = .ok (.istore 5, 2) := by decide +kernel
theorem dL_law_791 : decode cL_law 791 = .ok (.aload_n 2, 1) := by decide +kernel
theorem dL_law_792 : decode cL_law 792 = .ok (.aload_n 0, 1) := by decide +kernel
theorem dL_law_793 : decode cL_law 793 = .ok (.iload 4, 2) := by decide +kernel
theorem dL_law_795 : decode cL_law 795 = .ok (.iconst 1, 1) := by decide +kernel
theorem dL_law_796 : decode cL_law 796 = .ok (.iadd, 1) := by decide +kernel
theorem dL_law_797 : decode cL_law 797 = .ok (.iaload, 1) := by decide +kernel
theorem dL_law_798 : decode cL_law 798 = .ok (.invokevirtual 198, 3) := by decide +kernel
theorem dL_law_801 : decode cL_law 801 = .ok (.istore 6, 2) := by decide +kernel
theorem dL_law_803 : decode cL_law 803 = .ok (.goto 629, 3) := by decide +kernel
theorem dL_law_806 : decode cL_law 806 = .ok (.aload_n 1, 1) := by decide +kernel
theorem dL_law_807 : decode cL_law 807 = .ok (.aload_n 0, 1) := by decide +kernel
theorem dL_law_808 : decode cL_law 808 = .ok (.iload 4, 2) := by decide +kernel
theorem dL_law_810 : decode cL_law 810 = .ok (.iconst 1, 1) := by decide +kernel
theorem dL_law_811 : decode cL_law 811 = .ok (.iadd, 1) := by decide +kernel
theorem dL_law_812 : decode cL_law 812 = .ok (.iaload, 1) := by decide +kernel
theorem dL_law_813 : decode cL_law 813 = .ok (.ifCond .eq 7, 3) := by decide +kernel
theorem dL_law_816 : decode cL_law 816 = .ok (.iconst 1, 1) := by decide +kernel
theorem dL_law_817 : decode cL_law 817 = .ok (.goto 4, 3) := by decide +kernel
theorem dL_law_820 : decode cL_law 820 = .ok (.iconst 0, 1) := by decide +kernel
theorem dL_law_821 : decode cL_law 821 = .ok (.invokevirtual 199, 3) := by decide +kernel
theorem dL_law_824 : decode cL_law 824 = .ok (.pop, 1) := by decide +kernel
theorem dL_law_825 : decode cL_law 825 = .ok (.aload_n 2, 1) := by decide +kernel
theorem dL_law_826 : decode cL_law 826 = .ok (.aload_n 0, 1) := by decide +kernel
theorem dL_law_827 : decode cL_law 827 = .ok (.iload 4, 2) := by decide +kernel
theorem dL_law_829 : decode cL_law 829 = .ok (.iconst 1, 1) := by decide +kernel
theorem dL_law_830 : decode cL_law 830 = .ok (.iadd, 1) := by decide +kernel
theorem dL_law_831 : decode cL_law 831 = .ok (.iaload, 1) := by decide +kernel
theorem dL_law_832 : decode cL_law 832 = .ok (.ifCond .eq 7, 3) := by decide +kernel
theorem dL_law_835 : decode cL_law 835 = .ok (.iconst 1, 1) := by decide +kernel
theorem dL_law_836 : decode cL_law 836 = .ok (.goto 4, 3) := by decide +kernel
theorem dL_law_839 : decode cL_law 839 = .ok (.iconst 0, 1) := by decide +kernel
theorem dL_law_840 : decode cL_law 840 = .ok (.invokevirtual 203, 3) := by decide +kernel
theorem dL_law_843 : decode cL_law 843 = .ok (.pop, 1) := by decide +kernel
theorem dL_law_844 : decode cL_law 844 = .ok (.goto 588, 3) := by decide +kernel
theorem dL_law_847 : decode cL_law 847 = .ok (.aload_n 1, 1) := by decide +kernel
theorem dL_law_848 : decode cL_law 848 = .ok (.aload_n 0, 1) := by decide +kernel
theorem dL_law_849 : decode cL_law 849 = .ok (.iload 4, 2) := by decide +kernel
theorem dL_law_851 : decode cL_law 851 = .ok (.iconst 1, 1) := by decide +kernel
theorem dL_law_852 : decode cL_law 852 = .ok (.iadd, 1) := by decide +kernel
theorem dL_law_853 : decode cL_law 853 = .ok (.iaload, 1) := by decide +kernel
theorem dL_law_854 : decode cL_law 854 = .ok (.aload_n 0, 1) := by decide +kernel
theorem dL_law_855 : decode cL_law 855 = .ok (.iload 4, 2) := by decide +kernel
theorem dL_law_857 : decode cL_law 857 = .ok (.iconst 2, 1) := by decide +kernel
theorem dL_law_858 : decode cL_law 858 = .ok (.iadd, 1) := by decide +kernel
theorem dL_law_859 : decode cL_law 859 = .ok (.iaload, 1) := by decide +kernel
theorem dL_law_860 : decode cL_law 860 = .ok (.aload_n 3, 1) := by decide +kernel
theorem dL_law_861 : decode cL_law 861 = .ok (.invokestatic 204, 3) := by decide +kernel
theorem dL_law_864 : decode cL_law 864 = .ok (.istore 5, 2) := by decide +kernel
theorem dL_law_866 : decode cL_law 866 = .ok (.aload_n 2, 1) := by decide +kernel
theorem dL_law_867 : decode cL_law 867 = .ok (.aload_n 0, 1) := by decide +kernel
theorem dL_law_868 : decode cL_law 868 = .ok (.iload 4, 2) := by decide +kernel
theorem dL_law_870 : decode cL_law 870 = .ok (.iconst 1, 1) := by decide +kernel
theorem dL_law_871 : decode cL_law 871 = .ok (.iadd, 1) := by decide +kernel
theorem dL_law_872 : decode cL_law 872 = .ok (.iaload, 1) := by decide +kernel
theorem dL_law_873 : decode cL_law 873 = .ok (.aload_n 0, 1) := by decide +kernel
theorem dL_law_874 : decode cL_law 874 = .ok (.iload 4, 2) := by decide +kernel
theorem dL_law_876 : decode cL_law 876 = .ok (.iconst 2, 1) := by decide +kernel
theorem dL_law_877 : decode cL_law 877 = .ok (.iadd, 1) := by decide +kernel
theorem dL_law_878 : decode cL_law 878 = .ok (.iaload, 1) := by decide +kernel
theorem dL_law_879 : decode cL_law 879 = .ok (.invokevirtual 206, 3) := by decide +kernel
theorem dL_law_882 : decode cL_law 882 = .ok (.lstore 6, 2) := by decide +kernel
theorem dL_law_884 : decode cL_law 884 = .ok (.goto 548, 3) := by decide +kernel
theorem dL_law_887 : decode cL_law 887 = .ok (.aload_n 1, 1) := by decide +kernel
theorem dL_law_888 : decode cL_law 888 = .ok (.aload_n 0, 1) := by decide +kernel
theorem dL_law_889 : decode cL_law 889 = .ok (.iload 4, 2) := by decide +kernel
theorem dL_law_891 : decode cL_law 891 = .ok (.iconst 1, 1) := by decide +kernel
theorem dL_law_892 : decode cL_law 892 = .ok (.iadd, 1) := by decide +kernel
theorem dL_law_893 : decode cL_law 893 = .ok (.iaload, 1) := by decide +kernel
theorem dL_law_894 : decode cL_law 894 = .ok (.aload_n 0, 1) := by decide +kernel
theorem dL_law_895 : decode cL_law 895 = .ok (.iload 4, 2) := by decide +kernel
theorem dL_law_897 : decode cL_law 897 = .ok (.iconst 2, 1) := by decide +kernel
theorem dL_law_898 : decode cL_law 898 = .ok (.iadd, 1) := by decide +kernel
theorem dL_law_899 : decode cL_law 899 = .ok (.iaload, 1) := by decide +kernel
theorem dL_law_900 : decode cL_law 900 = .ok (.aload_n 3, 1) := by decide +kernel
theorem dL_law_901 : decode cL_law 901 = .ok (.invokestatic 207, 3) := by decide +kernel
theorem dL_law_904 : decode cL_law 904 = .ok (.istore 5, 2) := by decide +kernel
theorem dL_law_906 : decode cL_law 906 = .ok (.aload_n 2, 1) := by decide +kernel
theorem dL_law_907 : decode cL_law 907 = .ok (.aload_n 0, 1) := by decide +kernel
theorem dL_law_908 : decode cL_law 908 = .ok (.iload 4, 2) := by decide +kernel
theorem dL_law_910 : decode cL_law 910 = .ok (.iconst 1, 1) := by decide +kernel
theorem dL_law_911 : decode cL_law 911 = .ok (.iadd, 1) := by decide +kernel
theorem dL_law_912 : decode cL_law 912 = .ok (.iaload, 1) := by decide +kernel
theorem dL_law_913 : decode cL_law 913 = .ok (.aload_n 0, 1) := by decide +kernel
theorem dL_law_914 : decode cL_law 914 = .ok (.iload 4, 2) := by decide +kernel
theorem dL_law_916 : decode cL_law 916 = .ok (.iconst 2, 1) := by decide +kernel
theorem dL_law_917 : decode cL_law 917 = .ok (.iadd, 1) := by decide +kernel
theorem dL_law_918 : decode cL_law 918 = .ok (.iaload, 1) := by decide +kernel
theorem dL_law_919 : decode cL_law 919 = .ok (.invokevirtual 209, 3) := by decide +kernel
theorem dL_law_922 : decode cL_law 922 = .ok (.lstore 6, 2) := by decide +kernel
theorem dL_law_924 : decode cL_law 924 = .ok (.goto 508, 3) := by decide +kernel
theorem dL_law_927 : decode cL_law 927 = .ok (.aload_n 1, 1) := by decide +kernel
theorem dL_law_928 : decode cL_law 928 = .ok (.invokevirtual 210, 3) := by decide +kernel
theorem dL_law_931 : decode cL_law 931 = .ok (.pop, 1) := by decide +kernel
theorem dL_law_932 : decode cL_law 932 = .ok (.aload_n 2, 1) := by decide +kernel
theorem dL_law_933 : decode cL_law 933 = .ok (.invokevirtual 213, 3) := by decide +kernel
theorem dL_law_936 : decode cL_law 936 = .ok (.pop, 1) := by decide +kernel
theorem dL_law_937 : decode cL_law 937 = .ok (.goto 495, 3) := by decide +kernel
theorem dL_law_940 : decode cL_law 940 = .ok (.aload_n 1, 1) := by decide +kernel
theorem dL_law_941 : decode cL_law 941 = .ok (.aload_n 0, 1) := by decide +kernel
theorem dL_law_942 : decode cL_law 942 = .ok (.iload 4, 2) := by decide +kernel
theorem dL_law_944 : decode cL_law 944 = .ok (.iconst 1, 1) := by decide +kernel
theorem dL_law_945 : decode cL_law 945 = .ok (.iadd, 1) := by decide +kernel
theorem dL_law_946 : decode cL_law 946 = .ok (.iaload, 1) := by decide +kernel
theorem dL_law_947 : decode cL_law 947 = .ok (.aload_n 3, 1) := by decide +kernel
theorem dL_law_948 : decode cL_law 948 = .ok (.invokestatic 214, 3) := by decide +kernel
theorem dL_law_951 : decode cL_law 951 = .ok (.istore 5, 2) := by decide +kernel
theorem dL_law_953 : decode cL_law 953 = .ok (.aload_n 2, 1) := by decide +kernel
theorem dL_law_954 : decode cL_law 954 = .ok (.aload_n 0, 1) := by decide +kernel
theorem dL_law_955 : decode cL_law 955 = .ok (.iload 4, 2) := by decide +kernel
theorem dL_law_957 : decode cL_law 957 = .ok (.iconst 1, 1) := by decide +kernel
theorem dL_law_958 : decode cL_law 958 = .ok (.iadd, 1) := by decide +kernel
theorem dL_law_959 : decode cL_law 959 = .ok (.iaload, 1) := by decide +kernel
theorem dL_law_960 : decode cL_law 960 = .ok (.invokevirtual 216, 3) := by decide +kernel
theorem dL_law_963 : decode cL_law 963 = .ok (.istore 6, 2) := by decide +kernel
theorem dL_law_965 : decode cL_law 965 = .ok (.goto 467, 3) := by decide +kernel
theorem dL_law_968 : decode cL_law 968 = .ok (.aload_n 1, 1) := by decide +kernel
theorem dL_law_969 : decode cL_law 969 = .ok (.aload_n 0, 1) := by decide +kernel
theorem dL_law_970 : decode cL_law 970 = .ok (.iload 4, 2) := by decide +kernel
theorem dL_law_972 : decode cL_law 972 = .ok (.iconst 1, 1) := by decide +kernel
theorem dL_law_973 : decode cL_law 973 = .ok (.iadd, 1) := by decide +kernel
theorem dL_law_974 : decode cL_law 974 = .ok (.iaload, 1) := by decide +kernel
theorem dL_law_975 : decode cL_law 975 = .ok (.aload_n 3, 1) := by decide +kernel
theorem dL_law_976 : decode cL_law 976 = .ok (.invokestatic 217, 3) := by decide +kernel
theorem dL_law_979 : decode cL_law 979 = .ok (.istore 5, 2) := by decide +kernel
theorem dL_law_981 : decode cL_law 981 = .ok (.aload_n 2, 1) := by decide +kernel
theorem dL_law_982 : decode cL_law 982 = .ok (.aload_n 0, 1) := by decide +kernel
theorem dL_law_983 : decode cL_law 983 = .ok (.iload 4, 2) := by decide +kernel
theorem dL_law_985 : decode cL_law 985 = .ok (.iconst 1, 1) := by decide +kernel
theorem dL_law_986 : decode cL_law 986 = .ok (.iadd, 1) := by decide +kernel
theorem dL_law_987 : decode cL_law 987 = .ok (.iaload, 1) := by decide +kernel
theorem dL_law_988 : decode cL_law 988 = .ok (.invokevirtual 219, 3) := by decide +kernel
theorem dL_law_991 : decode cL_law 991 = .ok (.lstore 6, 2) := by decide +kernel
theorem dL_law_993 : decode cL_law 993 = .ok (.goto 439, 3) := by decide +kernel
theorem dL_law_996 : decode cL_law 996 = .ok (.aload_n 1, 1) := by decide +kernel
theorem dL_law_997 : decode cL_law 997 = .ok (.aload_n 0, 1) := by decide +kernel
theorem dL_law_998 : decode cL_law 998 = .ok (.iload 4, 2) := by decide +kernel
theorem dL_law_1000 : decode cL_law 1000 = .ok (.iconst 1, 1) := by decide +kernel
theorem dL_law_1001 : decode cL_law 1001 = .ok (.iadd, 1) := by decide +kernel
theorem dL_law_1002 : decode cL_law 1002 = .ok (.iaload, 1) := by decide +kernel
theorem dL_law_1003 : decode cL_law 1003 = .ok (.aload_n 3, 1) := by decide +kernel
theorem dL_law_1004 : decode cL_law 1004 = .ok (.invokestatic 220, 3) := by decide +kernel
theorem dL_law_1007 : decode cL_law 1007 = .ok (.istore 5, 2) := by decide +kernel
theorem dL_law_1009 : decode cL_law 1009 = .ok (.aload_n 2, 1) := by decide +kernel
theorem dL_law_1010 : decode cL_law 1010 = .ok (.aload_n 0, 1) := by decide +kernel
theorem dL_law_1011 : decode cL_law 1011 = .ok (.iload 4, 2) := by decide +kernel
theorem dL_law_1013 : decode cL_law 1013 = .ok (.iconst 1, 1) := by decide +kernel
theorem dL_law_1014 : decode cL_law 1014 = .ok (.iadd, 1) := by decide +kernel
theorem dL_law_1015 : decode cL_law 1015 = .ok (.iaload, 1) := by decide +kernel
theorem dL_law_1016 : decode cL_law 1016 = .ok (.invokevirtual 222, 3) := by decide +kernel
theorem dL_law_1019 : decode cL_law 1019 = .ok (.istore 6, 2) := by decide +kernel
theorem dL_law_1021 : decode cL_law 1021 = .ok (.goto 411, 3) := by decide +kernel
theorem dL_law_1024 : decode cL_law 1024 = .ok (.aload_n 1, 1) := by decide +kernel
theorem dL_law_1025 : decode cL_law 1025 = .ok (.aload_n 0, 1) := by decide +kernel
theorem dL_law_1026 : decode cL_law 1026 = .ok (.iload 4, 2) := by decide +kernel
theorem dL_law_1028 : decode cL_law 1028 = .ok (.iconst 1, 1) := by decide +kernel
theorem dL_law_1029 : decode cL_law 1029 = .ok (.iadd, 1) := by decide +kernel
theorem dL_law_1030 : decode cL_law 1030 = .ok (.iaload, 1) := by decide +kernel
theorem dL_law_1031 : decode cL_law 1031 = .ok (.aload_n 0, 1) := by decide +kernel
theorem dL_law_1032 : decode cL_law 1032 = .ok (.iload 4, 2) := by decide +kernel
theorem dL_law_1034 : decode cL_law 1034 = .ok (.iconst 2, 1) := by decide +kernel
theorem dL_law_1035 : decode cL_law 1035 = .ok (.iadd, 1) := by decide +kernel
theorem dL_law_1036 : decode cL_law 1036 = .ok (.iaload, 1) := by decide +kernel
theorem dL_law_1037 : decode cL_law 1037 = .ok (.aload_n 3, 1) := by decide +kernel
theorem dL_law_1038 : decode cL_law 1038 = .ok (.invokestatic 223, 3) := by decide +kernel
theorem dL_law_1041 : decode cL_law 1041 = .ok (.istore 5, 2) := by decide +kernel
theorem dL_law_1043 : decode cL_law 1043 = .ok (.aload_n 2, 1) := by decide +kernel
theorem dL_law_1044 : decode cL_law 1044 = .ok (.aload_n 0, 1) := by decide +kernel
theorem dL_law_1045 : decode cL_law 1045 = .ok (.iload 4, 2) := by decide +kernel
theorem dL_law_1047 : decode cL_law 1047 = .ok (.iconst 1, 1) := by decide +kernel
theorem dL_law_1048 : decode cL_law 1048 = .ok (.iadd, 1) := by decide +kernel
theorem dL_law_1049 : decode cL_law 1049 = .ok (.iaload, 1) := by decide +kernel
theorem dL_law_1050 : decode cL_law 1050 = .ok (.aload_n 0, 1) := by decide +kernel
theorem dL_law_1051 : decode cL_law 1051 = .ok (.iload 4, 2) := by decide +kernel
theorem dL_law_1053 : decode cL_law 1053 = .ok (.iconst 2, 1) := by decide +kernel
theorem dL_law_1054 : decode cL_law 1054 = .ok (.iadd, 1) := by decide +kernel
theorem dL_law_1055 : decode cL_law 1055 = .ok (.iaload, 1) := by decide +kernel
theorem dL_law_1056 : decode cL_law 1056 = .ok (.invokevirtual 225, 3) := by decide +kernel
theorem dL_law_1059 : decode cL_law 1059 = .ok (.lstore 6, 2) := by decide +kernel
theorem dL_law_1061 : decode cL_law 1061 = .ok (.goto 371, 3) := by decide +kernel
theorem dL_law_1064 : decode cL_law 1064 = .ok (.aload_n 1, 1) := by decide +kernel
theorem dL_law_1065 : decode cL_law 1065 = .ok (.aload_n 0, 1) := by decide +kernel
theorem dL_law_1066 : decode cL_law 1066 = .ok (.iload 4, 2) := by decide +kernel
theorem dL_law_1068 : decode cL_law 1068 = .ok (.iconst 1, 1) := by decide +kernel
theorem dL_law_1069 : decode cL_law 1069 = .ok (.iadd, 1) := by decide +kernel
theorem dL_law_1070 : decode cL_law 1070 = .ok (.iaload, 1) := by decide +kernel
theorem dL_law_1071 : decode cL_law 1071 = .ok (.aload_n 0, 1) := by decide +kernel
theorem dL_law_1072 : decode cL_law 1072 = .ok (.iload 4, 2) := by decide +kernel
theorem dL_law_1074 : decode cL_law 1074 = .ok (.iconst 2, 1) := by decide +kernel
theorem dL_law_1075 : decode cL_law 1075 = .ok (.iadd, 1) := by decide +kernel
theorem dL_law_1076 : decode cL_law 1076 = .ok (.iaload, 1) := by decide +kernel
theorem dL_law_1077 : decode cL_law 1077 = .ok (.ifCond .eq 7, 3) := by decide +kernel
theorem dL_law_1080 : decode cL_law 1080 = .ok (.iconst 1, 1) := by decide +kernel
theorem dL_law_1081 : decode cL_law 1081 = .ok (.goto 4, 3) := by decide +kernel
theorem dL_law_1084 : decode cL_law 1084 = .ok (.iconst 0, 1) := by decide +kernel
theorem dL_law_1085 : decode cL_law 1085 = .ok (.aload_n 3, 1) := by decide +kernel
theorem dL_law_1086 : decode cL_law 1086 = .ok (.invokestatic 226, 3) := by decide +kernel
theorem dL_law_1089 : decode cL_law 1089 = .ok (.istore 5, 2) := by decide +kernel
theorem dL_law_1091 : decode cL_law 1091 = .ok (.aload_n 2, 1) := by decide +kernel
theorem dL_law_1092 : decode cL_law 1092 = .ok (.aload_n 0, 1) := by decide +kernel
theorem dL_law_1093 : decode cL_law 1093 = .ok (.iload 4, 2) := by decide +kernel
theorem dL_law_1095 : decode cL_law 1095 = .ok (.iconst 1, 1) := by decide +kernel
theorem dL_law_1096 : decode cL_law 1096 = .ok (.iadd, 1) := by decide +kernel
theorem dL_law_1097 : decode cL_law 1097 = .ok (.iaload, 1) := by decide +kernel
theorem dL_law_1098 : decode cL_law 1098 = .ok (.aload_n 0, 1) := by decide +kernel
theorem dL_law_1099 : decode cL_law 1099 = .ok (.iload 4, 2) := by decide +kernel
theorem dL_law_1101 : decode cL_law 1101 = .ok (.iconst 2, 1) := by decide +kernel
theorem dL_law_1102 : decode cL_law 1102 = .ok (.iadd, 1) := by decide +kernel
theorem dL_law_1103 : decode cL_law 1103 = .ok (.iaload, 1) := by decide +kernel
theorem dL_law_1104 : decode cL_law 1104 = .ok (.ifCond .eq 7, 3) := by decide +kernel
theorem dL_law_1107 : decode cL_law 1107 = .ok (.iconst 1, 1) := by decide +kernel
theorem dL_law_1108 : decode cL_law 1108 = .ok (.goto 4, 3) := by decide +kernel
theorem dL_law_1111 : decode cL_law 1111 = .ok (.iconst 0, 1) := by decide +kernel
theorem dL_law_1112 : decode cL_law 1112 = .ok (.invokevirtual 228, 3) := by decide +kernel
theorem dL_law_1115 : decode cL_law 1115 = .ok (.istore 6, 2) := by decide +kernel
theorem dL_law_1117 : decode cL_law 1117 = .ok (.goto 315, 3) := by decide +kernel
theorem dL_law_1120 : decode cL_law 1120 = .ok (.aload_n 1, 1) := by decide +kernel
theorem dL_law_1121 : decode cL_law 1121 = .ok (.aload_n 0, 1) := by decide +kernel
theorem dL_law_1122 : decode cL_law 1122 = .ok (.iload 4, 2) := by decide +kernel
theorem dL_law_1124 : decode cL_law 1124 = .ok (.iconst 1, 1) := by decide +kernel
theorem dL_law_1125 : decode cL_law 1125 = .ok (.iadd, 1) := by decide +kernel
theorem dL_law_1126 : decode cL_law 1126 = .ok (.iaload, 1) := by decide +kernel
theorem dL_law_1127 : decode cL_law 1127 = .ok (.aload_n 3, 1) := by decide +kernel
theorem dL_law_1128 : decode cL_law 1128 = .ok (.invokestatic 229, 3) := by decide +kernel
theorem dL_law_1131 : decode cL_law 1131 = .ok (.istore 5, 2) := by decide +kernel
theorem dL_law_1133 : decode cL_law 1133 = .ok (.aload_n 2, 1) := by decide +kernel
theorem dL_law_1134 : decode cL_law 1134 = .ok (.aload_n 0, 1) := by decide +kernel
theorem dL_law_1135 : decode cL_law 1135 = .ok (.iload 4, 2) := by decide +kernel
theorem dL_law_1137 : decode cL_law 1137 = .ok (.iconst 1, 1) := by decide +kernel
theorem dL_law_1138 : decode cL_law 1138 = .ok (.iadd, 1) := by decide +kernel
theorem dL_law_1139 : decode cL_law 1139 = .ok (.iaload, 1) := by decide +kernel
theorem dL_law_1140 : decode cL_law 1140 = .ok (.invokevirtual 231, 3) := by decide +kernel
theorem dL_law_1143 : decode cL_law 1143 = .ok (.lstore 6, 2) := by decide +kernel
theorem dL_law_1145 : decode cL_law 1145 = .ok (.goto 287, 3) := by decide +kernel
theorem dL_law_1148 : decode cL_law 1148 = .ok (.aload_n 1, 1) := by decide +kernel
theorem dL_law_1149 : decode cL_law 1149 = .ok (.aload_n 0, 1) := by decide +kernel
theorem dL_law_1150 : decode cL_law 1150 = .ok (.iload 4, 2) := by decide +kernel
theorem dL_law_1152 : decode cL_law 1152 = .ok (.iconst 1, 1) := by decide +kernel
theorem dL_law_1153 : decode cL_law 1153 = .ok (.iadd, 1) := by decide +kernel
theorem dL_law_1154 : decode cL_law 1154 = .ok (.iaload, 1) := by decide +kernel
theorem dL_law_1155 : decode cL_law 1155 = .ok (.aload_n 3, 1) := by decide +kernel
theorem dL_law_1156 : decode cL_law 1156 = .ok (.invokestatic 232, 3) := by decide +kernel
theorem dL_law_1159 : decode cL_law 1159 = .ok (.istore 5, 2) := by decide +kernel
theorem dL_law_1161 : decode cL_law 1161 = .ok (.aload_n 2, 1) := by decide +kernel
theorem dL_law_1162 : decode cL_law 1162 = .ok (.aload_n 0, 1) := by decide +kernel
theorem dL_law_1163 : decode cL_law 1163 = .ok (.iload 4, 2) := by decide +kernel
theorem dL_law_1165 : decode cL_law 1165 = .ok (.iconst 1, 1) := by decide +kernel
theorem dL_law_1166 : decode cL_law 1166 = .ok (.iadd, 1) := by decide +kernel
theorem dL_law_1167 : decode cL_law 1167 = .ok (.iaload, 1) := by decide +kernel
theorem dL_law_1168 : decode cL_law 1168 = .ok (.invokevirtual 234, 3) := by decide +kernel
theorem dL_law_1171 : decode cL_law 1171 = .ok (.lstore 6, 2) := by decide +kernel
theorem dL_law_1173 : decode cL_law 1173 = .ok (.goto 259, 3) := by decide +kernel
theorem dL_law_1176 : decode cL_law 1176 = .ok (.aload_n 1, 1) := by decide +kernel
theorem dL_law_1177 : decode cL_law 1177 = .ok (.aload_n 0, 1) := by decide +kernel
theorem dL_law_1178 : decode cL_law 1178 = .ok (.iload 4, 2) := by decide +kernel
theorem dL_law_1180 : decode cL_law 1180 = .ok (.iconst 1, 1) := by decide +kernel
theorem dL_law_1181 : decode cL_law 1181 = .ok (.iadd, 1) := by decide +kernel
theorem dL_law_1182 : decode cL_law 1182 = .ok (.iaload, 1) := by decide +kernel
theorem dL_law_1183 : decode cL_law 1183 = .ok (.aload_n 3, 1) := by decide +kernel
theorem dL_law_1184 : decode cL_law 1184 = .ok (.invokestatic 235, 3) := by decide +kernel
theorem dL_law_1187 : decode cL_law 1187 = .ok (.istore 5, 2) := by decide +kernel
theorem dL_law_1189 : decode cL_law 1189 = .ok (.aload_n 2, 1) := by decide +kernel
theorem dL_law_1190 : decode cL_law 1190 = .ok (.aload_n 0, 1) := by decide +kernel
theorem dL_law_1191 : decode cL_law 1191 = .ok (.iload 4, 2) := by decide +kernel
theorem dL_law_1193 : decode cL_law 1193 = .ok (.iconst 1, 1) := by decide +kernel
theorem dL_law_1194 : decode cL_law 1194 = .ok (.iadd, 1) := by decide +kernel
theorem dL_law_1195 : decode cL_law 1195 = .ok (.iaload, 1) := by decide +kernel
theorem dL_law_1196 : decode cL_law 1196 = .ok (.invokevirtual 237, 3) := by decide +kernel
theorem dL_law_1199 : decode cL_law 1199 = .ok (.lstore 6, 2) := by decide +kernel
theorem dL_law_1201 : decode cL_law 1201 = .ok (.goto 231, 3) := by decide +kernel
theorem dL_law_1204 : decode cL_law 1204 = .ok (.aload_n 1, 1) := by decide +kernel
theorem dL_law_1205 : decode cL_law 1205 = .ok (.aload_n 0, 1) := by decide +kernel
theorem dL_law_1206 : decode cL_law 1206 = .ok (.iload 4, 2) := by decide +kernel
theorem dL_law_1208 : decode cL_law 1208 = .ok (.iconst 1, 1) := by decide +kernel
theorem dL_law_1209 : decode cL_law 1209 = .ok (.iadd, 1) := by decide +kernel
theorem dL_law_1210 : decode cL_law 1210 = .ok (.iaload, 1) := by decide +kernel
theorem dL_law_1211 : decode cL_law 1211 = .ok (.aload_n 0, 1) := by decide +kernel
theorem dL_law_1212 : decode cL_law 1212 = .ok (.iload 4, 2) := by decide +kernel
theorem dL_law_1214 : decode cL_law 1214 = .ok (.iconst 2, 1) := by decide +kernel
theorem dL_law_1215 : decode cL_law 1215 = .ok (.iadd, 1) := by decide +kernel
theorem dL_law_1216 : decode cL_law 1216 = .ok (.iaload, 1) := by decide +kernel
theorem dL_law_1217 : decode cL_law 1217 = .ok (.ifCond .eq 7, 3) := by decide +kernel
theorem dL_law_1220 : decode cL_law 1220 = .ok (.iconst 1, 1) := by decide +kernel
theorem dL_law_1221 : decode cL_law 1221 = .ok (.goto 4, 3) := by decide +kernel
theorem dL_law_1224 : decode cL_law 1224 = .ok (.iconst 0, 1) := by decide +kernel
theorem dL_law_1225 : decode cL_law 1225 = .ok (.aload_n 3, 1) := by decide +kernel
theorem dL_law_1226 : decode cL_law 1226 = .ok (.invokestatic 238, 3) := by decide +kernel
theorem dL_law_1229 : decode cL_law 1229 = .ok (.istore 5, 2) := by decide +kernel
theorem dL_law_1231 : decode cL_law 1231 = .ok (.aload_n 2, 1) := by decide +kernel
theorem dL_law_1232 : decode cL_law 1232 = .ok (.aload_n 0, 1) := by decide +kernel
theorem dL_law_1233 : decode cL_law 1233 = .ok (.iload 4, 2) := by decide +kernel
theorem dL_law_1235 : decode cL_law 1235 = .ok (.iconst 1, 1) := by decide +kernel
theorem dL_law_1236 : decode cL_law 1236 = .ok (.iadd, 1) := by decide +kernel
theorem dL_law_1237 : decode cL_law 1237 = .ok (.iaload, 1) := by decide +kernel
theorem dL_law_1238 : decode cL_law 1238 = .ok (.aload_n 0, 1) := by decide +kernel
theorem dL_law_1239 : decode cL_law 1239 = .ok (.iload 4, 2) := by decide +kernel
theorem dL_law_1241 : decode cL_law 1241 = .ok (.iconst 2, 1) := by decide +kernel
theorem dL_law_1242 : decode cL_law 1242 = .ok (.iadd, 1) := by decide +kernel
theorem dL_law_1243 : decode cL_law 1243 = .ok (.iaload, 1) := by decide +kernel
theorem dL_law_1244 : decode cL_law 1244 = .ok (.ifCond .eq 7, 3) := by decide +kernel
theorem dL_law_1247 : decode cL_law 1247 = .ok (.iconst 1, 1) := by decide +kernel
theorem dL_law_1248 : decode cL_law 1248 = .ok (.goto 4, 3) := by decide +kernel
theorem dL_law_1251 : decode cL_law 1251 = .ok (.iconst 0, 1) := by decide +kernel
theorem dL_law_1252 : decode cL_law 1252 = .ok (.invokevirtual 240, 3) := by decide +kernel
theorem dL_law_1255 : decode cL_law 1255 = .ok (.lstore 6, 2) := by decide +kernel
theorem dL_law_1257 : decode cL_law 1257 = .ok (.goto 175, 3) := by decide +kernel
theorem dL_law_1260 : decode cL_law 1260 = .ok (.aload_n 1, 1) := by decide +kernel
theorem dL_law_1261 : decode cL_law 1261 = .ok (.aload_n 0, 1) := by decide +kernel
theorem dL_law_1262 : decode cL_law 1262 = .ok (.iload 4, 2) := by decide +kernel
theorem dL_law_1264 : decode cL_law 1264 = .ok (.iconst 1, 1) := by decide +kernel
theorem dL_law_1265 : decode cL_law 1265 = .ok (.iadd, 1) := by decide +kernel
theorem dL_law_1266 : decode cL_law 1266 = .ok (.iaload, 1) := by decide +kernel
theorem dL_law_1267 : decode cL_law 1267 = .ok (.aload_n 3, 1) := by decide +kernel
theorem dL_law_1268 : decode cL_law 1268 = .ok (.invokestatic 241, 3) := by decide +kernel
theorem dL_law_1271 : decode cL_law 1271 = .ok (.istore 5, 2) := by decide +kernel
theorem dL_law_1273 : decode cL_law 1273 = .ok (.aload_n 2, 1) := by decide +kernel
theorem dL_law_1274 : decode cL_law 1274 = .ok (.aload_n 0, 1) := by decide +kernel
theorem dL_law_1275 : decode cL_law 1275 = .ok (.iload 4, 2) := by decide +kernel
theorem dL_law_1277 : decode cL_law 1277 = .ok (.iconst 1, 1) := by decide +kernel
theorem dL_law_1278 : decode cL_law 1278 = .ok (.iadd, 1) := by decide +kernel
theorem dL_law_1279 : decode cL_law 1279 = .ok (.iaload, 1) := by decide +kernel
theorem dL_law_1280 : decode cL_law 1280 = .ok (.invokevirtual 243, 3) := by decide +kernel
theorem dL_law_1283 : decode cL_law 1283 = .ok (.istore 6, 2) := by decide +kernel
theorem dL_law_1285 : decode cL_law 1285 = .ok (.goto 147, 3) := by decide +kernel
theorem dL_law_1288 : decode cL_law 1288 = .ok (.aload_n 1, 1) := by decide +kernel
theorem dL_law_1289 : decode cL_law 1289 = .ok (.aload_n 0, 1) := by decide +kernel
theorem dL_law_1290 : decode cL_law 1290 = .ok (.iload 4, 2) := by decide +kernel
theorem dL_law_1292 : decode cL_law 1292 = .ok (.iconst 1, 1) := by decide +kernel
theorem dL_law_1293 : decode cL_law 1293 = .ok (.iadd, 1) := by decide +kernel
theorem dL_law_1294 : decode cL_law 1294 = .ok (.iaload, 1) := by decide +kernel
theorem dL_law_1295 : decode cL_law 1295 = .ok (.aload_n 0, 1) := by decide +kernel
theorem dL_law_1296 : decode cL_law 1296 = .ok (.iload 4, 2) := by decide +kernel
theorem dL_law_1298 : decode cL_law 1298 = .ok (.iconst 2, 1) := by decide +kernel
theorem dL_law_1299 : decode cL_law 1299 = .ok (.iadd, 1) := by decide +kernel
theorem dL_law_1300 : decode cL_law 1300 = .ok (.iaload, 1) := by decide +kernel
theorem dL_law_1301 : decode cL_law 1301 = .ok (.aload_n 3, 1) := by decide +kernel
theorem dL_law_1302 : decode cL_law 1302 = .ok (.invokestatic 244, 3) := by decide +kernel
theorem dL_law_1305 : decode cL_law 1305 = .ok (.istore 5, 2) := by decide +kernel
theorem dL_law_1307 : decode cL_law 1307 = .ok (.aload_n 2, 1) := by decide +kernel
theorem dL_law_1308 : decode cL_law 1308 = .ok (.aload_n 0, 1) := by decide +kernel
theorem dL_law_1309 : decode cL_law 1309 = .ok (.iload 4, 2) := by decide +kernel
theorem dL_law_1311 : decode cL_law 1311 = .ok (.iconst 1, 1) := by decide +kernel
theorem dL_law_1312 : decode cL_law 1312 = .ok (.iadd, 1) := by decide +kernel
theorem dL_law_1313 : decode cL_law 1313 = .ok (.iaload, 1) := by decide +kernel
theorem dL_law_1314 : decode cL_law 1314 = .ok (.aload_n 0, 1) := by decide +kernel
theorem dL_law_1315 : decode cL_law 1315 = .ok (.iload 4, 2) := by decide +kernel
theorem dL_law_1317 : decode cL_law 1317 = .ok (.iconst 2, 1) := by decide +kernel
theorem dL_law_1318 : decode cL_law 1318 = .ok (.iadd, 1) := by decide +kernel
theorem dL_law_1319 : decode cL_law 1319 = .ok (.iaload, 1) := by decide +kernel
theorem dL_law_1320 : decode cL_law 1320 = .ok (.invokevirtual 246, 3) := by decide +kernel
theorem dL_law_1323 : decode cL_law 1323 = .ok (.istore 6, 2) := by decide +kernel
theorem dL_law_1325 : decode cL_law 1325 = .ok (.goto 107, 3) := by decide +kernel
theorem dL_law_1328 : decode cL_law 1328 = .ok (.aload_n 1, 1) := by decide +kernel
theorem dL_law_1329 : decode cL_law 1329 = .ok (.invokevirtual 247, 3) := by decide +kernel
theorem dL_law_1332 : decode cL_law 1332 = .ok (.pop, 1) := by decide +kernel
theorem dL_law_1333 : decode cL_law 1333 = .ok (.aload_n 2, 1) := by decide +kernel
theorem dL_law_1334 : decode cL_law 1334 = .ok (.invokevirtual 250, 3) := by decide +kernel
theorem dL_law_1337 : decode cL_law 1337 = .ok (.pop, 1) := by decide +kernel
theorem dL_law_1338 : decode cL_law 1338 = .ok (.goto 94, 3) := by decide +kernel
theorem dL_law_1341 : decode cL_law 1341 = .ok (.aload_n 1, 1) := by decide +kernel
theorem dL_law_1342 : decode cL_law 1342 = .ok (.aload_n 0, 1) := by decide +kernel
theorem dL_law_1343 : decode cL_law 1343 = .ok (.iload 4, 2) := by decide +kernel
theorem dL_law_1345 : decode cL_law 1345 = .ok (.iconst 1, 1) := by decide +kernel
theorem dL_law_1346 : decode cL_law 1346 = .ok (.iadd, 1) := by decide +kernel
theorem dL_law_1347 : decode cL_law 1347 = .ok (.iaload, 1) := by decide +kernel
theorem dL_law_1348 : decode cL_law 1348 = .ok (.aload_n 3, 1) := by decide +kernel
theorem dL_law_1349 : decode cL_law 1349 = .ok (.invokestatic 251, 3) := by decide +kernel
theorem dL_law_1352 : decode cL_law 1352 = .ok (.istore 5, 2) := by decide +kernel
theorem dL_law_1354 : decode cL_law 1354 = .ok (.aload_n 2, 1) := by decide +kernel
theorem dL_law_1355 : decode cL_law 1355 = .ok (.aload_n 0, 1) := by decide +kernel
theorem dL_law_1356 : decode cL_law 1356 = .ok (.iload 4, 2) := by decide +kernel
theorem dL_law_1358 : decode cL_law 1358 = .ok (.iconst 1, 1) := by decide +kernel
theorem dL_law_1359 : decode cL_law 1359 = .ok (.iadd, 1) := by decide +kernel
theorem dL_law_1360 : decode cL_law 1360 = .ok (.iaload, 1) := by decide +kernel
theorem dL_law_1361 : decode cL_law 1361 = .ok (.invokevirtual 253, 3) := by decide +kernel
theorem dL_law_1364 : decode cL_law 1364 = .ok (.istore 6, 2) := by decide +kernel
theorem dL_law_1366 : decode cL_law 1366 = .ok (.goto 66, 3) := by decide +kernel
theorem dL_law_1369 : decode cL_law 1369 = .ok (.aload_n 1, 1) := by decide +kernel
theorem dL_law_1370 : decode cL_law 1370 = .ok (.invokevirtual 254, 3) := by decide +kernel
theorem dL_law_1373 : decode cL_law 1373 = .ok (.pop, 1) := by decide +kernel
theorem dL_law_1374 : decode cL_law 1374 = .ok (.aload_n 2, 1) := by decide +kernel
theorem dL_law_1375 : decode cL_law 1375 = .ok (.invokevirtual 257, 3) := by decide +kernel
theorem dL_law_1378 : decode cL_law 1378 = .ok (.pop, 1) := by decide +kernel
theorem dL_law_1379 : decode cL_law 1379 = .ok (.goto 53, 3) := by decide +kernel
theorem dL_law_1382 : decode cL_law 1382 = .ok (.aload_n 1, 1) := by decide +kernel
theorem dL_law_1383 : decode cL_law 1383 = .ok (.aload_n 0, 1) := by decide +kernel
theorem dL_law_1384 : decode cL_law 1384 = .ok (.iload 4, 2) := by decide +kernel
theorem dL_law_1386 : decode cL_law 1386 = .ok (.iconst 1, 1) := by decide +kernel
theorem dL_law_1387 : decode cL_law 1387 = .ok (.iadd, 1) := by decide +kernel
theorem dL_law_1388 : decode cL_law 1388 = .ok (.iaload, 1) := by decide +kernel
theorem dL_law_1389 : decode cL_law 1389 = .ok (.invokestatic 258, 3) := by decide +kernel
theorem dL_law_1392 : decode cL_law 1392 = .ok (.istore 5, 2) := by decide +kernel
theorem dL_law_1394 : decode cL_law 1394 = .ok (.aload_n 2, 1) := by decide +kernel
theorem dL_law_1395 : decode cL_law 1395 = .ok (.aload_n 0, 1) := by decide +kernel
theorem dL_law_1396 : decode cL_law 1396 = .ok (.iload 4, 2) := by decide +kernel
theorem dL_law_1398 : decode cL_law 1398 = .ok (.iconst 1, 1) := by decide +kernel
theorem dL_law_1399 : decode cL_law 1399 = .ok (.iadd, 1) := by decide +kernel
theorem dL_law_1400 : decode cL_law 1400 = .ok (.iaload, 1) := by decide +kernel
theorem dL_law_1401 : decode cL_law 1401 = .ok (.invokevirtual 261, 3) := by decide +kernel
theorem dL_law_1404 : decode cL_law 1404 = .ok (.goto 28, 3) := by decide +kernel
theorem dL_law_1407 : decode cL_law 1407 = .ok (.aload_n 1, 1) := by decide +kernel
theorem dL_law_1408 : decode cL_law 1408 = .ok (.aload_n 0, 1) := by decide +kernel
theorem dL_law_1409 : decode cL_law 1409 = .ok (.iload 4, 2) := by decide +kernel
theorem dL_law_1411 : decode cL_law 1411 = .ok (.iconst 1, 1) := by decide +kernel
theorem dL_law_1412 : decode cL_law 1412 = .ok (.iadd, 1) := by decide +kernel
theorem dL_law_1413 : decode cL_law 1413 = .ok (.iaload, 1) := by decide +kernel
theorem dL_law_1414 : decode cL_law 1414 = .ok (.invokestatic 262, 3) := by decide +kernel
theorem dL_law_1417 : decode cL_law 1417 = .ok (.istore 5, 2) := by decide +kernel
theorem dL_law_1419 : decode cL_law 1419 = .ok (.aload_n 2, 1) := by decide +kernel
theorem dL_law_1420 : decode cL_law 1420 = .ok (.aload_n 0, 1) := by decide +kernel
theorem dL_law_1421 : decode cL_law 1421 = .ok (.iload 4, 2) := by decide +kernel
theorem dL_law_1423 : decode cL_law 1423 = .ok (.iconst 1, 1) := by decide +kernel
theorem dL_law_1424 : decode cL_law 1424 = .ok (.iadd, 1) := by decide +kernel
theorem dL_law_1425 : decode cL_law 1425 = .ok (.iaload, 1) := by decide +kernel
theorem dL_law_1426 : decode cL_law 1426 = .ok (.invokevirtual 264, 3) := by decide +kernel
theorem dL_law_1429 : decode cL_law 1429 = .ok (.goto 3, 3) := by decide +kernel
set_option maxHeartbeats 4000000 in
set_option maxRecDepth 100000 in
theorem lc_0 (l : Launch) (κ : Kt) (σ0 : Gh) (x mm out b : Nat) (t_x : zk σ0 x 7) (t_mm : zk σ0 mm 20) (t_out : zk σ0 out 24) (ttx0 : zk σ0 (kR κ x 0) 6) (hlt : l.stackTraces = false) {p : Program} {e : Env} {s : State} {m : MethodId} {below : List Frame} {meth : Method} {c : Code} {L : Nat} {xs : Nat → Int32} {i : Int32} {Q9 : State → Prop} (hx : p.tables.exec = Jvm.exec) (hb : c.code = cL_law) (hml : c.maxLocals = 9) (hown : s.vm.findClass RL = some m.cls) (hg : ∀ w ∈ GW, w.before #[Value.ref b] s = true) (hK : va_K κ.1 vwCl (kTy κ) s) (hX : XY κ (tA σ0 s.heap.size) s s.heap) (hXs : va_X b L xs s s.heap) (hbl : b < s.heap.size) (hbA : ¬ tA σ0 s.heap.size b) (zx : zroomX κ s room_1 601024 7293034) (hi0 : 0 ≤ i.toInt) (hi1 : i.toInt + 6 ≤ L) (hL9 : L ≤ 3072) {σ : Gh} {H : Heap} {locs : List Loc} {ls : Array Slot} (hT : TS κ fA σ0 σ s H locs) (hR : RI κ σ mm) (hlen : (zI σ (kR κ x 0) 1).toInt = (zI σ mm 13).toInt) (hl : lv_has ls 9 [(4, .int i), (3, .ref out), (2, .ref mm), (1, .ref x), (0, .ref b)]) (KK : ∀ (σ1 : Gh) (H : Heap) (locs : List Loc) (ls : Array Slot), TS (kX κ) fA σ0 σ1 s H locs → RI (kX κ) σ1 mm → (zI σ1 (kR κ x 0) 1).toInt = (zI σ1 mm 13).toInt → lv_has ls 9 [(4, .int i), (3, .ref out), (2, .ref mm), (1, .ref x), (0, .ref b)] → W p l e room_1 s m #[Value.ref b] below meth c H locs 601024 7293034 Q9 (F0 m 1432 ls [])) : W p l e room_1 s m #[Value.ref b] below meth c H locs 601024 7293034 Q9 (F0 m 220 ls []) := by
  obtain ⟨y1, hy1⟩ : ∃ z, z = xs (ix i + 1) := ⟨_, rfl⟩
  obtain ⟨y2, hy2⟩ : ∃ z, z = xs (ix i + 2) := ⟨_, rfl⟩
  obtain ⟨y3, hy3⟩ : ∃ z, z = xs (ix i + 3) := ⟨_, rfl⟩
  obtain ⟨y4, hy4⟩ : ∃ z, z = xs (ix i + 4) := ⟨_, rfl⟩
  obtain ⟨y5, hy5⟩ : ∃ z, z = xs (ix i + 5) := ⟨_, rfl⟩
  have n0 : (0 : Int32).toInt = 0 := by decide
  have n1 : (1 : Int32).toInt = 1 := by decide
  have n2 : (2 : Int32).toInt = 2 := by decide
  have n3 : (3 : Int32).toInt = 3 := by decide
  have n4 : (4 : Int32).toInt = 4 := by decide
  have n5 : (5 : Int32).toInt = 5 := by decide
  obtain ⟨tx, etx⟩ : ∃ z, kR κ x 0 = z := ⟨_, rfl⟩
  rw [etx] at hlen
  have ttx : zk σ0 tx 6 := by rw [← etx]; exact ttx0
  refine lv_aload_n hx hb dL_law_220 rfl (lv_at hl 3 rfl) ?_
  refine lv_aload_n hx hb dL_law_221 rfl (lv_at hl 4 rfl) ?_
  refine lv_iload hx hb dL_law_222 (lv_at hl 0 rfl) ?_
  refine lv_iconst (v := 1) hx hb dL_law_224 (by decide) ?_
  refine lv_iadd hx hb dL_law_225 ?_
  refine g_add (by omega) (by omega) (fun t1 ht1 => ?_)
  refine va_sld hx hb hXs hbl hbA hT.2.2.2 (g_in (by omega) (by omega)) dL_law_226 ?_
  refine ti y1 (by rw [hy1]; exact congrArg xs (show t1.toNatClampNeg = ix i + 1 from by show t1.toInt.toNat = ix i + 1; unfold ix; omega)) ?_
  refine lv_aload_n hx hb dL_law_227 rfl (lv_at hl 4 rfl) ?_
  refine lv_iload hx hb dL_law_228 (lv_at hl 0 rfl) ?_
  refine lv_iconst (v := 2) hx hb dL_law_230 (by decide) ?_
  refine lv_iadd hx hb dL_law_231 ?_
  refine g_add (by omega) (by omega) (fun t2 ht2 => ?_)
  refine va_sld hx hb hXs hbl hbA hT.2.2.2 (g_in (by omega) (by omega)) dL_law_232 ?_
  refine ti y2 (by rw [hy2]; exact congrArg xs (show t2.toNatClampNeg = ix i + 2 from by show t2.toInt.toNat = ix i + 2; unfold ix; omega)) ?_
  refine lv_aload_n hx hb dL_law_233 rfl (lv_at hl 4 rfl) ?_
  refine lv_iload hx hb dL_law_234 (lv_at hl 0 rfl) ?_
  refine lv_iconst (v := 3) hx hb dL_law_236 (by decide) ?_
  refine lv_iadd hx hb dL_law_237 ?_
  refine g_add (by omega) (by omega) (fun t3 ht3 => ?_)
  refine va_sld hx hb hXs hbl hbA hT.2.2.2 (g_in (by omega) (by omega)) dL_law_238 ?_
  refine ti y3 (by rw [hy3]; exact congrArg xs (show t3.toNatClampNeg = ix i + 3 from by show t3.toInt.toNat = ix i + 3; unfold ix; omega)) ?_
  refine lv_aload_n hx hb dL_law_239 rfl (lv_at hl 4 rfl) ?_
  refine lv_iload hx hb dL_law_240 (lv_at hl 0 rfl) ?_
  refine lv_iconst (v := 4) hx hb dL_law_242 (by decide) ?_
  refine lv_iadd hx hb dL_law_243 ?_
  refine g_add (by omega) (by omega) (fun t4 ht4 => ?_)
  refine va_sld hx hb hXs hbl hbA hT.2.2.2 (g_in (by omega) (by omega)) dL_law_244 ?_
  refine ti y4 (by rw [hy4]; exact congrArg xs (show t4.toNatClampNeg = ix i + 4 from by show t4.toInt.toNat = ix i + 4; unfold ix; omega)) ?_
  refine lv_aload_n hx hb dL_law_245 rfl (lv_at hl 4 rfl) ?_
  refine lv_iload hx hb dL_law_246 (lv_at hl 0 rfl) ?_
  refine lv_iconst (v := 5) hx hb dL_law_248 (by decide) ?_
  refine lv_iadd hx hb dL_law_249 ?_
  refine g_add (by omega) (by omega) (fun t5 ht5 => ?_)
  refine va_sld hx hb hXs hbl hbA hT.2.2.2 (g_in (by omega) (by omega)) dL_law_250 ?_
  refine ti y5 (by rw [hy5]; exact congrArg xs (show t5.toNatClampNeg = ix i + 5 from by show t5.toInt.toNat = ix i + 5; unfold ix; omega)) ?_
  have hTo := hT
  refine tVi (n := 5) (As := [.int y1, .int y2, .int y3, .int y4, .int y5]) (rest := []) hx hb hml hown hg hT hK hX (X5_append l κ σ x y1 y2 y3 y4 y5 (hT.k t_x (by decide))) sub_fT1_fA (mwV k411 k412 k413 k84 k414) ⟨rfl, by decide, by decide, by decide +kernel⟩ ⟨(Nat.le_of_ble_eq_true rfl), (Nat.le_of_ble_eq_true rfl)⟩ (hT.o7 (hT.k t_x (by decide))) rfl rfl hl.1 rfl (Nat.le_of_ble_eq_true rfl) dL_law_251 zx.dn (fun r7 s6 H locs hφ hE hT => ?_)
  have f8 := hφ
  rw [etx] at f8
  have R9 := hR.ext hE ⟨rfl, rfl, fun _ => rfl, fun _ => rfl, fun _ => rfl, fun _ => rfl⟩
  have a10 : (zI s6 mm 13).toInt = (zI σ mm 13).toInt := by rw [(hTo.k t_mm (by decide)).eI hE (by decide) rfl]
  refine lv_pop hx hb dL_law_254 rfl ?_
  refine lv_aload_n hx hb dL_law_255 rfl (lv_at hl 2 rfl) ?_
  refine lv_aload_n hx hb dL_law_256 rfl (lv_at hl 4 rfl) ?_
  refine lv_iload hx hb dL_law_257 (lv_at hl 0 rfl) ?_
  refine lv_iconst (v := 1) hx hb dL_law_259 (by decide) ?_
  refine lv_iadd hx hb dL_law_260 ?_
  refine g_add (by omega) (by omega) (fun t11 ht11 => ?_)
  refine va_sld hx hb hXs hbl hbA hT.2.2.2 (g_in (by omega) (by omega)) dL_law_261 ?_
  refine ti y1 (by rw [hy1]; exact congrArg xs (show t11.toNatClampNeg = ix i + 1 from by show t11.toInt.toNat = ix i + 1; unfold ix; omega)) ?_
  refine lv_aload_n hx hb dL_law_262 rfl (lv_at hl 4 rfl) ?_
  refine lv_iload hx hb dL_law_263 (lv_at hl 0 rfl) ?_
  refine lv_iconst (v := 2) hx hb dL_law_265 (by decide) ?_
  refine lv_iadd hx hb dL_law_266 ?_
  refine g_add (by omega) (by omega) (fun t12 ht12 => ?_)
  refine va_sld hx hb hXs hbl hbA hT.2.2.2 (g_in (by omega) (by omega)) dL_law_267 ?_
  refine ti y2 (by rw [hy2]; exact congrArg xs (show t12.toNatClampNeg = ix i + 2 from by show t12.toInt.toNat = ix i + 2; unfold ix; omega)) ?_
  refine lv_aload_n hx hb dL_law_268 rfl (lv_at hl 4 rfl) ?_
  refine lv_iload hx hb dL_law_269 (lv_at hl 0 rfl) ?_
  refine lv_iconst (v := 3) hx hb dL_law_271 (by decide) ?_
  refine lv_iadd hx hb dL_law_272 ?_
  refine g_add (by omega) (by omega) (fun t13 ht13 => ?_)
  refine va_sld hx hb hXs hbl hbA hT.2.2.2 (g_in (by omega) (by omega)) dL_law_273 ?_
  refine ti y3 (by rw [hy3]; exact congrArg xs (show t13.toNatClampNeg = ix i + 3 from by show t13.toInt.toNat = ix i + 3; unfold ix; omega)) ?_
  refine lv_aload_n hx hb dL_law_274 rfl (lv_at hl 4 rfl) ?_
  refine lv_iload hx hb dL_law_275 (lv_at hl 0 rfl) ?_
  refine lv_iconst (v := 4) hx hb dL_law_277 (by decide) ?_
  refine lv_iadd hx hb dL_law_278 ?_
  refine g_add (by omega) (by omega) (fun t14 ht14 => ?_)
  refine va_sld hx hb hXs hbl hbA hT.2.2.2 (g_in (by omega) (by omega)) dL_law_279 ?_
  refine ti y4 (by rw [hy4]; exact congrArg xs (show t14.toNatClampNeg = ix i + 4 from by show t14.toInt.toNat = ix i + 4; unfold ix; omega)) ?_
  refine lv_aload_n hx hb dL_law_280 rfl (lv_at hl 4 rfl) ?_
  refine lv_iload hx hb dL_law_281 (lv_at hl 0 rfl) ?_
  refine lv_iconst (v := 5) hx hb dL_law_283 (by decide) ?_
  refine lv_iadd hx hb dL_law_284 ?_
  refine g_add (by omega) (by omega) (fun t15 ht15 => ?_)
  refine va_sld hx hb hXs hbl hbA hT.2.2.2 (g_in (by omega) (by omega)) dL_law_285 ?_
  refine ti y5 (by rw [hy5]; exact congrArg xs (show t15.toNatClampNeg = ix i + 5 from by show t15.toInt.toNat = ix i + 5; unfold ix; omega)) ?_
  have hTo := hT
  refine tVi (n := 5) (As := [.int y1, .int y2, .int y3, .int y4, .int y5]) (rest := []) hx hb hml hown hg hT hK hX (X6_append l κ s6 mm y1 y2 y3 y4 y5 (hT.k t_mm (by decide)) R9) sub_gAp_fA (mwV k1305 k1306 k1307 k92 k1308) ⟨rfl, by decide, by decide, by decide +kernel⟩ ⟨(Nat.le_of_ble_eq_true rfl), (Nat.le_of_ble_eq_true rfl)⟩ (hT.o20 (hT.k t_mm (by decide))) rfl rfl hl.1 rfl (Nat.le_of_ble_eq_true rfl) dL_law_286 zx.dn (fun r17 s16 H locs hφ hE hT => ?_)
  obtain ⟨f18, f19⟩ := hφ
  have a20 : (zI s16 tx 1).toInt = (zI s6 tx 1).toInt := by rw [(hTo.k ttx (by decide)).eI hE (by decide) rfl]
  refine lv_pop hx hb dL_law_289 rfl ?_
  refine lv_goto (tgt := 1432) hx hb dL_law_290 (by decide) ?_
  exact KK s16 _ _ _ hT.up f18 (by rw [etx]; omega) (lv_sub hl [0, 1, 2, 3, 4] rfl)
set_option maxHeartbeats 4000000 in
set_option maxRecDepth 100000 in
theorem lc_1 (l : Launch) (κ : Kt) (σ0 : Gh) (x mm out b : Nat) (t_x : zk σ0 x 7) (t_mm : zk σ0 mm 20) (t_out : zk σ0 out 24) (ttx0 : zk σ0 (kR κ x 0) 6) (hlt : l.stackTraces = false) {p : Program} {e : Env} {s : State} {m : MethodId} {below : List Frame} {meth : Method} {c : Code} {L : Nat} {xs : Nat → Int32} {i : Int32} {Q9 : State → Prop} (hx : p.tables.exec = Jvm.exec) (hb : c.code = cL_law) (hml : c.maxLocals = 9) (hown : s.vm.findClass RL = some m.cls) (hg : ∀ w ∈ GW, w.before #[Value.ref b] s = true) (hK : va_K κ.1 vwCl (kTy κ) s) (hX : XY κ (tA σ0 s.heap.size) s s.heap) (hXs : va_X b L xs s s.heap) (hbl : b < s.heap.size) (hbA : ¬ tA σ0 s.heap.size b) (zx : zroomX κ s room_1 601024 7293034) (hi0 : 0 ≤ i.toInt) (hi1 : i.toInt + 6 ≤ L) (hL9 : L ≤ 3072) {σ : Gh} {H : Heap} {locs : List Loc} {ls : Array Slot} (hT : TS κ fA σ0 σ s H locs) (hR : RI κ σ mm) (hlen : (zI σ (kR κ x 0) 1).toInt = (zI σ mm 13).toInt) (hl : lv_has ls 9 [(4, .int i), (3, .ref out), (2, .ref mm), (1, .ref x), (0, .ref b)]) (KK : ∀ (σ1 : Gh) (H : Heap) (locs : List Loc) (ls : Array Slot), TS (kX κ) fA σ0 σ1 s H locs → RI (kX κ) σ1 mm → (zI σ1 (kR κ x 0) 1).toInt = (zI σ1 mm 13).toInt → lv_has ls 9 [(4, .int i), (3, .ref out), (2, .ref mm), (1, .ref x), (0, .ref b)] → W p l e room_1 s m #[Value.ref b] below meth c H locs 601024 7293034 Q9 (F0 m 1432 ls [])) : W p l e room_1 s m #[Value.ref b] below meth c H locs 601024 7293034 Q9 (F0 m 293 ls []) := by
  obtain ⟨y1, hy1⟩ : ∃ z, z = xs (ix i + 1) := ⟨_, rfl⟩
  obtain ⟨y2, hy2⟩ : ∃ z, z = xs (ix i + 2) := ⟨_, rfl⟩
  obtain ⟨y3, hy3⟩ : ∃ z, z = xs (ix i + 3) := ⟨_, rfl⟩
  obtain ⟨y4, hy4⟩ : ∃ z, z = xs (ix i + 4) := ⟨_, rfl⟩
  obtain ⟨y5, hy5⟩ : ∃ z, z = xs (ix i + 5) := ⟨_, rfl⟩
  have n0 : (0 : Int32).toInt = 0 := by decide
  have n1 : (1 : Int32).toInt = 1 := by decide
  have n2 : (2 : Int32).toInt = 2 := by decide
  have n3 : (3 : Int32).toInt = 3 := by decide
  have n4 : (4 : Int32).toInt = 4 := by decide
  have n5 : (5 : Int32).toInt = 5 := by decide
  obtain ⟨tx, etx⟩ : ∃ z, kR κ x 0 = z := ⟨_, rfl⟩
  rw [etx] at hlen
  have ttx : zk σ0 tx 6 := by rw [← etx]; exact ttx0
  refine lv_aload_n hx hb dL_law_293 rfl (lv_at hl 3 rfl) ?_
  refine lv_aload_n hx hb dL_law_294 rfl (lv_at hl 4 rfl) ?_
  refine lv_iload hx hb dL_law_295 (lv_at hl 0 rfl) ?_
  refine lv_iconst (v := 1) hx hb dL_law_297 (by decide) ?_
  refine lv_iadd hx hb dL_law_298 ?_
  refine g_add (by omega) (by omega) (fun t1 ht1 => ?_)
  refine va_sld hx hb hXs hbl hbA hT.2.2.2 (g_in (by omega) (by omega)) dL_law_299 ?_
  refine ti y1 (by rw [hy1]; exact congrArg xs (show t1.toNatClampNeg = ix i + 1 from by show t1.toInt.toNat = ix i + 1; unfold ix; omega)) ?_
  refine lv_aload_n hx hb dL_law_300 rfl (lv_at hl 1 rfl) ?_
  have hTo := hT
  refine tHi (n := 3) (As := [.ref x, .int y1, .ref out]) (rest := []) hx hb hml hown hg hT hK hX (L_truncate l κ σ x y1 out (hT.k t_x (by decide)) (hT.k t_out (by decide)) hlt) sub_hfTr_fA (mwHS k602 k603 k83 k604) ⟨by decide, by decide, by decide +kernel⟩ ⟨(Nat.le_of_ble_eq_true rfl), (Nat.le_of_ble_eq_true rfl)⟩ rfl hl.1 rfl (Nat.le_of_ble_eq_true rfl) dL_law_301 zx (fun r3 s2 H locs hφ hE hT => ?_)
  have f4 := hφ
  rw [etx] at f4
  have R5 := hR.ext hE ⟨rfl, rfl, fun _ => rfl, fun _ => rfl, fun _ => rfl, fun _ => rfl⟩
  have a6 : (zI s2 mm 13).toInt = (zI σ mm 13).toInt := by rw [(hTo.k t_mm (by decide)).eI hE (by decide) rfl]
  refine lv_istore (lv' := [(5, .int r3), (4, .int i), (3, .ref out), (2, .ref mm), (1, .ref x), (0, .ref b)]) hx hb dL_law_304 hl (by decide) rfl (fun ls hl => ?_)
  refine lv_aload_n hx hb dL_law_306 rfl (lv_at hl 3 rfl) ?_
  refine lv_aload_n hx hb dL_law_307 rfl (lv_at hl 5 rfl) ?_
  refine lv_iload hx hb dL_law_308 (lv_at hl 1 rfl) ?_
  refine lv_iconst (v := 1) hx hb dL_law_310 (by decide) ?_
  refine lv_iadd hx hb dL_law_311 ?_
  refine g_add (by omega) (by omega) (fun t7 ht7 => ?_)
  refine va_sld hx hb hXs hbl hbA hT.2.2.2 (g_in (by omega) (by omega)) dL_law_312 ?_
  refine ti y1 (by rw [hy1]; exact congrArg xs (show t7.toNatClampNeg = ix i + 1 from by show t7.toInt.toNat = ix i + 1; unfold ix; omega)) ?_
  have hTo := hT
  refine tVi (n := 1) (As := [.int y1]) (rest := []) hx hb hml hown hg hT hK hX (X6_truncate l (kX κ) s2 mm y1 (hT.k t_mm (by decide)) R5) sub_gTr_fA (mwV k1313 k1314 k1315 k92 k1316) ⟨rfl, by decide, by decide, by decide +kernel⟩ ⟨(Nat.le_of_ble_eq_true rfl), (Nat.le_of_ble_eq_true rfl)⟩ (hT.o20 (hT.k t_mm (by decide))) rfl rfl hl.1 rfl (Nat.le_of_ble_eq_true rfl) dL_law_313 zx (fun r9 s8 H locs hφ hE hT => ?_)
  obtain ⟨f10, f11⟩ := hφ
  have a12 : (zI s8 tx 1).toInt = (zI s2 tx 1).toInt := by rw [(hTo.k ttx (by decide)).eI hE (by decide) rfl]
  refine lv_istore (lv' := [(6, .int r9), (5, .int r3), (4, .int i), (3, .ref out), (2, .ref mm), (1, .ref x), (0, .ref b)]) hx hb dL_law_316 hl (by decide) rfl (fun ls hl => ?_)
  refine lv_goto (tgt := 1432) hx hb dL_law_318 (by decide) ?_
  exact KK s8 _ _ _ hT f10 (by rw [etx]; omega) (lv_sub hl [2, 3, 4, 5, 6] rfl)
set_option maxHeartbeats 4000000 in
set_option maxRecDepth 100000 in
theorem lc_2 (l : Launch) (κ : Kt) (σ0 : Gh) (x mm out b : Nat) (t_x : zk σ0 x 7) (t_mm : zk σ0 mm 20) (t_out : zk σ0 out 24) (ttx0 : zk σ0 (kR κ x 0) 6) (hlt : l.stackTraces = false) {p : Program} {e : Env} {s : State} {m : MethodId} {below : List Frame} {meth : Method} {c : Code} {L : Nat} {xs : Nat → Int32} {i : Int32} {Q9 : State → Prop} (hx : p.tables.exec = Jvm.exec) (hb : c.code = cL_law) (hml : c.maxLocals = 9) (hown : s.vm.findClass RL = some m.cls) (hg : ∀ w ∈ GW, w.before #[Value.ref b] s = true) (hK : va_K κ.1 vwCl (kTy κ) s) (hX : XY κ (tA σ0 s.heap.size) s s.heap) (hXs : va_X b L xs s s.heap) (hbl : b < s.heap.size) (hbA : ¬ tA σ0 s.heap.size b) (zx : zroomX κ s room_1 601024 7293034) (hi0 : 0 ≤ i.toInt) (hi1 : i.toInt + 6 ≤ L) (hL9 : L ≤ 3072) {σ : Gh} {H : Heap} {locs : List Loc} {ls : Array Slot} (hT : TS κ fA σ0 σ s H locs) (hR : RI κ σ mm) (hlen : (zI σ (kR κ x 0) 1).toInt = (zI σ mm 13).toInt) (hl : lv_has ls 9 [(4, .int i), (3, .ref out), (2, .ref mm), (1, .ref x), (0, .ref b)]) (KK : ∀ (σ1 : Gh) (H : Heap) (locs : List Loc) (ls : Array Slot), TS (kX κ) fA σ0 σ1 s H locs → RI (kX κ) σ1 mm → (zI σ1 (kR κ x 0) 1).toInt = (zI σ1 mm 13).toInt → lv_has ls 9 [(4, .int i), (3, .ref out), (2, .ref mm), (1, .ref x), (0, .ref b)] → W p l e room_1 s m #[Value.ref b] below meth c H locs 601024 7293034 Q9 (F0 m 1432 ls [])) : W p l e room_1 s m #[Value.ref b] below meth c H locs 601024 7293034 Q9 (F0 m 321 ls []) := by
  obtain ⟨y1, hy1⟩ : ∃ z, z = xs (ix i + 1) := ⟨_, rfl⟩
  obtain ⟨y2, hy2⟩ : ∃ z, z = xs (ix i + 2) := ⟨_, rfl⟩
  obtain ⟨y3, hy3⟩ : ∃ z, z = xs (ix i + 3) := ⟨_, rfl⟩
  obtain ⟨y4, hy4⟩ : ∃ z, z = xs (ix i + 4) := ⟨_, rfl⟩
  obtain ⟨y5, hy5⟩ : ∃ z, z = xs (ix i + 5) := ⟨_, rfl⟩
  have n0 : (0 : Int32).toInt = 0 := by decide
  have n1 : (1 : Int32).toInt = 1 := by decide
  have n2 : (2 : Int32).toInt = 2 := by decide
  have n3 : (3 : Int32).toInt = 3 := by decide
  have n4 : (4 : Int32).toInt = 4 := by decide
  have n5 : (5 : Int32).toInt = 5 := by decide
  obtain ⟨tx, etx⟩ : ∃ z, kR κ x 0 = z := ⟨_, rfl⟩
  rw [etx] at hlen
  have ttx : zk σ0 tx 6 := by rw [← etx]; exact ttx0
  refine lv_aload_n hx hb dL_law_321 rfl (lv_at hl 3 rfl) ?_
  refine lv_aload_n hx hb dL_law_322 rfl (lv_at hl 1 rfl) ?_
  have hTo := hT
  refine tHi (n := 2) (As := [.ref x, .ref out]) (rest := []) hx hb hml hown hg hT hK hX (L_load l κ σ x out (hT.k t_x (by decide)) (hT.k t_out (by decide)) hlt) sub_hfLd_fA (mwHS k681 k682 k83 k683) ⟨by decide, by decide, by decide +kernel⟩ ⟨(Nat.le_of_ble_eq_true rfl), (Nat.le_of_ble_eq_true rfl)⟩ rfl hl.1 rfl (Nat.le_of_ble_eq_true rfl) dL_law_323 zx (fun r2 s1 H locs hφ hE hT => ?_)
  have f3 := hφ
  rw [etx] at f3
  have R4 := hR.ext hE ⟨rfl, rfl, fun _ => rfl, fun _ => rfl, fun _ => rfl, fun _ => rfl⟩
  have a5 : (zI s1 mm 13).toInt = (zI σ mm 13).toInt := by rw [(hTo.k t_mm (by decide)).eI hE (by decide) rfl]
  refine lv_istore (lv' := [(5, .int r2), (4, .int i), (3, .ref out), (2, .ref mm), (1, .ref x), (0, .ref b)]) hx hb dL_law_326 hl (by decide) rfl (fun ls hl => ?_)
  refine lv_aload_n hx hb dL_law_328 rfl (lv_at hl 3 rfl) ?_
  have hTo := hT
  refine tVi (n := 0) (As := []) (rest := []) hx hb hml hown hg hT hK hX (X6_load l (kX κ) s1 mm (hT.k t_mm (by decide)) R4) sub_gLd_fA (mwV k1324 k1325 k1326 k92 k1327) ⟨rfl, by decide, by decide, by decide +kernel⟩ ⟨(Nat.le_of_ble_eq_true rfl), (Nat.le_of_ble_eq_true rfl)⟩ (hT.o20 (hT.k t_mm (by decide))) rfl rfl hl.1 rfl (Nat.le_of_ble_eq_true rfl) dL_law_329 zx (fun r7 s6 H locs hφ hE hT => ?_)
  obtain ⟨f8, f9⟩ := hφ
  have a10 : (zI s6 tx 1).toInt = (zI s1 tx 1).toInt := by rw [(hTo.k ttx (by decide)).eI hE (by decide) rfl]
  refine lv_istore (lv' := [(6, .int r7), (5, .int r2), (4, .int i), (3, .ref out), (2, .ref mm), (1, .ref x), (0, .ref b)]) hx hb dL_law_332 hl (by decide) rfl (fun ls hl => ?_)
  refine lv_goto (tgt := 1432) hx hb dL_law_334 (by decide) ?_
  exact KK s6 _ _ _ hT f8 (by rw [etx]; omega) (lv_sub hl [2, 3, 4, 5, 6] rfl)
set_option maxHeartbeats 4000000 in
set_option maxRecDepth 100000 in
theorem lc_3 (l : Launch) (κ : Kt) (σ0 : Gh) (x mm out b : Nat) (t_x : zk σ0 x 7) (t_mm : zk σ0 mm 20) (t_out : zk σ0 out 24) (ttx0 : zk σ0 (kR κ x 0) 6) (hlt : l.stackTraces = false) {p : Program} {e : Env} {s : State} {m : MethodId} {below : List Frame} {meth : Method} {c : Code} {L : Nat} {xs : Nat → Int32} {i : Int32} {Q9 : State → Prop} (hx : p.tables.exec = Jvm.exec) (hb : c.code = cL_law) (hml : c.maxLocals = 9) (hown : s.vm.findClass RL = some m.cls) (hg : ∀ w ∈ GW, w.before #[Value.ref b] s = true) (hK : va_K κ.1 vwCl (kTy κ) s) (hX : XY κ (tA σ0 s.heap.size) s s.heap) (hXs : va_X b L xs s s.heap) (hbl : b < s.heap.size) (hbA : ¬ tA σ0 s.heap.size b) (zx : zroomX κ s room_1 601024 7293034) (hi0 : 0 ≤ i.toInt) (hi1 : i.toInt + 6 ≤ L) (hL9 : L ≤ 3072) {σ : Gh} {H : Heap} {locs : List Loc} {ls : Array Slot} (hT : TS κ fA σ0 σ s H locs) (hR : RI κ σ mm) (hlen : (zI σ (kR κ x 0) 1).toInt = (zI σ mm 13).toInt) (hl : lv_has ls 9 [(4, .int i), (3, .ref out), (2, .ref mm), (1, .ref x), (0, .ref b)]) (KK : ∀ (σ1 : Gh) (H : Heap) (locs : List Loc) (ls : Array Slot), TS (kX κ) fA σ0 σ1 s H locs → RI (kX κ) σ1 mm → (zI σ1 (kR κ x 0) 1).toInt = (zI σ1 mm 13).toInt → lv_has ls 9 [(4, .int i), (3, .ref out), (2, .ref mm), (1, .ref x), (0, .ref b)] → W p l e room_1 s m #[Value.ref b] below meth c H locs 601024 7293034 Q9 (F0 m 1432 ls [])) : W p l e room_1 s m #[Value.ref b] below meth c H locs 601024 7293034 Q9 (F0 m 337 ls []) := by
  obtain ⟨y1, hy1⟩ : ∃ z, z = xs (ix i + 1) := ⟨_, rfl⟩
  obtain ⟨y2, hy2⟩ : ∃ z, z = xs (ix i + 2) := ⟨_, rfl⟩
  obtain ⟨y3, hy3⟩ : ∃ z, z = xs (ix i + 3) := ⟨_, rfl⟩
  obtain ⟨y4, hy4⟩ : ∃ z, z = xs (ix i + 4) := ⟨_, rfl⟩
  obtain ⟨y5, hy5⟩ : ∃ z, z = xs (ix i + 5) := ⟨_, rfl⟩
  have n0 : (0 : Int32).toInt = 0 := by decide
  have n1 : (1 : Int32).toInt = 1 := by decide
  have n2 : (2 : Int32).toInt = 2 := by decide
  have n3 : (3 : Int32).toInt = 3 := by decide
  have n4 : (4 : Int32).toInt = 4 := by decide
  have n5 : (5 : Int32).toInt = 5 := by decide
  obtain ⟨tx, etx⟩ : ∃ z, kR κ x 0 = z := ⟨_, rfl⟩
  rw [etx] at hlen
  have ttx : zk σ0 tx 6 := by rw [← etx]; exact ttx0
  refine lv_aload_n hx hb dL_law_337 rfl (lv_at hl 3 rfl) ?_
  have hTo := hT
  refine tVi (n := 0) (As := []) (rest := []) hx hb hml hown hg hT hK hX (X5_errorCode l κ σ x (hT.k t_x (by decide))) sub_fE_fA (mwV k423 k424 k425 k84 k426) ⟨rfl, by decide, by decide, by decide +kernel⟩ ⟨(Nat.le_of_ble_eq_true rfl), (Nat.le_of_ble_eq_true rfl)⟩ (hT.o7 (hT.k t_x (by decide))) rfl rfl hl.1 rfl (Nat.le_of_ble_eq_true rfl) dL_law_338 zx.dn (fun r2 s1 H locs hφ hE hT => ?_)
  have R3 := hR.ext hE ⟨rfl, rfl, fun _ => rfl, fun _ => rfl, fun _ => rfl, fun _ => rfl⟩
  have a4 : (zI s1 tx 1).toInt = (zI σ tx 1).toInt := by rw [(hTo.k ttx (by decide)).eI hE (by decide) rfl]
  have a5 : (zI s1 mm 13).toInt = (zI σ mm 13).toInt := by rw [(hTo.k t_mm (by decide)).eI hE (by decide) rfl]
  refine lv_pop hx hb dL_law_341 rfl ?_
  refine lv_aload_n hx hb dL_law_342 rfl (lv_at hl 2 rfl) ?_
  have hTo := hT
  refine tVi (n := 0) (As := []) (rest := []) hx hb hml hown hg hT hK hX (X6_errorCode l κ s1 mm (hT.k t_mm (by decide)) R3) sub_gR_fA (mwV k1399 k1400 k1401 k92 k1402) ⟨rfl, by decide, by decide, by decide +kernel⟩ ⟨(Nat.le_of_ble_eq_true rfl), (Nat.le_of_ble_eq_true rfl)⟩ (hT.o20 (hT.k t_mm (by decide))) rfl rfl hl.1 rfl (Nat.le_of_ble_eq_true rfl) dL_law_343 zx.dn (fun r7 s6 H locs hφ hE hT => ?_)
  have R8 := R3.ext hE ⟨rfl, rfl, fun _ => rfl, fun _ => rfl, fun _ => rfl, fun _ => rfl⟩
  have a9 : (zI s6 tx 1).toInt = (zI s1 tx 1).toInt := by rw [(hTo.k ttx (by decide)).eI hE (by decide) rfl]
  have a10 : (zI s6 mm 13).toInt = (zI s1 mm 13).toInt := by rw [(hTo.k t_mm (by decide)).eI hE (by decide) rfl]
  refine lv_pop hx hb dL_law_346 rfl ?_
  refine lv_goto (tgt := 1432) hx hb dL_law_347 (by decide) ?_
  exact KK s6 _ _ _ hT.up R8 (by rw [etx]; omega) (lv_sub hl [0, 1, 2, 3, 4] rfl)
set_option maxHeartbeats 4000000 in
set_option maxRecDepth 100000 in
theorem lc_4 (l : Launch) (κ : Kt) (σ0 : Gh) (x mm out b : Nat) (t_x : zk σ0 x 7) (t_mm : zk σ0 mm 20) (t_out : zk σ0 out 24) (ttx0 : zk σ0 (kR κ x 0) 6) (hlt : l.stackTraces = false) {p : Program} {e : Env} {s : State} {m : MethodId} {below : List Frame} {meth : Method} {c : Code} {L : Nat} {xs : Nat → Int32} {i : Int32} {Q9 : State → Prop} (hx : p.tables.exec = Jvm.exec) (hb : c.code = cL_law) (hml : c.maxLocals = 9) (hown : s.vm.findClass RL = some m.cls) (hg : ∀ w ∈ GW, w.before #[Value.ref b] s = true) (hK : va_K κ.1 vwCl (kTy κ) s) (hX : XY κ (tA σ0 s.heap.size) s s.heap) (hXs : va_X b L xs s s.heap) (hbl : b < s.heap.size) (hbA : ¬ tA σ0 s.heap.size b) (zx : zroomX κ s room_1 601024 7293034) (hi0 : 0 ≤ i.toInt) (hi1 : i.toInt + 6 ≤ L) (hL9 : L ≤ 3072) {σ : Gh} {H : Heap} {locs : List Loc} {ls : Array Slot} (hT : TS κ fA σ0 σ s H locs) (hR : RI κ σ mm) (hlen : (zI σ (kR κ x 0) 1).toInt = (zI σ mm 13).toInt) (hl : lv_has ls 9 [(4, .int i), (3, .ref out), (2, .ref mm), (1, .ref x), (0, .ref b)]) (KK : ∀ (σ1 : Gh) (H : Heap) (locs : List Loc) (ls : Array Slot), TS (kX κ) fA σ0 σ1 s H locs → RI (kX κ) σ1 mm → (zI σ1 (kR κ x 0) 1).toInt = (zI σ1 mm 13).toInt → lv_has ls 9 [(4, .int i), (3, .ref out), (2, .ref mm), (1, .ref x), (0, .ref b)] → W p l e room_1 s m #[Value.ref b] below meth c H locs 601024 7293034 Q9 (F0 m 1432 ls [])) : W p l e room_1 s m #[Value.ref b] below meth c H locs 601024 7293034 Q9 (F0 m 350 ls []) := by
  obtain ⟨y1, hy1⟩ : ∃ z, z = xs (ix i + 1) := ⟨_, rfl⟩
  obtain ⟨y2, hy2⟩ : ∃ z, z = xs (ix i + 2) := ⟨_, rfl⟩
  obtain ⟨y3, hy3⟩ : ∃ z, z = xs (ix i + 3) := ⟨_, rfl⟩
  obtain ⟨y4, hy4⟩ : ∃ z, z = xs (ix i + 4) := ⟨_, rfl⟩
  obtain ⟨y5, hy5⟩ : ∃ z, z = xs (ix i + 5) := ⟨_, rfl⟩
  have n0 : (0 : Int32).toInt = 0 := by decide
  have n1 : (1 : Int32).toInt = 1 := by decide
  have n2 : (2 : Int32).toInt = 2 := by decide
  have n3 : (3 : Int32).toInt = 3 := by decide
  have n4 : (4 : Int32).toInt = 4 := by decide
  have n5 : (5 : Int32).toInt = 5 := by decide
  obtain ⟨tx, etx⟩ : ∃ z, kR κ x 0 = z := ⟨_, rfl⟩
  rw [etx] at hlen
  have ttx : zk σ0 tx 6 := by rw [← etx]; exact ttx0
  refine lv_aload_n hx hb dL_law_350 rfl (lv_at hl 3 rfl) ?_
  have hTo := hT
  refine tVi (n := 0) (As := []) (rest := []) hx hb hml hown hg hT hK hX (X5_errorPosition l κ σ x (hT.k t_x (by decide))) sub_fE_fA (mwV k427 k428 k429 k84 k430) ⟨rfl, by decide, by decide, by decide +kernel⟩ ⟨(Nat.le_of_ble_eq_true rfl), (Nat.le_of_ble_eq_true rfl)⟩ (hT.o7 (hT.k t_x (by decide))) rfl rfl hl.1 rfl (Nat.le_of_ble_eq_true rfl) dL_law_351 zx.dn (fun r2 s1 H locs hφ hE hT => ?_)
  have R3 := hR.ext hE ⟨rfl, rfl, fun _ => rfl, fun _ => rfl, fun _ => rfl, fun _ => rfl⟩
  have a4 : (zI s1 tx 1).toInt = (zI σ tx 1).toInt := by rw [(hTo.k ttx (by decide)).eI hE (by decide) rfl]
  have a5 : (zI s1 mm 13).toInt = (zI σ mm 13).toInt := by rw [(hTo.k t_mm (by decide)).eI hE (by decide) rfl]
  refine lv_pop hx hb dL_law_354 rfl ?_
  refine lv_aload_n hx hb dL_law_355 rfl (lv_at hl 2 rfl) ?_
  have hTo := hT
  refine tVi (n := 0) (As := []) (rest := []) hx hb hml hown hg hT hK hX (X6_errorPosition l κ s1 mm (hT.k t_mm (by decide)) R3) sub_gR_fA (mwV k1403 k1404 k1405 k92 k1406) ⟨rfl, by decide, by decide, by decide +kernel⟩ ⟨(Nat.le_of_ble_eq_true rfl), (Nat.le_of_ble_eq_true rfl)⟩ (hT.o20 (hT.k t_mm (by decide))) rfl rfl hl.1 rfl (Nat.le_of_ble_eq_true rfl) dL_law_356 zx.dn (fun r7 s6 H locs hφ hE hT => ?_)
  have R8 := R3.ext hE ⟨rfl, rfl, fun _ => rfl, fun _ => rfl, fun _ => rfl, fun _ => rfl⟩
  have a9 : (zI s6 tx 1).toInt = (zI s1 tx 1).toInt := by rw [(hTo.k ttx (by decide)).eI hE (by decide) rfl]
  have a10 : (zI s6 mm 13).toInt = (zI s1 mm 13).toInt := by rw [(hTo.k t_mm (by decide)).eI hE (by decide) rfl]
  refine lv_pop hx hb dL_law_359 rfl ?_
  refine lv_goto (tgt := 1432) hx hb dL_law_360 (by decide) ?_
  exact KK s6 _ _ _ hT.up R8 (by rw [etx]; omega) (lv_sub hl [0, 1, 2, 3, 4] rfl)
set_option maxHeartbeats 4000000 in
set_option maxRecDepth 100000 in
theorem lc_5 (l : Launch) (κ : Kt) (σ0 : Gh) (x mm out b : Nat) (t_x : zk σ0 x 7) (t_mm : zk σ0 mm 20) (t_out : zk σ0 out 24) (ttx0 : zk σ0 (kR κ x 0) 6) (hlt : l.stackTraces = false) {p : Program} {e : Env} {s : State} {m : MethodId} {below : List Frame} {meth : Method} {c : Code} {L : Nat} {xs : Nat → Int32} {i : Int32} {Q9 : State → Prop} (hx : p.tables.exec = Jvm.exec) (hb : c.code = cL_law) (hml : c.maxLocals = 9) (hown : s.vm.findClass RL = some m.cls) (hg : ∀ w ∈ GW, w.before #[Value.ref b] s = true) (hK : va_K κ.1 vwCl (kTy κ) s) (hX : XY κ (tA σ0 s.heap.size) s s.heap) (hXs : va_X b L xs s s.heap) (hbl : b < s.heap.size) (hbA : ¬ tA σ0 s.heap.size b) (zx : zroomX κ s room_1 601024 7293034) (hi0 : 0 ≤ i.toInt) (hi1 : i.toInt + 6 ≤ L) (hL9 : L ≤ 3072) {σ : Gh} {H : Heap} {locs : List Loc} {ls : Array Slot} (hT : TS κ fA σ0 σ s H locs) (hR : RI κ σ mm) (hlen : (zI σ (kR κ x 0) 1).toInt = (zI σ mm 13).toInt) (hl : lv_has ls 9 [(4, .int i), (3, .ref out), (2, .ref mm), (1, .ref x), (0, .ref b)]) (KK : ∀ (σ1 : Gh) (H : Heap) (locs : List Loc) (ls : Array Slot), TS (kX κ) fA σ0 σ1 s H locs → RI (kX κ) σ1 mm → (zI σ1 (kR κ x 0) 1).toInt = (zI σ1 mm 13).toInt → lv_has ls 9 [(4, .int i), (3, .ref out), (2, .ref mm), (1, .ref x), (0, .ref b)] → W p l e room_1 s m #[Value.ref b] below meth c H locs 601024 7293034 Q9 (F0 m 1432 ls [])) : W p l e room_1 s m #[Value.ref b] below meth c H locs 601024 7293034 Q9 (F0 m 363 ls []) := by
  obtain ⟨y1, hy1⟩ : ∃ z, z = xs (ix i + 1) := ⟨_, rfl⟩
  obtain ⟨y2, hy2⟩ : ∃ z, z = xs (ix i + 2) := ⟨_, rfl⟩
  obtain ⟨y3, hy3⟩ : ∃ z, z = xs (ix i + 3) := ⟨_, rfl⟩
  obtain ⟨y4, hy4⟩ : ∃ z, z = xs (ix i + 4) := ⟨_, rfl⟩
  obtain ⟨y5, hy5⟩ : ∃ z, z = xs (ix i + 5) := ⟨_, rfl⟩
  have n0 : (0 : Int32).toInt = 0 := by decide
  have n1 : (1 : Int32).toInt = 1 := by decide
  have n2 : (2 : Int32).toInt = 2 := by decide
  have n3 : (3 : Int32).toInt = 3 := by decide
  have n4 : (4 : Int32).toInt = 4 := by decide
  have n5 : (5 : Int32).toInt = 5 := by decide
  obtain ⟨tx, etx⟩ : ∃ z, kR κ x 0 = z := ⟨_, rfl⟩
  rw [etx] at hlen
  have ttx : zk σ0 tx 6 := by rw [← etx]; exact ttx0
  refine lv_aload_n hx hb dL_law_363 rfl (lv_at hl 3 rfl) ?_
  refine lv_aload_n hx hb dL_law_364 rfl (lv_at hl 4 rfl) ?_
  refine lv_iload hx hb dL_law_365 (lv_at hl 0 rfl) ?_
  refine lv_iconst (v := 1) hx hb dL_law_367 (by decide) ?_
  refine lv_iadd hx hb dL_law_368 ?_
  refine g_add (by omega) (by omega) (fun t1 ht1 => ?_)
  refine va_sld hx hb hXs hbl hbA hT.2.2.2 (g_in (by omega) (by omega)) dL_law_369 ?_
  refine ti y1 (by rw [hy1]; exact congrArg xs (show t1.toNatClampNeg = ix i + 1 from by show t1.toInt.toNat = ix i + 1; unfold ix; omega)) ?_
  refine lv_aload_n hx hb dL_law_370 rfl (lv_at hl 1 rfl) ?_
  have hTo := hT
  refine tHi (n := 3) (As := [.ref x, .int y1, .ref out]) (rest := []) hx hb hml hown hg hT hK hX (L_count l κ σ x y1 out (hT.k t_x (by decide)) (hT.k t_out (by decide)) hlt) sub_hfE_fA (mwHS k834 k835 k83 k836) ⟨by decide, by decide, by decide +kernel⟩ ⟨(Nat.le_of_ble_eq_true rfl), (Nat.le_of_ble_eq_true rfl)⟩ rfl hl.1 rfl (Nat.le_of_ble_eq_true rfl) dL_law_371 zx (fun r3 s2 H locs hφ hE hT => ?_)
  have R4 := hR.ext hE ⟨rfl, rfl, fun _ => rfl, fun _ => rfl, fun _ => rfl, fun _ => rfl⟩
  have a5 : (zI s2 tx 1).toInt = (zI σ tx 1).toInt := by rw [(hTo.k ttx (by decide)).eI hE (by decide) rfl]
  have a6 : (zI s2 mm 13).toInt = (zI σ mm 13).toInt := by rw [(hTo.k t_mm (by decide)).eI hE (by decide) rfl]
  refine lv_istore (lv' := [(5, .int r3), (4, .int i), (3, .ref out), (2, .ref mm), (1, .ref x), (0, .ref b)]) hx hb dL_law_374 hl (by decide) rfl (fun ls hl => ?_)
  refine lv_aload_n hx hb dL_law_376 rfl (lv_at hl 3 rfl) ?_
  refine lv_aload_n hx hb dL_law_377 rfl (lv_at hl 5 rfl) ?_
  refine lv_iload hx hb dL_law_378 (lv_at hl 1 rfl) ?_
  refine lv_iconst (v := 1) hx hb dL_law_380 (by decide) ?_
  refine lv_iadd hx hb dL_law_381 ?_
  refine g_add (by omega) (by omega) (fun t7 ht7 => ?_)
  refine va_sld hx hb hXs hbl hbA hT.2.2.2 (g_in (by omega) (by omega)) dL_law_382 ?_
  refine ti y1 (by rw [hy1]; exact congrArg xs (show t7.toNatClampNeg = ix i + 1 from by show t7.toInt.toNat = ix i + 1; unfold ix; omega)) ?_
  have hTo := hT
  refine tVi (n := 1) (As := [.int y1]) (rest := []) hx hb hml hown hg hT hK hX (X6_count l (kX κ) s2 mm y1 (hT.k t_mm (by decide)) R4) sub_gR_fA (mwV k1407 k1408 k1409 k92 k1410) ⟨rfl, by decide, by decide, by decide +kernel⟩ ⟨(Nat.le_of_ble_eq_true rfl), (Nat.le_of_ble_eq_true rfl)⟩ (hT.o20 (hT.k t_mm (by decide))) rfl rfl hl.1 rfl (Nat.le_of_ble_eq_true rfl) dL_law_383 zx (fun r9 s8 H locs hφ hE hT => ?_)
  have R10 := R4.ext hE ⟨rfl, rfl, fun _ => rfl, fun _ => rfl, fun _ => rfl, fun _ => rfl⟩
  have a11 : (zI s8 tx 1).toInt = (zI s2 tx 1).toInt := by rw [(hTo.k ttx (by decide)).eI hE (by decide) rfl]
  have a12 : (zI s8 mm 13).toInt = (zI s2 mm 13).toInt := by rw [(hTo.k t_mm (by decide)).eI hE (by decide) rfl]
  refine lv_istore (lv' := [(6, .int r9), (5, .int r3), (4, .int i), (3, .ref out), (2, .ref mm), (1, .ref x), (0, .ref b)]) hx hb dL_law_386 hl (by decide) rfl (fun ls hl => ?_)
  refine lv_goto (tgt := 1432) hx hb dL_law_388 (by decide) ?_
  exact KK s8 _ _ _ hT R10 (by rw [etx]; omega) (lv_sub hl [2, 3, 4, 5, 6] rfl)
set_option maxHeartbeats 4000000 in
set_option maxRecDepth 100000 in
theorem lc_6 (l : Launch) (κ : Kt) (σ0 : Gh) (x mm out b : Nat) (t_x : zk σ0 x 7) (t_mm : zk σ0 mm 20) (t_out : zk σ0 out 24) (ttx0 : zk σ0 (kR κ x 0) 6) (hlt : l.stackTraces = false) {p : Program} {e : Env} {s : State} {m : MethodId} {below : List Frame} {meth : Method} {c : Code} {L : Nat} {xs : Nat → Int32} {i : Int32} {Q9 : State → Prop} (hx : p.tables.exec = Jvm.exec) (hb : c.code = cL_law) (hml : c.maxLocals = 9) (hown : s.vm.findClass RL = some m.cls) (hg : ∀ w ∈ GW, w.before #[Value.ref b] s = true) (hK : va_K κ.1 vwCl (kTy κ) s) (hX : XY κ (tA σ0 s.heap.size) s s.heap) (hXs : va_X b L xs s s.heap) (hbl : b < s.heap.size) (hbA : ¬ tA σ0 s.heap.size b) (zx : zroomX κ s room_1 601024 7293034) (hi0 : 0 ≤ i.toInt) (hi1 : i.toInt + 6 ≤ L) (hL9 : L ≤ 3072) {σ : Gh} {H : Heap} {locs : List Loc} {ls : Array Slot} (hT : TS κ fA σ0 σ s H locs) (hR : RI κ σ mm) (hlen : (zI σ (kR κ x 0) 1).toInt = (zI σ mm 13).toInt) (hl : lv_has ls 9 [(4, .int i), (3, .ref out), (2, .ref mm), (1, .ref x), (0, .ref b)]) (KK : ∀ (σ1 : Gh) (H : Heap) (locs : List Loc) (ls : Array Slot), TS (kX κ) fA σ0 σ1 s H locs → RI (kX κ) σ1 mm → (zI σ1 (kR κ x 0) 1).toInt = (zI σ1 mm 13).toInt → lv_has ls 9 [(4, .int i), (3, .ref out), (2, .ref mm), (1, .ref x), (0, .ref b)] → W p l e room_1 s m #[Value.ref b] below meth c H locs 601024 7293034 Q9 (F0 m 1432 ls [])) : W p l e room_1 s m #[Value.ref b] below meth c H locs 601024 7293034 Q9 (F0 m 391 ls []) := by
  obtain ⟨y1, hy1⟩ : ∃ z, z = xs (ix i + 1) := ⟨_, rfl⟩
  obtain ⟨y2, hy2⟩ : ∃ z, z = xs (ix i + 2) := ⟨_, rfl⟩
  obtain ⟨y3, hy3⟩ : ∃ z, z = xs (ix i + 3) := ⟨_, rfl⟩
  obtain ⟨y4, hy4⟩ : ∃ z, z = xs (ix i + 4) := ⟨_, rfl⟩
  obtain ⟨y5, hy5⟩ : ∃ z, z = xs (ix i + 5) := ⟨_, rfl⟩
  have n0 : (0 : Int32).toInt = 0 := by decide
  have n1 : (1 : Int32).toInt = 1 := by decide
  have n2 : (2 : Int32).toInt = 2 := by decide
  have n3 : (3 : Int32).toInt = 3 := by decide
  have n4 : (4 : Int32).toInt = 4 := by decide
  have n5 : (5 : Int32).toInt = 5 := by decide
  obtain ⟨tx, etx⟩ : ∃ z, kR κ x 0 = z := ⟨_, rfl⟩
  rw [etx] at hlen
  have ttx : zk σ0 tx 6 := by rw [← etx]; exact ttx0
  refine lv_aload_n hx hb dL_law_391 rfl (lv_at hl 3 rfl) ?_
  refine lv_aload_n hx hb dL_law_392 rfl (lv_at hl 4 rfl) ?_
  refine lv_iload hx hb dL_law_393 (lv_at hl 0 rfl) ?_
  refine lv_iconst (v := 1) hx hb dL_law_395 (by decide) ?_
  refine lv_iadd hx hb dL_law_396 ?_
  refine g_add (by omega) (by omega) (fun t1 ht1 => ?_)
  refine va_sld hx hb hXs hbl hbA hT.2.2.2 (g_in (by omega) (by omega)) dL_law_397 ?_
  refine ti y1 (by rw [hy1]; exact congrArg xs (show t1.toNatClampNeg = ix i + 1 from by show t1.toInt.toNat = ix i + 1; unfold ix; omega)) ?_
  refine lv_aload_n hx hb dL_law_398 rfl (lv_at hl 4 rfl) ?_
  refine lv_iload hx hb dL_law_399 (lv_at hl 0 rfl) ?_
  refine lv_iconst (v := 2) hx hb dL_law_401 (by decide) ?_
  refine lv_iadd hx hb dL_law_402 ?_
  refine g_add (by omega) (by omega) (fun t2 ht2 => ?_)
  refine va_sld hx hb hXs hbl hbA hT.2.2.2 (g_in (by omega) (by omega)) dL_law_403 ?_
  refine ti y2 (by rw [hy2]; exact congrArg xs (show t2.toNatClampNeg = ix i + 2 from by show t2.toInt.toNat = ix i + 2; unfold ix; omega)) ?_
  refine lv_aload_n hx hb dL_law_404 rfl (lv_at hl 1 rfl) ?_
  have hTo := hT
  refine tHi (n := 4) (As := [.ref x, .int y1, .int y2, .ref out]) (rest := []) hx hb hml hown hg hT hK hX (L_sample l κ σ x y1 y2 out (hT.k t_x (by decide)) (hT.k t_out (by decide)) hlt) sub_hfE_fA (mwHS k854 k855 k83 k856) ⟨by decide, by decide, by decide +kernel⟩ ⟨(Nat.le_of_ble_eq_true rfl), (Nat.le_of_ble_eq_true rfl)⟩ rfl hl.1 rfl (Nat.le_of_ble_eq_true rfl) dL_law_405 zx (fun r4 s3 H locs hφ hE hT => ?_)
  have R5 := hR.ext hE ⟨rfl, rfl, fun _ => rfl, fun _ => rfl, fun _ => rfl, fun _ => rfl⟩
  have a6 : (zI s3 tx 1).toInt = (zI σ tx 1).toInt := by rw [(hTo.k ttx (by decide)).eI hE (by decide) rfl]
  have a7 : (zI s3 mm 13).toInt = (zI σ mm 13).toInt := by rw [(hTo.k t_mm (by decide)).eI hE (by decide) rfl]
  refine lv_istore (lv' := [(5, .int r4), (4, .int i), (3, .ref out), (2, .ref mm), (1, .ref x), (0, .ref b)]) hx hb dL_law_408 hl (by decide) rfl (fun ls hl => ?_)
  refine lv_aload_n hx hb dL_law_410 rfl (lv_at hl 3 rfl) ?_
  refine lv_aload_n hx hb dL_law_411 rfl (lv_at hl 5 rfl) ?_
  refine lv_iload hx hb dL_law_412 (lv_at hl 1 rfl) ?_
  refine lv_iconst (v := 1) hx hb dL_law_414 (by decide) ?_
  refine lv_iadd hx hb dL_law_415 ?_
  refine g_add (by omega) (by omega) (fun t8 ht8 => ?_)
  refine va_sld hx hb hXs hbl hbA hT.2.2.2 (g_in (by omega) (by omega)) dL_law_416 ?_
  refine ti y1 (by rw [hy1]; exact congrArg xs (show t8.toNatClampNeg = ix i + 1 from by show t8.toInt.toNat = ix i + 1; unfold ix; omega)) ?_
  refine lv_aload_n hx hb dL_law_417 rfl (lv_at hl 5 rfl) ?_
  refine lv_iload hx hb dL_law_418 (lv_at hl 1 rfl) ?_
  refine lv_iconst (v := 2) hx hb dL_law_420 (by decide) ?_
  refine lv_iadd hx hb dL_law_421 ?_
  refine g_add (by omega) (by omega) (fun t9 ht9 => ?_)
  refine va_sld hx hb hXs hbl hbA hT.2.2.2 (g_in (by omega) (by omega)) dL_law_422 ?_
  refine ti y2 (by rw [hy2]; exact congrArg xs (show t9.toNatClampNeg = ix i + 2 from by show t9.toInt.toNat = ix i + 2; unfold ix; omega)) ?_
  have hTo := hT
  refine tVl (n := 2) (As := [.int y1, .int y2]) (rest := []) hx hb hml hown hg hT hK hX (X6_sample l (kX κ) s3 mm y1 y2 (hT.k t_mm (by decide)) R5) sub_gR_fA (mwV k1436 k1437 k1438 k92 k1439) ⟨rfl, by decide, by decide, by decide +kernel⟩ ⟨(Nat.le_of_ble_eq_true rfl), (Nat.le_of_ble_eq_true rfl)⟩ (hT.o20 (hT.k t_mm (by decide))) rfl rfl hl.1 rfl (Nat.le_of_ble_eq_true rfl) dL_law_423 zx (fun r11 s10 H locs hφ hE hT => ?_)
  have R12 := R5.ext hE ⟨rfl, rfl, fun _ => rfl, fun _ => rfl, fun _ => rfl, fun _ => rfl⟩
  have a13 : (zI s10 tx 1).toInt = (zI s3 tx 1).toInt := by rw [(hTo.k ttx (by decide)).eI hE (by decide) rfl]
  have a14 : (zI s10 mm 13).toInt = (zI s3 mm 13).toInt := by rw [(hTo.k t_mm (by decide)).eI hE (by decide) rfl]
  refine lv_lstore (lv' := [(6, .long r11), (5, .int r4), (4, .int i), (3, .ref out), (2, .ref mm), (1, .ref x), (0, .ref b)]) hx hb dL_law_426 hl (by decide) rfl (fun ls hl => ?_)
  refine lv_goto (tgt := 1432) hx hb dL_law_428 (by decide) ?_
  exact KK s10 _ _ _ hT R12 (by rw [etx]; omega) (lv_sub hl [2, 3, 4, 5, 6] rfl)
set_option maxHeartbeats 4000000 in
set_option maxRecDepth 100000 in
theorem lc_7 (l : Launch) (κ : Kt) (σ0 : Gh) (x mm out b : Nat) (t_x : zk σ0 x 7) (t_mm : zk σ0 mm 20) (t_out : zk σ0 out 24) (ttx0 : zk σ0 (kR κ x 0) 6) (hlt : l.stackTraces = false) {p : Program} {e : Env} {s : State} {m : MethodId} {below : List Frame} {meth : Method} {c : Code} {L : Nat} {xs : Nat → Int32} {i : Int32} {Q9 : State → Prop} (hx : p.tables.exec = Jvm.exec) (hb : c.code = cL_law) (hml : c.maxLocals = 9) (hown : s.vm.findClass RL = some m.cls) (hg : ∀ w ∈ GW, w.before #[Value.ref b] s = true) (hK : va_K κ.1 vwCl (kTy κ) s) (hX : XY κ (tA σ0 s.heap.size) s s.heap) (hXs : va_X b L xs s s.heap) (hbl : b < s.heap.size) (hbA : ¬ tA σ0 s.heap.size b) (zx : zroomX κ s room_1 601024 7293034) (hi0 : 0 ≤ i.toInt) (hi1 : i.toInt + 6 ≤ L) (hL9 : L ≤ 3072) {σ : Gh} {H : Heap} {locs : List Loc} {ls : Array Slot} (hT : TS κ fA σ0 σ s H locs) (hR : RI κ σ mm) (hlen : (zI σ (kR κ x 0) 1).toInt = (zI σ mm 13).toInt) (hl : lv_has ls 9 [(4, .int i), (3, .ref out), (2, .ref mm), (1, .ref x), (0, .ref b)]) (KK : ∀ (σ1 : Gh) (H : Heap) (locs : List Loc) (ls : Array Slot), TS (kX κ) fA σ0 σ1 s H locs → RI (kX κ) σ1 mm → (zI σ1 (kR κ x 0) 1).toInt = (zI σ1 mm 13).toInt → lv_has ls 9 [(4, .int i), (3, .ref out), (2, .ref mm), (1, .ref x), (0, .ref b)] → W p l e room_1 s m #[Value.ref b] below meth c H locs 601024 7293034 Q9 (F0 m 1432 ls [])) : W p l e room_1 s m #[Value.ref b] below meth c H locs 601024 7293034 Q9 (F0 m 431 ls []) := by
  obtain ⟨y1, hy1⟩ : ∃ z, z = xs (ix i + 1) := ⟨_, rfl⟩
  obtain ⟨y2, hy2⟩ : ∃ z, z = xs (ix i + 2) := ⟨_, rfl⟩
  obtain ⟨y3, hy3⟩ : ∃ z, z = xs (ix i + 3) := ⟨_, rfl⟩
  obtain ⟨y4, hy4⟩ : ∃ z, z = xs (ix i + 4) := ⟨_, rfl⟩
  obtain ⟨y5, hy5⟩ : ∃ z, z = xs (ix i + 5) := ⟨_, rfl⟩
  have n0 : (0 : Int32).toInt = 0 := by decide
  have n1 : (1 : Int32).toInt = 1 := by decide
  have n2 : (2 : Int32).toInt = 2 := by decide
  have n3 : (3 : Int32).toInt = 3 := by decide
  have n4 : (4 : Int32).toInt = 4 := by decide
  have n5 : (5 : Int32).toInt = 5 := by decide
  obtain ⟨tx, etx⟩ : ∃ z, kR κ x 0 = z := ⟨_, rfl⟩
  rw [etx] at hlen
  have ttx : zk σ0 tx 6 := by rw [← etx]; exact ttx0
  refine lv_aload_n hx hb dL_law_431 rfl (lv_at hl 3 rfl) ?_
  refine lv_aload_n hx hb dL_law_432 rfl (lv_at hl 4 rfl) ?_
  refine lv_iload hx hb dL_law_433 (lv_at hl 0 rfl) ?_
  refine lv_iconst (v := 1) hx hb dL_law_435 (by decide) ?_
  refine lv_iadd hx hb dL_law_436 ?_
  refine g_add (by omega) (by omega) (fun t1 ht1 => ?_)
  refine va_sld hx hb hXs hbl hbA hT.2.2.2 (g_in (by omega) (by omega)) dL_law_437 ?_
  refine ti y1 (by rw [hy1]; exact congrArg xs (show t1.toNatClampNeg = ix i + 1 from by show t1.toInt.toNat = ix i + 1; unfold ix; omega)) ?_
  refine lv_aload_n hx hb dL_law_438 rfl (lv_at hl 1 rfl) ?_
  have hTo := hT
  refine tHi (n := 3) (As := [.ref x, .int y1, .ref out]) (rest := []) hx hb hml hown hg hT hK hX (L_present l κ σ x y1 out (hT.k t_x (by decide)) (hT.k t_out (by decide)) hlt) sub_hfE_fA (mwHS k863 k864 k83 k865) ⟨by decide, by decide, by decide +kernel⟩ ⟨(Nat.le_of_ble_eq_true rfl), (Nat.le_of_ble_eq_true rfl)⟩ rfl hl.1 rfl (Nat.le_of_ble_eq_true rfl) dL_law_439 zx (fun r3 s2 H locs hφ hE hT => ?_)
  have R4 := hR.ext hE ⟨rfl, rfl, fun _ => rfl, fun _ => rfl, fun _ => rfl, fun _ => rfl⟩
  have a5 : (zI s2 tx 1).toInt = (zI σ tx 1).toInt := by rw [(hTo.k ttx (by decide)).eI hE (by decide) rfl]
  have a6 : (zI s2 mm 13).toInt = (zI σ mm 13).toInt := by rw [(hTo.k t_mm (by decide)).eI hE (by decide) rfl]
  refine lv_istore (lv' := [(5, .int r3), (4, .int i), (3, .ref out), (2, .ref mm), (1, .ref x), (0, .ref b)]) hx hb dL_law_442 hl (by decide) rfl (fun ls hl => ?_)
  refine lv_aload_n hx hb dL_law_444 rfl (lv_at hl 3 rfl) ?_
  refine lv_aload_n hx hb dL_law_445 rfl (lv_at hl 5 rfl) ?_
  refine lv_iload hx hb dL_law_446 (lv_at hl 1 rfl) ?_
  refine lv_iconst (v := 1) hx hb dL_law_448 (by decide) ?_
  refine lv_iadd hx hb dL_law_449 ?_
  refine g_add (by omega) (by omega) (fun t7 ht7 => ?_)
  refine va_sld hx hb hXs hbl hbA hT.2.2.2 (g_in (by omega) (by omega)) dL_law_450 ?_
  refine ti y1 (by rw [hy1]; exact congrArg xs (show t7.toNatClampNeg = ix i + 1 from by show t7.toInt.toNat = ix i + 1; unfold ix; omega)) ?_
  have hTo := hT
  refine tVi (n := 1) (As := [.int y1]) (rest := []) hx hb hml hown hg hT hK hX (X6_present l (kX κ) s2 mm y1 (hT.k t_mm (by decide)) R4) sub_gR_fA (mwV k1445 k1446 k1447 k92 k1448) ⟨rfl, by decide, by decide, by decide +kernel⟩ ⟨(Nat.le_of_ble_eq_true rfl), (Nat.le_of_ble_eq_true rfl)⟩ (hT.o20 (hT.k t_mm (by decide))) rfl rfl hl.1 rfl (Nat.le_of_ble_eq_true rfl) dL_law_451 zx (fun r9 s8 H locs hφ hE hT => ?_)
  have R10 := R4.ext hE ⟨rfl, rfl, fun _ => rfl, fun _ => rfl, fun _ => rfl, fun _ => rfl⟩
  have a11 : (zI s8 tx 1).toInt = (zI s2 tx 1).toInt := by rw [(hTo.k ttx (by decide)).eI hE (by decide) rfl]
  have a12 : (zI s8 mm 13).toInt = (zI s2 mm 13).toInt := by rw [(hTo.k t_mm (by decide)).eI hE (by decide) rfl]
  refine lv_istore (lv' := [(6, .int r9), (5, .int r3), (4, .int i), (3, .ref out), (2, .ref mm), (1, .ref x), (0, .ref b)]) hx hb dL_law_454 hl (by decide) rfl (fun ls hl => ?_)
  refine lv_goto (tgt := 1432) hx hb dL_law_456 (by decide) ?_
  exact KK s8 _ _ _ hT R10 (by rw [etx]; omega) (lv_sub hl [2, 3, 4, 5, 6] rfl)
set_option maxHeartbeats 4000000 in
set_option maxRecDepth 100000 in
theorem lc_8 (l : Launch) (κ : Kt) (σ0 : Gh) (x mm out b : Nat) (t_x : zk σ0 x 7) (t_mm : zk σ0 mm 20) (t_out : zk σ0 out 24) (ttx0 : zk σ0 (kR κ x 0) 6) (hlt : l.stackTraces = false) {p : Program} {e : Env} {s : State} {m : MethodId} {below : List Frame} {meth : Method} {c : Code} {L : Nat} {xs : Nat → Int32} {i : Int32} {Q9 : State → Prop} (hx : p.tables.exec = Jvm.exec) (hb : c.code = cL_law) (hml : c.maxLocals = 9) (hown : s.vm.findClass RL = some m.cls) (hg : ∀ w ∈ GW, w.before #[Value.ref b] s = true) (hK : va_K κ.1 vwCl (kTy κ) s) (hX : XY κ (tA σ0 s.heap.size) s s.heap) (hXs : va_X b L xs s s.heap) (hbl : b < s.heap.size) (hbA : ¬ tA σ0 s.heap.size b) (zx : zroomX κ s room_1 601024 7293034) (hi0 : 0 ≤ i.toInt) (hi1 : i.toInt + 6 ≤ L) (hL9 : L ≤ 3072) {σ : Gh} {H : Heap} {locs : List Loc} {ls : Array Slot} (hT : TS κ fA σ0 σ s H locs) (hR : RI κ σ mm) (hlen : (zI σ (kR κ x 0) 1).toInt = (zI σ mm 13).toInt) (hl : lv_has ls 9 [(4, .int i), (3, .ref out), (2, .ref mm), (1, .ref x), (0, .ref b)]) (KK : ∀ (σ1 : Gh) (H : Heap) (locs : List Loc) (ls : Array Slot), TS (kX κ) fA σ0 σ1 s H locs → RI (kX κ) σ1 mm → (zI σ1 (kR κ x 0) 1).toInt = (zI σ1 mm 13).toInt → lv_has ls 9 [(4, .int i), (3, .ref out), (2, .ref mm), (1, .ref x), (0, .ref b)] → W p l e room_1 s m #[Value.ref b] below meth c H locs 601024 7293034 Q9 (F0 m 1432 ls [])) : W p l e room_1 s m #[Value.ref b] below meth c H locs 601024 7293034 Q9 (F0 m 459 ls []) := by
  obtain ⟨y1, hy1⟩ : ∃ z, z = xs (ix i + 1) := ⟨_, rfl⟩
  obtain ⟨y2, hy2⟩ : ∃ z, z = xs (ix i + 2) := ⟨_, rfl⟩
  obtain ⟨y3, hy3⟩ : ∃ z, z = xs (ix i + 3) := ⟨_, rfl⟩
  obtain ⟨y4, hy4⟩ : ∃ z, z = xs (ix i + 4) := ⟨_, rfl⟩
  obtain ⟨y5, hy5⟩ : ∃ z, z = xs (ix i + 5) := ⟨_, rfl⟩
  have n0 : (0 : Int32).toInt = 0 := by decide
  have n1 : (1 : Int32).toInt = 1 := by decide
  have n2 : (2 : Int32).toInt = 2 := by decide
  have n3 : (3 : Int32).toInt = 3 := by decide
  have n4 : (4 : Int32).toInt = 4 := by decide
  have n5 : (5 : Int32).toInt = 5 := by decide
  obtain ⟨tx, etx⟩ : ∃ z, kR κ x 0 = z := ⟨_, rfl⟩
  rw [etx] at hlen
  have ttx : zk σ0 tx 6 := by rw [← etx]; exact ttx0
  refine lv_aload_n hx hb dL_law_459 rfl (lv_at hl 3 rfl) ?_
  refine lv_aload_n hx hb dL_law_460 rfl (lv_at hl 4 rfl) ?_
  refine lv_iload hx hb dL_law_461 (lv_at hl 0 rfl) ?_
  refine lv_iconst (v := 1) hx hb dL_law_463 (by decide) ?_
  refine lv_iadd hx hb dL_law_464 ?_
  refine g_add (by omega) (by omega) (fun t1 ht1 => ?_)
  refine va_sld hx hb hXs hbl hbA hT.2.2.2 (g_in (by omega) (by omega)) dL_law_465 ?_
  refine ti y1 (by rw [hy1]; exact congrArg xs (show t1.toNatClampNeg = ix i + 1 from by show t1.toInt.toNat = ix i + 1; unfold ix; omega)) ?_
  refine lv_aload_n hx hb dL_law_466 rfl (lv_at hl 4 rfl) ?_
  refine lv_iload hx hb dL_law_467 (lv_at hl 0 rfl) ?_
  refine lv_iconst (v := 2) hx hb dL_law_469 (by decide) ?_
  refine lv_iadd hx hb dL_law_470 ?_
  refine g_add (by omega) (by omega) (fun t2 ht2 => ?_)
  refine va_sld hx hb hXs hbl hbA hT.2.2.2 (g_in (by omega) (by omega)) dL_law_471 ?_
  refine ti y2 (by rw [hy2]; exact congrArg xs (show t2.toNatClampNeg = ix i + 2 from by show t2.toInt.toNat = ix i + 2; unfold ix; omega)) ?_
  refine lv_if_eq (tgt := 479) hx hb dL_law_472 (by decide) (fun c9 => ?_) (fun c9 => ?_)
  · have c7 := gi_eq c9
    refine lv_iconst (v := 0) hx hb dL_law_479 (by decide) ?_
    refine lv_aload_n hx hb dL_law_480 rfl (lv_at hl 1 rfl) ?_
    have hTo := hT
    refine tHi (n := 4) (As := [.ref x, .int y1, .int 0, .ref out]) (rest := []) hx hb hml hown hg hT hK hX (L_neighbour l κ σ x y1 0 out (hT.k t_x (by decide)) (hT.k t_out (by decide)) isB0 hlt) sub_hfE_fA (mwHS k874 k875 k83 k876) ⟨by decide, by decide, by decide +kernel⟩ ⟨(Nat.le_of_ble_eq_true rfl), (Nat.le_of_ble_eq_true rfl)⟩ rfl hl.1 rfl (Nat.le_of_ble_eq_true rfl) dL_law_481 zx (fun r4 s3 H locs hφ hE hT => ?_)
    have R5 := hR.ext hE ⟨rfl, rfl, fun _ => rfl, fun _ => rfl, fun _ => rfl, fun _ => rfl⟩
    have a6 : (zI s3 tx 1).toInt = (zI σ tx 1).toInt := by rw [(hTo.k ttx (by decide)).eI hE (by decide) rfl]
    have a7 : (zI s3 mm 13).toInt = (zI σ mm 13).toInt := by rw [(hTo.k t_mm (by decide)).eI hE (by decide) rfl]
    refine lv_istore (lv' := [(5, .int r4), (4, .int i), (3, .ref out), (2, .ref mm), (1, .ref x), (0, .ref b)]) hx hb dL_law_484 hl (by decide) rfl (fun ls hl => ?_)
    refine lv_aload_n hx hb dL_law_486 rfl (lv_at hl 3 rfl) ?_
    refine lv_aload_n hx hb dL_law_487 rfl (lv_at hl 5 rfl) ?_
    refine lv_iload hx hb dL_law_488 (lv_at hl 1 rfl) ?_
    refine lv_iconst (v := 1) hx hb dL_law_490 (by decide) ?_
    refine lv_iadd hx hb dL_law_491 ?_
    refine g_add (by omega) (by omega) (fun t8 ht8 => ?_)
    refine va_sld hx hb hXs hbl hbA hT.2.2.2 (g_in (by omega) (by omega)) dL_law_492 ?_
    refine ti y1 (by rw [hy1]; exact congrArg xs (show t8.toNatClampNeg = ix i + 1 from by show t8.toInt.toNat = ix i + 1; unfold ix; omega)) ?_
    refine lv_aload_n hx hb dL_law_493 rfl (lv_at hl 5 rfl) ?_
    refine lv_iload hx hb dL_law_494 (lv_at hl 1 rfl) ?_
    refine lv_iconst (v := 2) hx hb dL_law_496 (by decide) ?_
    refine lv_iadd hx hb dL_law_497 ?_
    refine g_add (by omega) (by omega) (fun t9 ht9 => ?_)
    refine va_sld hx hb hXs hbl hbA hT.2.2.2 (g_in (by omega) (by omega)) dL_law_498 ?_
    refine ti y2 (by rw [hy2]; exact congrArg xs (show t9.toNatClampNeg = ix i + 2 from by show t9.toInt.toNat = ix i + 2; unfold ix; omega)) ?_
    refine lv_if_eq (tgt := 506) hx hb dL_law_499 (by decide) (fun c9 => ?_) (fun c9 => ?_)
    · have c7 := gi_eq c9
      refine lv_iconst (v := 0) hx hb dL_law_506 (by decide) ?_
      have hTo := hT
      refine tVi (n := 2) (As := [.int y1, .int 0]) (rest := []) hx hb hml hown hg hT hK hX (X6_neighbour l (kX κ) s3 mm y1 0 (hT.k t_mm (by decide)) isB0 R5) sub_gR_fA (mwV k1453 k1454 k1455 k92 k1456) ⟨rfl, by decide, by decide, by decide +kernel⟩ ⟨(Nat.le_of_ble_eq_true rfl), (Nat.le_of_ble_eq_true rfl)⟩ (hT.o20 (hT.k t_mm (by decide))) rfl rfl hl.1 rfl (Nat.le_of_ble_eq_true rfl) dL_law_507 zx (fun r11 s10 H locs hφ hE hT => ?_)
      have R12 := R5.ext hE ⟨rfl, rfl, fun _ => rfl, fun _ => rfl, fun _ => rfl, fun _ => rfl⟩
      have a13 : (zI s10 tx 1).toInt = (zI s3 tx 1).toInt := by rw [(hTo.k ttx (by decide)).eI hE (by decide) rfl]
      have a14 : (zI s10 mm 13).toInt = (zI s3 mm 13).toInt := by rw [(hTo.k t_mm (by decide)).eI hE (by decide) rfl]
      refine lv_istore (lv' := [(6, .int r11), (5, .int r4), (4, .int i), (3, .ref out), (2, .ref mm), (1, .ref x), (0, .ref b)]) hx hb dL_law_510 hl (by decide) rfl (fun ls hl => ?_)
      refine lv_goto (tgt := 1432) hx hb dL_law_512 (by decide) ?_
      exact KK s10 _ _ _ hT R12 (by rw [etx]; omega) (lv_sub hl [2, 3, 4, 5, 6] rfl)
    · have c7 := gi_ne c9
      refine lv_iconst (v := 1) hx hb dL_law_502 (by decide) ?_
      refine lv_goto (tgt := 507) hx hb dL_law_503 (by decide) ?_
      have hTo := hT
      refine tVi (n := 2) (As := [.int y1, .int 1]) (rest := []) hx hb hml hown hg hT hK hX (X6_neighbour l (kX κ) s3 mm y1 1 (hT.k t_mm (by decide)) isB1 R5) sub_gR_fA (mwV k1453 k1454 k1455 k92 k1456) ⟨rfl, by decide, by decide, by decide +kernel⟩ ⟨(Nat.le_of_ble_eq_true rfl), (Nat.le_of_ble_eq_true rfl)⟩ (hT.o20 (hT.k t_mm (by decide))) rfl rfl hl.1 rfl (Nat.le_of_ble_eq_true rfl) dL_law_507 zx (fun r16 s15 H locs hφ hE hT => ?_)
      have R17 := R5.ext hE ⟨rfl, rfl, fun _ => rfl, fun _ => rfl, fun _ => rfl, fun _ => rfl⟩
      have a18 : (zI s15 tx 1).toInt = (zI s3 tx 1).toInt := by rw [(hTo.k ttx (by decide)).eI hE (by decide) rfl]
      have a19 : (zI s15 mm 13).toInt = (zI s3 mm 13).toInt := by rw [(hTo.k t_mm (by decide)).eI hE (by decide) rfl]
      refine lv_istore (lv' := [(6, .int r16), (5, .int r4), (4, .int i), (3, .ref out), (2, .ref mm), (1, .ref x), (0, .ref b)]) hx hb dL_law_510 hl (by decide) rfl (fun ls hl => ?_)
      refine lv_goto (tgt := 1432) hx hb dL_law_512 (by decide) ?_
      exact KK s15 _ _ _ hT R17 (by rw [etx]; omega) (lv_sub hl [2, 3, 4, 5, 6] rfl)
  · have c7 := gi_ne c9
    refine lv_iconst (v := 1) hx hb dL_law_475 (by decide) ?_
    refine lv_goto (tgt := 480) hx hb dL_law_476 (by decide) ?_
    refine lv_aload_n hx hb dL_law_480 rfl (lv_at hl 1 rfl) ?_
    have hTo := hT
    refine tHi (n := 4) (As := [.ref x, .int y1, .int 1, .ref out]) (rest := []) hx hb hml hown hg hT hK hX (L_neighbour l κ σ x y1 1 out (hT.k t_x (by decide)) (hT.k t_out (by decide)) isB1 hlt) sub_hfE_fA (mwHS k874 k875 k83 k876) ⟨by decide, by decide, by decide +kernel⟩ ⟨(Nat.le_of_ble_eq_true rfl), (Nat.le_of_ble_eq_true rfl)⟩ rfl hl.1 rfl (Nat.le_of_ble_eq_true rfl) dL_law_481 zx (fun r21 s20 H locs hφ hE hT => ?_)
    have R22 := hR.ext hE ⟨rfl, rfl, fun _ => rfl, fun _ => rfl, fun _ => rfl, fun _ => rfl⟩
    have a23 : (zI s20 tx 1).toInt = (zI σ tx 1).toInt := by rw [(hTo.k ttx (by decide)).eI hE (by decide) rfl]
    have a24 : (zI s20 mm 13).toInt = (zI σ mm 13).toInt := by rw [(hTo.k t_mm (by decide)).eI hE (by decide) rfl]
    refine lv_istore (lv' := [(5, .int r21), (4, .int i), (3, .ref out), (2, .ref mm), (1, .ref x), (0, .ref b)]) hx hb dL_law_484 hl (by decide) rfl (fun ls hl => ?_)
    refine lv_aload_n hx hb dL_law_486 rfl (lv_at hl 3 rfl) ?_
    refine lv_aload_n hx hb dL_law_487 rfl (lv_at hl 5 rfl) ?_
    refine lv_iload hx hb dL_law_488 (lv_at hl 1 rfl) ?_
    refine lv_iconst (v := 1) hx hb dL_law_490 (by decide) ?_
    refine lv_iadd hx hb dL_law_491 ?_
    refine g_add (by omega) (by omega) (fun t25 ht25 => ?_)
    refine va_sld hx hb hXs hbl hbA hT.2.2.2 (g_in (by omega) (by omega)) dL_law_492 ?_
    refine ti y1 (by rw [hy1]; exact congrArg xs (show t25.toNatClampNeg = ix i + 1 from by show t25.toInt.toNat = ix i + 1; unfold ix; omega)) ?_
    refine lv_aload_n hx hb dL_law_493 rfl (lv_at hl 5 rfl) ?_
    refine lv_iload hx hb dL_law_494 (lv_at hl 1 rfl) ?_
    refine lv_iconst (v := 2) hx hb dL_law_496 (by decide) ?_
    refine lv_iadd hx hb dL_law_497 ?_
    refine g_add (by omega) (by omega) (fun t26 ht26 => ?_)
    refine va_sld hx hb hXs hbl hbA hT.2.2.2 (g_in (by omega) (by omega)) dL_law_498 ?_
    refine ti y2 (by rw [hy2]; exact congrArg xs (show t26.toNatClampNeg = ix i + 2 from by show t26.toInt.toNat = ix i + 2; unfold ix; omega)) ?_
    refine lv_if_eq (tgt := 506) hx hb dL_law_499 (by decide) (fun c9 => ?_) (fun c9 => ?_)
    · have c7 := gi_eq c9
      refine lv_iconst (v := 0) hx hb dL_law_506 (by decide) ?_
      have hTo := hT
      refine tVi (n := 2) (As := [.int y1, .int 0]) (rest := []) hx hb hml hown hg hT hK hX (X6_neighbour l (kX κ) s20 mm y1 0 (hT.k t_mm (by decide)) isB0 R22) sub_gR_fA (mwV k1453 k1454 k1455 k92 k1456) ⟨rfl, by decide, by decide, by decide +kernel⟩ ⟨(Nat.le_of_ble_eq_true rfl), (Nat.le_of_ble_eq_true rfl)⟩ (hT.o20 (hT.k t_mm (by decide))) rfl rfl hl.1 rfl (Nat.le_of_ble_eq_true rfl) dL_law_507 zx (fun r28 s27 H locs hφ hE hT => ?_)
      have R29 := R22.ext hE ⟨rfl, rfl, fun _ => rfl, fun _ => rfl, fun _ => rfl, fun _ => rfl⟩
      have a30 : (zI s27 tx 1).toInt = (zI s20 tx 1).toInt := by rw [(hTo.k ttx (by decide)).eI hE (by decide) rfl]
      have a31 : (zI s27 mm 13).toInt = (zI s20 mm 13).toInt := by rw [(hTo.k t_mm (by decide)).eI hE (by decide) rfl]
      refine lv_istore (lv' := [(6, .int r28), (5, .int r21), (4, .int i), (3, .ref out), (2, .ref mm), (1, .ref x), (0, .ref b)]) hx hb dL_law_510 hl (by decide) rfl (fun ls hl => ?_)
      refine lv_goto (tgt := 1432) hx hb dL_law_512 (by decide) ?_
      exact KK s27 _ _ _ hT R29 (by rw [etx]; omega) (lv_sub hl [2, 3, 4, 5, 6] rfl)
    · have c7 := gi_ne c9
      refine lv_iconst (v := 1) hx hb dL_law_502 (by decide) ?_
      refine lv_goto (tgt := 507) hx hb dL_law_503 (by decide) ?_
      have hTo := hT
      refine tVi (n := 2) (As := [.int y1, .int 1]) (rest := []) hx hb hml hown hg hT hK hX (X6_neighbour l (kX κ) s20 mm y1 1 (hT.k t_mm (by decide)) isB1 R22) sub_gR_fA (mwV k1453 k1454 k1455 k92 k1456) ⟨rfl, by decide, by decide, by decide +kernel⟩ ⟨(Nat.le_of_ble_eq_true rfl), (Nat.le_of_ble_eq_true rfl)⟩ (hT.o20 (hT.k t_mm (by decide))) rfl rfl hl.1 rfl (Nat.le_of_ble_eq_true rfl) dL_law_507 zx (fun r33 s32 H locs hφ hE hT => ?_)
      have R34 := R22.ext hE ⟨rfl, rfl, fun _ => rfl, fun _ => rfl, fun _ => rfl, fun _ => rfl⟩
      have a35 : (zI s32 tx 1).toInt = (zI s20 tx 1).toInt := by rw [(hTo.k ttx (by decide)).eI hE (by decide) rfl]
      have a36 : (zI s32 mm 13).toInt = (zI s20 mm 13).toInt := by rw [(hTo.k t_mm (by decide)).eI hE (by decide) rfl]
      refine lv_istore (lv' := [(6, .int r33), (5, .int r21), (4, .int i), (3, .ref out), (2, .ref mm), (1, .ref x), (0, .ref b)]) hx hb dL_law_510 hl (by decide) rfl (fun ls hl => ?_)
      refine lv_goto (tgt := 1432) hx hb dL_law_512 (by decide) ?_
      exact KK s32 _ _ _ hT R34 (by rw [etx]; omega) (lv_sub hl [2, 3, 4, 5, 6] rfl)
set_option maxHeartbeats 4000000 in
set_option maxRecDepth 100000 in
theorem lc_9 (l : Launch) (κ : Kt) (σ0 : Gh) (x mm out b : Nat) (t_x : zk σ0 x 7) (t_mm : zk σ0 mm 20) (t_out : zk σ0 out 24) (ttx0 : zk σ0 (kR κ x 0) 6) (hlt : l.stackTraces = false) {p : Program} {e : Env} {s : State} {m : MethodId} {below : List Frame} {meth : Method} {c : Code} {L : Nat} {xs : Nat → Int32} {i : Int32} {Q9 : State → Prop} (hx : p.tables.exec = Jvm.exec) (hb : c.code = cL_law) (hml : c.maxLocals = 9) (hown : s.vm.findClass RL = some m.cls) (hg : ∀ w ∈ GW, w.before #[Value.ref b] s = true) (hK : va_K κ.1 vwCl (kTy κ) s) (hX : XY κ (tA σ0 s.heap.size) s s.heap) (hXs : va_X b L xs s s.heap) (hbl : b < s.heap.size) (hbA : ¬ tA σ0 s.heap.size b) (zx : zroomX κ s room_1 601024 7293034) (hi0 : 0 ≤ i.toInt) (hi1 : i.toInt + 6 ≤ L) (hL9 : L ≤ 3072) {σ : Gh} {H : Heap} {locs : List Loc} {ls : Array Slot} (hT : TS κ fA σ0 σ s H locs) (hR : RI κ σ mm) (hlen : (zI σ (kR κ x 0) 1).toInt = (zI σ mm 13).toInt) (hl : lv_has ls 9 [(4, .int i), (3, .ref out), (2, .ref mm), (1, .ref x), (0, .ref b)]) (KK : ∀ (σ1 : Gh) (H : Heap) (locs : List Loc) (ls : Array Slot), TS (kX κ) fA σ0 σ1 s H locs → RI (kX κ) σ1 mm → (zI σ1 (kR κ x 0) 1).toInt = (zI σ1 mm 13).toInt → lv_has ls 9 [(4, .int i), (3, .ref out), (2, .ref mm), (1, .ref x), (0, .ref b)] → W p l e room_1 s m #[Value.ref b] below meth c H locs 601024 7293034 Q9 (F0 m 1432 ls [])) : W p l e room_1 s m #[Value.ref b] below meth c H locs 601024 7293034 Q9 (F0 m 515 ls []) := by
  obtain ⟨y1, hy1⟩ : ∃ z, z = xs (ix i + 1) := ⟨_, rfl⟩
  obtain ⟨y2, hy2⟩ : ∃ z, z = xs (ix i + 2) := ⟨_, rfl⟩
  obtain ⟨y3, hy3⟩ : ∃ z, z = xs (ix i + 3) := ⟨_, rfl⟩
  obtain ⟨y4, hy4⟩ : ∃ z, z = xs (ix i + 4) := ⟨_, rfl⟩
  obtain ⟨y5, hy5⟩ : ∃ z, z = xs (ix i + 5) := ⟨_, rfl⟩
  have n0 : (0 : Int32).toInt = 0 := by decide
  have n1 : (1 : Int32).toInt = 1 := by decide
  have n2 : (2 : Int32).toInt = 2 := by decide
  have n3 : (3 : Int32).toInt = 3 := by decide
  have n4 : (4 : Int32).toInt = 4 := by decide
  have n5 : (5 : Int32).toInt = 5 := by decide
  obtain ⟨tx, etx⟩ : ∃ z, kR κ x 0 = z := ⟨_, rfl⟩
  rw [etx] at hlen
  have ttx : zk σ0 tx 6 := by rw [← etx]; exact ttx0
  refine lv_aload_n hx hb dL_law_515 rfl (lv_at hl 3 rfl) ?_
  refine lv_aload_n hx hb dL_law_516 rfl (lv_at hl 4 rfl) ?_
  refine lv_iload hx hb dL_law_517 (lv_at hl 0 rfl) ?_
  refine lv_iconst (v := 1) hx hb dL_law_519 (by decide) ?_
  refine lv_iadd hx hb dL_law_520 ?_
  refine g_add (by omega) (by omega) (fun t1 ht1 => ?_)
  refine va_sld hx hb hXs hbl hbA hT.2.2.2 (g_in (by omega) (by omega)) dL_law_521 ?_
  refine ti y1 (by rw [hy1]; exact congrArg xs (show t1.toNatClampNeg = ix i + 1 from by show t1.toInt.toNat = ix i + 1; unfold ix; omega)) ?_
  refine lv_aload_n hx hb dL_law_522 rfl (lv_at hl 4 rfl) ?_
  refine lv_iload hx hb dL_law_523 (lv_at hl 0 rfl) ?_
  refine lv_iconst (v := 2) hx hb dL_law_525 (by decide) ?_
  refine lv_iadd hx hb dL_law_526 ?_
  refine g_add (by omega) (by omega) (fun t2 ht2 => ?_)
  refine va_sld hx hb hXs hbl hbA hT.2.2.2 (g_in (by omega) (by omega)) dL_law_527 ?_
  refine ti y2 (by rw [hy2]; exact congrArg xs (show t2.toNatClampNeg = ix i + 2 from by show t2.toInt.toNat = ix i + 2; unfold ix; omega)) ?_
  refine lv_aload_n hx hb dL_law_528 rfl (lv_at hl 1 rfl) ?_
  have hTo := hT
  refine tHi (n := 4) (As := [.ref x, .int y1, .int y2, .ref out]) (rest := []) hx hb hml hown hg hT hK hX (L_step l κ σ x y1 y2 out (hT.k t_x (by decide)) (hT.k t_out (by decide)) hlt) sub_hfE_fA (mwHS k883 k884 k83 k885) ⟨by decide, by decide, by decide +kernel⟩ ⟨(Nat.le_of_ble_eq_true rfl), (Nat.le_of_ble_eq_true rfl)⟩ rfl hl.1 rfl (Nat.le_of_ble_eq_true rfl) dL_law_529 zx (fun r4 s3 H locs hφ hE hT => ?_)
  have R5 := hR.ext hE ⟨rfl, rfl, fun _ => rfl, fun _ => rfl, fun _ => rfl, fun _ => rfl⟩
  have a6 : (zI s3 tx 1).toInt = (zI σ tx 1).toInt := by rw [(hTo.k ttx (by decide)).eI hE (by decide) rfl]
  have a7 : (zI s3 mm 13).toInt = (zI σ mm 13).toInt := by rw [(hTo.k t_mm (by decide)).eI hE (by decide) rfl]
  refine lv_istore (lv' := [(5, .int r4), (4, .int i), (3, .ref out), (2, .ref mm), (1, .ref x), (0, .ref b)]) hx hb dL_law_532 hl (by decide) rfl (fun ls hl => ?_)
  refine lv_aload_n hx hb dL_law_534 rfl (lv_at hl 3 rfl) ?_
  refine lv_aload_n hx hb dL_law_535 rfl (lv_at hl 5 rfl) ?_
  refine lv_iload hx hb dL_law_536 (lv_at hl 1 rfl) ?_
  refine lv_iconst (v := 1) hx hb dL_law_538 (by decide) ?_
  refine lv_iadd hx hb dL_law_539 ?_
  refine g_add (by omega) (by omega) (fun t8 ht8 => ?_)
  refine va_sld hx hb hXs hbl hbA hT.2.2.2 (g_in (by omega) (by omega)) dL_law_540 ?_
  refine ti y1 (by rw [hy1]; exact congrArg xs (show t8.toNatClampNeg = ix i + 1 from by show t8.toInt.toNat = ix i + 1; unfold ix; omega)) ?_
  refine lv_aload_n hx hb dL_law_541 rfl (lv_at hl 5 rfl) ?_
  refine lv_iload hx hb dL_law_542 (lv_at hl 1 rfl) ?_
  refine lv_iconst (v := 2) hx hb dL_law_544 (by decide) ?_
  refine lv_iadd hx hb dL_law_545 ?_
  refine g_add (by omega) (by omega) (fun t9 ht9 => ?_)
  refine va_sld hx hb hXs hbl hbA hT.2.2.2 (g_in (by omega) (by omega)) dL_law_546 ?_
  refine ti y2 (by rw [hy2]; exact congrArg xs (show t9.toNatClampNeg = ix i + 2 from by show t9.toInt.toNat = ix i + 2; unfold ix; omega)) ?_
  have hTo := hT
  refine tVl (n := 2) (As := [.int y1, .int y2]) (rest := []) hx hb hml hown hg hT hK hX (X6_step l (kX κ) s3 mm y1 y2 (hT.k t_mm (by decide)) R5) sub_gR_fA (mwV k1457 k1458 k1459 k92 k1460) ⟨rfl, by decide, by decide, by decide +kernel⟩ ⟨(Nat.le_of_ble_eq_true rfl), (Nat.le_of_ble_eq_true rfl)⟩ (hT.o20 (hT.k t_mm (by decide))) rfl rfl hl.1 rfl (Nat.le_of_ble_eq_true rfl) dL_law_547 zx (fun r11 s10 H locs hφ hE hT => ?_)
  have R12 := R5.ext hE ⟨rfl, rfl, fun _ => rfl, fun _ => rfl, fun _ => rfl, fun _ => rfl⟩
  have a13 : (zI s10 tx 1).toInt = (zI s3 tx 1).toInt := by rw [(hTo.k ttx (by decide)).eI hE (by decide) rfl]
  have a14 : (zI s10 mm 13).toInt = (zI s3 mm 13).toInt := by rw [(hTo.k t_mm (by decide)).eI hE (by decide) rfl]
  refine lv_lstore (lv' := [(6, .long r11), (5, .int r4), (4, .int i), (3, .ref out), (2, .ref mm), (1, .ref x), (0, .ref b)]) hx hb dL_law_550 hl (by decide) rfl (fun ls hl => ?_)
  refine lv_goto (tgt := 1432) hx hb dL_law_552 (by decide) ?_
  exact KK s10 _ _ _ hT R12 (by rw [etx]; omega) (lv_sub hl [2, 3, 4, 5, 6] rfl)
set_option maxHeartbeats 4000000 in
set_option maxRecDepth 100000 in
theorem lc_10 (l : Launch) (κ : Kt) (σ0 : Gh) (x mm out b : Nat) (t_x : zk σ0 x 7) (t_mm : zk σ0 mm 20) (t_out : zk σ0 out 24) (ttx0 : zk σ0 (kR κ x 0) 6) (hlt : l.stackTraces = false) {p : Program} {e : Env} {s : State} {m : MethodId} {below : List Frame} {meth : Method} {c : Code} {L : Nat} {xs : Nat → Int32} {i : Int32} {Q9 : State → Prop} (hx : p.tables.exec = Jvm.exec) (hb : c.code = cL_law) (hml : c.maxLocals = 9) (hown : s.vm.findClass RL = some m.cls) (hg : ∀ w ∈ GW, w.before #[Value.ref b] s = true) (hK : va_K κ.1 vwCl (kTy κ) s) (hX : XY κ (tA σ0 s.heap.size) s s.heap) (hXs : va_X b L xs s s.heap) (hbl : b < s.heap.size) (hbA : ¬ tA σ0 s.heap.size b) (zx : zroomX κ s room_1 601024 7293034) (hi0 : 0 ≤ i.toInt) (hi1 : i.toInt + 6 ≤ L) (hL9 : L ≤ 3072) {σ : Gh} {H : Heap} {locs : List Loc} {ls : Array Slot} (hT : TS κ fA σ0 σ s H locs) (hR : RI κ σ mm) (hlen : (zI σ (kR κ x 0) 1).toInt = (zI σ mm 13).toInt) (hl : lv_has ls 9 [(4, .int i), (3, .ref out), (2, .ref mm), (1, .ref x), (0, .ref b)]) (KK : ∀ (σ1 : Gh) (H : Heap) (locs : List Loc) (ls : Array Slot), TS (kX κ) fA σ0 σ1 s H locs → RI (kX κ) σ1 mm → (zI σ1 (kR κ x 0) 1).toInt = (zI σ1 mm 13).toInt → lv_has ls 9 [(4, .int i), (3, .ref out), (2, .ref mm), (1, .ref x), (0, .ref b)] → W p l e room_1 s m #[Value.ref b] below meth c H locs 601024 7293034 Q9 (F0 m 1432 ls [])) : W p l e room_1 s m #[Value.ref b] below meth c H locs 601024 7293034 Q9 (F0 m 555 ls []) := by
  obtain ⟨y1, hy1⟩ : ∃ z, z = xs (ix i + 1) := ⟨_, rfl⟩
  obtain ⟨y2, hy2⟩ : ∃ z, z = xs (ix i + 2) := ⟨_, rfl⟩
  obtain ⟨y3, hy3⟩ : ∃ z, z = xs (ix i + 3) := ⟨_, rfl⟩
  obtain ⟨y4, hy4⟩ : ∃ z, z = xs (ix i + 4) := ⟨_, rfl⟩
  obtain ⟨y5, hy5⟩ : ∃ z, z = xs (ix i + 5) := ⟨_, rfl⟩
  have n0 : (0 : Int32).toInt = 0 := by decide
  have n1 : (1 : Int32).toInt = 1 := by decide
  have n2 : (2 : Int32).toInt = 2 := by decide
  have n3 : (3 : Int32).toInt = 3 := by decide
  have n4 : (4 : Int32).toInt = 4 := by decide
  have n5 : (5 : Int32).toInt = 5 := by decide
  obtain ⟨tx, etx⟩ : ∃ z, kR κ x 0 = z := ⟨_, rfl⟩
  rw [etx] at hlen
  have ttx : zk σ0 tx 6 := by rw [← etx]; exact ttx0
  refine lv_aload_n hx hb dL_law_555 rfl (lv_at hl 3 rfl) ?_
  refine lv_aload_n hx hb dL_law_556 rfl (lv_at hl 4 rfl) ?_
  refine lv_iload hx hb dL_law_557 (lv_at hl 0 rfl) ?_
  refine lv_iconst (v := 1) hx hb dL_law_559 (by decide) ?_
  refine lv_iadd hx hb dL_law_560 ?_
  refine g_add (by omega) (by omega) (fun t1 ht1 => ?_)
  refine va_sld hx hb hXs hbl hbA hT.2.2.2 (g_in (by omega) (by omega)) dL_law_561 ?_
  refine ti y1 (by rw [hy1]; exact congrArg xs (show t1.toNatClampNeg = ix i + 1 from by show t1.toInt.toNat = ix i + 1; unfold ix; omega)) ?_
  refine lv_aload_n hx hb dL_law_562 rfl (lv_at hl 1 rfl) ?_
  have hTo := hT
  refine tHi (n := 3) (As := [.ref x, .int y1, .ref out]) (rest := []) hx hb hml hown hg hT hK hX (L_valueAt l κ σ x y1 out (hT.k t_x (by decide)) (hT.k t_out (by decide)) hlt) sub_hfW_fA (mwHS k890 k891 k83 k892) ⟨by decide, by decide, by decide +kernel⟩ ⟨(Nat.le_of_ble_eq_true rfl), (Nat.le_of_ble_eq_true rfl)⟩ rfl hl.1 rfl (Nat.le_of_ble_eq_true rfl) dL_law_563 zx (fun r3 s2 H locs hφ hE hT => ?_)
  have R4 := hR.ext hE ⟨rfl, rfl, fun _ => rfl, fun _ => rfl, fun _ => rfl, fun _ => rfl⟩
  have a5 : (zI s2 tx 1).toInt = (zI σ tx 1).toInt := by rw [(hTo.k ttx (by decide)).eI hE (by decide) rfl]
  have a6 : (zI s2 mm 13).toInt = (zI σ mm 13).toInt := by rw [(hTo.k t_mm (by decide)).eI hE (by decide) rfl]
  refine lv_istore (lv' := [(5, .int r3), (4, .int i), (3, .ref out), (2, .ref mm), (1, .ref x), (0, .ref b)]) hx hb dL_law_566 hl (by decide) rfl (fun ls hl => ?_)
  refine lv_aload_n hx hb dL_law_568 rfl (lv_at hl 3 rfl) ?_
  refine lv_aload_n hx hb dL_law_569 rfl (lv_at hl 5 rfl) ?_
  refine lv_iload hx hb dL_law_570 (lv_at hl 1 rfl) ?_
  refine lv_iconst (v := 1) hx hb dL_law_572 (by decide) ?_
  refine lv_iadd hx hb dL_law_573 ?_
  refine g_add (by omega) (by omega) (fun t7 ht7 => ?_)
  refine va_sld hx hb hXs hbl hbA hT.2.2.2 (g_in (by omega) (by omega)) dL_law_574 ?_
  refine ti y1 (by rw [hy1]; exact congrArg xs (show t7.toNatClampNeg = ix i + 1 from by show t7.toInt.toNat = ix i + 1; unfold ix; omega)) ?_
  have hTo := hT
  refine tVl (n := 1) (As := [.int y1]) (rest := []) hx hb hml hown hg hT hK hX (X6_valueAt l (kX κ) s2 mm y1 (hT.k t_mm (by decide)) R4) sub_gR_fA (mwV k1465 k1466 k1467 k92 k1468) ⟨rfl, by decide, by decide, by decide +kernel⟩ ⟨(Nat.le_of_ble_eq_true rfl), (Nat.le_of_ble_eq_true rfl)⟩ (hT.o20 (hT.k t_mm (by decide))) rfl rfl hl.1 rfl (Nat.le_of_ble_eq_true rfl) dL_law_575 zx (fun r9 s8 H locs hφ hE hT => ?_)
  have R10 := R4.ext hE ⟨rfl, rfl, fun _ => rfl, fun _ => rfl, fun _ => rfl, fun _ => rfl⟩
  have a11 : (zI s8 tx 1).toInt = (zI s2 tx 1).toInt := by rw [(hTo.k ttx (by decide)).eI hE (by decide) rfl]
  have a12 : (zI s8 mm 13).toInt = (zI s2 mm 13).toInt := by rw [(hTo.k t_mm (by decide)).eI hE (by decide) rfl]
  refine lv_lstore (lv' := [(6, .long r9), (5, .int r3), (4, .int i), (3, .ref out), (2, .ref mm), (1, .ref x), (0, .ref b)]) hx hb dL_law_578 hl (by decide) rfl (fun ls hl => ?_)
  refine lv_goto (tgt := 1432) hx hb dL_law_580 (by decide) ?_
  exact KK s8 _ _ _ hT R10 (by rw [etx]; omega) (lv_sub hl [2, 3, 4, 5, 6] rfl)
set_option maxHeartbeats 4000000 in
set_option maxRecDepth 100000 in
theorem lc_11 (l : Launch) (κ : Kt) (σ0 : Gh) (x mm out b : Nat) (t_x : zk σ0 x 7) (t_mm : zk σ0 mm 20) (t_out : zk σ0 out 24) (ttx0 : zk σ0 (kR κ x 0) 6) (hlt : l.stackTraces = false) {p : Program} {e : Env} {s : State} {m : MethodId} {below : List Frame} {meth : Method} {c : Code} {L : Nat} {xs : Nat → Int32} {i : Int32} {Q9 : State → Prop} (hx : p.tables.exec = Jvm.exec) (hb : c.code = cL_law) (hml : c.maxLocals = 9) (hown : s.vm.findClass RL = some m.cls) (hg : ∀ w ∈ GW, w.before #[Value.ref b] s = true) (hK : va_K κ.1 vwCl (kTy κ) s) (hX : XY κ (tA σ0 s.heap.size) s s.heap) (hXs : va_X b L xs s s.heap) (hbl : b < s.heap.size) (hbA : ¬ tA σ0 s.heap.size b) (zx : zroomX κ s room_1 601024 7293034) (hi0 : 0 ≤ i.toInt) (hi1 : i.toInt + 6 ≤ L) (hL9 : L ≤ 3072) {σ : Gh} {H : Heap} {locs : List Loc} {ls : Array Slot} (hT : TS κ fA σ0 σ s H locs) (hR : RI κ σ mm) (hlen : (zI σ (kR κ x 0) 1).toInt = (zI σ mm 13).toInt) (hl : lv_has ls 9 [(4, .int i), (3, .ref out), (2, .ref mm), (1, .ref x), (0, .ref b)]) (KK : ∀ (σ1 : Gh) (H : Heap) (locs : List Loc) (ls : Array Slot), TS (kX κ) fA σ0 σ1 s H locs → RI (kX κ) σ1 mm → (zI σ1 (kR κ x 0) 1).toInt = (zI σ1 mm 13).toInt → lv_has ls 9 [(4, .int i), (3, .ref out), (2, .ref mm), (1, .ref x), (0, .ref b)] → W p l e room_1 s m #[Value.ref b] below meth c H locs 601024 7293034 Q9 (F0 m 1432 ls [])) : W p l e room_1 s m #[Value.ref b] below meth c H locs 601024 7293034 Q9 (F0 m 583 ls []) := by
  obtain ⟨y1, hy1⟩ : ∃ z, z = xs (ix i + 1) := ⟨_, rfl⟩
  obtain ⟨y2, hy2⟩ : ∃ z, z = xs (ix i + 2) := ⟨_, rfl⟩
  obtain ⟨y3, hy3⟩ : ∃ z, z = xs (ix i + 3) := ⟨_, rfl⟩
  obtain ⟨y4, hy4⟩ : ∃ z, z = xs (ix i + 4) := ⟨_, rfl⟩
  obtain ⟨y5, hy5⟩ : ∃ z, z = xs (ix i + 5) := ⟨_, rfl⟩
  have n0 : (0 : Int32).toInt = 0 := by decide
  have n1 : (1 : Int32).toInt = 1 := by decide
  have n2 : (2 : Int32).toInt = 2 := by decide
  have n3 : (3 : Int32).toInt = 3 := by decide
  have n4 : (4 : Int32).toInt = 4 := by decide
  have n5 : (5 : Int32).toInt = 5 := by decide
  obtain ⟨tx, etx⟩ : ∃ z, kR κ x 0 = z := ⟨_, rfl⟩
  rw [etx] at hlen
  have ttx : zk σ0 tx 6 := by rw [← etx]; exact ttx0
  refine lv_aload_n hx hb dL_law_583 rfl (lv_at hl 3 rfl) ?_
  have hTo := hT
  refine tVl (n := 0) (As := []) (rest := []) hx hb hml hown hg hT hK hX (X5_integral l κ σ x (hT.k t_x (by decide))) sub_fE_fA (mwV k431 k432 k433 k84 k434) ⟨rfl, by decide, by decide, by decide +kernel⟩ ⟨(Nat.le_of_ble_eq_true rfl), (Nat.le_of_ble_eq_true rfl)⟩ (hT.o7 (hT.k t_x (by decide))) rfl rfl hl.1 rfl (Nat.le_of_ble_eq_true rfl) dL_law_584 zx.dn (fun r2 s1 H locs hφ hE hT => ?_)
  have R3 := hR.ext hE ⟨rfl, rfl, fun _ => rfl, fun _ => rfl, fun _ => rfl, fun _ => rfl⟩
  have a4 : (zI s1 tx 1).toInt = (zI σ tx 1).toInt := by rw [(hTo.k ttx (by decide)).eI hE (by decide) rfl]
  have a5 : (zI s1 mm 13).toInt = (zI σ mm 13).toInt := by rw [(hTo.k t_mm (by decide)).eI hE (by decide) rfl]
  refine lv_pop2_2 hx hb dL_law_587 rfl ?_
  refine lv_aload_n hx hb dL_law_588 rfl (lv_at hl 2 rfl) ?_
  have hTo := hT
  refine tVl (n := 0) (As := []) (rest := []) hx hb hml hown hg hT hK hX (X6_integral l κ s1 mm (hT.k t_mm (by decide)) R3) sub_gR_fA (mwV k1472 k1473 k1474 k92 k1475) ⟨rfl, by decide, by decide, by decide +kernel⟩ ⟨(Nat.le_of_ble_eq_true rfl), (Nat.le_of_ble_eq_true rfl)⟩ (hT.o20 (hT.k t_mm (by decide))) rfl rfl hl.1 rfl (Nat.le_of_ble_eq_true rfl) dL_law_589 zx.dn (fun r7 s6 H locs hφ hE hT => ?_)
  have R8 := R3.ext hE ⟨rfl, rfl, fun _ => rfl, fun _ => rfl, fun _ => rfl, fun _ => rfl⟩
  have a9 : (zI s6 tx 1).toInt = (zI s1 tx 1).toInt := by rw [(hTo.k ttx (by decide)).eI hE (by decide) rfl]
  have a10 : (zI s6 mm 13).toInt = (zI s1 mm 13).toInt := by rw [(hTo.k t_mm (by decide)).eI hE (by decide) rfl]
  refine lv_pop2_2 hx hb dL_law_592 rfl ?_
  refine lv_goto (tgt := 1432) hx hb dL_law_593 (by decide) ?_
  exact KK s6 _ _ _ hT.up R8 (by rw [etx]; omega) (lv_sub hl [0, 1, 2, 3, 4] rfl)
set_option maxHeartbeats 4000000 in
set_option maxRecDepth 100000 in
theorem lc_12 (l : Launch) (κ : Kt) (σ0 : Gh) (x mm out b : Nat) (t_x : zk σ0 x 7) (t_mm : zk σ0 mm 20) (t_out : zk σ0 out 24) (ttx0 : zk σ0 (kR κ x 0) 6) (hlt : l.stackTraces = false) {p : Program} {e : Env} {s : State} {m : MethodId} {below : List Frame} {meth : Method} {c : Code} {L : Nat} {xs : Nat → Int32} {i : Int32} {Q9 : State → Prop} (hx : p.tables.exec = Jvm.exec) (hb : c.code = cL_law) (hml : c.maxLocals = 9) (hown : s.vm.findClass RL = some m.cls) (hg : ∀ w ∈ GW, w.before #[Value.ref b] s = true) (hK : va_K κ.1 vwCl (kTy κ) s) (hX : XY κ (tA σ0 s.heap.size) s s.heap) (hXs : va_X b L xs s s.heap) (hbl : b < s.heap.size) (hbA : ¬ tA σ0 s.heap.size b) (zx : zroomX κ s room_1 601024 7293034) (hi0 : 0 ≤ i.toInt) (hi1 : i.toInt + 6 ≤ L) (hL9 : L ≤ 3072) {σ : Gh} {H : Heap} {locs : List Loc} {ls : Array Slot} (hT : TS κ fA σ0 σ s H locs) (hR : RI κ σ mm) (hlen : (zI σ (kR κ x 0) 1).toInt = (zI σ mm 13).toInt) (hl : lv_has ls 9 [(4, .int i), (3, .ref out), (2, .ref mm), (1, .ref x), (0, .ref b)]) (KK : ∀ (σ1 : Gh) (H : Heap) (locs : List Loc) (ls : Array Slot), TS (kX κ) fA σ0 σ1 s H locs → RI (kX κ) σ1 mm → (zI σ1 (kR κ x 0) 1).toInt = (zI σ1 mm 13).toInt → lv_has ls 9 [(4, .int i), (3, .ref out), (2, .ref mm), (1, .ref x), (0, .ref b)] → W p l e room_1 s m #[Value.ref b] below meth c H locs 601024 7293034 Q9 (F0 m 1432 ls [])) : W p l e room_1 s m #[Value.ref b] below meth c H locs 601024 7293034 Q9 (F0 m 596 ls []) := by
  obtain ⟨y1, hy1⟩ : ∃ z, z = xs (ix i + 1) := ⟨_, rfl⟩
  obtain ⟨y2, hy2⟩ : ∃ z, z = xs (ix i + 2) := ⟨_, rfl⟩
  obtain ⟨y3, hy3⟩ : ∃ z, z = xs (ix i + 3) := ⟨_, rfl⟩
  obtain ⟨y4, hy4⟩ : ∃ z, z = xs (ix i + 4) := ⟨_, rfl⟩
  obtain ⟨y5, hy5⟩ : ∃ z, z = xs (ix i + 5) := ⟨_, rfl⟩
  have n0 : (0 : Int32).toInt = 0 := by decide
  have n1 : (1 : Int32).toInt = 1 := by decide
  have n2 : (2 : Int32).toInt = 2 := by decide
  have n3 : (3 : Int32).toInt = 3 := by decide
  have n4 : (4 : Int32).toInt = 4 := by decide
  have n5 : (5 : Int32).toInt = 5 := by decide
  obtain ⟨tx, etx⟩ : ∃ z, kR κ x 0 = z := ⟨_, rfl⟩
  rw [etx] at hlen
  have ttx : zk σ0 tx 6 := by rw [← etx]; exact ttx0
  refine lv_aload_n hx hb dL_law_596 rfl (lv_at hl 3 rfl) ?_
  have hTo := hT
  refine tVl (n := 0) (As := []) (rest := []) hx hb hml hown hg hT hK hX (X5_drift l κ σ x (hT.k t_x (by decide))) sub_fW_fA (mwV k447 k448 k449 k84 k450) ⟨rfl, by decide, by decide, by decide +kernel⟩ ⟨(Nat.le_of_ble_eq_true rfl), (Nat.le_of_ble_eq_true rfl)⟩ (hT.o7 (hT.k t_x (by decide))) rfl rfl hl.1 rfl (Nat.le_of_ble_eq_true rfl) dL_law_597 zx.dn (fun r2 s1 H locs hφ hE hT => ?_)
  have R3 := hR.ext hE ⟨rfl, rfl, fun _ => rfl, fun _ => rfl, fun _ => rfl, fun _ => rfl⟩
  have a4 : (zI s1 tx 1).toInt = (zI σ tx 1).toInt := by rw [(hTo.k ttx (by decide)).eI hE (by decide) rfl]
  have a5 : (zI s1 mm 13).toInt = (zI σ mm 13).toInt := by rw [(hTo.k t_mm (by decide)).eI hE (by decide) rfl]
  refine lv_pop2_2 hx hb dL_law_600 rfl ?_
  refine lv_aload_n hx hb dL_law_601 rfl (lv_at hl 2 rfl) ?_
  have hTo := hT
  refine tVl (n := 0) (As := []) (rest := []) hx hb hml hown hg hT hK hX (X6_drift l κ s1 mm (hT.k t_mm (by decide)) R3) sub_gR_fA (mwV k1480 k1481 k1482 k92 k1483) ⟨rfl, by decide, by decide, by decide +kernel⟩ ⟨(Nat.le_of_ble_eq_true rfl), (Nat.le_of_ble_eq_true rfl)⟩ (hT.o20 (hT.k t_mm (by decide))) rfl rfl hl.1 rfl (Nat.le_of_ble_eq_true rfl) dL_law_602 zx.dn (fun r7 s6 H locs hφ hE hT => ?_)
  have R8 := R3.ext hE ⟨rfl, rfl, fun _ => rfl, fun _ => rfl, fun _ => rfl, fun _ => rfl⟩
  have a9 : (zI s6 tx 1).toInt = (zI s1 tx 1).toInt := by rw [(hTo.k ttx (by decide)).eI hE (by decide) rfl]
  have a10 : (zI s6 mm 13).toInt = (zI s1 mm 13).toInt := by rw [(hTo.k t_mm (by decide)).eI hE (by decide) rfl]
  refine lv_pop2_2 hx hb dL_law_605 rfl ?_
  refine lv_goto (tgt := 1432) hx hb dL_law_606 (by decide) ?_
  exact KK s6 _ _ _ hT.up R8 (by rw [etx]; omega) (lv_sub hl [0, 1, 2, 3, 4] rfl)
set_option maxHeartbeats 4000000 in
set_option maxRecDepth 100000 in
theorem lc_13 (l : Launch) (κ : Kt) (σ0 : Gh) (x mm out b : Nat) (t_x : zk σ0 x 7) (t_mm : zk σ0 mm 20) (t_out : zk σ0 out 24) (ttx0 : zk σ0 (kR κ x 0) 6) (hlt : l.stackTraces = false) {p : Program} {e : Env} {s : State} {m : MethodId} {below : List Frame} {meth : Method} {c : Code} {L : Nat} {xs : Nat → Int32} {i : Int32} {Q9 : State → Prop} (hx : p.tables.exec = Jvm.exec) (hb : c.code = cL_law) (hml : c.maxLocals = 9) (hown : s.vm.findClass RL = some m.cls) (hg : ∀ w ∈ GW, w.before #[Value.ref b] s = true) (hK : va_K κ.1 vwCl (kTy κ) s) (hX : XY κ (tA σ0 s.heap.size) s s.heap) (hXs : va_X b L xs s s.heap) (hbl : b < s.heap.size) (hbA : ¬ tA σ0 s.heap.size b) (zx : zroomX κ s room_1 601024 7293034) (hi0 : 0 ≤ i.toInt) (hi1 : i.toInt + 6 ≤ L) (hL9 : L ≤ 3072) {σ : Gh} {H : Heap} {locs : List Loc} {ls : Array Slot} (hT : TS κ fA σ0 σ s H locs) (hR : RI κ σ mm) (hlen : (zI σ (kR κ x 0) 1).toInt = (zI σ mm 13).toInt) (hl : lv_has ls 9 [(4, .int i), (3, .ref out), (2, .ref mm), (1, .ref x), (0, .ref b)]) (KK : ∀ (σ1 : Gh) (H : Heap) (locs : List Loc) (ls : Array Slot), TS (kX κ) fA σ0 σ1 s H locs → RI (kX κ) σ1 mm → (zI σ1 (kR κ x 0) 1).toInt = (zI σ1 mm 13).toInt → lv_has ls 9 [(4, .int i), (3, .ref out), (2, .ref mm), (1, .ref x), (0, .ref b)] → W p l e room_1 s m #[Value.ref b] below meth c H locs 601024 7293034 Q9 (F0 m 1432 ls [])) : W p l e room_1 s m #[Value.ref b] below meth c H locs 601024 7293034 Q9 (F0 m 609 ls []) := by
  obtain ⟨y1, hy1⟩ : ∃ z, z = xs (ix i + 1) := ⟨_, rfl⟩
  obtain ⟨y2, hy2⟩ : ∃ z, z = xs (ix i + 2) := ⟨_, rfl⟩
  obtain ⟨y3, hy3⟩ : ∃ z, z = xs (ix i + 3) := ⟨_, rfl⟩
  obtain ⟨y4, hy4⟩ : ∃ z, z = xs (ix i + 4) := ⟨_, rfl⟩
  obtain ⟨y5, hy5⟩ : ∃ z, z = xs (ix i + 5) := ⟨_, rfl⟩
  have n0 : (0 : Int32).toInt = 0 := by decide
  have n1 : (1 : Int32).toInt = 1 := by decide
  have n2 : (2 : Int32).toInt = 2 := by decide
  have n3 : (3 : Int32).toInt = 3 := by decide
  have n4 : (4 : Int32).toInt = 4 := by decide
  have n5 : (5 : Int32).toInt = 5 := by decide
  obtain ⟨tx, etx⟩ : ∃ z, kR κ x 0 = z := ⟨_, rfl⟩
  rw [etx] at hlen
  have ttx : zk σ0 tx 6 := by rw [← etx]; exact ttx0
  refine lv_aload_n hx hb dL_law_609 rfl (lv_at hl 3 rfl) ?_
  refine lv_aload_n hx hb dL_law_610 rfl (lv_at hl 4 rfl) ?_
  refine lv_iload hx hb dL_law_611 (lv_at hl 0 rfl) ?_
  refine lv_iconst (v := 1) hx hb dL_law_613 (by decide) ?_
  refine lv_iadd hx hb dL_law_614 ?_
  refine g_add (by omega) (by omega) (fun t1 ht1 => ?_)
  refine va_sld hx hb hXs hbl hbA hT.2.2.2 (g_in (by omega) (by omega)) dL_law_615 ?_
  refine ti y1 (by rw [hy1]; exact congrArg xs (show t1.toNatClampNeg = ix i + 1 from by show t1.toInt.toNat = ix i + 1; unfold ix; omega)) ?_
  refine lv_aload_n hx hb dL_law_616 rfl (lv_at hl 1 rfl) ?_
  have hTo := hT
  refine tHi (n := 3) (As := [.ref x, .int y1, .ref out]) (rest := []) hx hb hml hown hg hT hK hX (L_mean l κ σ x y1 out (hT.k t_x (by decide)) (hT.k t_out (by decide)) hlt) sub_hfW_fA (mwHS k902 k903 k83 k904) ⟨by decide, by decide, by decide +kernel⟩ ⟨(Nat.le_of_ble_eq_true rfl), (Nat.le_of_ble_eq_true rfl)⟩ rfl hl.1 rfl (Nat.le_of_ble_eq_true rfl) dL_law_617 zx (fun r3 s2 H locs hφ hE hT => ?_)
  have R4 := hR.ext hE ⟨rfl, rfl, fun _ => rfl, fun _ => rfl, fun _ => rfl, fun _ => rfl⟩
  have a5 : (zI s2 tx 1).toInt = (zI σ tx 1).toInt := by rw [(hTo.k ttx (by decide)).eI hE (by decide) rfl]
  have a6 : (zI s2 mm 13).toInt = (zI σ mm 13).toInt := by rw [(hTo.k t_mm (by decide)).eI hE (by decide) rfl]
  refine lv_istore (lv' := [(5, .int r3), (4, .int i), (3, .ref out), (2, .ref mm), (1, .ref x), (0, .ref b)]) hx hb dL_law_620 hl (by decide) rfl (fun ls hl => ?_)
  refine lv_aload_n hx hb dL_law_622 rfl (lv_at hl 3 rfl) ?_
  refine lv_aload_n hx hb dL_law_623 rfl (lv_at hl 5 rfl) ?_
  refine lv_iload hx hb dL_law_624 (lv_at hl 1 rfl) ?_
  refine lv_iconst (v := 1) hx hb dL_law_626 (by decide) ?_
  refine lv_iadd hx hb dL_law_627 ?_
  refine g_add (by omega) (by omega) (fun t7 ht7 => ?_)
  refine va_sld hx hb hXs hbl hbA hT.2.2.2 (g_in (by omega) (by omega)) dL_law_628 ?_
  refine ti y1 (by rw [hy1]; exact congrArg xs (show t7.toNatClampNeg = ix i + 1 from by show t7.toInt.toNat = ix i + 1; unfold ix; omega)) ?_
  have hTo := hT
  refine tVl (n := 1) (As := [.int y1]) (rest := []) hx hb hml hown hg hT hK hX (X6_mean l (kX κ) s2 mm y1 (hT.k t_mm (by decide)) R4) sub_gR_fA (mwV k1484 k1485 k1486 k92 k1487) ⟨rfl, by decide, by decide, by decide +kernel⟩ ⟨(Nat.le_of_ble_eq_true rfl), (Nat.le_of_ble_eq_true rfl)⟩ (hT.o20 (hT.k t_mm (by decide))) rfl rfl hl.1 rfl (Nat.le_of_ble_eq_true rfl) dL_law_629 zx (fun r9 s8 H locs hφ hE hT => ?_)
  have R10 := R4.ext hE ⟨rfl, rfl, fun _ => rfl, fun _ => rfl, fun _ => rfl, fun _ => rfl⟩
  have a11 : (zI s8 tx 1).toInt = (zI s2 tx 1).toInt := by rw [(hTo.k ttx (by decide)).eI hE (by decide) rfl]
  have a12 : (zI s8 mm 13).toInt = (zI s2 mm 13).toInt := by rw [(hTo.k t_mm (by decide)).eI hE (by decide) rfl]
  refine lv_lstore (lv' := [(6, .long r9), (5, .int r3), (4, .int i), (3, .ref out), (2, .ref mm), (1, .ref x), (0, .ref b)]) hx hb dL_law_632 hl (by decide) rfl (fun ls hl => ?_)
  refine lv_goto (tgt := 1432) hx hb dL_law_634 (by decide) ?_
  exact KK s8 _ _ _ hT R10 (by rw [etx]; omega) (lv_sub hl [2, 3, 4, 5, 6] rfl)
set_option maxHeartbeats 4000000 in
set_option maxRecDepth 100000 in
theorem lc_14 (l : Launch) (κ : Kt) (σ0 : Gh) (x mm out b : Nat) (t_x : zk σ0 x 7) (t_mm : zk σ0 mm 20) (t_out : zk σ0 out 24) (ttx0 : zk σ0 (kR κ x 0) 6) (hlt : l.stackTraces = false) {p : Program} {e : Env} {s : State} {m : MethodId} {below : List Frame} {meth : Method} {c : Code} {L : Nat} {xs : Nat → Int32} {i : Int32} {Q9 : State → Prop} (hx : p.tables.exec = Jvm.exec) (hb : c.code = cL_law) (hml : c.maxLocals = 9) (hown : s.vm.findClass RL = some m.cls) (hg : ∀ w ∈ GW, w.before #[Value.ref b] s = true) (hK : va_K κ.1 vwCl (kTy κ) s) (hX : XY κ (tA σ0 s.heap.size) s s.heap) (hXs : va_X b L xs s s.heap) (hbl : b < s.heap.size) (hbA : ¬ tA σ0 s.heap.size b) (zx : zroomX κ s room_1 601024 7293034) (hi0 : 0 ≤ i.toInt) (hi1 : i.toInt + 6 ≤ L) (hL9 : L ≤ 3072) {d0 : Drawn} (hd0 : s.drawn.sameBut d0 lw_cs) {σ : Gh} {H : Heap} {locs : List Loc} {ls : Array Slot} (hT : TS κ fA σ0 σ s H locs) (hR : RI κ σ mm) (hlen : (zI σ (kR κ x 0) 1).toInt = (zI σ mm 13).toInt) (hl : lv_has ls 9 [(4, .int i), (3, .ref out), (2, .ref mm), (1, .ref x), (0, .ref b)]) (KK : ∀ (d1 : Drawn), s.drawn.sameBut d1 lw_cs → ∀ (σ1 : Gh) (H : Heap) (locs : List Loc) (ls : Array Slot), TS (kX κ) fA σ0 σ1 s H locs → RI (kX κ) σ1 mm → (zI σ1 (kR κ x 0) 1).toInt = (zI σ1 mm 13).toInt → lv_has ls 9 [(4, .int i), (3, .ref out), (2, .ref mm), (1, .ref x), (0, .ref b)] → W p l e room_1 (s.setDrawn d1) m #[Value.ref b] below meth c H locs 601024 7293034 Q9 (F0 m 1432 ls [])) : W p l e room_1 (s.setDrawn d0) m #[Value.ref b] below meth c H locs 601024 7293034 Q9 (F0 m 637 ls []) := by
  obtain ⟨y1, hy1⟩ : ∃ z, z = xs (ix i + 1) := ⟨_, rfl⟩
  obtain ⟨y2, hy2⟩ : ∃ z, z = xs (ix i + 2) := ⟨_, rfl⟩
  obtain ⟨y3, hy3⟩ : ∃ z, z = xs (ix i + 3) := ⟨_, rfl⟩
  obtain ⟨y4, hy4⟩ : ∃ z, z = xs (ix i + 4) := ⟨_, rfl⟩
  obtain ⟨y5, hy5⟩ : ∃ z, z = xs (ix i + 5) := ⟨_, rfl⟩
  have n0 : (0 : Int32).toInt = 0 := by decide
  have n1 : (1 : Int32).toInt = 1 := by decide
  have n2 : (2 : Int32).toInt = 2 := by decide
  have n3 : (3 : Int32).toInt = 3 := by decide
  have n4 : (4 : Int32).toInt = 4 := by decide
  have n5 : (5 : Int32).toInt = 5 := by decide
  obtain ⟨tx, etx⟩ : ∃ z, kR κ x 0 = z := ⟨_, rfl⟩
  rw [etx] at hlen
  have ttx : zk σ0 tx 6 := by rw [← etx]; exact ttx0
  refine lv_aload_n hx hb dL_law_637 rfl (lv_at hl 3 rfl) ?_
  have hTo := hT
  refine tVdD (n := 0) (As := []) (rest := []) hd0 hx hb hml hown (dr_words hg d0) hT hK hX (X5_plainMean l κ σ x (hT.k t_x (by decide))) sub_fW_fA (mwV k463 k464 k465 k84 k466) ⟨rfl, by decide, by decide, by decide +kernel⟩ ⟨(Nat.le_of_ble_eq_true rfl), (Nat.le_of_ble_eq_true rfl)⟩ (hT.o7 (hT.k t_x (by decide))) rfl rfl hl.1 rfl (Nat.le_of_ble_eq_true rfl) dL_law_638 zx.dn (fun r2 s1 H locs d1 hd1 hφ hE hT => ?_)
  have hg1 := dr_words hg d1
  have R3 := hR.ext hE ⟨rfl, rfl, fun _ => rfl, fun _ => rfl, fun _ => rfl, fun _ => rfl⟩
  have a4 : (zI s1 tx 1).toInt = (zI σ tx 1).toInt := by rw [(hTo.k ttx (by decide)).eI hE (by decide) rfl]
  have a5 : (zI s1 mm 13).toInt = (zI σ mm 13).toInt := by rw [(hTo.k t_mm (by decide)).eI hE (by decide) rfl]
  refine lv_dstore (lv' := [(5, .double r2), (4, .int i), (3, .ref out), (2, .ref mm), (1, .ref x), (0, .ref b)]) hx hb dL_law_641 hl (by decide) rfl (fun ls hl => ?_)
  refine lv_aload_n hx hb dL_law_643 rfl (lv_at hl 3 rfl) ?_
  have hTo := hT
  refine tVd (s := s.setDrawn d1) (n := 0) (As := []) (rest := []) hx hb hml hown hg1 hT hK hX (X6_plainMean l κ s1 mm (hT.k t_mm (by decide)) R3) sub_gR_fA (mwV k1494 k1495 k1496 k92 k1497) ⟨rfl, by decide, by decide, by decide +kernel⟩ ⟨(Nat.le_of_ble_eq_true rfl), (Nat.le_of_ble_eq_true rfl)⟩ (hT.o20 (hT.k t_mm (by decide))) rfl rfl hl.1 rfl (Nat.le_of_ble_eq_true rfl) dL_law_644 zx.dn (fun r7 s6 H locs hφ hE hT => ?_)
  have R8 := R3.ext hE ⟨rfl, rfl, fun _ => rfl, fun _ => rfl, fun _ => rfl, fun _ => rfl⟩
  have a9 : (zI s6 tx 1).toInt = (zI s1 tx 1).toInt := by rw [(hTo.k ttx (by decide)).eI hE (by decide) rfl]
  have a10 : (zI s6 mm 13).toInt = (zI s1 mm 13).toInt := by rw [(hTo.k t_mm (by decide)).eI hE (by decide) rfl]
  refine lv_dstore (lv' := [(7, .double r7), (5, .double r2), (4, .int i), (3, .ref out), (2, .ref mm), (1, .ref x), (0, .ref b)]) hx hb dL_law_647 hl (by decide) rfl (fun ls hl => ?_)
  refine lv_goto (tgt := 1432) hx hb dL_law_649 (by decide) ?_
  exact KK d1 hd1 s6 _ _ _ hT.up R8 (by rw [etx]; omega) (lv_sub hl [2, 3, 4, 5, 6] rfl)
set_option maxHeartbeats 4000000 in
set_option maxRecDepth 100000 in
theorem lc_15 (l : Launch) (κ : Kt) (σ0 : Gh) (x mm out b : Nat) (t_x : zk σ0 x 7) (t_mm : zk σ0 mm 20) (t_out : zk σ0 out 24) (ttx0 : zk σ0 (kR κ x 0) 6) (hlt : l.stackTraces = false) {p : Program} {e : Env} {s : State} {m : MethodId} {below : List Frame} {meth : Method} {c : Code} {L : Nat} {xs : Nat → Int32} {i : Int32} {Q9 : State → Prop} (hx : p.tables.exec = Jvm.exec) (hb : c.code = cL_law) (hml : c.maxLocals = 9) (hown : s.vm.findClass RL = some m.cls) (hg : ∀ w ∈ GW, w.before #[Value.ref b] s = true) (hK : va_K κ.1 vwCl (kTy κ) s) (hX : XY κ (tA σ0 s.heap.size) s s.heap) (hXs : va_X b L xs s s.heap) (hbl : b < s.heap.size) (hbA : ¬ tA σ0 s.heap.size b) (zx : zroomX κ s room_1 601024 7293034) (hi0 : 0 ≤ i.toInt) (hi1 : i.toInt + 6 ≤ L) (hL9 : L ≤ 3072) {σ : Gh} {H : Heap} {locs : List Loc} {ls : Array Slot} (hT : TS κ fA σ0 σ s H locs) (hR : RI κ σ mm) (hlen : (zI σ (kR κ x 0) 1).toInt = (zI σ mm 13).toInt) (hl : lv_has ls 9 [(4, .int i), (3, .ref out), (2, .ref mm), (1, .ref x), (0, .ref b)]) (KK : ∀ (σ1 : Gh) (H : Heap) (locs : List Loc) (ls : Array Slot), TS (kX κ) fA σ0 σ1 s H locs → RI (kX κ) σ1 mm → (zI σ1 (kR κ x 0) 1).toInt = (zI σ1 mm 13).toInt → lv_has ls 9 [(4, .int i), (3, .ref out), (2, .ref mm), (1, .ref x), (0, .ref b)] → W p l e room_1 s m #[Value.ref b] below meth c H locs 601024 7293034 Q9 (F0 m 1432 ls [])) : W p l e room_1 s m #[Value.ref b] below meth c H locs 601024 7293034 Q9 (F0 m 652 ls []) := by
  obtain ⟨y1, hy1⟩ : ∃ z, z = xs (ix i + 1) := ⟨_, rfl⟩
  obtain ⟨y2, hy2⟩ : ∃ z, z = xs (ix i + 2) := ⟨_, rfl⟩
  obtain ⟨y3, hy3⟩ : ∃ z, z = xs (ix i + 3) := ⟨_, rfl⟩
  obtain ⟨y4, hy4⟩ : ∃ z, z = xs (ix i + 4) := ⟨_, rfl⟩
  obtain ⟨y5, hy5⟩ : ∃ z, z = xs (ix i + 5) := ⟨_, rfl⟩
  have n0 : (0 : Int32).toInt = 0 := by decide
  have n1 : (1 : Int32).toInt = 1 := by decide
  have n2 : (2 : Int32).toInt = 2 := by decide
  have n3 : (3 : Int32).toInt = 3 := by decide
  have n4 : (4 : Int32).toInt = 4 := by decide
  have n5 : (5 : Int32).toInt = 5 := by decide
  obtain ⟨tx, etx⟩ : ∃ z, kR κ x 0 = z := ⟨_, rfl⟩
  rw [etx] at hlen
  have ttx : zk σ0 tx 6 := by rw [← etx]; exact ttx0
  refine lv_aload_n hx hb dL_law_652 rfl (lv_at hl 3 rfl) ?_
  have hTo := hT
  refine tVl (n := 0) (As := []) (rest := []) hx hb hml hown hg hT hK hX (X5_energy l κ σ x (hT.k t_x (by decide))) sub_fE_fA (mwV k492 k493 k494 k84 k495) ⟨rfl, by decide, by decide, by decide +kernel⟩ ⟨(Nat.le_of_ble_eq_true rfl), (Nat.le_of_ble_eq_true rfl)⟩ (hT.o7 (hT.k t_x (by decide))) rfl rfl hl.1 rfl (Nat.le_of_ble_eq_true rfl) dL_law_653 zx.dn (fun r2 s1 H locs hφ hE hT => ?_)
  have R3 := hR.ext hE ⟨rfl, rfl, fun _ => rfl, fun _ => rfl, fun _ => rfl, fun _ => rfl⟩
  have a4 : (zI s1 tx 1).toInt = (zI σ tx 1).toInt := by rw [(hTo.k ttx (by decide)).eI hE (by decide) rfl]
  have a5 : (zI s1 mm 13).toInt = (zI σ mm 13).toInt := by rw [(hTo.k t_mm (by decide)).eI hE (by decide) rfl]
  refine lv_pop2_2 hx hb dL_law_656 rfl ?_
  refine lv_aload_n hx hb dL_law_657 rfl (lv_at hl 2 rfl) ?_
  have hTo := hT
  refine tVl (n := 0) (As := []) (rest := []) hx hb hml hown hg hT hK hX (X6_energy l κ s1 mm (hT.k t_mm (by decide)) R3) sub_gR_fA (mwV k1498 k1499 k1500 k92 k1501) ⟨rfl, by decide, by decide, by decide +kernel⟩ ⟨(Nat.le_of_ble_eq_true rfl), (Nat.le_of_ble_eq_true rfl)⟩ (hT.o20 (hT.k t_mm (by decide))) rfl rfl hl.1 rfl (Nat.le_of_ble_eq_true rfl) dL_law_658 zx.dn (fun r7 s6 H locs hφ hE hT => ?_)
  have R8 := R3.ext hE ⟨rfl, rfl, fun _ => rfl, fun _ => rfl, fun _ => rfl, fun _ => rfl⟩
  have a9 : (zI s6 tx 1).toInt = (zI s1 tx 1).toInt := by rw [(hTo.k ttx (by decide)).eI hE (by decide) rfl]
  have a10 : (zI s6 mm 13).toInt = (zI s1 mm 13).toInt := by rw [(hTo.k t_mm (by decide)).eI hE (by decide) rfl]
  refine lv_pop2_2 hx hb dL_law_661 rfl ?_
  refine lv_goto (tgt := 1432) hx hb dL_law_662 (by decide) ?_
  exact KK s6 _ _ _ hT.up R8 (by rw [etx]; omega) (lv_sub hl [0, 1, 2, 3, 4] rfl)
set_option maxHeartbeats 4000000 in
set_option maxRecDepth 100000 in
theorem lc_16 (l : Launch) (κ : Kt) (σ0 : Gh) (x mm out b : Nat) (t_x : zk σ0 x 7) (t_mm : zk σ0 mm 20) (t_out : zk σ0 out 24) (ttx0 : zk σ0 (kR κ x 0) 6) (hlt : l.stackTraces = false) {p : Program} {e : Env} {s : State} {m : MethodId} {below : List Frame} {meth : Method} {c : Code} {L : Nat} {xs : Nat → Int32} {i : Int32} {Q9 : State → Prop} (hx : p.tables.exec = Jvm.exec) (hb : c.code = cL_law) (hml : c.maxLocals = 9) (hown : s.vm.findClass RL = some m.cls) (hg : ∀ w ∈ GW, w.before #[Value.ref b] s = true) (hK : va_K κ.1 vwCl (kTy κ) s) (hX : XY κ (tA σ0 s.heap.size) s s.heap) (hXs : va_X b L xs s s.heap) (hbl : b < s.heap.size) (hbA : ¬ tA σ0 s.heap.size b) (zx : zroomX κ s room_1 601024 7293034) (hi0 : 0 ≤ i.toInt) (hi1 : i.toInt + 6 ≤ L) (hL9 : L ≤ 3072) {σ : Gh} {H : Heap} {locs : List Loc} {ls : Array Slot} (hT : TS κ fA σ0 σ s H locs) (hR : RI κ σ mm) (hlen : (zI σ (kR κ x 0) 1).toInt = (zI σ mm 13).toInt) (hl : lv_has ls 9 [(4, .int i), (3, .ref out), (2, .ref mm), (1, .ref x), (0, .ref b)]) (KK : ∀ (σ1 : Gh) (H : Heap) (locs : List Loc) (ls : Array Slot), TS (kX κ) fA σ0 σ1 s H locs → RI (kX κ) σ1 mm → (zI σ1 (kR κ x 0) 1).toInt = (zI σ1 mm 13).toInt → lv_has ls 9 [(4, .int i), (3, .ref out), (2, .ref mm), (1, .ref x), (0, .ref b)] → W p l e room_1 s m #[Value.ref b] below meth c H locs 601024 7293034 Q9 (F0 m 1432 ls [])) : W p l e room_1 s m #[Value.ref b] below meth c H locs 601024 7293034 Q9 (F0 m 665 ls []) := by
  obtain ⟨y1, hy1⟩ : ∃ z, z = xs (ix i + 1) := ⟨_, rfl⟩
  obtain ⟨y2, hy2⟩ : ∃ z, z = xs (ix i + 2) := ⟨_, rfl⟩
  obtain ⟨y3, hy3⟩ : ∃ z, z = xs (ix i + 3) := ⟨_, rfl⟩
  obtain ⟨y4, hy4⟩ : ∃ z, z = xs (ix i + 4) := ⟨_, rfl⟩
  obtain ⟨y5, hy5⟩ : ∃ z, z = xs (ix i + 5) := ⟨_, rfl⟩
  have n0 : (0 : Int32).toInt = 0 := by decide
  have n1 : (1 : Int32).toInt = 1 := by decide
  have n2 : (2 : Int32).toInt = 2 := by decide
  have n3 : (3 : Int32).toInt = 3 := by decide
  have n4 : (4 : Int32).toInt = 4 := by decide
  have n5 : (5 : Int32).toInt = 5 := by decide
  obtain ⟨tx, etx⟩ : ∃ z, kR κ x 0 = z := ⟨_, rfl⟩
  rw [etx] at hlen
  have ttx : zk σ0 tx 6 := by rw [← etx]; exact ttx0
  refine lv_aload_n hx hb dL_law_665 rfl (lv_at hl 3 rfl) ?_
  have hTo := hT
  refine tVi (n := 0) (As := []) (rest := []) hx hb hml hown hg hT hK hX (X5_bits l κ σ x (hT.k t_x (by decide))) sub_fE_fA (mwV k501 k502 k503 k84 k504) ⟨rfl, by decide, by decide, by decide +kernel⟩ ⟨(Nat.le_of_ble_eq_true rfl), (Nat.le_of_ble_eq_true rfl)⟩ (hT.o7 (hT.k t_x (by decide))) rfl rfl hl.1 rfl (Nat.le_of_ble_eq_true rfl) dL_law_666 zx.dn (fun r2 s1 H locs hφ hE hT => ?_)
  have R3 := hR.ext hE ⟨rfl, rfl, fun _ => rfl, fun _ => rfl, fun _ => rfl, fun _ => rfl⟩
  have a4 : (zI s1 tx 1).toInt = (zI σ tx 1).toInt := by rw [(hTo.k ttx (by decide)).eI hE (by decide) rfl]
  have a5 : (zI s1 mm 13).toInt = (zI σ mm 13).toInt := by rw [(hTo.k t_mm (by decide)).eI hE (by decide) rfl]
  refine lv_pop hx hb dL_law_669 rfl ?_
  refine lv_aload_n hx hb dL_law_670 rfl (lv_at hl 2 rfl) ?_
  have hTo := hT
  refine tVi (n := 0) (As := []) (rest := []) hx hb hml hown hg hT hK hX (X6_bits l κ s1 mm (hT.k t_mm (by decide)) R3) sub_gR_fA (mwV k1502 k1503 k1504 k92 k1505) ⟨rfl, by decide, by decide, by decide +kernel⟩ ⟨(Nat.le_of_ble_eq_true rfl), (Nat.le_of_ble_eq_true rfl)⟩ (hT.o20 (hT.k t_mm (by decide))) rfl rfl hl.1 rfl (Nat.le_of_ble_eq_true rfl) dL_law_671 zx.dn (fun r7 s6 H locs hφ hE hT => ?_)
  have R8 := R3.ext hE ⟨rfl, rfl, fun _ => rfl, fun _ => rfl, fun _ => rfl, fun _ => rfl⟩
  have a9 : (zI s6 tx 1).toInt = (zI s1 tx 1).toInt := by rw [(hTo.k ttx (by decide)).eI hE (by decide) rfl]
  have a10 : (zI s6 mm 13).toInt = (zI s1 mm 13).toInt := by rw [(hTo.k t_mm (by decide)).eI hE (by decide) rfl]
  refine lv_pop hx hb dL_law_674 rfl ?_
  refine lv_goto (tgt := 1432) hx hb dL_law_675 (by decide) ?_
  exact KK s6 _ _ _ hT.up R8 (by rw [etx]; omega) (lv_sub hl [0, 1, 2, 3, 4] rfl)
set_option maxHeartbeats 4000000 in
set_option maxRecDepth 100000 in
theorem lc_17 (l : Launch) (κ : Kt) (σ0 : Gh) (x mm out b : Nat) (t_x : zk σ0 x 7) (t_mm : zk σ0 mm 20) (t_out : zk σ0 out 24) (ttx0 : zk σ0 (kR κ x 0) 6) (hlt : l.stackTraces = false) {p : Program} {e : Env} {s : State} {m : MethodId} {below : List Frame} {meth : Method} {c : Code} {L : Nat} {xs : Nat → Int32} {i : Int32} {Q9 : State → Prop} (hx : p.tables.exec = Jvm.exec) (hb : c.code = cL_law) (hml : c.maxLocals = 9) (hown : s.vm.findClass RL = some m.cls) (hg : ∀ w ∈ GW, w.before #[Value.ref b] s = true) (hK : va_K κ.1 vwCl (kTy κ) s) (hX : XY κ (tA σ0 s.heap.size) s s.heap) (hXs : va_X b L xs s s.heap) (hbl : b < s.heap.size) (hbA : ¬ tA σ0 s.heap.size b) (zx : zroomX κ s room_1 601024 7293034) (hi0 : 0 ≤ i.toInt) (hi1 : i.toInt + 6 ≤ L) (hL9 : L ≤ 3072) {σ : Gh} {H : Heap} {locs : List Loc} {ls : Array Slot} (hT : TS κ fA σ0 σ s H locs) (hR : RI κ σ mm) (hlen : (zI σ (kR κ x 0) 1).toInt = (zI σ mm 13).toInt) (hl : lv_has ls 9 [(4, .int i), (3, .ref out), (2, .ref mm), (1, .ref x), (0, .ref b)]) (KK : ∀ (σ1 : Gh) (H : Heap) (locs : List Loc) (ls : Array Slot), TS (kX κ) fA σ0 σ1 s H locs → RI (kX κ) σ1 mm → (zI σ1 (kR κ x 0) 1).toInt = (zI σ1 mm 13).toInt → lv_has ls 9 [(4, .int i), (3, .ref out), (2, .ref mm), (1, .ref x), (0, .ref b)] → W p l e room_1 s m #[Value.ref b] below meth c H locs 601024 7293034 Q9 (F0 m 1432 ls [])) : W p l e room_1 s m #[Value.ref b] below meth c H locs 601024 7293034 Q9 (F0 m 678 ls []) := by
  obtain ⟨y1, hy1⟩ : ∃ z, z = xs (ix i + 1) := ⟨_, rfl⟩
  obtain ⟨y2, hy2⟩ : ∃ z, z = xs (ix i + 2) := ⟨_, rfl⟩
  obtain ⟨y3, hy3⟩ : ∃ z, z = xs (ix i + 3) := ⟨_, rfl⟩
  obtain ⟨y4, hy4⟩ : ∃ z, z = xs (ix i + 4) := ⟨_, rfl⟩
  obtain ⟨y5, hy5⟩ : ∃ z, z = xs (ix i + 5) := ⟨_, rfl⟩
  have n0 : (0 : Int32).toInt = 0 := by decide
  have n1 : (1 : Int32).toInt = 1 := by decide
  have n2 : (2 : Int32).toInt = 2 := by decide
  have n3 : (3 : Int32).toInt = 3 := by decide
  have n4 : (4 : Int32).toInt = 4 := by decide
  have n5 : (5 : Int32).toInt = 5 := by decide
  obtain ⟨tx, etx⟩ : ∃ z, kR κ x 0 = z := ⟨_, rfl⟩
  rw [etx] at hlen
  have ttx : zk σ0 tx 6 := by rw [← etx]; exact ttx0
  refine lv_aload_n hx hb dL_law_678 rfl (lv_at hl 3 rfl) ?_
  refine lv_aload_n hx hb dL_law_679 rfl (lv_at hl 4 rfl) ?_
  refine lv_iload hx hb dL_law_680 (lv_at hl 0 rfl) ?_
  refine lv_iconst (v := 1) hx hb dL_law_682 (by decide) ?_
  refine lv_iadd hx hb dL_law_683 ?_
  refine g_add (by omega) (by omega) (fun t1 ht1 => ?_)
  refine va_sld hx hb hXs hbl hbA hT.2.2.2 (g_in (by omega) (by omega)) dL_law_684 ?_
  refine ti y1 (by rw [hy1]; exact congrArg xs (show t1.toNatClampNeg = ix i + 1 from by show t1.toInt.toNat = ix i + 1; unfold ix; omega)) ?_
  refine lv_aload_n hx hb dL_law_685 rfl (lv_at hl 1 rfl) ?_
  have hTo := hT
  refine tHi (n := 3) (As := [.ref x, .int y1, .ref out]) (rest := []) hx hb hml hown hg hT hK hX (L_largest l κ σ x y1 out (hT.k t_x (by decide)) (hT.k t_out (by decide)) hlt) sub_hfE_fA (mwHS k927 k928 k83 k929) ⟨by decide, by decide, by decide +kernel⟩ ⟨(Nat.le_of_ble_eq_true rfl), (Nat.le_of_ble_eq_true rfl)⟩ rfl hl.1 rfl (Nat.le_of_ble_eq_true rfl) dL_law_686 zx (fun r3 s2 H locs hφ hE hT => ?_)
  have R4 := hR.ext hE ⟨rfl, rfl, fun _ => rfl, fun _ => rfl, fun _ => rfl, fun _ => rfl⟩
  have a5 : (zI s2 tx 1).toInt = (zI σ tx 1).toInt := by rw [(hTo.k ttx (by decide)).eI hE (by decide) rfl]
  have a6 : (zI s2 mm 13).toInt = (zI σ mm 13).toInt := by rw [(hTo.k t_mm (by decide)).eI hE (by decide) rfl]
  refine lv_istore (lv' := [(5, .int r3), (4, .int i), (3, .ref out), (2, .ref mm), (1, .ref x), (0, .ref b)]) hx hb dL_law_689 hl (by decide) rfl (fun ls hl => ?_)
  refine lv_aload_n hx hb dL_law_691 rfl (lv_at hl 3 rfl) ?_
  refine lv_aload_n hx hb dL_law_692 rfl (lv_at hl 5 rfl) ?_
  refine lv_iload hx hb dL_law_693 (lv_at hl 1 rfl) ?_
  refine lv_iconst (v := 1) hx hb dL_law_695 (by decide) ?_
  refine lv_iadd hx hb dL_law_696 ?_
  refine g_add (by omega) (by omega) (fun t7 ht7 => ?_)
  refine va_sld hx hb hXs hbl hbA hT.2.2.2 (g_in (by omega) (by omega)) dL_law_697 ?_
  refine ti y1 (by rw [hy1]; exact congrArg xs (show t7.toNatClampNeg = ix i + 1 from by show t7.toInt.toNat = ix i + 1; unfold ix; omega)) ?_
  have hTo := hT
  refine tVi (n := 1) (As := [.int y1]) (rest := []) hx hb hml hown hg hT hK hX (X6_largest l (kX κ) s2 mm y1 (hT.k t_mm (by decide)) R4) sub_gR_fA (mwV k1511 k1512 k1513 k92 k1514) ⟨rfl, by decide, by decide, by decide +kernel⟩ ⟨(Nat.le_of_ble_eq_true rfl), (Nat.le_of_ble_eq_true rfl)⟩ (hT.o20 (hT.k t_mm (by decide))) rfl rfl hl.1 rfl (Nat.le_of_ble_eq_true rfl) dL_law_698 zx (fun r9 s8 H locs hφ hE hT => ?_)
  have R10 := R4.ext hE ⟨rfl, rfl, fun _ => rfl, fun _ => rfl, fun _ => rfl, fun _ => rfl⟩
  have a11 : (zI s8 tx 1).toInt = (zI s2 tx 1).toInt := by rw [(hTo.k ttx (by decide)).eI hE (by decide) rfl]
  have a12 : (zI s8 mm 13).toInt = (zI s2 mm 13).toInt := by rw [(hTo.k t_mm (by decide)).eI hE (by decide) rfl]
  refine lv_istore (lv' := [(6, .int r9), (5, .int r3), (4, .int i), (3, .ref out), (2, .ref mm), (1, .ref x), (0, .ref b)]) hx hb dL_law_701 hl (by decide) rfl (fun ls hl => ?_)
  refine lv_goto (tgt := 1432) hx hb dL_law_703 (by decide) ?_
  exact KK s8 _ _ _ hT R10 (by rw [etx]; omega) (lv_sub hl [2, 3, 4, 5, 6] rfl)
set_option maxHeartbeats 4000000 in
set_option maxRecDepth 100000 in
theorem lc_18 (l : Launch) (κ : Kt) (σ0 : Gh) (x mm out b : Nat) (t_x : zk σ0 x 7) (t_mm : zk σ0 mm 20) (t_out : zk σ0 out 24) (ttx0 : zk σ0 (kR κ x 0) 6) (hlt : l.stackTraces = false) {p : Program} {e : Env} {s : State} {m : MethodId} {below : List Frame} {meth : Method} {c : Code} {L : Nat} {xs : Nat → Int32} {i : Int32} {Q9 : State → Prop} (hx : p.tables.exec = Jvm.exec) (hb : c.code = cL_law) (hml : c.maxLocals = 9) (hown : s.vm.findClass RL = some m.cls) (hg : ∀ w ∈ GW, w.before #[Value.ref b] s = true) (hK : va_K κ.1 vwCl (kTy κ) s) (hX : XY κ (tA σ0 s.heap.size) s s.heap) (hXs : va_X b L xs s s.heap) (hbl : b < s.heap.size) (hbA : ¬ tA σ0 s.heap.size b) (zx : zroomX κ s room_1 601024 7293034) (hi0 : 0 ≤ i.toInt) (hi1 : i.toInt + 6 ≤ L) (hL9 : L ≤ 3072) {σ : Gh} {H : Heap} {locs : List Loc} {ls : Array Slot} (hT : TS κ fA σ0 σ s H locs) (hR : RI κ σ mm) (hlen : (zI σ (kR κ x 0) 1).toInt = (zI σ mm 13).toInt) (hl : lv_has ls 9 [(4, .int i), (3, .ref out), (2, .ref mm), (1, .ref x), (0, .ref b)]) (KK : ∀ (σ1 : Gh) (H : Heap) (locs : List Loc) (ls : Array Slot), TS (kX κ) fA σ0 σ1 s H locs → RI (kX κ) σ1 mm → (zI σ1 (kR κ x 0) 1).toInt = (zI σ1 mm 13).toInt → lv_has ls 9 [(4, .int i), (3, .ref out), (2, .ref mm), (1, .ref x), (0, .ref b)] → W p l e room_1 s m #[Value.ref b] below meth c H locs 601024 7293034 Q9 (F0 m 1432 ls [])) : W p l e room_1 s m #[Value.ref b] below meth c H locs 601024 7293034 Q9 (F0 m 706 ls []) := by
  obtain ⟨y1, hy1⟩ : ∃ z, z = xs (ix i + 1) := ⟨_, rfl⟩
  obtain ⟨y2, hy2⟩ : ∃ z, z = xs (ix i + 2) := ⟨_, rfl⟩
  obtain ⟨y3, hy3⟩ : ∃ z, z = xs (ix i + 3) := ⟨_, rfl⟩
  obtain ⟨y4, hy4⟩ : ∃ z, z = xs (ix i + 4) := ⟨_, rfl⟩
  obtain ⟨y5, hy5⟩ : ∃ z, z = xs (ix i + 5) := ⟨_, rfl⟩
  have n0 : (0 : Int32).toInt = 0 := by decide
  have n1 : (1 : Int32).toInt = 1 := by decide
  have n2 : (2 : Int32).toInt = 2 := by decide
  have n3 : (3 : Int32).toInt = 3 := by decide
  have n4 : (4 : Int32).toInt = 4 := by decide
  have n5 : (5 : Int32).toInt = 5 := by decide
  obtain ⟨tx, etx⟩ : ∃ z, kR κ x 0 = z := ⟨_, rfl⟩
  rw [etx] at hlen
  have ttx : zk σ0 tx 6 := by rw [← etx]; exact ttx0
  refine lv_aload_n hx hb dL_law_706 rfl (lv_at hl 3 rfl) ?_
  refine lv_aload_n hx hb dL_law_707 rfl (lv_at hl 1 rfl) ?_
  have hTo := hT
  refine tHi (n := 2) (As := [.ref x, .ref out]) (rest := []) hx hb hml hown hg hT hK hX (L_next l κ σ x out (hT.k t_x (by decide)) (hT.k t_out (by decide)) hlt) sub_hfW_fA (mwHS k942 k943 k83 k944) ⟨by decide, by decide, by decide +kernel⟩ ⟨(Nat.le_of_ble_eq_true rfl), (Nat.le_of_ble_eq_true rfl)⟩ rfl hl.1 rfl (Nat.le_of_ble_eq_true rfl) dL_law_708 zx (fun r2 s1 H locs hφ hE hT => ?_)
  have R3 := hR.ext hE ⟨rfl, rfl, fun _ => rfl, fun _ => rfl, fun _ => rfl, fun _ => rfl⟩
  have a4 : (zI s1 tx 1).toInt = (zI σ tx 1).toInt := by rw [(hTo.k ttx (by decide)).eI hE (by decide) rfl]
  have a5 : (zI s1 mm 13).toInt = (zI σ mm 13).toInt := by rw [(hTo.k t_mm (by decide)).eI hE (by decide) rfl]
  refine lv_istore (lv' := [(5, .int r2), (4, .int i), (3, .ref out), (2, .ref mm), (1, .ref x), (0, .ref b)]) hx hb dL_law_711 hl (by decide) rfl (fun ls hl => ?_)
  refine lv_aload_n hx hb dL_law_713 rfl (lv_at hl 3 rfl) ?_
  have hTo := hT
  refine tVi (n := 0) (As := []) (rest := []) hx hb hml hown hg hT hK hX (X6_next l (kX κ) s1 mm (hT.k t_mm (by decide)) R3) sub_gR_fA (mwV k1519 k1520 k1521 k92 k1522) ⟨rfl, by decide, by decide, by decide +kernel⟩ ⟨(Nat.le_of_ble_eq_true rfl), (Nat.le_of_ble_eq_true rfl)⟩ (hT.o20 (hT.k t_mm (by decide))) rfl rfl hl.1 rfl (Nat.le_of_ble_eq_true rfl) dL_law_714 zx (fun r7 s6 H locs hφ hE hT => ?_)
  have R8 := R3.ext hE ⟨rfl, rfl, fun _ => rfl, fun _ => rfl, fun _ => rfl, fun _ => rfl⟩
  have a9 : (zI s6 tx 1).toInt = (zI s1 tx 1).toInt := by rw [(hTo.k ttx (by decide)).eI hE (by decide) rfl]
  have a10 : (zI s6 mm 13).toInt = (zI s1 mm 13).toInt := by rw [(hTo.k t_mm (by decide)).eI hE (by decide) rfl]
  refine lv_istore (lv' := [(6, .int r7), (5, .int r2), (4, .int i), (3, .ref out), (2, .ref mm), (1, .ref x), (0, .ref b)]) hx hb dL_law_717 hl (by decide) rfl (fun ls hl => ?_)
  refine lv_goto (tgt := 1432) hx hb dL_law_719 (by decide) ?_
  exact KK s6 _ _ _ hT R8 (by rw [etx]; omega) (lv_sub hl [2, 3, 4, 5, 6] rfl)
set_option maxHeartbeats 4000000 in
set_option maxRecDepth 100000 in
theorem lc_19 (l : Launch) (κ : Kt) (σ0 : Gh) (x mm out b : Nat) (t_x : zk σ0 x 7) (t_mm : zk σ0 mm 20) (t_out : zk σ0 out 24) (ttx0 : zk σ0 (kR κ x 0) 6) (hlt : l.stackTraces = false) {p : Program} {e : Env} {s : State} {m : MethodId} {below : List Frame} {meth : Method} {c : Code} {L : Nat} {xs : Nat → Int32} {i : Int32} {Q9 : State → Prop} (hx : p.tables.exec = Jvm.exec) (hb : c.code = cL_law) (hml : c.maxLocals = 9) (hown : s.vm.findClass RL = some m.cls) (hg : ∀ w ∈ GW, w.before #[Value.ref b] s = true) (hK : va_K κ.1 vwCl (kTy κ) s) (hX : XY κ (tA σ0 s.heap.size) s s.heap) (hXs : va_X b L xs s s.heap) (hbl : b < s.heap.size) (hbA : ¬ tA σ0 s.heap.size b) (zx : zroomX κ s room_1 601024 7293034) (hi0 : 0 ≤ i.toInt) (hi1 : i.toInt + 6 ≤ L) (hL9 : L ≤ 3072) {σ : Gh} {H : Heap} {locs : List Loc} {ls : Array Slot} (hT : TS κ fA σ0 σ s H locs) (hR : RI κ σ mm) (hlen : (zI σ (kR κ x 0) 1).toInt = (zI σ mm 13).toInt) (hl : lv_has ls 9 [(4, .int i), (3, .ref out), (2, .ref mm), (1, .ref x), (0, .ref b)]) (KK : ∀ (σ1 : Gh) (H : Heap) (locs : List Loc) (ls : Array Slot), TS (kX κ) fA σ0 σ1 s H locs → RI (kX κ) σ1 mm → (zI σ1 (kR κ x 0) 1).toInt = (zI σ1 mm 13).toInt → lv_has ls 9 [(4, .int i), (3, .ref out), (2, .ref mm), (1, .ref x), (0, .ref b)] → W p l e room_1 s m #[Value.ref b] below meth c H locs 601024 7293034 Q9 (F0 m 1432 ls [])) : W p l e room_1 s m #[Value.ref b] below meth c H locs 601024 7293034 Q9 (F0 m 722 ls []) := by
  obtain ⟨y1, hy1⟩ : ∃ z, z = xs (ix i + 1) := ⟨_, rfl⟩
  obtain ⟨y2, hy2⟩ : ∃ z, z = xs (ix i + 2) := ⟨_, rfl⟩
  obtain ⟨y3, hy3⟩ : ∃ z, z = xs (ix i + 3) := ⟨_, rfl⟩
  obtain ⟨y4, hy4⟩ : ∃ z, z = xs (ix i + 4) := ⟨_, rfl⟩
  obtain ⟨y5, hy5⟩ : ∃ z, z = xs (ix i + 5) := ⟨_, rfl⟩
  have n0 : (0 : Int32).toInt = 0 := by decide
  have n1 : (1 : Int32).toInt = 1 := by decide
  have n2 : (2 : Int32).toInt = 2 := by decide
  have n3 : (3 : Int32).toInt = 3 := by decide
  have n4 : (4 : Int32).toInt = 4 := by decide
  have n5 : (5 : Int32).toInt = 5 := by decide
  obtain ⟨tx, etx⟩ : ∃ z, kR κ x 0 = z := ⟨_, rfl⟩
  rw [etx] at hlen
  have ttx : zk σ0 tx 6 := by rw [← etx]; exact ttx0
  refine lv_aload_n hx hb dL_law_722 rfl (lv_at hl 3 rfl) ?_
  refine lv_aload_n hx hb dL_law_723 rfl (lv_at hl 4 rfl) ?_
  refine lv_iload hx hb dL_law_724 (lv_at hl 0 rfl) ?_
  refine lv_iconst (v := 1) hx hb dL_law_726 (by decide) ?_
  refine lv_iadd hx hb dL_law_727 ?_
  refine g_add (by omega) (by omega) (fun t1 ht1 => ?_)
  refine va_sld hx hb hXs hbl hbA hT.2.2.2 (g_in (by omega) (by omega)) dL_law_728 ?_
  refine ti y1 (by rw [hy1]; exact congrArg xs (show t1.toNatClampNeg = ix i + 1 from by show t1.toInt.toNat = ix i + 1; unfold ix; omega)) ?_
  refine lv_aload_n hx hb dL_law_729 rfl (lv_at hl 1 rfl) ?_
  have hTo := hT
  refine tHi (n := 3) (As := [.ref x, .int y1, .ref out]) (rest := []) hx hb hml hown hg hT hK hX (L_setSplit l κ σ x y1 out (hT.k t_x (by decide)) (hT.k t_out (by decide)) hlt) sub_hfSet_fA (mwHS k967 k968 k83 k969) ⟨by decide, by decide, by decide +kernel⟩ ⟨(Nat.le_of_ble_eq_true rfl), (Nat.le_of_ble_eq_true rfl)⟩ rfl hl.1 rfl (Nat.le_of_ble_eq_true rfl) dL_law_730 zx (fun r3 s2 H locs hφ hE hT => ?_)
  have R4 := hR.ext hE ⟨rfl, rfl, fun _ => rfl, fun _ => rfl, fun _ => rfl, fun _ => rfl⟩
  have a5 : (zI s2 tx 1).toInt = (zI σ tx 1).toInt := by rw [(hTo.k ttx (by decide)).eI hE (by decide) rfl]
  have a6 : (zI s2 mm 13).toInt = (zI σ mm 13).toInt := by rw [(hTo.k t_mm (by decide)).eI hE (by decide) rfl]
  refine lv_istore (lv' := [(5, .int r3), (4, .int i), (3, .ref out), (2, .ref mm), (1, .ref x), (0, .ref b)]) hx hb dL_law_733 hl (by decide) rfl (fun ls hl => ?_)
  refine lv_aload_n hx hb dL_law_735 rfl (lv_at hl 3 rfl) ?_
  refine lv_aload_n hx hb dL_law_736 rfl (lv_at hl 5 rfl) ?_
  refine lv_iload hx hb dL_law_737 (lv_at hl 1 rfl) ?_
  refine lv_iconst (v := 1) hx hb dL_law_739 (by decide) ?_
  refine lv_iadd hx hb dL_law_740 ?_
  refine g_add (by omega) (by omega) (fun t7 ht7 => ?_)
  refine va_sld hx hb hXs hbl hbA hT.2.2.2 (g_in (by omega) (by omega)) dL_law_741 ?_
  refine ti y1 (by rw [hy1]; exact congrArg xs (show t7.toNatClampNeg = ix i + 1 from by show t7.toInt.toNat = ix i + 1; unfold ix; omega)) ?_
  have hTo := hT
  refine tVi (n := 1) (As := [.int y1]) (rest := []) hx hb hml hown hg hT hK hX (X6_setSplit l (kX κ) s2 mm y1 (hT.k t_mm (by decide)) R4 (by omega) (by omega)) sub_gXs_fA (mwV k1547 k1548 k1549 k92 k1550) ⟨rfl, by decide, by decide, by decide +kernel⟩ ⟨(Nat.le_of_ble_eq_true rfl), (Nat.le_of_ble_eq_true rfl)⟩ (hT.o20 (hT.k t_mm (by decide))) rfl rfl hl.1 rfl (Nat.le_of_ble_eq_true rfl) dL_law_742 zx (fun r9 s8 H locs hφ hE hT => ?_)
  obtain ⟨f10, f11, f12, f13⟩ := hφ
  rw [etx] at f11
  rw [etx] at f12
  rw [etx] at f13
  have a14 : (zI s8 tx 1).toInt = (zI s2 tx 1).toInt := by rw [(hTo.k ttx (by decide)).eI hE (by decide) rfl]
  have a15 : (zI s8 mm 13).toInt = (zI s2 mm 13).toInt := by rw [(hTo.k t_mm (by decide)).eI hE (by decide) rfl]
  refine lv_istore (lv' := [(6, .int r9), (5, .int r3), (4, .int i), (3, .ref out), (2, .ref mm), (1, .ref x), (0, .ref b)]) hx hb dL_law_745 hl (by decide) rfl (fun ls hl => ?_)
  refine lv_aload_n hx hb dL_law_747 rfl (lv_at hl 4 rfl) ?_
  have hTo := hT
  refine tVi (n := 0) (As := []) (rest := []) hx hb hml hown hg hT hK hX (X6_thrown l (kX κ) s8 mm (hT.k t_mm (by decide)) f10) sub_fE_fA (mwV k1301 k1302 k1303 k92 k1304) ⟨rfl, by decide, by decide, by decide +kernel⟩ ⟨(Nat.le_of_ble_eq_true rfl), (Nat.le_of_ble_eq_true rfl)⟩ (hT.o20 (hT.k t_mm (by decide))) rfl rfl hl.1 rfl (Nat.le_of_ble_eq_true rfl) dL_law_748 zx (fun r17 s16 H locs hφ hE hT => ?_)
  have f18 := hφ
  have R19 := f10.ext hE ⟨rfl, rfl, fun _ => rfl, fun _ => rfl, fun _ => rfl, fun _ => rfl⟩
  have a20 : (zI s16 tx 1).toInt = (zI s8 tx 1).toInt := by rw [(hTo.k ttx (by decide)).eI hE (by decide) rfl]
  have a21 : (zI s16 mm 13).toInt = (zI s8 mm 13).toInt := by rw [(hTo.k t_mm (by decide)).eI hE (by decide) rfl]
  refine lv_iload hx hb dL_law_751 (lv_at hl 1 rfl) ?_
  refine lv_icmp_eq (tgt := 758) hx hb dL_law_753 (by decide) (fun c9 => ?_) (fun c9 => ?_)
  · have c8 := gi_eq c9
    refine lv_iload hx hb dL_law_758 (lv_at hl 1 rfl) ?_
    refine lv_if_ne (tgt := 775) hx hb dL_law_760 (by decide) (fun c9 => ?_) (fun c9 => ?_)
    · have c7 := gi_ne c9
      refine lv_goto (tgt := 1432) hx hb dL_law_775 (by decide) ?_
      exact KK s16 _ _ _ hT R19 (by rw [etx]; omega) (lv_sub hl [2, 3, 4, 5, 6] rfl)
    · have c7 := gi_eq c9
      refine lv_aload_n hx hb dL_law_763 rfl (lv_at hl 3 rfl) ?_
      refine lv_iconst (v := 0) hx hb dL_law_764 (by decide) ?_
      refine va_lald hx hb hK (hT.o24 (hT.k t_out (by decide))).one 0 1 rfl rfl (g_in (by omega) (by omega)) dL_law_765 ?_
      refine lv_topl (fun t22 ht22 => ?_)
      have gt22 : t22.toInt = (zJ s16 out 0).toInt := by rw [ht22]; rfl
      refine lv_iload hx hb dL_law_766 (lv_at hl 0 rfl) ?_
      refine lv_i2l hx hb dL_law_768 rfl ?_
      refine g_i2l (fun t23 ht23 => ?_)
      refine W.lcmp hx hb dL_law_769 ?_
      refine lv_if_eq (tgt := 775) hx hb dL_law_770 (by decide) (fun c9 => ?_) (fun c9 => ?_)
      · have c7 := gl_eq c9
        refine lv_goto (tgt := 1432) hx hb dL_law_775 (by decide) ?_
        exact KK s16 _ _ _ hT R19 (by rw [etx]; omega) (lv_sub hl [2, 3, 4, 5, 6] rfl)
      · exfalso; have c8 := gl_ne c9; omega
  · exfalso; have c8 := gi_ne c9; omega
set_option maxHeartbeats 4000000 in
set_option maxRecDepth 100000 in
theorem lc_20 (l : Launch) (κ : Kt) (σ0 : Gh) (x mm out b : Nat) (t_x : zk σ0 x 7) (t_mm : zk σ0 mm 20) (t_out : zk σ0 out 24) (ttx0 : zk σ0 (kR κ x 0) 6) (hlt : l.stackTraces = false) {p : Program} {e : Env} {s : State} {m : MethodId} {below : List Frame} {meth : Method} {c : Code} {L : Nat} {xs : Nat → Int32} {i : Int32} {Q9 : State → Prop} (hx : p.tables.exec = Jvm.exec) (hb : c.code = cL_law) (hml : c.maxLocals = 9) (hown : s.vm.findClass RL = some m.cls) (hg : ∀ w ∈ GW, w.before #[Value.ref b] s = true) (hK : va_K κ.1 vwCl (kTy κ) s) (hX : XY κ (tA σ0 s.heap.size) s s.heap) (hXs : va_X b L xs s s.heap) (hbl : b < s.heap.size) (hbA : ¬ tA σ0 s.heap.size b) (zx : zroomX κ s room_1 601024 7293034) (hi0 : 0 ≤ i.toInt) (hi1 : i.toInt + 6 ≤ L) (hL9 : L ≤ 3072) {σ : Gh} {H : Heap} {locs : List Loc} {ls : Array Slot} (hT : TS κ fA σ0 σ s H locs) (hR : RI κ σ mm) (hlen : (zI σ (kR κ x 0) 1).toInt = (zI σ mm 13).toInt) (hl : lv_has ls 9 [(4, .int i), (3, .ref out), (2, .ref mm), (1, .ref x), (0, .ref b)]) (KK : ∀ (σ1 : Gh) (H : Heap) (locs : List Loc) (ls : Array Slot), TS (kX κ) fA σ0 σ1 s H locs → RI (kX κ) σ1 mm → (zI σ1 (kR κ x 0) 1).toInt = (zI σ1 mm 13).toInt → lv_has ls 9 [(4, .int i), (3, .ref out), (2, .ref mm), (1, .ref x), (0, .ref b)] → W p l e room_1 s m #[Value.ref b] below meth c H locs 601024 7293034 Q9 (F0 m 1432 ls [])) : W p l e room_1 s m #[Value.ref b] below meth c H locs 601024 7293034 Q9 (F0 m 778 ls []) := by
  obtain ⟨y1, hy1⟩ : ∃ z, z = xs (ix i + 1) := ⟨_, rfl⟩
  obtain ⟨y2, hy2⟩ : ∃ z, z = xs (ix i + 2) := ⟨_, rfl⟩
  obtain ⟨y3, hy3⟩ : ∃ z, z = xs (ix i + 3) := ⟨_, rfl⟩
  obtain ⟨y4, hy4⟩ : ∃ z, z = xs (ix i + 4) := ⟨_, rfl⟩
  obtain ⟨y5, hy5⟩ : ∃ z, z = xs (ix i + 5) := ⟨_, rfl⟩
  have n0 : (0 : Int32).toInt = 0 := by decide
  have n1 : (1 : Int32).toInt = 1 := by decide
  have n2 : (2 : Int32).toInt = 2 := by decide
  have n3 : (3 : Int32).toInt = 3 := by decide
  have n4 : (4 : Int32).toInt = 4 := by decide
  have n5 : (5 : Int32).toInt = 5 := by decide
  obtain ⟨tx, etx⟩ : ∃ z, kR κ x 0 = z := ⟨_, rfl⟩
  rw [etx] at hlen
  have ttx : zk σ0 tx 6 := by rw [← etx]; exact ttx0
  refine lv_aload_n hx hb dL_law_778 rfl (lv_at hl 3 rfl) ?_
  refine lv_aload_n hx hb dL_law_779 rfl (lv_at hl 4 rfl) ?_
  refine lv_iload hx hb dL_law_780 (lv_at hl 0 rfl) ?_
  refine lv_iconst (v := 1) hx hb dL_law_782 (by decide) ?_
  refine lv_iadd hx hb dL_law_783 ?_
  refine g_add (by omega) (by omega) (fun t1 ht1 => ?_)
  refine va_sld hx hb hXs hbl hbA hT.2.2.2 (g_in (by omega) (by omega)) dL_law_784 ?_
  refine ti y1 (by rw [hy1]; exact congrArg xs (show t1.toNatClampNeg = ix i + 1 from by show t1.toInt.toNat = ix i + 1; unfold ix; omega)) ?_
  refine lv_aload_n hx hb dL_law_785 rfl (lv_at hl 1 rfl) ?_
  have hTo := hT
  refine tHi (n := 3) (As := [.ref x, .int y1, .ref out]) (rest := []) hx hb hml hown hg hT hK hX (L_setPredict l κ σ x y1 out (hT.k t_x (by decide)) (hT.k t_out (by decide)) hlt) sub_hfSet_fA (mwHS k974 k975 k83 k976) ⟨by decide, by decide, by decide +kernel⟩ ⟨(Nat.le_of_ble_eq_true rfl), (Nat.le_of_ble_eq_true rfl)⟩ rfl hl.1 rfl (Nat.le_of_ble_eq_true rfl) dL_law_786 zx (fun r3 s2 H locs hφ hE hT => ?_)
  have R4 := hR.ext hE ⟨rfl, rfl, fun _ => rfl, fun _ => rfl, fun _ => rfl, fun _ => rfl⟩
  have a5 : (zI s2 tx 1).toInt = (zI σ tx 1).toInt := by rw [(hTo.k ttx (by decide)).eI hE (by decide) rfl]
  have a6 : (zI s2 mm 13).toInt = (zI σ mm 13).toInt := by rw [(hTo.k t_mm (by decide)).eI hE (by decide) rfl]
  refine lv_istore (lv' := [(5, .int r3), (4, .int i), (3, .ref out), (2, .ref mm), (1, .ref x), (0, .ref b)]) hx hb dL_law_789 hl (by decide) rfl (fun ls hl => ?_)
  refine lv_aload_n hx hb dL_law_791 rfl (lv_at hl 3 rfl) ?_
  refine lv_aload_n hx hb dL_law_792 rfl (lv_at hl 5 rfl) ?_
  refine lv_iload hx hb dL_law_793 (lv_at hl 1 rfl) ?_
  refine lv_iconst (v := 1) hx hb dL_law_795 (by decide) ?_
  refine lv_iadd hx hb dL_law_796 ?_
  refine g_add (by omega) (by omega) (fun t7 ht7 => ?_)
  refine va_sld hx hb hXs hbl hbA hT.2.2.2 (g_in (by omega) (by omega)) dL_law_797 ?_
  refine ti y1 (by rw [hy1]; exact congrArg xs (show t7.toNatClampNeg = ix i + 1 from by show t7.toInt.toNat = ix i + 1; unfold ix; omega)) ?_
  have hTo := hT
  refine tVi (n := 1) (As := [.int y1]) (rest := []) hx hb hml hown hg hT hK hX (X6_setPredict l (kX κ) s2 mm y1 (hT.k t_mm (by decide)) R4 (by omega) (by omega)) sub_gXs_fA (mwV k1555 k1556 k1557 k92 k1558) ⟨rfl, by decide, by decide, by decide +kernel⟩ ⟨(Nat.le_of_ble_eq_true rfl), (Nat.le_of_ble_eq_true rfl)⟩ (hT.o20 (hT.k t_mm (by decide))) rfl rfl hl.1 rfl (Nat.le_of_ble_eq_true rfl) dL_law_798 zx (fun r9 s8 H locs hφ hE hT => ?_)
  obtain ⟨f10, f11, f12, f13⟩ := hφ
  rw [etx] at f11
  rw [etx] at f12
  rw [etx] at f13
  have a14 : (zI s8 tx 1).toInt = (zI s2 tx 1).toInt := by rw [(hTo.k ttx (by decide)).eI hE (by decide) rfl]
  have a15 : (zI s8 mm 13).toInt = (zI s2 mm 13).toInt := by rw [(hTo.k t_mm (by decide)).eI hE (by decide) rfl]
  refine lv_istore (lv' := [(6, .int r9), (5, .int r3), (4, .int i), (3, .ref out), (2, .ref mm), (1, .ref x), (0, .ref b)]) hx hb dL_law_801 hl (by decide) rfl (fun ls hl => ?_)
  refine lv_goto (tgt := 1432) hx hb dL_law_803 (by decide) ?_
  exact KK s8 _ _ _ hT f10 (by rw [etx]; omega) (lv_sub hl [2, 3, 4, 5, 6] rfl)
set_option maxHeartbeats 4000000 in
set_option maxRecDepth 100000 in
theorem lc_21 (l : Launch) (κ : Kt) (σ0 : Gh) (x mm out b : Nat) (t_x : zk σ0 x 7) (t_mm : zk σ0 mm 20) (t_out : zk σ0 out 24) (ttx0 : zk σ0 (kR κ x 0) 6) (hlt : l.stackTraces = false) {p : Program} {e : Env} {s : State} {m : MethodId} {below : List Frame} {meth : Method} {c : Code} {L : Nat} {xs : Nat → Int32} {i : Int32} {Q9 : State → Prop} (hx : p.tables.exec = Jvm.exec) (hb : c.code = cL_law) (hml : c.maxLocals = 9) (hown : s.vm.findClass RL = some m.cls) (hg : ∀ w ∈ GW, w.before #[Value.ref b] s = true) (hK : va_K κ.1 vwCl (kTy κ) s) (hX : XY κ (tA σ0 s.heap.size) s s.heap) (hXs : va_X b L xs s s.heap) (hbl : b < s.heap.size) (hbA : ¬ tA σ0 s.heap.size b) (zx : zroomX κ s room_1 601024 7293034) (hi0 : 0 ≤ i.toInt) (hi1 : i.toInt + 6 ≤ L) (hL9 : L ≤ 3072) {σ : Gh} {H : Heap} {locs : List Loc} {ls : Array Slot} (hT : TS κ fA σ0 σ s H locs) (hR : RI κ σ mm) (hlen : (zI σ (kR κ x 0) 1).toInt = (zI σ mm 13).toInt) (hl : lv_has ls 9 [(4, .int i), (3, .ref out), (2, .ref mm), (1, .ref x), (0, .ref b)]) (KK : ∀ (σ1 : Gh) (H : Heap) (locs : List Loc) (ls : Array Slot), TS (kX κ) fA σ0 σ1 s H locs → RI (kX κ) σ1 mm → (zI σ1 (kR κ x 0) 1).toInt = (zI σ1 mm 13).toInt → lv_has ls 9 [(4, .int i), (3, .ref out), (2, .ref mm), (1, .ref x), (0, .ref b)] → W p l e room_1 s m #[Value.ref b] below meth c H locs 601024 7293034 Q9 (F0 m 1432 ls [])) : W p l e room_1 s m #[Value.ref b] below meth c H locs 601024 7293034 Q9 (F0 m 806 ls []) := by
  obtain ⟨y1, hy1⟩ : ∃ z, z = xs (ix i + 1) := ⟨_, rfl⟩
  obtain ⟨y2, hy2⟩ : ∃ z, z = xs (ix i + 2) := ⟨_, rfl⟩
  obtain ⟨y3, hy3⟩ : ∃ z, z = xs (ix i + 3) := ⟨_, rfl⟩
  obtain ⟨y4, hy4⟩ : ∃ z, z = xs (ix i + 4) := ⟨_, rfl⟩
  obtain ⟨y5, hy5⟩ : ∃ z, z = xs (ix i + 5) := ⟨_, rfl⟩
  have n0 : (0 : Int32).toInt = 0 := by decide
  have n1 : (1 : Int32).toInt = 1 := by decide
  have n2 : (2 : Int32).toInt = 2 := by decide
  have n3 : (3 : Int32).toInt = 3 := by decide
  have n4 : (4 : Int32).toInt = 4 := by decide
  have n5 : (5 : Int32).toInt = 5 := by decide
  obtain ⟨tx, etx⟩ : ∃ z, kR κ x 0 = z := ⟨_, rfl⟩
  rw [etx] at hlen
  have ttx : zk σ0 tx 6 := by rw [← etx]; exact ttx0
  refine lv_aload_n hx hb dL_law_806 rfl (lv_at hl 3 rfl) ?_
  refine lv_aload_n hx hb dL_law_807 rfl (lv_at hl 4 rfl) ?_
  refine lv_iload hx hb dL_law_808 (lv_at hl 0 rfl) ?_
  refine lv_iconst (v := 1) hx hb dL_law_810 (by decide) ?_
  refine lv_iadd hx hb dL_law_811 ?_
  refine g_add (by omega) (by omega) (fun t1 ht1 => ?_)
  refine va_sld hx hb hXs hbl hbA hT.2.2.2 (g_in (by omega) (by omega)) dL_law_812 ?_
  refine ti y1 (by rw [hy1]; exact congrArg xs (show t1.toNatClampNeg = ix i + 1 from by show t1.toInt.toNat = ix i + 1; unfold ix; omega)) ?_
  refine lv_if_eq (tgt := 820) hx hb dL_law_813 (by decide) (fun c9 => ?_) (fun c9 => ?_)
  · have c7 := gi_eq c9
    refine lv_iconst (v := 0) hx hb dL_law_820 (by decide) ?_
    have hTo := hT
    refine tVi (n := 1) (As := [.int 0]) (rest := []) hx hb hml hown hg hT hK hX (X5_setUpdate l κ σ x 0 (hT.k t_x (by decide)) isB0) sub_fSet_fA (mwV k510 k511 k512 k84 k513) ⟨rfl, by decide, by decide, by decide +kernel⟩ ⟨(Nat.le_of_ble_eq_true rfl), (Nat.le_of_ble_eq_true rfl)⟩ (hT.o7 (hT.k t_x (by decide))) rfl rfl hl.1 rfl (Nat.le_of_ble_eq_true rfl) dL_law_821 zx.dn (fun r3 s2 H locs hφ hE hT => ?_)
    have f4 := hφ
    have R5 := hR.ext hE ⟨rfl, rfl, fun _ => rfl, fun _ => rfl, fun _ => rfl, fun _ => rfl⟩
    have a6 : (zI s2 tx 1).toInt = (zI σ tx 1).toInt := by rw [(hTo.k ttx (by decide)).eI hE (by decide) rfl]
    have a7 : (zI s2 mm 13).toInt = (zI σ mm 13).toInt := by rw [(hTo.k t_mm (by decide)).eI hE (by decide) rfl]
    refine lv_pop hx hb dL_law_824 rfl ?_
    refine lv_aload_n hx hb dL_law_825 rfl (lv_at hl 2 rfl) ?_
    refine lv_aload_n hx hb dL_law_826 rfl (lv_at hl 4 rfl) ?_
    refine lv_iload hx hb dL_law_827 (lv_at hl 0 rfl) ?_
    refine lv_iconst (v := 1) hx hb dL_law_829 (by decide) ?_
    refine lv_iadd hx hb dL_law_830 ?_
    refine g_add (by omega) (by omega) (fun t8 ht8 => ?_)
    refine va_sld hx hb hXs hbl hbA hT.2.2.2 (g_in (by omega) (by omega)) dL_law_831 ?_
    refine ti y1 (by rw [hy1]; exact congrArg xs (show t8.toNatClampNeg = ix i + 1 from by show t8.toInt.toNat = ix i + 1; unfold ix; omega)) ?_
    refine lv_if_eq (tgt := 839) hx hb dL_law_832 (by decide) (fun c9 => ?_) (fun c9 => ?_)
    · have c7 := gi_eq c9
      refine lv_iconst (v := 0) hx hb dL_law_839 (by decide) ?_
      have hTo := hT
      refine tVi (n := 1) (As := [.int 0]) (rest := []) hx hb hml hown hg hT hK hX (X6_setUpdate l κ s2 mm 0 (hT.k t_mm (by decide)) isB0 R5 (by omega) (by omega)) sub_gXs_fA (mwV k1559 k1560 k1561 k92 k1562) ⟨rfl, by decide, by decide, by decide +kernel⟩ ⟨(Nat.le_of_ble_eq_true rfl), (Nat.le_of_ble_eq_true rfl)⟩ (hT.o20 (hT.k t_mm (by decide))) rfl rfl hl.1 rfl (Nat.le_of_ble_eq_true rfl) dL_law_840 zx.dn (fun r10 s9 H locs hφ hE hT => ?_)
      obtain ⟨f11, f12, f13, f14, f15, f16⟩ := hφ
      rw [etx] at f13
      rw [etx] at f14
      rw [etx] at f15
      have a17 : (zI s9 tx 1).toInt = (zI s2 tx 1).toInt := by rw [(hTo.k ttx (by decide)).eI hE (by decide) rfl]
      have a18 : (zI s9 mm 13).toInt = (zI s2 mm 13).toInt := by rw [(hTo.k t_mm (by decide)).eI hE (by decide) rfl]
      refine lv_pop hx hb dL_law_843 rfl ?_
      refine lv_goto (tgt := 1432) hx hb dL_law_844 (by decide) ?_
      exact KK s9 _ _ _ hT.up f11 (by rw [etx]; omega) (lv_sub hl [0, 1, 2, 3, 4] rfl)
    · have c7 := gi_ne c9
      refine lv_iconst (v := 1) hx hb dL_law_835 (by decide) ?_
      refine lv_goto (tgt := 840) hx hb dL_law_836 (by decide) ?_
      have hTo := hT
      refine tVi (n := 1) (As := [.int 1]) (rest := []) hx hb hml hown hg hT hK hX (X6_setUpdate l κ s2 mm 1 (hT.k t_mm (by decide)) isB1 R5 (by omega) (by omega)) sub_gXs_fA (mwV k1559 k1560 k1561 k92 k1562) ⟨rfl, by decide, by decide, by decide +kernel⟩ ⟨(Nat.le_of_ble_eq_true rfl), (Nat.le_of_ble_eq_true rfl)⟩ (hT.o20 (hT.k t_mm (by decide))) rfl rfl hl.1 rfl (Nat.le_of_ble_eq_true rfl) dL_law_840 zx.dn (fun r20 s19 H locs hφ hE hT => ?_)
      obtain ⟨f21, f22, f23, f24, f25, f26⟩ := hφ
      rw [etx] at f23
      rw [etx] at f24
      rw [etx] at f25
      have a27 : (zI s19 tx 1).toInt = (zI s2 tx 1).toInt := by rw [(hTo.k ttx (by decide)).eI hE (by decide) rfl]
      have a28 : (zI s19 mm 13).toInt = (zI s2 mm 13).toInt := by rw [(hTo.k t_mm (by decide)).eI hE (by decide) rfl]
      refine lv_pop hx hb dL_law_843 rfl ?_
      refine lv_goto (tgt := 1432) hx hb dL_law_844 (by decide) ?_
      exact KK s19 _ _ _ hT.up f21 (by rw [etx]; omega) (lv_sub hl [0, 1, 2, 3, 4] rfl)
  · have c7 := gi_ne c9
    refine lv_iconst (v := 1) hx hb dL_law_816 (by decide) ?_
    refine lv_goto (tgt := 821) hx hb dL_law_817 (by decide) ?_
    have hTo := hT
    refine tVi (n := 1) (As := [.int 1]) (rest := []) hx hb hml hown hg hT hK hX (X5_setUpdate l κ σ x 1 (hT.k t_x (by decide)) isB1) sub_fSet_fA (mwV k510 k511 k512 k84 k513) ⟨rfl, by decide, by decide, by decide +kernel⟩ ⟨(Nat.le_of_ble_eq_true rfl), (Nat.le_of_ble_eq_true rfl)⟩ (hT.o7 (hT.k t_x (by decide))) rfl rfl hl.1 rfl (Nat.le_of_ble_eq_true rfl) dL_law_821 zx.dn (fun r30 s29 H locs hφ hE hT => ?_)
    have f31 := hφ
    have R32 := hR.ext hE ⟨rfl, rfl, fun _ => rfl, fun _ => rfl, fun _ => rfl, fun _ => rfl⟩
    have a33 : (zI s29 tx 1).toInt = (zI σ tx 1).toInt := by rw [(hTo.k ttx (by decide)).eI hE (by decide) rfl]
    have a34 : (zI s29 mm 13).toInt = (zI σ mm 13).toInt := by rw [(hTo.k t_mm (by decide)).eI hE (by decide) rfl]
    refine lv_pop hx hb dL_law_824 rfl ?_
    refine lv_aload_n hx hb dL_law_825 rfl (lv_at hl 2 rfl) ?_
    refine lv_aload_n hx hb dL_law_826 rfl (lv_at hl 4 rfl) ?_
    refine lv_iload hx hb dL_law_827 (lv_at hl 0 rfl) ?_
    refine lv_iconst (v := 1) hx hb dL_law_829 (by decide) ?_
    refine lv_iadd hx hb dL_law_830 ?_
    refine g_add (by omega) (by omega) (fun t35 ht35 => ?_)
    refine va_sld hx hb hXs hbl hbA hT.2.2.2 (g_in (by omega) (by omega)) dL_law_831 ?_
    refine ti y1 (by rw [hy1]; exact congrArg xs (show t35.toNatClampNeg = ix i + 1 from by show t35.toInt.toNat = ix i + 1; unfold ix; omega)) ?_
    refine lv_if_eq (tgt := 839) hx hb dL_law_832 (by decide) (fun c9 => ?_) (fun c9 => ?_)
    · have c7 := gi_eq c9
      refine lv_iconst (v := 0) hx hb dL_law_839 (by decide) ?_
      have hTo := hT
      refine tVi (n := 1) (As := [.int 0]) (rest := []) hx hb hml hown hg hT hK hX (X6_setUpdate l κ s29 mm 0 (hT.k t_mm (by decide)) isB0 R32 (by omega) (by omega)) sub_gXs_fA (mwV k1559 k1560 k1561 k92 k1562) ⟨rfl, by decide, by decide, by decide +kernel⟩ ⟨(Nat.le_of_ble_eq_true rfl), (Nat.le_of_ble_eq_true rfl)⟩ (hT.o20 (hT.k t_mm (by decide))) rfl rfl hl.1 rfl (Nat.le_of_ble_eq_true rfl) dL_law_840 zx.dn (fun r37 s36 H locs hφ hE hT => ?_)
      obtain ⟨f38, f39, f40, f41, f42, f43⟩ := hφ
      rw [etx] at f40
      rw [etx] at f41
      rw [etx] at f42
      have a44 : (zI s36 tx 1).toInt = (zI s29 tx 1).toInt := by rw [(hTo.k ttx (by decide)).eI hE (by decide) rfl]
      have a45 : (zI s36 mm 13).toInt = (zI s29 mm 13).toInt := by rw [(hTo.k t_mm (by decide)).eI hE (by decide) rfl]
      refine lv_pop hx hb dL_law_843 rfl ?_
      refine lv_goto (tgt := 1432) hx hb dL_law_844 (by decide) ?_
      exact KK s36 _ _ _ hT.up f38 (by rw [etx]; omega) (lv_sub hl [0, 1, 2, 3, 4] rfl)
    · have c7 := gi_ne c9
      refine lv_iconst (v := 1) hx hb dL_law_835 (by decide) ?_
      refine lv_goto (tgt := 840) hx hb dL_law_836 (by decide) ?_
      have hTo := hT
      refine tVi (n := 1) (As := [.int 1]) (rest := []) hx hb hml hown hg hT hK hX (X6_setUpdate l κ s29 mm 1 (hT.k t_mm (by decide)) isB1 R32 (by omega) (by omega)) sub_gXs_fA (mwV k1559 k1560 k1561 k92 k1562) ⟨rfl, by decide, by decide, by decide +kernel⟩ ⟨(Nat.le_of_ble_eq_true rfl), (Nat.le_of_ble_eq_true rfl)⟩ (hT.o20 (hT.k t_mm (by decide))) rfl rfl hl.1 rfl (Nat.le_of_ble_eq_true rfl) dL_law_840 zx.dn (fun r47 s46 H locs hφ hE hT => ?_)
      obtain ⟨f48, f49, f50, f51, f52, f53⟩ := hφ
      rw [etx] at f50
      rw [etx] at f51
      rw [etx] at f52
      have a54 : (zI s46 tx 1).toInt = (zI s29 tx 1).toInt := by rw [(hTo.k ttx (by decide)).eI hE (by decide) rfl]
      have a55 : (zI s46 mm 13).toInt = (zI s29 mm 13).toInt := by rw [(hTo.k t_mm (by decide)).eI hE (by decide) rfl]
      refine lv_pop hx hb dL_law_843 rfl ?_
      refine lv_goto (tgt := 1432) hx hb dL_law_844 (by decide) ?_
      exact KK s46 _ _ _ hT.up f48 (by rw [etx]; omega) (lv_sub hl [0, 1, 2, 3, 4] rfl)
set_option maxHeartbeats 4000000 in
set_option maxRecDepth 100000 in
theorem lc_22 (l : Launch) (κ : Kt) (σ0 : Gh) (x mm out b : Nat) (t_x : zk σ0 x 7) (t_mm : zk σ0 mm 20) (t_out : zk σ0 out 24) (ttx0 : zk σ0 (kR κ x 0) 6) (hlt : l.stackTraces = false) {p : Program} {e : Env} {s : State} {m : MethodId} {below : List Frame} {meth : Method} {c : Code} {L : Nat} {xs : Nat → Int32} {i : Int32} {Q9 : State → Prop} (hx : p.tables.exec = Jvm.exec) (hb : c.code = cL_law) (hml : c.maxLocals = 9) (hown : s.vm.findClass RL = some m.cls) (hg : ∀ w ∈ GW, w.before #[Value.ref b] s = true) (hK : va_K κ.1 vwCl (kTy κ) s) (hX : XY κ (tA σ0 s.heap.size) s s.heap) (hXs : va_X b L xs s s.heap) (hbl : b < s.heap.size) (hbA : ¬ tA σ0 s.heap.size b) (zx : zroomX κ s room_1 601024 7293034) (hi0 : 0 ≤ i.toInt) (hi1 : i.toInt + 6 ≤ L) (hL9 : L ≤ 3072) {σ : Gh} {H : Heap} {locs : List Loc} {ls : Array Slot} (hT : TS κ fA σ0 σ s H locs) (hR : RI κ σ mm) (hlen : (zI σ (kR κ x 0) 1).toInt = (zI σ mm 13).toInt) (hl : lv_has ls 9 [(4, .int i), (3, .ref out), (2, .ref mm), (1, .ref x), (0, .ref b)]) (KK : ∀ (σ1 : Gh) (H : Heap) (locs : List Loc) (ls : Array Slot), TS (kX κ) fA σ0 σ1 s H locs → RI (kX κ) σ1 mm → (zI σ1 (kR κ x 0) 1).toInt = (zI σ1 mm 13).toInt → lv_has ls 9 [(4, .int i), (3, .ref out), (2, .ref mm), (1, .ref x), (0, .ref b)] → W p l e room_1 s m #[Value.ref b] below meth c H locs 601024 7293034 Q9 (F0 m 1432 ls [])) : W p l e room_1 s m #[Value.ref b] below meth c H locs 601024 7293034 Q9 (F0 m 847 ls []) := by
  obtain ⟨y1, hy1⟩ : ∃ z, z = xs (ix i + 1) := ⟨_, rfl⟩
  obtain ⟨y2, hy2⟩ : ∃ z, z = xs (ix i + 2) := ⟨_, rfl⟩
  obtain ⟨y3, hy3⟩ : ∃ z, z = xs (ix i + 3) := ⟨_, rfl⟩
  obtain ⟨y4, hy4⟩ : ∃ z, z = xs (ix i + 4) := ⟨_, rfl⟩
  obtain ⟨y5, hy5⟩ : ∃ z, z = xs (ix i + 5) := ⟨_, rfl⟩
  have n0 : (0 : Int32).toInt = 0 := by decide
  have n1 : (1 : Int32).toInt = 1 := by decide
  have n2 : (2 : Int32).toInt = 2 := by decide
  have n3 : (3 : Int32).toInt = 3 := by decide
  have n4 : (4 : Int32).toInt = 4 := by decide
  have n5 : (5 : Int32).toInt = 5 := by decide
  obtain ⟨tx, etx⟩ : ∃ z, kR κ x 0 = z := ⟨_, rfl⟩
  rw [etx] at hlen
  have ttx : zk σ0 tx 6 := by rw [← etx]; exact ttx0
  refine lv_aload_n hx hb dL_law_847 rfl (lv_at hl 3 rfl) ?_
  refine lv_aload_n hx hb dL_law_848 rfl (lv_at hl 4 rfl) ?_
  refine lv_iload hx hb dL_law_849 (lv_at hl 0 rfl) ?_
  refine lv_iconst (v := 1) hx hb dL_law_851 (by decide) ?_
  refine lv_iadd hx hb dL_law_852 ?_
  refine g_add (by omega) (by omega) (fun t1 ht1 => ?_)
  refine va_sld hx hb hXs hbl hbA hT.2.2.2 (g_in (by omega) (by omega)) dL_law_853 ?_
  refine ti y1 (by rw [hy1]; exact congrArg xs (show t1.toNatClampNeg = ix i + 1 from by show t1.toInt.toNat = ix i + 1; unfold ix; omega)) ?_
  refine lv_aload_n hx hb dL_law_854 rfl (lv_at hl 4 rfl) ?_
  refine lv_iload hx hb dL_law_855 (lv_at hl 0 rfl) ?_
  refine lv_iconst (v := 2) hx hb dL_law_857 (by decide) ?_
  refine lv_iadd hx hb dL_law_858 ?_
  refine g_add (by omega) (by omega) (fun t2 ht2 => ?_)
  refine va_sld hx hb hXs hbl hbA hT.2.2.2 (g_in (by omega) (by omega)) dL_law_859 ?_
  refine ti y2 (by rw [hy2]; exact congrArg xs (show t2.toNatClampNeg = ix i + 2 from by show t2.toInt.toNat = ix i + 2; unfold ix; omega)) ?_
  refine lv_aload_n hx hb dL_law_860 rfl (lv_at hl 1 rfl) ?_
  have hTo := hT
  refine tHi (n := 4) (As := [.ref x, .int y1, .int y2, .ref out]) (rest := []) hx hb hml hown hg hT hK hX (L_set l κ σ x y1 y2 out (hT.k t_x (by decide)) (hT.k t_out (by decide)) hlt) sub_hfWr_fA (mwHS k981 k982 k83 k983) ⟨by decide, by decide, by decide +kernel⟩ ⟨(Nat.le_of_ble_eq_true rfl), (Nat.le_of_ble_eq_true rfl)⟩ rfl hl.1 rfl (Nat.le_of_ble_eq_true rfl) dL_law_861 zx (fun r4 s3 H locs hφ hE hT => ?_)
  have R5 := hR.ext hE ⟨rfl, rfl, fun _ => rfl, fun _ => rfl, fun _ => rfl, fun _ => rfl⟩
  have a6 : (zI s3 tx 1).toInt = (zI σ tx 1).toInt := by rw [(hTo.k ttx (by decide)).eI hE (by decide) rfl]
  have a7 : (zI s3 mm 13).toInt = (zI σ mm 13).toInt := by rw [(hTo.k t_mm (by decide)).eI hE (by decide) rfl]
  refine lv_istore (lv' := [(5, .int r4), (4, .int i), (3, .ref out), (2, .ref mm), (1, .ref x), (0, .ref b)]) hx hb dL_law_864 hl (by decide) rfl (fun ls hl => ?_)
  refine lv_aload_n hx hb dL_law_866 rfl (lv_at hl 3 rfl) ?_
  refine lv_aload_n hx hb dL_law_867 rfl (lv_at hl 5 rfl) ?_
  refine lv_iload hx hb dL_law_868 (lv_at hl 1 rfl) ?_
  refine lv_iconst (v := 1) hx hb dL_law_870 (by decide) ?_
  refine lv_iadd hx hb dL_law_871 ?_
  refine g_add (by omega) (by omega) (fun t8 ht8 => ?_)
  refine va_sld hx hb hXs hbl hbA hT.2.2.2 (g_in (by omega) (by omega)) dL_law_872 ?_
  refine ti y1 (by rw [hy1]; exact congrArg xs (show t8.toNatClampNeg = ix i + 1 from by show t8.toInt.toNat = ix i + 1; unfold ix; omega)) ?_
  refine lv_aload_n hx hb dL_law_873 rfl (lv_at hl 5 rfl) ?_
  refine lv_iload hx hb dL_law_874 (lv_at hl 1 rfl) ?_
  refine lv_iconst (v := 2) hx hb dL_law_876 (by decide) ?_
  refine lv_iadd hx hb dL_law_877 ?_
  refine g_add (by omega) (by omega) (fun t9 ht9 => ?_)
  refine va_sld hx hb hXs hbl hbA hT.2.2.2 (g_in (by omega) (by omega)) dL_law_878 ?_
  refine ti y2 (by rw [hy2]; exact congrArg xs (show t9.toNatClampNeg = ix i + 2 from by show t9.toInt.toNat = ix i + 2; unfold ix; omega)) ?_
  have hTo := hT
  refine tVl (n := 2) (As := [.int y1, .int y2]) (rest := []) hx hb hml hown hg hT hK hX (X6_set l (kX κ) s3 mm y1 y2 (hT.k t_mm (by decide)) R5) sub_gX_fA (mwV k1563 k1564 k1565 k92 k1566) ⟨rfl, by decide, by decide, by decide +kernel⟩ ⟨(Nat.le_of_ble_eq_true rfl), (Nat.le_of_ble_eq_true rfl)⟩ (hT.o20 (hT.k t_mm (by decide))) rfl rfl hl.1 rfl (Nat.le_of_ble_eq_true rfl) dL_law_879 zx (fun r11 s10 H locs hφ hE hT => ?_)
  have f12 := hφ
  have a13 : (zI s10 tx 1).toInt = (zI s3 tx 1).toInt := by rw [(hTo.k ttx (by decide)).eI hE (by decide) rfl]
  have a14 : (zI s10 mm 13).toInt = (zI s3 mm 13).toInt := by rw [(hTo.k t_mm (by decide)).eI hE (by decide) rfl]
  refine lv_lstore (lv' := [(6, .long r11), (5, .int r4), (4, .int i), (3, .ref out), (2, .ref mm), (1, .ref x), (0, .ref b)]) hx hb dL_law_882 hl (by decide) rfl (fun ls hl => ?_)
  refine lv_goto (tgt := 1432) hx hb dL_law_884 (by decide) ?_
  exact KK s10 _ _ _ hT f12 (by rw [etx]; omega) (lv_sub hl [2, 3, 4, 5, 6] rfl)
set_option maxHeartbeats 4000000 in
set_option maxRecDepth 100000 in
theorem lc_23 (l : Launch) (κ : Kt) (σ0 : Gh) (x mm out b : Nat) (t_x : zk σ0 x 7) (t_mm : zk σ0 mm 20) (t_out : zk σ0 out 24) (ttx0 : zk σ0 (kR κ x 0) 6) (hlt : l.stackTraces = false) {p : Program} {e : Env} {s : State} {m : MethodId} {below : List Frame} {meth : Method} {c : Code} {L : Nat} {xs : Nat → Int32} {i : Int32} {Q9 : State → Prop} (hx : p.tables.exec = Jvm.exec) (hb : c.code = cL_law) (hml : c.maxLocals = 9) (hown : s.vm.findClass RL = some m.cls) (hg : ∀ w ∈ GW, w.before #[Value.ref b] s = true) (hK : va_K κ.1 vwCl (kTy κ) s) (hX : XY κ (tA σ0 s.heap.size) s s.heap) (hXs : va_X b L xs s s.heap) (hbl : b < s.heap.size) (hbA : ¬ tA σ0 s.heap.size b) (zx : zroomX κ s room_1 601024 7293034) (hi0 : 0 ≤ i.toInt) (hi1 : i.toInt + 6 ≤ L) (hL9 : L ≤ 3072) {σ : Gh} {H : Heap} {locs : List Loc} {ls : Array Slot} (hT : TS κ fA σ0 σ s H locs) (hR : RI κ σ mm) (hlen : (zI σ (kR κ x 0) 1).toInt = (zI σ mm 13).toInt) (hl : lv_has ls 9 [(4, .int i), (3, .ref out), (2, .ref mm), (1, .ref x), (0, .ref b)]) (KK : ∀ (σ1 : Gh) (H : Heap) (locs : List Loc) (ls : Array Slot), TS (kX κ) fA σ0 σ1 s H locs → RI (kX κ) σ1 mm → (zI σ1 (kR κ x 0) 1).toInt = (zI σ1 mm 13).toInt → lv_has ls 9 [(4, .int i), (3, .ref out), (2, .ref mm), (1, .ref x), (0, .ref b)] → W p l e room_1 s m #[Value.ref b] below meth c H locs 601024 7293034 Q9 (F0 m 1432 ls [])) : W p l e room_1 s m #[Value.ref b] below meth c H locs 601024 7293034 Q9 (F0 m 887 ls []) := by
  obtain ⟨y1, hy1⟩ : ∃ z, z = xs (ix i + 1) := ⟨_, rfl⟩
  obtain ⟨y2, hy2⟩ : ∃ z, z = xs (ix i + 2) := ⟨_, rfl⟩
  obtain ⟨y3, hy3⟩ : ∃ z, z = xs (ix i + 3) := ⟨_, rfl⟩
  obtain ⟨y4, hy4⟩ : ∃ z, z = xs (ix i + 4) := ⟨_, rfl⟩
  obtain ⟨y5, hy5⟩ : ∃ z, z = xs (ix i + 5) := ⟨_, rfl⟩
  have n0 : (0 : Int32).toInt = 0 := by decide
  have n1 : (1 : Int32).toInt = 1 := by decide
  have n2 : (2 : Int32).toInt = 2 := by decide
  have n3 : (3 : Int32).toInt = 3 := by decide
  have n4 : (4 : Int32).toInt = 4 := by decide
  have n5 : (5 : Int32).toInt = 5 := by decide
  obtain ⟨tx, etx⟩ : ∃ z, kR κ x 0 = z := ⟨_, rfl⟩
  rw [etx] at hlen
  have ttx : zk σ0 tx 6 := by rw [← etx]; exact ttx0
  refine lv_aload_n hx hb dL_law_887 rfl (lv_at hl 3 rfl) ?_
  refine lv_aload_n hx hb dL_law_888 rfl (lv_at hl 4 rfl) ?_
  refine lv_iload hx hb dL_law_889 (lv_at hl 0 rfl) ?_
  refine lv_iconst (v := 1) hx hb dL_law_891 (by decide) ?_
  refine lv_iadd hx hb dL_law_892 ?_
  refine g_add (by omega) (by omega) (fun t1 ht1 => ?_)
  refine va_sld hx hb hXs hbl hbA hT.2.2.2 (g_in (by omega) (by omega)) dL_law_893 ?_
  refine ti y1 (by rw [hy1]; exact congrArg xs (show t1.toNatClampNeg = ix i + 1 from by show t1.toInt.toNat = ix i + 1; unfold ix; omega)) ?_
  refine lv_aload_n hx hb dL_law_894 rfl (lv_at hl 4 rfl) ?_
  refine lv_iload hx hb dL_law_895 (lv_at hl 0 rfl) ?_
  refine lv_iconst (v := 2) hx hb dL_law_897 (by decide) ?_
  refine lv_iadd hx hb dL_law_898 ?_
  refine g_add (by omega) (by omega) (fun t2 ht2 => ?_)
  refine va_sld hx hb hXs hbl hbA hT.2.2.2 (g_in (by omega) (by omega)) dL_law_899 ?_
  refine ti y2 (by rw [hy2]; exact congrArg xs (show t2.toNatClampNeg = ix i + 2 from by show t2.toInt.toNat = ix i + 2; unfold ix; omega)) ?_
  refine lv_aload_n hx hb dL_law_900 rfl (lv_at hl 1 rfl) ?_
  have hTo := hT
  refine tHi (n := 4) (As := [.ref x, .int y1, .int y2, .ref out]) (rest := []) hx hb hml hown hg hT hK hX (L_noise l κ σ x y1 y2 out (hT.k t_x (by decide)) (hT.k t_out (by decide)) hlt) sub_hfWr_fA (mwHS k1013 k1014 k83 k1015) ⟨by decide, by decide, by decide +kernel⟩ ⟨(Nat.le_of_ble_eq_true rfl), (Nat.le_of_ble_eq_true rfl)⟩ rfl hl.1 rfl (Nat.le_of_ble_eq_true rfl) dL_law_901 zx (fun r4 s3 H locs hφ hE hT => ?_)
  have R5 := hR.ext hE ⟨rfl, rfl, fun _ => rfl, fun _ => rfl, fun _ => rfl, fun _ => rfl⟩
  have a6 : (zI s3 tx 1).toInt = (zI σ tx 1).toInt := by rw [(hTo.k ttx (by decide)).eI hE (by decide) rfl]
  have a7 : (zI s3 mm 13).toInt = (zI σ mm 13).toInt := by rw [(hTo.k t_mm (by decide)).eI hE (by decide) rfl]
  refine lv_istore (lv' := [(5, .int r4), (4, .int i), (3, .ref out), (2, .ref mm), (1, .ref x), (0, .ref b)]) hx hb dL_law_904 hl (by decide) rfl (fun ls hl => ?_)
  refine lv_aload_n hx hb dL_law_906 rfl (lv_at hl 3 rfl) ?_
  refine lv_aload_n hx hb dL_law_907 rfl (lv_at hl 5 rfl) ?_
  refine lv_iload hx hb dL_law_908 (lv_at hl 1 rfl) ?_
  refine lv_iconst (v := 1) hx hb dL_law_910 (by decide) ?_
  refine lv_iadd hx hb dL_law_911 ?_
  refine g_add (by omega) (by omega) (fun t8 ht8 => ?_)
  refine va_sld hx hb hXs hbl hbA hT.2.2.2 (g_in (by omega) (by omega)) dL_law_912 ?_
  refine ti y1 (by rw [hy1]; exact congrArg xs (show t8.toNatClampNeg = ix i + 1 from by show t8.toInt.toNat = ix i + 1; unfold ix; omega)) ?_
  refine lv_aload_n hx hb dL_law_913 rfl (lv_at hl 5 rfl) ?_
  refine lv_iload hx hb dL_law_914 (lv_at hl 1 rfl) ?_
  refine lv_iconst (v := 2) hx hb dL_law_916 (by decide) ?_
  refine lv_iadd hx hb dL_law_917 ?_
  refine g_add (by omega) (by omega) (fun t9 ht9 => ?_)
  refine va_sld hx hb hXs hbl hbA hT.2.2.2 (g_in (by omega) (by omega)) dL_law_918 ?_
  refine ti y2 (by rw [hy2]; exact congrArg xs (show t9.toNatClampNeg = ix i + 2 from by show t9.toInt.toNat = ix i + 2; unfold ix; omega)) ?_
  have hTo := hT
  refine tVl (n := 2) (As := [.int y1, .int y2]) (rest := []) hx hb hml hown hg hT hK hX (X6_noise l (kX κ) s3 mm y1 y2 (hT.k t_mm (by decide)) R5) sub_gX_fA (mwV k1573 k1574 k1575 k92 k1576) ⟨rfl, by decide, by decide, by decide +kernel⟩ ⟨(Nat.le_of_ble_eq_true rfl), (Nat.le_of_ble_eq_true rfl)⟩ (hT.o20 (hT.k t_mm (by decide))) rfl rfl hl.1 rfl (Nat.le_of_ble_eq_true rfl) dL_law_919 zx (fun r11 s10 H locs hφ hE hT => ?_)
  have f12 := hφ
  have a13 : (zI s10 tx 1).toInt = (zI s3 tx 1).toInt := by rw [(hTo.k ttx (by decide)).eI hE (by decide) rfl]
  have a14 : (zI s10 mm 13).toInt = (zI s3 mm 13).toInt := by rw [(hTo.k t_mm (by decide)).eI hE (by decide) rfl]
  refine lv_lstore (lv' := [(6, .long r11), (5, .int r4), (4, .int i), (3, .ref out), (2, .ref mm), (1, .ref x), (0, .ref b)]) hx hb dL_law_922 hl (by decide) rfl (fun ls hl => ?_)
  refine lv_goto (tgt := 1432) hx hb dL_law_924 (by decide) ?_
  exact KK s10 _ _ _ hT f12 (by rw [etx]; omega) (lv_sub hl [2, 3, 4, 5, 6] rfl)
set_option maxHeartbeats 4000000 in
set_option maxRecDepth 100000 in
theorem lc_24 (l : Launch) (κ : Kt) (σ0 : Gh) (x mm out b : Nat) (t_x : zk σ0 x 7) (t_mm : zk σ0 mm 20) (t_out : zk σ0 out 24) (ttx0 : zk σ0 (kR κ x 0) 6) (hlt : l.stackTraces = false) {p : Program} {e : Env} {s : State} {m : MethodId} {below : List Frame} {meth : Method} {c : Code} {L : Nat} {xs : Nat → Int32} {i : Int32} {Q9 : State → Prop} (hx : p.tables.exec = Jvm.exec) (hb : c.code = cL_law) (hml : c.maxLocals = 9) (hown : s.vm.findClass RL = some m.cls) (hg : ∀ w ∈ GW, w.before #[Value.ref b] s = true) (hK : va_K κ.1 vwCl (kTy κ) s) (hX : XY κ (tA σ0 s.heap.size) s s.heap) (hXs : va_X b L xs s s.heap) (hbl : b < s.heap.size) (hbA : ¬ tA σ0 s.heap.size b) (zx : zroomX κ s room_1 601024 7293034) (hi0 : 0 ≤ i.toInt) (hi1 : i.toInt + 6 ≤ L) (hL9 : L ≤ 3072) {σ : Gh} {H : Heap} {locs : List Loc} {ls : Array Slot} (hT : TS κ fA σ0 σ s H locs) (hR : RI κ σ mm) (hlen : (zI σ (kR κ x 0) 1).toInt = (zI σ mm 13).toInt) (hl : lv_has ls 9 [(4, .int i), (3, .ref out), (2, .ref mm), (1, .ref x), (0, .ref b)]) (KK : ∀ (σ1 : Gh) (H : Heap) (locs : List Loc) (ls : Array Slot), TS (kX κ) fA σ0 σ1 s H locs → RI (kX κ) σ1 mm → (zI σ1 (kR κ x 0) 1).toInt = (zI σ1 mm 13).toInt → lv_has ls 9 [(4, .int i), (3, .ref out), (2, .ref mm), (1, .ref x), (0, .ref b)] → W p l e room_1 s m #[Value.ref b] below meth c H locs 601024 7293034 Q9 (F0 m 1432 ls [])) : W p l e room_1 s m #[Value.ref b] below meth c H locs 601024 7293034 Q9 (F0 m 927 ls []) := by
  obtain ⟨y1, hy1⟩ : ∃ z, z = xs (ix i + 1) := ⟨_, rfl⟩
  obtain ⟨y2, hy2⟩ : ∃ z, z = xs (ix i + 2) := ⟨_, rfl⟩
  obtain ⟨y3, hy3⟩ : ∃ z, z = xs (ix i + 3) := ⟨_, rfl⟩
  obtain ⟨y4, hy4⟩ : ∃ z, z = xs (ix i + 4) := ⟨_, rfl⟩
  obtain ⟨y5, hy5⟩ : ∃ z, z = xs (ix i + 5) := ⟨_, rfl⟩
  have n0 : (0 : Int32).toInt = 0 := by decide
  have n1 : (1 : Int32).toInt = 1 := by decide
  have n2 : (2 : Int32).toInt = 2 := by decide
  have n3 : (3 : Int32).toInt = 3 := by decide
  have n4 : (4 : Int32).toInt = 4 := by decide
  have n5 : (5 : Int32).toInt = 5 := by decide
  obtain ⟨tx, etx⟩ : ∃ z, kR κ x 0 = z := ⟨_, rfl⟩
  rw [etx] at hlen
  have ttx : zk σ0 tx 6 := by rw [← etx]; exact ttx0
  refine lv_aload_n hx hb dL_law_927 rfl (lv_at hl 3 rfl) ?_
  have hTo := hT
  refine tVi (n := 0) (As := []) (rest := []) hx hb hml hown hg hT hK hX (X5_reset l κ σ x (hT.k t_x (by decide))) sub_fBe_fA (mwV k514 k515 k516 k84 k517) ⟨rfl, by decide, by decide, by decide +kernel⟩ ⟨(Nat.le_of_ble_eq_true rfl), (Nat.le_of_ble_eq_true rfl)⟩ (hT.o7 (hT.k t_x (by decide))) rfl rfl hl.1 rfl (Nat.le_of_ble_eq_true rfl) dL_law_928 zx.dn (fun r2 s1 H locs hφ hE hT => ?_)
  have R3 := hR.ext hE ⟨rfl, rfl, fun _ => rfl, fun _ => rfl, fun _ => rfl, fun _ => rfl⟩
  have a4 : (zI s1 tx 1).toInt = (zI σ tx 1).toInt := by rw [(hTo.k ttx (by decide)).eI hE (by decide) rfl]
  have a5 : (zI s1 mm 13).toInt = (zI σ mm 13).toInt := by rw [(hTo.k t_mm (by decide)).eI hE (by decide) rfl]
  refine lv_pop hx hb dL_law_931 rfl ?_
  refine lv_aload_n hx hb dL_law_932 rfl (lv_at hl 2 rfl) ?_
  have hTo := hT
  refine tVi (n := 0) (As := []) (rest := []) hx hb hml hown hg hT hK hX (X6_reset l κ s1 mm (hT.k t_mm (by decide)) R3) sub_gX_fA (mwV k1579 k1580 k1581 k92 k1582) ⟨rfl, by decide, by decide, by decide +kernel⟩ ⟨(Nat.le_of_ble_eq_true rfl), (Nat.le_of_ble_eq_true rfl)⟩ (hT.o20 (hT.k t_mm (by decide))) rfl rfl hl.1 rfl (Nat.le_of_ble_eq_true rfl) dL_law_933 zx.dn (fun r7 s6 H locs hφ hE hT => ?_)
  have f8 := hφ
  have a9 : (zI s6 tx 1).toInt = (zI s1 tx 1).toInt := by rw [(hTo.k ttx (by decide)).eI hE (by decide) rfl]
  have a10 : (zI s6 mm 13).toInt = (zI s1 mm 13).toInt := by rw [(hTo.k t_mm (by decide)).eI hE (by decide) rfl]
  refine lv_pop hx hb dL_law_936 rfl ?_
  refine lv_goto (tgt := 1432) hx hb dL_law_937 (by decide) ?_
  exact KK s6 _ _ _ hT.up f8 (by rw [etx]; omega) (lv_sub hl [0, 1, 2, 3, 4] rfl)
set_option maxHeartbeats 4000000 in
set_option maxRecDepth 100000 in
theorem lc_25 (l : Launch) (κ : Kt) (σ0 : Gh) (x mm out b : Nat) (t_x : zk σ0 x 7) (t_mm : zk σ0 mm 20) (t_out : zk σ0 out 24) (ttx0 : zk σ0 (kR κ x 0) 6) (hlt : l.stackTraces = false) {p : Program} {e : Env} {s : State} {m : MethodId} {below : List Frame} {meth : Method} {c : Code} {L : Nat} {xs : Nat → Int32} {i : Int32} {Q9 : State → Prop} (hx : p.tables.exec = Jvm.exec) (hb : c.code = cL_law) (hml : c.maxLocals = 9) (hown : s.vm.findClass RL = some m.cls) (hg : ∀ w ∈ GW, w.before #[Value.ref b] s = true) (hK : va_K κ.1 vwCl (kTy κ) s) (hX : XY κ (tA σ0 s.heap.size) s s.heap) (hXs : va_X b L xs s s.heap) (hbl : b < s.heap.size) (hbA : ¬ tA σ0 s.heap.size b) (zx : zroomX κ s room_1 601024 7293034) (hi0 : 0 ≤ i.toInt) (hi1 : i.toInt + 6 ≤ L) (hL9 : L ≤ 3072) {σ : Gh} {H : Heap} {locs : List Loc} {ls : Array Slot} (hT : TS κ fA σ0 σ s H locs) (hR : RI κ σ mm) (hlen : (zI σ (kR κ x 0) 1).toInt = (zI σ mm 13).toInt) (hl : lv_has ls 9 [(4, .int i), (3, .ref out), (2, .ref mm), (1, .ref x), (0, .ref b)]) (KK : ∀ (σ1 : Gh) (H : Heap) (locs : List Loc) (ls : Array Slot), TS (kX κ) fA σ0 σ1 s H locs → RI (kX κ) σ1 mm → (zI σ1 (kR κ x 0) 1).toInt = (zI σ1 mm 13).toInt → lv_has ls 9 [(4, .int i), (3, .ref out), (2, .ref mm), (1, .ref x), (0, .ref b)] → W p l e room_1 s m #[Value.ref b] below meth c H locs 601024 7293034 Q9 (F0 m 1432 ls [])) : W p l e room_1 s m #[Value.ref b] below meth c H locs 601024 7293034 Q9 (F0 m 940 ls []) := by
  obtain ⟨y1, hy1⟩ : ∃ z, z = xs (ix i + 1) := ⟨_, rfl⟩
  obtain ⟨y2, hy2⟩ : ∃ z, z = xs (ix i + 2) := ⟨_, rfl⟩
  obtain ⟨y3, hy3⟩ : ∃ z, z = xs (ix i + 3) := ⟨_, rfl⟩
  obtain ⟨y4, hy4⟩ : ∃ z, z = xs (ix i + 4) := ⟨_, rfl⟩
  obtain ⟨y5, hy5⟩ : ∃ z, z = xs (ix i + 5) := ⟨_, rfl⟩
  have n0 : (0 : Int32).toInt = 0 := by decide
  have n1 : (1 : Int32).toInt = 1 := by decide
  have n2 : (2 : Int32).toInt = 2 := by decide
  have n3 : (3 : Int32).toInt = 3 := by decide
  have n4 : (4 : Int32).toInt = 4 := by decide
  have n5 : (5 : Int32).toInt = 5 := by decide
  obtain ⟨tx, etx⟩ : ∃ z, kR κ x 0 = z := ⟨_, rfl⟩
  rw [etx] at hlen
  have ttx : zk σ0 tx 6 := by rw [← etx]; exact ttx0
  refine lv_aload_n hx hb dL_law_940 rfl (lv_at hl 3 rfl) ?_
  refine lv_aload_n hx hb dL_law_941 rfl (lv_at hl 4 rfl) ?_
  refine lv_iload hx hb dL_law_942 (lv_at hl 0 rfl) ?_
  refine lv_iconst (v := 1) hx hb dL_law_944 (by decide) ?_
  refine lv_iadd hx hb dL_law_945 ?_
  refine g_add (by omega) (by omega) (fun t1 ht1 => ?_)
  refine va_sld hx hb hXs hbl hbA hT.2.2.2 (g_in (by omega) (by omega)) dL_law_946 ?_
  refine ti y1 (by rw [hy1]; exact congrArg xs (show t1.toNatClampNeg = ix i + 1 from by show t1.toInt.toNat = ix i + 1; unfold ix; omega)) ?_
  refine lv_aload_n hx hb dL_law_947 rfl (lv_at hl 1 rfl) ?_
  have hTo := hT
  refine tHi (n := 3) (As := [.ref x, .int y1, .ref out]) (rest := []) hx hb hml hown hg hT hK hX (L_forward l κ σ x y1 out (hT.k t_x (by decide)) (hT.k t_out (by decide)) hlt) sub_hfLr_fA (mwHS k1025 k1026 k83 k1027) ⟨by decide, by decide, by decide +kernel⟩ ⟨(Nat.le_of_ble_eq_true rfl), (Nat.le_of_ble_eq_true rfl)⟩ rfl hl.1 rfl (Nat.le_of_ble_eq_true rfl) dL_law_948 zx (fun r3 s2 H locs hφ hE hT => ?_)
  have R4 := hR.ext hE ⟨rfl, rfl, fun _ => rfl, fun _ => rfl, fun _ => rfl, fun _ => rfl⟩
  have a5 : (zI s2 tx 1).toInt = (zI σ tx 1).toInt := by rw [(hTo.k ttx (by decide)).eI hE (by decide) rfl]
  have a6 : (zI s2 mm 13).toInt = (zI σ mm 13).toInt := by rw [(hTo.k t_mm (by decide)).eI hE (by decide) rfl]
  refine lv_istore (lv' := [(5, .int r3), (4, .int i), (3, .ref out), (2, .ref mm), (1, .ref x), (0, .ref b)]) hx hb dL_law_951 hl (by decide) rfl (fun ls hl => ?_)
  refine lv_aload_n hx hb dL_law_953 rfl (lv_at hl 3 rfl) ?_
  refine lv_aload_n hx hb dL_law_954 rfl (lv_at hl 5 rfl) ?_
  refine lv_iload hx hb dL_law_955 (lv_at hl 1 rfl) ?_
  refine lv_iconst (v := 1) hx hb dL_law_957 (by decide) ?_
  refine lv_iadd hx hb dL_law_958 ?_
  refine g_add (by omega) (by omega) (fun t7 ht7 => ?_)
  refine va_sld hx hb hXs hbl hbA hT.2.2.2 (g_in (by omega) (by omega)) dL_law_959 ?_
  refine ti y1 (by rw [hy1]; exact congrArg xs (show t7.toNatClampNeg = ix i + 1 from by show t7.toInt.toNat = ix i + 1; unfold ix; omega)) ?_
  have hTo := hT
  refine tVi (n := 1) (As := [.int y1]) (rest := []) hx hb hml hown hg hT hK hX (X6_forward l (kX κ) s2 mm y1 (hT.k t_mm (by decide)) R4) sub_gX_fA (mwV k1583 k1584 k1585 k92 k1586) ⟨rfl, by decide, by decide, by decide +kernel⟩ ⟨(Nat.le_of_ble_eq_true rfl), (Nat.le_of_ble_eq_true rfl)⟩ (hT.o20 (hT.k t_mm (by decide))) rfl rfl hl.1 rfl (Nat.le_of_ble_eq_true rfl) dL_law_960 zx (fun r9 s8 H locs hφ hE hT => ?_)
  have f10 := hφ
  have a11 : (zI s8 tx 1).toInt = (zI s2 tx 1).toInt := by rw [(hTo.k ttx (by decide)).eI hE (by decide) rfl]
  have a12 : (zI s8 mm 13).toInt = (zI s2 mm 13).toInt := by rw [(hTo.k t_mm (by decide)).eI hE (by decide) rfl]
  refine lv_istore (lv' := [(6, .int r9), (5, .int r3), (4, .int i), (3, .ref out), (2, .ref mm), (1, .ref x), (0, .ref b)]) hx hb dL_law_963 hl (by decide) rfl (fun ls hl => ?_)
  refine lv_goto (tgt := 1432) hx hb dL_law_965 (by decide) ?_
  exact KK s8 _ _ _ hT f10 (by rw [etx]; omega) (lv_sub hl [2, 3, 4, 5, 6] rfl)
set_option maxHeartbeats 4000000 in
set_option maxRecDepth 100000 in
theorem lc_26 (l : Launch) (κ : Kt) (σ0 : Gh) (x mm out b : Nat) (t_x : zk σ0 x 7) (t_mm : zk σ0 mm 20) (t_out : zk σ0 out 24) (ttx0 : zk σ0 (kR κ x 0) 6) (hlt : l.stackTraces = false) {p : Program} {e : Env} {s : State} {m : MethodId} {below : List Frame} {meth : Method} {c : Code} {L : Nat} {xs : Nat → Int32} {i : Int32} {Q9 : State → Prop} (hx : p.tables.exec = Jvm.exec) (hb : c.code = cL_law) (hml : c.maxLocals = 9) (hown : s.vm.findClass RL = some m.cls) (hg : ∀ w ∈ GW, w.before #[Value.ref b] s = true) (hK : va_K κ.1 vwCl (kTy κ) s) (hX : XY κ (tA σ0 s.heap.size) s s.heap) (hXs : va_X b L xs s s.heap) (hbl : b < s.heap.size) (hbA : ¬ tA σ0 s.heap.size b) (zx : zroomX κ s room_1 601024 7293034) (hi0 : 0 ≤ i.toInt) (hi1 : i.toInt + 6 ≤ L) (hL9 : L ≤ 3072) {σ : Gh} {H : Heap} {locs : List Loc} {ls : Array Slot} (hT : TS κ fA σ0 σ s H locs) (hR : RI κ σ mm) (hlen : (zI σ (kR κ x 0) 1).toInt = (zI σ mm 13).toInt) (hl : lv_has ls 9 [(4, .int i), (3, .ref out), (2, .ref mm), (1, .ref x), (0, .ref b)]) (KK : ∀ (σ1 : Gh) (H : Heap) (locs : List Loc) (ls : Array Slot), TS (kX κ) fA σ0 σ1 s H locs → RI (kX κ) σ1 mm → (zI σ1 (kR κ x 0) 1).toInt = (zI σ1 mm 13).toInt → lv_has ls 9 [(4, .int i), (3, .ref out), (2, .ref mm), (1, .ref x), (0, .ref b)] → W p l e room_1 s m #[Value.ref b] below meth c H locs 601024 7293034 Q9 (F0 m 1432 ls [])) : W p l e room_1 s m #[Value.ref b] below meth c H locs 601024 7293034 Q9 (F0 m 968 ls []) := by
  obtain ⟨y1, hy1⟩ : ∃ z, z = xs (ix i + 1) := ⟨_, rfl⟩
  obtain ⟨y2, hy2⟩ : ∃ z, z = xs (ix i + 2) := ⟨_, rfl⟩
  obtain ⟨y3, hy3⟩ : ∃ z, z = xs (ix i + 3) := ⟨_, rfl⟩
  obtain ⟨y4, hy4⟩ : ∃ z, z = xs (ix i + 4) := ⟨_, rfl⟩
  obtain ⟨y5, hy5⟩ : ∃ z, z = xs (ix i + 5) := ⟨_, rfl⟩
  have n0 : (0 : Int32).toInt = 0 := by decide
  have n1 : (1 : Int32).toInt = 1 := by decide
  have n2 : (2 : Int32).toInt = 2 := by decide
  have n3 : (3 : Int32).toInt = 3 := by decide
  have n4 : (4 : Int32).toInt = 4 := by decide
  have n5 : (5 : Int32).toInt = 5 := by decide
  obtain ⟨tx, etx⟩ : ∃ z, kR κ x 0 = z := ⟨_, rfl⟩
  rw [etx] at hlen
  have ttx : zk σ0 tx 6 := by rw [← etx]; exact ttx0
  refine lv_aload_n hx hb dL_law_968 rfl (lv_at hl 3 rfl) ?_
  refine lv_aload_n hx hb dL_law_969 rfl (lv_at hl 4 rfl) ?_
  refine lv_iload hx hb dL_law_970 (lv_at hl 0 rfl) ?_
  refine lv_iconst (v := 1) hx hb dL_law_972 (by decide) ?_
  refine lv_iadd hx hb dL_law_973 ?_
  refine g_add (by omega) (by omega) (fun t1 ht1 => ?_)
  refine va_sld hx hb hXs hbl hbA hT.2.2.2 (g_in (by omega) (by omega)) dL_law_974 ?_
  refine ti y1 (by rw [hy1]; exact congrArg xs (show t1.toNatClampNeg = ix i + 1 from by show t1.toInt.toNat = ix i + 1; unfold ix; omega)) ?_
  refine lv_aload_n hx hb dL_law_975 rfl (lv_at hl 1 rfl) ?_
  have hTo := hT
  refine tHi (n := 3) (As := [.ref x, .int y1, .ref out]) (rest := []) hx hb hml hown hg hT hK hX (L_lift l κ σ x y1 out (hT.k t_x (by decide)) (hT.k t_out (by decide)) hlt) sub_hfLr_fA (mwHS k1032 k1033 k83 k1034) ⟨by decide, by decide, by decide +kernel⟩ ⟨(Nat.le_of_ble_eq_true rfl), (Nat.le_of_ble_eq_true rfl)⟩ rfl hl.1 rfl (Nat.le_of_ble_eq_true rfl) dL_law_976 zx (fun r3 s2 H locs hφ hE hT => ?_)
  have R4 := hR.ext hE ⟨rfl, rfl, fun _ => rfl, fun _ => rfl, fun _ => rfl, fun _ => rfl⟩
  have a5 : (zI s2 tx 1).toInt = (zI σ tx 1).toInt := by rw [(hTo.k ttx (by decide)).eI hE (by decide) rfl]
  have a6 : (zI s2 mm 13).toInt = (zI σ mm 13).toInt := by rw [(hTo.k t_mm (by decide)).eI hE (by decide) rfl]
  refine lv_istore (lv' := [(5, .int r3), (4, .int i), (3, .ref out), (2, .ref mm), (1, .ref x), (0, .ref b)]) hx hb dL_law_979 hl (by decide) rfl (fun ls hl => ?_)
  refine lv_aload_n hx hb dL_law_981 rfl (lv_at hl 3 rfl) ?_
  refine lv_aload_n hx hb dL_law_982 rfl (lv_at hl 5 rfl) ?_
  refine lv_iload hx hb dL_law_983 (lv_at hl 1 rfl) ?_
  refine lv_iconst (v := 1) hx hb dL_law_985 (by decide) ?_
  refine lv_iadd hx hb dL_law_986 ?_
  refine g_add (by omega) (by omega) (fun t7 ht7 => ?_)
  refine va_sld hx hb hXs hbl hbA hT.2.2.2 (g_in (by omega) (by omega)) dL_law_987 ?_
  refine ti y1 (by rw [hy1]; exact congrArg xs (show t7.toNatClampNeg = ix i + 1 from by show t7.toInt.toNat = ix i + 1; unfold ix; omega)) ?_
  have hTo := hT
  refine tVl (n := 1) (As := [.int y1]) (rest := []) hx hb hml hown hg hT hK hX (X6_lift l (kX κ) s2 mm y1 (hT.k t_mm (by decide)) R4) sub_gX_fA (mwV k1608 k1609 k1610 k92 k1611) ⟨rfl, by decide, by decide, by decide +kernel⟩ ⟨(Nat.le_of_ble_eq_true rfl), (Nat.le_of_ble_eq_true rfl)⟩ (hT.o20 (hT.k t_mm (by decide))) rfl rfl hl.1 rfl (Nat.le_of_ble_eq_true rfl) dL_law_988 zx (fun r9 s8 H locs hφ hE hT => ?_)
  have f10 := hφ
  have a11 : (zI s8 tx 1).toInt = (zI s2 tx 1).toInt := by rw [(hTo.k ttx (by decide)).eI hE (by decide) rfl]
  have a12 : (zI s8 mm 13).toInt = (zI s2 mm 13).toInt := by rw [(hTo.k t_mm (by decide)).eI hE (by decide) rfl]
  refine lv_lstore (lv' := [(6, .long r9), (5, .int r3), (4, .int i), (3, .ref out), (2, .ref mm), (1, .ref x), (0, .ref b)]) hx hb dL_law_991 hl (by decide) rfl (fun ls hl => ?_)
  refine lv_goto (tgt := 1432) hx hb dL_law_993 (by decide) ?_
  exact KK s8 _ _ _ hT f10 (by rw [etx]; omega) (lv_sub hl [2, 3, 4, 5, 6] rfl)
set_option maxHeartbeats 4000000 in
set_option maxRecDepth 100000 in
theorem lc_27 (l : Launch) (κ : Kt) (σ0 : Gh) (x mm out b : Nat) (t_x : zk σ0 x 7) (t_mm : zk σ0 mm 20) (t_out : zk σ0 out 24) (ttx0 : zk σ0 (kR κ x 0) 6) (hlt : l.stackTraces = false) {p : Program} {e : Env} {s : State} {m : MethodId} {below : List Frame} {meth : Method} {c : Code} {L : Nat} {xs : Nat → Int32} {i : Int32} {Q9 : State → Prop} (hx : p.tables.exec = Jvm.exec) (hb : c.code = cL_law) (hml : c.maxLocals = 9) (hown : s.vm.findClass RL = some m.cls) (hg : ∀ w ∈ GW, w.before #[Value.ref b] s = true) (hK : va_K κ.1 vwCl (kTy κ) s) (hX : XY κ (tA σ0 s.heap.size) s s.heap) (hXs : va_X b L xs s s.heap) (hbl : b < s.heap.size) (hbA : ¬ tA σ0 s.heap.size b) (zx : zroomX κ s room_1 601024 7293034) (hi0 : 0 ≤ i.toInt) (hi1 : i.toInt + 6 ≤ L) (hL9 : L ≤ 3072) {σ : Gh} {H : Heap} {locs : List Loc} {ls : Array Slot} (hT : TS κ fA σ0 σ s H locs) (hR : RI κ σ mm) (hlen : (zI σ (kR κ x 0) 1).toInt = (zI σ mm 13).toInt) (hl : lv_has ls 9 [(4, .int i), (3, .ref out), (2, .ref mm), (1, .ref x), (0, .ref b)]) (KK : ∀ (σ1 : Gh) (H : Heap) (locs : List Loc) (ls : Array Slot), TS (kX κ) fA σ0 σ1 s H locs → RI (kX κ) σ1 mm → (zI σ1 (kR κ x 0) 1).toInt = (zI σ1 mm 13).toInt → lv_has ls 9 [(4, .int i), (3, .ref out), (2, .ref mm), (1, .ref x), (0, .ref b)] → W p l e room_1 s m #[Value.ref b] below meth c H locs 601024 7293034 Q9 (F0 m 1432 ls [])) : W p l e room_1 s m #[Value.ref b] below meth c H locs 601024 7293034 Q9 (F0 m 996 ls []) := by
  obtain ⟨y1, hy1⟩ : ∃ z, z = xs (ix i + 1) := ⟨_, rfl⟩
  obtain ⟨y2, hy2⟩ : ∃ z, z = xs (ix i + 2) := ⟨_, rfl⟩
  obtain ⟨y3, hy3⟩ : ∃ z, z = xs (ix i + 3) := ⟨_, rfl⟩
  obtain ⟨y4, hy4⟩ : ∃ z, z = xs (ix i + 4) := ⟨_, rfl⟩
  obtain ⟨y5, hy5⟩ : ∃ z, z = xs (ix i + 5) := ⟨_, rfl⟩
  have n0 : (0 : Int32).toInt = 0 := by decide
  have n1 : (1 : Int32).toInt = 1 := by decide
  have n2 : (2 : Int32).toInt = 2 := by decide
  have n3 : (3 : Int32).toInt = 3 := by decide
  have n4 : (4 : Int32).toInt = 4 := by decide
  have n5 : (5 : Int32).toInt = 5 := by decide
  obtain ⟨tx, etx⟩ : ∃ z, kR κ x 0 = z := ⟨_, rfl⟩
  rw [etx] at hlen
  have ttx : zk σ0 tx 6 := by rw [← etx]; exact ttx0
  refine lv_aload_n hx hb dL_law_996 rfl (lv_at hl 3 rfl) ?_
  refine lv_aload_n hx hb dL_law_997 rfl (lv_at hl 4 rfl) ?_
  refine lv_iload hx hb dL_law_998 (lv_at hl 0 rfl) ?_
  refine lv_iconst (v := 1) hx hb dL_law_1000 (by decide) ?_
  refine lv_iadd hx hb dL_law_1001 ?_
  refine g_add (by omega) (by omega) (fun t1 ht1 => ?_)
  refine va_sld hx hb hXs hbl hbA hT.2.2.2 (g_in (by omega) (by omega)) dL_law_1002 ?_
  refine ti y1 (by rw [hy1]; exact congrArg xs (show t1.toNatClampNeg = ix i + 1 from by show t1.toInt.toNat = ix i + 1; unfold ix; omega)) ?_
  refine lv_aload_n hx hb dL_law_1003 rfl (lv_at hl 1 rfl) ?_
  have hTo := hT
  refine tHi (n := 3) (As := [.ref x, .int y1, .ref out]) (rest := []) hx hb hml hown hg hT hK hX (L_inverse l κ σ x y1 out (hT.k t_x (by decide)) (hT.k t_out (by decide)) hlt) sub_hfLr_fA (mwHS k1040 k1041 k83 k1042) ⟨by decide, by decide, by decide +kernel⟩ ⟨(Nat.le_of_ble_eq_true rfl), (Nat.le_of_ble_eq_true rfl)⟩ rfl hl.1 rfl (Nat.le_of_ble_eq_true rfl) dL_law_1004 zx (fun r3 s2 H locs hφ hE hT => ?_)
  have R4 := hR.ext hE ⟨rfl, rfl, fun _ => rfl, fun _ => rfl, fun _ => rfl, fun _ => rfl⟩
  have a5 : (zI s2 tx 1).toInt = (zI σ tx 1).toInt := by rw [(hTo.k ttx (by decide)).eI hE (by decide) rfl]
  have a6 : (zI s2 mm 13).toInt = (zI σ mm 13).toInt := by rw [(hTo.k t_mm (by decide)).eI hE (by decide) rfl]
  refine lv_istore (lv' := [(5, .int r3), (4, .int i), (3, .ref out), (2, .ref mm), (1, .ref x), (0, .ref b)]) hx hb dL_law_1007 hl (by decide) rfl (fun ls hl => ?_)
  refine lv_aload_n hx hb dL_law_1009 rfl (lv_at hl 3 rfl) ?_
  refine lv_aload_n hx hb dL_law_1010 rfl (lv_at hl 5 rfl) ?_
  refine lv_iload hx hb dL_law_1011 (lv_at hl 1 rfl) ?_
  refine lv_iconst (v := 1) hx hb dL_law_1013 (by decide) ?_
  refine lv_iadd hx hb dL_law_1014 ?_
  refine g_add (by omega) (by omega) (fun t7 ht7 => ?_)
  refine va_sld hx hb hXs hbl hbA hT.2.2.2 (g_in (by omega) (by omega)) dL_law_1015 ?_
  refine ti y1 (by rw [hy1]; exact congrArg xs (show t7.toNatClampNeg = ix i + 1 from by show t7.toInt.toNat = ix i + 1; unfold ix; omega)) ?_
  have hTo := hT
  refine tVi (n := 1) (As := [.int y1]) (rest := []) hx hb hml hown hg hT hK hX (X6_inverse l (kX κ) s2 mm y1 (hT.k t_mm (by decide)) R4) sub_gX_fA (mwV k1612 k1613 k1614 k92 k1615) ⟨rfl, by decide, by decide, by decide +kernel⟩ ⟨(Nat.le_of_ble_eq_true rfl), (Nat.le_of_ble_eq_true rfl)⟩ (hT.o20 (hT.k t_mm (by decide))) rfl rfl hl.1 rfl (Nat.le_of_ble_eq_true rfl) dL_law_1016 zx (fun r9 s8 H locs hφ hE hT => ?_)
  have f10 := hφ
  have a11 : (zI s8 tx 1).toInt = (zI s2 tx 1).toInt := by rw [(hTo.k ttx (by decide)).eI hE (by decide) rfl]
  have a12 : (zI s8 mm 13).toInt = (zI s2 mm 13).toInt := by rw [(hTo.k t_mm (by decide)).eI hE (by decide) rfl]
  refine lv_istore (lv' := [(6, .int r9), (5, .int r3), (4, .int i), (3, .ref out), (2, .ref mm), (1, .ref x), (0, .ref b)]) hx hb dL_law_1019 hl (by decide) rfl (fun ls hl => ?_)
  refine lv_goto (tgt := 1432) hx hb dL_law_1021 (by decide) ?_
  exact KK s8 _ _ _ hT f10 (by rw [etx]; omega) (lv_sub hl [2, 3, 4, 5, 6] rfl)
set_option maxHeartbeats 4000000 in
set_option maxRecDepth 100000 in
theorem lc_28 (l : Launch) (κ : Kt) (σ0 : Gh) (x mm out b : Nat) (t_x : zk σ0 x 7) (t_mm : zk σ0 mm 20) (t_out : zk σ0 out 24) (ttx0 : zk σ0 (kR κ x 0) 6) (hlt : l.stackTraces = false) {p : Program} {e : Env} {s : State} {m : MethodId} {below : List Frame} {meth : Method} {c : Code} {L : Nat} {xs : Nat → Int32} {i : Int32} {Q9 : State → Prop} (hx : p.tables.exec = Jvm.exec) (hb : c.code = cL_law) (hml : c.maxLocals = 9) (hown : s.vm.findClass RL = some m.cls) (hg : ∀ w ∈ GW, w.before #[Value.ref b] s = true) (hK : va_K κ.1 vwCl (kTy κ) s) (hX : XY κ (tA σ0 s.heap.size) s s.heap) (hXs : va_X b L xs s s.heap) (hbl : b < s.heap.size) (hbA : ¬ tA σ0 s.heap.size b) (zx : zroomX κ s room_1 601024 7293034) (hi0 : 0 ≤ i.toInt) (hi1 : i.toInt + 6 ≤ L) (hL9 : L ≤ 3072) {σ : Gh} {H : Heap} {locs : List Loc} {ls : Array Slot} (hT : TS κ fA σ0 σ s H locs) (hR : RI κ σ mm) (hlen : (zI σ (kR κ x 0) 1).toInt = (zI σ mm 13).toInt) (hl : lv_has ls 9 [(4, .int i), (3, .ref out), (2, .ref mm), (1, .ref x), (0, .ref b)]) (KK : ∀ (σ1 : Gh) (H : Heap) (locs : List Loc) (ls : Array Slot), TS (kX κ) fA σ0 σ1 s H locs → RI (kX κ) σ1 mm → (zI σ1 (kR κ x 0) 1).toInt = (zI σ1 mm 13).toInt → lv_has ls 9 [(4, .int i), (3, .ref out), (2, .ref mm), (1, .ref x), (0, .ref b)] → W p l e room_1 s m #[Value.ref b] below meth c H locs 601024 7293034 Q9 (F0 m 1432 ls [])) : W p l e room_1 s m #[Value.ref b] below meth c H locs 601024 7293034 Q9 (F0 m 1024 ls []) := by
  obtain ⟨y1, hy1⟩ : ∃ z, z = xs (ix i + 1) := ⟨_, rfl⟩
  obtain ⟨y2, hy2⟩ : ∃ z, z = xs (ix i + 2) := ⟨_, rfl⟩
  obtain ⟨y3, hy3⟩ : ∃ z, z = xs (ix i + 3) := ⟨_, rfl⟩
  obtain ⟨y4, hy4⟩ : ∃ z, z = xs (ix i + 4) := ⟨_, rfl⟩
  obtain ⟨y5, hy5⟩ : ∃ z, z = xs (ix i + 5) := ⟨_, rfl⟩
  have n0 : (0 : Int32).toInt = 0 := by decide
  have n1 : (1 : Int32).toInt = 1 := by decide
  have n2 : (2 : Int32).toInt = 2 := by decide
  have n3 : (3 : Int32).toInt = 3 := by decide
  have n4 : (4 : Int32).toInt = 4 := by decide
  have n5 : (5 : Int32).toInt = 5 := by decide
  obtain ⟨tx, etx⟩ : ∃ z, kR κ x 0 = z := ⟨_, rfl⟩
  rw [etx] at hlen
  have ttx : zk σ0 tx 6 := by rw [← etx]; exact ttx0
  refine lv_aload_n hx hb dL_law_1024 rfl (lv_at hl 3 rfl) ?_
  refine lv_aload_n hx hb dL_law_1025 rfl (lv_at hl 4 rfl) ?_
  refine lv_iload hx hb dL_law_1026 (lv_at hl 0 rfl) ?_
  refine lv_iconst (v := 1) hx hb dL_law_1028 (by decide) ?_
  refine lv_iadd hx hb dL_law_1029 ?_
  refine g_add (by omega) (by omega) (fun t1 ht1 => ?_)
  refine va_sld hx hb hXs hbl hbA hT.2.2.2 (g_in (by omega) (by omega)) dL_law_1030 ?_
  refine ti y1 (by rw [hy1]; exact congrArg xs (show t1.toNatClampNeg = ix i + 1 from by show t1.toInt.toNat = ix i + 1; unfold ix; omega)) ?_
  refine lv_aload_n hx hb dL_law_1031 rfl (lv_at hl 4 rfl) ?_
  refine lv_iload hx hb dL_law_1032 (lv_at hl 0 rfl) ?_
  refine lv_iconst (v := 2) hx hb dL_law_1034 (by decide) ?_
  refine lv_iadd hx hb dL_law_1035 ?_
  refine g_add (by omega) (by omega) (fun t2 ht2 => ?_)
  refine va_sld hx hb hXs hbl hbA hT.2.2.2 (g_in (by omega) (by omega)) dL_law_1036 ?_
  refine ti y2 (by rw [hy2]; exact congrArg xs (show t2.toNatClampNeg = ix i + 2 from by show t2.toInt.toNat = ix i + 2; unfold ix; omega)) ?_
  refine lv_aload_n hx hb dL_law_1037 rfl (lv_at hl 1 rfl) ?_
  have hTo := hT
  refine tHi (n := 4) (As := [.ref x, .int y1, .int y2, .ref out]) (rest := []) hx hb hml hown hg hT hK hX (L_setDetail l κ σ x y1 y2 out (hT.k t_x (by decide)) (hT.k t_out (by decide)) hlt) sub_hfW_fA (mwHS k1055 k1056 k83 k1057) ⟨by decide, by decide, by decide +kernel⟩ ⟨(Nat.le_of_ble_eq_true rfl), (Nat.le_of_ble_eq_true rfl)⟩ rfl hl.1 rfl (Nat.le_of_ble_eq_true rfl) dL_law_1038 zx (fun r4 s3 H locs hφ hE hT => ?_)
  have R5 := hR.ext hE ⟨rfl, rfl, fun _ => rfl, fun _ => rfl, fun _ => rfl, fun _ => rfl⟩
  have a6 : (zI s3 tx 1).toInt = (zI σ tx 1).toInt := by rw [(hTo.k ttx (by decide)).eI hE (by decide) rfl]
  have a7 : (zI s3 mm 13).toInt = (zI σ mm 13).toInt := by rw [(hTo.k t_mm (by decide)).eI hE (by decide) rfl]
  refine lv_istore (lv' := [(5, .int r4), (4, .int i), (3, .ref out), (2, .ref mm), (1, .ref x), (0, .ref b)]) hx hb dL_law_1041 hl (by decide) rfl (fun ls hl => ?_)
  refine lv_aload_n hx hb dL_law_1043 rfl (lv_at hl 3 rfl) ?_
  refine lv_aload_n hx hb dL_law_1044 rfl (lv_at hl 5 rfl) ?_
  refine lv_iload hx hb dL_law_1045 (lv_at hl 1 rfl) ?_
  refine lv_iconst (v := 1) hx hb dL_law_1047 (by decide) ?_
  refine lv_iadd hx hb dL_law_1048 ?_
  refine g_add (by omega) (by omega) (fun t8 ht8 => ?_)
  refine va_sld hx hb hXs hbl hbA hT.2.2.2 (g_in (by omega) (by omega)) dL_law_1049 ?_
  refine ti y1 (by rw [hy1]; exact congrArg xs (show t8.toNatClampNeg = ix i + 1 from by show t8.toInt.toNat = ix i + 1; unfold ix; omega)) ?_
  refine lv_aload_n hx hb dL_law_1050 rfl (lv_at hl 5 rfl) ?_
  refine lv_iload hx hb dL_law_1051 (lv_at hl 1 rfl) ?_
  refine lv_iconst (v := 2) hx hb dL_law_1053 (by decide) ?_
  refine lv_iadd hx hb dL_law_1054 ?_
  refine g_add (by omega) (by omega) (fun t9 ht9 => ?_)
  refine va_sld hx hb hXs hbl hbA hT.2.2.2 (g_in (by omega) (by omega)) dL_law_1055 ?_
  refine ti y2 (by rw [hy2]; exact congrArg xs (show t9.toNatClampNeg = ix i + 2 from by show t9.toInt.toNat = ix i + 2; unfold ix; omega)) ?_
  have hTo := hT
  refine tVl (n := 2) (As := [.int y1, .int y2]) (rest := []) hx hb hml hown hg hT hK hX (X6_setDetail l (kX κ) s3 mm y1 y2 (hT.k t_mm (by decide)) R5) sub_gX_fA (mwV k1620 k1621 k1622 k92 k1623) ⟨rfl, by decide, by decide, by decide +kernel⟩ ⟨(Nat.le_of_ble_eq_true rfl), (Nat.le_of_ble_eq_true rfl)⟩ (hT.o20 (hT.k t_mm (by decide))) rfl rfl hl.1 rfl (Nat.le_of_ble_eq_true rfl) dL_law_1056 zx (fun r11 s10 H locs hφ hE hT => ?_)
  have f12 := hφ
  have a13 : (zI s10 tx 1).toInt = (zI s3 tx 1).toInt := by rw [(hTo.k ttx (by decide)).eI hE (by decide) rfl]
  have a14 : (zI s10 mm 13).toInt = (zI s3 mm 13).toInt := by rw [(hTo.k t_mm (by decide)).eI hE (by decide) rfl]
  refine lv_lstore (lv' := [(6, .long r11), (5, .int r4), (4, .int i), (3, .ref out), (2, .ref mm), (1, .ref x), (0, .ref b)]) hx hb dL_law_1059 hl (by decide) rfl (fun ls hl => ?_)
  refine lv_goto (tgt := 1432) hx hb dL_law_1061 (by decide) ?_
  exact KK s10 _ _ _ hT f12 (by rw [etx]; omega) (lv_sub hl [2, 3, 4, 5, 6] rfl)
set_option maxHeartbeats 4000000 in
set_option maxRecDepth 100000 in
theorem lc_29 (l : Launch) (κ : Kt) (σ0 : Gh) (x mm out b : Nat) (t_x : zk σ0 x 7) (t_mm : zk σ0 mm 20) (t_out : zk σ0 out 24) (ttx0 : zk σ0 (kR κ x 0) 6) (hlt : l.stackTraces = false) {p : Program} {e : Env} {s : State} {m : MethodId} {below : List Frame} {meth : Method} {c : Code} {L : Nat} {xs : Nat → Int32} {i : Int32} {Q9 : State → Prop} (hx : p.tables.exec = Jvm.exec) (hb : c.code = cL_law) (hml : c.maxLocals = 9) (hown : s.vm.findClass RL = some m.cls) (hg : ∀ w ∈ GW, w.before #[Value.ref b] s = true) (hK : va_K κ.1 vwCl (kTy κ) s) (hX : XY κ (tA σ0 s.heap.size) s s.heap) (hXs : va_X b L xs s s.heap) (hbl : b < s.heap.size) (hbA : ¬ tA σ0 s.heap.size b) (zx : zroomX κ s room_1 601024 7293034) (hi0 : 0 ≤ i.toInt) (hi1 : i.toInt + 6 ≤ L) (hL9 : L ≤ 3072) {σ : Gh} {H : Heap} {locs : List Loc} {ls : Array Slot} (hT : TS κ fA σ0 σ s H locs) (hR : RI κ σ mm) (hlen : (zI σ (kR κ x 0) 1).toInt = (zI σ mm 13).toInt) (hl : lv_has ls 9 [(4, .int i), (3, .ref out), (2, .ref mm), (1, .ref x), (0, .ref b)]) (KK : ∀ (σ1 : Gh) (H : Heap) (locs : List Loc) (ls : Array Slot), TS (kX κ) fA σ0 σ1 s H locs → RI (kX κ) σ1 mm → (zI σ1 (kR κ x 0) 1).toInt = (zI σ1 mm 13).toInt → lv_has ls 9 [(4, .int i), (3, .ref out), (2, .ref mm), (1, .ref x), (0, .ref b)] → W p l e room_1 s m #[Value.ref b] below meth c H locs 601024 7293034 Q9 (F0 m 1432 ls [])) : W p l e room_1 s m #[Value.ref b] below meth c H locs 601024 7293034 Q9 (F0 m 1064 ls []) := by
  obtain ⟨y1, hy1⟩ : ∃ z, z = xs (ix i + 1) := ⟨_, rfl⟩
  obtain ⟨y2, hy2⟩ : ∃ z, z = xs (ix i + 2) := ⟨_, rfl⟩
  obtain ⟨y3, hy3⟩ : ∃ z, z = xs (ix i + 3) := ⟨_, rfl⟩
  obtain ⟨y4, hy4⟩ : ∃ z, z = xs (ix i + 4) := ⟨_, rfl⟩
  obtain ⟨y5, hy5⟩ : ∃ z, z = xs (ix i + 5) := ⟨_, rfl⟩
  have n0 : (0 : Int32).toInt = 0 := by decide
  have n1 : (1 : Int32).toInt = 1 := by decide
  have n2 : (2 : Int32).toInt = 2 := by decide
  have n3 : (3 : Int32).toInt = 3 := by decide
  have n4 : (4 : Int32).toInt = 4 := by decide
  have n5 : (5 : Int32).toInt = 5 := by decide
  obtain ⟨tx, etx⟩ : ∃ z, kR κ x 0 = z := ⟨_, rfl⟩
  rw [etx] at hlen
  have ttx : zk σ0 tx 6 := by rw [← etx]; exact ttx0
  refine lv_aload_n hx hb dL_law_1064 rfl (lv_at hl 3 rfl) ?_
  refine lv_aload_n hx hb dL_law_1065 rfl (lv_at hl 4 rfl) ?_
  refine lv_iload hx hb dL_law_1066 (lv_at hl 0 rfl) ?_
  refine lv_iconst (v := 1) hx hb dL_law_1068 (by decide) ?_
  refine lv_iadd hx hb dL_law_1069 ?_
  refine g_add (by omega) (by omega) (fun t1 ht1 => ?_)
  refine va_sld hx hb hXs hbl hbA hT.2.2.2 (g_in (by omega) (by omega)) dL_law_1070 ?_
  refine ti y1 (by rw [hy1]; exact congrArg xs (show t1.toNatClampNeg = ix i + 1 from by show t1.toInt.toNat = ix i + 1; unfold ix; omega)) ?_
  refine lv_aload_n hx hb dL_law_1071 rfl (lv_at hl 4 rfl) ?_
  refine lv_iload hx hb dL_law_1072 (lv_at hl 0 rfl) ?_
  refine lv_iconst (v := 2) hx hb dL_law_1074 (by decide) ?_
  refine lv_iadd hx hb dL_law_1075 ?_
  refine g_add (by omega) (by omega) (fun t2 ht2 => ?_)
  refine va_sld hx hb hXs hbl hbA hT.2.2.2 (g_in (by omega) (by omega)) dL_law_1076 ?_
  refine ti y2 (by rw [hy2]; exact congrArg xs (show t2.toNatClampNeg = ix i + 2 from by show t2.toInt.toNat = ix i + 2; unfold ix; omega)) ?_
  refine lv_if_eq (tgt := 1084) hx hb dL_law_1077 (by decide) (fun c9 => ?_) (fun c9 => ?_)
  · have c7 := gi_eq c9
    refine lv_iconst (v := 0) hx hb dL_law_1084 (by decide) ?_
    refine lv_aload_n hx hb dL_law_1085 rfl (lv_at hl 1 rfl) ?_
    have hTo := hT
    refine tHi (n := 4) (As := [.ref x, .int y1, .int 0, .ref out]) (rest := []) hx hb hml hown hg hT hK hX (L_threshold l κ σ x y1 0 out (hT.k t_x (by decide)) (hT.k t_out (by decide)) isB0 hlt) sub_hfW_fA (mwHS k1065 k1066 k83 k1067) ⟨by decide, by decide, by decide +kernel⟩ ⟨(Nat.le_of_ble_eq_true rfl), (Nat.le_of_ble_eq_true rfl)⟩ rfl hl.1 rfl (Nat.le_of_ble_eq_true rfl) dL_law_1086 zx (fun r4 s3 H locs hφ hE hT => ?_)
    have R5 := hR.ext hE ⟨rfl, rfl, fun _ => rfl, fun _ => rfl, fun _ => rfl, fun _ => rfl⟩
    have a6 : (zI s3 tx 1).toInt = (zI σ tx 1).toInt := by rw [(hTo.k ttx (by decide)).eI hE (by decide) rfl]
    have a7 : (zI s3 mm 13).toInt = (zI σ mm 13).toInt := by rw [(hTo.k t_mm (by decide)).eI hE (by decide) rfl]
    refine lv_istore (lv' := [(5, .int r4), (4, .int i), (3, .ref out), (2, .ref mm), (1, .ref x), (0, .ref b)]) hx hb dL_law_1089 hl (by decide) rfl (fun ls hl => ?_)
    refine lv_aload_n hx hb dL_law_1091 rfl (lv_at hl 3 rfl) ?_
    refine lv_aload_n hx hb dL_law_1092 rfl (lv_at hl 5 rfl) ?_
    refine lv_iload hx hb dL_law_1093 (lv_at hl 1 rfl) ?_
    refine lv_iconst (v := 1) hx hb dL_law_1095 (by decide) ?_
    refine lv_iadd hx hb dL_law_1096 ?_
    refine g_add (by omega) (by omega) (fun t8 ht8 => ?_)
    refine va_sld hx hb hXs hbl hbA hT.2.2.2 (g_in (by omega) (by omega)) dL_law_1097 ?_
    refine ti y1 (by rw [hy1]; exact congrArg xs (show t8.toNatClampNeg = ix i + 1 from by show t8.toInt.toNat = ix i + 1; unfold ix; omega)) ?_
    refine lv_aload_n hx hb dL_law_1098 rfl (lv_at hl 5 rfl) ?_
    refine lv_iload hx hb dL_law_1099 (lv_at hl 1 rfl) ?_
    refine lv_iconst (v := 2) hx hb dL_law_1101 (by decide) ?_
    refine lv_iadd hx hb dL_law_1102 ?_
    refine g_add (by omega) (by omega) (fun t9 ht9 => ?_)
    refine va_sld hx hb hXs hbl hbA hT.2.2.2 (g_in (by omega) (by omega)) dL_law_1103 ?_
    refine ti y2 (by rw [hy2]; exact congrArg xs (show t9.toNatClampNeg = ix i + 2 from by show t9.toInt.toNat = ix i + 2; unfold ix; omega)) ?_
    refine lv_if_eq (tgt := 1111) hx hb dL_law_1104 (by decide) (fun c9 => ?_) (fun c9 => ?_)
    · have c7 := gi_eq c9
      refine lv_iconst (v := 0) hx hb dL_law_1111 (by decide) ?_
      have hTo := hT
      refine tVi (n := 2) (As := [.int y1, .int 0]) (rest := []) hx hb hml hown hg hT hK hX (X6_threshold l (kX κ) s3 mm y1 0 (hT.k t_mm (by decide)) isB0 R5) sub_gX_fA (mwV k1626 k1627 k1628 k92 k1629) ⟨rfl, by decide, by decide, by decide +kernel⟩ ⟨(Nat.le_of_ble_eq_true rfl), (Nat.le_of_ble_eq_true rfl)⟩ (hT.o20 (hT.k t_mm (by decide))) rfl rfl hl.1 rfl (Nat.le_of_ble_eq_true rfl) dL_law_1112 zx (fun r11 s10 H locs hφ hE hT => ?_)
      have f12 := hφ
      have a13 : (zI s10 tx 1).toInt = (zI s3 tx 1).toInt := by rw [(hTo.k ttx (by decide)).eI hE (by decide) rfl]
      have a14 : (zI s10 mm 13).toInt = (zI s3 mm 13).toInt := by rw [(hTo.k t_mm (by decide)).eI hE (by decide) rfl]
      refine lv_istore (lv' := [(6, .int r11), (5, .int r4), (4, .int i), (3, .ref out), (2, .ref mm), (1, .ref x), (0, .ref b)]) hx hb dL_law_1115 hl (by decide) rfl (fun ls hl => ?_)
      refine lv_goto (tgt := 1432) hx hb dL_law_1117 (by decide) ?_
      exact KK s10 _ _ _ hT f12 (by rw [etx]; omega) (lv_sub hl [2, 3, 4, 5, 6] rfl)
    · have c7 := gi_ne c9
      refine lv_iconst (v := 1) hx hb dL_law_1107 (by decide) ?_
      refine lv_goto (tgt := 1112) hx hb dL_law_1108 (by decide) ?_
      have hTo := hT
      refine tVi (n := 2) (As := [.int y1, .int 1]) (rest := []) hx hb hml hown hg hT hK hX (X6_threshold l (kX κ) s3 mm y1 1 (hT.k t_mm (by decide)) isB1 R5) sub_gX_fA (mwV k1626 k1627 k1628 k92 k1629) ⟨rfl, by decide, by decide, by decide +kernel⟩ ⟨(Nat.le_of_ble_eq_true rfl), (Nat.le_of_ble_eq_true rfl)⟩ (hT.o20 (hT.k t_mm (by decide))) rfl rfl hl.1 rfl (Nat.le_of_ble_eq_true rfl) dL_law_1112 zx (fun r16 s15 H locs hφ hE hT => ?_)
      have f17 := hφ
      have a18 : (zI s15 tx 1).toInt = (zI s3 tx 1).toInt := by rw [(hTo.k ttx (by decide)).eI hE (by decide) rfl]
      have a19 : (zI s15 mm 13).toInt = (zI s3 mm 13).toInt := by rw [(hTo.k t_mm (by decide)).eI hE (by decide) rfl]
      refine lv_istore (lv' := [(6, .int r16), (5, .int r4), (4, .int i), (3, .ref out), (2, .ref mm), (1, .ref x), (0, .ref b)]) hx hb dL_law_1115 hl (by decide) rfl (fun ls hl => ?_)
      refine lv_goto (tgt := 1432) hx hb dL_law_1117 (by decide) ?_
      exact KK s15 _ _ _ hT f17 (by rw [etx]; omega) (lv_sub hl [2, 3, 4, 5, 6] rfl)
  · have c7 := gi_ne c9
    refine lv_iconst (v := 1) hx hb dL_law_1080 (by decide) ?_
    refine lv_goto (tgt := 1085) hx hb dL_law_1081 (by decide) ?_
    refine lv_aload_n hx hb dL_law_1085 rfl (lv_at hl 1 rfl) ?_
    have hTo := hT
    refine tHi (n := 4) (As := [.ref x, .int y1, .int 1, .ref out]) (rest := []) hx hb hml hown hg hT hK hX (L_threshold l κ σ x y1 1 out (hT.k t_x (by decide)) (hT.k t_out (by decide)) isB1 hlt) sub_hfW_fA (mwHS k1065 k1066 k83 k1067) ⟨by decide, by decide, by decide +kernel⟩ ⟨(Nat.le_of_ble_eq_true rfl), (Nat.le_of_ble_eq_true rfl)⟩ rfl hl.1 rfl (Nat.le_of_ble_eq_true rfl) dL_law_1086 zx (fun r21 s20 H locs hφ hE hT => ?_)
    have R22 := hR.ext hE ⟨rfl, rfl, fun _ => rfl, fun _ => rfl, fun _ => rfl, fun _ => rfl⟩
    have a23 : (zI s20 tx 1).toInt = (zI σ tx 1).toInt := by rw [(hTo.k ttx (by decide)).eI hE (by decide) rfl]
    have a24 : (zI s20 mm 13).toInt = (zI σ mm 13).toInt := by rw [(hTo.k t_mm (by decide)).eI hE (by decide) rfl]
    refine lv_istore (lv' := [(5, .int r21), (4, .int i), (3, .ref out), (2, .ref mm), (1, .ref x), (0, .ref b)]) hx hb dL_law_1089 hl (by decide) rfl (fun ls hl => ?_)
    refine lv_aload_n hx hb dL_law_1091 rfl (lv_at hl 3 rfl) ?_
    refine lv_aload_n hx hb dL_law_1092 rfl (lv_at hl 5 rfl) ?_
    refine lv_iload hx hb dL_law_1093 (lv_at hl 1 rfl) ?_
    refine lv_iconst (v := 1) hx hb dL_law_1095 (by decide) ?_
    refine lv_iadd hx hb dL_law_1096 ?_
    refine g_add (by omega) (by omega) (fun t25 ht25 => ?_)
    refine va_sld hx hb hXs hbl hbA hT.2.2.2 (g_in (by omega) (by omega)) dL_law_1097 ?_
    refine ti y1 (by rw [hy1]; exact congrArg xs (show t25.toNatClampNeg = ix i + 1 from by show t25.toInt.toNat = ix i + 1; unfold ix; omega)) ?_
    refine lv_aload_n hx hb dL_law_1098 rfl (lv_at hl 5 rfl) ?_
    refine lv_iload hx hb dL_law_1099 (lv_at hl 1 rfl) ?_
    refine lv_iconst (v := 2) hx hb dL_law_1101 (by decide) ?_
    refine lv_iadd hx hb dL_law_1102 ?_
    refine g_add (by omega) (by omega) (fun t26 ht26 => ?_)
    refine va_sld hx hb hXs hbl hbA hT.2.2.2 (g_in (by omega) (by omega)) dL_law_1103 ?_
    refine ti y2 (by rw [hy2]; exact congrArg xs (show t26.toNatClampNeg = ix i + 2 from by show t26.toInt.toNat = ix i + 2; unfold ix; omega)) ?_
    refine lv_if_eq (tgt := 1111) hx hb dL_law_1104 (by decide) (fun c9 => ?_) (fun c9 => ?_)
    · have c7 := gi_eq c9
      refine lv_iconst (v := 0) hx hb dL_law_1111 (by decide) ?_
      have hTo := hT
      refine tVi (n := 2) (As := [.int y1, .int 0]) (rest := []) hx hb hml hown hg hT hK hX (X6_threshold l (kX κ) s20 mm y1 0 (hT.k t_mm (by decide)) isB0 R22) sub_gX_fA (mwV k1626 k1627 k1628 k92 k1629) ⟨rfl, by decide, by decide, by decide +kernel⟩ ⟨(Nat.le_of_ble_eq_true rfl), (Nat.le_of_ble_eq_true rfl)⟩ (hT.o20 (hT.k t_mm (by decide))) rfl rfl hl.1 rfl (Nat.le_of_ble_eq_true rfl) dL_law_1112 zx (fun r28 s27 H locs hφ hE hT => ?_)
      have f29 := hφ
      have a30 : (zI s27 tx 1).toInt = (zI s20 tx 1).toInt := by rw [(hTo.k ttx (by decide)).eI hE (by decide) rfl]
      have a31 : (zI s27 mm 13).toInt = (zI s20 mm 13).toInt := by rw [(hTo.k t_mm (by decide)).eI hE (by decide) rfl]
      refine lv_istore (lv' := [(6, .int r28), (5, .int r21), (4, .int i), (3, .ref out), (2, .ref mm), (1, .ref x), (0, .ref b)]) hx hb dL_law_1115 hl (by decide) rfl (fun ls hl => ?_)
      refine lv_goto (tgt := 1432) hx hb dL_law_1117 (by decide) ?_
      exact KK s27 _ _ _ hT f29 (by rw [etx]; omega) (lv_sub hl [2, 3, 4, 5, 6] rfl)
    · have c7 := gi_ne c9
      refine lv_iconst (v := 1) hx hb dL_law_1107 (by decide) ?_
      refine lv_goto (tgt := 1112) hx hb dL_law_1108 (by decide) ?_
      have hTo := hT
      refine tVi (n := 2) (As := [.int y1, .int 1]) (rest := []) hx hb hml hown hg hT hK hX (X6_threshold l (kX κ) s20 mm y1 1 (hT.k t_mm (by decide)) isB1 R22) sub_gX_fA (mwV k1626 k1627 k1628 k92 k1629) ⟨rfl, by decide, by decide, by decide +kernel⟩ ⟨(Nat.le_of_ble_eq_true rfl), (Nat.le_of_ble_eq_true rfl)⟩ (hT.o20 (hT.k t_mm (by decide))) rfl rfl hl.1 rfl (Nat.le_of_ble_eq_true rfl) dL_law_1112 zx (fun r33 s32 H locs hφ hE hT => ?_)
      have f34 := hφ
      have a35 : (zI s32 tx 1).toInt = (zI s20 tx 1).toInt := by rw [(hTo.k ttx (by decide)).eI hE (by decide) rfl]
      have a36 : (zI s32 mm 13).toInt = (zI s20 mm 13).toInt := by rw [(hTo.k t_mm (by decide)).eI hE (by decide) rfl]
      refine lv_istore (lv' := [(6, .int r33), (5, .int r21), (4, .int i), (3, .ref out), (2, .ref mm), (1, .ref x), (0, .ref b)]) hx hb dL_law_1115 hl (by decide) rfl (fun ls hl => ?_)
      refine lv_goto (tgt := 1432) hx hb dL_law_1117 (by decide) ?_
      exact KK s32 _ _ _ hT f34 (by rw [etx]; omega) (lv_sub hl [2, 3, 4, 5, 6] rfl)
set_option maxHeartbeats 4000000 in
set_option maxRecDepth 100000 in
theorem lc_30 (l : Launch) (κ : Kt) (σ0 : Gh) (x mm out b : Nat) (t_x : zk σ0 x 7) (t_mm : zk σ0 mm 20) (t_out : zk σ0 out 24) (ttx0 : zk σ0 (kR κ x 0) 6) (hlt : l.stackTraces = false) {p : Program} {e : Env} {s : State} {m : MethodId} {below : List Frame} {meth : Method} {c : Code} {L : Nat} {xs : Nat → Int32} {i : Int32} {Q9 : State → Prop} (hx : p.tables.exec = Jvm.exec) (hb : c.code = cL_law) (hml : c.maxLocals = 9) (hown : s.vm.findClass RL = some m.cls) (hg : ∀ w ∈ GW, w.before #[Value.ref b] s = true) (hK : va_K κ.1 vwCl (kTy κ) s) (hX : XY κ (tA σ0 s.heap.size) s s.heap) (hXs : va_X b L xs s s.heap) (hbl : b < s.heap.size) (hbA : ¬ tA σ0 s.heap.size b) (zx : zroomX κ s room_1 601024 7293034) (hi0 : 0 ≤ i.toInt) (hi1 : i.toInt + 6 ≤ L) (hL9 : L ≤ 3072) {σ : Gh} {H : Heap} {locs : List Loc} {ls : Array Slot} (hT : TS κ fA σ0 σ s H locs) (hR : RI κ σ mm) (hlen : (zI σ (kR κ x 0) 1).toInt = (zI σ mm 13).toInt) (hl : lv_has ls 9 [(4, .int i), (3, .ref out), (2, .ref mm), (1, .ref x), (0, .ref b)]) (KK : ∀ (σ1 : Gh) (H : Heap) (locs : List Loc) (ls : Array Slot), TS (kX κ) fA σ0 σ1 s H locs → RI (kX κ) σ1 mm → (zI σ1 (kR κ x 0) 1).toInt = (zI σ1 mm 13).toInt → lv_has ls 9 [(4, .int i), (3, .ref out), (2, .ref mm), (1, .ref x), (0, .ref b)] → W p l e room_1 s m #[Value.ref b] below meth c H locs 601024 7293034 Q9 (F0 m 1432 ls [])) : W p l e room_1 s m #[Value.ref b] below meth c H locs 601024 7293034 Q9 (F0 m 1120 ls []) := by
  obtain ⟨y1, hy1⟩ : ∃ z, z = xs (ix i + 1) := ⟨_, rfl⟩
  obtain ⟨y2, hy2⟩ : ∃ z, z = xs (ix i + 2) := ⟨_, rfl⟩
  obtain ⟨y3, hy3⟩ : ∃ z, z = xs (ix i + 3) := ⟨_, rfl⟩
  obtain ⟨y4, hy4⟩ : ∃ z, z = xs (ix i + 4) := ⟨_, rfl⟩
  obtain ⟨y5, hy5⟩ : ∃ z, z = xs (ix i + 5) := ⟨_, rfl⟩
  have n0 : (0 : Int32).toInt = 0 := by decide
  have n1 : (1 : Int32).toInt = 1 := by decide
  have n2 : (2 : Int32).toInt = 2 := by decide
  have n3 : (3 : Int32).toInt = 3 := by decide
  have n4 : (4 : Int32).toInt = 4 := by decide
  have n5 : (5 : Int32).toInt = 5 := by decide
  obtain ⟨tx, etx⟩ : ∃ z, kR κ x 0 = z := ⟨_, rfl⟩
  rw [etx] at hlen
  have ttx : zk σ0 tx 6 := by rw [← etx]; exact ttx0
  refine lv_aload_n hx hb dL_law_1120 rfl (lv_at hl 3 rfl) ?_
  refine lv_aload_n hx hb dL_law_1121 rfl (lv_at hl 4 rfl) ?_
  refine lv_iload hx hb dL_law_1122 (lv_at hl 0 rfl) ?_
  refine lv_iconst (v := 1) hx hb dL_law_1124 (by decide) ?_
  refine lv_iadd hx hb dL_law_1125 ?_
  refine g_add (by omega) (by omega) (fun t1 ht1 => ?_)
  refine va_sld hx hb hXs hbl hbA hT.2.2.2 (g_in (by omega) (by omega)) dL_law_1126 ?_
  refine ti y1 (by rw [hy1]; exact congrArg xs (show t1.toNatClampNeg = ix i + 1 from by show t1.toInt.toNat = ix i + 1; unfold ix; omega)) ?_
  refine lv_aload_n hx hb dL_law_1127 rfl (lv_at hl 1 rfl) ?_
  have hTo := hT
  refine tHi (n := 3) (As := [.ref x, .int y1, .ref out]) (rest := []) hx hb hml hown hg hT hK hX (L_quantize l κ σ x y1 out (hT.k t_x (by decide)) (hT.k t_out (by decide)) hlt) sub_hfW_fA (mwHS k1084 k1085 k83 k1086) ⟨by decide, by decide, by decide +kernel⟩ ⟨(Nat.le_of_ble_eq_true rfl), (Nat.le_of_ble_eq_true rfl)⟩ rfl hl.1 rfl (Nat.le_of_ble_eq_true rfl) dL_law_1128 zx (fun r3 s2 H locs hφ hE hT => ?_)
  have R4 := hR.ext hE ⟨rfl, rfl, fun _ => rfl, fun _ => rfl, fun _ => rfl, fun _ => rfl⟩
  have a5 : (zI s2 tx 1).toInt = (zI σ tx 1).toInt := by rw [(hTo.k ttx (by decide)).eI hE (by decide) rfl]
  have a6 : (zI s2 mm 13).toInt = (zI σ mm 13).toInt := by rw [(hTo.k t_mm (by decide)).eI hE (by decide) rfl]
  refine lv_istore (lv' := [(5, .int r3), (4, .int i), (3, .ref out), (2, .ref mm), (1, .ref x), (0, .ref b)]) hx hb dL_law_1131 hl (by decide) rfl (fun ls hl => ?_)
  refine lv_aload_n hx hb dL_law_1133 rfl (lv_at hl 3 rfl) ?_
  refine lv_aload_n hx hb dL_law_1134 rfl (lv_at hl 5 rfl) ?_
  refine lv_iload hx hb dL_law_1135 (lv_at hl 1 rfl) ?_
  refine lv_iconst (v := 1) hx hb dL_law_1137 (by decide) ?_
  refine lv_iadd hx hb dL_law_1138 ?_
  refine g_add (by omega) (by omega) (fun t7 ht7 => ?_)
  refine va_sld hx hb hXs hbl hbA hT.2.2.2 (g_in (by omega) (by omega)) dL_law_1139 ?_
  refine ti y1 (by rw [hy1]; exact congrArg xs (show t7.toNatClampNeg = ix i + 1 from by show t7.toInt.toNat = ix i + 1; unfold ix; omega)) ?_
  have hTo := hT
  refine tVl (n := 1) (As := [.int y1]) (rest := []) hx hb hml hown hg hT hK hX (X6_quantize l (kX κ) s2 mm y1 (hT.k t_mm (by decide)) R4) sub_gX_fA (mwV k1634 k1635 k1636 k92 k1637) ⟨rfl, by decide, by decide, by decide +kernel⟩ ⟨(Nat.le_of_ble_eq_true rfl), (Nat.le_of_ble_eq_true rfl)⟩ (hT.o20 (hT.k t_mm (by decide))) rfl rfl hl.1 rfl (Nat.le_of_ble_eq_true rfl) dL_law_1140 zx (fun r9 s8 H locs hφ hE hT => ?_)
  have f10 := hφ
  have a11 : (zI s8 tx 1).toInt = (zI s2 tx 1).toInt := by rw [(hTo.k ttx (by decide)).eI hE (by decide) rfl]
  have a12 : (zI s8 mm 13).toInt = (zI s2 mm 13).toInt := by rw [(hTo.k t_mm (by decide)).eI hE (by decide) rfl]
  refine lv_lstore (lv' := [(6, .long r9), (5, .int r3), (4, .int i), (3, .ref out), (2, .ref mm), (1, .ref x), (0, .ref b)]) hx hb dL_law_1143 hl (by decide) rfl (fun ls hl => ?_)
  refine lv_goto (tgt := 1432) hx hb dL_law_1145 (by decide) ?_
  exact KK s8 _ _ _ hT f10 (by rw [etx]; omega) (lv_sub hl [2, 3, 4, 5, 6] rfl)
set_option maxHeartbeats 4000000 in
set_option maxRecDepth 100000 in
theorem lc_31 (l : Launch) (κ : Kt) (σ0 : Gh) (x mm out b : Nat) (t_x : zk σ0 x 7) (t_mm : zk σ0 mm 20) (t_out : zk σ0 out 24) (ttx0 : zk σ0 (kR κ x 0) 6) (hlt : l.stackTraces = false) {p : Program} {e : Env} {s : State} {m : MethodId} {below : List Frame} {meth : Method} {c : Code} {L : Nat} {xs : Nat → Int32} {i : Int32} {Q9 : State → Prop} (hx : p.tables.exec = Jvm.exec) (hb : c.code = cL_law) (hml : c.maxLocals = 9) (hown : s.vm.findClass RL = some m.cls) (hg : ∀ w ∈ GW, w.before #[Value.ref b] s = true) (hK : va_K κ.1 vwCl (kTy κ) s) (hX : XY κ (tA σ0 s.heap.size) s s.heap) (hXs : va_X b L xs s s.heap) (hbl : b < s.heap.size) (hbA : ¬ tA σ0 s.heap.size b) (zx : zroomX κ s room_1 601024 7293034) (hi0 : 0 ≤ i.toInt) (hi1 : i.toInt + 6 ≤ L) (hL9 : L ≤ 3072) {σ : Gh} {H : Heap} {locs : List Loc} {ls : Array Slot} (hT : TS κ fA σ0 σ s H locs) (hR : RI κ σ mm) (hlen : (zI σ (kR κ x 0) 1).toInt = (zI σ mm 13).toInt) (hl : lv_has ls 9 [(4, .int i), (3, .ref out), (2, .ref mm), (1, .ref x), (0, .ref b)]) (KK : ∀ (σ1 : Gh) (H : Heap) (locs : List Loc) (ls : Array Slot), TS (kX κ) fA σ0 σ1 s H locs → RI (kX κ) σ1 mm → (zI σ1 (kR κ x 0) 1).toInt = (zI σ1 mm 13).toInt → lv_has ls 9 [(4, .int i), (3, .ref out), (2, .ref mm), (1, .ref x), (0, .ref b)] → W p l e room_1 s m #[Value.ref b] below meth c H locs 601024 7293034 Q9 (F0 m 1432 ls [])) : W p l e room_1 s m #[Value.ref b] below meth c H locs 601024 7293034 Q9 (F0 m 1148 ls []) := by
  obtain ⟨y1, hy1⟩ : ∃ z, z = xs (ix i + 1) := ⟨_, rfl⟩
  obtain ⟨y2, hy2⟩ : ∃ z, z = xs (ix i + 2) := ⟨_, rfl⟩
  obtain ⟨y3, hy3⟩ : ∃ z, z = xs (ix i + 3) := ⟨_, rfl⟩
  obtain ⟨y4, hy4⟩ : ∃ z, z = xs (ix i + 4) := ⟨_, rfl⟩
  obtain ⟨y5, hy5⟩ : ∃ z, z = xs (ix i + 5) := ⟨_, rfl⟩
  have n0 : (0 : Int32).toInt = 0 := by decide
  have n1 : (1 : Int32).toInt = 1 := by decide
  have n2 : (2 : Int32).toInt = 2 := by decide
  have n3 : (3 : Int32).toInt = 3 := by decide
  have n4 : (4 : Int32).toInt = 4 := by decide
  have n5 : (5 : Int32).toInt = 5 := by decide
  obtain ⟨tx, etx⟩ : ∃ z, kR κ x 0 = z := ⟨_, rfl⟩
  rw [etx] at hlen
  have ttx : zk σ0 tx 6 := by rw [← etx]; exact ttx0
  refine lv_aload_n hx hb dL_law_1148 rfl (lv_at hl 3 rfl) ?_
  refine lv_aload_n hx hb dL_law_1149 rfl (lv_at hl 4 rfl) ?_
  refine lv_iload hx hb dL_law_1150 (lv_at hl 0 rfl) ?_
  refine lv_iconst (v := 1) hx hb dL_law_1152 (by decide) ?_
  refine lv_iadd hx hb dL_law_1153 ?_
  refine g_add (by omega) (by omega) (fun t1 ht1 => ?_)
  refine va_sld hx hb hXs hbl hbA hT.2.2.2 (g_in (by omega) (by omega)) dL_law_1154 ?_
  refine ti y1 (by rw [hy1]; exact congrArg xs (show t1.toNatClampNeg = ix i + 1 from by show t1.toInt.toNat = ix i + 1; unfold ix; omega)) ?_
  refine lv_aload_n hx hb dL_law_1155 rfl (lv_at hl 1 rfl) ?_
  have hTo := hT
  refine tHi (n := 3) (As := [.ref x, .int y1, .ref out]) (rest := []) hx hb hml hown hg hT hK hX (L_keepLargest l κ σ x y1 out (hT.k t_x (by decide)) (hT.k t_out (by decide)) hlt) sub_hfW_fA (mwHS k1100 k1101 k83 k1102) ⟨by decide, by decide, by decide +kernel⟩ ⟨(Nat.le_of_ble_eq_true rfl), (Nat.le_of_ble_eq_true rfl)⟩ rfl hl.1 rfl (Nat.le_of_ble_eq_true rfl) dL_law_1156 zx (fun r3 s2 H locs hφ hE hT => ?_)
  have R4 := hR.ext hE ⟨rfl, rfl, fun _ => rfl, fun _ => rfl, fun _ => rfl, fun _ => rfl⟩
  have a5 : (zI s2 tx 1).toInt = (zI σ tx 1).toInt := by rw [(hTo.k ttx (by decide)).eI hE (by decide) rfl]
  have a6 : (zI s2 mm 13).toInt = (zI σ mm 13).toInt := by rw [(hTo.k t_mm (by decide)).eI hE (by decide) rfl]
  refine lv_istore (lv' := [(5, .int r3), (4, .int i), (3, .ref out), (2, .ref mm), (1, .ref x), (0, .ref b)]) hx hb dL_law_1159 hl (by decide) rfl (fun ls hl => ?_)
  refine lv_aload_n hx hb dL_law_1161 rfl (lv_at hl 3 rfl) ?_
  refine lv_aload_n hx hb dL_law_1162 rfl (lv_at hl 5 rfl) ?_
  refine lv_iload hx hb dL_law_1163 (lv_at hl 1 rfl) ?_
  refine lv_iconst (v := 1) hx hb dL_law_1165 (by decide) ?_
  refine lv_iadd hx hb dL_law_1166 ?_
  refine g_add (by omega) (by omega) (fun t7 ht7 => ?_)
  refine va_sld hx hb hXs hbl hbA hT.2.2.2 (g_in (by omega) (by omega)) dL_law_1167 ?_
  refine ti y1 (by rw [hy1]; exact congrArg xs (show t7.toNatClampNeg = ix i + 1 from by show t7.toInt.toNat = ix i + 1; unfold ix; omega)) ?_
  have hTo := hT
  refine tVl (n := 1) (As := [.int y1]) (rest := []) hx hb hml hown hg hT hK hX (X6_keepLargest l (kX κ) s2 mm y1 (hT.k t_mm (by decide)) R4) sub_gZ_fA (mwV k1638 k1639 k1640 k92 k1641) ⟨rfl, by decide, by decide, by decide +kernel⟩ ⟨(Nat.le_of_ble_eq_true rfl), (Nat.le_of_ble_eq_true rfl)⟩ (hT.o20 (hT.k t_mm (by decide))) rfl rfl hl.1 rfl (Nat.le_of_ble_eq_true rfl) dL_law_1168 zx (fun r9 s8 H locs hφ hE hT => ?_)
  have f10 := hφ
  have a11 : (zI s8 tx 1).toInt = (zI s2 tx 1).toInt := by rw [(hTo.k ttx (by decide)).eI hE (by decide) rfl]
  have a12 : (zI s8 mm 13).toInt = (zI s2 mm 13).toInt := by rw [(hTo.k t_mm (by decide)).eI hE (by decide) rfl]
  refine lv_lstore (lv' := [(6, .long r9), (5, .int r3), (4, .int i), (3, .ref out), (2, .ref mm), (1, .ref x), (0, .ref b)]) hx hb dL_law_1171 hl (by decide) rfl (fun ls hl => ?_)
  refine lv_goto (tgt := 1432) hx hb dL_law_1173 (by decide) ?_
  exact KK s8 _ _ _ hT f10 (by rw [etx]; omega) (lv_sub hl [2, 3, 4, 5, 6] rfl)
set_option maxHeartbeats 4000000 in
set_option maxRecDepth 100000 in
theorem lc_32 (l : Launch) (κ : Kt) (σ0 : Gh) (x mm out b : Nat) (t_x : zk σ0 x 7) (t_mm : zk σ0 mm 20) (t_out : zk σ0 out 24) (ttx0 : zk σ0 (kR κ x 0) 6) (hlt : l.stackTraces = false) {p : Program} {e : Env} {s : State} {m : MethodId} {below : List Frame} {meth : Method} {c : Code} {L : Nat} {xs : Nat → Int32} {i : Int32} {Q9 : State → Prop} (hx : p.tables.exec = Jvm.exec) (hb : c.code = cL_law) (hml : c.maxLocals = 9) (hown : s.vm.findClass RL = some m.cls) (hg : ∀ w ∈ GW, w.before #[Value.ref b] s = true) (hK : va_K κ.1 vwCl (kTy κ) s) (hX : XY κ (tA σ0 s.heap.size) s s.heap) (hXs : va_X b L xs s s.heap) (hbl : b < s.heap.size) (hbA : ¬ tA σ0 s.heap.size b) (zx : zroomX κ s room_1 601024 7293034) (hi0 : 0 ≤ i.toInt) (hi1 : i.toInt + 6 ≤ L) (hL9 : L ≤ 3072) {σ : Gh} {H : Heap} {locs : List Loc} {ls : Array Slot} (hT : TS κ fA σ0 σ s H locs) (hR : RI κ σ mm) (hlen : (zI σ (kR κ x 0) 1).toInt = (zI σ mm 13).toInt) (hl : lv_has ls 9 [(4, .int i), (3, .ref out), (2, .ref mm), (1, .ref x), (0, .ref b)]) (KK : ∀ (σ1 : Gh) (H : Heap) (locs : List Loc) (ls : Array Slot), TS (kX κ) fA σ0 σ1 s H locs → RI (kX κ) σ1 mm → (zI σ1 (kR κ x 0) 1).toInt = (zI σ1 mm 13).toInt → lv_has ls 9 [(4, .int i), (3, .ref out), (2, .ref mm), (1, .ref x), (0, .ref b)] → W p l e room_1 s m #[Value.ref b] below meth c H locs 601024 7293034 Q9 (F0 m 1432 ls [])) : W p l e room_1 s m #[Value.ref b] below meth c H locs 601024 7293034 Q9 (F0 m 1176 ls []) := by
  obtain ⟨y1, hy1⟩ : ∃ z, z = xs (ix i + 1) := ⟨_, rfl⟩
  obtain ⟨y2, hy2⟩ : ∃ z, z = xs (ix i + 2) := ⟨_, rfl⟩
  obtain ⟨y3, hy3⟩ : ∃ z, z = xs (ix i + 3) := ⟨_, rfl⟩
  obtain ⟨y4, hy4⟩ : ∃ z, z = xs (ix i + 4) := ⟨_, rfl⟩
  obtain ⟨y5, hy5⟩ : ∃ z, z = xs (ix i + 5) := ⟨_, rfl⟩
  have n0 : (0 : Int32).toInt = 0 := by decide
  have n1 : (1 : Int32).toInt = 1 := by decide
  have n2 : (2 : Int32).toInt = 2 := by decide
  have n3 : (3 : Int32).toInt = 3 := by decide
  have n4 : (4 : Int32).toInt = 4 := by decide
  have n5 : (5 : Int32).toInt = 5 := by decide
  obtain ⟨tx, etx⟩ : ∃ z, kR κ x 0 = z := ⟨_, rfl⟩
  rw [etx] at hlen
  have ttx : zk σ0 tx 6 := by rw [← etx]; exact ttx0
  refine lv_aload_n hx hb dL_law_1176 rfl (lv_at hl 3 rfl) ?_
  refine lv_aload_n hx hb dL_law_1177 rfl (lv_at hl 4 rfl) ?_
  refine lv_iload hx hb dL_law_1178 (lv_at hl 0 rfl) ?_
  refine lv_iconst (v := 1) hx hb dL_law_1180 (by decide) ?_
  refine lv_iadd hx hb dL_law_1181 ?_
  refine g_add (by omega) (by omega) (fun t1 ht1 => ?_)
  refine va_sld hx hb hXs hbl hbA hT.2.2.2 (g_in (by omega) (by omega)) dL_law_1182 ?_
  refine ti y1 (by rw [hy1]; exact congrArg xs (show t1.toNatClampNeg = ix i + 1 from by show t1.toInt.toNat = ix i + 1; unfold ix; omega)) ?_
  refine lv_aload_n hx hb dL_law_1183 rfl (lv_at hl 1 rfl) ?_
  have hTo := hT
  refine tHi (n := 3) (As := [.ref x, .int y1, .ref out]) (rest := []) hx hb hml hown hg hT hK hX (L_error l κ σ x y1 out (hT.k t_x (by decide)) (hT.k t_out (by decide)) hlt) sub_hfCp_fA (mwHS k1116 k1117 k83 k1118) ⟨by decide, by decide, by decide +kernel⟩ ⟨(Nat.le_of_ble_eq_true rfl), (Nat.le_of_ble_eq_true rfl)⟩ rfl hl.1 rfl (Nat.le_of_ble_eq_true rfl) dL_law_1184 zx (fun r3 s2 H locs hφ hE hT => ?_)
  have R4 := hR.ext hE ⟨rfl, rfl, fun _ => rfl, fun _ => rfl, fun _ => rfl, fun _ => rfl⟩
  have a5 : (zI s2 tx 1).toInt = (zI σ tx 1).toInt := by rw [(hTo.k ttx (by decide)).eI hE (by decide) rfl]
  have a6 : (zI s2 mm 13).toInt = (zI σ mm 13).toInt := by rw [(hTo.k t_mm (by decide)).eI hE (by decide) rfl]
  refine lv_istore (lv' := [(5, .int r3), (4, .int i), (3, .ref out), (2, .ref mm), (1, .ref x), (0, .ref b)]) hx hb dL_law_1187 hl (by decide) rfl (fun ls hl => ?_)
  refine lv_aload_n hx hb dL_law_1189 rfl (lv_at hl 3 rfl) ?_
  refine lv_aload_n hx hb dL_law_1190 rfl (lv_at hl 5 rfl) ?_
  refine lv_iload hx hb dL_law_1191 (lv_at hl 1 rfl) ?_
  refine lv_iconst (v := 1) hx hb dL_law_1193 (by decide) ?_
  refine lv_iadd hx hb dL_law_1194 ?_
  refine g_add (by omega) (by omega) (fun t7 ht7 => ?_)
  refine va_sld hx hb hXs hbl hbA hT.2.2.2 (g_in (by omega) (by omega)) dL_law_1195 ?_
  refine ti y1 (by rw [hy1]; exact congrArg xs (show t7.toNatClampNeg = ix i + 1 from by show t7.toInt.toNat = ix i + 1; unfold ix; omega)) ?_
  have hTo := hT
  refine tVl (n := 1) (As := [.int y1]) (rest := []) hx hb hml hown hg hT hK hX (X6_error l (kX κ) s2 mm y1 (hT.k t_mm (by decide)) R4) sub_gZb_fA (mwV k1642 k1643 k1644 k92 k1645) ⟨rfl, by decide, by decide, by decide +kernel⟩ ⟨(Nat.le_of_ble_eq_true rfl), (Nat.le_of_ble_eq_true rfl)⟩ (hT.o20 (hT.k t_mm (by decide))) rfl rfl hl.1 rfl (Nat.le_of_ble_eq_true rfl) dL_law_1196 zx (fun r9 s8 H locs hφ hE hT => ?_)
  obtain ⟨f10, f11⟩ := hφ
  rw [etx] at f11
  have a12 : (zI s8 tx 1).toInt = (zI s2 tx 1).toInt := by rw [(hTo.k ttx (by decide)).eI hE (by decide) rfl]
  have a13 : (zI s8 mm 13).toInt = (zI s2 mm 13).toInt := by rw [(hTo.k t_mm (by decide)).eI hE (by decide) rfl]
  refine lv_lstore (lv' := [(6, .long r9), (5, .int r3), (4, .int i), (3, .ref out), (2, .ref mm), (1, .ref x), (0, .ref b)]) hx hb dL_law_1199 hl (by decide) rfl (fun ls hl => ?_)
  refine lv_goto (tgt := 1432) hx hb dL_law_1201 (by decide) ?_
  exact KK s8 _ _ _ hT f10 (by rw [etx]; omega) (lv_sub hl [2, 3, 4, 5, 6] rfl)
set_option maxHeartbeats 4000000 in
set_option maxRecDepth 100000 in
theorem lc_33 (l : Launch) (κ : Kt) (σ0 : Gh) (x mm out b : Nat) (t_x : zk σ0 x 7) (t_mm : zk σ0 mm 20) (t_out : zk σ0 out 24) (ttx0 : zk σ0 (kR κ x 0) 6) (hlt : l.stackTraces = false) {p : Program} {e : Env} {s : State} {m : MethodId} {below : List Frame} {meth : Method} {c : Code} {L : Nat} {xs : Nat → Int32} {i : Int32} {Q9 : State → Prop} (hx : p.tables.exec = Jvm.exec) (hb : c.code = cL_law) (hml : c.maxLocals = 9) (hown : s.vm.findClass RL = some m.cls) (hg : ∀ w ∈ GW, w.before #[Value.ref b] s = true) (hK : va_K κ.1 vwCl (kTy κ) s) (hX : XY κ (tA σ0 s.heap.size) s s.heap) (hXs : va_X b L xs s s.heap) (hbl : b < s.heap.size) (hbA : ¬ tA σ0 s.heap.size b) (zx : zroomX κ s room_1 601024 7293034) (hi0 : 0 ≤ i.toInt) (hi1 : i.toInt + 6 ≤ L) (hL9 : L ≤ 3072) {σ : Gh} {H : Heap} {locs : List Loc} {ls : Array Slot} (hT : TS κ fA σ0 σ s H locs) (hR : RI κ σ mm) (hlen : (zI σ (kR κ x 0) 1).toInt = (zI σ mm 13).toInt) (hl : lv_has ls 9 [(4, .int i), (3, .ref out), (2, .ref mm), (1, .ref x), (0, .ref b)]) (KK : ∀ (σ1 : Gh) (H : Heap) (locs : List Loc) (ls : Array Slot), TS (kX κ) fA σ0 σ1 s H locs → RI (kX κ) σ1 mm → (zI σ1 (kR κ x 0) 1).toInt = (zI σ1 mm 13).toInt → lv_has ls 9 [(4, .int i), (3, .ref out), (2, .ref mm), (1, .ref x), (0, .ref b)] → W p l e room_1 s m #[Value.ref b] below meth c H locs 601024 7293034 Q9 (F0 m 1432 ls [])) : W p l e room_1 s m #[Value.ref b] below meth c H locs 601024 7293034 Q9 (F0 m 1204 ls []) := by
  obtain ⟨y1, hy1⟩ : ∃ z, z = xs (ix i + 1) := ⟨_, rfl⟩
  obtain ⟨y2, hy2⟩ : ∃ z, z = xs (ix i + 2) := ⟨_, rfl⟩
  obtain ⟨y3, hy3⟩ : ∃ z, z = xs (ix i + 3) := ⟨_, rfl⟩
  obtain ⟨y4, hy4⟩ : ∃ z, z = xs (ix i + 4) := ⟨_, rfl⟩
  obtain ⟨y5, hy5⟩ : ∃ z, z = xs (ix i + 5) := ⟨_, rfl⟩
  have n0 : (0 : Int32).toInt = 0 := by decide
  have n1 : (1 : Int32).toInt = 1 := by decide
  have n2 : (2 : Int32).toInt = 2 := by decide
  have n3 : (3 : Int32).toInt = 3 := by decide
  have n4 : (4 : Int32).toInt = 4 := by decide
  have n5 : (5 : Int32).toInt = 5 := by decide
  obtain ⟨tx, etx⟩ : ∃ z, kR κ x 0 = z := ⟨_, rfl⟩
  rw [etx] at hlen
  have ttx : zk σ0 tx 6 := by rw [← etx]; exact ttx0
  refine lv_aload_n hx hb dL_law_1204 rfl (lv_at hl 3 rfl) ?_
  refine lv_aload_n hx hb dL_law_1205 rfl (lv_at hl 4 rfl) ?_
  refine lv_iload hx hb dL_law_1206 (lv_at hl 0 rfl) ?_
  refine lv_iconst (v := 1) hx hb dL_law_1208 (by decide) ?_
  refine lv_iadd hx hb dL_law_1209 ?_
  refine g_add (by omega) (by omega) (fun t1 ht1 => ?_)
  refine va_sld hx hb hXs hbl hbA hT.2.2.2 (g_in (by omega) (by omega)) dL_law_1210 ?_
  refine ti y1 (by rw [hy1]; exact congrArg xs (show t1.toNatClampNeg = ix i + 1 from by show t1.toInt.toNat = ix i + 1; unfold ix; omega)) ?_
  refine lv_aload_n hx hb dL_law_1211 rfl (lv_at hl 4 rfl) ?_
  refine lv_iload hx hb dL_law_1212 (lv_at hl 0 rfl) ?_
  refine lv_iconst (v := 2) hx hb dL_law_1214 (by decide) ?_
  refine lv_iadd hx hb dL_law_1215 ?_
  refine g_add (by omega) (by omega) (fun t2 ht2 => ?_)
  refine va_sld hx hb hXs hbl hbA hT.2.2.2 (g_in (by omega) (by omega)) dL_law_1216 ?_
  refine ti y2 (by rw [hy2]; exact congrArg xs (show t2.toNatClampNeg = ix i + 2 from by show t2.toInt.toNat = ix i + 2; unfold ix; omega)) ?_
  refine lv_if_eq (tgt := 1224) hx hb dL_law_1217 (by decide) (fun c9 => ?_) (fun c9 => ?_)
  · have c7 := gi_eq c9
    refine lv_iconst (v := 0) hx hb dL_law_1224 (by decide) ?_
    refine lv_aload_n hx hb dL_law_1225 rfl (lv_at hl 1 rfl) ?_
    have hTo := hT
    refine tHi (n := 4) (As := [.ref x, .int y1, .int 0, .ref out]) (rest := []) hx hb hml hown hg hT hK hX (L_errorWith l κ σ x y1 0 out (hT.k t_x (by decide)) (hT.k t_out (by decide)) isB0 hlt) sub_hfCp_fA (mwHS k1149 k1150 k83 k1151) ⟨by decide, by decide, by decide +kernel⟩ ⟨(Nat.le_of_ble_eq_true rfl), (Nat.le_of_ble_eq_true rfl)⟩ rfl hl.1 rfl (Nat.le_of_ble_eq_true rfl) dL_law_1226 zx (fun r4 s3 H locs hφ hE hT => ?_)
    have R5 := hR.ext hE ⟨rfl, rfl, fun _ => rfl, fun _ => rfl, fun _ => rfl, fun _ => rfl⟩
    have a6 : (zI s3 tx 1).toInt = (zI σ tx 1).toInt := by rw [(hTo.k ttx (by decide)).eI hE (by decide) rfl]
    have a7 : (zI s3 mm 13).toInt = (zI σ mm 13).toInt := by rw [(hTo.k t_mm (by decide)).eI hE (by decide) rfl]
    refine lv_istore (lv' := [(5, .int r4), (4, .int i), (3, .ref out), (2, .ref mm), (1, .ref x), (0, .ref b)]) hx hb dL_law_1229 hl (by decide) rfl (fun ls hl => ?_)
    refine lv_aload_n hx hb dL_law_1231 rfl (lv_at hl 3 rfl) ?_
    refine lv_aload_n hx hb dL_law_1232 rfl (lv_at hl 5 rfl) ?_
    refine lv_iload hx hb dL_law_1233 (lv_at hl 1 rfl) ?_
    refine lv_iconst (v := 1) hx hb dL_law_1235 (by decide) ?_
    refine lv_iadd hx hb dL_law_1236 ?_
    refine g_add (by omega) (by omega) (fun t8 ht8 => ?_)
    refine va_sld hx hb hXs hbl hbA hT.2.2.2 (g_in (by omega) (by omega)) dL_law_1237 ?_
    refine ti y1 (by rw [hy1]; exact congrArg xs (show t8.toNatClampNeg = ix i + 1 from by show t8.toInt.toNat = ix i + 1; unfold ix; omega)) ?_
    refine lv_aload_n hx hb dL_law_1238 rfl (lv_at hl 5 rfl) ?_
    refine lv_iload hx hb dL_law_1239 (lv_at hl 1 rfl) ?_
    refine lv_iconst (v := 2) hx hb dL_law_1241 (by decide) ?_
    refine lv_iadd hx hb dL_law_1242 ?_
    refine g_add (by omega) (by omega) (fun t9 ht9 => ?_)
    refine va_sld hx hb hXs hbl hbA hT.2.2.2 (g_in (by omega) (by omega)) dL_law_1243 ?_
    refine ti y2 (by rw [hy2]; exact congrArg xs (show t9.toNatClampNeg = ix i + 2 from by show t9.toInt.toNat = ix i + 2; unfold ix; omega)) ?_
    refine lv_if_eq (tgt := 1251) hx hb dL_law_1244 (by decide) (fun c9 => ?_) (fun c9 => ?_)
    · have c7 := gi_eq c9
      refine lv_iconst (v := 0) hx hb dL_law_1251 (by decide) ?_
      have hTo := hT
      refine tVl (n := 2) (As := [.int y1, .int 0]) (rest := []) hx hb hml hown hg hT hK hX (X6_errorWith l (kX κ) s3 mm y1 0 (hT.k t_mm (by decide)) isB0 R5) sub_gZb_fA (mwV k1658 k1659 k1660 k92 k1661) ⟨rfl, by decide, by decide, by decide +kernel⟩ ⟨(Nat.le_of_ble_eq_true rfl), (Nat.le_of_ble_eq_true rfl)⟩ (hT.o20 (hT.k t_mm (by decide))) rfl rfl hl.1 rfl (Nat.le_of_ble_eq_true rfl) dL_law_1252 zx (fun r11 s10 H locs hφ hE hT => ?_)
      obtain ⟨f12, f13⟩ := hφ
      rw [etx] at f13
      have a14 : (zI s10 tx 1).toInt = (zI s3 tx 1).toInt := by rw [(hTo.k ttx (by decide)).eI hE (by decide) rfl]
      have a15 : (zI s10 mm 13).toInt = (zI s3 mm 13).toInt := by rw [(hTo.k t_mm (by decide)).eI hE (by decide) rfl]
      refine lv_lstore (lv' := [(6, .long r11), (5, .int r4), (4, .int i), (3, .ref out), (2, .ref mm), (1, .ref x), (0, .ref b)]) hx hb dL_law_1255 hl (by decide) rfl (fun ls hl => ?_)
      refine lv_goto (tgt := 1432) hx hb dL_law_1257 (by decide) ?_
      exact KK s10 _ _ _ hT f12 (by rw [etx]; omega) (lv_sub hl [2, 3, 4, 5, 6] rfl)
    · have c7 := gi_ne c9
      refine lv_iconst (v := 1) hx hb dL_law_1247 (by decide) ?_
      refine lv_goto (tgt := 1252) hx hb dL_law_1248 (by decide) ?_
      have hTo := hT
      refine tVl (n := 2) (As := [.int y1, .int 1]) (rest := []) hx hb hml hown hg hT hK hX (X6_errorWith l (kX κ) s3 mm y1 1 (hT.k t_mm (by decide)) isB1 R5) sub_gZb_fA (mwV k1658 k1659 k1660 k92 k1661) ⟨rfl, by decide, by decide, by decide +kernel⟩ ⟨(Nat.le_of_ble_eq_true rfl), (Nat.le_of_ble_eq_true rfl)⟩ (hT.o20 (hT.k t_mm (by decide))) rfl rfl hl.1 rfl (Nat.le_of_ble_eq_true rfl) dL_law_1252 zx (fun r17 s16 H locs hφ hE hT => ?_)
      obtain ⟨f18, f19⟩ := hφ
      rw [etx] at f19
      have a20 : (zI s16 tx 1).toInt = (zI s3 tx 1).toInt := by rw [(hTo.k ttx (by decide)).eI hE (by decide) rfl]
      have a21 : (zI s16 mm 13).toInt = (zI s3 mm 13).toInt := by rw [(hTo.k t_mm (by decide)).eI hE (by decide) rfl]
      refine lv_lstore (lv' := [(6, .long r17), (5, .int r4), (4, .int i), (3, .ref out), (2, .ref mm), (1, .ref x), (0, .ref b)]) hx hb dL_law_1255 hl (by decide) rfl (fun ls hl => ?_)
      refine lv_goto (tgt := 1432) hx hb dL_law_1257 (by decide) ?_
      exact KK s16 _ _ _ hT f18 (by rw [etx]; omega) (lv_sub hl [2, 3, 4, 5, 6] rfl)
  · have c7 := gi_ne c9
    refine lv_iconst (v := 1) hx hb dL_law_1220 (by decide) ?_
    refine lv_goto (tgt := 1225) hx hb dL_law_1221 (by decide) ?_
    refine lv_aload_n hx hb dL_law_1225 rfl (lv_at hl 1 rfl) ?_
    have hTo := hT
    refine tHi (n := 4) (As := [.ref x, .int y1, .int 1, .ref out]) (rest := []) hx hb hml hown hg hT hK hX (L_errorWith l κ σ x y1 1 out (hT.k t_x (by decide)) (hT.k t_out (by decide)) isB1 hlt) sub_hfCp_fA (mwHS k1149 k1150 k83 k1151) ⟨by decide, by decide, by decide +kernel⟩ ⟨(Nat.le_of_ble_eq_true rfl), (Nat.le_of_ble_eq_true rfl)⟩ rfl hl.1 rfl (Nat.le_of_ble_eq_true rfl) dL_law_1226 zx (fun r23 s22 H locs hφ hE hT => ?_)
    have R24 := hR.ext hE ⟨rfl, rfl, fun _ => rfl, fun _ => rfl, fun _ => rfl, fun _ => rfl⟩
    have a25 : (zI s22 tx 1).toInt = (zI σ tx 1).toInt := by rw [(hTo.k ttx (by decide)).eI hE (by decide) rfl]
    have a26 : (zI s22 mm 13).toInt = (zI σ mm 13).toInt := by rw [(hTo.k t_mm (by decide)).eI hE (by decide) rfl]
    refine lv_istore (lv' := [(5, .int r23), (4, .int i), (3, .ref out), (2, .ref mm), (1, .ref x), (0, .ref b)]) hx hb dL_law_1229 hl (by decide) rfl (fun ls hl => ?_)
    refine lv_aload_n hx hb dL_law_1231 rfl (lv_at hl 3 rfl) ?_
    refine lv_aload_n hx hb dL_law_1232 rfl (lv_at hl 5 rfl) ?_
    refine lv_iload hx hb dL_law_1233 (lv_at hl 1 rfl) ?_
    refine lv_iconst (v := 1) hx hb dL_law_1235 (by decide) ?_
    refine lv_iadd hx hb dL_law_1236 ?_
    refine g_add (by omega) (by omega) (fun t27 ht27 => ?_)
    refine va_sld hx hb hXs hbl hbA hT.2.2.2 (g_in (by omega) (by omega)) dL_law_1237 ?_
    refine ti y1 (by rw [hy1]; exact congrArg xs (show t27.toNatClampNeg = ix i + 1 from by show t27.toInt.toNat = ix i + 1; unfold ix; omega)) ?_
    refine lv_aload_n hx hb dL_law_1238 rfl (lv_at hl 5 rfl) ?_
    refine lv_iload hx hb dL_law_1239 (lv_at hl 1 rfl) ?_
    refine lv_iconst (v := 2) hx hb dL_law_1241 (by decide) ?_
    refine lv_iadd hx hb dL_law_1242 ?_
    refine g_add (by omega) (by omega) (fun t28 ht28 => ?_)
    refine va_sld hx hb hXs hbl hbA hT.2.2.2 (g_in (by omega) (by omega)) dL_law_1243 ?_
    refine ti y2 (by rw [hy2]; exact congrArg xs (show t28.toNatClampNeg = ix i + 2 from by show t28.toInt.toNat = ix i + 2; unfold ix; omega)) ?_
    refine lv_if_eq (tgt := 1251) hx hb dL_law_1244 (by decide) (fun c9 => ?_) (fun c9 => ?_)
    · have c7 := gi_eq c9
      refine lv_iconst (v := 0) hx hb dL_law_1251 (by decide) ?_
      have hTo := hT
      refine tVl (n := 2) (As := [.int y1, .int 0]) (rest := []) hx hb hml hown hg hT hK hX (X6_errorWith l (kX κ) s22 mm y1 0 (hT.k t_mm (by decide)) isB0 R24) sub_gZb_fA (mwV k1658 k1659 k1660 k92 k1661) ⟨rfl, by decide, by decide, by decide +kernel⟩ ⟨(Nat.le_of_ble_eq_true rfl), (Nat.le_of_ble_eq_true rfl)⟩ (hT.o20 (hT.k t_mm (by decide))) rfl rfl hl.1 rfl (Nat.le_of_ble_eq_true rfl) dL_law_1252 zx (fun r30 s29 H locs hφ hE hT => ?_)
      obtain ⟨f31, f32⟩ := hφ
      rw [etx] at f32
      have a33 : (zI s29 tx 1).toInt = (zI s22 tx 1).toInt := by rw [(hTo.k ttx (by decide)).eI hE (by decide) rfl]
      have a34 : (zI s29 mm 13).toInt = (zI s22 mm 13).toInt := by rw [(hTo.k t_mm (by decide)).eI hE (by decide) rfl]
      refine lv_lstore (lv' := [(6, .long r30), (5, .int r23), (4, .int i), (3, .ref out), (2, .ref mm), (1, .ref x), (0, .ref b)]) hx hb dL_law_1255 hl (by decide) rfl (fun ls hl => ?_)
      refine lv_goto (tgt := 1432) hx hb dL_law_1257 (by decide) ?_
      exact KK s29 _ _ _ hT f31 (by rw [etx]; omega) (lv_sub hl [2, 3, 4, 5, 6] rfl)
    · have c7 := gi_ne c9
      refine lv_iconst (v := 1) hx hb dL_law_1247 (by decide) ?_
      refine lv_goto (tgt := 1252) hx hb dL_law_1248 (by decide) ?_
      have hTo := hT
      refine tVl (n := 2) (As := [.int y1, .int 1]) (rest := []) hx hb hml hown hg hT hK hX (X6_errorWith l (kX κ) s22 mm y1 1 (hT.k t_mm (by decide)) isB1 R24) sub_gZb_fA (mwV k1658 k1659 k1660 k92 k1661) ⟨rfl, by decide, by decide, by decide +kernel⟩ ⟨(Nat.le_of_ble_eq_true rfl), (Nat.le_of_ble_eq_true rfl)⟩ (hT.o20 (hT.k t_mm (by decide))) rfl rfl hl.1 rfl (Nat.le_of_ble_eq_true rfl) dL_law_1252 zx (fun r36 s35 H locs hφ hE hT => ?_)
      obtain ⟨f37, f38⟩ := hφ
      rw [etx] at f38
      have a39 : (zI s35 tx 1).toInt = (zI s22 tx 1).toInt := by rw [(hTo.k ttx (by decide)).eI hE (by decide) rfl]
      have a40 : (zI s35 mm 13).toInt = (zI s22 mm 13).toInt := by rw [(hTo.k t_mm (by decide)).eI hE (by decide) rfl]
      refine lv_lstore (lv' := [(6, .long r36), (5, .int r23), (4, .int i), (3, .ref out), (2, .ref mm), (1, .ref x), (0, .ref b)]) hx hb dL_law_1255 hl (by decide) rfl (fun ls hl => ?_)
      refine lv_goto (tgt := 1432) hx hb dL_law_1257 (by decide) ?_
      exact KK s35 _ _ _ hT f37 (by rw [etx]; omega) (lv_sub hl [2, 3, 4, 5, 6] rfl)
set_option maxHeartbeats 4000000 in
set_option maxRecDepth 100000 in
theorem lc_34 (l : Launch) (κ : Kt) (σ0 : Gh) (x mm out b : Nat) (t_x : zk σ0 x 7) (t_mm : zk σ0 mm 20) (t_out : zk σ0 out 24) (ttx0 : zk σ0 (kR κ x 0) 6) (hlt : l.stackTraces = false) {p : Program} {e : Env} {s : State} {m : MethodId} {below : List Frame} {meth : Method} {c : Code} {L : Nat} {xs : Nat → Int32} {i : Int32} {Q9 : State → Prop} (hx : p.tables.exec = Jvm.exec) (hb : c.code = cL_law) (hml : c.maxLocals = 9) (hown : s.vm.findClass RL = some m.cls) (hg : ∀ w ∈ GW, w.before #[Value.ref b] s = true) (hK : va_K κ.1 vwCl (kTy κ) s) (hX : XY κ (tA σ0 s.heap.size) s s.heap) (hXs : va_X b L xs s s.heap) (hbl : b < s.heap.size) (hbA : ¬ tA σ0 s.heap.size b) (zx : zroomX κ s room_1 601024 7293034) (hi0 : 0 ≤ i.toInt) (hi1 : i.toInt + 6 ≤ L) (hL9 : L ≤ 3072) {σ : Gh} {H : Heap} {locs : List Loc} {ls : Array Slot} (hT : TS κ fA σ0 σ s H locs) (hR : RI κ σ mm) (hlen : (zI σ (kR κ x 0) 1).toInt = (zI σ mm 13).toInt) (hl : lv_has ls 9 [(4, .int i), (3, .ref out), (2, .ref mm), (1, .ref x), (0, .ref b)]) (KK : ∀ (σ1 : Gh) (H : Heap) (locs : List Loc) (ls : Array Slot), TS (kX κ) fA σ0 σ1 s H locs → RI (kX κ) σ1 mm → (zI σ1 (kR κ x 0) 1).toInt = (zI σ1 mm 13).toInt → lv_has ls 9 [(4, .int i), (3, .ref out), (2, .ref mm), (1, .ref x), (0, .ref b)] → W p l e room_1 s m #[Value.ref b] below meth c H locs 601024 7293034 Q9 (F0 m 1432 ls [])) : W p l e room_1 s m #[Value.ref b] below meth c H locs 601024 7293034 Q9 (F0 m 1260 ls []) := by
  obtain ⟨y1, hy1⟩ : ∃ z, z = xs (ix i + 1) := ⟨_, rfl⟩
  obtain ⟨y2, hy2⟩ : ∃ z, z = xs (ix i + 2) := ⟨_, rfl⟩
  obtain ⟨y3, hy3⟩ : ∃ z, z = xs (ix i + 3) := ⟨_, rfl⟩
  obtain ⟨y4, hy4⟩ : ∃ z, z = xs (ix i + 4) := ⟨_, rfl⟩
  obtain ⟨y5, hy5⟩ : ∃ z, z = xs (ix i + 5) := ⟨_, rfl⟩
  have n0 : (0 : Int32).toInt = 0 := by decide
  have n1 : (1 : Int32).toInt = 1 := by decide
  have n2 : (2 : Int32).toInt = 2 := by decide
  have n3 : (3 : Int32).toInt = 3 := by decide
  have n4 : (4 : Int32).toInt = 4 := by decide
  have n5 : (5 : Int32).toInt = 5 := by decide
  obtain ⟨tx, etx⟩ : ∃ z, kR κ x 0 = z := ⟨_, rfl⟩
  rw [etx] at hlen
  have ttx : zk σ0 tx 6 := by rw [← etx]; exact ttx0
  refine lv_aload_n hx hb dL_law_1260 rfl (lv_at hl 3 rfl) ?_
  refine lv_aload_n hx hb dL_law_1261 rfl (lv_at hl 4 rfl) ?_
  refine lv_iload hx hb dL_law_1262 (lv_at hl 0 rfl) ?_
  refine lv_iconst (v := 1) hx hb dL_law_1264 (by decide) ?_
  refine lv_iadd hx hb dL_law_1265 ?_
  refine g_add (by omega) (by omega) (fun t1 ht1 => ?_)
  refine va_sld hx hb hXs hbl hbA hT.2.2.2 (g_in (by omega) (by omega)) dL_law_1266 ?_
  refine ti y1 (by rw [hy1]; exact congrArg xs (show t1.toNatClampNeg = ix i + 1 from by show t1.toInt.toNat = ix i + 1; unfold ix; omega)) ?_
  refine lv_aload_n hx hb dL_law_1267 rfl (lv_at hl 1 rfl) ?_
  have hTo := hT
  refine tHi (n := 3) (As := [.ref x, .int y1, .ref out]) (rest := []) hx hb hml hown hg hT hK hX (L_bestThreshold l κ σ x y1 out (hT.k t_x (by decide)) (hT.k t_out (by decide)) hlt) sub_hfCp_fA (mwHS k1160 k1161 k83 k1162) ⟨by decide, by decide, by decide +kernel⟩ ⟨(Nat.le_of_ble_eq_true rfl), (Nat.le_of_ble_eq_true rfl)⟩ rfl hl.1 rfl (Nat.le_of_ble_eq_true rfl) dL_law_1268 zx (fun r3 s2 H locs hφ hE hT => ?_)
  have R4 := hR.ext hE ⟨rfl, rfl, fun _ => rfl, fun _ => rfl, fun _ => rfl, fun _ => rfl⟩
  have a5 : (zI s2 tx 1).toInt = (zI σ tx 1).toInt := by rw [(hTo.k ttx (by decide)).eI hE (by decide) rfl]
  have a6 : (zI s2 mm 13).toInt = (zI σ mm 13).toInt := by rw [(hTo.k t_mm (by decide)).eI hE (by decide) rfl]
  refine lv_istore (lv' := [(5, .int r3), (4, .int i), (3, .ref out), (2, .ref mm), (1, .ref x), (0, .ref b)]) hx hb dL_law_1271 hl (by decide) rfl (fun ls hl => ?_)
  refine lv_aload_n hx hb dL_law_1273 rfl (lv_at hl 3 rfl) ?_
  refine lv_aload_n hx hb dL_law_1274 rfl (lv_at hl 5 rfl) ?_
  refine lv_iload hx hb dL_law_1275 (lv_at hl 1 rfl) ?_
  refine lv_iconst (v := 1) hx hb dL_law_1277 (by decide) ?_
  refine lv_iadd hx hb dL_law_1278 ?_
  refine g_add (by omega) (by omega) (fun t7 ht7 => ?_)
  refine va_sld hx hb hXs hbl hbA hT.2.2.2 (g_in (by omega) (by omega)) dL_law_1279 ?_
  refine ti y1 (by rw [hy1]; exact congrArg xs (show t7.toNatClampNeg = ix i + 1 from by show t7.toInt.toNat = ix i + 1; unfold ix; omega)) ?_
  have hTo := hT
  refine tVi (n := 1) (As := [.int y1]) (rest := []) hx hb hml hown hg hT hK hX (X6_bestThreshold l (kX κ) s2 mm y1 (hT.k t_mm (by decide)) R4) sub_gZb_fA (mwV k1666 k1667 k1668 k92 k1669) ⟨rfl, by decide, by decide, by decide +kernel⟩ ⟨(Nat.le_of_ble_eq_true rfl), (Nat.le_of_ble_eq_true rfl)⟩ (hT.o20 (hT.k t_mm (by decide))) rfl rfl hl.1 rfl (Nat.le_of_ble_eq_true rfl) dL_law_1280 zx (fun r9 s8 H locs hφ hE hT => ?_)
  obtain ⟨f10, f11⟩ := hφ
  rw [etx] at f11
  have a12 : (zI s8 tx 1).toInt = (zI s2 tx 1).toInt := by rw [(hTo.k ttx (by decide)).eI hE (by decide) rfl]
  have a13 : (zI s8 mm 13).toInt = (zI s2 mm 13).toInt := by rw [(hTo.k t_mm (by decide)).eI hE (by decide) rfl]
  refine lv_istore (lv' := [(6, .int r9), (5, .int r3), (4, .int i), (3, .ref out), (2, .ref mm), (1, .ref x), (0, .ref b)]) hx hb dL_law_1283 hl (by decide) rfl (fun ls hl => ?_)
  refine lv_goto (tgt := 1432) hx hb dL_law_1285 (by decide) ?_
  exact KK s8 _ _ _ hT f10 (by rw [etx]; omega) (lv_sub hl [2, 3, 4, 5, 6] rfl)
set_option maxHeartbeats 4000000 in
set_option maxRecDepth 100000 in
theorem lc_35 (l : Launch) (κ : Kt) (σ0 : Gh) (x mm out b : Nat) (t_x : zk σ0 x 7) (t_mm : zk σ0 mm 20) (t_out : zk σ0 out 24) (ttx0 : zk σ0 (kR κ x 0) 6) (hlt : l.stackTraces = false) {p : Program} {e : Env} {s : State} {m : MethodId} {below : List Frame} {meth : Method} {c : Code} {L : Nat} {xs : Nat → Int32} {i : Int32} {Q9 : State → Prop} (hx : p.tables.exec = Jvm.exec) (hb : c.code = cL_law) (hml : c.maxLocals = 9) (hown : s.vm.findClass RL = some m.cls) (hg : ∀ w ∈ GW, w.before #[Value.ref b] s = true) (hK : va_K κ.1 vwCl (kTy κ) s) (hX : XY κ (tA σ0 s.heap.size) s s.heap) (hXs : va_X b L xs s s.heap) (hbl : b < s.heap.size) (hbA : ¬ tA σ0 s.heap.size b) (zx : zroomX κ s room_1 601024 7293034) (hi0 : 0 ≤ i.toInt) (hi1 : i.toInt + 6 ≤ L) (hL9 : L ≤ 3072) {σ : Gh} {H : Heap} {locs : List Loc} {ls : Array Slot} (hT : TS κ fA σ0 σ s H locs) (hR : RI κ σ mm) (hlen : (zI σ (kR κ x 0) 1).toInt = (zI σ mm 13).toInt) (hl : lv_has ls 9 [(4, .int i), (3, .ref out), (2, .ref mm), (1, .ref x), (0, .ref b)]) (KK : ∀ (σ1 : Gh) (H : Heap) (locs : List Loc) (ls : Array Slot), TS (kX κ) fA σ0 σ1 s H locs → RI (kX κ) σ1 mm → (zI σ1 (kR κ x 0) 1).toInt = (zI σ1 mm 13).toInt → lv_has ls 9 [(4, .int i), (3, .ref out), (2, .ref mm), (1, .ref x), (0, .ref b)] → W p l e room_1 s m #[Value.ref b] below meth c H locs 601024 7293034 Q9 (F0 m 1432 ls [])) : W p l e room_1 s m #[Value.ref b] below meth c H locs 601024 7293034 Q9 (F0 m 1288 ls []) := by
  obtain ⟨y1, hy1⟩ : ∃ z, z = xs (ix i + 1) := ⟨_, rfl⟩
  obtain ⟨y2, hy2⟩ : ∃ z, z = xs (ix i + 2) := ⟨_, rfl⟩
  obtain ⟨y3, hy3⟩ : ∃ z, z = xs (ix i + 3) := ⟨_, rfl⟩
  obtain ⟨y4, hy4⟩ : ∃ z, z = xs (ix i + 4) := ⟨_, rfl⟩
  obtain ⟨y5, hy5⟩ : ∃ z, z = xs (ix i + 5) := ⟨_, rfl⟩
  have n0 : (0 : Int32).toInt = 0 := by decide
  have n1 : (1 : Int32).toInt = 1 := by decide
  have n2 : (2 : Int32).toInt = 2 := by decide
  have n3 : (3 : Int32).toInt = 3 := by decide
  have n4 : (4 : Int32).toInt = 4 := by decide
  have n5 : (5 : Int32).toInt = 5 := by decide
  obtain ⟨tx, etx⟩ : ∃ z, kR κ x 0 = z := ⟨_, rfl⟩
  rw [etx] at hlen
  have ttx : zk σ0 tx 6 := by rw [← etx]; exact ttx0
  refine lv_aload_n hx hb dL_law_1288 rfl (lv_at hl 3 rfl) ?_
  refine lv_aload_n hx hb dL_law_1289 rfl (lv_at hl 4 rfl) ?_
  refine lv_iload hx hb dL_law_1290 (lv_at hl 0 rfl) ?_
  refine lv_iconst (v := 1) hx hb dL_law_1292 (by decide) ?_
  refine lv_iadd hx hb dL_law_1293 ?_
  refine g_add (by omega) (by omega) (fun t1 ht1 => ?_)
  refine va_sld hx hb hXs hbl hbA hT.2.2.2 (g_in (by omega) (by omega)) dL_law_1294 ?_
  refine ti y1 (by rw [hy1]; exact congrArg xs (show t1.toNatClampNeg = ix i + 1 from by show t1.toInt.toNat = ix i + 1; unfold ix; omega)) ?_
  refine lv_aload_n hx hb dL_law_1295 rfl (lv_at hl 4 rfl) ?_
  refine lv_iload hx hb dL_law_1296 (lv_at hl 0 rfl) ?_
  refine lv_iconst (v := 2) hx hb dL_law_1298 (by decide) ?_
  refine lv_iadd hx hb dL_law_1299 ?_
  refine g_add (by omega) (by omega) (fun t2 ht2 => ?_)
  refine va_sld hx hb hXs hbl hbA hT.2.2.2 (g_in (by omega) (by omega)) dL_law_1300 ?_
  refine ti y2 (by rw [hy2]; exact congrArg xs (show t2.toNatClampNeg = ix i + 2 from by show t2.toInt.toNat = ix i + 2; unfold ix; omega)) ?_
  refine lv_aload_n hx hb dL_law_1301 rfl (lv_at hl 1 rfl) ?_
  have hTo := hT
  refine tHi (n := 4) (As := [.ref x, .int y1, .int y2, .ref out]) (rest := []) hx hb hml hown hg hT hK hX (L_bitsBy l κ σ x y1 y2 out (hT.k t_x (by decide)) (hT.k t_out (by decide)) hlt) sub_hfCp_fA (mwHS k1175 k1176 k83 k1177) ⟨by decide, by decide, by decide +kernel⟩ ⟨(Nat.le_of_ble_eq_true rfl), (Nat.le_of_ble_eq_true rfl)⟩ rfl hl.1 rfl (Nat.le_of_ble_eq_true rfl) dL_law_1302 zx (fun r4 s3 H locs hφ hE hT => ?_)
  have R5 := hR.ext hE ⟨rfl, rfl, fun _ => rfl, fun _ => rfl, fun _ => rfl, fun _ => rfl⟩
  have a6 : (zI s3 tx 1).toInt = (zI σ tx 1).toInt := by rw [(hTo.k ttx (by decide)).eI hE (by decide) rfl]
  have a7 : (zI s3 mm 13).toInt = (zI σ mm 13).toInt := by rw [(hTo.k t_mm (by decide)).eI hE (by decide) rfl]
  refine lv_istore (lv' := [(5, .int r4), (4, .int i), (3, .ref out), (2, .ref mm), (1, .ref x), (0, .ref b)]) hx hb dL_law_1305 hl (by decide) rfl (fun ls hl => ?_)
  refine lv_aload_n hx hb dL_law_1307 rfl (lv_at hl 3 rfl) ?_
  refine lv_aload_n hx hb dL_law_1308 rfl (lv_at hl 5 rfl) ?_
  refine lv_iload hx hb dL_law_1309 (lv_at hl 1 rfl) ?_
  refine lv_iconst (v := 1) hx hb dL_law_1311 (by decide) ?_
  refine lv_iadd hx hb dL_law_1312 ?_
  refine g_add (by omega) (by omega) (fun t8 ht8 => ?_)
  refine va_sld hx hb hXs hbl hbA hT.2.2.2 (g_in (by omega) (by omega)) dL_law_1313 ?_
  refine ti y1 (by rw [hy1]; exact congrArg xs (show t8.toNatClampNeg = ix i + 1 from by show t8.toInt.toNat = ix i + 1; unfold ix; omega)) ?_
  refine lv_aload_n hx hb dL_law_1314 rfl (lv_at hl 5 rfl) ?_
  refine lv_iload hx hb dL_law_1315 (lv_at hl 1 rfl) ?_
  refine lv_iconst (v := 2) hx hb dL_law_1317 (by decide) ?_
  refine lv_iadd hx hb dL_law_1318 ?_
  refine g_add (by omega) (by omega) (fun t9 ht9 => ?_)
  refine va_sld hx hb hXs hbl hbA hT.2.2.2 (g_in (by omega) (by omega)) dL_law_1319 ?_
  refine ti y2 (by rw [hy2]; exact congrArg xs (show t9.toNatClampNeg = ix i + 2 from by show t9.toInt.toNat = ix i + 2; unfold ix; omega)) ?_
  have hTo := hT
  refine tVi (n := 2) (As := [.int y1, .int y2]) (rest := []) hx hb hml hown hg hT hK hX (X6_bitsBy l (kX κ) s3 mm y1 y2 (hT.k t_mm (by decide)) R5) sub_gZb_fA (mwV k1670 k1671 k1672 k92 k1673) ⟨rfl, by decide, by decide, by decide +kernel⟩ ⟨(Nat.le_of_ble_eq_true rfl), (Nat.le_of_ble_eq_true rfl)⟩ (hT.o20 (hT.k t_mm (by decide))) rfl rfl hl.1 rfl (Nat.le_of_ble_eq_true rfl) dL_law_1320 zx (fun r11 s10 H locs hφ hE hT => ?_)
  obtain ⟨f12, f13⟩ := hφ
  rw [etx] at f13
  have a14 : (zI s10 tx 1).toInt = (zI s3 tx 1).toInt := by rw [(hTo.k ttx (by decide)).eI hE (by decide) rfl]
  have a15 : (zI s10 mm 13).toInt = (zI s3 mm 13).toInt := by rw [(hTo.k t_mm (by decide)).eI hE (by decide) rfl]
  refine lv_istore (lv' := [(6, .int r11), (5, .int r4), (4, .int i), (3, .ref out), (2, .ref mm), (1, .ref x), (0, .ref b)]) hx hb dL_law_1323 hl (by decide) rfl (fun ls hl => ?_)
  refine lv_goto (tgt := 1432) hx hb dL_law_1325 (by decide) ?_
  exact KK s10 _ _ _ hT f12 (by rw [etx]; omega) (lv_sub hl [2, 3, 4, 5, 6] rfl)
set_option maxHeartbeats 4000000 in
set_option maxRecDepth 100000 in
theorem lc_36 (l : Launch) (κ : Kt) (σ0 : Gh) (x mm out b : Nat) (t_x : zk σ0 x 7) (t_mm : zk σ0 mm 20) (t_out : zk σ0 out 24) (ttx0 : zk σ0 (kR κ x 0) 6) (hlt : l.stackTraces = false) {p : Program} {e : Env} {s : State} {m : MethodId} {below : List Frame} {meth : Method} {c : Code} {L : Nat} {xs : Nat → Int32} {i : Int32} {Q9 : State → Prop} (hx : p.tables.exec = Jvm.exec) (hb : c.code = cL_law) (hml : c.maxLocals = 9) (hown : s.vm.findClass RL = some m.cls) (hg : ∀ w ∈ GW, w.before #[Value.ref b] s = true) (hK : va_K κ.1 vwCl (kTy κ) s) (hX : XY κ (tA σ0 s.heap.size) s s.heap) (hXs : va_X b L xs s s.heap) (hbl : b < s.heap.size) (hbA : ¬ tA σ0 s.heap.size b) (zx : zroomX κ s room_1 601024 7293034) (hi0 : 0 ≤ i.toInt) (hi1 : i.toInt + 6 ≤ L) (hL9 : L ≤ 3072) {σ : Gh} {H : Heap} {locs : List Loc} {ls : Array Slot} (hT : TS κ fA σ0 σ s H locs) (hR : RI κ σ mm) (hlen : (zI σ (kR κ x 0) 1).toInt = (zI σ mm 13).toInt) (hl : lv_has ls 9 [(4, .int i), (3, .ref out), (2, .ref mm), (1, .ref x), (0, .ref b)]) (KK : ∀ (σ1 : Gh) (H : Heap) (locs : List Loc) (ls : Array Slot), TS (kX κ) fA σ0 σ1 s H locs → RI (kX κ) σ1 mm → (zI σ1 (kR κ x 0) 1).toInt = (zI σ1 mm 13).toInt → lv_has ls 9 [(4, .int i), (3, .ref out), (2, .ref mm), (1, .ref x), (0, .ref b)] → W p l e room_1 s m #[Value.ref b] below meth c H locs 601024 7293034 Q9 (F0 m 1432 ls [])) : W p l e room_1 s m #[Value.ref b] below meth c H locs 601024 7293034 Q9 (F0 m 1328 ls []) := by
  obtain ⟨y1, hy1⟩ : ∃ z, z = xs (ix i + 1) := ⟨_, rfl⟩
  obtain ⟨y2, hy2⟩ : ∃ z, z = xs (ix i + 2) := ⟨_, rfl⟩
  obtain ⟨y3, hy3⟩ : ∃ z, z = xs (ix i + 3) := ⟨_, rfl⟩
  obtain ⟨y4, hy4⟩ : ∃ z, z = xs (ix i + 4) := ⟨_, rfl⟩
  obtain ⟨y5, hy5⟩ : ∃ z, z = xs (ix i + 5) := ⟨_, rfl⟩
  have n0 : (0 : Int32).toInt = 0 := by decide
  have n1 : (1 : Int32).toInt = 1 := by decide
  have n2 : (2 : Int32).toInt = 2 := by decide
  have n3 : (3 : Int32).toInt = 3 := by decide
  have n4 : (4 : Int32).toInt = 4 := by decide
  have n5 : (5 : Int32).toInt = 5 := by decide
  obtain ⟨tx, etx⟩ : ∃ z, kR κ x 0 = z := ⟨_, rfl⟩
  rw [etx] at hlen
  have ttx : zk σ0 tx 6 := by rw [← etx]; exact ttx0
  refine lv_aload_n hx hb dL_law_1328 rfl (lv_at hl 3 rfl) ?_
  have hTo := hT
  refine tVi (n := 0) (As := []) (rest := []) hx hb hml hown hg hT hK hX (X5_bestScheme l κ σ x (hT.k t_x (by decide))) sub_fCp_fA (mwV k518 k519 k520 k84 k521) ⟨rfl, by decide, by decide, by decide +kernel⟩ ⟨(Nat.le_of_ble_eq_true rfl), (Nat.le_of_ble_eq_true rfl)⟩ (hT.o7 (hT.k t_x (by decide))) rfl rfl hl.1 rfl (Nat.le_of_ble_eq_true rfl) dL_law_1329 zx.dn (fun r2 s1 H locs hφ hE hT => ?_)
  have R3 := hR.ext hE ⟨rfl, rfl, fun _ => rfl, fun _ => rfl, fun _ => rfl, fun _ => rfl⟩
  have a4 : (zI s1 tx 1).toInt = (zI σ tx 1).toInt := by rw [(hTo.k ttx (by decide)).eI hE (by decide) rfl]
  have a5 : (zI s1 mm 13).toInt = (zI σ mm 13).toInt := by rw [(hTo.k t_mm (by decide)).eI hE (by decide) rfl]
  refine lv_pop hx hb dL_law_1332 rfl ?_
  refine lv_aload_n hx hb dL_law_1333 rfl (lv_at hl 2 rfl) ?_
  have hTo := hT
  refine tVi (n := 0) (As := []) (rest := []) hx hb hml hown hg hT hK hX (X6_bestScheme l κ s1 mm (hT.k t_mm (by decide)) R3) sub_gZb_fA (mwV k1678 k1679 k1680 k92 k1681) ⟨rfl, by decide, by decide, by decide +kernel⟩ ⟨(Nat.le_of_ble_eq_true rfl), (Nat.le_of_ble_eq_true rfl)⟩ (hT.o20 (hT.k t_mm (by decide))) rfl rfl hl.1 rfl (Nat.le_of_ble_eq_true rfl) dL_law_1334 zx.dn (fun r7 s6 H locs hφ hE hT => ?_)
  obtain ⟨f8, f9⟩ := hφ
  rw [etx] at f9
  have a10 : (zI s6 tx 1).toInt = (zI s1 tx 1).toInt := by rw [(hTo.k ttx (by decide)).eI hE (by decide) rfl]
  have a11 : (zI s6 mm 13).toInt = (zI s1 mm 13).toInt := by rw [(hTo.k t_mm (by decide)).eI hE (by decide) rfl]
  refine lv_pop hx hb dL_law_1337 rfl ?_
  refine lv_goto (tgt := 1432) hx hb dL_law_1338 (by decide) ?_
  exact KK s6 _ _ _ hT.up f8 (by rw [etx]; omega) (lv_sub hl [0, 1, 2, 3, 4] rfl)
set_option maxHeartbeats 4000000 in
set_option maxRecDepth 100000 in
theorem lc_37 (l : Launch) (κ : Kt) (σ0 : Gh) (x mm out b : Nat) (t_x : zk σ0 x 7) (t_mm : zk σ0 mm 20) (t_out : zk σ0 out 24) (ttx0 : zk σ0 (kR κ x 0) 6) (hlt : l.stackTraces = false) {p : Program} {e : Env} {s : State} {m : MethodId} {below : List Frame} {meth : Method} {c : Code} {L : Nat} {xs : Nat → Int32} {i : Int32} {Q9 : State → Prop} (hx : p.tables.exec = Jvm.exec) (hb : c.code = cL_law) (hml : c.maxLocals = 9) (hown : s.vm.findClass RL = some m.cls) (hg : ∀ w ∈ GW, w.before #[Value.ref b] s = true) (hK : va_K κ.1 vwCl (kTy κ) s) (hX : XY κ (tA σ0 s.heap.size) s s.heap) (hXs : va_X b L xs s s.heap) (hbl : b < s.heap.size) (hbA : ¬ tA σ0 s.heap.size b) (zx : zroomX κ s room_1 601024 7293034) (hi0 : 0 ≤ i.toInt) (hi1 : i.toInt + 6 ≤ L) (hL9 : L ≤ 3072) {σ : Gh} {H : Heap} {locs : List Loc} {ls : Array Slot} (hT : TS κ fA σ0 σ s H locs) (hR : RI κ σ mm) (hlen : (zI σ (kR κ x 0) 1).toInt = (zI σ mm 13).toInt) (hl : lv_has ls 9 [(4, .int i), (3, .ref out), (2, .ref mm), (1, .ref x), (0, .ref b)]) (KK : ∀ (σ1 : Gh) (H : Heap) (locs : List Loc) (ls : Array Slot), TS (kX κ) fA σ0 σ1 s H locs → RI (kX κ) σ1 mm → (zI σ1 (kR κ x 0) 1).toInt = (zI σ1 mm 13).toInt → lv_has ls 9 [(4, .int i), (3, .ref out), (2, .ref mm), (1, .ref x), (0, .ref b)] → W p l e room_1 s m #[Value.ref b] below meth c H locs 601024 7293034 Q9 (F0 m 1432 ls [])) : W p l e room_1 s m #[Value.ref b] below meth c H locs 601024 7293034 Q9 (F0 m 1341 ls []) := by
  obtain ⟨y1, hy1⟩ : ∃ z, z = xs (ix i + 1) := ⟨_, rfl⟩
  obtain ⟨y2, hy2⟩ : ∃ z, z = xs (ix i + 2) := ⟨_, rfl⟩
  obtain ⟨y3, hy3⟩ : ∃ z, z = xs (ix i + 3) := ⟨_, rfl⟩
  obtain ⟨y4, hy4⟩ : ∃ z, z = xs (ix i + 4) := ⟨_, rfl⟩
  obtain ⟨y5, hy5⟩ : ∃ z, z = xs (ix i + 5) := ⟨_, rfl⟩
  have n0 : (0 : Int32).toInt = 0 := by decide
  have n1 : (1 : Int32).toInt = 1 := by decide
  have n2 : (2 : Int32).toInt = 2 := by decide
  have n3 : (3 : Int32).toInt = 3 := by decide
  have n4 : (4 : Int32).toInt = 4 := by decide
  have n5 : (5 : Int32).toInt = 5 := by decide
  obtain ⟨tx, etx⟩ : ∃ z, kR κ x 0 = z := ⟨_, rfl⟩
  rw [etx] at hlen
  have ttx : zk σ0 tx 6 := by rw [← etx]; exact ttx0
  refine lv_aload_n hx hb dL_law_1341 rfl (lv_at hl 3 rfl) ?_
  refine lv_aload_n hx hb dL_law_1342 rfl (lv_at hl 4 rfl) ?_
  refine lv_iload hx hb dL_law_1343 (lv_at hl 0 rfl) ?_
  refine lv_iconst (v := 1) hx hb dL_law_1345 (by decide) ?_
  refine lv_iadd hx hb dL_law_1346 ?_
  refine g_add (by omega) (by omega) (fun t1 ht1 => ?_)
  refine va_sld hx hb hXs hbl hbA hT.2.2.2 (g_in (by omega) (by omega)) dL_law_1347 ?_
  refine ti y1 (by rw [hy1]; exact congrArg xs (show t1.toNatClampNeg = ix i + 1 from by show t1.toInt.toNat = ix i + 1; unfold ix; omega)) ?_
  refine lv_aload_n hx hb dL_law_1348 rfl (lv_at hl 1 rfl) ?_
  have hTo := hT
  refine tHi (n := 3) (As := [.ref x, .int y1, .ref out]) (rest := []) hx hb hml hown hg hT hK hX (L_reason l κ σ x y1 out (hT.k t_x (by decide)) (hT.k t_out (by decide)) hlt) sub_hfE_fA (mwHS k1182 k1183 k83 k1184) ⟨by decide, by decide, by decide +kernel⟩ ⟨(Nat.le_of_ble_eq_true rfl), (Nat.le_of_ble_eq_true rfl)⟩ rfl hl.1 rfl (Nat.le_of_ble_eq_true rfl) dL_law_1349 zx (fun r3 s2 H locs hφ hE hT => ?_)
  have R4 := hR.ext hE ⟨rfl, rfl, fun _ => rfl, fun _ => rfl, fun _ => rfl, fun _ => rfl⟩
  have a5 : (zI s2 tx 1).toInt = (zI σ tx 1).toInt := by rw [(hTo.k ttx (by decide)).eI hE (by decide) rfl]
  have a6 : (zI s2 mm 13).toInt = (zI σ mm 13).toInt := by rw [(hTo.k t_mm (by decide)).eI hE (by decide) rfl]
  refine lv_istore (lv' := [(5, .int r3), (4, .int i), (3, .ref out), (2, .ref mm), (1, .ref x), (0, .ref b)]) hx hb dL_law_1352 hl (by decide) rfl (fun ls hl => ?_)
  refine lv_aload_n hx hb dL_law_1354 rfl (lv_at hl 3 rfl) ?_
  refine lv_aload_n hx hb dL_law_1355 rfl (lv_at hl 5 rfl) ?_
  refine lv_iload hx hb dL_law_1356 (lv_at hl 1 rfl) ?_
  refine lv_iconst (v := 1) hx hb dL_law_1358 (by decide) ?_
  refine lv_iadd hx hb dL_law_1359 ?_
  refine g_add (by omega) (by omega) (fun t7 ht7 => ?_)
  refine va_sld hx hb hXs hbl hbA hT.2.2.2 (g_in (by omega) (by omega)) dL_law_1360 ?_
  refine ti y1 (by rw [hy1]; exact congrArg xs (show t7.toNatClampNeg = ix i + 1 from by show t7.toInt.toNat = ix i + 1; unfold ix; omega)) ?_
  have hTo := hT
  refine tVi (n := 1) (As := [.int y1]) (rest := []) hx hb hml hown hg hT hK hX (X6_reason l (kX κ) s2 mm y1 (hT.k t_mm (by decide)) R4) sub_gR_fA (mwV k1682 k1683 k1684 k92 k1685) ⟨rfl, by decide, by decide, by decide +kernel⟩ ⟨(Nat.le_of_ble_eq_true rfl), (Nat.le_of_ble_eq_true rfl)⟩ (hT.o20 (hT.k t_mm (by decide))) rfl rfl hl.1 rfl (Nat.le_of_ble_eq_true rfl) dL_law_1361 zx (fun r9 s8 H locs hφ hE hT => ?_)
  have R10 := R4.ext hE ⟨rfl, rfl, fun _ => rfl, fun _ => rfl, fun _ => rfl, fun _ => rfl⟩
  have a11 : (zI s8 tx 1).toInt = (zI s2 tx 1).toInt := by rw [(hTo.k ttx (by decide)).eI hE (by decide) rfl]
  have a12 : (zI s8 mm 13).toInt = (zI s2 mm 13).toInt := by rw [(hTo.k t_mm (by decide)).eI hE (by decide) rfl]
  refine lv_istore (lv' := [(6, .int r9), (5, .int r3), (4, .int i), (3, .ref out), (2, .ref mm), (1, .ref x), (0, .ref b)]) hx hb dL_law_1364 hl (by decide) rfl (fun ls hl => ?_)
  refine lv_goto (tgt := 1432) hx hb dL_law_1366 (by decide) ?_
  exact KK s8 _ _ _ hT R10 (by rw [etx]; omega) (lv_sub hl [2, 3, 4, 5, 6] rfl)
set_option maxHeartbeats 4000000 in
set_option maxRecDepth 100000 in
theorem lc_38 (l : Launch) (κ : Kt) (σ0 : Gh) (x mm out b : Nat) (t_x : zk σ0 x 7) (t_mm : zk σ0 mm 20) (t_out : zk σ0 out 24) (ttx0 : zk σ0 (kR κ x 0) 6) (hlt : l.stackTraces = false) {p : Program} {e : Env} {s : State} {m : MethodId} {below : List Frame} {meth : Method} {c : Code} {L : Nat} {xs : Nat → Int32} {i : Int32} {Q9 : State → Prop} (hx : p.tables.exec = Jvm.exec) (hb : c.code = cL_law) (hml : c.maxLocals = 9) (hown : s.vm.findClass RL = some m.cls) (hg : ∀ w ∈ GW, w.before #[Value.ref b] s = true) (hK : va_K κ.1 vwCl (kTy κ) s) (hX : XY κ (tA σ0 s.heap.size) s s.heap) (hXs : va_X b L xs s s.heap) (hbl : b < s.heap.size) (hbA : ¬ tA σ0 s.heap.size b) (zx : zroomX κ s room_1 601024 7293034) (hi0 : 0 ≤ i.toInt) (hi1 : i.toInt + 6 ≤ L) (hL9 : L ≤ 3072) {σ : Gh} {H : Heap} {locs : List Loc} {ls : Array Slot} (hT : TS κ fA σ0 σ s H locs) (hR : RI κ σ mm) (hlen : (zI σ (kR κ x 0) 1).toInt = (zI σ mm 13).toInt) (hl : lv_has ls 9 [(4, .int i), (3, .ref out), (2, .ref mm), (1, .ref x), (0, .ref b)]) (KK : ∀ (σ1 : Gh) (H : Heap) (locs : List Loc) (ls : Array Slot), TS (kX κ) fA σ0 σ1 s H locs → RI (kX κ) σ1 mm → (zI σ1 (kR κ x 0) 1).toInt = (zI σ1 mm 13).toInt → lv_has ls 9 [(4, .int i), (3, .ref out), (2, .ref mm), (1, .ref x), (0, .ref b)] → W p l e room_1 s m #[Value.ref b] below meth c H locs 601024 7293034 Q9 (F0 m 1432 ls [])) : W p l e room_1 s m #[Value.ref b] below meth c H locs 601024 7293034 Q9 (F0 m 1369 ls []) := by
  obtain ⟨y1, hy1⟩ : ∃ z, z = xs (ix i + 1) := ⟨_, rfl⟩
  obtain ⟨y2, hy2⟩ : ∃ z, z = xs (ix i + 2) := ⟨_, rfl⟩
  obtain ⟨y3, hy3⟩ : ∃ z, z = xs (ix i + 3) := ⟨_, rfl⟩
  obtain ⟨y4, hy4⟩ : ∃ z, z = xs (ix i + 4) := ⟨_, rfl⟩
  obtain ⟨y5, hy5⟩ : ∃ z, z = xs (ix i + 5) := ⟨_, rfl⟩
  have n0 : (0 : Int32).toInt = 0 := by decide
  have n1 : (1 : Int32).toInt = 1 := by decide
  have n2 : (2 : Int32).toInt = 2 := by decide
  have n3 : (3 : Int32).toInt = 3 := by decide
  have n4 : (4 : Int32).toInt = 4 := by decide
  have n5 : (5 : Int32).toInt = 5 := by decide
  obtain ⟨tx, etx⟩ : ∃ z, kR κ x 0 = z := ⟨_, rfl⟩
  rw [etx] at hlen
  have ttx : zk σ0 tx 6 := by rw [← etx]; exact ttx0
  refine lv_aload_n hx hb dL_law_1369 rfl (lv_at hl 3 rfl) ?_
  have hTo := hT
  refine tVi (n := 0) (As := []) (rest := []) hx hb hml hown hg hT hK hX (X5_reasonSample l κ σ x (hT.k t_x (by decide))) sub_fE_fA (mwV k598 k599 k600 k84 k601) ⟨rfl, by decide, by decide, by decide +kernel⟩ ⟨(Nat.le_of_ble_eq_true rfl), (Nat.le_of_ble_eq_true rfl)⟩ (hT.o7 (hT.k t_x (by decide))) rfl rfl hl.1 rfl (Nat.le_of_ble_eq_true rfl) dL_law_1370 zx.dn (fun r2 s1 H locs hφ hE hT => ?_)
  have R3 := hR.ext hE ⟨rfl, rfl, fun _ => rfl, fun _ => rfl, fun _ => rfl, fun _ => rfl⟩
  have a4 : (zI s1 tx 1).toInt = (zI σ tx 1).toInt := by rw [(hTo.k ttx (by decide)).eI hE (by decide) rfl]
  have a5 : (zI s1 mm 13).toInt = (zI σ mm 13).toInt := by rw [(hTo.k t_mm (by decide)).eI hE (by decide) rfl]
  refine lv_pop hx hb dL_law_1373 rfl ?_
  refine lv_aload_n hx hb dL_law_1374 rfl (lv_at hl 2 rfl) ?_
  have hTo := hT
  refine tVi (n := 0) (As := []) (rest := []) hx hb hml hown hg hT hK hX (X6_reasonSample l κ s1 mm (hT.k t_mm (by decide)) R3) sub_gR_fA (mwV k1686 k1687 k1688 k92 k1689) ⟨rfl, by decide, by decide, by decide +kernel⟩ ⟨(Nat.le_of_ble_eq_true rfl), (Nat.le_of_ble_eq_true rfl)⟩ (hT.o20 (hT.k t_mm (by decide))) rfl rfl hl.1 rfl (Nat.le_of_ble_eq_true rfl) dL_law_1375 zx.dn (fun r7 s6 H locs hφ hE hT => ?_)
  have R8 := R3.ext hE ⟨rfl, rfl, fun _ => rfl, fun _ => rfl, fun _ => rfl, fun _ => rfl⟩
  have a9 : (zI s6 tx 1).toInt = (zI s1 tx 1).toInt := by rw [(hTo.k ttx (by decide)).eI hE (by decide) rfl]
  have a10 : (zI s6 mm 13).toInt = (zI s1 mm 13).toInt := by rw [(hTo.k t_mm (by decide)).eI hE (by decide) rfl]
  refine lv_pop hx hb dL_law_1378 rfl ?_
  refine lv_goto (tgt := 1432) hx hb dL_law_1379 (by decide) ?_
  exact KK s6 _ _ _ hT.up R8 (by rw [etx]; omega) (lv_sub hl [0, 1, 2, 3, 4] rfl)
set_option maxHeartbeats 4000000 in
set_option maxRecDepth 100000 in
theorem lc_39 (l : Launch) (κ : Kt) (σ0 : Gh) (x mm out b : Nat) (t_x : zk σ0 x 7) (t_mm : zk σ0 mm 20) (t_out : zk σ0 out 24) (ttx0 : zk σ0 (kR κ x 0) 6) (hlt : l.stackTraces = false) {p : Program} {e : Env} {s : State} {m : MethodId} {below : List Frame} {meth : Method} {c : Code} {L : Nat} {xs : Nat → Int32} {i : Int32} {Q9 : State → Prop} (hx : p.tables.exec = Jvm.exec) (hb : c.code = cL_law) (hml : c.maxLocals = 9) (hown : s.vm.findClass RL = some m.cls) (hg : ∀ w ∈ GW, w.before #[Value.ref b] s = true) (hK : va_K κ.1 vwCl (kTy κ) s) (hX : XY κ (tA σ0 s.heap.size) s s.heap) (hXs : va_X b L xs s s.heap) (hbl : b < s.heap.size) (hbA : ¬ tA σ0 s.heap.size b) (zx : zroomX κ s room_1 601024 7293034) (hi0 : 0 ≤ i.toInt) (hi1 : i.toInt + 6 ≤ L) (hL9 : L ≤ 3072) {σ : Gh} {H : Heap} {locs : List Loc} {ls : Array Slot} (hT : TS κ fA σ0 σ s H locs) (hR : RI κ σ mm) (hlen : (zI σ (kR κ x 0) 1).toInt = (zI σ mm 13).toInt) (hl : lv_has ls 9 [(4, .int i), (3, .ref out), (2, .ref mm), (1, .ref x), (0, .ref b)]) (KK : ∀ (σ1 : Gh) (H : Heap) (locs : List Loc) (ls : Array Slot), TS (kX κ) fA σ0 σ1 s H locs → RI (kX κ) σ1 mm → (zI σ1 (kR κ x 0) 1).toInt = (zI σ1 mm 13).toInt → lv_has ls 9 [(4, .int i), (3, .ref out), (2, .ref mm), (1, .ref x), (0, .ref b)] → W p l e room_1 s m #[Value.ref b] below meth c H locs 601024 7293034 Q9 (F0 m 1432 ls [])) : W p l e room_1 s m #[Value.ref b] below meth c H locs 601024 7293034 Q9 (F0 m 1382 ls []) := by
  obtain ⟨y1, hy1⟩ : ∃ z, z = xs (ix i + 1) := ⟨_, rfl⟩
  obtain ⟨y2, hy2⟩ : ∃ z, z = xs (ix i + 2) := ⟨_, rfl⟩
  obtain ⟨y3, hy3⟩ : ∃ z, z = xs (ix i + 3) := ⟨_, rfl⟩
  obtain ⟨y4, hy4⟩ : ∃ z, z = xs (ix i + 4) := ⟨_, rfl⟩
  obtain ⟨y5, hy5⟩ : ∃ z, z = xs (ix i + 5) := ⟨_, rfl⟩
  have n0 : (0 : Int32).toInt = 0 := by decide
  have n1 : (1 : Int32).toInt = 1 := by decide
  have n2 : (2 : Int32).toInt = 2 := by decide
  have n3 : (3 : Int32).toInt = 3 := by decide
  have n4 : (4 : Int32).toInt = 4 := by decide
  have n5 : (5 : Int32).toInt = 5 := by decide
  obtain ⟨tx, etx⟩ : ∃ z, kR κ x 0 = z := ⟨_, rfl⟩
  rw [etx] at hlen
  have ttx : zk σ0 tx 6 := by rw [← etx]; exact ttx0
  refine lv_aload_n hx hb dL_law_1382 rfl (lv_at hl 3 rfl) ?_
  refine lv_aload_n hx hb dL_law_1383 rfl (lv_at hl 4 rfl) ?_
  refine lv_iload hx hb dL_law_1384 (lv_at hl 0 rfl) ?_
  refine lv_iconst (v := 1) hx hb dL_law_1386 (by decide) ?_
  refine lv_iadd hx hb dL_law_1387 ?_
  refine g_add (by omega) (by omega) (fun t1 ht1 => ?_)
  refine va_sld hx hb hXs hbl hbA hT.2.2.2 (g_in (by omega) (by omega)) dL_law_1388 ?_
  refine ti y1 (by rw [hy1]; exact congrArg xs (show t1.toNatClampNeg = ix i + 1 from by show t1.toInt.toNat = ix i + 1; unfold ix; omega)) ?_
  have hTo := hT
  refine tHi (n := 2) (As := [.ref x, .int y1]) (rest := []) hx hb hml hown hg hT hK hX (L_save l κ σ x y1 (hT.k t_x (by decide)) hlt) sub_hfSv_fA (mwHS k1189 k1190 k83 k1191) ⟨by decide, by decide, by decide +kernel⟩ ⟨(Nat.le_of_ble_eq_true rfl), (Nat.le_of_ble_eq_true rfl)⟩ rfl hl.1 rfl (Nat.le_of_ble_eq_true rfl) dL_law_1389 zx (fun r3 s2 H locs hφ hE hT => ?_)
  have R4 := hR.ext hE ⟨rfl, rfl, fun _ => rfl, fun _ => rfl, fun _ => rfl, fun _ => rfl⟩
  have a5 : (zI s2 tx 1).toInt = (zI σ tx 1).toInt := by rw [(hTo.k ttx (by decide)).eI hE (by decide) rfl]
  have a6 : (zI s2 mm 13).toInt = (zI σ mm 13).toInt := by rw [(hTo.k t_mm (by decide)).eI hE (by decide) rfl]
  refine lv_istore (lv' := [(5, .int r3), (4, .int i), (3, .ref out), (2, .ref mm), (1, .ref x), (0, .ref b)]) hx hb dL_law_1392 hl (by decide) rfl (fun ls hl => ?_)
  refine lv_aload_n hx hb dL_law_1394 rfl (lv_at hl 3 rfl) ?_
  refine lv_aload_n hx hb dL_law_1395 rfl (lv_at hl 5 rfl) ?_
  refine lv_iload hx hb dL_law_1396 (lv_at hl 1 rfl) ?_
  refine lv_iconst (v := 1) hx hb dL_law_1398 (by decide) ?_
  refine lv_iadd hx hb dL_law_1399 ?_
  refine g_add (by omega) (by omega) (fun t7 ht7 => ?_)
  refine va_sld hx hb hXs hbl hbA hT.2.2.2 (g_in (by omega) (by omega)) dL_law_1400 ?_
  refine ti y1 (by rw [hy1]; exact congrArg xs (show t7.toNatClampNeg = ix i + 1 from by show t7.toInt.toNat = ix i + 1; unfold ix; omega)) ?_
  have hTo := hT
  refine tVv (n := 1) (As := [.int y1]) (rest := []) hx hb hml hown hg hT hK hX (X6_save l (kX κ) s2 mm y1 (hT.k t_mm (by decide)) R4) sub_gS_fA (mwV k1690 k1691 k1692 k92 k1693) ⟨rfl, by decide, by decide, by decide +kernel⟩ ⟨(Nat.le_of_ble_eq_true rfl), (Nat.le_of_ble_eq_true rfl)⟩ (hT.o20 (hT.k t_mm (by decide))) rfl rfl hl.1 rfl (Nat.le_of_ble_eq_true rfl) dL_law_1401 zx (fun s8 H locs hφ hE hT => ?_)
  have f10 := hφ
  have a11 : (zI s8 tx 1).toInt = (zI s2 tx 1).toInt := by rw [(hTo.k ttx (by decide)).eI hE (by decide) rfl]
  have a12 : (zI s8 mm 13).toInt = (zI s2 mm 13).toInt := by rw [(hTo.k t_mm (by decide)).eI hE (by decide) rfl]
  refine lv_goto (tgt := 1432) hx hb dL_law_1404 (by decide) ?_
  exact KK s8 _ _ _ hT f10 (by rw [etx]; omega) (lv_sub hl [1, 2, 3, 4, 5] rfl)
set_option maxHeartbeats 4000000 in
set_option maxRecDepth 100000 in
theorem lc_40 (l : Launch) (κ : Kt) (σ0 : Gh) (x mm out b : Nat) (t_x : zk σ0 x 7) (t_mm : zk σ0 mm 20) (t_out : zk σ0 out 24) (ttx0 : zk σ0 (kR κ x 0) 6) (hlt : l.stackTraces = false) {p : Program} {e : Env} {s : State} {m : MethodId} {below : List Frame} {meth : Method} {c : Code} {L : Nat} {xs : Nat → Int32} {i : Int32} {Q9 : State → Prop} (hx : p.tables.exec = Jvm.exec) (hb : c.code = cL_law) (hml : c.maxLocals = 9) (hown : s.vm.findClass RL = some m.cls) (hg : ∀ w ∈ GW, w.before #[Value.ref b] s = true) (hK : va_K κ.1 vwCl (kTy κ) s) (hX : XY κ (tA σ0 s.heap.size) s s.heap) (hXs : va_X b L xs s s.heap) (hbl : b < s.heap.size) (hbA : ¬ tA σ0 s.heap.size b) (zx : zroomX κ s room_1 601024 7293034) (hi0 : 0 ≤ i.toInt) (hi1 : i.toInt + 6 ≤ L) (hL9 : L ≤ 3072) {σ : Gh} {H : Heap} {locs : List Loc} {ls : Array Slot} (hT : TS κ fA σ0 σ s H locs) (hR : RI κ σ mm) (hlen : (zI σ (kR κ x 0) 1).toInt = (zI σ mm 13).toInt) (hl : lv_has ls 9 [(4, .int i), (3, .ref out), (2, .ref mm), (1, .ref x), (0, .ref b)]) (KK : ∀ (σ1 : Gh) (H : Heap) (locs : List Loc) (ls : Array Slot), TS (kX κ) fA σ0 σ1 s H locs → RI (kX κ) σ1 mm → (zI σ1 (kR κ x 0) 1).toInt = (zI σ1 mm 13).toInt → lv_has ls 9 [(4, .int i), (3, .ref out), (2, .ref mm), (1, .ref x), (0, .ref b)] → W p l e room_1 s m #[Value.ref b] below meth c H locs 601024 7293034 Q9 (F0 m 1432 ls [])) : W p l e room_1 s m #[Value.ref b] below meth c H locs 601024 7293034 Q9 (F0 m 1407 ls []) := by
  obtain ⟨y1, hy1⟩ : ∃ z, z = xs (ix i + 1) := ⟨_, rfl⟩
  obtain ⟨y2, hy2⟩ : ∃ z, z = xs (ix i + 2) := ⟨_, rfl⟩
  obtain ⟨y3, hy3⟩ : ∃ z, z = xs (ix i + 3) := ⟨_, rfl⟩
  obtain ⟨y4, hy4⟩ : ∃ z, z = xs (ix i + 4) := ⟨_, rfl⟩
  obtain ⟨y5, hy5⟩ : ∃ z, z = xs (ix i + 5) := ⟨_, rfl⟩
  have n0 : (0 : Int32).toInt = 0 := by decide
  have n1 : (1 : Int32).toInt = 1 := by decide
  have n2 : (2 : Int32).toInt = 2 := by decide
  have n3 : (3 : Int32).toInt = 3 := by decide
  have n4 : (4 : Int32).toInt = 4 := by decide
  have n5 : (5 : Int32).toInt = 5 := by decide
  obtain ⟨tx, etx⟩ : ∃ z, kR κ x 0 = z := ⟨_, rfl⟩
  rw [etx] at hlen
  have ttx : zk σ0 tx 6 := by rw [← etx]; exact ttx0
  refine lv_aload_n hx hb dL_law_1407 rfl (lv_at hl 3 rfl) ?_
  refine lv_aload_n hx hb dL_law_1408 rfl (lv_at hl 4 rfl) ?_
  refine lv_iload hx hb dL_law_1409 (lv_at hl 0 rfl) ?_
  refine lv_iconst (v := 1) hx hb dL_law_1411 (by decide) ?_
  refine lv_iadd hx hb dL_law_1412 ?_
  refine g_add (by omega) (by omega) (fun t1 ht1 => ?_)
  refine va_sld hx hb hXs hbl hbA hT.2.2.2 (g_in (by omega) (by omega)) dL_law_1413 ?_
  refine ti y1 (by rw [hy1]; exact congrArg xs (show t1.toNatClampNeg = ix i + 1 from by show t1.toInt.toNat = ix i + 1; unfold ix; omega)) ?_
  have hTo := hT
  refine tHi (n := 2) (As := [.ref x, .int y1]) (rest := []) hx hb hml hown hg hT hK hX (L_restore l κ σ x y1 (hT.k t_x (by decide)) hlt) sub_hfCp_fA (mwHS k1196 k1197 k83 k1198) ⟨by decide, by decide, by decide +kernel⟩ ⟨(Nat.le_of_ble_eq_true rfl), (Nat.le_of_ble_eq_true rfl)⟩ rfl hl.1 rfl (Nat.le_of_ble_eq_true rfl) dL_law_1414 zx (fun r3 s2 H locs hφ hE hT => ?_)
  have R4 := hR.ext hE ⟨rfl, rfl, fun _ => rfl, fun _ => rfl, fun _ => rfl, fun _ => rfl⟩
  have a5 : (zI s2 tx 1).toInt = (zI σ tx 1).toInt := by rw [(hTo.k ttx (by decide)).eI hE (by decide) rfl]
  have a6 : (zI s2 mm 13).toInt = (zI σ mm 13).toInt := by rw [(hTo.k t_mm (by decide)).eI hE (by decide) rfl]
  refine lv_istore (lv' := [(5, .int r3), (4, .int i), (3, .ref out), (2, .ref mm), (1, .ref x), (0, .ref b)]) hx hb dL_law_1417 hl (by decide) rfl (fun ls hl => ?_)
  refine lv_aload_n hx hb dL_law_1419 rfl (lv_at hl 3 rfl) ?_
  refine lv_aload_n hx hb dL_law_1420 rfl (lv_at hl 5 rfl) ?_
  refine lv_iload hx hb dL_law_1421 (lv_at hl 1 rfl) ?_
  refine lv_iconst (v := 1) hx hb dL_law_1423 (by decide) ?_
  refine lv_iadd hx hb dL_law_1424 ?_
  refine g_add (by omega) (by omega) (fun t7 ht7 => ?_)
  refine va_sld hx hb hXs hbl hbA hT.2.2.2 (g_in (by omega) (by omega)) dL_law_1425 ?_
  refine ti y1 (by rw [hy1]; exact congrArg xs (show t7.toNatClampNeg = ix i + 1 from by show t7.toInt.toNat = ix i + 1; unfold ix; omega)) ?_
  have hTo := hT
  refine tVv (n := 1) (As := [.int y1]) (rest := []) hx hb hml hown hg hT hK hX (X6_restore l (kX κ) s2 mm y1 (hT.k t_mm (by decide)) R4) sub_gXs_fA (mwV k1694 k1695 k1696 k92 k1697) ⟨rfl, by decide, by decide, by decide +kernel⟩ ⟨(Nat.le_of_ble_eq_true rfl), (Nat.le_of_ble_eq_true rfl)⟩ (hT.o20 (hT.k t_mm (by decide))) rfl rfl hl.1 rfl (Nat.le_of_ble_eq_true rfl) dL_law_1426 zx (fun s8 H locs hφ hE hT => ?_)
  have f10 := hφ
  have a11 : (zI s8 tx 1).toInt = (zI s2 tx 1).toInt := by rw [(hTo.k ttx (by decide)).eI hE (by decide) rfl]
  have a12 : (zI s8 mm 13).toInt = (zI s2 mm 13).toInt := by rw [(hTo.k t_mm (by decide)).eI hE (by decide) rfl]
  refine lv_goto (tgt := 1432) hx hb dL_law_1429 (by decide) ?_
  exact KK s8 _ _ _ hT f10 (by rw [etx]; omega) (lv_sub hl [1, 2, 3, 4, 5] rfl)
