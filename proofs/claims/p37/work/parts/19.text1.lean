/-! Text over any state: tokens, settings -/
theorem sub_fE_fP : ∀ t k, fP t k = false → fE t k = false := by
  intro t k h
  simp [fE, fP] at h ⊢ <;> omega
theorem sub_fE_fPs : ∀ t k, fPs t k = false → fE t k = false := by
  intro t k h
  simp [fE, fPs] at h ⊢ <;> omega
theorem sub_fP_fPe : ∀ t k, fPe t k = false → fP t k = false := by
  intro t k h
  simp [fP, fPe] at h ⊢ <;> omega
theorem sub_fP_fPs : ∀ t k, fPs t k = false → fP t k = false := by
  intro t k h
  simp [fP, fPs] at h ⊢ <;> omega
theorem sub_fPe_fPs : ∀ t k, fPs t k = false → fPe t k = false := by
  intro t k h
  simp [fPe, fPs] at h ⊢ <;> omega
theorem k17 : Cond.selects RX3 yX3_pass yX3_pass ∈ GW := gm 17 (by decide +kernel) (by decide +kernel)
theorem k18 : Cond.selects RX3 yX3_passLetters yX3_passLetters ∈ GW := gm 18 (by decide +kernel) (by decide +kernel)
theorem k19 : Cond.selects RX3 yX3_passDigits yX3_passDigits ∈ GW := gm 19 (by decide +kernel) (by decide +kernel)
theorem k21 : Cond.selects RX3 yX3_settingHere yX3_settingHere ∈ GW := gm 21 (by decide +kernel) (by decide +kernel)
theorem k22 : Cond.selects RX3 yX3_isWord yX3_isWord ∈ GW := gm 22 (by decide +kernel) (by decide +kernel)
theorem k23 : Cond.selects RX3 yX3_isWrong yX3_isWrong ∈ GW := gm 23 (by decide +kernel) (by decide +kernel)
theorem k24 : Cond.selects RX3 yX3_readSetting yX3_readSetting ∈ GW := gm 24 (by decide +kernel) (by decide +kernel)
theorem k25 : Cond.selects RX3 yX3_readLeast yX3_readLeast ∈ GW := gm 25 (by decide +kernel) (by decide +kernel)
theorem k26 : Cond.selects RX3 yX3_passSemicolon yX3_passSemicolon ∈ GW := gm 26 (by decide +kernel) (by decide +kernel)
theorem k85 : Cond.initialized RX3 ∈ GW := gm 85 (by decide +kernel) (by decide +kernel)
theorem k119 : Cond.fieldLink RX3 11 "LiftingSignal$Text" "bytes" "[B" ∈ GW := gm 119 (by decide +kernel) (by decide +kernel)
theorem k120 : Cond.fieldLink RX3 15 "LiftingSignal$Text" "length" "I" ∈ GW := gm 120 (by decide +kernel) (by decide +kernel)
theorem k122 : Cond.fieldLink RX3 19 "LiftingSignal$Text" "errorCode" "I" ∈ GW := gm 122 (by decide +kernel) (by decide +kernel)
theorem k124 : Cond.fieldLink RX3 22 "LiftingSignal$Text" "errorPosition" "I" ∈ GW := gm 124 (by decide +kernel) (by decide +kernel)
theorem k126 : Cond.fieldLink RX3 25 "LiftingSignal$Text" "kind" "I" ∈ GW := gm 126 (by decide +kernel) (by decide +kernel)
theorem k127 : Cond.fieldLink RX3 28 "LiftingSignal$Text" "start" "I" ∈ GW := gm 127 (by decide +kernel) (by decide +kernel)
theorem k128 : Cond.fieldLink RX3 31 "LiftingSignal$Text" "end" "I" ∈ GW := gm 128 (by decide +kernel) (by decide +kernel)
theorem k129 : Cond.fieldLink RX3 34 "LiftingSignal$Text" "number" "I" ∈ GW := gm 129 (by decide +kernel) (by decide +kernel)
theorem k167 : Cond.fieldLink RX3 86 "LiftingSignal$Source" "split" "I" ∈ GW := gm 167 (by decide +kernel) (by decide +kernel)
theorem k170 : Cond.fieldLink RX3 94 "LiftingSignal$Source" "predict" "I" ∈ GW := gm 170 (by decide +kernel) (by decide +kernel)
theorem k173 : Cond.fieldLink RX3 98 "LiftingSignal$Source" "isKeep" "Z" ∈ GW := gm 173 (by decide +kernel) (by decide +kernel)
theorem k176 : Cond.fieldLink RX3 107 "LiftingSignal$Source" "least" "I" ∈ GW := gm 176 (by decide +kernel) (by decide +kernel)
theorem k697 : Cond.methodLink RX3 42 yX3_pass ∈ GW := gm 697 (by decide +kernel) (by decide +kernel)
theorem k699 : Cond.instanceMethod yX3_pass ∈ GW := gm 699 (by decide +kernel) (by decide +kernel)
theorem k700 : Cond.code yX3_pass cX3_pass 1 (some .boolean) ∈ GW := gm 700 (by decide +kernel) (by decide +kernel)
theorem k701 : Cond.methodLink RX3 133 yX3_isLetter ∈ GW := gm 701 (by decide +kernel) (by decide +kernel)
theorem k702 : Cond.static yX3_isLetter ∈ GW := gm 702 (by decide +kernel) (by decide +kernel)
theorem k703 : Cond.code yX3_isLetter cX3_isLetter 1 (some .boolean) ∈ GW := gm 703 (by decide +kernel) (by decide +kernel)
theorem k704 : Cond.methodLink RX3 137 yX3_passLetters ∈ GW := gm 704 (by decide +kernel) (by decide +kernel)
theorem k706 : Cond.instanceMethod yX3_passLetters ∈ GW := gm 706 (by decide +kernel) (by decide +kernel)
theorem k707 : Cond.code yX3_passLetters cX3_passLetters 1 none ∈ GW := gm 707 (by decide +kernel) (by decide +kernel)
theorem k708 : Cond.methodLink RX3 140 yX3_isDigit ∈ GW := gm 708 (by decide +kernel) (by decide +kernel)
theorem k709 : Cond.static yX3_isDigit ∈ GW := gm 709 (by decide +kernel) (by decide +kernel)
theorem k710 : Cond.code yX3_isDigit cX3_isDigit 1 (some .boolean) ∈ GW := gm 710 (by decide +kernel) (by decide +kernel)
theorem k711 : Cond.methodLink RX3 143 yX3_passDigits ∈ GW := gm 711 (by decide +kernel) (by decide +kernel)
theorem k713 : Cond.instanceMethod yX3_passDigits ∈ GW := gm 713 (by decide +kernel) (by decide +kernel)
theorem k714 : Cond.code yX3_passDigits cX3_passDigits 1 none ∈ GW := gm 714 (by decide +kernel) (by decide +kernel)
theorem k719 : Cond.methodLink RX3 53 yX3_settingHere ∈ GW := gm 719 (by decide +kernel) (by decide +kernel)
theorem k721 : Cond.instanceMethod yX3_settingHere ∈ GW := gm 721 (by decide +kernel) (by decide +kernel)
theorem k722 : Cond.code yX3_settingHere cX3_settingHere 1 (some .int) ∈ GW := gm 722 (by decide +kernel) (by decide +kernel)
theorem k724 : Cond.methodLink RX3 70 yX3_isWord ∈ GW := gm 724 (by decide +kernel) (by decide +kernel)
theorem k726 : Cond.instanceMethod yX3_isWord ∈ GW := gm 726 (by decide +kernel) (by decide +kernel)
theorem k727 : Cond.code yX3_isWord cX3_isWord 3 (some .boolean) ∈ GW := gm 727 (by decide +kernel) (by decide +kernel)
theorem k728 : Cond.methodLink RX3 125 yJ0_length_8abf5 ∈ GW := gm 728 (by decide +kernel) (by decide +kernel)
theorem k729 : Cond.instanceMethod yJ0_length_8abf5 ∈ GW := gm 729 (by decide +kernel) (by decide +kernel)
theorem k730 : Cond.selects RJ0 yJ0_length_8abf5 yJ0_length_8abf5 ∈ GW := gm 730 (by decide +kernel) (by decide +kernel)
theorem k731 : Cond.code yJ0_length_8abf5 cJ0_length_8abf5 1 (some .int) ∈ GW := gm 731 (by decide +kernel) (by decide +kernel)
theorem k738 : Cond.methodLink RX3 129 yJ0_charAt_5068e ∈ GW := gm 738 (by decide +kernel) (by decide +kernel)
theorem k739 : Cond.instanceMethod yJ0_charAt_5068e ∈ GW := gm 739 (by decide +kernel) (by decide +kernel)
theorem k740 : Cond.selects RJ0 yJ0_charAt_5068e yJ0_charAt_5068e ∈ GW := gm 740 (by decide +kernel) (by decide +kernel)
theorem k741 : Cond.code yJ0_charAt_5068e cJ0_charAt_5068e 2 (some .char) ∈ GW := gm 741 (by decide +kernel) (by decide +kernel)
theorem k779 : Cond.methodLink RX3 57 yX3_isWrong ∈ GW := gm 779 (by decide +kernel) (by decide +kernel)
theorem k781 : Cond.instanceMethod yX3_isWrong ∈ GW := gm 781 (by decide +kernel) (by decide +kernel)
theorem k782 : Cond.code yX3_isWrong cX3_isWrong 2 (some .boolean) ∈ GW := gm 782 (by decide +kernel) (by decide +kernel)
theorem k783 : Cond.methodLink RX3 61 yX3_readSetting ∈ GW := gm 783 (by decide +kernel) (by decide +kernel)
theorem k785 : Cond.instanceMethod yX3_readSetting ∈ GW := gm 785 (by decide +kernel) (by decide +kernel)
theorem k786 : Cond.code yX3_readSetting cX3_readSetting 3 (some .boolean) ∈ GW := gm 786 (by decide +kernel) (by decide +kernel)
theorem k795 : Cond.methodLink RX3 104 yX3_readLeast ∈ GW := gm 795 (by decide +kernel) (by decide +kernel)
theorem k797 : Cond.instanceMethod yX3_readLeast ∈ GW := gm 797 (by decide +kernel) (by decide +kernel)
theorem k798 : Cond.code yX3_readLeast cX3_readLeast 2 (some .boolean) ∈ GW := gm 798 (by decide +kernel) (by decide +kernel)
theorem k799 : Cond.methodLink RX3 65 yX3_passSemicolon ∈ GW := gm 799 (by decide +kernel) (by decide +kernel)
theorem k801 : Cond.instanceMethod yX3_passSemicolon ∈ GW := gm 801 (by decide +kernel) (by decide +kernel)
theorem k802 : Cond.code yX3_passSemicolon cX3_passSemicolon 1 (some .boolean) ∈ GW := gm 802 (by decide +kernel) (by decide +kernel)
theorem dX3_addInt_0 : decode cX3_addInt 0 = .ok (.bipush 24, 2) := by decide +kernel
theorem dX3_addInt_2 : decode cX3_addInt 2 = .ok (.istore_n 2, 1) := by decide +kernel
theorem dX3_addInt_3 : decode cX3_addInt 3 = .ok (.iload_n 2, 1) := by decide +kernel
theorem dX3_addInt_4 : decode cX3_addInt 4 = .ok (.ifCond .lt 42, 3) := by decide +kernel
theorem dX3_addInt_7 : decode cX3_addInt 7 = .ok (.aload_n 0, 1) := by decide +kernel
theorem dX3_addInt_8 : decode cX3_addInt 8 = .ok (.getfield 15, 3) := by decide +kernel
theorem dX3_addInt_11 : decode cX3_addInt 11 = .ok (.sipush 700, 3) := by decide +kernel
theorem dX3_addInt_14 : decode cX3_addInt 14 = .ok (.if_icmp .ge 32, 3) := by decide +kernel
theorem dX3_addInt_17 : decode cX3_addInt 17 = .ok (.aload_n 0, 1) := by decide +kernel
theorem dX3_addInt_18 : decode cX3_addInt 18 = .ok (.getfield 11, 3) := by decide +kernel
theorem dX3_addInt_21 : decode cX3_addInt 21 = .ok (.aload_n 0, 1) := by decide +kernel
theorem dX3_addInt_22 : decode cX3_addInt 22 = .ok (.getfield 15, 3) := by decide +kernel
theorem dX3_addInt_25 : decode cX3_addInt 25 = .ok (.iload_n 1, 1) := by decide +kernel
theorem dX3_addInt_26 : decode cX3_addInt 26 = .ok (.iload_n 2, 1) := by decide +kernel
theorem dX3_addInt_27 : decode cX3_addInt 27 = .ok (.ishr, 1) := by decide +kernel
theorem dX3_addInt_28 : decode cX3_addInt 28 = .ok (.i2b, 1) := by decide +kernel
theorem dX3_addInt_29 : decode cX3_addInt 29 = .ok (.bastore, 1) := by decide +kernel
theorem dX3_addInt_30 : decode cX3_addInt 30 = .ok (.aload_n 0, 1) := by decide +kernel
theorem dX3_addInt_31 : decode cX3_addInt 31 = .ok (.dup, 1) := by decide +kernel
theorem dX3_addInt_32 : decode cX3_addInt 32 = .ok (.getfield 15, 3) := by decide +kernel
theorem dX3_addInt_35 : decode cX3_addInt 35 = .ok (.iconst 1, 1) := by decide +kernel
theorem dX3_addInt_36 : decode cX3_addInt 36 = .ok (.iadd, 1) := by decide +kernel
theorem dX3_addInt_37 : decode cX3_addInt 37 = .ok (.putfield 15, 3) := by decide +kernel
theorem dX3_addInt_40 : decode cX3_addInt 40 = .ok (.iinc 2 (-8), 3) := by decide +kernel
theorem dX3_addInt_43 : decode cX3_addInt 43 = .ok (.goto (-40), 3) := by decide +kernel
theorem dX3_addInt_46 : decode cX3_addInt 46 = .ok (.return_, 1) := by decide +kernel
theorem dX3_hasRoom_0 : decode cX3_hasRoom 0 = .ok (.aload_n 0, 1) := by decide +kernel
theorem dX3_hasRoom_1 : decode cX3_hasRoom 1 = .ok (.getfield 15, 3) := by decide +kernel
theorem dX3_hasRoom_4 : decode cX3_hasRoom 4 = .ok (.bipush 20, 2) := by decide +kernel
theorem dX3_hasRoom_6 : decode cX3_hasRoom 6 = .ok (.iadd, 1) := by decide +kernel
theorem dX3_hasRoom_7 : decode cX3_hasRoom 7 = .ok (.sipush 700, 3) := by decide +kernel
theorem dX3_hasRoom_10 : decode cX3_hasRoom 10 = .ok (.if_icmp .gt 7, 3) := by decide +kernel
theorem dX3_hasRoom_13 : decode cX3_hasRoom 13 = .ok (.iconst 1, 1) := by decide +kernel
theorem dX3_hasRoom_14 : decode cX3_hasRoom 14 = .ok (.goto 4, 3) := by decide +kernel
theorem dX3_hasRoom_17 : decode cX3_hasRoom 17 = .ok (.iconst 0, 1) := by decide +kernel
theorem dX3_hasRoom_18 : decode cX3_hasRoom 18 = .ok (.ireturn, 1) := by decide +kernel
theorem dX3_isDigit_0 : decode cX3_isDigit 0 = .ok (.iload_n 0, 1) := by decide +kernel
theorem dX3_isDigit_1 : decode cX3_isDigit 1 = .ok (.bipush 48, 2) := by decide +kernel
theorem dX3_isDigit_3 : decode cX3_isDigit 3 = .ok (.if_icmp .lt 13, 3) := by decide +kernel
theorem dX3_isDigit_6 : decode cX3_isDigit 6 = .ok (.iload_n 0, 1) := by decide +kernel
theorem dX3_isDigit_7 : decode cX3_isDigit 7 = .ok (.bipush 57, 2) := by decide +kernel
theorem dX3_isDigit_9 : decode cX3_isDigit 9 = .ok (.if_icmp .gt 7, 3) := by decide +kernel
theorem dX3_isDigit_12 : decode cX3_isDigit 12 = .ok (.iconst 1, 1) := by decide +kernel
theorem dX3_isDigit_13 : decode cX3_isDigit 13 = .ok (.goto 4, 3) := by decide +kernel
theorem dX3_isDigit_16 : decode cX3_isDigit 16 = .ok (.iconst 0, 1) := by decide +kernel
theorem dX3_isDigit_17 : decode cX3_isDigit 17 = .ok (.ireturn, 1) := by decide +kernel
theorem dX3_isLetter_0 : decode cX3_isLetter 0 = .ok (.iload_n 0, 1) := by decide +kernel
theorem dX3_isLetter_1 : decode cX3_isLetter 1 = .ok (.bipush 97, 2) := by decide +kernel
theorem dX3_isLetter_3 : decode cX3_isLetter 3 = .ok (.if_icmp .lt 13, 3) := by decide +kernel
theorem dX3_isLetter_6 : decode cX3_isLetter 6 = .ok (.iload_n 0, 1) := by decide +kernel
theorem dX3_isLetter_7 : decode cX3_isLetter 7 = .ok (.bipush 122, 2) := by decide +kernel
theorem dX3_isLetter_9 : decode cX3_isLetter 9 = .ok (.if_icmp .gt 7, 3) := by decide +kernel
theorem dX3_isLetter_12 : decode cX3_isLetter 12 = .ok (.iconst 1, 1) := by decide +kernel
theorem dX3_isLetter_13 : decode cX3_isLetter 13 = .ok (.goto 4, 3) := by decide +kernel
theorem dX3_isLetter_16 : decode cX3_isLetter 16 = .ok (.iconst 0, 1) := by decide +kernel
theorem dX3_isLetter_17 : decode cX3_isLetter 17 = .ok (.ireturn, 1) := by decide +kernel
theorem dX3_isWord_0 : decode cX3_isWord 0 = .ok (.aload_n 0, 1) := by decide +kernel
theorem dX3_isWord_1 : decode cX3_isWord 1 = .ok (.getfield 25, 3) := by decide +kernel
theorem dX3_isWord_4 : decode cX3_isWord 4 = .ok (.iconst 1, 1) := by decide +kernel
theorem dX3_isWord_5 : decode cX3_isWord 5 = .ok (.if_icmp .ne 19, 3) := by decide +kernel
theorem dX3_isWord_8 : decode cX3_isWord 8 = .ok (.aload_n 0, 1) := by decide +kernel
theorem dX3_isWord_9 : decode cX3_isWord 9 = .ok (.getfield 31, 3) := by decide +kernel
theorem dX3_isWord_12 : decode cX3_isWord 12 = .ok (.aload_n 0, 1) := by decide +kernel
theorem dX3_isWord_13 : decode cX3_isWord 13 = .ok (.getfield 28, 3) := by decide +kernel
theorem dX3_isWord_16 : decode cX3_isWord 16 = .ok (.isub, 1) := by decide +kernel
theorem dX3_isWord_17 : decode cX3_isWord 17 = .ok (.aload_n 1, 1) := by decide +kernel
theorem dX3_isWord_18 : decode cX3_isWord 18 = .ok (.invokevirtual 125, 3) := by decide +kernel
theorem dX3_isWord_21 : decode cX3_isWord 21 = .ok (.if_icmp .eq 5, 3) := by decide +kernel
theorem dX3_isWord_24 : decode cX3_isWord 24 = .ok (.iconst 0, 1) := by decide +kernel
theorem dX3_isWord_25 : decode cX3_isWord 25 = .ok (.ireturn, 1) := by decide +kernel
theorem dX3_isWord_26 : decode cX3_isWord 26 = .ok (.iconst 0, 1) := by decide +kernel
theorem dX3_isWord_27 : decode cX3_isWord 27 = .ok (.istore_n 2, 1) := by decide +kernel
theorem dX3_isWord_28 : decode cX3_isWord 28 = .ok (.iload_n 2, 1) := by decide +kernel
theorem dX3_isWord_29 : decode cX3_isWord 29 = .ok (.aload_n 1, 1) := by decide +kernel
theorem dX3_isWord_30 : decode cX3_isWord 30 = .ok (.invokevirtual 125, 3) := by decide +kernel
theorem dX3_isWord_33 : decode cX3_isWord 33 = .ok (.if_icmp .ge 30, 3) := by decide +kernel
theorem dX3_isWord_36 : decode cX3_isWord 36 = .ok (.aload_n 0, 1) := by decide +kernel
theorem dX3_isWord_37 : decode cX3_isWord 37 = .ok (.getfield 11, 3) := by decide +kernel
theorem dX3_isWord_40 : decode cX3_isWord 40 = .ok (.aload_n 0, 1) := by decide +kernel
theorem dX3_isWord_41 : decode cX3_isWord 41 = .ok (.getfield 28, 3) := by decide +kernel
theorem dX3_isWord_44 : decode cX3_isWord 44 = .ok (.iload_n 2, 1) := by decide +kernel
theorem dX3_isWord_45 : decode cX3_isWord 45 = .ok (.iadd, 1) := by decide +kernel
theorem dX3_isWord_46 : decode cX3_isWord 46 = .ok (.baload, 1) := by decide +kernel
theorem dX3_isWord_47 : decode cX3_isWord 47 = .ok (.aload_n 1, 1) := by decide +kernel
theorem dX3_isWord_48 : decode cX3_isWord 48 = .ok (.iload_n 2, 1) := by decide +kernel
theorem dX3_isWord_49 : decode cX3_isWord 49 = .ok (.invokevirtual 129, 3) := by decide +kernel
theorem dX3_isWord_52 : decode cX3_isWord 52 = .ok (.if_icmp .eq 5, 3) := by decide +kernel
theorem dX3_isWord_55 : decode cX3_isWord 55 = .ok (.iconst 0, 1) := by decide +kernel
theorem dX3_isWord_56 : decode cX3_isWord 56 = .ok (.ireturn, 1) := by decide +kernel
theorem dX3_isWord_57 : decode cX3_isWord 57 = .ok (.iinc 2 1, 3) := by decide +kernel
theorem dX3_isWord_60 : decode cX3_isWord 60 = .ok (.goto (-32), 3) := by decide +kernel
theorem dX3_isWord_63 : decode cX3_isWord 63 = .ok (.iconst 1, 1) := by decide +kernel
theorem dX3_isWord_64 : decode cX3_isWord 64 = .ok (.ireturn, 1) := by decide +kernel
theorem dX3_isWrong_0 : decode cX3_isWrong 0 = .ok (.aload_n 0, 1) := by decide +kernel
theorem dX3_isWrong_1 : decode cX3_isWrong 1 = .ok (.iload_n 1, 1) := by decide +kernel
theorem dX3_isWrong_2 : decode cX3_isWrong 2 = .ok (.putfield 19, 3) := by decide +kernel
theorem dX3_isWrong_5 : decode cX3_isWrong 5 = .ok (.aload_n 0, 1) := by decide +kernel
theorem dX3_isWrong_6 : decode cX3_isWrong 6 = .ok (.aload_n 0, 1) := by decide +kernel
theorem dX3_isWrong_7 : decode cX3_isWrong 7 = .ok (.getfield 28, 3) := by decide +kernel
theorem dX3_isWrong_10 : decode cX3_isWrong 10 = .ok (.putfield 22, 3) := by decide +kernel
theorem dX3_isWrong_13 : decode cX3_isWrong 13 = .ok (.iconst 0, 1) := by decide +kernel
theorem dX3_isWrong_14 : decode cX3_isWrong 14 = .ok (.ireturn, 1) := by decide +kernel
theorem dX3_pass_0 : decode cX3_pass 0 = .ok (.aload_n 0, 1) := by decide +kernel
theorem dX3_pass_1 : decode cX3_pass 1 = .ok (.aload_n 0, 1) := by decide +kernel
theorem dX3_pass_2 : decode cX3_pass 2 = .ok (.getfield 31, 3) := by decide +kernel
theorem dX3_pass_5 : decode cX3_pass 5 = .ok (.putfield 28, 3) := by decide +kernel
theorem dX3_pass_8 : decode cX3_pass 8 = .ok (.aload_n 0, 1) := by decide +kernel
theorem dX3_pass_9 : decode cX3_pass 9 = .ok (.getfield 28, 3) := by decide +kernel
theorem dX3_pass_12 : decode cX3_pass 12 = .ok (.aload_n 0, 1) := by decide +kernel
theorem dX3_pass_13 : decode cX3_pass 13 = .ok (.getfield 15, 3) := by decide +kernel
theorem dX3_pass_16 : decode cX3_pass 16 = .ok (.if_icmp .ge 44, 3) := by decide +kernel
theorem dX3_pass_19 : decode cX3_pass 19 = .ok (.aload_n 0, 1) := by decide +kernel
theorem dX3_pass_20 : decode cX3_pass 20 = .ok (.getfield 11, 3) := by decide +kernel
theorem dX3_pass_23 : decode cX3_pass 23 = .ok (.aload_n 0, 1) := by decide +kernel
theorem dX3_pass_24 : decode cX3_pass 24 = .ok (.getfield 28, 3) := by decide +kernel
theorem dX3_pass_27 : decode cX3_pass 27 = .ok (.baload, 1) := by decide +kernel
theorem dX3_pass_28 : decode cX3_pass 28 = .ok (.bipush 32, 2) := by decide +kernel
theorem dX3_pass_30 : decode cX3_pass 30 = .ok (.if_icmp .eq 17, 3) := by decide +kernel
theorem dX3_pass_33 : decode cX3_pass 33 = .ok (.aload_n 0, 1) := by decide +kernel
theorem dX3_pass_34 : decode cX3_pass 34 = .ok (.getfield 11, 3) := by decide +kernel
theorem dX3_pass_37 : decode cX3_pass 37 = .ok (.aload_n 0, 1) := by decide +kernel
theorem dX3_pass_38 : decode cX3_pass 38 = .ok (.getfield 28, 3) := by decide +kernel
theorem dX3_pass_41 : decode cX3_pass 41 = .ok (.baload, 1) := by decide +kernel
theorem dX3_pass_42 : decode cX3_pass 42 = .ok (.bipush 10, 2) := by decide +kernel
theorem dX3_pass_44 : decode cX3_pass 44 = .ok (.if_icmp .ne 16, 3) := by decide +kernel
theorem dX3_pass_47 : decode cX3_pass 47 = .ok (.aload_n 0, 1) := by decide +kernel
theorem dX3_pass_48 : decode cX3_pass 48 = .ok (.dup, 1) := by decide +kernel
theorem dX3_pass_49 : decode cX3_pass 49 = .ok (.getfield 28, 3) := by decide +kernel
theorem dX3_pass_52 : decode cX3_pass 52 = .ok (.iconst 1, 1) := by decide +kernel
theorem dX3_pass_53 : decode cX3_pass 53 = .ok (.iadd, 1) := by decide +kernel
theorem dX3_pass_54 : decode cX3_pass 54 = .ok (.putfield 28, 3) := by decide +kernel
theorem dX3_pass_57 : decode cX3_pass 57 = .ok (.goto (-49), 3) := by decide +kernel
theorem dX3_pass_60 : decode cX3_pass 60 = .ok (.aload_n 0, 1) := by decide +kernel
theorem dX3_pass_61 : decode cX3_pass 61 = .ok (.aload_n 0, 1) := by decide +kernel
theorem dX3_pass_62 : decode cX3_pass 62 = .ok (.getfield 28, 3) := by decide +kernel
theorem dX3_pass_65 : decode cX3_pass 65 = .ok (.putfield 31, 3) := by decide +kernel
theorem dX3_pass_68 : decode cX3_pass 68 = .ok (.aload_n 0, 1) := by decide +kernel
theorem dX3_pass_69 : decode cX3_pass 69 = .ok (.getfield 28, 3) := by decide +kernel
theorem dX3_pass_72 : decode cX3_pass 72 = .ok (.aload_n 0, 1) := by decide +kernel
theorem dX3_pass_73 : decode cX3_pass 73 = .ok (.getfield 15, 3) := by decide +kernel
theorem dX3_pass_76 : decode cX3_pass 76 = .ok (.if_icmp .lt 11, 3) := by decide +kernel
theorem dX3_pass_79 : decode cX3_pass 79 = .ok (.aload_n 0, 1) := by decide +kernel
theorem dX3_pass_80 : decode cX3_pass 80 = .ok (.iconst 0, 1) := by decide +kernel
theorem dX3_pass_81 : decode cX3_pass 81 = .ok (.putfield 25, 3) := by decide +kernel
theorem dX3_pass_84 : decode cX3_pass 84 = .ok (.goto 125, 3) := by decide +kernel
theorem dX3_pass_87 : decode cX3_pass 87 = .ok (.aload_n 0, 1) := by decide +kernel
theorem dX3_pass_88 : decode cX3_pass 88 = .ok (.getfield 11, 3) := by decide +kernel
theorem dX3_pass_91 : decode cX3_pass 91 = .ok (.aload_n 0, 1) := by decide +kernel
theorem dX3_pass_92 : decode cX3_pass 92 = .ok (.getfield 28, 3) := by decide +kernel
theorem dX3_pass_95 : decode cX3_pass 95 = .ok (.baload, 1) := by decide +kernel
theorem dX3_pass_96 : decode cX3_pass 96 = .ok (.invokestatic 133, 3) := by decide +kernel
theorem dX3_pass_99 : decode cX3_pass 99 = .ok (.ifCond .eq 15, 3) := by decide +kernel
theorem dX3_pass_102 : decode cX3_pass 102 = .ok (.aload_n 0, 1) := by decide +kernel
theorem dX3_pass_103 : decode cX3_pass 103 = .ok (.iconst 1, 1) := by decide +kernel
theorem dX3_pass_104 : decode cX3_pass 104 = .ok (.putfield 25, 3) := by decide +kernel
theorem dX3_pass_107 : decode cX3_pass 107 = .ok (.aload_n 0, 1) := by decide +kernel
theorem dX3_pass_108 : decode cX3_pass 108 = .ok (.invokevirtual 137, 3) := by decide +kernel
theorem dX3_pass_111 : decode cX3_pass 111 = .ok (.goto 98, 3) := by decide +kernel
theorem dX3_pass_114 : decode cX3_pass 114 = .ok (.aload_n 0, 1) := by decide +kernel
theorem dX3_pass_115 : decode cX3_pass 115 = .ok (.getfield 11, 3) := by decide +kernel
theorem dX3_pass_118 : decode cX3_pass 118 = .ok (.aload_n 0, 1) := by decide +kernel
theorem dX3_pass_119 : decode cX3_pass 119 = .ok (.getfield 28, 3) := by decide +kernel
theorem dX3_pass_122 : decode cX3_pass 122 = .ok (.baload, 1) := by decide +kernel
theorem dX3_pass_123 : decode cX3_pass 123 = .ok (.invokestatic 140, 3) := by decide +kernel
theorem dX3_pass_126 : decode cX3_pass 126 = .ok (.ifCond .eq 32, 3) := by decide +kernel
theorem dX3_pass_129 : decode cX3_pass 129 = .ok (.aload_n 0, 1) := by decide +kernel
theorem dX3_pass_130 : decode cX3_pass 130 = .ok (.invokevirtual 143, 3) := by decide +kernel
theorem dX3_pass_133 : decode cX3_pass 133 = .ok (.aload_n 0, 1) := by decide +kernel
theorem dX3_pass_134 : decode cX3_pass 134 = .ok (.aload_n 0, 1) := by decide +kernel
theorem dX3_pass_135 : decode cX3_pass 135 = .ok (.getfield 31, 3) := by decide +kernel
theorem dX3_pass_138 : decode cX3_pass 138 = .ok (.aload_n 0, 1) := by decide +kernel
theorem dX3_pass_139 : decode cX3_pass 139 = .ok (.getfield 28, 3) := by decide +kernel
theorem dX3_pass_142 : decode cX3_pass 142 = .ok (.isub, 1) := by decide +kernel
theorem dX3_pass_143 : decode cX3_pass 143 = .ok (.iconst 4, 1) := by decide +kernel
theorem dX3_pass_144 : decode cX3_pass 144 = .ok (.if_icmp .gt 7, 3) := by decide +kernel
theorem dX3_pass_147 : decode cX3_pass 147 = .ok (.iconst 2, 1) := by decide +kernel
theorem dX3_pass_148 : decode cX3_pass 148 = .ok (.goto 4, 3) := by decide +kernel
theorem dX3_pass_151 : decode cX3_pass 151 = .ok (.iconst 5, 1) := by decide +kernel
theorem dX3_pass_152 : decode cX3_pass 152 = .ok (.putfield 25, 3) := by decide +kernel
theorem dX3_pass_155 : decode cX3_pass 155 = .ok (.goto 54, 3) := by decide +kernel
theorem dX3_pass_158 : decode cX3_pass 158 = .ok (.aload_n 0, 1) := by decide +kernel
theorem dX3_pass_159 : decode cX3_pass 159 = .ok (.aload_n 0, 1) := by decide +kernel
theorem dX3_pass_160 : decode cX3_pass 160 = .ok (.getfield 11, 3) := by decide +kernel
theorem dX3_pass_163 : decode cX3_pass 163 = .ok (.aload_n 0, 1) := by decide +kernel
theorem dX3_pass_164 : decode cX3_pass 164 = .ok (.getfield 28, 3) := by decide +kernel
theorem dX3_pass_167 : decode cX3_pass 167 = .ok (.baload, 1) := by decide +kernel
theorem dX3_pass_168 : decode cX3_pass 168 = .ok (.bipush 59, 2) := by decide +kernel
theorem dX3_pass_170 : decode cX3_pass 170 = .ok (.if_icmp .ne 7, 3) := by decide +kernel
theorem dX3_pass_173 : decode cX3_pass 173 = .ok (.iconst 3, 1) := by decide +kernel
theorem dX3_pass_174 : decode cX3_pass 174 = .ok (.goto 22, 3) := by decide +kernel
theorem dX3_pass_177 : decode cX3_pass 177 = .ok (.aload_n 0, 1) := by decide +kernel
theorem dX3_pass_178 : decode cX3_pass 178 = .ok (.getfield 11, 3) := by decide +kernel
theorem dX3_pass_181 : decode cX3_pass 181 = .ok (.aload_n 0, 1) := by decide +kernel
theorem dX3_pass_182 : decode cX3_pass 182 = .ok (.getfield 28, 3) := by decide +kernel
theorem dX3_pass_185 : decode cX3_pass 185 = .ok (.baload, 1) := by decide +kernel
theorem dX3_pass_186 : decode cX3_pass 186 = .ok (.bipush 45, 2) := by decide +kernel
theorem dX3_pass_188 : decode cX3_pass 188 = .ok (.if_icmp .ne 7, 3) := by decide +kernel
theorem dX3_pass_191 : decode cX3_pass 191 = .ok (.iconst 4, 1) := by decide +kernel
theorem dX3_pass_192 : decode cX3_pass 192 = .ok (.goto 4, 3) := by decide +kernel
theorem dX3_pass_195 : decode cX3_pass 195 = .ok (.iconst 5, 1) := by decide +kernel
theorem dX3_pass_196 : decode cX3_pass 196 = .ok (.putfield 25, 3) := by decide +kernel
theorem dX3_pass_199 : decode cX3_pass 199 = .ok (.aload_n 0, 1) := by decide +kernel
theorem dX3_pass_200 : decode cX3_pass 200 = .ok (.dup, 1) := by decide +kernel
theorem dX3_pass_201 : decode cX3_pass 201 = .ok (.getfield 31, 3) := by decide +kernel
theorem dX3_pass_204 : decode cX3_pass 204 = .ok (.iconst 1, 1) := by decide +kernel
theorem dX3_pass_205 : decode cX3_pass 205 = .ok (.iadd, 1) := by decide +kernel
theorem dX3_pass_206 : decode cX3_pass 206 = .ok (.putfield 31, 3) := by decide +kernel
theorem dX3_pass_209 : decode cX3_pass 209 = .ok (.iconst 1, 1) := by decide +kernel
theorem dX3_pass_210 : decode cX3_pass 210 = .ok (.ireturn, 1) := by decide +kernel
theorem dX3_passDigits_0 : decode cX3_passDigits 0 = .ok (.aload_n 0, 1) := by decide +kernel
theorem dX3_passDigits_1 : decode cX3_passDigits 1 = .ok (.iconst 0, 1) := by decide +kernel
theorem dX3_passDigits_2 : decode cX3_passDigits 2 = .ok (.putfield 34, 3) := by decide +kernel
theorem dX3_passDigits_5 : decode cX3_passDigits 5 = .ok (.aload_n 0, 1) := by decide +kernel
theorem dX3_passDigits_6 : decode cX3_passDigits 6 = .ok (.getfield 31, 3) := by decide +kernel
theorem dX3_passDigits_9 : decode cX3_passDigits 9 = .ok (.aload_n 0, 1) := by decide +kernel
theorem dX3_passDigits_10 : decode cX3_passDigits 10 = .ok (.getfield 15, 3) := by decide +kernel
theorem dX3_passDigits_13 : decode cX3_passDigits 13 = .ok (.if_icmp .ge 55, 3) := by decide +kernel
theorem dX3_passDigits_16 : decode cX3_passDigits 16 = .ok (.aload_n 0, 1) := by decide +kernel
theorem dX3_passDigits_17 : decode cX3_passDigits 17 = .ok (.getfield 11, 3) := by decide +kernel
theorem dX3_passDigits_20 : decode cX3_passDigits 20 = .ok (.aload_n 0, 1) := by decide +kernel
theorem dX3_passDigits_21 : decode cX3_passDigits 21 = .ok (.getfield 31, 3) := by decide +kernel
theorem dX3_passDigits_24 : decode cX3_passDigits 24 = .ok (.baload, 1) := by decide +kernel
theorem dX3_passDigits_25 : decode cX3_passDigits 25 = .ok (.invokestatic 140, 3) := by decide +kernel
theorem dX3_passDigits_28 : decode cX3_passDigits 28 = .ok (.ifCond .eq 40, 3) := by decide +kernel
theorem dX3_passDigits_31 : decode cX3_passDigits 31 = .ok (.aload_n 0, 1) := by decide +kernel
theorem dX3_passDigits_32 : decode cX3_passDigits 32 = .ok (.aload_n 0, 1) := by decide +kernel
theorem dX3_passDigits_33 : decode cX3_passDigits 33 = .ok (.getfield 34, 3) := by decide +kernel
theorem dX3_passDigits_36 : decode cX3_passDigits 36 = .ok (.bipush 10, 2) := by decide +kernel
theorem dX3_passDigits_38 : decode cX3_passDigits 38 = .ok (.imul, 1) := by decide +kernel
theorem dX3_passDigits_39 : decode cX3_passDigits 39 = .ok (.aload_n 0, 1) := by decide +kernel
theorem dX3_passDigits_40 : decode cX3_passDigits 40 = .ok (.getfield 11, 3) := by decide +kernel
theorem dX3_passDigits_43 : decode cX3_passDigits 43 = .ok (.aload_n 0, 1) := by decide +kernel
theorem dX3_passDigits_44 : decode cX3_passDigits 44 = .ok (.getfield 31, 3) := by decide +kernel
theorem dX3_passDigits_47 : decode cX3_passDigits 47 = .ok (.baload, 1) := by decide +kernel
theorem dX3_passDigits_48 : decode cX3_passDigits 48 = .ok (.bipush 48, 2) := by decide +kernel
theorem dX3_passDigits_50 : decode cX3_passDigits 50 = .ok (.isub, 1) := by decide +kernel
theorem dX3_passDigits_51 : decode cX3_passDigits 51 = .ok (.iadd, 1) := by decide +kernel
theorem dX3_passDigits_52 : decode cX3_passDigits 52 = .ok (.putfield 34, 3) := by decide +kernel
theorem dX3_passDigits_55 : decode cX3_passDigits 55 = .ok (.aload_n 0, 1) := by decide +kernel
theorem dX3_passDigits_56 : decode cX3_passDigits 56 = .ok (.dup, 1) := by decide +kernel
theorem dX3_passDigits_57 : decode cX3_passDigits 57 = .ok (.getfield 31, 3) := by decide +kernel
theorem dX3_passDigits_60 : decode cX3_passDigits 60 = .ok (.iconst 1, 1) := by decide +kernel
theorem dX3_passDigits_61 : decode cX3_passDigits 61 = .ok (.iadd, 1) := by decide +kernel
theorem dX3_passDigits_62 : decode cX3_passDigits 62 = .ok (.putfield 31, 3) := by decide +kernel
theorem dX3_passDigits_65 : decode cX3_passDigits 65 = .ok (.goto (-60), 3) := by decide +kernel
theorem dX3_passDigits_68 : decode cX3_passDigits 68 = .ok (.return_, 1) := by decide +kernel
theorem dX3_passLetters_0 : decode cX3_passLetters 0 = .ok (.aload_n 0, 1) := by decide +kernel
theorem dX3_passLetters_1 : decode cX3_passLetters 1 = .ok (.getfield 31, 3) := by decide +kernel
theorem dX3_passLetters_4 : decode cX3_passLetters 4 = .ok (.aload_n 0, 1) := by decide +kernel
theorem dX3_passLetters_5 : decode cX3_passLetters 5 = .ok (.getfield 15, 3) := by decide +kernel
theorem dX3_passLetters_8 : decode cX3_passLetters 8 = .ok (.if_icmp .ge 31, 3) := by decide +kernel
theorem dX3_passLetters_11 : decode cX3_passLetters 11 = .ok (.aload_n 0, 1) := by decide +kernel
theorem dX3_passLetters_12 : decode cX3_passLetters 12 = .ok (.getfield 11, 3) := by decide +kernel
theorem dX3_passLetters_15 : decode cX3_passLetters 15 = .ok (.aload_n 0, 1) := by decide +kernel
theorem dX3_passLetters_16 : decode cX3_passLetters 16 = .ok (.getfield 31, 3) := by decide +kernel
theorem dX3_passLetters_19 : decode cX3_passLetters 19 = .ok (.baload, 1) := by decide +kernel
theorem dX3_passLetters_20 : decode cX3_passLetters 20 = .ok (.invokestatic 133, 3) := by decide +kernel
theorem dX3_passLetters_23 : decode cX3_passLetters 23 = .ok (.ifCond .eq 16, 3) := by decide +kernel
theorem dX3_passLetters_26 : decode cX3_passLetters 26 = .ok (.aload_n 0, 1) := by decide +kernel
theorem dX3_passLetters_27 : decode cX3_passLetters 27 = .ok (.dup, 1) := by decide +kernel
theorem dX3_passLetters_28 : decode cX3_passLetters 28 = .ok (.getfield 31, 3) := by decide +kernel
theorem dX3_passLetters_31 : decode cX3_passLetters 31 = .ok (.iconst 1, 1) := by decide +kernel
theorem dX3_passLetters_32 : decode cX3_passLetters 32 = .ok (.iadd, 1) := by decide +kernel
theorem dX3_passLetters_33 : decode cX3_passLetters 33 = .ok (.putfield 31, 3) := by decide +kernel
theorem dX3_passLetters_36 : decode cX3_passLetters 36 = .ok (.goto (-36), 3) := by decide +kernel
theorem dX3_passLetters_39 : decode cX3_passLetters 39 = .ok (.return_, 1) := by decide +kernel
theorem dX3_passSemicolon_0 : decode cX3_passSemicolon 0 = .ok (.aload_n 0, 1) := by decide +kernel
theorem dX3_passSemicolon_1 : decode cX3_passSemicolon 1 = .ok (.getfield 25, 3) := by decide +kernel
theorem dX3_passSemicolon_4 : decode cX3_passSemicolon 4 = .ok (.iconst 3, 1) := by decide +kernel
theorem dX3_passSemicolon_5 : decode cX3_passSemicolon 5 = .ok (.if_icmp .ne 10, 3) := by decide +kernel
theorem dX3_passSemicolon_8 : decode cX3_passSemicolon 8 = .ok (.aload_n 0, 1) := by decide +kernel
theorem dX3_passSemicolon_9 : decode cX3_passSemicolon 9 = .ok (.invokevirtual 42, 3) := by decide +kernel
theorem dX3_passSemicolon_12 : decode cX3_passSemicolon 12 = .ok (.goto 8, 3) := by decide +kernel
theorem dX3_passSemicolon_15 : decode cX3_passSemicolon 15 = .ok (.aload_n 0, 1) := by decide +kernel
theorem dX3_passSemicolon_16 : decode cX3_passSemicolon 16 = .ok (.iconst 1, 1) := by decide +kernel
theorem dX3_passSemicolon_17 : decode cX3_passSemicolon 17 = .ok (.invokevirtual 57, 3) := by decide +kernel
theorem dX3_passSemicolon_20 : decode cX3_passSemicolon 20 = .ok (.ireturn, 1) := by decide +kernel
theorem dX3_readLeast_0 : decode cX3_readLeast 0 = .ok (.aload_n 0, 1) := by decide +kernel
theorem dX3_readLeast_1 : decode cX3_readLeast 1 = .ok (.getfield 25, 3) := by decide +kernel
theorem dX3_readLeast_4 : decode cX3_readLeast 4 = .ok (.iconst 2, 1) := by decide +kernel
theorem dX3_readLeast_5 : decode cX3_readLeast 5 = .ok (.if_icmp .eq 9, 3) := by decide +kernel
theorem dX3_readLeast_8 : decode cX3_readLeast 8 = .ok (.aload_n 0, 1) := by decide +kernel
theorem dX3_readLeast_9 : decode cX3_readLeast 9 = .ok (.iconst 1, 1) := by decide +kernel
theorem dX3_readLeast_10 : decode cX3_readLeast 10 = .ok (.invokevirtual 57, 3) := by decide +kernel
theorem dX3_readLeast_13 : decode cX3_readLeast 13 = .ok (.ireturn, 1) := by decide +kernel
theorem dX3_readLeast_14 : decode cX3_readLeast 14 = .ok (.aload_n 0, 1) := by decide +kernel
theorem dX3_readLeast_15 : decode cX3_readLeast 15 = .ok (.getfield 34, 3) := by decide +kernel
theorem dX3_readLeast_18 : decode cX3_readLeast 18 = .ok (.iconst 2, 1) := by decide +kernel
theorem dX3_readLeast_19 : decode cX3_readLeast 19 = .ok (.if_icmp .lt 12, 3) := by decide +kernel
theorem dX3_readLeast_22 : decode cX3_readLeast 22 = .ok (.aload_n 0, 1) := by decide +kernel
theorem dX3_readLeast_23 : decode cX3_readLeast 23 = .ok (.getfield 34, 3) := by decide +kernel
theorem dX3_readLeast_26 : decode cX3_readLeast 26 = .ok (.bipush 48, 2) := by decide +kernel
theorem dX3_readLeast_28 : decode cX3_readLeast 28 = .ok (.if_icmp .le 9, 3) := by decide +kernel
theorem dX3_readLeast_31 : decode cX3_readLeast 31 = .ok (.aload_n 0, 1) := by decide +kernel
theorem dX3_readLeast_32 : decode cX3_readLeast 32 = .ok (.iconst 2, 1) := by decide +kernel
theorem dX3_readLeast_33 : decode cX3_readLeast 33 = .ok (.invokevirtual 57, 3) := by decide +kernel
theorem dX3_readLeast_36 : decode cX3_readLeast 36 = .ok (.ireturn, 1) := by decide +kernel
theorem dX3_readLeast_37 : decode cX3_readLeast 37 = .ok (.aload_n 1, 1) := by decide +kernel
theorem dX3_readLeast_38 : decode cX3_readLeast 38 = .ok (.aload_n 0, 1) := by decide +kernel
theorem dX3_readLeast_39 : decode cX3_readLeast 39 = .ok (.getfield 34, 3) := by decide +kernel
theorem dX3_readLeast_42 : decode cX3_readLeast 42 = .ok (.putfield 107, 3) := by decide +kernel
theorem dX3_readLeast_45 : decode cX3_readLeast 45 = .ok (.aload_n 0, 1) := by decide +kernel
theorem dX3_readLeast_46 : decode cX3_readLeast 46 = .ok (.invokevirtual 42, 3) := by decide +kernel
theorem dX3_readLeast_49 : decode cX3_readLeast 49 = .ok (.ireturn, 1) := by decide +kernel
theorem dX3_readSetting_0 : decode cX3_readSetting 0 = .ok (.iload_n 1, 1) := by decide +kernel
theorem dX3_readSetting_1 : decode cX3_readSetting 1 = .ok (.tableswitch 196 0 2 #[27, 92, 157], 27) := by decide +kernel
theorem dX3_readSetting_28 : decode cX3_readSetting 28 = .ok (.aload_n 2, 1) := by decide +kernel
theorem dX3_readSetting_29 : decode cX3_readSetting 29 = .ok (.aload_n 0, 1) := by decide +kernel
theorem dX3_readSetting_30 : decode cX3_readSetting 30 = .ok (.ldc 80, 2) := by decide +kernel
theorem dX3_readSetting_32 : decode cX3_readSetting 32 = .ok (.invokevirtual 70, 3) := by decide +kernel
theorem dX3_readSetting_35 : decode cX3_readSetting 35 = .ok (.ifCond .eq 7, 3) := by decide +kernel
theorem dX3_readSetting_38 : decode cX3_readSetting 38 = .ok (.iconst 0, 1) := by decide +kernel
theorem dX3_readSetting_39 : decode cX3_readSetting 39 = .ok (.goto 30, 3) := by decide +kernel
theorem dX3_readSetting_42 : decode cX3_readSetting 42 = .ok (.aload_n 0, 1) := by decide +kernel
theorem dX3_readSetting_43 : decode cX3_readSetting 43 = .ok (.ldc 82, 2) := by decide +kernel
theorem dX3_readSetting_45 : decode cX3_readSetting 45 = .ok (.invokevirtual 70, 3) := by decide +kernel
theorem dX3_readSetting_48 : decode cX3_readSetting 48 = .ok (.ifCond .eq 7, 3) := by decide +kernel
theorem dX3_readSetting_51 : decode cX3_readSetting 51 = .ok (.iconst 1, 1) := by decide +kernel
theorem dX3_readSetting_52 : decode cX3_readSetting 52 = .ok (.goto 17, 3) := by decide +kernel
theorem dX3_readSetting_55 : decode cX3_readSetting 55 = .ok (.aload_n 0, 1) := by decide +kernel
theorem dX3_readSetting_56 : decode cX3_readSetting 56 = .ok (.ldc 84, 2) := by decide +kernel
theorem dX3_readSetting_58 : decode cX3_readSetting 58 = .ok (.invokevirtual 70, 3) := by decide +kernel
theorem dX3_readSetting_61 : decode cX3_readSetting 61 = .ok (.ifCond .eq 7, 3) := by decide +kernel
theorem dX3_readSetting_64 : decode cX3_readSetting 64 = .ok (.iconst 2, 1) := by decide +kernel
theorem dX3_readSetting_65 : decode cX3_readSetting 65 = .ok (.goto 4, 3) := by decide +kernel
theorem dX3_readSetting_68 : decode cX3_readSetting 68 = .ok (.iconst (-1), 1) := by decide +kernel
theorem dX3_readSetting_69 : decode cX3_readSetting 69 = .ok (.putfield 86, 3) := by decide +kernel
theorem dX3_readSetting_72 : decode cX3_readSetting 72 = .ok (.aload_n 2, 1) := by decide +kernel
theorem dX3_readSetting_73 : decode cX3_readSetting 73 = .ok (.getfield 86, 3) := by decide +kernel
theorem dX3_readSetting_76 : decode cX3_readSetting 76 = .ok (.iconst (-1), 1) := by decide +kernel
theorem dX3_readSetting_77 : decode cX3_readSetting 77 = .ok (.if_icmp .ne 11, 3) := by decide +kernel
theorem dX3_readSetting_80 : decode cX3_readSetting 80 = .ok (.aload_n 0, 1) := by decide +kernel
theorem dX3_readSetting_81 : decode cX3_readSetting 81 = .ok (.iconst 1, 1) := by decide +kernel
theorem dX3_readSetting_82 : decode cX3_readSetting 82 = .ok (.invokevirtual 57, 3) := by decide +kernel
theorem dX3_readSetting_85 : decode cX3_readSetting 85 = .ok (.goto 7, 3) := by decide +kernel
theorem dX3_readSetting_88 : decode cX3_readSetting 88 = .ok (.aload_n 0, 1) := by decide +kernel
theorem dX3_readSetting_89 : decode cX3_readSetting 89 = .ok (.invokevirtual 42, 3) := by decide +kernel
theorem dX3_readSetting_92 : decode cX3_readSetting 92 = .ok (.ireturn, 1) := by decide +kernel
theorem dX3_readSetting_93 : decode cX3_readSetting 93 = .ok (.aload_n 2, 1) := by decide +kernel
theorem dX3_readSetting_94 : decode cX3_readSetting 94 = .ok (.aload_n 0, 1) := by decide +kernel
theorem dX3_readSetting_95 : decode cX3_readSetting 95 = .ok (.ldc 88, 2) := by decide +kernel
theorem dX3_readSetting_97 : decode cX3_readSetting 97 = .ok (.invokevirtual 70, 3) := by decide +kernel
theorem dX3_readSetting_100 : decode cX3_readSetting 100 = .ok (.ifCond .eq 7, 3) := by decide +kernel
theorem dX3_readSetting_103 : decode cX3_readSetting 103 = .ok (.iconst 0, 1) := by decide +kernel
theorem dX3_readSetting_104 : decode cX3_readSetting 104 = .ok (.goto 30, 3) := by decide +kernel
theorem dX3_readSetting_107 : decode cX3_readSetting 107 = .ok (.aload_n 0, 1) := by decide +kernel
theorem dX3_readSetting_108 : decode cX3_readSetting 108 = .ok (.ldc 90, 2) := by decide +kernel
theorem dX3_readSetting_110 : decode cX3_readSetting 110 = .ok (.invokevirtual 70, 3) := by decide +kernel
theorem dX3_readSetting_113 : decode cX3_readSetting 113 = .ok (.ifCond .eq 7, 3) := by decide +kernel
theorem dX3_readSetting_116 : decode cX3_readSetting 116 = .ok (.iconst 1, 1) := by decide +kernel
theorem dX3_readSetting_117 : decode cX3_readSetting 117 = .ok (.goto 17, 3) := by decide +kernel
theorem dX3_readSetting_120 : decode cX3_readSetting 120 = .ok (.aload_n 0, 1) := by decide +kernel
theorem dX3_readSetting_121 : decode cX3_readSetting 121 = .ok (.ldc 92, 2) := by decide +kernel
theorem dX3_readSetting_123 : decode cX3_readSetting 123 = .ok (.invokevirtual 70, 3) := by decide +kernel
theorem dX3_readSetting_126 : decode cX3_readSetting 126 = .ok (.ifCond .eq 7, 3) := by decide +kernel
theorem dX3_readSetting_129 : decode cX3_readSetting 129 = .ok (.iconst 2, 1) := by decide +kernel
theorem dX3_readSetting_130 : decode cX3_readSetting 130 = .ok (.goto 4, 3) := by decide +kernel
theorem dX3_readSetting_133 : decode cX3_readSetting 133 = .ok (.iconst (-1), 1) := by decide +kernel
theorem dX3_readSetting_134 : decode cX3_readSetting 134 = .ok (.putfield 94, 3) := by decide +kernel
theorem dX3_readSetting_137 : decode cX3_readSetting 137 = .ok (.aload_n 2, 1) := by decide +kernel
theorem dX3_readSetting_138 : decode cX3_readSetting 138 = .ok (.getfield 94, 3) := by decide +kernel
theorem dX3_readSetting_141 : decode cX3_readSetting 141 = .ok (.iconst (-1), 1) := by decide +kernel
theorem dX3_readSetting_142 : decode cX3_readSetting 142 = .ok (.if_icmp .ne 11, 3) := by decide +kernel
theorem dX3_readSetting_145 : decode cX3_readSetting 145 = .ok (.aload_n 0, 1) := by decide +kernel
theorem dX3_readSetting_146 : decode cX3_readSetting 146 = .ok (.iconst 1, 1) := by decide +kernel
theorem dX3_readSetting_147 : decode cX3_readSetting 147 = .ok (.invokevirtual 57, 3) := by decide +kernel
theorem dX3_readSetting_150 : decode cX3_readSetting 150 = .ok (.goto 7, 3) := by decide +kernel
theorem dX3_readSetting_153 : decode cX3_readSetting 153 = .ok (.aload_n 0, 1) := by decide +kernel
theorem dX3_readSetting_154 : decode cX3_readSetting 154 = .ok (.invokevirtual 42, 3) := by decide +kernel
theorem dX3_readSetting_157 : decode cX3_readSetting 157 = .ok (.ireturn, 1) := by decide +kernel
theorem dX3_readSetting_158 : decode cX3_readSetting 158 = .ok (.aload_n 2, 1) := by decide +kernel
theorem dX3_readSetting_159 : decode cX3_readSetting 159 = .ok (.aload_n 0, 1) := by decide +kernel
theorem dX3_readSetting_160 : decode cX3_readSetting 160 = .ok (.ldc 96, 2) := by decide +kernel
theorem dX3_readSetting_162 : decode cX3_readSetting 162 = .ok (.invokevirtual 70, 3) := by decide +kernel
theorem dX3_readSetting_165 : decode cX3_readSetting 165 = .ok (.putfield 98, 3) := by decide +kernel
theorem dX3_readSetting_168 : decode cX3_readSetting 168 = .ok (.aload_n 2, 1) := by decide +kernel
theorem dX3_readSetting_169 : decode cX3_readSetting 169 = .ok (.getfield 98, 3) := by decide +kernel
theorem dX3_readSetting_172 : decode cX3_readSetting 172 = .ok (.ifCond .ne 12, 3) := by decide +kernel
theorem dX3_readSetting_175 : decode cX3_readSetting 175 = .ok (.aload_n 0, 1) := by decide +kernel
theorem dX3_readSetting_176 : decode cX3_readSetting 176 = .ok (.ldc 102, 2) := by decide +kernel
theorem dX3_readSetting_178 : decode cX3_readSetting 178 = .ok (.invokevirtual 70, 3) := by decide +kernel
theorem dX3_readSetting_181 : decode cX3_readSetting 181 = .ok (.ifCond .eq 10, 3) := by decide +kernel
theorem dX3_readSetting_184 : decode cX3_readSetting 184 = .ok (.aload_n 0, 1) := by decide +kernel
theorem dX3_readSetting_185 : decode cX3_readSetting 185 = .ok (.invokevirtual 42, 3) := by decide +kernel
theorem dX3_readSetting_188 : decode cX3_readSetting 188 = .ok (.goto 8, 3) := by decide +kernel
theorem dX3_readSetting_191 : decode cX3_readSetting 191 = .ok (.aload_n 0, 1) := by decide +kernel
theorem dX3_readSetting_192 : decode cX3_readSetting 192 = .ok (.iconst 1, 1) := by decide +kernel
theorem dX3_readSetting_193 : decode cX3_readSetting 193 = .ok (.invokevirtual 57, 3) := by decide +kernel
theorem dX3_readSetting_196 : decode cX3_readSetting 196 = .ok (.ireturn, 1) := by decide +kernel
theorem dX3_readSetting_197 : decode cX3_readSetting 197 = .ok (.aload_n 0, 1) := by decide +kernel
theorem dX3_readSetting_198 : decode cX3_readSetting 198 = .ok (.aload_n 2, 1) := by decide +kernel
theorem dX3_readSetting_199 : decode cX3_readSetting 199 = .ok (.invokevirtual 104, 3) := by decide +kernel
theorem dX3_readSetting_202 : decode cX3_readSetting 202 = .ok (.ireturn, 1) := by decide +kernel
theorem dX3_readSettings_0 : decode cX3_readSettings 0 = .ok (.iconst 0, 1) := by decide +kernel
theorem dX3_readSettings_1 : decode cX3_readSettings 1 = .ok (.istore_n 2, 1) := by decide +kernel
theorem dX3_readSettings_2 : decode cX3_readSettings 2 = .ok (.iconst 0, 1) := by decide +kernel
theorem dX3_readSettings_3 : decode cX3_readSettings 3 = .ok (.istore_n 3, 1) := by decide +kernel
theorem dX3_readSettings_4 : decode cX3_readSettings 4 = .ok (.iload_n 3, 1) := by decide +kernel
theorem dX3_readSettings_5 : decode cX3_readSettings 5 = .ok (.iconst 4, 1) := by decide +kernel
theorem dX3_readSettings_6 : decode cX3_readSettings 6 = .ok (.if_icmp .gt 69, 3) := by decide +kernel
theorem dX3_readSettings_9 : decode cX3_readSettings 9 = .ok (.aload_n 0, 1) := by decide +kernel
theorem dX3_readSettings_10 : decode cX3_readSettings 10 = .ok (.invokevirtual 53, 3) := by decide +kernel
theorem dX3_readSettings_13 : decode cX3_readSettings 13 = .ok (.istore 4, 2) := by decide +kernel
theorem dX3_readSettings_15 : decode cX3_readSettings 15 = .ok (.iload 4, 2) := by decide +kernel
theorem dX3_readSettings_17 : decode cX3_readSettings 17 = .ok (.iconst (-1), 1) := by decide +kernel
theorem dX3_readSettings_18 : decode cX3_readSettings 18 = .ok (.if_icmp .ne 5, 3) := by decide +kernel
theorem dX3_readSettings_21 : decode cX3_readSettings 21 = .ok (.iconst 1, 1) := by decide +kernel
theorem dX3_readSettings_22 : decode cX3_readSettings 22 = .ok (.ireturn, 1) := by decide +kernel
theorem dX3_readSettings_23 : decode cX3_readSettings 23 = .ok (.iload_n 2, 1) := by decide +kernel
theorem dX3_readSettings_24 : decode cX3_readSettings 24 = .ok (.iload 4, 2) := by decide +kernel
theorem dX3_readSettings_26 : decode cX3_readSettings 26 = .ok (.ishr, 1) := by decide +kernel
theorem dX3_readSettings_27 : decode cX3_readSettings 27 = .ok (.iconst 1, 1) := by decide +kernel
theorem dX3_readSettings_28 : decode cX3_readSettings 28 = .ok (.iand, 1) := by decide +kernel
theorem dX3_readSettings_29 : decode cX3_readSettings 29 = .ok (.ifCond .eq 9, 3) := by decide +kernel
theorem dX3_readSettings_32 : decode cX3_readSettings 32 = .ok (.aload_n 0, 1) := by decide +kernel
theorem dX3_readSettings_33 : decode cX3_readSettings 33 = .ok (.iconst 3, 1) := by decide +kernel
theorem dX3_readSettings_34 : decode cX3_readSettings 34 = .ok (.invokevirtual 57, 3) := by decide +kernel
theorem dX3_readSettings_37 : decode cX3_readSettings 37 = .ok (.ireturn, 1) := by decide +kernel
theorem dX3_readSettings_38 : decode cX3_readSettings 38 = .ok (.iload_n 2, 1) := by decide +kernel
theorem dX3_readSettings_39 : decode cX3_readSettings 39 = .ok (.iconst 1, 1) := by decide +kernel
theorem dX3_readSettings_40 : decode cX3_readSettings 40 = .ok (.iload 4, 2) := by decide +kernel
theorem dX3_readSettings_42 : decode cX3_readSettings 42 = .ok (.ishl, 1) := by decide +kernel
theorem dX3_readSettings_43 : decode cX3_readSettings 43 = .ok (.ior, 1) := by decide +kernel
theorem dX3_readSettings_44 : decode cX3_readSettings 44 = .ok (.istore_n 2, 1) := by decide +kernel
theorem dX3_readSettings_45 : decode cX3_readSettings 45 = .ok (.aload_n 0, 1) := by decide +kernel
theorem dX3_readSettings_46 : decode cX3_readSettings 46 = .ok (.invokevirtual 42, 3) := by decide +kernel
theorem dX3_readSettings_49 : decode cX3_readSettings 49 = .ok (.pop, 1) := by decide +kernel
theorem dX3_readSettings_50 : decode cX3_readSettings 50 = .ok (.aload_n 0, 1) := by decide +kernel
theorem dX3_readSettings_51 : decode cX3_readSettings 51 = .ok (.iload 4, 2) := by decide +kernel
theorem dX3_readSettings_53 : decode cX3_readSettings 53 = .ok (.aload_n 1, 1) := by decide +kernel
theorem dX3_readSettings_54 : decode cX3_readSettings 54 = .ok (.invokevirtual 61, 3) := by decide +kernel
theorem dX3_readSettings_57 : decode cX3_readSettings 57 = .ok (.ifCond .eq 10, 3) := by decide +kernel
theorem dX3_readSettings_60 : decode cX3_readSettings 60 = .ok (.aload_n 0, 1) := by decide +kernel
theorem dX3_readSettings_61 : decode cX3_readSettings 61 = .ok (.invokevirtual 65, 3) := by decide +kernel
theorem dX3_readSettings_64 : decode cX3_readSettings 64 = .ok (.ifCond .ne 5, 3) := by decide +kernel
theorem dX3_readSettings_67 : decode cX3_readSettings 67 = .ok (.iconst 0, 1) := by decide +kernel
theorem dX3_readSettings_68 : decode cX3_readSettings 68 = .ok (.ireturn, 1) := by decide +kernel
theorem dX3_readSettings_69 : decode cX3_readSettings 69 = .ok (.iinc 3 1, 3) := by decide +kernel
theorem dX3_readSettings_72 : decode cX3_readSettings 72 = .ok (.goto (-68), 3) := by decide +kernel
theorem dX3_readSettings_75 : decode cX3_readSettings 75 = .ok (.iconst 1, 1) := by decide +kernel
theorem dX3_readSettings_76 : decode cX3_readSettings 76 = .ok (.ireturn, 1) := by decide +kernel
theorem dX3_settingHere_0 : decode cX3_settingHere 0 = .ok (.aload_n 0, 1) := by decide +kernel
theorem dX3_settingHere_1 : decode cX3_settingHere 1 = .ok (.ldc 68, 2) := by decide +kernel
theorem dX3_settingHere_3 : decode cX3_settingHere 3 = .ok (.invokevirtual 70, 3) := by decide +kernel
theorem dX3_settingHere_6 : decode cX3_settingHere 6 = .ok (.ifCond .eq 5, 3) := by decide +kernel
theorem dX3_settingHere_9 : decode cX3_settingHere 9 = .ok (.iconst 0, 1) := by decide +kernel
theorem dX3_settingHere_10 : decode cX3_settingHere 10 = .ok (.ireturn, 1) := by decide +kernel
theorem dX3_settingHere_11 : decode cX3_settingHere 11 = .ok (.aload_n 0, 1) := by decide +kernel
theorem dX3_settingHere_12 : decode cX3_settingHere 12 = .ok (.ldc 74, 2) := by decide +kernel
theorem dX3_settingHere_14 : decode cX3_settingHere 14 = .ok (.invokevirtual 70, 3) := by decide +kernel
theorem dX3_settingHere_17 : decode cX3_settingHere 17 = .ok (.ifCond .eq 5, 3) := by decide +kernel
theorem dX3_settingHere_20 : decode cX3_settingHere 20 = .ok (.iconst 1, 1) := by decide +kernel
theorem dX3_settingHere_21 : decode cX3_settingHere 21 = .ok (.ireturn, 1) := by decide +kernel
theorem dX3_settingHere_22 : decode cX3_settingHere 22 = .ok (.aload_n 0, 1) := by decide +kernel
theorem dX3_settingHere_23 : decode cX3_settingHere 23 = .ok (.ldc 76, 2) := by decide +kernel
theorem dX3_settingHere_25 : decode cX3_settingHere 25 = .ok (.invokevirtual 70, 3) := by decide +kernel
theorem dX3_settingHere_28 : decode cX3_settingHere 28 = .ok (.ifCond .eq 5, 3) := by decide +kernel
theorem dX3_settingHere_31 : decode cX3_settingHere 31 = .ok (.iconst 2, 1) := by decide +kernel
theorem dX3_settingHere_32 : decode cX3_settingHere 32 = .ok (.ireturn, 1) := by decide +kernel
theorem dX3_settingHere_33 : decode cX3_settingHere 33 = .ok (.aload_n 0, 1) := by decide +kernel
theorem dX3_settingHere_34 : decode cX3_settingHere 34 = .ok (.ldc 78, 2) := by decide +kernel
theorem dX3_settingHere_36 : decode cX3_settingHere 36 = .ok (.invokevirtual 70, 3) := by decide +kernel
theorem dX3_settingHere_39 : decode cX3_settingHere 39 = .ok (.ifCond .eq 7, 3) := by decide +kernel
theorem dX3_settingHere_42 : decode cX3_settingHere 42 = .ok (.iconst 3, 1) := by decide +kernel
theorem dX3_settingHere_43 : decode cX3_settingHere 43 = .ok (.goto 4, 3) := by decide +kernel
theorem dX3_settingHere_46 : decode cX3_settingHere 46 = .ok (.iconst (-1), 1) := by decide +kernel
theorem dX3_settingHere_47 : decode cX3_settingHere 47 = .ok (.ireturn, 1) := by decide +kernel
set_option maxHeartbeats 4000000 in
set_option maxRecDepth 100000 in
theorem X3_hasRoom (l : Launch) (κ : Kt) (σ0 : Gh) (this : Nat) (t_this : zk σ0 this 6) : TC l yX3_hasRoom cX3_hasRoom 1 (some .boolean) 0 0 [.ref this] κ σ0 (tqi κ fE σ0 (fun (r : Int32) (τ : Gh) => ((r.toInt = 1 ∧ (zI σ0 this 1).toInt + 20 ≤ 700) ∨ (r.toInt = 0 ∧ 700 < (zI σ0 this 1).toInt + 20)) ∧ (isB r))) := by
  refine TC.of fE (by decide +kernel) (Nat.le_of_ble_eq_true rfl) ?_
  intro p e s m below meth c ls hcs hK hX hT hl
  obtain ⟨hx, hb, hr, hml, hown, hg, hlocks, hin⟩ := hcs
  have hown : s.vm.findClass RX3 = some m.cls := hown
  have hl : lv_has ls 1 [(0, .ref this)] := hl
  have hT0 := hT
  have n0 : (0 : Int32).toInt = 0 := by decide
  have n1 : (1 : Int32).toInt = 1 := by decide
  have n20 : (20 : Int32).toInt = 20 := by decide
  have n700 : (700 : Int32).toInt = 700 := by decide
  generalize hQ9 : tQ _ _ _ _ _ _ = Q9
  refine lv_aload_n hx hb dX3_hasRoom_0 rfl (lv_at hl 0 rfl) ?_
  obtain ⟨v1, ev1⟩ : ∃ zz9 : Int32, zI σ0 this 1 = zz9 := ⟨_, rfl⟩
  have qv1 : v1.toInt = (zI σ0 this 1).toInt := by rw [ev1]
  have b2 := (hT.P (hT.k t_this (by decide)) (by decide)).1
  rw [(hT.eI t_this (by decide) rfl ev1)] at b2
  have b2l := b2.1
  have b2h := b2.2
  refine va_get (D := κ.1) (ci := 3) (v := .int (zI σ0 this 1)) (C := RX3) (T := TX3) (N := 8) hx hb hg inX3 hown hK (hT.o6 (hT.k t_this (by decide))).one 0 rfl rfl 1 (by decide) (hg _ k120) (fun _ h9 => h9) rfl dX3_hasRoom_1 ?_
  rw [(hT.eI t_this (by decide) rfl ev1)]
  refine lv_bipush (v := 20) hx hb dX3_hasRoom_4 (by decide) ?_
  refine lv_iadd hx hb dX3_hasRoom_6 ?_
  first | refine g_add (by omega) (by omega) (fun t3 ht3 => ?_) | refine lv_topi (fun t3 ht3 => ?_)
  refine lv_sipush (v := 700) hx hb dX3_hasRoom_7 (by decide) ?_
  refine lv_icmp_gt (tgt := 17) hx hb dX3_hasRoom_10 (by decide) (fun c9 => ?_) (fun c9 => ?_)
  · have c1 := gi_lt c9
    refine lv_iconst (v := 0) hx hb dX3_hasRoom_17 (by decide) ?_
    subst hQ9
    exact t_z hx hb hr isB0 hlocks hT ⟨by omega, isB0⟩ dX3_hasRoom_18
  · have c2 := gi_nlt c9
    refine lv_iconst (v := 1) hx hb dX3_hasRoom_13 (by decide) ?_
    refine lv_goto (tgt := 18) hx hb dX3_hasRoom_14 (by decide) ?_
    subst hQ9
    exact t_z hx hb hr isB1 hlocks hT ⟨by omega, isB1⟩ dX3_hasRoom_18
set_option maxHeartbeats 4000000 in
set_option maxRecDepth 100000 in
theorem X3_addInt (l : Launch) (κ : Kt) (σ0 : Gh) (this : Nat) (f : Int32) (t_this : zk σ0 this 6) (h0 : (zI σ0 this 1).toInt ≤ 696) : TC l yX3_addInt cX3_addInt 3 none 0 0 [.ref this, .int f] κ σ0 (tqv κ fT1 σ0 (fun (τ : Gh) => ((zI τ this 1).toInt = (zI σ0 this 1).toInt + 4))) := by
  refine TC.of fT1 (by decide +kernel) (Nat.le_of_ble_eq_true rfl) ?_
  intro p e s m below meth c ls hcs hK hX hT hl
  obtain ⟨hx, hb, hr, hml, hown, hg, hlocks, hin⟩ := hcs
  have hown : s.vm.findClass RX3 = some m.cls := hown
  have hl : lv_has ls 3 [(0, .ref this), (1, .int f)] := hl
  have hT0 := hT
  have n0 : (0 : Int32).toInt = 0 := by decide
  have n1 : (1 : Int32).toInt = 1 := by decide
  have n24 : (24 : Int32).toInt = 24 := by decide
  have n700 : (700 : Int32).toInt = 700 := by decide
  have f_lo := Int32.le_toInt f
  have f_hi := Int32.toInt_lt f
  generalize hQ9 : tQ _ _ _ _ _ _ = Q9
  refine lv_bipush (v := 24) hx hb dX3_addInt_0 (by decide) ?_
  refine lv_istore_n (lv' := [(2, .int 24), (0, .ref this), (1, .int f)]) hx hb dX3_addInt_2 rfl hl (by decide) rfl (fun ls hl => ?_)
  have loop3 : ∀ (n9 : Nat) (sh : Int32) (u : Int32) (H : Heap) (locs : List Loc) (sg : Gh) (ls : Array Slot), TS κ fT1 σ0 sg s H locs → (zI sg this 1 = u) → (8 * u.toInt + sh.toInt = 8 * (zI σ0 this 1).toInt + 24) → (-8 ≤ sh.toInt) → (sh.toInt ≤ 24) → lv_has ls 3 [(2, .int sh), (0, .ref this), (1, .int f)] → (sh.toInt + 8) < n9 → tW p l e 0 0 κ s m #[.ref this, .int f] below meth c H locs Q9 (F0 m 3 ls []) := by
    intro n9
    induction n9 with
    | zero =>
      intro sh u H locs sg ls hT kthis_1 q1 q2 q3 hl hm9
      exfalso
      omega
    | succ n9 ih9 =>
      have ih3 := ih9
      clear ih9
      intro sh u H locs s1 ls hT kthis_1 q1 q2 q3 hl hm9
      have b2 := (hT.P (hT.k t_this (by decide)) (by decide)).1
      rw [kthis_1] at b2
      have b2l := b2.1
      have b2h := b2.2
      refine lv_iload_n hx hb dX3_addInt_3 rfl (lv_at hl 0 rfl) ?_
      refine lv_if_lt (tgt := 46) hx hb dX3_addInt_4 (by decide) (fun c9 => ?_) (fun c9 => ?_)
      · have c1 := gi_lt c9
        subst hQ9
        exact t_v hx hb hr hlocks hT (by rw [kthis_1]; omega) dX3_addInt_46
      · have c2 := gi_nlt c9
        refine lv_aload_n hx hb dX3_addInt_7 rfl (lv_at hl 1 rfl) ?_
        refine va_get (D := κ.1) (ci := 3) (v := .int (zI s1 this 1)) (C := RX3) (T := TX3) (N := 8) hx hb hg inX3 hown hK (hT.o6 (hT.k t_this (by decide))).one 0 rfl rfl 1 (by decide) (hg _ k120) (fun _ h9 => h9) rfl dX3_addInt_8 ?_
        rw [kthis_1]
        refine lv_sipush (v := 700) hx hb dX3_addInt_11 (by decide) ?_
        refine lv_icmp_ge (tgt := 46) hx hb dX3_addInt_14 (by decide) (fun c9 => ?_) (fun c9 => ?_)
        · have c3 := gi_le c9
          subst hQ9
          exact t_v hx hb hr hlocks hT (by rw [kthis_1]; omega) dX3_addInt_46
        · have c4 := gi_nle c9
          refine lv_aload_n hx hb dX3_addInt_17 rfl (lv_at hl 1 rfl) ?_
          obtain ⟨r3, er3⟩ : ∃ z, kR κ this 0 = z := ⟨_, rfl⟩
          have tr3 : zk σ0 r3 14 := by rw [← er3]; exact hT0.ref t_this (by decide) (by decide) (by decide)
          refine va_get (D := κ.1) (ci := 3) (v := .ref (kR κ this 0)) (C := RX3) (T := TX3) (N := 8) hx hb hg inX3 hown hK (hT.o6 (hT.k t_this (by decide))).one 0 rfl rfl 0 (by decide) (hg _ k119) (fun _ h9 => h9) rfl dX3_addInt_18 ?_
          rw [er3]
          refine lv_aload_n hx hb dX3_addInt_21 rfl (lv_at hl 1 rfl) ?_
          refine va_get (D := κ.1) (ci := 3) (v := .int (zI s1 this 1)) (C := RX3) (T := TX3) (N := 8) hx hb hg inX3 hown hK (hT.o6 (hT.k t_this (by decide))).one 0 rfl rfl 1 (by decide) (hg _ k120) (fun _ h9 => h9) rfl dX3_addInt_22 ?_
          rw [kthis_1]
          refine lv_iload_n hx hb dX3_addInt_25 rfl (lv_at hl 2 rfl) ?_
          refine lv_iload_n hx hb dX3_addInt_26 rfl (lv_at hl 0 rfl) ?_
          refine lv_ishr hx hb dX3_addInt_27 ?_
          refine lv_topi (fun t4 ht4 => ?_)
          refine lv_i2b hx hb dX3_addInt_28 rfl ?_
          refine lv_topi (fun t5 ht5 => ?_)
          have hTo := hT
          refine tastb (n := 700) hx hb hK hT (hT.k tr3 (by decide)) ⟨by decide, by decide⟩ (fun _ _ _ => rfl) (fun _ _ => trivial) (fun _ => rfl) (by omega) (by omega) dX3_addInt_29 (fun H locs s6 hus6 hT => ?_)
          have kthis_1 : zI s6 this 1 = u := (zput_o hus6 (Or.inl ((hTo.k t_this (by decide)).ne (hTo.k tr3 (by decide)) (by decide)))).trans kthis_1
          refine lv_aload_n hx hb dX3_addInt_30 rfl (lv_at hl 1 rfl) ?_
          refine lv_dup hx hb dX3_addInt_31 rfl ?_
          refine va_get (D := κ.1) (ci := 3) (v := .int (zI s6 this 1)) (C := RX3) (T := TX3) (N := 8) hx hb hg inX3 hown hK (hT.o6 (hT.k t_this (by decide))).one 0 rfl rfl 1 (by decide) (hg _ k120) (fun _ h9 => h9) rfl dX3_addInt_32 ?_
          rw [kthis_1]
          refine lv_iconst (v := 1) hx hb dX3_addInt_35 (by decide) ?_
          refine lv_iadd hx hb dX3_addInt_36 ?_
          first | refine g_add (by omega) (by omega) (fun t7 ht7 => ?_) | refine lv_topi (fun t7 ht7 => ?_)
          have hTo := hT
          refine pf6_1 hx hb hg hown hK hT (hT.k t_this (by decide)) rfl ⟨by omega, by omega⟩ (hg _ k120) dX3_addInt_37 (fun H locs s8 hus8 hT => ?_)
          have e9 : zI s8 this 1 = t7 := zput_at hus8
          obtain ⟨t10, qt10⟩ : ∃ zz9 : Int32, sh + Int32.ofInt (-8) = zz9 := ⟨_, rfl⟩
          refine lv_iinc (v := t10) (lv' := [(2, .int t10), (0, .ref this), (1, .int f)]) hx hb dX3_addInt_40 hl (k := 0) rfl qt10 (by decide) rfl (fun ls hl => ?_)
          have ht10 : t10.toInt = sh.toInt + (-8) := by rw [← qt10]; exact v_addi rfl (show (Int32.ofInt (-8)).toInt = (-8) from by decide) (by omega) (by omega)
          refine lv_goto (tgt := 3) hx hb dX3_addInt_43 (by decide) ?_
          exact ih3 t10 t7 _ _ _ _ hT e9 (by omega) (by omega) (by omega) hl (by omega)
  obtain ⟨v11, ev11⟩ : ∃ zz9 : Int32, zI σ0 this 1 = zz9 := ⟨_, rfl⟩
  have qv11 : v11.toInt = (zI σ0 this 1).toInt := by rw [ev11]
  have b12 := (hT.P (hT.k t_this (by decide)) (by decide)).1
  rw [ev11] at b12
  have b12l := b12.1
  have b12h := b12.2
  exact loop3 (((24 : Int32).toInt + 8).toNat + 1) 24 v11 _ _ _ _ hT ev11 (by omega) (by omega) (by omega) hl (by omega)
set_option maxHeartbeats 4000000 in
set_option maxRecDepth 100000 in
theorem X3_isLetter (l : Launch) (κ : Kt) (σ0 : Gh) (ch : Int32) : TC l yX3_isLetter cX3_isLetter 1 (some .boolean) 0 0 [.int ch] κ σ0 (tqi κ fE σ0 (fun (r : Int32) (τ : Gh) => (isB r))) := by
  refine TC.of fE (by decide +kernel) (Nat.le_of_ble_eq_true rfl) ?_
  intro p e s m below meth c ls hcs hK hX hT hl
  obtain ⟨hx, hb, hr, hml, hown, hg, hlocks, hin⟩ := hcs
  have hown : s.vm.findClass RX3 = some m.cls := hown
  have hl : lv_has ls 1 [(0, .int ch)] := hl
  have hT0 := hT
  have n0 : (0 : Int32).toInt = 0 := by decide
  have n1 : (1 : Int32).toInt = 1 := by decide
  have n97 : (97 : Int32).toInt = 97 := by decide
  have n122 : (122 : Int32).toInt = 122 := by decide
  have ch_lo := Int32.le_toInt ch
  have ch_hi := Int32.toInt_lt ch
  generalize hQ9 : tQ _ _ _ _ _ _ = Q9
  refine lv_iload_n hx hb dX3_isLetter_0 rfl (lv_at hl 0 rfl) ?_
  refine lv_bipush (v := 97) hx hb dX3_isLetter_1 (by decide) ?_
  refine lv_icmp_lt (tgt := 16) hx hb dX3_isLetter_3 (by decide) (fun c9 => ?_) (fun c9 => ?_)
  · have c1 := gi_lt c9
    refine lv_iconst (v := 0) hx hb dX3_isLetter_16 (by decide) ?_
    subst hQ9
    exact t_z hx hb hr isB0 hlocks hT isB0 dX3_isLetter_17
  · have c2 := gi_nlt c9
    refine lv_iload_n hx hb dX3_isLetter_6 rfl (lv_at hl 0 rfl) ?_
    refine lv_bipush (v := 122) hx hb dX3_isLetter_7 (by decide) ?_
    refine lv_icmp_gt (tgt := 16) hx hb dX3_isLetter_9 (by decide) (fun c9 => ?_) (fun c9 => ?_)
    · have c3 := gi_lt c9
      refine lv_iconst (v := 0) hx hb dX3_isLetter_16 (by decide) ?_
      subst hQ9
      exact t_z hx hb hr isB0 hlocks hT isB0 dX3_isLetter_17
    · have c4 := gi_nlt c9
      refine lv_iconst (v := 1) hx hb dX3_isLetter_12 (by decide) ?_
      refine lv_goto (tgt := 17) hx hb dX3_isLetter_13 (by decide) ?_
      subst hQ9
      exact t_z hx hb hr isB1 hlocks hT isB1 dX3_isLetter_17
set_option maxHeartbeats 4000000 in
set_option maxRecDepth 100000 in
theorem X3_isDigit (l : Launch) (κ : Kt) (σ0 : Gh) (ch : Int32) : TC l yX3_isDigit cX3_isDigit 1 (some .boolean) 0 0 [.int ch] κ σ0 (tqi κ fE σ0 (fun (r : Int32) (τ : Gh) => (isB r))) := by
  refine TC.of fE (by decide +kernel) (Nat.le_of_ble_eq_true rfl) ?_
  intro p e s m below meth c ls hcs hK hX hT hl
  obtain ⟨hx, hb, hr, hml, hown, hg, hlocks, hin⟩ := hcs
  have hown : s.vm.findClass RX3 = some m.cls := hown
  have hl : lv_has ls 1 [(0, .int ch)] := hl
  have hT0 := hT
  have n0 : (0 : Int32).toInt = 0 := by decide
  have n1 : (1 : Int32).toInt = 1 := by decide
  have n48 : (48 : Int32).toInt = 48 := by decide
  have n57 : (57 : Int32).toInt = 57 := by decide
  have ch_lo := Int32.le_toInt ch
  have ch_hi := Int32.toInt_lt ch
  generalize hQ9 : tQ _ _ _ _ _ _ = Q9
  refine lv_iload_n hx hb dX3_isDigit_0 rfl (lv_at hl 0 rfl) ?_
  refine lv_bipush (v := 48) hx hb dX3_isDigit_1 (by decide) ?_
  refine lv_icmp_lt (tgt := 16) hx hb dX3_isDigit_3 (by decide) (fun c9 => ?_) (fun c9 => ?_)
  · have c1 := gi_lt c9
    refine lv_iconst (v := 0) hx hb dX3_isDigit_16 (by decide) ?_
    subst hQ9
    exact t_z hx hb hr isB0 hlocks hT isB0 dX3_isDigit_17
  · have c2 := gi_nlt c9
    refine lv_iload_n hx hb dX3_isDigit_6 rfl (lv_at hl 0 rfl) ?_
    refine lv_bipush (v := 57) hx hb dX3_isDigit_7 (by decide) ?_
    refine lv_icmp_gt (tgt := 16) hx hb dX3_isDigit_9 (by decide) (fun c9 => ?_) (fun c9 => ?_)
    · have c3 := gi_lt c9
      refine lv_iconst (v := 0) hx hb dX3_isDigit_16 (by decide) ?_
      subst hQ9
      exact t_z hx hb hr isB0 hlocks hT isB0 dX3_isDigit_17
    · have c4 := gi_nlt c9
      refine lv_iconst (v := 1) hx hb dX3_isDigit_12 (by decide) ?_
      refine lv_goto (tgt := 17) hx hb dX3_isDigit_13 (by decide) ?_
      subst hQ9
      exact t_z hx hb hr isB1 hlocks hT isB1 dX3_isDigit_17
set_option maxHeartbeats 4000000 in
set_option maxRecDepth 100000 in
theorem X3_isWrong (l : Launch) (κ : Kt) (σ0 : Gh) (this : Nat) (ch : Int32) (t_this : zk σ0 this 6) : TC l yX3_isWrong cX3_isWrong 2 (some .boolean) 0 0 [.ref this, .int ch] κ σ0 (tqi κ fPe σ0 (fun (r : Int32) (τ : Gh) => (r.toInt = 0) ∧ (isB r))) := by
  refine TC.of fPe (by decide +kernel) (Nat.le_of_ble_eq_true rfl) ?_
  intro p e s m below meth c ls hcs hK hX hT hl
  obtain ⟨hx, hb, hr, hml, hown, hg, hlocks, hin⟩ := hcs
  have hown : s.vm.findClass RX3 = some m.cls := hown
  have hl : lv_has ls 2 [(0, .ref this), (1, .int ch)] := hl
  have hT0 := hT
  have n0 : (0 : Int32).toInt = 0 := by decide
  have ch_lo := Int32.le_toInt ch
  have ch_hi := Int32.toInt_lt ch
  generalize hQ9 : tQ _ _ _ _ _ _ = Q9
  refine lv_aload_n hx hb dX3_isWrong_0 rfl (lv_at hl 0 rfl) ?_
  refine lv_iload_n hx hb dX3_isWrong_1 rfl (lv_at hl 1 rfl) ?_
  have hTo := hT
  refine pf6_2 hx hb hg hown hK hT (hT.k t_this (by decide)) rfl (hg _ k122) dX3_isWrong_2 (fun H locs s1 hus1 hT => ?_)
  have e2 : zI s1 this 2 = ch := zput_at hus1
  refine lv_aload_n hx hb dX3_isWrong_5 rfl (lv_at hl 0 rfl) ?_
  refine lv_aload_n hx hb dX3_isWrong_6 rfl (lv_at hl 0 rfl) ?_
  obtain ⟨v3, ev3⟩ : ∃ zz9 : Int32, zI s1 this 5 = zz9 := ⟨_, rfl⟩
  have qv3 : v3.toInt = (zI s1 this 5).toInt := by rw [ev3]
  have b4 := (hT.P (hT.k t_this (by decide)) (by decide)).2.1
  rw [ev3] at b4
  have b4l := b4.1
  have b4h := b4.2
  refine va_get (D := κ.1) (ci := 3) (v := .int (zI s1 this 5)) (C := RX3) (T := TX3) (N := 8) hx hb hg inX3 hown hK (hT.o6 (hT.k t_this (by decide))).one 0 rfl rfl 5 (by decide) (hg _ k127) (fun _ h9 => h9) rfl dX3_isWrong_7 ?_
  rw [ev3]
  have hTo := hT
  refine pf6_3 hx hb hg hown hK hT (hT.k t_this (by decide)) rfl (hg _ k124) dX3_isWrong_10 (fun H locs s5 hus5 hT => ?_)
  have e2 : zI s5 this 2 = ch := (zput_o hus5 (Or.inr (by decide))).trans e2
  have ev3 : zI s5 this 5 = v3 := (zput_o hus5 (Or.inr (by decide))).trans ev3
  have e6 : zI s5 this 3 = v3 := zput_at hus5
  refine lv_iconst (v := 0) hx hb dX3_isWrong_13 (by decide) ?_
  subst hQ9
  exact t_z hx hb hr isB0 hlocks hT ⟨by omega, isB0⟩ dX3_isWrong_14
set_option maxHeartbeats 4000000 in
set_option maxRecDepth 100000 in
theorem X3_isWord (l : Launch) (κ : Kt) (σ0 : Gh) (this : Nat) (wi : Nat) (t_this : zk σ0 this 6) (h_wi : wi < 13) : TC l yX3_isWord cX3_isWord 3 (some .boolean) 4 85 [.ref this, .ref (kK κ wi)] κ σ0 (tqi κ fE σ0 (fun (r : Int32) (τ : Gh) => (isB r))) := by
  refine TC.of fE (by decide +kernel) (Nat.le_of_ble_eq_true rfl) ?_
  intro p e s m below meth c ls hcs hK hX hT hl
  obtain ⟨hx, hb, hr, hml, hown, hg, hlocks, hin⟩ := hcs
  have hown : s.vm.findClass RX3 = some m.cls := hown
  have hl : lv_has ls 3 [(0, .ref this), (1, .ref (kK κ wi))] := hl
  have hT0 := hT
  have n0 : (0 : Int32).toInt = 0 := by decide
  have n1 : (1 : Int32).toInt = 1 := by decide
  generalize hQ9 : tQ _ _ _ _ _ _ = Q9
  have hwl := (wd_len wi h_wi).2
  refine lv_aload_n hx hb dX3_isWord_0 rfl (lv_at hl 0 rfl) ?_
  obtain ⟨v1, ev1⟩ : ∃ zz9 : Int32, zI σ0 this 4 = zz9 := ⟨_, rfl⟩
  have qv1 : v1.toInt = (zI σ0 this 4).toInt := by rw [ev1]
  refine va_get (D := κ.1) (ci := 3) (v := .int (zI σ0 this 4)) (C := RX3) (T := TX3) (N := 8) hx hb hg inX3 hown hK (hT.o6 (hT.k t_this (by decide))).one 0 rfl rfl 4 (by decide) (hg _ k126) (fun _ h9 => h9) rfl dX3_isWord_1 ?_
  rw [(hT.eI t_this (by decide) rfl ev1)]
  refine lv_iconst (v := 1) hx hb dX3_isWord_4 (by decide) ?_
  refine lv_icmp_ne (tgt := 24) hx hb dX3_isWord_5 (by decide) (fun c9 => ?_) (fun c9 => ?_)
  · have c1 := gi_ne c9
    refine lv_iconst (v := 0) hx hb dX3_isWord_24 (by decide) ?_
    subst hQ9
    exact t_z hx hb hr isB0 hlocks hT isB0 dX3_isWord_25
  · have c2 := gi_eq c9
    refine lv_aload_n hx hb dX3_isWord_8 rfl (lv_at hl 0 rfl) ?_
    obtain ⟨v2, ev2⟩ : ∃ zz9 : Int32, zI σ0 this 6 = zz9 := ⟨_, rfl⟩
    have qv2 : v2.toInt = (zI σ0 this 6).toInt := by rw [ev2]
    have b3 := (hT.P (hT.k t_this (by decide)) (by decide)).2.2
    rw [(hT.eI t_this (by decide) rfl ev2)] at b3
    have b3l := b3.1
    have b3h := b3.2
    refine va_get (D := κ.1) (ci := 3) (v := .int (zI σ0 this 6)) (C := RX3) (T := TX3) (N := 8) hx hb hg inX3 hown hK (hT.o6 (hT.k t_this (by decide))).one 0 rfl rfl 6 (by decide) (hg _ k128) (fun _ h9 => h9) rfl dX3_isWord_9 ?_
    rw [(hT.eI t_this (by decide) rfl ev2)]
    refine lv_aload_n hx hb dX3_isWord_12 rfl (lv_at hl 0 rfl) ?_
    obtain ⟨v4, ev4⟩ : ∃ zz9 : Int32, zI σ0 this 5 = zz9 := ⟨_, rfl⟩
    have qv4 : v4.toInt = (zI σ0 this 5).toInt := by rw [ev4]
    have b5 := (hT.P (hT.k t_this (by decide)) (by decide)).2.1
    rw [(hT.eI t_this (by decide) rfl ev4)] at b5
    have b5l := b5.1
    have b5h := b5.2
    refine va_get (D := κ.1) (ci := 3) (v := .int (zI σ0 this 5)) (C := RX3) (T := TX3) (N := 8) hx hb hg inX3 hown hK (hT.o6 (hT.k t_this (by decide))).one 0 rfl rfl 5 (by decide) (hg _ k127) (fun _ h9 => h9) rfl dX3_isWord_13 ?_
    rw [(hT.eI t_this (by decide) rfl ev4)]
    refine lv_isub hx hb dX3_isWord_16 ?_
    first | refine g_sub (by omega) (by omega) (fun t6 ht6 => ?_) | refine lv_topi (fun t6 ht6 => ?_)
    refine lv_aload_n hx hb dX3_isWord_17 rfl (lv_at hl 1 rfl) ?_
    have hTo := hT
    refine tKi (n := 0) (As := []) (rest := [.int t6]) hx hb hml hown hg hT hK hX (J_length l κ σ0 wi h_wi  ) (fun _ _ h => h) (mwV k728 k729 k730 k97 k731) ⟨rfl, by decide, by decide, by decide +kernel⟩ ⟨(Nat.le_of_ble_eq_true rfl), (Nat.le_of_ble_eq_true rfl)⟩ (vk_recv hX.2.1 h_wi hT.2.2.2) rfl hl.1 rfl (Nat.le_of_ble_eq_true rfl) dX3_isWord_18 zroom.rf (fun x8 s7 H locs hx8 hEs7 hT => ?_)
    refine lv_icmp_eq (tgt := 26) hx hb dX3_isWord_21 (by decide) (fun c9 => ?_) (fun c9 => ?_)
    · have c3 := gi_eq c9
      refine lv_iconst (v := 0) hx hb dX3_isWord_26 (by decide) ?_
      refine lv_istore_n (lv' := [(2, .int 0), (0, .ref this), (1, .ref (kK κ wi))]) hx hb dX3_isWord_27 rfl hl (by decide) rfl (fun ls hl => ?_)
      have loop28 : ∀ (n9 : Nat) (i : Int32) (H : Heap) (locs : List Loc) (sg : Gh) (ls : Array Slot), TS κ fE σ0 sg s H locs → (0 ≤ i.toInt) → (i.toInt ≤ wdL.getD wi 0) → lv_has ls 3 [(2, .int i), (0, .ref this), (1, .ref (kK κ wi))] → ((wdL.getD wi 0 : Int) - i.toInt) < n9 → tW p l e 4 85 κ s m #[.ref this, .ref (kK κ wi)] below meth c H locs Q9 (F0 m 28 ls []) := by
        intro n9
        induction n9 with
        | zero =>
          intro i H locs sg ls hT q1 q2 hl hm9
          exfalso
          omega
        | succ n9 ih9 =>
          have ih28 := ih9
          clear ih9
          intro i H locs s9 ls hT q1 q2 hl hm9
          refine lv_iload_n hx hb dX3_isWord_28 rfl (lv_at hl 0 rfl) ?_
          refine lv_aload_n hx hb dX3_isWord_29 rfl (lv_at hl 2 rfl) ?_
          have hTo := hT
          refine tKi (n := 0) (As := []) (rest := [.int i]) hx hb hml hown hg hT hK hX (J_length l κ s9 wi h_wi  ) (fun _ _ h => h) (mwV k728 k729 k730 k97 k731) ⟨rfl, by decide, by decide, by decide +kernel⟩ ⟨(Nat.le_of_ble_eq_true rfl), (Nat.le_of_ble_eq_true rfl)⟩ (vk_recv hX.2.1 h_wi hT.2.2.2) rfl hl.1 rfl (Nat.le_of_ble_eq_true rfl) dX3_isWord_30 zroom.rf (fun x11 s10 H locs hx11 hEs10 hT => ?_)
          refine lv_icmp_ge (tgt := 63) hx hb dX3_isWord_33 (by decide) (fun c9 => ?_) (fun c9 => ?_)
          · have c4 := gi_le c9
            refine lv_iconst (v := 1) hx hb dX3_isWord_63 (by decide) ?_
            subst hQ9
            exact t_z hx hb hr isB1 hlocks hT isB1 dX3_isWord_64
          · have c5 := gi_nle c9
            refine lv_aload_n hx hb dX3_isWord_36 rfl (lv_at hl 1 rfl) ?_
            obtain ⟨r12, er12⟩ : ∃ z, kR κ this 0 = z := ⟨_, rfl⟩
            have tr12 : zk σ0 r12 14 := by rw [← er12]; exact hT0.ref t_this (by decide) (by decide) (by decide)
            refine va_get (D := κ.1) (ci := 3) (v := .ref (kR κ this 0)) (C := RX3) (T := TX3) (N := 8) hx hb hg inX3 hown hK (hT.o6 (hT.k t_this (by decide))).one 0 rfl rfl 0 (by decide) (hg _ k119) (fun _ h9 => h9) rfl dX3_isWord_37 ?_
            rw [er12]
            refine lv_aload_n hx hb dX3_isWord_40 rfl (lv_at hl 1 rfl) ?_
            refine va_get (D := κ.1) (ci := 3) (v := .int (zI s10 this 5)) (C := RX3) (T := TX3) (N := 8) hx hb hg inX3 hown hK (hT.o6 (hT.k t_this (by decide))).one 0 rfl rfl 5 (by decide) (hg _ k127) (fun _ h9 => h9) rfl dX3_isWord_41 ?_
            rw [(hT.eI t_this (by decide) rfl ev4)]
            refine lv_iload_n hx hb dX3_isWord_44 rfl (lv_at hl 0 rfl) ?_
            refine lv_iadd hx hb dX3_isWord_45 ?_
            first | refine g_add (by omega) (by omega) (fun t13 ht13 => ?_) | refine lv_topi (fun t13 ht13 => ?_)
            refine va_bald hx hb hK (hT.o14 (hT.k tr12 (by decide))).one 0 2 rfl rfl (g_in (by omega) (by omega)) dX3_isWord_46 ?_
            refine lv_topi (fun t14 ht14 => ?_)
            refine lv_aload_n hx hb dX3_isWord_47 rfl (lv_at hl 2 rfl) ?_
            refine lv_iload_n hx hb dX3_isWord_48 rfl (lv_at hl 0 rfl) ?_
            have hTo := hT
            refine tKi (n := 1) (As := [.int i]) (rest := [.int t14]) hx hb hml hown hg hT hK hX (J_charAt l κ s10 wi h_wi i (by omega) (by omega)) (fun _ _ h => h) (mwV k738 k739 k740 k97 k741) ⟨rfl, by decide, by decide, by decide +kernel⟩ ⟨(Nat.le_of_ble_eq_true rfl), (Nat.le_of_ble_eq_true rfl)⟩ (vk_recv hX.2.1 h_wi hT.2.2.2) rfl hl.1 rfl (Nat.le_of_ble_eq_true rfl) dX3_isWord_49 zroom.rf (fun x16 s15 H locs hx16 hEs15 hT => ?_)
            refine lv_icmp_eq (tgt := 57) hx hb dX3_isWord_52 (by decide) (fun c9 => ?_) (fun c9 => ?_)
            · have c6 := gi_eq c9
              obtain ⟨t17, qt17⟩ : ∃ zz9 : Int32, i + Int32.ofInt 1 = zz9 := ⟨_, rfl⟩
              refine lv_iinc (v := t17) (lv' := [(2, .int t17), (0, .ref this), (1, .ref (kK κ wi))]) hx hb dX3_isWord_57 hl (k := 0) rfl qt17 (by decide) rfl (fun ls hl => ?_)
              have ht17 : t17.toInt = i.toInt + 1 := by rw [← qt17]; exact v_addi rfl (show (Int32.ofInt 1).toInt = 1 from by decide) (by omega) (by omega)
              refine lv_goto (tgt := 28) hx hb dX3_isWord_60 (by decide) ?_
              exact ih28 t17 _ _ _ _ hT  (by omega) (by omega) hl (by omega)
            · have c7 := gi_ne c9
              refine lv_iconst (v := 0) hx hb dX3_isWord_55 (by decide) ?_
              subst hQ9
              exact t_z hx hb hr isB0 hlocks hT isB0 dX3_isWord_56
      exact loop28 (((wdL.getD wi 0 : Int) - (0 : Int32).toInt).toNat + 1) 0 _ _ _ _ hT  (by omega) (by omega) hl (by omega)
    · have c8 := gi_ne c9
      refine lv_iconst (v := 0) hx hb dX3_isWord_24 (by decide) ?_
      subst hQ9
      exact t_z hx hb hr isB0 hlocks hT isB0 dX3_isWord_25
set_option maxHeartbeats 4000000 in
set_option maxRecDepth 100000 in
theorem X3_passLetters (l : Launch) (κ : Kt) (σ0 : Gh) (this : Nat) (t_this : zk σ0 this 6) : TC l yX3_passLetters cX3_passLetters 1 none 1 20 [.ref this] κ σ0 (tqv κ fP σ0 (fun (τ : Gh) => True)) := by
  refine TC.of fP (by decide +kernel) (Nat.le_of_ble_eq_true rfl) ?_
  intro p e s m below meth c ls hcs hK hX hT hl
  obtain ⟨hx, hb, hr, hml, hown, hg, hlocks, hin⟩ := hcs
  have hown : s.vm.findClass RX3 = some m.cls := hown
  have hl : lv_has ls 1 [(0, .ref this)] := hl
  have hT0 := hT
  have n0 : (0 : Int32).toInt = 0 := by decide
  have n1 : (1 : Int32).toInt = 1 := by decide
  generalize hQ9 : tQ _ _ _ _ _ _ = Q9
  have loop0 : ∀ (n9 : Nat)  (u : Int32) (H : Heap) (locs : List Loc) (sg : Gh) (ls : Array Slot), TS κ fP σ0 sg s H locs → (zI sg this 6 = u) → (u.toInt ≤ 700) → lv_has ls 1 [(0, .ref this)] → (700 - u.toInt) < n9 → tW p l e 1 20 κ s m #[.ref this] below meth c H locs Q9 (F0 m 0 ls []) := by
    intro n9
    induction n9 with
    | zero =>
      intro u H locs sg ls hT kthis_6 q1 hl hm9
      exfalso
      omega
    | succ n9 ih9 =>
      have ih0 := ih9
      clear ih9
      intro u H locs s1 ls hT kthis_6 q1 hl hm9
      have b2 := (hT.P (hT.k t_this (by decide)) (by decide)).2.2
      rw [kthis_6] at b2
      have b2l := b2.1
      have b2h := b2.2
      refine lv_aload_n hx hb dX3_passLetters_0 rfl (lv_at hl 0 rfl) ?_
      refine va_get (D := κ.1) (ci := 3) (v := .int (zI s1 this 6)) (C := RX3) (T := TX3) (N := 8) hx hb hg inX3 hown hK (hT.o6 (hT.k t_this (by decide))).one 0 rfl rfl 6 (by decide) (hg _ k128) (fun _ h9 => h9) rfl dX3_passLetters_1 ?_
      rw [kthis_6]
      refine lv_aload_n hx hb dX3_passLetters_4 rfl (lv_at hl 0 rfl) ?_
      obtain ⟨v3, ev3⟩ : ∃ zz9 : Int32, zI σ0 this 1 = zz9 := ⟨_, rfl⟩
      have qv3 : v3.toInt = (zI σ0 this 1).toInt := by rw [ev3]
      have b4 := (hT.P (hT.k t_this (by decide)) (by decide)).1
      rw [(hT.eI t_this (by decide) rfl ev3)] at b4
      have b4l := b4.1
      have b4h := b4.2
      refine va_get (D := κ.1) (ci := 3) (v := .int (zI s1 this 1)) (C := RX3) (T := TX3) (N := 8) hx hb hg inX3 hown hK (hT.o6 (hT.k t_this (by decide))).one 0 rfl rfl 1 (by decide) (hg _ k120) (fun _ h9 => h9) rfl dX3_passLetters_5 ?_
      rw [(hT.eI t_this (by decide) rfl ev3)]
      refine lv_icmp_ge (tgt := 39) hx hb dX3_passLetters_8 (by decide) (fun c9 => ?_) (fun c9 => ?_)
      · have c1 := gi_le c9
        subst hQ9
        exact t_v hx hb hr hlocks hT trivial dX3_passLetters_39
      · have c2 := gi_nle c9
        refine lv_aload_n hx hb dX3_passLetters_11 rfl (lv_at hl 0 rfl) ?_
        obtain ⟨r5, er5⟩ : ∃ z, kR κ this 0 = z := ⟨_, rfl⟩
        have tr5 : zk σ0 r5 14 := by rw [← er5]; exact hT0.ref t_this (by decide) (by decide) (by decide)
        refine va_get (D := κ.1) (ci := 3) (v := .ref (kR κ this 0)) (C := RX3) (T := TX3) (N := 8) hx hb hg inX3 hown hK (hT.o6 (hT.k t_this (by decide))).one 0 rfl rfl 0 (by decide) (hg _ k119) (fun _ h9 => h9) rfl dX3_passLetters_12 ?_
        rw [er5]
        refine lv_aload_n hx hb dX3_passLetters_15 rfl (lv_at hl 0 rfl) ?_
        refine va_get (D := κ.1) (ci := 3) (v := .int (zI s1 this 6)) (C := RX3) (T := TX3) (N := 8) hx hb hg inX3 hown hK (hT.o6 (hT.k t_this (by decide))).one 0 rfl rfl 6 (by decide) (hg _ k128) (fun _ h9 => h9) rfl dX3_passLetters_16 ?_
        rw [kthis_6]
        refine va_bald hx hb hK (hT.o14 (hT.k tr5 (by decide))).one 0 2 rfl rfl (g_in (by omega) (by omega)) dX3_passLetters_19 ?_
        refine lv_topi (fun t6 ht6 => ?_)
        have hTo := hT
        refine tSi (n := 1) (As := [.int t6]) (rest := []) hx hb hml hown hg hT hK hX (X3_isLetter l κ s1 t6   ) sub_fE_fP (mwS k701 k702 k85 k703) ⟨rfl, by decide, by decide, by decide +kernel⟩ ⟨(Nat.le_of_ble_eq_true rfl), (Nat.le_of_ble_eq_true rfl)⟩ rfl hl.1 rfl (Nat.le_of_ble_eq_true rfl) dX3_passLetters_20 zroom.rf (fun x7 s8 H locs hφ hEs8 hT => ?_)
        have kthis_6 : zI s8 this 6 = u := ((hTo.k t_this (by decide)).eI hEs8 (by decide) rfl).trans kthis_6
        have f9 := hφ
        refine lv_if_eq (tgt := 39) hx hb dX3_passLetters_23 (by decide) (fun c9 => ?_) (fun c9 => ?_)
        · have c3 := gi_eq c9
          subst hQ9
          exact t_v hx hb hr hlocks hT trivial dX3_passLetters_39
        · have c4 := gi_ne c9
          refine lv_aload_n hx hb dX3_passLetters_26 rfl (lv_at hl 0 rfl) ?_
          refine lv_dup hx hb dX3_passLetters_27 rfl ?_
          refine va_get (D := κ.1) (ci := 3) (v := .int (zI s8 this 6)) (C := RX3) (T := TX3) (N := 8) hx hb hg inX3 hown hK (hT.o6 (hT.k t_this (by decide))).one 0 rfl rfl 6 (by decide) (hg _ k128) (fun _ h9 => h9) rfl dX3_passLetters_28 ?_
          rw [kthis_6]
          refine lv_iconst (v := 1) hx hb dX3_passLetters_31 (by decide) ?_
          refine lv_iadd hx hb dX3_passLetters_32 ?_
          first | refine g_add (by omega) (by omega) (fun t10 ht10 => ?_) | refine lv_topi (fun t10 ht10 => ?_)
          have hTo := hT
          refine pf6_6 hx hb hg hown hK hT (hT.k t_this (by decide)) rfl ⟨by omega, by omega⟩ (hg _ k128) dX3_passLetters_33 (fun H locs s11 hus11 hT => ?_)
          have e12 : zI s11 this 6 = t10 := zput_at hus11
          refine lv_goto (tgt := 0) hx hb dX3_passLetters_36 (by decide) ?_
          exact ih0 t10 _ _ _ _ hT e12 (by omega) hl (by omega)
  obtain ⟨v13, ev13⟩ : ∃ zz9 : Int32, zI σ0 this 6 = zz9 := ⟨_, rfl⟩
  have qv13 : v13.toInt = (zI σ0 this 6).toInt := by rw [ev13]
  have b14 := (hT.P (hT.k t_this (by decide)) (by decide)).2.2
  rw [ev13] at b14
  have b14l := b14.1
  have b14h := b14.2
  exact loop0 ((700 - v13.toInt).toNat + 1) v13 _ _ _ _ hT ev13 (by omega) hl (by omega)
set_option maxHeartbeats 4000000 in
set_option maxRecDepth 100000 in
theorem X3_passDigits (l : Launch) (κ : Kt) (σ0 : Gh) (this : Nat) (t_this : zk σ0 this 6) : TC l yX3_passDigits cX3_passDigits 1 none 1 20 [.ref this] κ σ0 (tqv κ fP σ0 (fun (τ : Gh) => True)) := by
  refine TC.of fP (by decide +kernel) (Nat.le_of_ble_eq_true rfl) ?_
  intro p e s m below meth c ls hcs hK hX hT hl
  obtain ⟨hx, hb, hr, hml, hown, hg, hlocks, hin⟩ := hcs
  have hown : s.vm.findClass RX3 = some m.cls := hown
  have hl : lv_has ls 1 [(0, .ref this)] := hl
  have hT0 := hT
  have n0 : (0 : Int32).toInt = 0 := by decide
  have n1 : (1 : Int32).toInt = 1 := by decide
  have n10 : (10 : Int32).toInt = 10 := by decide
  have n48 : (48 : Int32).toInt = 48 := by decide
  generalize hQ9 : tQ _ _ _ _ _ _ = Q9
  refine lv_aload_n hx hb dX3_passDigits_0 rfl (lv_at hl 0 rfl) ?_
  refine lv_iconst (v := 0) hx hb dX3_passDigits_1 (by decide) ?_
  have hTo := hT
  refine pf6_7 hx hb hg hown hK hT (hT.k t_this (by decide)) rfl (hg _ k129) dX3_passDigits_2 (fun H locs s1 hus1 hT => ?_)
  have e2 : zI s1 this 7 = 0 := zput_at hus1
  have loop5 : ∀ (n9 : Nat)  (u : Int32) (H : Heap) (locs : List Loc) (sg : Gh) (ls : Array Slot), TS κ fP σ0 sg s H locs → (zI sg this 6 = u) → (u.toInt ≤ 700) → lv_has ls 1 [(0, .ref this)] → (700 - u.toInt) < n9 → tW p l e 1 20 κ s m #[.ref this] below meth c H locs Q9 (F0 m 5 ls []) := by
    intro n9
    induction n9 with
    | zero =>
      intro u H locs sg ls hT kthis_6 q1 hl hm9
      exfalso
      omega
    | succ n9 ih9 =>
      have ih5 := ih9
      clear ih9
      intro u H locs s3 ls hT kthis_6 q1 hl hm9
      have b4 := (hT.P (hT.k t_this (by decide)) (by decide)).2.2
      rw [kthis_6] at b4
      have b4l := b4.1
      have b4h := b4.2
      refine lv_aload_n hx hb dX3_passDigits_5 rfl (lv_at hl 0 rfl) ?_
      refine va_get (D := κ.1) (ci := 3) (v := .int (zI s3 this 6)) (C := RX3) (T := TX3) (N := 8) hx hb hg inX3 hown hK (hT.o6 (hT.k t_this (by decide))).one 0 rfl rfl 6 (by decide) (hg _ k128) (fun _ h9 => h9) rfl dX3_passDigits_6 ?_
      rw [kthis_6]
      refine lv_aload_n hx hb dX3_passDigits_9 rfl (lv_at hl 0 rfl) ?_
      obtain ⟨v5, ev5⟩ : ∃ zz9 : Int32, zI σ0 this 1 = zz9 := ⟨_, rfl⟩
      have qv5 : v5.toInt = (zI σ0 this 1).toInt := by rw [ev5]
      have b6 := (hT.P (hT.k t_this (by decide)) (by decide)).1
      rw [(hT.eI t_this (by decide) rfl ev5)] at b6
      have b6l := b6.1
      have b6h := b6.2
      refine va_get (D := κ.1) (ci := 3) (v := .int (zI s3 this 1)) (C := RX3) (T := TX3) (N := 8) hx hb hg inX3 hown hK (hT.o6 (hT.k t_this (by decide))).one 0 rfl rfl 1 (by decide) (hg _ k120) (fun _ h9 => h9) rfl dX3_passDigits_10 ?_
      rw [(hT.eI t_this (by decide) rfl ev5)]
      refine lv_icmp_ge (tgt := 68) hx hb dX3_passDigits_13 (by decide) (fun c9 => ?_) (fun c9 => ?_)
      · have c1 := gi_le c9
        subst hQ9
        exact t_v hx hb hr hlocks hT trivial dX3_passDigits_68
      · have c2 := gi_nle c9
        refine lv_aload_n hx hb dX3_passDigits_16 rfl (lv_at hl 0 rfl) ?_
        obtain ⟨r7, er7⟩ : ∃ z, kR κ this 0 = z := ⟨_, rfl⟩
        have tr7 : zk σ0 r7 14 := by rw [← er7]; exact hT0.ref t_this (by decide) (by decide) (by decide)
        refine va_get (D := κ.1) (ci := 3) (v := .ref (kR κ this 0)) (C := RX3) (T := TX3) (N := 8) hx hb hg inX3 hown hK (hT.o6 (hT.k t_this (by decide))).one 0 rfl rfl 0 (by decide) (hg _ k119) (fun _ h9 => h9) rfl dX3_passDigits_17 ?_
        rw [er7]
        refine lv_aload_n hx hb dX3_passDigits_20 rfl (lv_at hl 0 rfl) ?_
        refine va_get (D := κ.1) (ci := 3) (v := .int (zI s3 this 6)) (C := RX3) (T := TX3) (N := 8) hx hb hg inX3 hown hK (hT.o6 (hT.k t_this (by decide))).one 0 rfl rfl 6 (by decide) (hg _ k128) (fun _ h9 => h9) rfl dX3_passDigits_21 ?_
        rw [kthis_6]
        refine va_bald hx hb hK (hT.o14 (hT.k tr7 (by decide))).one 0 2 rfl rfl (g_in (by omega) (by omega)) dX3_passDigits_24 ?_
        refine lv_topi (fun t8 ht8 => ?_)
        have hTo := hT
        refine tSi (n := 1) (As := [.int t8]) (rest := []) hx hb hml hown hg hT hK hX (X3_isDigit l κ s3 t8   ) sub_fE_fP (mwS k708 k709 k85 k710) ⟨rfl, by decide, by decide, by decide +kernel⟩ ⟨(Nat.le_of_ble_eq_true rfl), (Nat.le_of_ble_eq_true rfl)⟩ rfl hl.1 rfl (Nat.le_of_ble_eq_true rfl) dX3_passDigits_25 zroom.rf (fun x9 s10 H locs hφ hEs10 hT => ?_)
        have kthis_6 : zI s10 this 6 = u := ((hTo.k t_this (by decide)).eI hEs10 (by decide) rfl).trans kthis_6
        have f11 := hφ
        refine lv_if_eq (tgt := 68) hx hb dX3_passDigits_28 (by decide) (fun c9 => ?_) (fun c9 => ?_)
        · have c3 := gi_eq c9
          subst hQ9
          exact t_v hx hb hr hlocks hT trivial dX3_passDigits_68
        · have c4 := gi_ne c9
          refine lv_aload_n hx hb dX3_passDigits_31 rfl (lv_at hl 0 rfl) ?_
          refine lv_aload_n hx hb dX3_passDigits_32 rfl (lv_at hl 0 rfl) ?_
          obtain ⟨v12, ev12⟩ : ∃ zz9 : Int32, zI s10 this 7 = zz9 := ⟨_, rfl⟩
          have qv12 : v12.toInt = (zI s10 this 7).toInt := by rw [ev12]
          refine va_get (D := κ.1) (ci := 3) (v := .int (zI s10 this 7)) (C := RX3) (T := TX3) (N := 8) hx hb hg inX3 hown hK (hT.o6 (hT.k t_this (by decide))).one 0 rfl rfl 7 (by decide) (hg _ k129) (fun _ h9 => h9) rfl dX3_passDigits_33 ?_
          rw [ev12]
          refine lv_bipush (v := 10) hx hb dX3_passDigits_36 (by decide) ?_
          refine lv_imul hx hb dX3_passDigits_38 ?_
          first | (refine g_mul (by rw [n10]; omega) (by rw [n10]; omega) (fun t13 ht13 => ?_); rw [n10] at ht13) | refine lv_topi (fun t13 ht13 => ?_)
          refine lv_aload_n hx hb dX3_passDigits_39 rfl (lv_at hl 0 rfl) ?_
          refine va_get (D := κ.1) (ci := 3) (v := .ref (kR κ this 0)) (C := RX3) (T := TX3) (N := 8) hx hb hg inX3 hown hK (hT.o6 (hT.k t_this (by decide))).one 0 rfl rfl 0 (by decide) (hg _ k119) (fun _ h9 => h9) rfl dX3_passDigits_40 ?_
          rw [er7]
          refine lv_aload_n hx hb dX3_passDigits_43 rfl (lv_at hl 0 rfl) ?_
          refine va_get (D := κ.1) (ci := 3) (v := .int (zI s10 this 6)) (C := RX3) (T := TX3) (N := 8) hx hb hg inX3 hown hK (hT.o6 (hT.k t_this (by decide))).one 0 rfl rfl 6 (by decide) (hg _ k128) (fun _ h9 => h9) rfl dX3_passDigits_44 ?_
          rw [kthis_6]
          refine va_bald hx hb hK (hT.o14 (hT.k tr7 (by decide))).one 0 2 rfl rfl (g_in (by omega) (by omega)) dX3_passDigits_47 ?_
          refine lv_topi (fun t14 ht14 => ?_)
          refine lv_bipush (v := 48) hx hb dX3_passDigits_48 (by decide) ?_
          refine lv_isub hx hb dX3_passDigits_50 ?_
          first | refine g_sub (by omega) (by omega) (fun t15 ht15 => ?_) | refine lv_topi (fun t15 ht15 => ?_)
          refine lv_iadd hx hb dX3_passDigits_51 ?_
          first | refine g_add (by omega) (by omega) (fun t16 ht16 => ?_) | refine lv_topi (fun t16 ht16 => ?_)
          have hTo := hT
          refine pf6_7 hx hb hg hown hK hT (hT.k t_this (by decide)) rfl (hg _ k129) dX3_passDigits_52 (fun H locs s17 hus17 hT => ?_)
          have kthis_6 : zI s17 this 6 = u := (zput_o hus17 (Or.inr (by decide))).trans kthis_6
          have e18 : zI s17 this 7 = t16 := zput_at hus17
          refine lv_aload_n hx hb dX3_passDigits_55 rfl (lv_at hl 0 rfl) ?_
          refine lv_dup hx hb dX3_passDigits_56 rfl ?_
          refine va_get (D := κ.1) (ci := 3) (v := .int (zI s17 this 6)) (C := RX3) (T := TX3) (N := 8) hx hb hg inX3 hown hK (hT.o6 (hT.k t_this (by decide))).one 0 rfl rfl 6 (by decide) (hg _ k128) (fun _ h9 => h9) rfl dX3_passDigits_57 ?_
          rw [kthis_6]
          refine lv_iconst (v := 1) hx hb dX3_passDigits_60 (by decide) ?_
          refine lv_iadd hx hb dX3_passDigits_61 ?_
          first | refine g_add (by omega) (by omega) (fun t19 ht19 => ?_) | refine lv_topi (fun t19 ht19 => ?_)
          have hTo := hT
          refine pf6_6 hx hb hg hown hK hT (hT.k t_this (by decide)) rfl ⟨by omega, by omega⟩ (hg _ k128) dX3_passDigits_62 (fun H locs s20 hus20 hT => ?_)
          have e18 : zI s20 this 7 = t16 := (zput_o hus20 (Or.inr (by decide))).trans e18
          have e21 : zI s20 this 6 = t19 := zput_at hus20
          refine lv_goto (tgt := 5) hx hb dX3_passDigits_65 (by decide) ?_
          exact ih5 t19 _ _ _ _ hT e21 (by omega) hl (by omega)
  obtain ⟨v22, ev22⟩ : ∃ zz9 : Int32, zI s1 this 6 = zz9 := ⟨_, rfl⟩
  have qv22 : v22.toInt = (zI s1 this 6).toInt := by rw [ev22]
  have b23 := (hT.P (hT.k t_this (by decide)) (by decide)).2.2
  rw [ev22] at b23
  have b23l := b23.1
  have b23h := b23.2
  exact loop5 ((700 - v22.toInt).toNat + 1) v22 _ _ _ _ hT ev22 (by omega) hl (by omega)
set_option maxHeartbeats 4000000 in
set_option maxRecDepth 100000 in
theorem X3_pass (l : Launch) (κ : Kt) (σ0 : Gh) (this : Nat) (t_this : zk σ0 this 6) : TC l yX3_pass cX3_pass 1 (some .boolean) 2 40 [.ref this] κ σ0 (tqi κ fP σ0 (fun (r : Int32) (τ : Gh) => (isB r))) := by
  refine TC.of fP (by decide +kernel) (Nat.le_of_ble_eq_true rfl) ?_
  intro p e s m below meth c ls hcs hK hX hT hl
  obtain ⟨hx, hb, hr, hml, hown, hg, hlocks, hin⟩ := hcs
  have hown : s.vm.findClass RX3 = some m.cls := hown
  have hl : lv_has ls 1 [(0, .ref this)] := hl
  have hT0 := hT
  have n0 : (0 : Int32).toInt = 0 := by decide
  have n1 : (1 : Int32).toInt = 1 := by decide
  have n2 : (2 : Int32).toInt = 2 := by decide
  have n3 : (3 : Int32).toInt = 3 := by decide
  have n4 : (4 : Int32).toInt = 4 := by decide
  have n5 : (5 : Int32).toInt = 5 := by decide
  have n10 : (10 : Int32).toInt = 10 := by decide
  have n32 : (32 : Int32).toInt = 32 := by decide
  have n45 : (45 : Int32).toInt = 45 := by decide
  have n59 : (59 : Int32).toInt = 59 := by decide
  generalize hQ9 : tQ _ _ _ _ _ _ = Q9
  refine lv_aload_n hx hb dX3_pass_0 rfl (lv_at hl 0 rfl) ?_
  refine lv_aload_n hx hb dX3_pass_1 rfl (lv_at hl 0 rfl) ?_
  obtain ⟨v1, ev1⟩ : ∃ zz9 : Int32, zI σ0 this 6 = zz9 := ⟨_, rfl⟩
  have qv1 : v1.toInt = (zI σ0 this 6).toInt := by rw [ev1]
  have b2 := (hT.P (hT.k t_this (by decide)) (by decide)).2.2
  rw [ev1] at b2
  have b2l := b2.1
  have b2h := b2.2
  refine va_get (D := κ.1) (ci := 3) (v := .int (zI σ0 this 6)) (C := RX3) (T := TX3) (N := 8) hx hb hg inX3 hown hK (hT.o6 (hT.k t_this (by decide))).one 0 rfl rfl 6 (by decide) (hg _ k128) (fun _ h9 => h9) rfl dX3_pass_2 ?_
  rw [ev1]
  have hTo := hT
  refine pf6_5 hx hb hg hown hK hT (hT.k t_this (by decide)) rfl ⟨by omega, by omega⟩ (hg _ k127) dX3_pass_5 (fun H locs s3 hus3 hT => ?_)
  have ev1 : zI s3 this 6 = v1 := (zput_o hus3 (Or.inr (by decide))).trans ev1
  have e4 : zI s3 this 5 = v1 := zput_at hus3
  have loop8 : ∀ (n9 : Nat)  (u : Int32) (H : Heap) (locs : List Loc) (sg : Gh) (ls : Array Slot), TS κ fP σ0 sg s H locs → (zI sg this 5 = u) → (u.toInt ≤ 700) → lv_has ls 1 [(0, .ref this)] → (700 - u.toInt) < n9 → tW p l e 2 40 κ s m #[.ref this] below meth c H locs Q9 (F0 m 8 ls []) := by
    intro n9
    induction n9 with
    | zero =>
      intro u H locs sg ls hT kthis_5 q1 hl hm9
      exfalso
      omega
    | succ n9 ih9 =>
      have ih8 := ih9
      clear ih9
      intro u H locs s5 ls hT kthis_5 q1 hl hm9
      have b6 := (hT.P (hT.k t_this (by decide)) (by decide)).2.1
      rw [kthis_5] at b6
      have b6l := b6.1
      have b6h := b6.2
      refine lv_aload_n hx hb dX3_pass_8 rfl (lv_at hl 0 rfl) ?_
      refine va_get (D := κ.1) (ci := 3) (v := .int (zI s5 this 5)) (C := RX3) (T := TX3) (N := 8) hx hb hg inX3 hown hK (hT.o6 (hT.k t_this (by decide))).one 0 rfl rfl 5 (by decide) (hg _ k127) (fun _ h9 => h9) rfl dX3_pass_9 ?_
      rw [kthis_5]
      refine lv_aload_n hx hb dX3_pass_12 rfl (lv_at hl 0 rfl) ?_
      obtain ⟨v7, ev7⟩ : ∃ zz9 : Int32, zI σ0 this 1 = zz9 := ⟨_, rfl⟩
      have qv7 : v7.toInt = (zI σ0 this 1).toInt := by rw [ev7]
      have b8 := (hT.P (hT.k t_this (by decide)) (by decide)).1
      rw [(hT.eI t_this (by decide) rfl ev7)] at b8
      have b8l := b8.1
      have b8h := b8.2
      refine va_get (D := κ.1) (ci := 3) (v := .int (zI s5 this 1)) (C := RX3) (T := TX3) (N := 8) hx hb hg inX3 hown hK (hT.o6 (hT.k t_this (by decide))).one 0 rfl rfl 1 (by decide) (hg _ k120) (fun _ h9 => h9) rfl dX3_pass_13 ?_
      rw [(hT.eI t_this (by decide) rfl ev7)]
      refine lv_icmp_ge (tgt := 60) hx hb dX3_pass_16 (by decide) (fun c9 => ?_) (fun c9 => ?_)
      · have c1 := gi_le c9
        refine lv_aload_n hx hb dX3_pass_60 rfl (lv_at hl 0 rfl) ?_
        refine lv_aload_n hx hb dX3_pass_61 rfl (lv_at hl 0 rfl) ?_
        refine va_get (D := κ.1) (ci := 3) (v := .int (zI s5 this 5)) (C := RX3) (T := TX3) (N := 8) hx hb hg inX3 hown hK (hT.o6 (hT.k t_this (by decide))).one 0 rfl rfl 5 (by decide) (hg _ k127) (fun _ h9 => h9) rfl dX3_pass_62 ?_
        rw [kthis_5]
        have hTo := hT
        refine pf6_6 hx hb hg hown hK hT (hT.k t_this (by decide)) rfl ⟨by omega, by omega⟩ (hg _ k128) dX3_pass_65 (fun H locs s9 hus9 hT => ?_)
        have kthis_5 : zI s9 this 5 = u := (zput_o hus9 (Or.inr (by decide))).trans kthis_5
        have e10 : zI s9 this 6 = u := zput_at hus9
        refine lv_aload_n hx hb dX3_pass_68 rfl (lv_at hl 0 rfl) ?_
        refine va_get (D := κ.1) (ci := 3) (v := .int (zI s9 this 5)) (C := RX3) (T := TX3) (N := 8) hx hb hg inX3 hown hK (hT.o6 (hT.k t_this (by decide))).one 0 rfl rfl 5 (by decide) (hg _ k127) (fun _ h9 => h9) rfl dX3_pass_69 ?_
        rw [kthis_5]
        refine lv_aload_n hx hb dX3_pass_72 rfl (lv_at hl 0 rfl) ?_
        refine va_get (D := κ.1) (ci := 3) (v := .int (zI s9 this 1)) (C := RX3) (T := TX3) (N := 8) hx hb hg inX3 hown hK (hT.o6 (hT.k t_this (by decide))).one 0 rfl rfl 1 (by decide) (hg _ k120) (fun _ h9 => h9) rfl dX3_pass_73 ?_
        rw [(hT.eI t_this (by decide) rfl ev7)]
        refine lv_icmp_lt (tgt := 87) hx hb dX3_pass_76 (by decide) (fun c9 => ?_) (fun c9 => ?_)
        · have c2 := gi_lt c9
          refine lv_aload_n hx hb dX3_pass_87 rfl (lv_at hl 0 rfl) ?_
          obtain ⟨r11, er11⟩ : ∃ z, kR κ this 0 = z := ⟨_, rfl⟩
          have tr11 : zk σ0 r11 14 := by rw [← er11]; exact hT0.ref t_this (by decide) (by decide) (by decide)
          refine va_get (D := κ.1) (ci := 3) (v := .ref (kR κ this 0)) (C := RX3) (T := TX3) (N := 8) hx hb hg inX3 hown hK (hT.o6 (hT.k t_this (by decide))).one 0 rfl rfl 0 (by decide) (hg _ k119) (fun _ h9 => h9) rfl dX3_pass_88 ?_
          rw [er11]
          refine lv_aload_n hx hb dX3_pass_91 rfl (lv_at hl 0 rfl) ?_
          refine va_get (D := κ.1) (ci := 3) (v := .int (zI s9 this 5)) (C := RX3) (T := TX3) (N := 8) hx hb hg inX3 hown hK (hT.o6 (hT.k t_this (by decide))).one 0 rfl rfl 5 (by decide) (hg _ k127) (fun _ h9 => h9) rfl dX3_pass_92 ?_
          rw [kthis_5]
          refine va_bald hx hb hK (hT.o14 (hT.k tr11 (by decide))).one 0 2 rfl rfl (g_in (by omega) (by omega)) dX3_pass_95 ?_
          refine lv_topi (fun t12 ht12 => ?_)
          have hTo := hT
          refine tSi (n := 1) (As := [.int t12]) (rest := []) hx hb hml hown hg hT hK hX (X3_isLetter l κ s9 t12   ) sub_fE_fP (mwS k701 k702 k85 k703) ⟨rfl, by decide, by decide, by decide +kernel⟩ ⟨(Nat.le_of_ble_eq_true rfl), (Nat.le_of_ble_eq_true rfl)⟩ rfl hl.1 rfl (Nat.le_of_ble_eq_true rfl) dX3_pass_96 zroom.rf (fun x13 s14 H locs hφ hEs14 hT => ?_)
          have kthis_5 : zI s14 this 5 = u := ((hTo.k t_this (by decide)).eI hEs14 (by decide) rfl).trans kthis_5
          have e10 : zI s14 this 6 = u := ((hTo.k t_this (by decide)).eI hEs14 (by decide) rfl).trans e10
          have f15 := hφ
          refine lv_if_eq (tgt := 114) hx hb dX3_pass_99 (by decide) (fun c9 => ?_) (fun c9 => ?_)
          · have c3 := gi_eq c9
            refine lv_aload_n hx hb dX3_pass_114 rfl (lv_at hl 0 rfl) ?_
            refine va_get (D := κ.1) (ci := 3) (v := .ref (kR κ this 0)) (C := RX3) (T := TX3) (N := 8) hx hb hg inX3 hown hK (hT.o6 (hT.k t_this (by decide))).one 0 rfl rfl 0 (by decide) (hg _ k119) (fun _ h9 => h9) rfl dX3_pass_115 ?_
            rw [er11]
            refine lv_aload_n hx hb dX3_pass_118 rfl (lv_at hl 0 rfl) ?_
            refine va_get (D := κ.1) (ci := 3) (v := .int (zI s14 this 5)) (C := RX3) (T := TX3) (N := 8) hx hb hg inX3 hown hK (hT.o6 (hT.k t_this (by decide))).one 0 rfl rfl 5 (by decide) (hg _ k127) (fun _ h9 => h9) rfl dX3_pass_119 ?_
            rw [kthis_5]
            refine va_bald hx hb hK (hT.o14 (hT.k tr11 (by decide))).one 0 2 rfl rfl (g_in (by omega) (by omega)) dX3_pass_122 ?_
            refine lv_topi (fun t16 ht16 => ?_)
            have hTo := hT
            refine tSi (n := 1) (As := [.int t16]) (rest := []) hx hb hml hown hg hT hK hX (X3_isDigit l κ s14 t16   ) sub_fE_fP (mwS k708 k709 k85 k710) ⟨rfl, by decide, by decide, by decide +kernel⟩ ⟨(Nat.le_of_ble_eq_true rfl), (Nat.le_of_ble_eq_true rfl)⟩ rfl hl.1 rfl (Nat.le_of_ble_eq_true rfl) dX3_pass_123 zroom.rf (fun x17 s18 H locs hφ hEs18 hT => ?_)
            have kthis_5 : zI s18 this 5 = u := ((hTo.k t_this (by decide)).eI hEs18 (by decide) rfl).trans kthis_5
            have e10 : zI s18 this 6 = u := ((hTo.k t_this (by decide)).eI hEs18 (by decide) rfl).trans e10
            have f19 := hφ
            refine lv_if_eq (tgt := 158) hx hb dX3_pass_126 (by decide) (fun c9 => ?_) (fun c9 => ?_)
            · have c4 := gi_eq c9
              refine lv_aload_n hx hb dX3_pass_158 rfl (lv_at hl 0 rfl) ?_
              refine lv_aload_n hx hb dX3_pass_159 rfl (lv_at hl 0 rfl) ?_
              refine va_get (D := κ.1) (ci := 3) (v := .ref (kR κ this 0)) (C := RX3) (T := TX3) (N := 8) hx hb hg inX3 hown hK (hT.o6 (hT.k t_this (by decide))).one 0 rfl rfl 0 (by decide) (hg _ k119) (fun _ h9 => h9) rfl dX3_pass_160 ?_
              rw [er11]
              refine lv_aload_n hx hb dX3_pass_163 rfl (lv_at hl 0 rfl) ?_
              refine va_get (D := κ.1) (ci := 3) (v := .int (zI s18 this 5)) (C := RX3) (T := TX3) (N := 8) hx hb hg inX3 hown hK (hT.o6 (hT.k t_this (by decide))).one 0 rfl rfl 5 (by decide) (hg _ k127) (fun _ h9 => h9) rfl dX3_pass_164 ?_
              rw [kthis_5]
              refine va_bald hx hb hK (hT.o14 (hT.k tr11 (by decide))).one 0 2 rfl rfl (g_in (by omega) (by omega)) dX3_pass_167 ?_
              refine lv_topi (fun t20 ht20 => ?_)
              refine lv_bipush (v := 59) hx hb dX3_pass_168 (by decide) ?_
              refine lv_icmp_ne (tgt := 177) hx hb dX3_pass_170 (by decide) (fun c9 => ?_) (fun c9 => ?_)
              · have c5 := gi_ne c9
                refine lv_aload_n hx hb dX3_pass_177 rfl (lv_at hl 0 rfl) ?_
                refine va_get (D := κ.1) (ci := 3) (v := .ref (kR κ this 0)) (C := RX3) (T := TX3) (N := 8) hx hb hg inX3 hown hK (hT.o6 (hT.k t_this (by decide))).one 0 rfl rfl 0 (by decide) (hg _ k119) (fun _ h9 => h9) rfl dX3_pass_178 ?_
                rw [er11]
                refine lv_aload_n hx hb dX3_pass_181 rfl (lv_at hl 0 rfl) ?_
                refine va_get (D := κ.1) (ci := 3) (v := .int (zI s18 this 5)) (C := RX3) (T := TX3) (N := 8) hx hb hg inX3 hown hK (hT.o6 (hT.k t_this (by decide))).one 0 rfl rfl 5 (by decide) (hg _ k127) (fun _ h9 => h9) rfl dX3_pass_182 ?_
                rw [kthis_5]
                refine va_bald hx hb hK (hT.o14 (hT.k tr11 (by decide))).one 0 2 rfl rfl (g_in (by omega) (by omega)) dX3_pass_185 ?_
                refine lv_topi (fun t21 ht21 => ?_)
                refine lv_bipush (v := 45) hx hb dX3_pass_186 (by decide) ?_
                refine lv_icmp_ne (tgt := 195) hx hb dX3_pass_188 (by decide) (fun c9 => ?_) (fun c9 => ?_)
                · have c6 := gi_ne c9
                  refine lv_iconst (v := 5) hx hb dX3_pass_195 (by decide) ?_
                  have hTo := hT
                  refine pf6_4 hx hb hg hown hK hT (hT.k t_this (by decide)) rfl (hg _ k126) dX3_pass_196 (fun H locs s22 hus22 hT => ?_)
                  have kthis_5 : zI s22 this 5 = u := (zput_o hus22 (Or.inr (by decide))).trans kthis_5
                  have e10 : zI s22 this 6 = u := (zput_o hus22 (Or.inr (by decide))).trans e10
                  have e23 : zI s22 this 4 = 5 := zput_at hus22
                  refine lv_aload_n hx hb dX3_pass_199 rfl (lv_at hl 0 rfl) ?_
                  refine lv_dup hx hb dX3_pass_200 rfl ?_
                  refine va_get (D := κ.1) (ci := 3) (v := .int (zI s22 this 6)) (C := RX3) (T := TX3) (N := 8) hx hb hg inX3 hown hK (hT.o6 (hT.k t_this (by decide))).one 0 rfl rfl 6 (by decide) (hg _ k128) (fun _ h9 => h9) rfl dX3_pass_201 ?_
                  rw [e10]
                  refine lv_iconst (v := 1) hx hb dX3_pass_204 (by decide) ?_
                  refine lv_iadd hx hb dX3_pass_205 ?_
                  first | refine g_add (by omega) (by omega) (fun t24 ht24 => ?_) | refine lv_topi (fun t24 ht24 => ?_)
                  have hTo := hT
                  refine pf6_6 hx hb hg hown hK hT (hT.k t_this (by decide)) rfl ⟨by omega, by omega⟩ (hg _ k128) dX3_pass_206 (fun H locs s25 hus25 hT => ?_)
                  have kthis_5 : zI s25 this 5 = u := (zput_o hus25 (Or.inr (by decide))).trans kthis_5
                  have e23 : zI s25 this 4 = 5 := (zput_o hus25 (Or.inr (by decide))).trans e23
                  have e26 : zI s25 this 6 = t24 := zput_at hus25
                  refine lv_iconst (v := 1) hx hb dX3_pass_209 (by decide) ?_
                  subst hQ9
                  exact t_z hx hb hr isB1 hlocks hT isB1 dX3_pass_210
                · have c7 := gi_eq c9
                  refine lv_iconst (v := 4) hx hb dX3_pass_191 (by decide) ?_
                  refine lv_goto (tgt := 196) hx hb dX3_pass_192 (by decide) ?_
                  have hTo := hT
                  refine pf6_4 hx hb hg hown hK hT (hT.k t_this (by decide)) rfl (hg _ k126) dX3_pass_196 (fun H locs s27 hus27 hT => ?_)
                  have kthis_5 : zI s27 this 5 = u := (zput_o hus27 (Or.inr (by decide))).trans kthis_5
                  have e10 : zI s27 this 6 = u := (zput_o hus27 (Or.inr (by decide))).trans e10
                  have e28 : zI s27 this 4 = 4 := zput_at hus27
                  refine lv_aload_n hx hb dX3_pass_199 rfl (lv_at hl 0 rfl) ?_
                  refine lv_dup hx hb dX3_pass_200 rfl ?_
                  refine va_get (D := κ.1) (ci := 3) (v := .int (zI s27 this 6)) (C := RX3) (T := TX3) (N := 8) hx hb hg inX3 hown hK (hT.o6 (hT.k t_this (by decide))).one 0 rfl rfl 6 (by decide) (hg _ k128) (fun _ h9 => h9) rfl dX3_pass_201 ?_
                  rw [e10]
                  refine lv_iconst (v := 1) hx hb dX3_pass_204 (by decide) ?_
                  refine lv_iadd hx hb dX3_pass_205 ?_
                  first | refine g_add (by omega) (by omega) (fun t29 ht29 => ?_) | refine lv_topi (fun t29 ht29 => ?_)
                  have hTo := hT
                  refine pf6_6 hx hb hg hown hK hT (hT.k t_this (by decide)) rfl ⟨by omega, by omega⟩ (hg _ k128) dX3_pass_206 (fun H locs s30 hus30 hT => ?_)
                  have kthis_5 : zI s30 this 5 = u := (zput_o hus30 (Or.inr (by decide))).trans kthis_5
                  have e28 : zI s30 this 4 = 4 := (zput_o hus30 (Or.inr (by decide))).trans e28
                  have e31 : zI s30 this 6 = t29 := zput_at hus30
                  refine lv_iconst (v := 1) hx hb dX3_pass_209 (by decide) ?_
                  subst hQ9
                  exact t_z hx hb hr isB1 hlocks hT isB1 dX3_pass_210
              · have c8 := gi_eq c9
                refine lv_iconst (v := 3) hx hb dX3_pass_173 (by decide) ?_
                refine lv_goto (tgt := 196) hx hb dX3_pass_174 (by decide) ?_
                have hTo := hT
                refine pf6_4 hx hb hg hown hK hT (hT.k t_this (by decide)) rfl (hg _ k126) dX3_pass_196 (fun H locs s32 hus32 hT => ?_)
                have kthis_5 : zI s32 this 5 = u := (zput_o hus32 (Or.inr (by decide))).trans kthis_5
                have e10 : zI s32 this 6 = u := (zput_o hus32 (Or.inr (by decide))).trans e10
                have e33 : zI s32 this 4 = 3 := zput_at hus32
                refine lv_aload_n hx hb dX3_pass_199 rfl (lv_at hl 0 rfl) ?_
                refine lv_dup hx hb dX3_pass_200 rfl ?_
                refine va_get (D := κ.1) (ci := 3) (v := .int (zI s32 this 6)) (C := RX3) (T := TX3) (N := 8) hx hb hg inX3 hown hK (hT.o6 (hT.k t_this (by decide))).one 0 rfl rfl 6 (by decide) (hg _ k128) (fun _ h9 => h9) rfl dX3_pass_201 ?_
                rw [e10]
                refine lv_iconst (v := 1) hx hb dX3_pass_204 (by decide) ?_
                refine lv_iadd hx hb dX3_pass_205 ?_
                first | refine g_add (by omega) (by omega) (fun t34 ht34 => ?_) | refine lv_topi (fun t34 ht34 => ?_)
                have hTo := hT
                refine pf6_6 hx hb hg hown hK hT (hT.k t_this (by decide)) rfl ⟨by omega, by omega⟩ (hg _ k128) dX3_pass_206 (fun H locs s35 hus35 hT => ?_)
                have kthis_5 : zI s35 this 5 = u := (zput_o hus35 (Or.inr (by decide))).trans kthis_5
                have e33 : zI s35 this 4 = 3 := (zput_o hus35 (Or.inr (by decide))).trans e33
                have e36 : zI s35 this 6 = t34 := zput_at hus35
                refine lv_iconst (v := 1) hx hb dX3_pass_209 (by decide) ?_
                subst hQ9
                exact t_z hx hb hr isB1 hlocks hT isB1 dX3_pass_210
            · have c9 := gi_ne c9
              refine lv_aload_n hx hb dX3_pass_129 rfl (lv_at hl 0 rfl) ?_
              have hTo := hT
              refine tVv (n := 0) (As := []) (rest := []) hx hb hml hown hg hT hK hX (X3_passDigits l κ s18 this  (hT.k t_this (by decide)) ) (fun _ _ h => h) (mwV k711 k713 k19 k85 k714) ⟨rfl, by decide, by decide, by decide +kernel⟩ ⟨(Nat.le_of_ble_eq_true rfl), (Nat.le_of_ble_eq_true rfl)⟩ (hT.o6 (hT.k t_this (by decide))) rfl rfl hl.1 rfl (Nat.le_of_ble_eq_true rfl) dX3_pass_130 zroom.rf (fun s38 H locs hφ hEs38 hT => ?_)
              refine lv_aload_n hx hb dX3_pass_133 rfl (lv_at hl 0 rfl) ?_
              refine lv_aload_n hx hb dX3_pass_134 rfl (lv_at hl 0 rfl) ?_
              obtain ⟨v39, ev39⟩ : ∃ zz9 : Int32, zI s38 this 6 = zz9 := ⟨_, rfl⟩
              have qv39 : v39.toInt = (zI s38 this 6).toInt := by rw [ev39]
              have b40 := (hT.P (hT.k t_this (by decide)) (by decide)).2.2
              rw [ev39] at b40
              have b40l := b40.1
              have b40h := b40.2
              refine va_get (D := κ.1) (ci := 3) (v := .int (zI s38 this 6)) (C := RX3) (T := TX3) (N := 8) hx hb hg inX3 hown hK (hT.o6 (hT.k t_this (by decide))).one 0 rfl rfl 6 (by decide) (hg _ k128) (fun _ h9 => h9) rfl dX3_pass_135 ?_
              rw [ev39]
              refine lv_aload_n hx hb dX3_pass_138 rfl (lv_at hl 0 rfl) ?_
              obtain ⟨v41, ev41⟩ : ∃ zz9 : Int32, zI s38 this 5 = zz9 := ⟨_, rfl⟩
              have qv41 : v41.toInt = (zI s38 this 5).toInt := by rw [ev41]
              have b42 := (hT.P (hT.k t_this (by decide)) (by decide)).2.1
              rw [ev41] at b42
              have b42l := b42.1
              have b42h := b42.2
              refine va_get (D := κ.1) (ci := 3) (v := .int (zI s38 this 5)) (C := RX3) (T := TX3) (N := 8) hx hb hg inX3 hown hK (hT.o6 (hT.k t_this (by decide))).one 0 rfl rfl 5 (by decide) (hg _ k127) (fun _ h9 => h9) rfl dX3_pass_139 ?_
              rw [ev41]
              refine lv_isub hx hb dX3_pass_142 ?_
              first | refine g_sub (by omega) (by omega) (fun t43 ht43 => ?_) | refine lv_topi (fun t43 ht43 => ?_)
              refine lv_iconst (v := 4) hx hb dX3_pass_143 (by decide) ?_
              refine lv_icmp_gt (tgt := 151) hx hb dX3_pass_144 (by decide) (fun c9 => ?_) (fun c9 => ?_)
              · have c10 := gi_lt c9
                refine lv_iconst (v := 5) hx hb dX3_pass_151 (by decide) ?_
                have hTo := hT
                refine pf6_4 hx hb hg hown hK hT (hT.k t_this (by decide)) rfl (hg _ k126) dX3_pass_152 (fun H locs s44 hus44 hT => ?_)
                have ev39 : zI s44 this 6 = v39 := (zput_o hus44 (Or.inr (by decide))).trans ev39
                have ev41 : zI s44 this 5 = v41 := (zput_o hus44 (Or.inr (by decide))).trans ev41
                have e45 : zI s44 this 4 = 5 := zput_at hus44
                refine lv_goto (tgt := 209) hx hb dX3_pass_155 (by decide) ?_
                refine lv_iconst (v := 1) hx hb dX3_pass_209 (by decide) ?_
                subst hQ9
                exact t_z hx hb hr isB1 hlocks hT isB1 dX3_pass_210
              · have c11 := gi_nlt c9
                refine lv_iconst (v := 2) hx hb dX3_pass_147 (by decide) ?_
                refine lv_goto (tgt := 152) hx hb dX3_pass_148 (by decide) ?_
                have hTo := hT
                refine pf6_4 hx hb hg hown hK hT (hT.k t_this (by decide)) rfl (hg _ k126) dX3_pass_152 (fun H locs s46 hus46 hT => ?_)
                have ev39 : zI s46 this 6 = v39 := (zput_o hus46 (Or.inr (by decide))).trans ev39
                have ev41 : zI s46 this 5 = v41 := (zput_o hus46 (Or.inr (by decide))).trans ev41
                have e47 : zI s46 this 4 = 2 := zput_at hus46
                refine lv_goto (tgt := 209) hx hb dX3_pass_155 (by decide) ?_
                refine lv_iconst (v := 1) hx hb dX3_pass_209 (by decide) ?_
                subst hQ9
                exact t_z hx hb hr isB1 hlocks hT isB1 dX3_pass_210
          · have c12 := gi_ne c9
            refine lv_aload_n hx hb dX3_pass_102 rfl (lv_at hl 0 rfl) ?_
            refine lv_iconst (v := 1) hx hb dX3_pass_103 (by decide) ?_
            have hTo := hT
            refine pf6_4 hx hb hg hown hK hT (hT.k t_this (by decide)) rfl (hg _ k126) dX3_pass_104 (fun H locs s48 hus48 hT => ?_)
            have kthis_5 : zI s48 this 5 = u := (zput_o hus48 (Or.inr (by decide))).trans kthis_5
            have e10 : zI s48 this 6 = u := (zput_o hus48 (Or.inr (by decide))).trans e10
            have e49 : zI s48 this 4 = 1 := zput_at hus48
            refine lv_aload_n hx hb dX3_pass_107 rfl (lv_at hl 0 rfl) ?_
            have hTo := hT
            refine tVv (n := 0) (As := []) (rest := []) hx hb hml hown hg hT hK hX (X3_passLetters l κ s48 this  (hT.k t_this (by decide)) ) (fun _ _ h => h) (mwV k704 k706 k18 k85 k707) ⟨rfl, by decide, by decide, by decide +kernel⟩ ⟨(Nat.le_of_ble_eq_true rfl), (Nat.le_of_ble_eq_true rfl)⟩ (hT.o6 (hT.k t_this (by decide))) rfl rfl hl.1 rfl (Nat.le_of_ble_eq_true rfl) dX3_pass_108 zroom.rf (fun s51 H locs hφ hEs51 hT => ?_)
            refine lv_goto (tgt := 209) hx hb dX3_pass_111 (by decide) ?_
            refine lv_iconst (v := 1) hx hb dX3_pass_209 (by decide) ?_
            subst hQ9
            exact t_z hx hb hr isB1 hlocks hT isB1 dX3_pass_210
        · have c13 := gi_nlt c9
          refine lv_aload_n hx hb dX3_pass_79 rfl (lv_at hl 0 rfl) ?_
          refine lv_iconst (v := 0) hx hb dX3_pass_80 (by decide) ?_
          have hTo := hT
          refine pf6_4 hx hb hg hown hK hT (hT.k t_this (by decide)) rfl (hg _ k126) dX3_pass_81 (fun H locs s52 hus52 hT => ?_)
          have kthis_5 : zI s52 this 5 = u := (zput_o hus52 (Or.inr (by decide))).trans kthis_5
          have e10 : zI s52 this 6 = u := (zput_o hus52 (Or.inr (by decide))).trans e10
          have e53 : zI s52 this 4 = 0 := zput_at hus52
          refine lv_goto (tgt := 209) hx hb dX3_pass_84 (by decide) ?_
          refine lv_iconst (v := 1) hx hb dX3_pass_209 (by decide) ?_
          subst hQ9
          exact t_z hx hb hr isB1 hlocks hT isB1 dX3_pass_210
      · have c14 := gi_nle c9
        refine lv_aload_n hx hb dX3_pass_19 rfl (lv_at hl 0 rfl) ?_
        obtain ⟨r54, er54⟩ : ∃ z, kR κ this 0 = z := ⟨_, rfl⟩
        have tr54 : zk σ0 r54 14 := by rw [← er54]; exact hT0.ref t_this (by decide) (by decide) (by decide)
        refine va_get (D := κ.1) (ci := 3) (v := .ref (kR κ this 0)) (C := RX3) (T := TX3) (N := 8) hx hb hg inX3 hown hK (hT.o6 (hT.k t_this (by decide))).one 0 rfl rfl 0 (by decide) (hg _ k119) (fun _ h9 => h9) rfl dX3_pass_20 ?_
        rw [er54]
        refine lv_aload_n hx hb dX3_pass_23 rfl (lv_at hl 0 rfl) ?_
        refine va_get (D := κ.1) (ci := 3) (v := .int (zI s5 this 5)) (C := RX3) (T := TX3) (N := 8) hx hb hg inX3 hown hK (hT.o6 (hT.k t_this (by decide))).one 0 rfl rfl 5 (by decide) (hg _ k127) (fun _ h9 => h9) rfl dX3_pass_24 ?_
        rw [kthis_5]
        refine va_bald hx hb hK (hT.o14 (hT.k tr54 (by decide))).one 0 2 rfl rfl (g_in (by omega) (by omega)) dX3_pass_27 ?_
        refine lv_topi (fun t55 ht55 => ?_)
        refine lv_bipush (v := 32) hx hb dX3_pass_28 (by decide) ?_
        refine lv_icmp_eq (tgt := 47) hx hb dX3_pass_30 (by decide) (fun c9 => ?_) (fun c9 => ?_)
        · have c15 := gi_eq c9
          refine lv_aload_n hx hb dX3_pass_47 rfl (lv_at hl 0 rfl) ?_
          refine lv_dup hx hb dX3_pass_48 rfl ?_
          refine va_get (D := κ.1) (ci := 3) (v := .int (zI s5 this 5)) (C := RX3) (T := TX3) (N := 8) hx hb hg inX3 hown hK (hT.o6 (hT.k t_this (by decide))).one 0 rfl rfl 5 (by decide) (hg _ k127) (fun _ h9 => h9) rfl dX3_pass_49 ?_
          rw [kthis_5]
          refine lv_iconst (v := 1) hx hb dX3_pass_52 (by decide) ?_
          refine lv_iadd hx hb dX3_pass_53 ?_
          first | refine g_add (by omega) (by omega) (fun t56 ht56 => ?_) | refine lv_topi (fun t56 ht56 => ?_)
          have hTo := hT
          refine pf6_5 hx hb hg hown hK hT (hT.k t_this (by decide)) rfl ⟨by omega, by omega⟩ (hg _ k127) dX3_pass_54 (fun H locs s57 hus57 hT => ?_)
          have e58 : zI s57 this 5 = t56 := zput_at hus57
          refine lv_goto (tgt := 8) hx hb dX3_pass_57 (by decide) ?_
          exact ih8 t56 _ _ _ _ hT e58 (by omega) hl (by omega)
        · have c16 := gi_ne c9
          refine lv_aload_n hx hb dX3_pass_33 rfl (lv_at hl 0 rfl) ?_
          refine va_get (D := κ.1) (ci := 3) (v := .ref (kR κ this 0)) (C := RX3) (T := TX3) (N := 8) hx hb hg inX3 hown hK (hT.o6 (hT.k t_this (by decide))).one 0 rfl rfl 0 (by decide) (hg _ k119) (fun _ h9 => h9) rfl dX3_pass_34 ?_
          rw [er54]
          refine lv_aload_n hx hb dX3_pass_37 rfl (lv_at hl 0 rfl) ?_
          refine va_get (D := κ.1) (ci := 3) (v := .int (zI s5 this 5)) (C := RX3) (T := TX3) (N := 8) hx hb hg inX3 hown hK (hT.o6 (hT.k t_this (by decide))).one 0 rfl rfl 5 (by decide) (hg _ k127) (fun _ h9 => h9) rfl dX3_pass_38 ?_
          rw [kthis_5]
          refine va_bald hx hb hK (hT.o14 (hT.k tr54 (by decide))).one 0 2 rfl rfl (g_in (by omega) (by omega)) dX3_pass_41 ?_
          refine lv_topi (fun t59 ht59 => ?_)
          refine lv_bipush (v := 10) hx hb dX3_pass_42 (by decide) ?_
          refine lv_icmp_ne (tgt := 60) hx hb dX3_pass_44 (by decide) (fun c9 => ?_) (fun c9 => ?_)
          · have c17 := gi_ne c9
            refine lv_aload_n hx hb dX3_pass_60 rfl (lv_at hl 0 rfl) ?_
            refine lv_aload_n hx hb dX3_pass_61 rfl (lv_at hl 0 rfl) ?_
            refine va_get (D := κ.1) (ci := 3) (v := .int (zI s5 this 5)) (C := RX3) (T := TX3) (N := 8) hx hb hg inX3 hown hK (hT.o6 (hT.k t_this (by decide))).one 0 rfl rfl 5 (by decide) (hg _ k127) (fun _ h9 => h9) rfl dX3_pass_62 ?_
            rw [kthis_5]
            have hTo := hT
            refine pf6_6 hx hb hg hown hK hT (hT.k t_this (by decide)) rfl ⟨by omega, by omega⟩ (hg _ k128) dX3_pass_65 (fun H locs s60 hus60 hT => ?_)
            have kthis_5 : zI s60 this 5 = u := (zput_o hus60 (Or.inr (by decide))).trans kthis_5
            have e61 : zI s60 this 6 = u := zput_at hus60
            refine lv_aload_n hx hb dX3_pass_68 rfl (lv_at hl 0 rfl) ?_
            refine va_get (D := κ.1) (ci := 3) (v := .int (zI s60 this 5)) (C := RX3) (T := TX3) (N := 8) hx hb hg inX3 hown hK (hT.o6 (hT.k t_this (by decide))).one 0 rfl rfl 5 (by decide) (hg _ k127) (fun _ h9 => h9) rfl dX3_pass_69 ?_
            rw [kthis_5]
            refine lv_aload_n hx hb dX3_pass_72 rfl (lv_at hl 0 rfl) ?_
            refine va_get (D := κ.1) (ci := 3) (v := .int (zI s60 this 1)) (C := RX3) (T := TX3) (N := 8) hx hb hg inX3 hown hK (hT.o6 (hT.k t_this (by decide))).one 0 rfl rfl 1 (by decide) (hg _ k120) (fun _ h9 => h9) rfl dX3_pass_73 ?_
            rw [(hT.eI t_this (by decide) rfl ev7)]
            refine lv_icmp_lt (tgt := 87) hx hb dX3_pass_76 (by decide) (fun c9 => ?_) (fun c9 => ?_)
            · have c18 := gi_lt c9
              refine lv_aload_n hx hb dX3_pass_87 rfl (lv_at hl 0 rfl) ?_
              refine va_get (D := κ.1) (ci := 3) (v := .ref (kR κ this 0)) (C := RX3) (T := TX3) (N := 8) hx hb hg inX3 hown hK (hT.o6 (hT.k t_this (by decide))).one 0 rfl rfl 0 (by decide) (hg _ k119) (fun _ h9 => h9) rfl dX3_pass_88 ?_
              rw [er54]
              refine lv_aload_n hx hb dX3_pass_91 rfl (lv_at hl 0 rfl) ?_
              refine va_get (D := κ.1) (ci := 3) (v := .int (zI s60 this 5)) (C := RX3) (T := TX3) (N := 8) hx hb hg inX3 hown hK (hT.o6 (hT.k t_this (by decide))).one 0 rfl rfl 5 (by decide) (hg _ k127) (fun _ h9 => h9) rfl dX3_pass_92 ?_
              rw [kthis_5]
              refine va_bald hx hb hK (hT.o14 (hT.k tr54 (by decide))).one 0 2 rfl rfl (g_in (by omega) (by omega)) dX3_pass_95 ?_
              refine lv_topi (fun t62 ht62 => ?_)
              have hTo := hT
              refine tSi (n := 1) (As := [.int t62]) (rest := []) hx hb hml hown hg hT hK hX (X3_isLetter l κ s60 t62   ) sub_fE_fP (mwS k701 k702 k85 k703) ⟨rfl, by decide, by decide, by decide +kernel⟩ ⟨(Nat.le_of_ble_eq_true rfl), (Nat.le_of_ble_eq_true rfl)⟩ rfl hl.1 rfl (Nat.le_of_ble_eq_true rfl) dX3_pass_96 zroom.rf (fun x63 s64 H locs hφ hEs64 hT => ?_)
              have kthis_5 : zI s64 this 5 = u := ((hTo.k t_this (by decide)).eI hEs64 (by decide) rfl).trans kthis_5
              have e61 : zI s64 this 6 = u := ((hTo.k t_this (by decide)).eI hEs64 (by decide) rfl).trans e61
              have f65 := hφ
              refine lv_if_eq (tgt := 114) hx hb dX3_pass_99 (by decide) (fun c9 => ?_) (fun c9 => ?_)
              · have c19 := gi_eq c9
                refine lv_aload_n hx hb dX3_pass_114 rfl (lv_at hl 0 rfl) ?_
                refine va_get (D := κ.1) (ci := 3) (v := .ref (kR κ this 0)) (C := RX3) (T := TX3) (N := 8) hx hb hg inX3 hown hK (hT.o6 (hT.k t_this (by decide))).one 0 rfl rfl 0 (by decide) (hg _ k119) (fun _ h9 => h9) rfl dX3_pass_115 ?_
                rw [er54]
                refine lv_aload_n hx hb dX3_pass_118 rfl (lv_at hl 0 rfl) ?_
                refine va_get (D := κ.1) (ci := 3) (v := .int (zI s64 this 5)) (C := RX3) (T := TX3) (N := 8) hx hb hg inX3 hown hK (hT.o6 (hT.k t_this (by decide))).one 0 rfl rfl 5 (by decide) (hg _ k127) (fun _ h9 => h9) rfl dX3_pass_119 ?_
                rw [kthis_5]
                refine va_bald hx hb hK (hT.o14 (hT.k tr54 (by decide))).one 0 2 rfl rfl (g_in (by omega) (by omega)) dX3_pass_122 ?_
                refine lv_topi (fun t66 ht66 => ?_)
                have hTo := hT
                refine tSi (n := 1) (As := [.int t66]) (rest := []) hx hb hml hown hg hT hK hX (X3_isDigit l κ s64 t66   ) sub_fE_fP (mwS k708 k709 k85 k710) ⟨rfl, by decide, by decide, by decide +kernel⟩ ⟨(Nat.le_of_ble_eq_true rfl), (Nat.le_of_ble_eq_true rfl)⟩ rfl hl.1 rfl (Nat.le_of_ble_eq_true rfl) dX3_pass_123 zroom.rf (fun x67 s68 H locs hφ hEs68 hT => ?_)
                have kthis_5 : zI s68 this 5 = u := ((hTo.k t_this (by decide)).eI hEs68 (by decide) rfl).trans kthis_5
                have e61 : zI s68 this 6 = u := ((hTo.k t_this (by decide)).eI hEs68 (by decide) rfl).trans e61
                have f69 := hφ
                refine lv_if_eq (tgt := 158) hx hb dX3_pass_126 (by decide) (fun c9 => ?_) (fun c9 => ?_)
                · have c20 := gi_eq c9
                  refine lv_aload_n hx hb dX3_pass_158 rfl (lv_at hl 0 rfl) ?_
                  refine lv_aload_n hx hb dX3_pass_159 rfl (lv_at hl 0 rfl) ?_
                  refine va_get (D := κ.1) (ci := 3) (v := .ref (kR κ this 0)) (C := RX3) (T := TX3) (N := 8) hx hb hg inX3 hown hK (hT.o6 (hT.k t_this (by decide))).one 0 rfl rfl 0 (by decide) (hg _ k119) (fun _ h9 => h9) rfl dX3_pass_160 ?_
                  rw [er54]
                  refine lv_aload_n hx hb dX3_pass_163 rfl (lv_at hl 0 rfl) ?_
                  refine va_get (D := κ.1) (ci := 3) (v := .int (zI s68 this 5)) (C := RX3) (T := TX3) (N := 8) hx hb hg inX3 hown hK (hT.o6 (hT.k t_this (by decide))).one 0 rfl rfl 5 (by decide) (hg _ k127) (fun _ h9 => h9) rfl dX3_pass_164 ?_
                  rw [kthis_5]
                  refine va_bald hx hb hK (hT.o14 (hT.k tr54 (by decide))).one 0 2 rfl rfl (g_in (by omega) (by omega)) dX3_pass_167 ?_
                  refine lv_topi (fun t70 ht70 => ?_)
                  refine lv_bipush (v := 59) hx hb dX3_pass_168 (by decide) ?_
                  refine lv_icmp_ne (tgt := 177) hx hb dX3_pass_170 (by decide) (fun c9 => ?_) (fun c9 => ?_)
                  · have c21 := gi_ne c9
                    refine lv_aload_n hx hb dX3_pass_177 rfl (lv_at hl 0 rfl) ?_
                    refine va_get (D := κ.1) (ci := 3) (v := .ref (kR κ this 0)) (C := RX3) (T := TX3) (N := 8) hx hb hg inX3 hown hK (hT.o6 (hT.k t_this (by decide))).one 0 rfl rfl 0 (by decide) (hg _ k119) (fun _ h9 => h9) rfl dX3_pass_178 ?_
                    rw [er54]
                    refine lv_aload_n hx hb dX3_pass_181 rfl (lv_at hl 0 rfl) ?_
                    refine va_get (D := κ.1) (ci := 3) (v := .int (zI s68 this 5)) (C := RX3) (T := TX3) (N := 8) hx hb hg inX3 hown hK (hT.o6 (hT.k t_this (by decide))).one 0 rfl rfl 5 (by decide) (hg _ k127) (fun _ h9 => h9) rfl dX3_pass_182 ?_
                    rw [kthis_5]
                    refine va_bald hx hb hK (hT.o14 (hT.k tr54 (by decide))).one 0 2 rfl rfl (g_in (by omega) (by omega)) dX3_pass_185 ?_
                    refine lv_topi (fun t71 ht71 => ?_)
                    refine lv_bipush (v := 45) hx hb dX3_pass_186 (by decide) ?_
                    refine lv_icmp_ne (tgt := 195) hx hb dX3_pass_188 (by decide) (fun c9 => ?_) (fun c9 => ?_)
                    · have c22 := gi_ne c9
                      refine lv_iconst (v := 5) hx hb dX3_pass_195 (by decide) ?_
                      have hTo := hT
                      refine pf6_4 hx hb hg hown hK hT (hT.k t_this (by decide)) rfl (hg _ k126) dX3_pass_196 (fun H locs s72 hus72 hT => ?_)
                      have kthis_5 : zI s72 this 5 = u := (zput_o hus72 (Or.inr (by decide))).trans kthis_5
                      have e61 : zI s72 this 6 = u := (zput_o hus72 (Or.inr (by decide))).trans e61
                      have e73 : zI s72 this 4 = 5 := zput_at hus72
                      refine lv_aload_n hx hb dX3_pass_199 rfl (lv_at hl 0 rfl) ?_
                      refine lv_dup hx hb dX3_pass_200 rfl ?_
                      refine va_get (D := κ.1) (ci := 3) (v := .int (zI s72 this 6)) (C := RX3) (T := TX3) (N := 8) hx hb hg inX3 hown hK (hT.o6 (hT.k t_this (by decide))).one 0 rfl rfl 6 (by decide) (hg _ k128) (fun _ h9 => h9) rfl dX3_pass_201 ?_
                      rw [e61]
                      refine lv_iconst (v := 1) hx hb dX3_pass_204 (by decide) ?_
                      refine lv_iadd hx hb dX3_pass_205 ?_
                      first | refine g_add (by omega) (by omega) (fun t74 ht74 => ?_) | refine lv_topi (fun t74 ht74 => ?_)
                      have hTo := hT
                      refine pf6_6 hx hb hg hown hK hT (hT.k t_this (by decide)) rfl ⟨by omega, by omega⟩ (hg _ k128) dX3_pass_206 (fun H locs s75 hus75 hT => ?_)
                      have kthis_5 : zI s75 this 5 = u := (zput_o hus75 (Or.inr (by decide))).trans kthis_5
                      have e73 : zI s75 this 4 = 5 := (zput_o hus75 (Or.inr (by decide))).trans e73
                      have e76 : zI s75 this 6 = t74 := zput_at hus75
                      refine lv_iconst (v := 1) hx hb dX3_pass_209 (by decide) ?_
                      subst hQ9
                      exact t_z hx hb hr isB1 hlocks hT isB1 dX3_pass_210
                    · have c23 := gi_eq c9
                      refine lv_iconst (v := 4) hx hb dX3_pass_191 (by decide) ?_
                      refine lv_goto (tgt := 196) hx hb dX3_pass_192 (by decide) ?_
                      have hTo := hT
                      refine pf6_4 hx hb hg hown hK hT (hT.k t_this (by decide)) rfl (hg _ k126) dX3_pass_196 (fun H locs s77 hus77 hT => ?_)
                      have kthis_5 : zI s77 this 5 = u := (zput_o hus77 (Or.inr (by decide))).trans kthis_5
                      have e61 : zI s77 this 6 = u := (zput_o hus77 (Or.inr (by decide))).trans e61
                      have e78 : zI s77 this 4 = 4 := zput_at hus77
                      refine lv_aload_n hx hb dX3_pass_199 rfl (lv_at hl 0 rfl) ?_
                      refine lv_dup hx hb dX3_pass_200 rfl ?_
                      refine va_get (D := κ.1) (ci := 3) (v := .int (zI s77 this 6)) (C := RX3) (T := TX3) (N := 8) hx hb hg inX3 hown hK (hT.o6 (hT.k t_this (by decide))).one 0 rfl rfl 6 (by decide) (hg _ k128) (fun _ h9 => h9) rfl dX3_pass_201 ?_
                      rw [e61]
                      refine lv_iconst (v := 1) hx hb dX3_pass_204 (by decide) ?_
                      refine lv_iadd hx hb dX3_pass_205 ?_
                      first | refine g_add (by omega) (by omega) (fun t79 ht79 => ?_) | refine lv_topi (fun t79 ht79 => ?_)
                      have hTo := hT
                      refine pf6_6 hx hb hg hown hK hT (hT.k t_this (by decide)) rfl ⟨by omega, by omega⟩ (hg _ k128) dX3_pass_206 (fun H locs s80 hus80 hT => ?_)
                      have kthis_5 : zI s80 this 5 = u := (zput_o hus80 (Or.inr (by decide))).trans kthis_5
                      have e78 : zI s80 this 4 = 4 := (zput_o hus80 (Or.inr (by decide))).trans e78
                      have e81 : zI s80 this 6 = t79 := zput_at hus80
                      refine lv_iconst (v := 1) hx hb dX3_pass_209 (by decide) ?_
                      subst hQ9
                      exact t_z hx hb hr isB1 hlocks hT isB1 dX3_pass_210
                  · have c24 := gi_eq c9
                    refine lv_iconst (v := 3) hx hb dX3_pass_173 (by decide) ?_
                    refine lv_goto (tgt := 196) hx hb dX3_pass_174 (by decide) ?_
                    have hTo := hT
                    refine pf6_4 hx hb hg hown hK hT (hT.k t_this (by decide)) rfl (hg _ k126) dX3_pass_196 (fun H locs s82 hus82 hT => ?_)
                    have kthis_5 : zI s82 this 5 = u := (zput_o hus82 (Or.inr (by decide))).trans kthis_5
                    have e61 : zI s82 this 6 = u := (zput_o hus82 (Or.inr (by decide))).trans e61
                    have e83 : zI s82 this 4 = 3 := zput_at hus82
                    refine lv_aload_n hx hb dX3_pass_199 rfl (lv_at hl 0 rfl) ?_
                    refine lv_dup hx hb dX3_pass_200 rfl ?_
                    refine va_get (D := κ.1) (ci := 3) (v := .int (zI s82 this 6)) (C := RX3) (T := TX3) (N := 8) hx hb hg inX3 hown hK (hT.o6 (hT.k t_this (by decide))).one 0 rfl rfl 6 (by decide) (hg _ k128) (fun _ h9 => h9) rfl dX3_pass_201 ?_
                    rw [e61]
                    refine lv_iconst (v := 1) hx hb dX3_pass_204 (by decide) ?_
                    refine lv_iadd hx hb dX3_pass_205 ?_
                    first | refine g_add (by omega) (by omega) (fun t84 ht84 => ?_) | refine lv_topi (fun t84 ht84 => ?_)
                    have hTo := hT
                    refine pf6_6 hx hb hg hown hK hT (hT.k t_this (by decide)) rfl ⟨by omega, by omega⟩ (hg _ k128) dX3_pass_206 (fun H locs s85 hus85 hT => ?_)
                    have kthis_5 : zI s85 this 5 = u := (zput_o hus85 (Or.inr (by decide))).trans kthis_5
                    have e83 : zI s85 this 4 = 3 := (zput_o hus85 (Or.inr (by decide))).trans e83
                    have e86 : zI s85 this 6 = t84 := zput_at hus85
                    refine lv_iconst (v := 1) hx hb dX3_pass_209 (by decide) ?_
                    subst hQ9
                    exact t_z hx hb hr isB1 hlocks hT isB1 dX3_pass_210
                · have c25 := gi_ne c9
                  refine lv_aload_n hx hb dX3_pass_129 rfl (lv_at hl 0 rfl) ?_
                  have hTo := hT
                  refine tVv (n := 0) (As := []) (rest := []) hx hb hml hown hg hT hK hX (X3_passDigits l κ s68 this  (hT.k t_this (by decide)) ) (fun _ _ h => h) (mwV k711 k713 k19 k85 k714) ⟨rfl, by decide, by decide, by decide +kernel⟩ ⟨(Nat.le_of_ble_eq_true rfl), (Nat.le_of_ble_eq_true rfl)⟩ (hT.o6 (hT.k t_this (by decide))) rfl rfl hl.1 rfl (Nat.le_of_ble_eq_true rfl) dX3_pass_130 zroom.rf (fun s88 H locs hφ hEs88 hT => ?_)
                  refine lv_aload_n hx hb dX3_pass_133 rfl (lv_at hl 0 rfl) ?_
                  refine lv_aload_n hx hb dX3_pass_134 rfl (lv_at hl 0 rfl) ?_
                  obtain ⟨v89, ev89⟩ : ∃ zz9 : Int32, zI s88 this 6 = zz9 := ⟨_, rfl⟩
                  have qv89 : v89.toInt = (zI s88 this 6).toInt := by rw [ev89]
                  have b90 := (hT.P (hT.k t_this (by decide)) (by decide)).2.2
                  rw [ev89] at b90
                  have b90l := b90.1
                  have b90h := b90.2
                  refine va_get (D := κ.1) (ci := 3) (v := .int (zI s88 this 6)) (C := RX3) (T := TX3) (N := 8) hx hb hg inX3 hown hK (hT.o6 (hT.k t_this (by decide))).one 0 rfl rfl 6 (by decide) (hg _ k128) (fun _ h9 => h9) rfl dX3_pass_135 ?_
                  rw [ev89]
                  refine lv_aload_n hx hb dX3_pass_138 rfl (lv_at hl 0 rfl) ?_
                  obtain ⟨v91, ev91⟩ : ∃ zz9 : Int32, zI s88 this 5 = zz9 := ⟨_, rfl⟩
                  have qv91 : v91.toInt = (zI s88 this 5).toInt := by rw [ev91]
                  have b92 := (hT.P (hT.k t_this (by decide)) (by decide)).2.1
                  rw [ev91] at b92
                  have b92l := b92.1
                  have b92h := b92.2
                  refine va_get (D := κ.1) (ci := 3) (v := .int (zI s88 this 5)) (C := RX3) (T := TX3) (N := 8) hx hb hg inX3 hown hK (hT.o6 (hT.k t_this (by decide))).one 0 rfl rfl 5 (by decide) (hg _ k127) (fun _ h9 => h9) rfl dX3_pass_139 ?_
                  rw [ev91]
                  refine lv_isub hx hb dX3_pass_142 ?_
                  first | refine g_sub (by omega) (by omega) (fun t93 ht93 => ?_) | refine lv_topi (fun t93 ht93 => ?_)
                  refine lv_iconst (v := 4) hx hb dX3_pass_143 (by decide) ?_
                  refine lv_icmp_gt (tgt := 151) hx hb dX3_pass_144 (by decide) (fun c9 => ?_) (fun c9 => ?_)
                  · have c26 := gi_lt c9
                    refine lv_iconst (v := 5) hx hb dX3_pass_151 (by decide) ?_
                    have hTo := hT
                    refine pf6_4 hx hb hg hown hK hT (hT.k t_this (by decide)) rfl (hg _ k126) dX3_pass_152 (fun H locs s94 hus94 hT => ?_)
                    have ev89 : zI s94 this 6 = v89 := (zput_o hus94 (Or.inr (by decide))).trans ev89
                    have ev91 : zI s94 this 5 = v91 := (zput_o hus94 (Or.inr (by decide))).trans ev91
                    have e95 : zI s94 this 4 = 5 := zput_at hus94
                    refine lv_goto (tgt := 209) hx hb dX3_pass_155 (by decide) ?_
                    refine lv_iconst (v := 1) hx hb dX3_pass_209 (by decide) ?_
                    subst hQ9
                    exact t_z hx hb hr isB1 hlocks hT isB1 dX3_pass_210
                  · have c27 := gi_nlt c9
                    refine lv_iconst (v := 2) hx hb dX3_pass_147 (by decide) ?_
                    refine lv_goto (tgt := 152) hx hb dX3_pass_148 (by decide) ?_
                    have hTo := hT
                    refine pf6_4 hx hb hg hown hK hT (hT.k t_this (by decide)) rfl (hg _ k126) dX3_pass_152 (fun H locs s96 hus96 hT => ?_)
                    have ev89 : zI s96 this 6 = v89 := (zput_o hus96 (Or.inr (by decide))).trans ev89
                    have ev91 : zI s96 this 5 = v91 := (zput_o hus96 (Or.inr (by decide))).trans ev91
                    have e97 : zI s96 this 4 = 2 := zput_at hus96
                    refine lv_goto (tgt := 209) hx hb dX3_pass_155 (by decide) ?_
                    refine lv_iconst (v := 1) hx hb dX3_pass_209 (by decide) ?_
                    subst hQ9
                    exact t_z hx hb hr isB1 hlocks hT isB1 dX3_pass_210
              · have c28 := gi_ne c9
                refine lv_aload_n hx hb dX3_pass_102 rfl (lv_at hl 0 rfl) ?_
                refine lv_iconst (v := 1) hx hb dX3_pass_103 (by decide) ?_
                have hTo := hT
                refine pf6_4 hx hb hg hown hK hT (hT.k t_this (by decide)) rfl (hg _ k126) dX3_pass_104 (fun H locs s98 hus98 hT => ?_)
                have kthis_5 : zI s98 this 5 = u := (zput_o hus98 (Or.inr (by decide))).trans kthis_5
                have e61 : zI s98 this 6 = u := (zput_o hus98 (Or.inr (by decide))).trans e61
                have e99 : zI s98 this 4 = 1 := zput_at hus98
                refine lv_aload_n hx hb dX3_pass_107 rfl (lv_at hl 0 rfl) ?_
                have hTo := hT
                refine tVv (n := 0) (As := []) (rest := []) hx hb hml hown hg hT hK hX (X3_passLetters l κ s98 this  (hT.k t_this (by decide)) ) (fun _ _ h => h) (mwV k704 k706 k18 k85 k707) ⟨rfl, by decide, by decide, by decide +kernel⟩ ⟨(Nat.le_of_ble_eq_true rfl), (Nat.le_of_ble_eq_true rfl)⟩ (hT.o6 (hT.k t_this (by decide))) rfl rfl hl.1 rfl (Nat.le_of_ble_eq_true rfl) dX3_pass_108 zroom.rf (fun s101 H locs hφ hEs101 hT => ?_)
                refine lv_goto (tgt := 209) hx hb dX3_pass_111 (by decide) ?_
                refine lv_iconst (v := 1) hx hb dX3_pass_209 (by decide) ?_
                subst hQ9
                exact t_z hx hb hr isB1 hlocks hT isB1 dX3_pass_210
            · have c29 := gi_nlt c9
              refine lv_aload_n hx hb dX3_pass_79 rfl (lv_at hl 0 rfl) ?_
              refine lv_iconst (v := 0) hx hb dX3_pass_80 (by decide) ?_
              have hTo := hT
              refine pf6_4 hx hb hg hown hK hT (hT.k t_this (by decide)) rfl (hg _ k126) dX3_pass_81 (fun H locs s102 hus102 hT => ?_)
              have kthis_5 : zI s102 this 5 = u := (zput_o hus102 (Or.inr (by decide))).trans kthis_5
              have e61 : zI s102 this 6 = u := (zput_o hus102 (Or.inr (by decide))).trans e61
              have e103 : zI s102 this 4 = 0 := zput_at hus102
              refine lv_goto (tgt := 209) hx hb dX3_pass_84 (by decide) ?_
              refine lv_iconst (v := 1) hx hb dX3_pass_209 (by decide) ?_
              subst hQ9
              exact t_z hx hb hr isB1 hlocks hT isB1 dX3_pass_210
          · have c30 := gi_eq c9
            refine lv_aload_n hx hb dX3_pass_47 rfl (lv_at hl 0 rfl) ?_
            refine lv_dup hx hb dX3_pass_48 rfl ?_
            refine va_get (D := κ.1) (ci := 3) (v := .int (zI s5 this 5)) (C := RX3) (T := TX3) (N := 8) hx hb hg inX3 hown hK (hT.o6 (hT.k t_this (by decide))).one 0 rfl rfl 5 (by decide) (hg _ k127) (fun _ h9 => h9) rfl dX3_pass_49 ?_
            rw [kthis_5]
            refine lv_iconst (v := 1) hx hb dX3_pass_52 (by decide) ?_
            refine lv_iadd hx hb dX3_pass_53 ?_
            first | refine g_add (by omega) (by omega) (fun t104 ht104 => ?_) | refine lv_topi (fun t104 ht104 => ?_)
            have hTo := hT
            refine pf6_5 hx hb hg hown hK hT (hT.k t_this (by decide)) rfl ⟨by omega, by omega⟩ (hg _ k127) dX3_pass_54 (fun H locs s105 hus105 hT => ?_)
            have e106 : zI s105 this 5 = t104 := zput_at hus105
            refine lv_goto (tgt := 8) hx hb dX3_pass_57 (by decide) ?_
            exact ih8 t104 _ _ _ _ hT e106 (by omega) hl (by omega)
  exact loop8 ((700 - v1.toInt).toNat + 1) v1 _ _ _ _ hT e4 (by omega) hl (by omega)
set_option maxHeartbeats 4000000 in
set_option maxRecDepth 100000 in
theorem X3_passSemicolon (l : Launch) (κ : Kt) (σ0 : Gh) (this : Nat) (t_this : zk σ0 this 6) : TC l yX3_passSemicolon cX3_passSemicolon 1 (some .boolean) 3 60 [.ref this] κ σ0 (tqi κ fPe σ0 (fun (r : Int32) (τ : Gh) => (isB r))) := by
  refine TC.of fPe (by decide +kernel) (Nat.le_of_ble_eq_true rfl) ?_
  intro p e s m below meth c ls hcs hK hX hT hl
  obtain ⟨hx, hb, hr, hml, hown, hg, hlocks, hin⟩ := hcs
  have hown : s.vm.findClass RX3 = some m.cls := hown
  have hl : lv_has ls 1 [(0, .ref this)] := hl
  have hT0 := hT
  have n1 : (1 : Int32).toInt = 1 := by decide
  have n3 : (3 : Int32).toInt = 3 := by decide
  generalize hQ9 : tQ _ _ _ _ _ _ = Q9
  refine lv_aload_n hx hb dX3_passSemicolon_0 rfl (lv_at hl 0 rfl) ?_
  obtain ⟨v1, ev1⟩ : ∃ zz9 : Int32, zI σ0 this 4 = zz9 := ⟨_, rfl⟩
  have qv1 : v1.toInt = (zI σ0 this 4).toInt := by rw [ev1]
  refine va_get (D := κ.1) (ci := 3) (v := .int (zI σ0 this 4)) (C := RX3) (T := TX3) (N := 8) hx hb hg inX3 hown hK (hT.o6 (hT.k t_this (by decide))).one 0 rfl rfl 4 (by decide) (hg _ k126) (fun _ h9 => h9) rfl dX3_passSemicolon_1 ?_
  rw [ev1]
  refine lv_iconst (v := 3) hx hb dX3_passSemicolon_4 (by decide) ?_
  refine lv_icmp_ne (tgt := 15) hx hb dX3_passSemicolon_5 (by decide) (fun c9 => ?_) (fun c9 => ?_)
  · have c1 := gi_ne c9
    refine lv_aload_n hx hb dX3_passSemicolon_15 rfl (lv_at hl 0 rfl) ?_
    refine lv_iconst (v := 1) hx hb dX3_passSemicolon_16 (by decide) ?_
    have hTo := hT
    refine tVi (n := 1) (As := [.int 1]) (rest := []) hx hb hml hown hg hT hK hX (X3_isWrong l κ σ0 this 1  (hT.k t_this (by decide)) ) (fun _ _ h => h) (mwV k779 k781 k23 k85 k782) ⟨rfl, by decide, by decide, by decide +kernel⟩ ⟨(Nat.le_of_ble_eq_true rfl), (Nat.le_of_ble_eq_true rfl)⟩ (hT.o6 (hT.k t_this (by decide))) rfl rfl hl.1 rfl (Nat.le_of_ble_eq_true rfl) dX3_passSemicolon_17 zroom.rf (fun x2 s3 H locs hφ hEs3 hT => ?_)
    obtain ⟨f4, f5⟩ := hφ
    subst hQ9
    exact t_z hx hb hr f5 hlocks hT f5 dX3_passSemicolon_20
  · have c2 := gi_eq c9
    refine lv_aload_n hx hb dX3_passSemicolon_8 rfl (lv_at hl 0 rfl) ?_
    have hTo := hT
    refine tVi (n := 0) (As := []) (rest := []) hx hb hml hown hg hT hK hX (X3_pass l κ σ0 this  (hT.k t_this (by decide)) ) sub_fP_fPe (mwV k697 k699 k17 k85 k700) ⟨rfl, by decide, by decide, by decide +kernel⟩ ⟨(Nat.le_of_ble_eq_true rfl), (Nat.le_of_ble_eq_true rfl)⟩ (hT.o6 (hT.k t_this (by decide))) rfl rfl hl.1 rfl (Nat.le_of_ble_eq_true rfl) dX3_passSemicolon_9 zroom.rf (fun x6 s7 H locs hφ hEs7 hT => ?_)
    have f8 := hφ
    refine lv_goto (tgt := 20) hx hb dX3_passSemicolon_12 (by decide) ?_
    subst hQ9
    exact t_z hx hb hr f8 hlocks hT f8 dX3_passSemicolon_20
set_option maxHeartbeats 4000000 in
set_option maxRecDepth 100000 in
theorem X3_settingHere (l : Launch) (κ : Kt) (σ0 : Gh) (this : Nat) (t_this : zk σ0 this 6) : TC l yX3_settingHere cX3_settingHere 1 (some .int) 5 107 [.ref this] κ σ0 (tqi κ fE σ0 (fun (r : Int32) (τ : Gh) => (-1 ≤ r.toInt) ∧ (r.toInt ≤ 3))) := by
  refine TC.of fE (by decide +kernel) (Nat.le_of_ble_eq_true rfl) ?_
  intro p e s m below meth c ls hcs hK hX hT hl
  obtain ⟨hx, hb, hr, hml, hown, hg, hlocks, hin⟩ := hcs
  have hown : s.vm.findClass RX3 = some m.cls := hown
  have hl : lv_has ls 1 [(0, .ref this)] := hl
  have hT0 := hT
  have nm1 : ((-1) : Int32).toInt = (-1) := by decide
  have n0 : (0 : Int32).toInt = 0 := by decide
  have n1 : (1 : Int32).toInt = 1 := by decide
  have n2 : (2 : Int32).toInt = 2 := by decide
  have n3 : (3 : Int32).toInt = 3 := by decide
  generalize hQ9 : tQ _ _ _ _ _ _ = Q9
  refine lv_aload_n hx hb dX3_settingHere_0 rfl (lv_at hl 0 rfl) ?_
  refine va_ldcS hx hb hown (hX.2.2.1 0 (by decide)) dX3_settingHere_1 ?_
  have hTo := hT
  refine tVi (n := 1) (As := [.ref (kK κ 0)]) (rest := []) hx hb hml hown hg hT hK hX (X3_isWord l κ σ0 this 0  (hT.k t_this (by decide)) (by decide) ) (fun _ _ h => h) (mwV k724 k726 k22 k85 k727) ⟨rfl, by decide, by decide, by decide +kernel⟩ ⟨(Nat.le_of_ble_eq_true rfl), (Nat.le_of_ble_eq_true rfl)⟩ (hT.o6 (hT.k t_this (by decide))) rfl rfl hl.1 rfl (Nat.le_of_ble_eq_true rfl) dX3_settingHere_3 zroom.rf (fun x1 s2 H locs hφ hEs2 hT => ?_)
  have f3 := hφ
  refine lv_if_eq (tgt := 11) hx hb dX3_settingHere_6 (by decide) (fun c9 => ?_) (fun c9 => ?_)
  · have c1 := gi_eq c9
    refine lv_aload_n hx hb dX3_settingHere_11 rfl (lv_at hl 0 rfl) ?_
    refine va_ldcS hx hb hown (hX.2.2.1 1 (by decide)) dX3_settingHere_12 ?_
    have hTo := hT
    refine tVi (n := 1) (As := [.ref (kK κ 1)]) (rest := []) hx hb hml hown hg hT hK hX (X3_isWord l κ s2 this 1  (hT.k t_this (by decide)) (by decide) ) (fun _ _ h => h) (mwV k724 k726 k22 k85 k727) ⟨rfl, by decide, by decide, by decide +kernel⟩ ⟨(Nat.le_of_ble_eq_true rfl), (Nat.le_of_ble_eq_true rfl)⟩ (hT.o6 (hT.k t_this (by decide))) rfl rfl hl.1 rfl (Nat.le_of_ble_eq_true rfl) dX3_settingHere_14 zroom.rf (fun x4 s5 H locs hφ hEs5 hT => ?_)
    have f6 := hφ
    refine lv_if_eq (tgt := 22) hx hb dX3_settingHere_17 (by decide) (fun c9 => ?_) (fun c9 => ?_)
    · have c2 := gi_eq c9
      refine lv_aload_n hx hb dX3_settingHere_22 rfl (lv_at hl 0 rfl) ?_
      refine va_ldcS hx hb hown (hX.2.2.1 2 (by decide)) dX3_settingHere_23 ?_
      have hTo := hT
      refine tVi (n := 1) (As := [.ref (kK κ 2)]) (rest := []) hx hb hml hown hg hT hK hX (X3_isWord l κ s5 this 2  (hT.k t_this (by decide)) (by decide) ) (fun _ _ h => h) (mwV k724 k726 k22 k85 k727) ⟨rfl, by decide, by decide, by decide +kernel⟩ ⟨(Nat.le_of_ble_eq_true rfl), (Nat.le_of_ble_eq_true rfl)⟩ (hT.o6 (hT.k t_this (by decide))) rfl rfl hl.1 rfl (Nat.le_of_ble_eq_true rfl) dX3_settingHere_25 zroom.rf (fun x7 s8 H locs hφ hEs8 hT => ?_)
      have f9 := hφ
      refine lv_if_eq (tgt := 33) hx hb dX3_settingHere_28 (by decide) (fun c9 => ?_) (fun c9 => ?_)
      · have c3 := gi_eq c9
        refine lv_aload_n hx hb dX3_settingHere_33 rfl (lv_at hl 0 rfl) ?_
        refine va_ldcS hx hb hown (hX.2.2.1 3 (by decide)) dX3_settingHere_34 ?_
        have hTo := hT
        refine tVi (n := 1) (As := [.ref (kK κ 3)]) (rest := []) hx hb hml hown hg hT hK hX (X3_isWord l κ s8 this 3  (hT.k t_this (by decide)) (by decide) ) (fun _ _ h => h) (mwV k724 k726 k22 k85 k727) ⟨rfl, by decide, by decide, by decide +kernel⟩ ⟨(Nat.le_of_ble_eq_true rfl), (Nat.le_of_ble_eq_true rfl)⟩ (hT.o6 (hT.k t_this (by decide))) rfl rfl hl.1 rfl (Nat.le_of_ble_eq_true rfl) dX3_settingHere_36 zroom.rf (fun x10 s11 H locs hφ hEs11 hT => ?_)
        have f12 := hφ
        refine lv_if_eq (tgt := 46) hx hb dX3_settingHere_39 (by decide) (fun c9 => ?_) (fun c9 => ?_)
        · have c4 := gi_eq c9
          refine lv_iconst (v := (-1)) hx hb dX3_settingHere_46 (by decide) ?_
          subst hQ9
          exact t_i hx hb hr hlocks hT ⟨by omega, by omega⟩ dX3_settingHere_47
        · have c5 := gi_ne c9
          refine lv_iconst (v := 3) hx hb dX3_settingHere_42 (by decide) ?_
          refine lv_goto (tgt := 47) hx hb dX3_settingHere_43 (by decide) ?_
          subst hQ9
          exact t_i hx hb hr hlocks hT ⟨by omega, by omega⟩ dX3_settingHere_47
      · have c6 := gi_ne c9
        refine lv_iconst (v := 2) hx hb dX3_settingHere_31 (by decide) ?_
        subst hQ9
        exact t_i hx hb hr hlocks hT ⟨by omega, by omega⟩ dX3_settingHere_32
    · have c7 := gi_ne c9
      refine lv_iconst (v := 1) hx hb dX3_settingHere_20 (by decide) ?_
      subst hQ9
      exact t_i hx hb hr hlocks hT ⟨by omega, by omega⟩ dX3_settingHere_21
  · have c8 := gi_ne c9
    refine lv_iconst (v := 0) hx hb dX3_settingHere_9 (by decide) ?_
    subst hQ9
    exact t_i hx hb hr hlocks hT ⟨by omega, by omega⟩ dX3_settingHere_10
set_option maxHeartbeats 4000000 in
set_option maxRecDepth 100000 in
theorem X3_readLeast (l : Launch) (κ : Kt) (σ0 : Gh) (this : Nat) (into : Nat) (t_this : zk σ0 this 6) (t_into : zk σ0 into 5) : TC l yX3_readLeast cX3_readLeast 2 (some .boolean) 3 60 [.ref this, .ref into] κ σ0 (tqi κ fPs σ0 (fun (r : Int32) (τ : Gh) => (isB r))) := by
  refine TC.of fPs (by decide +kernel) (Nat.le_of_ble_eq_true rfl) ?_
  intro p e s m below meth c ls hcs hK hX hT hl
  obtain ⟨hx, hb, hr, hml, hown, hg, hlocks, hin⟩ := hcs
  have hown : s.vm.findClass RX3 = some m.cls := hown
  have hl : lv_has ls 2 [(0, .ref this), (1, .ref into)] := hl
  have hT0 := hT
  have n1 : (1 : Int32).toInt = 1 := by decide
  have n2 : (2 : Int32).toInt = 2 := by decide
  have n48 : (48 : Int32).toInt = 48 := by decide
  generalize hQ9 : tQ _ _ _ _ _ _ = Q9
  refine lv_aload_n hx hb dX3_readLeast_0 rfl (lv_at hl 0 rfl) ?_
  obtain ⟨v1, ev1⟩ : ∃ zz9 : Int32, zI σ0 this 4 = zz9 := ⟨_, rfl⟩
  have qv1 : v1.toInt = (zI σ0 this 4).toInt := by rw [ev1]
  refine va_get (D := κ.1) (ci := 3) (v := .int (zI σ0 this 4)) (C := RX3) (T := TX3) (N := 8) hx hb hg inX3 hown hK (hT.o6 (hT.k t_this (by decide))).one 0 rfl rfl 4 (by decide) (hg _ k126) (fun _ h9 => h9) rfl dX3_readLeast_1 ?_
  rw [ev1]
  refine lv_iconst (v := 2) hx hb dX3_readLeast_4 (by decide) ?_
  refine lv_icmp_eq (tgt := 14) hx hb dX3_readLeast_5 (by decide) (fun c9 => ?_) (fun c9 => ?_)
  · have c1 := gi_eq c9
    refine lv_aload_n hx hb dX3_readLeast_14 rfl (lv_at hl 0 rfl) ?_
    obtain ⟨v2, ev2⟩ : ∃ zz9 : Int32, zI σ0 this 7 = zz9 := ⟨_, rfl⟩
    have qv2 : v2.toInt = (zI σ0 this 7).toInt := by rw [ev2]
    refine va_get (D := κ.1) (ci := 3) (v := .int (zI σ0 this 7)) (C := RX3) (T := TX3) (N := 8) hx hb hg inX3 hown hK (hT.o6 (hT.k t_this (by decide))).one 0 rfl rfl 7 (by decide) (hg _ k129) (fun _ h9 => h9) rfl dX3_readLeast_15 ?_
    rw [ev2]
    refine lv_iconst (v := 2) hx hb dX3_readLeast_18 (by decide) ?_
    refine lv_icmp_lt (tgt := 31) hx hb dX3_readLeast_19 (by decide) (fun c9 => ?_) (fun c9 => ?_)
    · have c2 := gi_lt c9
      refine lv_aload_n hx hb dX3_readLeast_31 rfl (lv_at hl 0 rfl) ?_
      refine lv_iconst (v := 2) hx hb dX3_readLeast_32 (by decide) ?_
      have hTo := hT
      refine tVi (n := 1) (As := [.int 2]) (rest := []) hx hb hml hown hg hT hK hX (X3_isWrong l κ σ0 this 2  (hT.k t_this (by decide)) ) sub_fPe_fPs (mwV k779 k781 k23 k85 k782) ⟨rfl, by decide, by decide, by decide +kernel⟩ ⟨(Nat.le_of_ble_eq_true rfl), (Nat.le_of_ble_eq_true rfl)⟩ (hT.o6 (hT.k t_this (by decide))) rfl rfl hl.1 rfl (Nat.le_of_ble_eq_true rfl) dX3_readLeast_33 zroom.rf (fun x3 s4 H locs hφ hEs4 hT => ?_)
      obtain ⟨f5, f6⟩ := hφ
      subst hQ9
      exact t_z hx hb hr f6 hlocks hT f6 dX3_readLeast_36
    · have c3 := gi_nlt c9
      refine lv_aload_n hx hb dX3_readLeast_22 rfl (lv_at hl 0 rfl) ?_
      refine va_get (D := κ.1) (ci := 3) (v := .int (zI σ0 this 7)) (C := RX3) (T := TX3) (N := 8) hx hb hg inX3 hown hK (hT.o6 (hT.k t_this (by decide))).one 0 rfl rfl 7 (by decide) (hg _ k129) (fun _ h9 => h9) rfl dX3_readLeast_23 ?_
      rw [ev2]
      refine lv_bipush (v := 48) hx hb dX3_readLeast_26 (by decide) ?_
      refine lv_icmp_le (tgt := 37) hx hb dX3_readLeast_28 (by decide) (fun c9 => ?_) (fun c9 => ?_)
      · have c4 := gi_le c9
        refine lv_aload_n hx hb dX3_readLeast_37 rfl (lv_at hl 1 rfl) ?_
        refine lv_aload_n hx hb dX3_readLeast_38 rfl (lv_at hl 0 rfl) ?_
        refine va_get (D := κ.1) (ci := 3) (v := .int (zI σ0 this 7)) (C := RX3) (T := TX3) (N := 8) hx hb hg inX3 hown hK (hT.o6 (hT.k t_this (by decide))).one 0 rfl rfl 7 (by decide) (hg _ k129) (fun _ h9 => h9) rfl dX3_readLeast_39 ?_
        rw [ev2]
        have hTo := hT
        refine pf5_6 hx hb hg hown hK hT (hT.k t_into (by decide)) rfl (hg _ k176) dX3_readLeast_42 (fun H locs s7 hus7 hT => ?_)
        have ev1 : zI s7 this 4 = v1 := (zput_o hus7 (Or.inr (by decide))).trans ev1
        have ev2 : zI s7 this 7 = v2 := (zput_o hus7 (Or.inr (by decide))).trans ev2
        have e8 : zI s7 into 6 = v2 := zput_at hus7
        refine lv_aload_n hx hb dX3_readLeast_45 rfl (lv_at hl 0 rfl) ?_
        have hTo := hT
        refine tVi (n := 0) (As := []) (rest := []) hx hb hml hown hg hT hK hX (X3_pass l κ s7 this  (hT.k t_this (by decide)) ) sub_fP_fPs (mwV k697 k699 k17 k85 k700) ⟨rfl, by decide, by decide, by decide +kernel⟩ ⟨(Nat.le_of_ble_eq_true rfl), (Nat.le_of_ble_eq_true rfl)⟩ (hT.o6 (hT.k t_this (by decide))) rfl rfl hl.1 rfl (Nat.le_of_ble_eq_true rfl) dX3_readLeast_46 zroom.rf (fun x9 s10 H locs hφ hEs10 hT => ?_)
        have e8 : zI s10 into 6 = v2 := ((hTo.k t_into (by decide)).eI hEs10 (by decide) rfl).trans e8
        have f11 := hφ
        subst hQ9
        exact t_z hx hb hr f11 hlocks hT f11 dX3_readLeast_49
      · have c5 := gi_nle c9
        refine lv_aload_n hx hb dX3_readLeast_31 rfl (lv_at hl 0 rfl) ?_
        refine lv_iconst (v := 2) hx hb dX3_readLeast_32 (by decide) ?_
        have hTo := hT
        refine tVi (n := 1) (As := [.int 2]) (rest := []) hx hb hml hown hg hT hK hX (X3_isWrong l κ σ0 this 2  (hT.k t_this (by decide)) ) sub_fPe_fPs (mwV k779 k781 k23 k85 k782) ⟨rfl, by decide, by decide, by decide +kernel⟩ ⟨(Nat.le_of_ble_eq_true rfl), (Nat.le_of_ble_eq_true rfl)⟩ (hT.o6 (hT.k t_this (by decide))) rfl rfl hl.1 rfl (Nat.le_of_ble_eq_true rfl) dX3_readLeast_33 zroom.rf (fun x12 s13 H locs hφ hEs13 hT => ?_)
        obtain ⟨f14, f15⟩ := hφ
        subst hQ9
        exact t_z hx hb hr f15 hlocks hT f15 dX3_readLeast_36
  · have c6 := gi_ne c9
    refine lv_aload_n hx hb dX3_readLeast_8 rfl (lv_at hl 0 rfl) ?_
    refine lv_iconst (v := 1) hx hb dX3_readLeast_9 (by decide) ?_
    have hTo := hT
    refine tVi (n := 1) (As := [.int 1]) (rest := []) hx hb hml hown hg hT hK hX (X3_isWrong l κ σ0 this 1  (hT.k t_this (by decide)) ) sub_fPe_fPs (mwV k779 k781 k23 k85 k782) ⟨rfl, by decide, by decide, by decide +kernel⟩ ⟨(Nat.le_of_ble_eq_true rfl), (Nat.le_of_ble_eq_true rfl)⟩ (hT.o6 (hT.k t_this (by decide))) rfl rfl hl.1 rfl (Nat.le_of_ble_eq_true rfl) dX3_readLeast_10 zroom.rf (fun x16 s17 H locs hφ hEs17 hT => ?_)
    obtain ⟨f18, f19⟩ := hφ
    subst hQ9
    exact t_z hx hb hr f19 hlocks hT f19 dX3_readLeast_13
set_option maxHeartbeats 4000000 in
set_option maxRecDepth 100000 in
theorem X3_readSetting (l : Launch) (κ : Kt) (σ0 : Gh) (this : Nat) (st : Int32) (into : Nat) (t_this : zk σ0 this 6) (t_into : zk σ0 into 5) : TC l yX3_readSetting cX3_readSetting 3 (some .boolean) 5 107 [.ref this, .int st, .ref into] κ σ0 (tqi κ fPs σ0 (fun (r : Int32) (τ : Gh) => (isB r))) := by
  refine TC.of fPs (by decide +kernel) (Nat.le_of_ble_eq_true rfl) ?_
  intro p e s m below meth c ls hcs hK hX hT hl
  obtain ⟨hx, hb, hr, hml, hown, hg, hlocks, hin⟩ := hcs
  have hown : s.vm.findClass RX3 = some m.cls := hown
  have hl : lv_has ls 3 [(0, .ref this), (1, .int st), (2, .ref into)] := hl
  have hT0 := hT
  have nm1 : ((-1) : Int32).toInt = (-1) := by decide
  have n0 : (0 : Int32).toInt = 0 := by decide
  have n1 : (1 : Int32).toInt = 1 := by decide
  have n2 : (2 : Int32).toInt = 2 := by decide
  have st_lo := Int32.le_toInt st
  have st_hi := Int32.toInt_lt st
  generalize hQ9 : tQ _ _ _ _ _ _ = Q9
  refine lv_iload_n hx hb dX3_readSetting_0 rfl (lv_at hl 1 rfl) ?_
  by_cases q1 : st = 0
  · have q1i := gi_eq q1
    refine lv_tableIn (off := 27) (tgt := 28) hx hb dX3_readSetting_1 (by rw [q1]; decide) (by rw [q1]; decide) (by rw [q1]; decide) (by decide) ?_
    refine lv_aload_n hx hb dX3_readSetting_28 rfl (lv_at hl 2 rfl) ?_
    refine lv_aload_n hx hb dX3_readSetting_29 rfl (lv_at hl 0 rfl) ?_
    refine va_ldcS hx hb hown (hX.2.2.1 4 (by decide)) dX3_readSetting_30 ?_
    have hTo := hT
    refine tVi (n := 1) (As := [.ref (kK κ 4)]) (rest := [.ref into]) hx hb hml hown hg hT hK hX (X3_isWord l κ σ0 this 4  (hT.k t_this (by decide)) (by decide) ) sub_fE_fPs (mwV k724 k726 k22 k85 k727) ⟨rfl, by decide, by decide, by decide +kernel⟩ ⟨(Nat.le_of_ble_eq_true rfl), (Nat.le_of_ble_eq_true rfl)⟩ (hT.o6 (hT.k t_this (by decide))) rfl rfl hl.1 rfl (Nat.le_of_ble_eq_true rfl) dX3_readSetting_32 zroom.rf (fun x2 s3 H locs hφ hEs3 hT => ?_)
    have f4 := hφ
    refine lv_if_eq (tgt := 42) hx hb dX3_readSetting_35 (by decide) (fun c9 => ?_) (fun c9 => ?_)
    · have c1 := gi_eq c9
      refine lv_aload_n hx hb dX3_readSetting_42 rfl (lv_at hl 0 rfl) ?_
      refine va_ldcS hx hb hown (hX.2.2.1 5 (by decide)) dX3_readSetting_43 ?_
      have hTo := hT
      refine tVi (n := 1) (As := [.ref (kK κ 5)]) (rest := [.ref into]) hx hb hml hown hg hT hK hX (X3_isWord l κ s3 this 5  (hT.k t_this (by decide)) (by decide) ) sub_fE_fPs (mwV k724 k726 k22 k85 k727) ⟨rfl, by decide, by decide, by decide +kernel⟩ ⟨(Nat.le_of_ble_eq_true rfl), (Nat.le_of_ble_eq_true rfl)⟩ (hT.o6 (hT.k t_this (by decide))) rfl rfl hl.1 rfl (Nat.le_of_ble_eq_true rfl) dX3_readSetting_45 zroom.rf (fun x5 s6 H locs hφ hEs6 hT => ?_)
      have f7 := hφ
      refine lv_if_eq (tgt := 55) hx hb dX3_readSetting_48 (by decide) (fun c9 => ?_) (fun c9 => ?_)
      · have c2 := gi_eq c9
        refine lv_aload_n hx hb dX3_readSetting_55 rfl (lv_at hl 0 rfl) ?_
        refine va_ldcS hx hb hown (hX.2.2.1 6 (by decide)) dX3_readSetting_56 ?_
        have hTo := hT
        refine tVi (n := 1) (As := [.ref (kK κ 6)]) (rest := [.ref into]) hx hb hml hown hg hT hK hX (X3_isWord l κ s6 this 6  (hT.k t_this (by decide)) (by decide) ) sub_fE_fPs (mwV k724 k726 k22 k85 k727) ⟨rfl, by decide, by decide, by decide +kernel⟩ ⟨(Nat.le_of_ble_eq_true rfl), (Nat.le_of_ble_eq_true rfl)⟩ (hT.o6 (hT.k t_this (by decide))) rfl rfl hl.1 rfl (Nat.le_of_ble_eq_true rfl) dX3_readSetting_58 zroom.rf (fun x8 s9 H locs hφ hEs9 hT => ?_)
        have f10 := hφ
        refine lv_if_eq (tgt := 68) hx hb dX3_readSetting_61 (by decide) (fun c9 => ?_) (fun c9 => ?_)
        · have c3 := gi_eq c9
          refine lv_iconst (v := (-1)) hx hb dX3_readSetting_68 (by decide) ?_
          have hTo := hT
          refine pf5_3 hx hb hg hown hK hT (hT.k t_into (by decide)) rfl (hg _ k167) dX3_readSetting_69 (fun H locs s11 hus11 hT => ?_)
          have e12 : zI s11 into 3 = (-1) := zput_at hus11
          refine lv_aload_n hx hb dX3_readSetting_72 rfl (lv_at hl 2 rfl) ?_
          refine va_get (D := κ.1) (ci := 0) (v := .int (zI s11 into 3)) (C := RX0) (T := TX0) (N := 7) hx hb hg inX0 hown hK (hT.o5 (hT.k t_into (by decide))).one 0 rfl rfl 3 (by decide) (hg _ k167) (fun _ h9 => h9) rfl dX3_readSetting_73 ?_
          rw [e12]
          refine lv_iconst (v := (-1)) hx hb dX3_readSetting_76 (by decide) ?_
          refine lv_icmp_ne (tgt := 88) hx hb dX3_readSetting_77 (by decide) (fun c9 => absurd (by decide) c9) (fun _ => ?_)
          refine lv_aload_n hx hb dX3_readSetting_80 rfl (lv_at hl 0 rfl) ?_
          refine lv_iconst (v := 1) hx hb dX3_readSetting_81 (by decide) ?_
          have hTo := hT
          refine tVi (n := 1) (As := [.int 1]) (rest := []) hx hb hml hown hg hT hK hX (X3_isWrong l κ s11 this 1  (hT.k t_this (by decide)) ) sub_fPe_fPs (mwV k779 k781 k23 k85 k782) ⟨rfl, by decide, by decide, by decide +kernel⟩ ⟨(Nat.le_of_ble_eq_true rfl), (Nat.le_of_ble_eq_true rfl)⟩ (hT.o6 (hT.k t_this (by decide))) rfl rfl hl.1 rfl (Nat.le_of_ble_eq_true rfl) dX3_readSetting_82 zroom.rf (fun x13 s14 H locs hφ hEs14 hT => ?_)
          have e12 : zI s14 into 3 = (-1) := ((hTo.k t_into (by decide)).eI hEs14 (by decide) rfl).trans e12
          obtain ⟨f15, f16⟩ := hφ
          refine lv_goto (tgt := 92) hx hb dX3_readSetting_85 (by decide) ?_
          subst hQ9
          exact t_z hx hb hr f16 hlocks hT f16 dX3_readSetting_92
        · have c4 := gi_ne c9
          refine lv_iconst (v := 2) hx hb dX3_readSetting_64 (by decide) ?_
          refine lv_goto (tgt := 69) hx hb dX3_readSetting_65 (by decide) ?_
          have hTo := hT
          refine pf5_3 hx hb hg hown hK hT (hT.k t_into (by decide)) rfl (hg _ k167) dX3_readSetting_69 (fun H locs s17 hus17 hT => ?_)
          have e18 : zI s17 into 3 = 2 := zput_at hus17
          refine lv_aload_n hx hb dX3_readSetting_72 rfl (lv_at hl 2 rfl) ?_
          refine va_get (D := κ.1) (ci := 0) (v := .int (zI s17 into 3)) (C := RX0) (T := TX0) (N := 7) hx hb hg inX0 hown hK (hT.o5 (hT.k t_into (by decide))).one 0 rfl rfl 3 (by decide) (hg _ k167) (fun _ h9 => h9) rfl dX3_readSetting_73 ?_
          rw [e18]
          refine lv_iconst (v := (-1)) hx hb dX3_readSetting_76 (by decide) ?_
          refine lv_icmp_ne (tgt := 88) hx hb dX3_readSetting_77 (by decide) (fun _ => ?_) (fun c9 => absurd c9 (by decide))
          refine lv_aload_n hx hb dX3_readSetting_88 rfl (lv_at hl 0 rfl) ?_
          have hTo := hT
          refine tVi (n := 0) (As := []) (rest := []) hx hb hml hown hg hT hK hX (X3_pass l κ s17 this  (hT.k t_this (by decide)) ) sub_fP_fPs (mwV k697 k699 k17 k85 k700) ⟨rfl, by decide, by decide, by decide +kernel⟩ ⟨(Nat.le_of_ble_eq_true rfl), (Nat.le_of_ble_eq_true rfl)⟩ (hT.o6 (hT.k t_this (by decide))) rfl rfl hl.1 rfl (Nat.le_of_ble_eq_true rfl) dX3_readSetting_89 zroom.rf (fun x19 s20 H locs hφ hEs20 hT => ?_)
          have e18 : zI s20 into 3 = 2 := ((hTo.k t_into (by decide)).eI hEs20 (by decide) rfl).trans e18
          have f21 := hφ
          subst hQ9
          exact t_z hx hb hr f21 hlocks hT f21 dX3_readSetting_92
      · have c5 := gi_ne c9
        refine lv_iconst (v := 1) hx hb dX3_readSetting_51 (by decide) ?_
        refine lv_goto (tgt := 69) hx hb dX3_readSetting_52 (by decide) ?_
        have hTo := hT
        refine pf5_3 hx hb hg hown hK hT (hT.k t_into (by decide)) rfl (hg _ k167) dX3_readSetting_69 (fun H locs s22 hus22 hT => ?_)
        have e23 : zI s22 into 3 = 1 := zput_at hus22
        refine lv_aload_n hx hb dX3_readSetting_72 rfl (lv_at hl 2 rfl) ?_
        refine va_get (D := κ.1) (ci := 0) (v := .int (zI s22 into 3)) (C := RX0) (T := TX0) (N := 7) hx hb hg inX0 hown hK (hT.o5 (hT.k t_into (by decide))).one 0 rfl rfl 3 (by decide) (hg _ k167) (fun _ h9 => h9) rfl dX3_readSetting_73 ?_
        rw [e23]
        refine lv_iconst (v := (-1)) hx hb dX3_readSetting_76 (by decide) ?_
        refine lv_icmp_ne (tgt := 88) hx hb dX3_readSetting_77 (by decide) (fun _ => ?_) (fun c9 => absurd c9 (by decide))
        refine lv_aload_n hx hb dX3_readSetting_88 rfl (lv_at hl 0 rfl) ?_
        have hTo := hT
        refine tVi (n := 0) (As := []) (rest := []) hx hb hml hown hg hT hK hX (X3_pass l κ s22 this  (hT.k t_this (by decide)) ) sub_fP_fPs (mwV k697 k699 k17 k85 k700) ⟨rfl, by decide, by decide, by decide +kernel⟩ ⟨(Nat.le_of_ble_eq_true rfl), (Nat.le_of_ble_eq_true rfl)⟩ (hT.o6 (hT.k t_this (by decide))) rfl rfl hl.1 rfl (Nat.le_of_ble_eq_true rfl) dX3_readSetting_89 zroom.rf (fun x24 s25 H locs hφ hEs25 hT => ?_)
        have e23 : zI s25 into 3 = 1 := ((hTo.k t_into (by decide)).eI hEs25 (by decide) rfl).trans e23
        have f26 := hφ
        subst hQ9
        exact t_z hx hb hr f26 hlocks hT f26 dX3_readSetting_92
    · have c6 := gi_ne c9
      refine lv_iconst (v := 0) hx hb dX3_readSetting_38 (by decide) ?_
      refine lv_goto (tgt := 69) hx hb dX3_readSetting_39 (by decide) ?_
      have hTo := hT
      refine pf5_3 hx hb hg hown hK hT (hT.k t_into (by decide)) rfl (hg _ k167) dX3_readSetting_69 (fun H locs s27 hus27 hT => ?_)
      have e28 : zI s27 into 3 = 0 := zput_at hus27
      refine lv_aload_n hx hb dX3_readSetting_72 rfl (lv_at hl 2 rfl) ?_
      refine va_get (D := κ.1) (ci := 0) (v := .int (zI s27 into 3)) (C := RX0) (T := TX0) (N := 7) hx hb hg inX0 hown hK (hT.o5 (hT.k t_into (by decide))).one 0 rfl rfl 3 (by decide) (hg _ k167) (fun _ h9 => h9) rfl dX3_readSetting_73 ?_
      rw [e28]
      refine lv_iconst (v := (-1)) hx hb dX3_readSetting_76 (by decide) ?_
      refine lv_icmp_ne (tgt := 88) hx hb dX3_readSetting_77 (by decide) (fun _ => ?_) (fun c9 => absurd c9 (by decide))
      refine lv_aload_n hx hb dX3_readSetting_88 rfl (lv_at hl 0 rfl) ?_
      have hTo := hT
      refine tVi (n := 0) (As := []) (rest := []) hx hb hml hown hg hT hK hX (X3_pass l κ s27 this  (hT.k t_this (by decide)) ) sub_fP_fPs (mwV k697 k699 k17 k85 k700) ⟨rfl, by decide, by decide, by decide +kernel⟩ ⟨(Nat.le_of_ble_eq_true rfl), (Nat.le_of_ble_eq_true rfl)⟩ (hT.o6 (hT.k t_this (by decide))) rfl rfl hl.1 rfl (Nat.le_of_ble_eq_true rfl) dX3_readSetting_89 zroom.rf (fun x29 s30 H locs hφ hEs30 hT => ?_)
      have e28 : zI s30 into 3 = 0 := ((hTo.k t_into (by decide)).eI hEs30 (by decide) rfl).trans e28
      have f31 := hφ
      subst hQ9
      exact t_z hx hb hr f31 hlocks hT f31 dX3_readSetting_92
  · have q1i := gi_ne q1
    by_cases q32 : st = 1
    · have q32i := gi_eq q32
      refine lv_tableIn (off := 92) (tgt := 93) hx hb dX3_readSetting_1 (by rw [q32]; decide) (by rw [q32]; decide) (by rw [q32]; decide) (by decide) ?_
      refine lv_aload_n hx hb dX3_readSetting_93 rfl (lv_at hl 2 rfl) ?_
      refine lv_aload_n hx hb dX3_readSetting_94 rfl (lv_at hl 0 rfl) ?_
      refine va_ldcS hx hb hown (hX.2.2.1 7 (by decide)) dX3_readSetting_95 ?_
      have hTo := hT
      refine tVi (n := 1) (As := [.ref (kK κ 7)]) (rest := [.ref into]) hx hb hml hown hg hT hK hX (X3_isWord l κ σ0 this 7  (hT.k t_this (by decide)) (by decide) ) sub_fE_fPs (mwV k724 k726 k22 k85 k727) ⟨rfl, by decide, by decide, by decide +kernel⟩ ⟨(Nat.le_of_ble_eq_true rfl), (Nat.le_of_ble_eq_true rfl)⟩ (hT.o6 (hT.k t_this (by decide))) rfl rfl hl.1 rfl (Nat.le_of_ble_eq_true rfl) dX3_readSetting_97 zroom.rf (fun x33 s34 H locs hφ hEs34 hT => ?_)
      have f35 := hφ
      refine lv_if_eq (tgt := 107) hx hb dX3_readSetting_100 (by decide) (fun c9 => ?_) (fun c9 => ?_)
      · have c7 := gi_eq c9
        refine lv_aload_n hx hb dX3_readSetting_107 rfl (lv_at hl 0 rfl) ?_
        refine va_ldcS hx hb hown (hX.2.2.1 8 (by decide)) dX3_readSetting_108 ?_
        have hTo := hT
        refine tVi (n := 1) (As := [.ref (kK κ 8)]) (rest := [.ref into]) hx hb hml hown hg hT hK hX (X3_isWord l κ s34 this 8  (hT.k t_this (by decide)) (by decide) ) sub_fE_fPs (mwV k724 k726 k22 k85 k727) ⟨rfl, by decide, by decide, by decide +kernel⟩ ⟨(Nat.le_of_ble_eq_true rfl), (Nat.le_of_ble_eq_true rfl)⟩ (hT.o6 (hT.k t_this (by decide))) rfl rfl hl.1 rfl (Nat.le_of_ble_eq_true rfl) dX3_readSetting_110 zroom.rf (fun x36 s37 H locs hφ hEs37 hT => ?_)
        have f38 := hφ
        refine lv_if_eq (tgt := 120) hx hb dX3_readSetting_113 (by decide) (fun c9 => ?_) (fun c9 => ?_)
        · have c8 := gi_eq c9
          refine lv_aload_n hx hb dX3_readSetting_120 rfl (lv_at hl 0 rfl) ?_
          refine va_ldcS hx hb hown (hX.2.2.1 9 (by decide)) dX3_readSetting_121 ?_
          have hTo := hT
          refine tVi (n := 1) (As := [.ref (kK κ 9)]) (rest := [.ref into]) hx hb hml hown hg hT hK hX (X3_isWord l κ s37 this 9  (hT.k t_this (by decide)) (by decide) ) sub_fE_fPs (mwV k724 k726 k22 k85 k727) ⟨rfl, by decide, by decide, by decide +kernel⟩ ⟨(Nat.le_of_ble_eq_true rfl), (Nat.le_of_ble_eq_true rfl)⟩ (hT.o6 (hT.k t_this (by decide))) rfl rfl hl.1 rfl (Nat.le_of_ble_eq_true rfl) dX3_readSetting_123 zroom.rf (fun x39 s40 H locs hφ hEs40 hT => ?_)
          have f41 := hφ
          refine lv_if_eq (tgt := 133) hx hb dX3_readSetting_126 (by decide) (fun c9 => ?_) (fun c9 => ?_)
          · have c9 := gi_eq c9
            refine lv_iconst (v := (-1)) hx hb dX3_readSetting_133 (by decide) ?_
            have hTo := hT
            refine pf5_4 hx hb hg hown hK hT (hT.k t_into (by decide)) rfl (hg _ k170) dX3_readSetting_134 (fun H locs s42 hus42 hT => ?_)
            have e43 : zI s42 into 4 = (-1) := zput_at hus42
            refine lv_aload_n hx hb dX3_readSetting_137 rfl (lv_at hl 2 rfl) ?_
            refine va_get (D := κ.1) (ci := 0) (v := .int (zI s42 into 4)) (C := RX0) (T := TX0) (N := 7) hx hb hg inX0 hown hK (hT.o5 (hT.k t_into (by decide))).one 0 rfl rfl 4 (by decide) (hg _ k170) (fun _ h9 => h9) rfl dX3_readSetting_138 ?_
            rw [e43]
            refine lv_iconst (v := (-1)) hx hb dX3_readSetting_141 (by decide) ?_
            refine lv_icmp_ne (tgt := 153) hx hb dX3_readSetting_142 (by decide) (fun c9 => absurd (by decide) c9) (fun _ => ?_)
            refine lv_aload_n hx hb dX3_readSetting_145 rfl (lv_at hl 0 rfl) ?_
            refine lv_iconst (v := 1) hx hb dX3_readSetting_146 (by decide) ?_
            have hTo := hT
            refine tVi (n := 1) (As := [.int 1]) (rest := []) hx hb hml hown hg hT hK hX (X3_isWrong l κ s42 this 1  (hT.k t_this (by decide)) ) sub_fPe_fPs (mwV k779 k781 k23 k85 k782) ⟨rfl, by decide, by decide, by decide +kernel⟩ ⟨(Nat.le_of_ble_eq_true rfl), (Nat.le_of_ble_eq_true rfl)⟩ (hT.o6 (hT.k t_this (by decide))) rfl rfl hl.1 rfl (Nat.le_of_ble_eq_true rfl) dX3_readSetting_147 zroom.rf (fun x44 s45 H locs hφ hEs45 hT => ?_)
            have e43 : zI s45 into 4 = (-1) := ((hTo.k t_into (by decide)).eI hEs45 (by decide) rfl).trans e43
            obtain ⟨f46, f47⟩ := hφ
            refine lv_goto (tgt := 157) hx hb dX3_readSetting_150 (by decide) ?_
            subst hQ9
            exact t_z hx hb hr f47 hlocks hT f47 dX3_readSetting_157
          · have c10 := gi_ne c9
            refine lv_iconst (v := 2) hx hb dX3_readSetting_129 (by decide) ?_
            refine lv_goto (tgt := 134) hx hb dX3_readSetting_130 (by decide) ?_
            have hTo := hT
            refine pf5_4 hx hb hg hown hK hT (hT.k t_into (by decide)) rfl (hg _ k170) dX3_readSetting_134 (fun H locs s48 hus48 hT => ?_)
            have e49 : zI s48 into 4 = 2 := zput_at hus48
            refine lv_aload_n hx hb dX3_readSetting_137 rfl (lv_at hl 2 rfl) ?_
            refine va_get (D := κ.1) (ci := 0) (v := .int (zI s48 into 4)) (C := RX0) (T := TX0) (N := 7) hx hb hg inX0 hown hK (hT.o5 (hT.k t_into (by decide))).one 0 rfl rfl 4 (by decide) (hg _ k170) (fun _ h9 => h9) rfl dX3_readSetting_138 ?_
            rw [e49]
            refine lv_iconst (v := (-1)) hx hb dX3_readSetting_141 (by decide) ?_
            refine lv_icmp_ne (tgt := 153) hx hb dX3_readSetting_142 (by decide) (fun _ => ?_) (fun c9 => absurd c9 (by decide))
            refine lv_aload_n hx hb dX3_readSetting_153 rfl (lv_at hl 0 rfl) ?_
            have hTo := hT
            refine tVi (n := 0) (As := []) (rest := []) hx hb hml hown hg hT hK hX (X3_pass l κ s48 this  (hT.k t_this (by decide)) ) sub_fP_fPs (mwV k697 k699 k17 k85 k700) ⟨rfl, by decide, by decide, by decide +kernel⟩ ⟨(Nat.le_of_ble_eq_true rfl), (Nat.le_of_ble_eq_true rfl)⟩ (hT.o6 (hT.k t_this (by decide))) rfl rfl hl.1 rfl (Nat.le_of_ble_eq_true rfl) dX3_readSetting_154 zroom.rf (fun x50 s51 H locs hφ hEs51 hT => ?_)
            have e49 : zI s51 into 4 = 2 := ((hTo.k t_into (by decide)).eI hEs51 (by decide) rfl).trans e49
            have f52 := hφ
            subst hQ9
            exact t_z hx hb hr f52 hlocks hT f52 dX3_readSetting_157
        · have c11 := gi_ne c9
          refine lv_iconst (v := 1) hx hb dX3_readSetting_116 (by decide) ?_
          refine lv_goto (tgt := 134) hx hb dX3_readSetting_117 (by decide) ?_
          have hTo := hT
          refine pf5_4 hx hb hg hown hK hT (hT.k t_into (by decide)) rfl (hg _ k170) dX3_readSetting_134 (fun H locs s53 hus53 hT => ?_)
          have e54 : zI s53 into 4 = 1 := zput_at hus53
          refine lv_aload_n hx hb dX3_readSetting_137 rfl (lv_at hl 2 rfl) ?_
          refine va_get (D := κ.1) (ci := 0) (v := .int (zI s53 into 4)) (C := RX0) (T := TX0) (N := 7) hx hb hg inX0 hown hK (hT.o5 (hT.k t_into (by decide))).one 0 rfl rfl 4 (by decide) (hg _ k170) (fun _ h9 => h9) rfl dX3_readSetting_138 ?_
          rw [e54]
          refine lv_iconst (v := (-1)) hx hb dX3_readSetting_141 (by decide) ?_
          refine lv_icmp_ne (tgt := 153) hx hb dX3_readSetting_142 (by decide) (fun _ => ?_) (fun c9 => absurd c9 (by decide))
          refine lv_aload_n hx hb dX3_readSetting_153 rfl (lv_at hl 0 rfl) ?_
          have hTo := hT
          refine tVi (n := 0) (As := []) (rest := []) hx hb hml hown hg hT hK hX (X3_pass l κ s53 this  (hT.k t_this (by decide)) ) sub_fP_fPs (mwV k697 k699 k17 k85 k700) ⟨rfl, by decide, by decide, by decide +kernel⟩ ⟨(Nat.le_of_ble_eq_true rfl), (Nat.le_of_ble_eq_true rfl)⟩ (hT.o6 (hT.k t_this (by decide))) rfl rfl hl.1 rfl (Nat.le_of_ble_eq_true rfl) dX3_readSetting_154 zroom.rf (fun x55 s56 H locs hφ hEs56 hT => ?_)
          have e54 : zI s56 into 4 = 1 := ((hTo.k t_into (by decide)).eI hEs56 (by decide) rfl).trans e54
          have f57 := hφ
          subst hQ9
          exact t_z hx hb hr f57 hlocks hT f57 dX3_readSetting_157
      · have c12 := gi_ne c9
        refine lv_iconst (v := 0) hx hb dX3_readSetting_103 (by decide) ?_
        refine lv_goto (tgt := 134) hx hb dX3_readSetting_104 (by decide) ?_
        have hTo := hT
        refine pf5_4 hx hb hg hown hK hT (hT.k t_into (by decide)) rfl (hg _ k170) dX3_readSetting_134 (fun H locs s58 hus58 hT => ?_)
        have e59 : zI s58 into 4 = 0 := zput_at hus58
        refine lv_aload_n hx hb dX3_readSetting_137 rfl (lv_at hl 2 rfl) ?_
        refine va_get (D := κ.1) (ci := 0) (v := .int (zI s58 into 4)) (C := RX0) (T := TX0) (N := 7) hx hb hg inX0 hown hK (hT.o5 (hT.k t_into (by decide))).one 0 rfl rfl 4 (by decide) (hg _ k170) (fun _ h9 => h9) rfl dX3_readSetting_138 ?_
        rw [e59]
        refine lv_iconst (v := (-1)) hx hb dX3_readSetting_141 (by decide) ?_
        refine lv_icmp_ne (tgt := 153) hx hb dX3_readSetting_142 (by decide) (fun _ => ?_) (fun c9 => absurd c9 (by decide))
        refine lv_aload_n hx hb dX3_readSetting_153 rfl (lv_at hl 0 rfl) ?_
        have hTo := hT
        refine tVi (n := 0) (As := []) (rest := []) hx hb hml hown hg hT hK hX (X3_pass l κ s58 this  (hT.k t_this (by decide)) ) sub_fP_fPs (mwV k697 k699 k17 k85 k700) ⟨rfl, by decide, by decide, by decide +kernel⟩ ⟨(Nat.le_of_ble_eq_true rfl), (Nat.le_of_ble_eq_true rfl)⟩ (hT.o6 (hT.k t_this (by decide))) rfl rfl hl.1 rfl (Nat.le_of_ble_eq_true rfl) dX3_readSetting_154 zroom.rf (fun x60 s61 H locs hφ hEs61 hT => ?_)
        have e59 : zI s61 into 4 = 0 := ((hTo.k t_into (by decide)).eI hEs61 (by decide) rfl).trans e59
        have f62 := hφ
        subst hQ9
        exact t_z hx hb hr f62 hlocks hT f62 dX3_readSetting_157
    · have q32i := gi_ne q32
      by_cases q63 : st = 2
      · have q63i := gi_eq q63
        refine lv_tableIn (off := 157) (tgt := 158) hx hb dX3_readSetting_1 (by rw [q63]; decide) (by rw [q63]; decide) (by rw [q63]; decide) (by decide) ?_
        refine lv_aload_n hx hb dX3_readSetting_158 rfl (lv_at hl 2 rfl) ?_
        refine lv_aload_n hx hb dX3_readSetting_159 rfl (lv_at hl 0 rfl) ?_
        refine va_ldcS hx hb hown (hX.2.2.1 10 (by decide)) dX3_readSetting_160 ?_
        have hTo := hT
        refine tVi (n := 1) (As := [.ref (kK κ 10)]) (rest := [.ref into]) hx hb hml hown hg hT hK hX (X3_isWord l κ σ0 this 10  (hT.k t_this (by decide)) (by decide) ) sub_fE_fPs (mwV k724 k726 k22 k85 k727) ⟨rfl, by decide, by decide, by decide +kernel⟩ ⟨(Nat.le_of_ble_eq_true rfl), (Nat.le_of_ble_eq_true rfl)⟩ (hT.o6 (hT.k t_this (by decide))) rfl rfl hl.1 rfl (Nat.le_of_ble_eq_true rfl) dX3_readSetting_162 zroom.rf (fun x64 s65 H locs hφ hEs65 hT => ?_)
        have f66 := hφ
        have hTo := hT
        refine pf5_5 hx hb hg hown hK hT (hT.k t_into (by decide)) rfl f66 (hg _ k173) dX3_readSetting_165 (fun H locs s67 hus67 hT => ?_)
        have e68 : zI s67 into 5 = x64 := zput_at hus67
        refine lv_aload_n hx hb dX3_readSetting_168 rfl (lv_at hl 2 rfl) ?_
        refine va_get (D := κ.1) (ci := 0) (v := .int (zI s67 into 5)) (C := RX0) (T := TX0) (N := 7) hx hb hg inX0 hown hK (hT.o5 (hT.k t_into (by decide))).one 0 rfl rfl 5 (by decide) (hg _ k173) (fun _ h9 => h9) rfl dX3_readSetting_169 ?_
        rw [e68]
        refine lv_if_ne (tgt := 184) hx hb dX3_readSetting_172 (by decide) (fun c9 => ?_) (fun c9 => ?_)
        · have c13 := gi_ne c9
          refine lv_aload_n hx hb dX3_readSetting_184 rfl (lv_at hl 0 rfl) ?_
          have hTo := hT
          refine tVi (n := 0) (As := []) (rest := []) hx hb hml hown hg hT hK hX (X3_pass l κ s67 this  (hT.k t_this (by decide)) ) sub_fP_fPs (mwV k697 k699 k17 k85 k700) ⟨rfl, by decide, by decide, by decide +kernel⟩ ⟨(Nat.le_of_ble_eq_true rfl), (Nat.le_of_ble_eq_true rfl)⟩ (hT.o6 (hT.k t_this (by decide))) rfl rfl hl.1 rfl (Nat.le_of_ble_eq_true rfl) dX3_readSetting_185 zroom.rf (fun x69 s70 H locs hφ hEs70 hT => ?_)
          have e68 : zI s70 into 5 = x64 := ((hTo.k t_into (by decide)).eI hEs70 (by decide) rfl).trans e68
          have f71 := hφ
          refine lv_goto (tgt := 196) hx hb dX3_readSetting_188 (by decide) ?_
          subst hQ9
          exact t_z hx hb hr f71 hlocks hT f71 dX3_readSetting_196
        · have c14 := gi_eq c9
          refine lv_aload_n hx hb dX3_readSetting_175 rfl (lv_at hl 0 rfl) ?_
          refine va_ldcS hx hb hown (hX.2.2.1 11 (by decide)) dX3_readSetting_176 ?_
          have hTo := hT
          refine tVi (n := 1) (As := [.ref (kK κ 11)]) (rest := []) hx hb hml hown hg hT hK hX (X3_isWord l κ s67 this 11  (hT.k t_this (by decide)) (by decide) ) sub_fE_fPs (mwV k724 k726 k22 k85 k727) ⟨rfl, by decide, by decide, by decide +kernel⟩ ⟨(Nat.le_of_ble_eq_true rfl), (Nat.le_of_ble_eq_true rfl)⟩ (hT.o6 (hT.k t_this (by decide))) rfl rfl hl.1 rfl (Nat.le_of_ble_eq_true rfl) dX3_readSetting_178 zroom.rf (fun x72 s73 H locs hφ hEs73 hT => ?_)
          have e68 : zI s73 into 5 = x64 := ((hTo.k t_into (by decide)).eI hEs73 (by decide) rfl).trans e68
          have f74 := hφ
          refine lv_if_eq (tgt := 191) hx hb dX3_readSetting_181 (by decide) (fun c9 => ?_) (fun c9 => ?_)
          · have c15 := gi_eq c9
            refine lv_aload_n hx hb dX3_readSetting_191 rfl (lv_at hl 0 rfl) ?_
            refine lv_iconst (v := 1) hx hb dX3_readSetting_192 (by decide) ?_
            have hTo := hT
            refine tVi (n := 1) (As := [.int 1]) (rest := []) hx hb hml hown hg hT hK hX (X3_isWrong l κ s73 this 1  (hT.k t_this (by decide)) ) sub_fPe_fPs (mwV k779 k781 k23 k85 k782) ⟨rfl, by decide, by decide, by decide +kernel⟩ ⟨(Nat.le_of_ble_eq_true rfl), (Nat.le_of_ble_eq_true rfl)⟩ (hT.o6 (hT.k t_this (by decide))) rfl rfl hl.1 rfl (Nat.le_of_ble_eq_true rfl) dX3_readSetting_193 zroom.rf (fun x75 s76 H locs hφ hEs76 hT => ?_)
            have e68 : zI s76 into 5 = x64 := ((hTo.k t_into (by decide)).eI hEs76 (by decide) rfl).trans e68
            obtain ⟨f77, f78⟩ := hφ
            subst hQ9
            exact t_z hx hb hr f78 hlocks hT f78 dX3_readSetting_196
          · have c16 := gi_ne c9
            refine lv_aload_n hx hb dX3_readSetting_184 rfl (lv_at hl 0 rfl) ?_
            have hTo := hT
            refine tVi (n := 0) (As := []) (rest := []) hx hb hml hown hg hT hK hX (X3_pass l κ s73 this  (hT.k t_this (by decide)) ) sub_fP_fPs (mwV k697 k699 k17 k85 k700) ⟨rfl, by decide, by decide, by decide +kernel⟩ ⟨(Nat.le_of_ble_eq_true rfl), (Nat.le_of_ble_eq_true rfl)⟩ (hT.o6 (hT.k t_this (by decide))) rfl rfl hl.1 rfl (Nat.le_of_ble_eq_true rfl) dX3_readSetting_185 zroom.rf (fun x79 s80 H locs hφ hEs80 hT => ?_)
            have e68 : zI s80 into 5 = x64 := ((hTo.k t_into (by decide)).eI hEs80 (by decide) rfl).trans e68
            have f81 := hφ
            refine lv_goto (tgt := 196) hx hb dX3_readSetting_188 (by decide) ?_
            subst hQ9
            exact t_z hx hb hr f81 hlocks hT f81 dX3_readSetting_196
      · have q63i := gi_ne q63
        refine lv_tableOut (tgt := 197) hx hb dX3_readSetting_1 (by omega) (by decide) ?_
        refine lv_aload_n hx hb dX3_readSetting_197 rfl (lv_at hl 0 rfl) ?_
        refine lv_aload_n hx hb dX3_readSetting_198 rfl (lv_at hl 2 rfl) ?_
        have hTo := hT
        refine tVi (n := 1) (As := [.ref into]) (rest := []) hx hb hml hown hg hT hK hX (X3_readLeast l κ σ0 this into  (hT.k t_this (by decide)) (hT.k t_into (by decide)) ) (fun _ _ h => h) (mwV k795 k797 k25 k85 k798) ⟨rfl, by decide, by decide, by decide +kernel⟩ ⟨(Nat.le_of_ble_eq_true rfl), (Nat.le_of_ble_eq_true rfl)⟩ (hT.o6 (hT.k t_this (by decide))) rfl rfl hl.1 rfl (Nat.le_of_ble_eq_true rfl) dX3_readSetting_199 zroom.rf (fun x82 s83 H locs hφ hEs83 hT => ?_)
        have f84 := hφ
        subst hQ9
        exact t_z hx hb hr f84 hlocks hT f84 dX3_readSetting_202
set_option maxHeartbeats 4000000 in
set_option maxRecDepth 100000 in
theorem X3_readSettings (l : Launch) (κ : Kt) (σ0 : Gh) (this : Nat) (into : Nat) (t_this : zk σ0 this 6) (t_into : zk σ0 into 5) : TC l yX3_readSettings cX3_readSettings 5 (some .boolean) 6 129 [.ref this, .ref into] κ σ0 (tqi κ fPs σ0 (fun (r : Int32) (τ : Gh) => (isB r))) := by
  refine TC.of fPs (by decide +kernel) (Nat.le_of_ble_eq_true rfl) ?_
  intro p e s m below meth c ls hcs hK hX hT hl
  obtain ⟨hx, hb, hr, hml, hown, hg, hlocks, hin⟩ := hcs
  have hown : s.vm.findClass RX3 = some m.cls := hown
  have hl : lv_has ls 5 [(0, .ref this), (1, .ref into)] := hl
  have hT0 := hT
  have nm1 : ((-1) : Int32).toInt = (-1) := by decide
  have n0 : (0 : Int32).toInt = 0 := by decide
  have n1 : (1 : Int32).toInt = 1 := by decide
  have n3 : (3 : Int32).toInt = 3 := by decide
  have n4 : (4 : Int32).toInt = 4 := by decide
  generalize hQ9 : tQ _ _ _ _ _ _ = Q9
  refine lv_iconst (v := 0) hx hb dX3_readSettings_0 (by decide) ?_
  refine lv_istore_n (lv' := [(2, .int 0), (0, .ref this), (1, .ref into)]) hx hb dX3_readSettings_1 rfl hl (by decide) rfl (fun ls hl => ?_)
  refine lv_iconst (v := 0) hx hb dX3_readSettings_2 (by decide) ?_
  refine lv_istore_n (lv' := [(3, .int 0), (2, .int 0), (0, .ref this), (1, .ref into)]) hx hb dX3_readSettings_3 rfl hl (by decide) rfl (fun ls hl => ?_)
  have loop4 : ∀ (n9 : Nat) (sn : Int32) (i : Int32) (H : Heap) (locs : List Loc) (sg : Gh) (ls : Array Slot), TS κ fPs σ0 sg s H locs → (0 ≤ i.toInt) → (i.toInt ≤ 5) → lv_has ls 5 [(2, .int sn), (3, .int i), (0, .ref this), (1, .ref into)] → (5 - i.toInt) < n9 → tW p l e 6 129 κ s m #[.ref this, .ref into] below meth c H locs Q9 (F0 m 4 ls []) := by
    intro n9
    induction n9 with
    | zero =>
      intro sn i H locs sg ls hT q1 q2 hl hm9
      exfalso
      omega
    | succ n9 ih9 =>
      have ih4 := ih9
      clear ih9
      intro sn i H locs s1 ls hT q1 q2 hl hm9
      refine lv_iload_n hx hb dX3_readSettings_4 rfl (lv_at hl 1 rfl) ?_
      refine lv_iconst (v := 4) hx hb dX3_readSettings_5 (by decide) ?_
      refine lv_icmp_gt (tgt := 75) hx hb dX3_readSettings_6 (by decide) (fun c9 => ?_) (fun c9 => ?_)
      · have c1 := gi_lt c9
        refine lv_iconst (v := 1) hx hb dX3_readSettings_75 (by decide) ?_
        subst hQ9
        exact t_z hx hb hr isB1 hlocks hT isB1 dX3_readSettings_76
      · have c2 := gi_nlt c9
        refine lv_aload_n hx hb dX3_readSettings_9 rfl (lv_at hl 2 rfl) ?_
        have hTo := hT
        refine tVi (n := 0) (As := []) (rest := []) hx hb hml hown hg hT hK hX (X3_settingHere l κ s1 this  (hT.k t_this (by decide)) ) sub_fE_fPs (mwV k719 k721 k21 k85 k722) ⟨rfl, by decide, by decide, by decide +kernel⟩ ⟨(Nat.le_of_ble_eq_true rfl), (Nat.le_of_ble_eq_true rfl)⟩ (hT.o6 (hT.k t_this (by decide))) rfl rfl hl.1 rfl (Nat.le_of_ble_eq_true rfl) dX3_readSettings_10 zroom.rf (fun x2 s3 H locs hφ hEs3 hT => ?_)
        obtain ⟨f4, f5⟩ := hφ
        refine lv_istore (lv' := [(4, .int x2), (2, .int sn), (3, .int i), (0, .ref this), (1, .ref into)]) hx hb dX3_readSettings_13 hl (by decide) rfl (fun ls hl => ?_)
        refine lv_iload hx hb dX3_readSettings_15 (lv_at hl 0 rfl) ?_
        refine lv_iconst (v := (-1)) hx hb dX3_readSettings_17 (by decide) ?_
        refine lv_icmp_ne (tgt := 23) hx hb dX3_readSettings_18 (by decide) (fun c9 => ?_) (fun c9 => ?_)
        · have c3 := gi_ne c9
          refine lv_iload_n hx hb dX3_readSettings_23 rfl (lv_at hl 1 rfl) ?_
          refine lv_iload hx hb dX3_readSettings_24 (lv_at hl 0 rfl) ?_
          refine lv_ishr hx hb dX3_readSettings_26 ?_
          refine lv_topi (fun t6 ht6 => ?_)
          refine lv_iconst (v := 1) hx hb dX3_readSettings_27 (by decide) ?_
          refine lv_iand hx hb dX3_readSettings_28 ?_
          refine lv_topi (fun t7 ht7 => ?_)
          refine lv_if_eq (tgt := 38) hx hb dX3_readSettings_29 (by decide) (fun c9 => ?_) (fun c9 => ?_)
          · have c4 := gi_eq c9
            refine lv_iload_n hx hb dX3_readSettings_38 rfl (lv_at hl 1 rfl) ?_
            refine lv_iconst (v := 1) hx hb dX3_readSettings_39 (by decide) ?_
            refine lv_iload hx hb dX3_readSettings_40 (lv_at hl 0 rfl) ?_
            refine lv_ishl hx hb dX3_readSettings_42 ?_
            refine lv_topi (fun t8 ht8 => ?_)
            refine lv_ior hx hb dX3_readSettings_43 ?_
            refine lv_topi (fun t9 ht9 => ?_)
            refine lv_istore_n (lv' := [(2, .int t9), (4, .int x2), (3, .int i), (0, .ref this), (1, .ref into)]) hx hb dX3_readSettings_44 rfl hl (by decide) rfl (fun ls hl => ?_)
            refine lv_aload_n hx hb dX3_readSettings_45 rfl (lv_at hl 3 rfl) ?_
            have hTo := hT
            refine tVi (n := 0) (As := []) (rest := []) hx hb hml hown hg hT hK hX (X3_pass l κ s3 this  (hT.k t_this (by decide)) ) sub_fP_fPs (mwV k697 k699 k17 k85 k700) ⟨rfl, by decide, by decide, by decide +kernel⟩ ⟨(Nat.le_of_ble_eq_true rfl), (Nat.le_of_ble_eq_true rfl)⟩ (hT.o6 (hT.k t_this (by decide))) rfl rfl hl.1 rfl (Nat.le_of_ble_eq_true rfl) dX3_readSettings_46 zroom.rf (fun x10 s11 H locs hφ hEs11 hT => ?_)
            have f12 := hφ
            refine lv_pop hx hb dX3_readSettings_49 rfl ?_
            refine lv_aload_n hx hb dX3_readSettings_50 rfl (lv_at hl 3 rfl) ?_
            refine lv_iload hx hb dX3_readSettings_51 (lv_at hl 1 rfl) ?_
            refine lv_aload_n hx hb dX3_readSettings_53 rfl (lv_at hl 4 rfl) ?_
            have hTo := hT
            refine tVi (n := 2) (As := [.int x2, .ref into]) (rest := []) hx hb hml hown hg hT hK hX (X3_readSetting l κ s11 this x2 into  (hT.k t_this (by decide)) (hT.k t_into (by decide)) ) (fun _ _ h => h) (mwV k783 k785 k24 k85 k786) ⟨rfl, by decide, by decide, by decide +kernel⟩ ⟨(Nat.le_of_ble_eq_true rfl), (Nat.le_of_ble_eq_true rfl)⟩ (hT.o6 (hT.k t_this (by decide))) rfl rfl hl.1 rfl (Nat.le_of_ble_eq_true rfl) dX3_readSettings_54 zroom.rf (fun x13 s14 H locs hφ hEs14 hT => ?_)
            have f15 := hφ
            refine lv_if_eq (tgt := 67) hx hb dX3_readSettings_57 (by decide) (fun c9 => ?_) (fun c9 => ?_)
            · have c5 := gi_eq c9
              refine lv_iconst (v := 0) hx hb dX3_readSettings_67 (by decide) ?_
              subst hQ9
              exact t_z hx hb hr isB0 hlocks hT isB0 dX3_readSettings_68
            · have c6 := gi_ne c9
              refine lv_aload_n hx hb dX3_readSettings_60 rfl (lv_at hl 3 rfl) ?_
              have hTo := hT
              refine tVi (n := 0) (As := []) (rest := []) hx hb hml hown hg hT hK hX (X3_passSemicolon l κ s14 this  (hT.k t_this (by decide)) ) sub_fPe_fPs (mwV k799 k801 k26 k85 k802) ⟨rfl, by decide, by decide, by decide +kernel⟩ ⟨(Nat.le_of_ble_eq_true rfl), (Nat.le_of_ble_eq_true rfl)⟩ (hT.o6 (hT.k t_this (by decide))) rfl rfl hl.1 rfl (Nat.le_of_ble_eq_true rfl) dX3_readSettings_61 zroom.rf (fun x16 s17 H locs hφ hEs17 hT => ?_)
              have f18 := hφ
              refine lv_if_ne (tgt := 69) hx hb dX3_readSettings_64 (by decide) (fun c9 => ?_) (fun c9 => ?_)
              · have c7 := gi_ne c9
                obtain ⟨t19, qt19⟩ : ∃ zz9 : Int32, i + Int32.ofInt 1 = zz9 := ⟨_, rfl⟩
                refine lv_iinc (v := t19) (lv' := [(3, .int t19), (2, .int t9), (4, .int x2), (0, .ref this), (1, .ref into)]) hx hb dX3_readSettings_69 hl (k := 2) rfl qt19 (by decide) rfl (fun ls hl => ?_)
                have ht19 : t19.toInt = i.toInt + 1 := by rw [← qt19]; exact v_addi rfl (show (Int32.ofInt 1).toInt = 1 from by decide) (by omega) (by omega)
                refine lv_goto (tgt := 4) hx hb dX3_readSettings_72 (by decide) ?_
                exact ih4 t9 t19 _ _ _ _ hT  (by omega) (by omega) (lv_sub hl [1, 0, 3, 4] rfl) (by omega)
              · have c8 := gi_eq c9
                refine lv_iconst (v := 0) hx hb dX3_readSettings_67 (by decide) ?_
                subst hQ9
                exact t_z hx hb hr isB0 hlocks hT isB0 dX3_readSettings_68
          · have c9 := gi_ne c9
            refine lv_aload_n hx hb dX3_readSettings_32 rfl (lv_at hl 3 rfl) ?_
            refine lv_iconst (v := 3) hx hb dX3_readSettings_33 (by decide) ?_
            have hTo := hT
            refine tVi (n := 1) (As := [.int 3]) (rest := []) hx hb hml hown hg hT hK hX (X3_isWrong l κ s3 this 3  (hT.k t_this (by decide)) ) sub_fPe_fPs (mwV k779 k781 k23 k85 k782) ⟨rfl, by decide, by decide, by decide +kernel⟩ ⟨(Nat.le_of_ble_eq_true rfl), (Nat.le_of_ble_eq_true rfl)⟩ (hT.o6 (hT.k t_this (by decide))) rfl rfl hl.1 rfl (Nat.le_of_ble_eq_true rfl) dX3_readSettings_34 zroom.rf (fun x20 s21 H locs hφ hEs21 hT => ?_)
            obtain ⟨f22, f23⟩ := hφ
            subst hQ9
            exact t_z hx hb hr f23 hlocks hT f23 dX3_readSettings_37
        · have c10 := gi_eq c9
          refine lv_iconst (v := 1) hx hb dX3_readSettings_21 (by decide) ?_
          subst hQ9
          exact t_z hx hb hr isB1 hlocks hT isB1 dX3_readSettings_22
  exact loop4 ((5 - (0 : Int32).toInt).toNat + 1) 0 0 _ _ _ _ hT  (by omega) (by omega) (lv_sub hl [1, 0, 2, 3] rfl) (by omega)
