/-! Whole over any state: small methods -/
def fE : Nat → Nat → Bool := fun t k => false
def fX : Nat → Nat → Bool := fun t k => (t == 1 && !(k == 0)) || decide (100 ≤ t)
theorem fL_fX {n : Nat} : ∀ k, fX (100 + n) k = true := by intro k; unfold fX; simp <;> omega
def fM : Nat → Nat → Bool := fun t k => (t == 1 && k == 0) || decide (100 ≤ t)
theorem fL_fM {n : Nat} : ∀ k, fM (100 + n) k = true := by intro k; unfold fM; simp <;> omega
def fW : Nat → Nat → Bool := fun t k => t == 1 || decide (100 ≤ t)
theorem fL_fW {n : Nat} : ∀ k, fW (100 + n) k = true := by intro k; unfold fW; simp <;> omega
def fDr : Nat → Nat → Bool := fun t k => t == 5 || (t == 17 || t == 18)
def fSrc : Nat → Nat → Bool := fun t k => t == 4 || (t == 8 || t == 16)
def fSp : Nat → Nat → Bool := fun t k => t == 2 || (t == 1 || decide (100 ≤ t))
theorem fL_fSp {n : Nat} : ∀ k, fSp (100 + n) k = true := by intro k; unfold fSp; simp <;> omega
def fBe : Nat → Nat → Bool := fun t k => (t == 3 && k == 5) || (t == 9 || (t == 15 || (t == 1 || decide (100 ≤ t))))
theorem fL_fBe {n : Nat} : ∀ k, fBe (100 + n) k = true := by intro k; unfold fBe; simp <;> omega
def fSet : Nat → Nat → Bool := fun t k => t == 3 && (k == 7 || (k == 8 || k == 9))
def fIn : Nat → Nat → Bool := fun t k => t == 9 || (t == 15 || (t == 1 || decide (100 ≤ t)))
theorem fL_fIn {n : Nat} : ∀ k, fIn (100 + n) k = true := by intro k; unfold fIn; simp <;> omega
def fLi : Nat → Nat → Bool := fun t k => (t == 3 && k == 5) || (t == 2 || (t == 9 || (t == 15 || (t == 1 || decide (100 ≤ t)))))
theorem fL_fLi {n : Nat} : ∀ k, fLi (100 + n) k = true := by intro k; unfold fLi; simp <;> omega
def fCp : Nat → Nat → Bool := fun t k => t == 3 || (t == 2 || (t == 9 || (t == 15 || (t == 1 || decide (100 ≤ t)))))
theorem fL_fCp {n : Nat} : ∀ k, fCp (100 + n) k = true := by intro k; unfold fCp; simp <;> omega
def fT1 : Nat → Nat → Bool := fun t k => (t == 6 && k == 1) || t == 14
def fP : Nat → Nat → Bool := fun t k => t == 6 && decide (4 ≤ k)
def fPe : Nat → Nat → Bool := fun t k => t == 6 && decide (2 ≤ k)
def fPs : Nat → Nat → Bool := fun t k => (t == 6 && decide (2 ≤ k)) || (t == 5 && decide (3 ≤ k))
def fRd : Nat → Nat → Bool := fun t k => (t == 6 && decide (2 ≤ k)) || (t == 5 || (t == 17 || t == 18))
def fRf : Nat → Nat → Bool := fun t k => t == 7 && decide (7 ≤ k)
def fTr : Nat → Nat → Bool := fun t k => t == 6 && k == 1
def fWr : Nat → Nat → Bool := fun t k => (t == 7 && decide (7 ≤ k)) || (t == 1 || decide (100 ≤ t))
theorem fL_fWr {n : Nat} : ∀ k, fWr (100 + n) k = true := by intro k; unfold fWr; simp <;> omega
def fLr : Nat → Nat → Bool := fun t k => (t == 7 && decide (7 ≤ k)) || ((t == 3 && k == 5) || (t == 2 || (t == 9 || (t == 15 || (t == 1 || decide (100 ≤ t))))))
theorem fL_fLr {n : Nat} : ∀ k, fLr (100 + n) k = true := by intro k; unfold fLr; simp <;> omega
def fSv : Nat → Nat → Bool := fun t k => t == 13 || (t == 3 || (t == 2 || (t == 9 || (t == 15 || (t == 1 || decide (100 ≤ t))))))
theorem fL_fSv {n : Nat} : ∀ k, fSv (100 + n) k = true := by intro k; unfold fSv; simp <;> omega
def fLd : Nat → Nat → Bool := fun t k => t == 6 || (t == 5 || (t == 17 || (t == 18 || (t == 4 || (t == 8 || (t == 16 || (t == 3 || (t == 9 || (t == 15 || (t == 13 || (t == 1 || decide (100 ≤ t))))))))))))
theorem fL_fLd {n : Nat} : ∀ k, fLd (100 + n) k = true := by intro k; unfold fLd; simp <;> omega
def gR : Nat → Nat → Bool := fun t k => t == 20 && (k == 0 || (k == 9 || (k == 10 || k == 11)))
def gW : Nat → Nat → Bool := fun t k => t == 21 && decide (3 ≤ k)
theorem ge3_gW : ∀ k, 3 ≤ k → gW 21 k = true := by intro k h; simp [gW, h]
theorem lt3_gW : ∀ k, k < 3 → gW 21 k = false := by intro k h; simp [gW] <;> omega
def gX : Nat → Nat → Bool := fun t k => (t == 21 && decide (3 ≤ k)) || (t == 20 && (k == 0 || (k == 9 || (k == 10 || k == 11))))
theorem ge3_gX : ∀ k, 3 ≤ k → gX 21 k = true := by intro k h; simp [gX, h]
theorem lt3_gX : ∀ k, k < 3 → gX 21 k = false := by intro k h; simp [gX] <;> omega
def gA : Nat → Nat → Bool := fun t k => t == 30
def gY : Nat → Nat → Bool := fun t k => (t == 21 && decide (3 ≤ k)) || t == 30
theorem ge3_gY : ∀ k, 3 ≤ k → gY 21 k = true := by intro k h; simp [gY, h]
theorem lt3_gY : ∀ k, k < 3 → gY 21 k = false := by intro k h; simp [gY] <;> omega
def gZ : Nat → Nat → Bool := fun t k => (t == 21 && decide (3 ≤ k)) || (t == 30 || (t == 20 && (k == 0 || (k == 9 || (k == 10 || k == 11)))))
theorem ge3_gZ : ∀ k, 3 ≤ k → gZ 21 k = true := by intro k h; simp [gZ, h]
theorem lt3_gZ : ∀ k, k < 3 → gZ 21 k = false := by intro k h; simp [gZ] <;> omega
def gWb : Nat → Nat → Bool := fun t k => t == 21
def gXs : Nat → Nat → Bool := fun t k => t == 21 || (t == 20 && (k == 0 || (k == 9 || (k == 10 || k == 11))))
def gYb : Nat → Nat → Bool := fun t k => t == 21 || t == 30
def gZb : Nat → Nat → Bool := fun t k => t == 21 || (t == 30 || (t == 20 && (k == 0 || (k == 9 || (k == 10 || k == 11)))))
def gS : Nat → Nat → Bool := fun t k => t == 22 || (t == 29 || (t == 20 && (k == 0 || (k == 9 || (k == 10 || k == 11)))))
def gH : Nat → Nat → Bool := fun t k => t == 20 && (k == 14)
def gB : Nat → Nat → Bool := fun t k => t == 20 && ((decide (15 ≤ k) && decide (k ≤ 17)))
def gHB : Nat → Nat → Bool := fun t k => t == 20 && ((decide (14 ≤ k) && decide (k ≤ 17)))
def gBe : Nat → Nat → Bool := fun t k => t == 20 && ((decide (14 ≤ k) && decide (k ≤ 17)) || (k == 23))
def gN : Nat → Nat → Bool := fun t k => t == 20 && ((decide (14 ≤ k) && decide (k ≤ 17)) || (k == 24))
def gS1 : Nat → Nat → Bool := fun t k => t == 20 && ((decide (14 ≤ k) && decide (k ≤ 17)) || ((decide (19 ≤ k) && decide (k ≤ 24))))
def gS2 : Nat → Nat → Bool := fun t k => t == 28 || (t == 27 || (t == 20 && ((decide (14 ≤ k) && decide (k ≤ 18)) || (k == 24))))
def gS3 : Nat → Nat → Bool := fun t k => t == 28 || (t == 27 || (t == 20 && ((decide (14 ≤ k) && decide (k ≤ 24)))))
def gTT : Nat → Nat → Bool := fun t k => t == 29 || (t == 26 || (t == 25 || (t == 21 || (t == 20 && ((decide (7 ≤ k) && decide (k ≤ 8)))))))
def gAp : Nat → Nat → Bool := fun t k => t == 23 || (t == 20 && (k == 0 || (k == 13)))
def gTr : Nat → Nat → Bool := fun t k => t == 20 && (k == 0 || ((decide (9 ≤ k) && decide (k ≤ 11)) || (k == 13)))
def gLd : Nat → Nat → Bool := fun t k => t == 29 || (t == 28 || (t == 27 || (t == 26 || (t == 25 || (t == 21 || (t == 20 && (k == 0 || ((decide (7 ≤ k) && decide (k ≤ 11)) || ((decide (13 ≤ k) && decide (k ≤ 24)))))))))))
def fE6 : Nat → Nat → Bool := fun t k => t == 6 && k == 6
def fE67 : Nat → Nat → Bool := fun t k => t == 6 && (k == 6 || k == 7)
def fW23 : Nat → Nat → Bool := fun t k => t == 6 && (k == 2 || k == 3)
def fCl : Nat → Nat → Bool := fun t k => t == 5 && decide (2 ≤ k)
def fAd : Nat → Nat → Bool := fun t k => (t == 5 && k == 2) || (t == 17 || t == 18)
def fRs : Nat → Nat → Bool := fun t k => (t == 6 && decide (2 ≤ k)) || ((t == 5 && k == 2) || (t == 17 || t == 18))
theorem k209 : Cond.fieldLink RX4 7 "LiftingSignal$Whole" "limbs" "[I" ∈ GW := gm 209 (by decide +kernel) (by decide +kernel)
theorem k210 : Cond.fieldLink RX4 13 "LiftingSignal$Whole" "used" "I" ∈ GW := gm 210 (by decide +kernel) (by decide +kernel)
theorem k211 : Cond.fieldLink RX4 17 "LiftingSignal$Whole" "isNegative" "Z" ∈ GW := gm 211 (by decide +kernel) (by decide +kernel)
theorem k348 : Cond.constantLong RX4 66 4294967295 ∈ GW := gm 348 (by decide +kernel) (by decide +kernel)
theorem dX4_become_0 : decode cX4_become 0 = .ok (.aload_n 0, 1) := by decide +kernel
theorem dX4_become_1 : decode cX4_become 1 = .ok (.lload_n 1, 1) := by decide +kernel
theorem dX4_become_2 : decode cX4_become 2 = .ok (.lconst 0, 1) := by decide +kernel
theorem dX4_become_3 : decode cX4_become 3 = .ok (.lcmp, 1) := by decide +kernel
theorem dX4_become_4 : decode cX4_become 4 = .ok (.ifCond .ge 7, 3) := by decide +kernel
theorem dX4_become_7 : decode cX4_become 7 = .ok (.iconst 1, 1) := by decide +kernel
theorem dX4_become_8 : decode cX4_become 8 = .ok (.goto 4, 3) := by decide +kernel
theorem dX4_become_11 : decode cX4_become 11 = .ok (.iconst 0, 1) := by decide +kernel
theorem dX4_become_12 : decode cX4_become 12 = .ok (.putfield 17, 3) := by decide +kernel
theorem dX4_become_15 : decode cX4_become 15 = .ok (.aload_n 0, 1) := by decide +kernel
theorem dX4_become_16 : decode cX4_become 16 = .ok (.getfield 17, 3) := by decide +kernel
theorem dX4_become_19 : decode cX4_become 19 = .ok (.ifCond .eq 8, 3) := by decide +kernel
theorem dX4_become_22 : decode cX4_become 22 = .ok (.lload_n 1, 1) := by decide +kernel
theorem dX4_become_23 : decode cX4_become 23 = .ok (.lneg, 1) := by decide +kernel
theorem dX4_become_24 : decode cX4_become 24 = .ok (.goto 4, 3) := by decide +kernel
theorem dX4_become_27 : decode cX4_become 27 = .ok (.lload_n 1, 1) := by decide +kernel
theorem dX4_become_28 : decode cX4_become 28 = .ok (.lstore_n 3, 1) := by decide +kernel
theorem dX4_become_29 : decode cX4_become 29 = .ok (.aload_n 0, 1) := by decide +kernel
theorem dX4_become_30 : decode cX4_become 30 = .ok (.getfield 7, 3) := by decide +kernel
theorem dX4_become_33 : decode cX4_become 33 = .ok (.iconst 0, 1) := by decide +kernel
theorem dX4_become_34 : decode cX4_become 34 = .ok (.lload_n 3, 1) := by decide +kernel
theorem dX4_become_35 : decode cX4_become 35 = .ok (.l2i, 1) := by decide +kernel
theorem dX4_become_36 : decode cX4_become 36 = .ok (.iastore, 1) := by decide +kernel
theorem dX4_become_37 : decode cX4_become 37 = .ok (.aload_n 0, 1) := by decide +kernel
theorem dX4_become_38 : decode cX4_become 38 = .ok (.getfield 7, 3) := by decide +kernel
theorem dX4_become_41 : decode cX4_become 41 = .ok (.iconst 1, 1) := by decide +kernel
theorem dX4_become_42 : decode cX4_become 42 = .ok (.lload_n 3, 1) := by decide +kernel
theorem dX4_become_43 : decode cX4_become 43 = .ok (.bipush 32, 2) := by decide +kernel
theorem dX4_become_45 : decode cX4_become 45 = .ok (.lushr, 1) := by decide +kernel
theorem dX4_become_46 : decode cX4_become 46 = .ok (.l2i, 1) := by decide +kernel
theorem dX4_become_47 : decode cX4_become 47 = .ok (.iastore, 1) := by decide +kernel
theorem dX4_become_48 : decode cX4_become 48 = .ok (.aload_n 0, 1) := by decide +kernel
theorem dX4_become_49 : decode cX4_become 49 = .ok (.aload_n 0, 1) := by decide +kernel
theorem dX4_become_50 : decode cX4_become 50 = .ok (.getfield 7, 3) := by decide +kernel
theorem dX4_become_53 : decode cX4_become 53 = .ok (.iconst 1, 1) := by decide +kernel
theorem dX4_become_54 : decode cX4_become 54 = .ok (.iaload, 1) := by decide +kernel
theorem dX4_become_55 : decode cX4_become 55 = .ok (.ifCond .eq 7, 3) := by decide +kernel
theorem dX4_become_58 : decode cX4_become 58 = .ok (.iconst 2, 1) := by decide +kernel
theorem dX4_become_59 : decode cX4_become 59 = .ok (.goto 17, 3) := by decide +kernel
theorem dX4_become_62 : decode cX4_become 62 = .ok (.aload_n 0, 1) := by decide +kernel
theorem dX4_become_63 : decode cX4_become 63 = .ok (.getfield 7, 3) := by decide +kernel
theorem dX4_become_66 : decode cX4_become 66 = .ok (.iconst 0, 1) := by decide +kernel
theorem dX4_become_67 : decode cX4_become 67 = .ok (.iaload, 1) := by decide +kernel
theorem dX4_become_68 : decode cX4_become 68 = .ok (.ifCond .eq 7, 3) := by decide +kernel
theorem dX4_become_71 : decode cX4_become 71 = .ok (.iconst 1, 1) := by decide +kernel
theorem dX4_become_72 : decode cX4_become 72 = .ok (.goto 4, 3) := by decide +kernel
theorem dX4_become_75 : decode cX4_become 75 = .ok (.iconst 0, 1) := by decide +kernel
theorem dX4_become_76 : decode cX4_become 76 = .ok (.putfield 13, 3) := by decide +kernel
theorem dX4_become_79 : decode cX4_become 79 = .ok (.return_, 1) := by decide +kernel
theorem dX4_dropSign_0 : decode cX4_dropSign 0 = .ok (.aload_n 0, 1) := by decide +kernel
theorem dX4_dropSign_1 : decode cX4_dropSign 1 = .ok (.iconst 0, 1) := by decide +kernel
theorem dX4_dropSign_2 : decode cX4_dropSign 2 = .ok (.putfield 17, 3) := by decide +kernel
theorem dX4_dropSign_5 : decode cX4_dropSign 5 = .ok (.return_, 1) := by decide +kernel
theorem dX4_isAmountBelow_0 : decode cX4_isAmountBelow 0 = .ok (.aload_n 0, 1) := by decide +kernel
theorem dX4_isAmountBelow_1 : decode cX4_isAmountBelow 1 = .ok (.getfield 13, 3) := by decide +kernel
theorem dX4_isAmountBelow_4 : decode cX4_isAmountBelow 4 = .ok (.iconst 1, 1) := by decide +kernel
theorem dX4_isAmountBelow_5 : decode cX4_isAmountBelow 5 = .ok (.if_icmp .gt 23, 3) := by decide +kernel
theorem dX4_isAmountBelow_8 : decode cX4_isAmountBelow 8 = .ok (.aload_n 0, 1) := by decide +kernel
theorem dX4_isAmountBelow_9 : decode cX4_isAmountBelow 9 = .ok (.getfield 7, 3) := by decide +kernel
theorem dX4_isAmountBelow_12 : decode cX4_isAmountBelow 12 = .ok (.iconst 0, 1) := by decide +kernel
theorem dX4_isAmountBelow_13 : decode cX4_isAmountBelow 13 = .ok (.iaload, 1) := by decide +kernel
theorem dX4_isAmountBelow_14 : decode cX4_isAmountBelow 14 = .ok (.i2l, 1) := by decide +kernel
theorem dX4_isAmountBelow_15 : decode cX4_isAmountBelow 15 = .ok (.ldc2_w 66, 3) := by decide +kernel
theorem dX4_isAmountBelow_18 : decode cX4_isAmountBelow 18 = .ok (.land, 1) := by decide +kernel
theorem dX4_isAmountBelow_19 : decode cX4_isAmountBelow 19 = .ok (.lload_n 1, 1) := by decide +kernel
theorem dX4_isAmountBelow_20 : decode cX4_isAmountBelow 20 = .ok (.lcmp, 1) := by decide +kernel
theorem dX4_isAmountBelow_21 : decode cX4_isAmountBelow 21 = .ok (.ifCond .ge 7, 3) := by decide +kernel
theorem dX4_isAmountBelow_24 : decode cX4_isAmountBelow 24 = .ok (.iconst 1, 1) := by decide +kernel
theorem dX4_isAmountBelow_25 : decode cX4_isAmountBelow 25 = .ok (.goto 4, 3) := by decide +kernel
theorem dX4_isAmountBelow_28 : decode cX4_isAmountBelow 28 = .ok (.iconst 0, 1) := by decide +kernel
theorem dX4_isAmountBelow_29 : decode cX4_isAmountBelow 29 = .ok (.ireturn, 1) := by decide +kernel
theorem dX4_isBelowZero_0 : decode cX4_isBelowZero 0 = .ok (.aload_n 0, 1) := by decide +kernel
theorem dX4_isBelowZero_1 : decode cX4_isBelowZero 1 = .ok (.getfield 17, 3) := by decide +kernel
theorem dX4_isBelowZero_4 : decode cX4_isBelowZero 4 = .ok (.ireturn, 1) := by decide +kernel
theorem dX4_isZero_0 : decode cX4_isZero 0 = .ok (.aload_n 0, 1) := by decide +kernel
theorem dX4_isZero_1 : decode cX4_isZero 1 = .ok (.getfield 13, 3) := by decide +kernel
theorem dX4_isZero_4 : decode cX4_isZero 4 = .ok (.ifCond .ne 7, 3) := by decide +kernel
theorem dX4_isZero_7 : decode cX4_isZero 7 = .ok (.iconst 1, 1) := by decide +kernel
theorem dX4_isZero_8 : decode cX4_isZero 8 = .ok (.goto 4, 3) := by decide +kernel
theorem dX4_isZero_11 : decode cX4_isZero 11 = .ok (.iconst 0, 1) := by decide +kernel
theorem dX4_isZero_12 : decode cX4_isZero 12 = .ok (.ireturn, 1) := by decide +kernel
theorem dX4_limbAt_0 : decode cX4_limbAt 0 = .ok (.iload_n 1, 1) := by decide +kernel
theorem dX4_limbAt_1 : decode cX4_limbAt 1 = .ok (.aload_n 0, 1) := by decide +kernel
theorem dX4_limbAt_2 : decode cX4_limbAt 2 = .ok (.getfield 13, 3) := by decide +kernel
theorem dX4_limbAt_5 : decode cX4_limbAt 5 = .ok (.if_icmp .ge 17, 3) := by decide +kernel
theorem dX4_limbAt_8 : decode cX4_limbAt 8 = .ok (.aload_n 0, 1) := by decide +kernel
theorem dX4_limbAt_9 : decode cX4_limbAt 9 = .ok (.getfield 7, 3) := by decide +kernel
theorem dX4_limbAt_12 : decode cX4_limbAt 12 = .ok (.iload_n 1, 1) := by decide +kernel
theorem dX4_limbAt_13 : decode cX4_limbAt 13 = .ok (.iaload, 1) := by decide +kernel
theorem dX4_limbAt_14 : decode cX4_limbAt 14 = .ok (.i2l, 1) := by decide +kernel
theorem dX4_limbAt_15 : decode cX4_limbAt 15 = .ok (.ldc2_w 66, 3) := by decide +kernel
theorem dX4_limbAt_18 : decode cX4_limbAt 18 = .ok (.land, 1) := by decide +kernel
theorem dX4_limbAt_19 : decode cX4_limbAt 19 = .ok (.goto 4, 3) := by decide +kernel
theorem dX4_limbAt_22 : decode cX4_limbAt 22 = .ok (.lconst 0, 1) := by decide +kernel
theorem dX4_limbAt_23 : decode cX4_limbAt 23 = .ok (.lreturn, 1) := by decide +kernel
theorem dX4_lowest_0 : decode cX4_lowest 0 = .ok (.aload_n 0, 1) := by decide +kernel
theorem dX4_lowest_1 : decode cX4_lowest 1 = .ok (.getfield 17, 3) := by decide +kernel
theorem dX4_lowest_4 : decode cX4_lowest 4 = .ok (.ifCond .eq 18, 3) := by decide +kernel
theorem dX4_lowest_7 : decode cX4_lowest 7 = .ok (.aload_n 0, 1) := by decide +kernel
theorem dX4_lowest_8 : decode cX4_lowest 8 = .ok (.getfield 7, 3) := by decide +kernel
theorem dX4_lowest_11 : decode cX4_lowest 11 = .ok (.iconst 0, 1) := by decide +kernel
theorem dX4_lowest_12 : decode cX4_lowest 12 = .ok (.iaload, 1) := by decide +kernel
theorem dX4_lowest_13 : decode cX4_lowest 13 = .ok (.i2l, 1) := by decide +kernel
theorem dX4_lowest_14 : decode cX4_lowest 14 = .ok (.ldc2_w 66, 3) := by decide +kernel
theorem dX4_lowest_17 : decode cX4_lowest 17 = .ok (.land, 1) := by decide +kernel
theorem dX4_lowest_18 : decode cX4_lowest 18 = .ok (.lneg, 1) := by decide +kernel
theorem dX4_lowest_19 : decode cX4_lowest 19 = .ok (.goto 14, 3) := by decide +kernel
theorem dX4_lowest_22 : decode cX4_lowest 22 = .ok (.aload_n 0, 1) := by decide +kernel
theorem dX4_lowest_23 : decode cX4_lowest 23 = .ok (.getfield 7, 3) := by decide +kernel
theorem dX4_lowest_26 : decode cX4_lowest 26 = .ok (.iconst 0, 1) := by decide +kernel
theorem dX4_lowest_27 : decode cX4_lowest 27 = .ok (.iaload, 1) := by decide +kernel
theorem dX4_lowest_28 : decode cX4_lowest 28 = .ok (.i2l, 1) := by decide +kernel
theorem dX4_lowest_29 : decode cX4_lowest 29 = .ok (.ldc2_w 66, 3) := by decide +kernel
theorem dX4_lowest_32 : decode cX4_lowest 32 = .ok (.land, 1) := by decide +kernel
theorem dX4_lowest_33 : decode cX4_lowest 33 = .ok (.lreturn, 1) := by decide +kernel
set_option maxHeartbeats 4000000 in
set_option maxRecDepth 100000 in
theorem X4_become (l : Launch) (κ : Kt) (σ0 : Gh) (this : Nat) (f : Int64) (t_this : zk σ0 this 1) : TC l yX4_become cX4_become 5 none 0 0 [.ref this, .long f] κ σ0 (tqv κ fX σ0 (fun (τ : Gh) => True)) := by
  refine TC.of fX (by decide +kernel) (Nat.le_of_ble_eq_true rfl) ?_
  intro p e s m below meth c ls hcs hK hX hT hl
  obtain ⟨hx, hb, hr, hml, hown, hg, hlocks, hin⟩ := hcs
  have hown : s.vm.findClass RX4 = some m.cls := hown
  have hl : lv_has ls 5 [(0, .ref this), (1, .long f)] := hl
  have hT0 := hT
  have n0 : (0 : Int32).toInt = 0 := by decide
  have n1 : (1 : Int32).toInt = 1 := by decide
  have n2 : (2 : Int32).toInt = 2 := by decide
  have n32 : (32 : Int32).toInt = 32 := by decide
  have j0 : (0 : Int64).toInt = 0 := by decide
  generalize hQ9 : tQ _ _ _ _ _ _ = Q9
  refine lv_aload_n hx hb dX4_become_0 rfl (lv_at hl 0 rfl) ?_
  refine lv_lload_n hx hb dX4_become_1 rfl (lv_at hl 1 rfl) ?_
  refine lv_lconst (v := 0) hx hb dX4_become_2 (by decide) ?_
  refine W.lcmp hx hb dX4_become_3 ?_
  refine lv_if_ge (tgt := 11) hx hb dX4_become_4 (by decide) (fun c9 => ?_) (fun c9 => ?_)
  · have c1 := gl_ge c9
    refine lv_iconst (v := 0) hx hb dX4_become_11 (by decide) ?_
    have hTo := hT
    refine pf1_2 hx hb hg hown hK hT (hT.k t_this (by decide)) rfl isB0 (hg _ k211) dX4_become_12 (fun H locs s1 hus1 hT => ?_)
    have e2 : zI s1 this 2 = 0 := zput_at hus1
    refine lv_aload_n hx hb dX4_become_15 rfl (lv_at hl 0 rfl) ?_
    obtain ⟨h3, oh3, th3⟩ := hT.o1 (hT.k t_this (by decide))
    refine va_get (D := κ.1) (ci := 4) (v := .int (zI s1 this 2)) (C := RX4) (T := TX4) (N := 3) hx hb hg inX4 hown hK oh3.one 0 rfl rfl 2 (by decide) (hg _ k211) (fun _ h9 => h9) rfl dX4_become_16 ?_
    rw [e2]
    refine lv_if_eq (tgt := 27) hx hb dX4_become_19 (by decide) (fun _ => ?_) (fun c9 => absurd (by decide) c9)
    refine lv_lload_n hx hb dX4_become_27 rfl (lv_at hl 1 rfl) ?_
    refine lv_lstore_n (lv' := [(3, .long f), (0, .ref this), (1, .long f)]) hx hb dX4_become_28 rfl hl (by decide) rfl (fun ls hl => ?_)
    refine lv_aload_n hx hb dX4_become_29 rfl (lv_at hl 1 rfl) ?_
    obtain ⟨h4, oh4, th4⟩ := hT.o1 (hT.k t_this (by decide))
    refine va_get (D := κ.1) (ci := 4) (v := .ref h4) (C := RX4) (T := TX4) (N := 3) hx hb hg inX4 hown hK oh4.one 0 rfl rfl 0 (by decide) (hg _ k209) (fun _ h9 => h9) rfl dX4_become_30 ?_
    have bN5 := (hT.P (hT.k t_this (by decide)) (by decide)).1
    have hN6 : zN s1 this = zN σ0 this := hT.eN t_this (by decide) rfl rfl
    refine lv_iconst (v := 0) hx hb dX4_become_33 (by decide) ?_
    refine lv_lload_n hx hb dX4_become_34 rfl (lv_at hl 0 rfl) ?_
    refine lv_l2i hx hb dX4_become_35 rfl ?_
    refine lv_topi (fun t7 ht7 => ?_)
    have hTo := hT
    refine tasti hx hb hK hT th4 ⟨by omega, by omega⟩ (fun _ _ _ => zS_big) (fun _ _ => zP_big) fL_fX (by omega) (by omega) dX4_become_36 (fun H locs s8 hus8 hT => ?_)
    have e2 : zI s8 this 2 = 0 := (zput_o hus8 (Or.inl ((hTo.k t_this (by decide)).ne th4 (by omega)))).trans e2
    refine lv_aload_n hx hb dX4_become_37 rfl (lv_at hl 1 rfl) ?_
    obtain ⟨h9, oh9, th9⟩ := hT.o1 (hT.k t_this (by decide))
    refine va_get (D := κ.1) (ci := 4) (v := .ref h9) (C := RX4) (T := TX4) (N := 3) hx hb hg inX4 hown hK oh9.one 0 rfl rfl 0 (by decide) (hg _ k209) (fun _ h9 => h9) rfl dX4_become_38 ?_
    have bN10 := (hT.P (hT.k t_this (by decide)) (by decide)).1
    have hN11 : zN s8 this = zN σ0 this := hT.eN t_this (by decide) rfl rfl
    refine lv_iconst (v := 1) hx hb dX4_become_41 (by decide) ?_
    refine lv_lload_n hx hb dX4_become_42 rfl (lv_at hl 0 rfl) ?_
    refine lv_bipush (v := 32) hx hb dX4_become_43 (by decide) ?_
    refine lv_lushr hx hb dX4_become_45 rfl ?_
    refine lv_topl (fun t12 ht12 => ?_)
    refine lv_l2i hx hb dX4_become_46 rfl ?_
    refine lv_topi (fun t13 ht13 => ?_)
    have hTo := hT
    refine tasti hx hb hK hT th9 ⟨by omega, by omega⟩ (fun _ _ _ => zS_big) (fun _ _ => zP_big) fL_fX (by omega) (by omega) dX4_become_47 (fun H locs s14 hus14 hT => ?_)
    have e2 : zI s14 this 2 = 0 := (zput_o hus14 (Or.inl ((hTo.k t_this (by decide)).ne th9 (by omega)))).trans e2
    refine lv_aload_n hx hb dX4_become_48 rfl (lv_at hl 1 rfl) ?_
    refine lv_aload_n hx hb dX4_become_49 rfl (lv_at hl 1 rfl) ?_
    obtain ⟨h15, oh15, th15⟩ := hT.o1 (hT.k t_this (by decide))
    refine va_get (D := κ.1) (ci := 4) (v := .ref h15) (C := RX4) (T := TX4) (N := 3) hx hb hg inX4 hown hK oh15.one 0 rfl rfl 0 (by decide) (hg _ k209) (fun _ h9 => h9) rfl dX4_become_50 ?_
    have bN16 := (hT.P (hT.k t_this (by decide)) (by decide)).1
    have hN17 : zN s14 this = zN σ0 this := hT.eN t_this (by decide) rfl rfl
    refine lv_iconst (v := 1) hx hb dX4_become_53 (by decide) ?_
    refine va_iald hx hb hK (hT.oL th15).one 0 0 rfl rfl (g_in (by omega) (by omega)) dX4_become_54 ?_
    refine lv_topi (fun t18 ht18 => ?_)
    refine lv_if_eq (tgt := 62) hx hb dX4_become_55 (by decide) (fun c9 => ?_) (fun c9 => ?_)
    · have c2 := gi_eq c9
      refine lv_aload_n hx hb dX4_become_62 rfl (lv_at hl 1 rfl) ?_
      obtain ⟨h19, oh19, th19⟩ := hT.o1 (hT.k t_this (by decide))
      refine va_get (D := κ.1) (ci := 4) (v := .ref h19) (C := RX4) (T := TX4) (N := 3) hx hb hg inX4 hown hK oh19.one 0 rfl rfl 0 (by decide) (hg _ k209) (fun _ h9 => h9) rfl dX4_become_63 ?_
      have bN20 := (hT.P (hT.k t_this (by decide)) (by decide)).1
      have hN21 : zN s14 this = zN σ0 this := hT.eN t_this (by decide) rfl rfl
      refine lv_iconst (v := 0) hx hb dX4_become_66 (by decide) ?_
      refine va_iald hx hb hK (hT.oL th19).one 0 0 rfl rfl (g_in (by omega) (by omega)) dX4_become_67 ?_
      refine lv_topi (fun t22 ht22 => ?_)
      refine lv_if_eq (tgt := 75) hx hb dX4_become_68 (by decide) (fun c9 => ?_) (fun c9 => ?_)
      · have c3 := gi_eq c9
        refine lv_iconst (v := 0) hx hb dX4_become_75 (by decide) ?_
        have bN23 := (hT.P (hT.k t_this (by decide)) (by decide)).1
        have hN24 : zN s14 this = zN σ0 this := hT.eN t_this (by decide) rfl rfl
        have hTo := hT
        refine pf1_1 hx hb hg hown hK hT (hT.k t_this (by decide)) rfl ⟨by omega, by omega⟩ (hg _ k210) dX4_become_76 (fun H locs s25 hus25 hT => ?_)
        have e2 : zI s25 this 2 = 0 := (zput_o hus25 (Or.inr (by decide))).trans e2
        have e26 : zI s25 this 1 = 0 := zput_at hus25
        subst hQ9
        exact t_v hx hb hr hlocks hT trivial dX4_become_79
      · have c4 := gi_ne c9
        refine lv_iconst (v := 1) hx hb dX4_become_71 (by decide) ?_
        refine lv_goto (tgt := 76) hx hb dX4_become_72 (by decide) ?_
        have bN27 := (hT.P (hT.k t_this (by decide)) (by decide)).1
        have hN28 : zN s14 this = zN σ0 this := hT.eN t_this (by decide) rfl rfl
        have hTo := hT
        refine pf1_1 hx hb hg hown hK hT (hT.k t_this (by decide)) rfl ⟨by omega, by omega⟩ (hg _ k210) dX4_become_76 (fun H locs s29 hus29 hT => ?_)
        have e2 : zI s29 this 2 = 0 := (zput_o hus29 (Or.inr (by decide))).trans e2
        have e30 : zI s29 this 1 = 1 := zput_at hus29
        subst hQ9
        exact t_v hx hb hr hlocks hT trivial dX4_become_79
    · have c5 := gi_ne c9
      refine lv_iconst (v := 2) hx hb dX4_become_58 (by decide) ?_
      refine lv_goto (tgt := 76) hx hb dX4_become_59 (by decide) ?_
      have bN31 := (hT.P (hT.k t_this (by decide)) (by decide)).1
      have hN32 : zN s14 this = zN σ0 this := hT.eN t_this (by decide) rfl rfl
      have hTo := hT
      refine pf1_1 hx hb hg hown hK hT (hT.k t_this (by decide)) rfl ⟨by omega, by omega⟩ (hg _ k210) dX4_become_76 (fun H locs s33 hus33 hT => ?_)
      have e2 : zI s33 this 2 = 0 := (zput_o hus33 (Or.inr (by decide))).trans e2
      have e34 : zI s33 this 1 = 2 := zput_at hus33
      subst hQ9
      exact t_v hx hb hr hlocks hT trivial dX4_become_79
  · have c6 := gl_nge c9
    refine lv_iconst (v := 1) hx hb dX4_become_7 (by decide) ?_
    refine lv_goto (tgt := 12) hx hb dX4_become_8 (by decide) ?_
    have hTo := hT
    refine pf1_2 hx hb hg hown hK hT (hT.k t_this (by decide)) rfl isB1 (hg _ k211) dX4_become_12 (fun H locs s35 hus35 hT => ?_)
    have e36 : zI s35 this 2 = 1 := zput_at hus35
    refine lv_aload_n hx hb dX4_become_15 rfl (lv_at hl 0 rfl) ?_
    obtain ⟨h37, oh37, th37⟩ := hT.o1 (hT.k t_this (by decide))
    refine va_get (D := κ.1) (ci := 4) (v := .int (zI s35 this 2)) (C := RX4) (T := TX4) (N := 3) hx hb hg inX4 hown hK oh37.one 0 rfl rfl 2 (by decide) (hg _ k211) (fun _ h9 => h9) rfl dX4_become_16 ?_
    rw [e36]
    refine lv_if_eq (tgt := 27) hx hb dX4_become_19 (by decide) (fun c9 => absurd c9 (by decide)) (fun _ => ?_)
    refine lv_lload_n hx hb dX4_become_22 rfl (lv_at hl 1 rfl) ?_
    refine lv_lneg hx hb dX4_become_23 ?_
    refine lv_topl (fun t38 ht38 => ?_)
    refine lv_goto (tgt := 28) hx hb dX4_become_24 (by decide) ?_
    refine lv_lstore_n (lv' := [(3, .long t38), (0, .ref this), (1, .long f)]) hx hb dX4_become_28 rfl hl (by decide) rfl (fun ls hl => ?_)
    refine lv_aload_n hx hb dX4_become_29 rfl (lv_at hl 1 rfl) ?_
    obtain ⟨h39, oh39, th39⟩ := hT.o1 (hT.k t_this (by decide))
    refine va_get (D := κ.1) (ci := 4) (v := .ref h39) (C := RX4) (T := TX4) (N := 3) hx hb hg inX4 hown hK oh39.one 0 rfl rfl 0 (by decide) (hg _ k209) (fun _ h9 => h9) rfl dX4_become_30 ?_
    have bN40 := (hT.P (hT.k t_this (by decide)) (by decide)).1
    have hN41 : zN s35 this = zN σ0 this := hT.eN t_this (by decide) rfl rfl
    refine lv_iconst (v := 0) hx hb dX4_become_33 (by decide) ?_
    refine lv_lload_n hx hb dX4_become_34 rfl (lv_at hl 0 rfl) ?_
    refine lv_l2i hx hb dX4_become_35 rfl ?_
    refine lv_topi (fun t42 ht42 => ?_)
    have hTo := hT
    refine tasti hx hb hK hT th39 ⟨by omega, by omega⟩ (fun _ _ _ => zS_big) (fun _ _ => zP_big) fL_fX (by omega) (by omega) dX4_become_36 (fun H locs s43 hus43 hT => ?_)
    have e36 : zI s43 this 2 = 1 := (zput_o hus43 (Or.inl ((hTo.k t_this (by decide)).ne th39 (by omega)))).trans e36
    refine lv_aload_n hx hb dX4_become_37 rfl (lv_at hl 1 rfl) ?_
    obtain ⟨h44, oh44, th44⟩ := hT.o1 (hT.k t_this (by decide))
    refine va_get (D := κ.1) (ci := 4) (v := .ref h44) (C := RX4) (T := TX4) (N := 3) hx hb hg inX4 hown hK oh44.one 0 rfl rfl 0 (by decide) (hg _ k209) (fun _ h9 => h9) rfl dX4_become_38 ?_
    have bN45 := (hT.P (hT.k t_this (by decide)) (by decide)).1
    have hN46 : zN s43 this = zN σ0 this := hT.eN t_this (by decide) rfl rfl
    refine lv_iconst (v := 1) hx hb dX4_become_41 (by decide) ?_
    refine lv_lload_n hx hb dX4_become_42 rfl (lv_at hl 0 rfl) ?_
    refine lv_bipush (v := 32) hx hb dX4_become_43 (by decide) ?_
    refine lv_lushr hx hb dX4_become_45 rfl ?_
    refine lv_topl (fun t47 ht47 => ?_)
    refine lv_l2i hx hb dX4_become_46 rfl ?_
    refine lv_topi (fun t48 ht48 => ?_)
    have hTo := hT
    refine tasti hx hb hK hT th44 ⟨by omega, by omega⟩ (fun _ _ _ => zS_big) (fun _ _ => zP_big) fL_fX (by omega) (by omega) dX4_become_47 (fun H locs s49 hus49 hT => ?_)
    have e36 : zI s49 this 2 = 1 := (zput_o hus49 (Or.inl ((hTo.k t_this (by decide)).ne th44 (by omega)))).trans e36
    refine lv_aload_n hx hb dX4_become_48 rfl (lv_at hl 1 rfl) ?_
    refine lv_aload_n hx hb dX4_become_49 rfl (lv_at hl 1 rfl) ?_
    obtain ⟨h50, oh50, th50⟩ := hT.o1 (hT.k t_this (by decide))
    refine va_get (D := κ.1) (ci := 4) (v := .ref h50) (C := RX4) (T := TX4) (N := 3) hx hb hg inX4 hown hK oh50.one 0 rfl rfl 0 (by decide) (hg _ k209) (fun _ h9 => h9) rfl dX4_become_50 ?_
    have bN51 := (hT.P (hT.k t_this (by decide)) (by decide)).1
    have hN52 : zN s49 this = zN σ0 this := hT.eN t_this (by decide) rfl rfl
    refine lv_iconst (v := 1) hx hb dX4_become_53 (by decide) ?_
    refine va_iald hx hb hK (hT.oL th50).one 0 0 rfl rfl (g_in (by omega) (by omega)) dX4_become_54 ?_
    refine lv_topi (fun t53 ht53 => ?_)
    refine lv_if_eq (tgt := 62) hx hb dX4_become_55 (by decide) (fun c9 => ?_) (fun c9 => ?_)
    · have c7 := gi_eq c9
      refine lv_aload_n hx hb dX4_become_62 rfl (lv_at hl 1 rfl) ?_
      obtain ⟨h54, oh54, th54⟩ := hT.o1 (hT.k t_this (by decide))
      refine va_get (D := κ.1) (ci := 4) (v := .ref h54) (C := RX4) (T := TX4) (N := 3) hx hb hg inX4 hown hK oh54.one 0 rfl rfl 0 (by decide) (hg _ k209) (fun _ h9 => h9) rfl dX4_become_63 ?_
      have bN55 := (hT.P (hT.k t_this (by decide)) (by decide)).1
      have hN56 : zN s49 this = zN σ0 this := hT.eN t_this (by decide) rfl rfl
      refine lv_iconst (v := 0) hx hb dX4_become_66 (by decide) ?_
      refine va_iald hx hb hK (hT.oL th54).one 0 0 rfl rfl (g_in (by omega) (by omega)) dX4_become_67 ?_
      refine lv_topi (fun t57 ht57 => ?_)
      refine lv_if_eq (tgt := 75) hx hb dX4_become_68 (by decide) (fun c9 => ?_) (fun c9 => ?_)
      · have c8 := gi_eq c9
        refine lv_iconst (v := 0) hx hb dX4_become_75 (by decide) ?_
        have bN58 := (hT.P (hT.k t_this (by decide)) (by decide)).1
        have hN59 : zN s49 this = zN σ0 this := hT.eN t_this (by decide) rfl rfl
        have hTo := hT
        refine pf1_1 hx hb hg hown hK hT (hT.k t_this (by decide)) rfl ⟨by omega, by omega⟩ (hg _ k210) dX4_become_76 (fun H locs s60 hus60 hT => ?_)
        have e36 : zI s60 this 2 = 1 := (zput_o hus60 (Or.inr (by decide))).trans e36
        have e61 : zI s60 this 1 = 0 := zput_at hus60
        subst hQ9
        exact t_v hx hb hr hlocks hT trivial dX4_become_79
      · have c9 := gi_ne c9
        refine lv_iconst (v := 1) hx hb dX4_become_71 (by decide) ?_
        refine lv_goto (tgt := 76) hx hb dX4_become_72 (by decide) ?_
        have bN62 := (hT.P (hT.k t_this (by decide)) (by decide)).1
        have hN63 : zN s49 this = zN σ0 this := hT.eN t_this (by decide) rfl rfl
        have hTo := hT
        refine pf1_1 hx hb hg hown hK hT (hT.k t_this (by decide)) rfl ⟨by omega, by omega⟩ (hg _ k210) dX4_become_76 (fun H locs s64 hus64 hT => ?_)
        have e36 : zI s64 this 2 = 1 := (zput_o hus64 (Or.inr (by decide))).trans e36
        have e65 : zI s64 this 1 = 1 := zput_at hus64
        subst hQ9
        exact t_v hx hb hr hlocks hT trivial dX4_become_79
    · have c10 := gi_ne c9
      refine lv_iconst (v := 2) hx hb dX4_become_58 (by decide) ?_
      refine lv_goto (tgt := 76) hx hb dX4_become_59 (by decide) ?_
      have bN66 := (hT.P (hT.k t_this (by decide)) (by decide)).1
      have hN67 : zN s49 this = zN σ0 this := hT.eN t_this (by decide) rfl rfl
      have hTo := hT
      refine pf1_1 hx hb hg hown hK hT (hT.k t_this (by decide)) rfl ⟨by omega, by omega⟩ (hg _ k210) dX4_become_76 (fun H locs s68 hus68 hT => ?_)
      have e36 : zI s68 this 2 = 1 := (zput_o hus68 (Or.inr (by decide))).trans e36
      have e69 : zI s68 this 1 = 2 := zput_at hus68
      subst hQ9
      exact t_v hx hb hr hlocks hT trivial dX4_become_79
set_option maxHeartbeats 4000000 in
set_option maxRecDepth 100000 in
theorem X4_dropSign (l : Launch) (κ : Kt) (σ0 : Gh) (this : Nat) (t_this : zk σ0 this 1) : TC l yX4_dropSign cX4_dropSign 1 none 0 0 [.ref this] κ σ0 (tqv κ fX σ0 (fun (τ : Gh) => True)) := by
  refine TC.of fX (by decide +kernel) (Nat.le_of_ble_eq_true rfl) ?_
  intro p e s m below meth c ls hcs hK hX hT hl
  obtain ⟨hx, hb, hr, hml, hown, hg, hlocks, hin⟩ := hcs
  have hown : s.vm.findClass RX4 = some m.cls := hown
  have hl : lv_has ls 1 [(0, .ref this)] := hl
  have hT0 := hT
  have n0 : (0 : Int32).toInt = 0 := by decide
  generalize hQ9 : tQ _ _ _ _ _ _ = Q9
  refine lv_aload_n hx hb dX4_dropSign_0 rfl (lv_at hl 0 rfl) ?_
  refine lv_iconst (v := 0) hx hb dX4_dropSign_1 (by decide) ?_
  have hTo := hT
  refine pf1_2 hx hb hg hown hK hT (hT.k t_this (by decide)) rfl isB0 (hg _ k211) dX4_dropSign_2 (fun H locs s1 hus1 hT => ?_)
  have e2 : zI s1 this 2 = 0 := zput_at hus1
  subst hQ9
  exact t_v hx hb hr hlocks hT trivial dX4_dropSign_5
set_option maxHeartbeats 4000000 in
set_option maxRecDepth 100000 in
theorem X4_isZero (l : Launch) (κ : Kt) (σ0 : Gh) (this : Nat) (t_this : zk σ0 this 1) : TC l yX4_isZero cX4_isZero 1 (some .boolean) 0 0 [.ref this] κ σ0 (tqi κ fE σ0 (fun (r : Int32) (τ : Gh) => (isB r))) := by
  refine TC.of fE (by decide +kernel) (Nat.le_of_ble_eq_true rfl) ?_
  intro p e s m below meth c ls hcs hK hX hT hl
  obtain ⟨hx, hb, hr, hml, hown, hg, hlocks, hin⟩ := hcs
  have hown : s.vm.findClass RX4 = some m.cls := hown
  have hl : lv_has ls 1 [(0, .ref this)] := hl
  have hT0 := hT
  have n0 : (0 : Int32).toInt = 0 := by decide
  have n1 : (1 : Int32).toInt = 1 := by decide
  generalize hQ9 : tQ _ _ _ _ _ _ = Q9
  refine lv_aload_n hx hb dX4_isZero_0 rfl (lv_at hl 0 rfl) ?_
  obtain ⟨h1, oh1, th1⟩ := hT.o1 (hT.k t_this (by decide))
  obtain ⟨v2, ev2⟩ : ∃ zz9 : Int32, zI σ0 this 1 = zz9 := ⟨_, rfl⟩
  have qv2 : v2.toInt = (zI σ0 this 1).toInt := by rw [ev2]
  have b3 := (hT.P (hT.k t_this (by decide)) (by decide)).2.1
  rw [(hT.eI t_this (by decide) rfl ev2)] at b3
  have b3l := b3.1
  have b3h := b3.2
  have bN4 := (hT.P (hT.k t_this (by decide)) (by decide)).1
  have hN5 : zN σ0 this = zN σ0 this := hT.eN t_this (by decide) rfl rfl
  refine va_get (D := κ.1) (ci := 4) (v := .int (zI σ0 this 1)) (C := RX4) (T := TX4) (N := 3) hx hb hg inX4 hown hK oh1.one 0 rfl rfl 1 (by decide) (hg _ k210) (fun _ h9 => h9) rfl dX4_isZero_1 ?_
  rw [(hT.eI t_this (by decide) rfl ev2)]
  refine lv_if_ne (tgt := 11) hx hb dX4_isZero_4 (by decide) (fun c9 => ?_) (fun c9 => ?_)
  · have c1 := gi_ne c9
    refine lv_iconst (v := 0) hx hb dX4_isZero_11 (by decide) ?_
    subst hQ9
    exact t_z hx hb hr isB0 hlocks hT isB0 dX4_isZero_12
  · have c2 := gi_eq c9
    refine lv_iconst (v := 1) hx hb dX4_isZero_7 (by decide) ?_
    refine lv_goto (tgt := 12) hx hb dX4_isZero_8 (by decide) ?_
    subst hQ9
    exact t_z hx hb hr isB1 hlocks hT isB1 dX4_isZero_12
set_option maxHeartbeats 4000000 in
set_option maxRecDepth 100000 in
theorem X4_isBelowZero (l : Launch) (κ : Kt) (σ0 : Gh) (this : Nat) (t_this : zk σ0 this 1) : TC l yX4_isBelowZero cX4_isBelowZero 1 (some .boolean) 0 0 [.ref this] κ σ0 (tqi κ fE σ0 (fun (r : Int32) (τ : Gh) => (isB r))) := by
  refine TC.of fE (by decide +kernel) (Nat.le_of_ble_eq_true rfl) ?_
  intro p e s m below meth c ls hcs hK hX hT hl
  obtain ⟨hx, hb, hr, hml, hown, hg, hlocks, hin⟩ := hcs
  have hown : s.vm.findClass RX4 = some m.cls := hown
  have hl : lv_has ls 1 [(0, .ref this)] := hl
  have hT0 := hT
  generalize hQ9 : tQ _ _ _ _ _ _ = Q9
  refine lv_aload_n hx hb dX4_isBelowZero_0 rfl (lv_at hl 0 rfl) ?_
  obtain ⟨h1, oh1, th1⟩ := hT.o1 (hT.k t_this (by decide))
  obtain ⟨v2, ev2⟩ : ∃ zz9 : Int32, zI σ0 this 2 = zz9 := ⟨_, rfl⟩
  have qv2 : v2.toInt = (zI σ0 this 2).toInt := by rw [ev2]
  have b3 : isB v2 := by have q9 := (hT.P (hT.k t_this (by decide)) (by decide)).2.2; rw [(hT.eI t_this (by decide) rfl ev2)] at q9; exact q9
  refine va_get (D := κ.1) (ci := 4) (v := .int (zI σ0 this 2)) (C := RX4) (T := TX4) (N := 3) hx hb hg inX4 hown hK oh1.one 0 rfl rfl 2 (by decide) (hg _ k211) (fun _ h9 => h9) rfl dX4_isBelowZero_1 ?_
  rw [(hT.eI t_this (by decide) rfl ev2)]
  subst hQ9
  exact t_z hx hb hr b3 hlocks hT b3 dX4_isBelowZero_4
set_option maxHeartbeats 4000000 in
set_option maxRecDepth 100000 in
theorem X4_isAmountBelow (l : Launch) (κ : Kt) (σ0 : Gh) (this : Nat) (f : Int64) (t_this : zk σ0 this 1) : TC l yX4_isAmountBelow cX4_isAmountBelow 3 (some .boolean) 0 0 [.ref this, .long f] κ σ0 (tqi κ fE σ0 (fun (r : Int32) (τ : Gh) => (isB r))) := by
  refine TC.of fE (by decide +kernel) (Nat.le_of_ble_eq_true rfl) ?_
  intro p e s m below meth c ls hcs hK hX hT hl
  obtain ⟨hx, hb, hr, hml, hown, hg, hlocks, hin⟩ := hcs
  have hown : s.vm.findClass RX4 = some m.cls := hown
  have hl : lv_has ls 3 [(0, .ref this), (1, .long f)] := hl
  have hT0 := hT
  have n0 : (0 : Int32).toInt = 0 := by decide
  have n1 : (1 : Int32).toInt = 1 := by decide
  have j4294967295 : (4294967295 : Int64).toInt = 4294967295 := by decide
  generalize hQ9 : tQ _ _ _ _ _ _ = Q9
  refine lv_aload_n hx hb dX4_isAmountBelow_0 rfl (lv_at hl 0 rfl) ?_
  obtain ⟨h1, oh1, th1⟩ := hT.o1 (hT.k t_this (by decide))
  obtain ⟨v2, ev2⟩ : ∃ zz9 : Int32, zI σ0 this 1 = zz9 := ⟨_, rfl⟩
  have qv2 : v2.toInt = (zI σ0 this 1).toInt := by rw [ev2]
  have b3 := (hT.P (hT.k t_this (by decide)) (by decide)).2.1
  rw [(hT.eI t_this (by decide) rfl ev2)] at b3
  have b3l := b3.1
  have b3h := b3.2
  have bN4 := (hT.P (hT.k t_this (by decide)) (by decide)).1
  have hN5 : zN σ0 this = zN σ0 this := hT.eN t_this (by decide) rfl rfl
  refine va_get (D := κ.1) (ci := 4) (v := .int (zI σ0 this 1)) (C := RX4) (T := TX4) (N := 3) hx hb hg inX4 hown hK oh1.one 0 rfl rfl 1 (by decide) (hg _ k210) (fun _ h9 => h9) rfl dX4_isAmountBelow_1 ?_
  rw [(hT.eI t_this (by decide) rfl ev2)]
  refine lv_iconst (v := 1) hx hb dX4_isAmountBelow_4 (by decide) ?_
  refine lv_icmp_gt (tgt := 28) hx hb dX4_isAmountBelow_5 (by decide) (fun c9 => ?_) (fun c9 => ?_)
  · have c1 := gi_lt c9
    refine lv_iconst (v := 0) hx hb dX4_isAmountBelow_28 (by decide) ?_
    subst hQ9
    exact t_z hx hb hr isB0 hlocks hT isB0 dX4_isAmountBelow_29
  · have c2 := gi_nlt c9
    refine lv_aload_n hx hb dX4_isAmountBelow_8 rfl (lv_at hl 0 rfl) ?_
    obtain ⟨h6, oh6, th6⟩ := hT.o1 (hT.k t_this (by decide))
    refine va_get (D := κ.1) (ci := 4) (v := .ref h6) (C := RX4) (T := TX4) (N := 3) hx hb hg inX4 hown hK oh6.one 0 rfl rfl 0 (by decide) (hg _ k209) (fun _ h9 => h9) rfl dX4_isAmountBelow_9 ?_
    have bN7 := (hT.P (hT.k t_this (by decide)) (by decide)).1
    have hN8 : zN σ0 this = zN σ0 this := hT.eN t_this (by decide) rfl rfl
    refine lv_iconst (v := 0) hx hb dX4_isAmountBelow_12 (by decide) ?_
    refine va_iald hx hb hK (hT.oL th6).one 0 0 rfl rfl (g_in (by omega) (by omega)) dX4_isAmountBelow_13 ?_
    refine lv_topi (fun t9 ht9 => ?_)
    refine lv_i2l hx hb dX4_isAmountBelow_14 rfl ?_
    refine g_i2l (fun t10 ht10 => ?_)
    refine lv_ldc2 hx hb hown (hg _ k348) dX4_isAmountBelow_15 ?_
    refine lv_land hx hb dX4_isAmountBelow_18 ?_
    refine lv_topl (fun t11 ht11 => ?_)
    refine lv_lload_n hx hb dX4_isAmountBelow_19 rfl (lv_at hl 1 rfl) ?_
    refine W.lcmp hx hb dX4_isAmountBelow_20 ?_
    refine lv_if_ge (tgt := 28) hx hb dX4_isAmountBelow_21 (by decide) (fun c9 => ?_) (fun c9 => ?_)
    · have c3 := gl_ge c9
      refine lv_iconst (v := 0) hx hb dX4_isAmountBelow_28 (by decide) ?_
      subst hQ9
      exact t_z hx hb hr isB0 hlocks hT isB0 dX4_isAmountBelow_29
    · have c4 := gl_nge c9
      refine lv_iconst (v := 1) hx hb dX4_isAmountBelow_24 (by decide) ?_
      refine lv_goto (tgt := 29) hx hb dX4_isAmountBelow_25 (by decide) ?_
      subst hQ9
      exact t_z hx hb hr isB1 hlocks hT isB1 dX4_isAmountBelow_29
set_option maxHeartbeats 4000000 in
set_option maxRecDepth 100000 in
theorem X4_lowest (l : Launch) (κ : Kt) (σ0 : Gh) (this : Nat) (t_this : zk σ0 this 1) : TC l yX4_lowest cX4_lowest 1 (some .long) 0 0 [.ref this] κ σ0 (tql κ fE σ0 (fun (r : Int64) (τ : Gh) => True)) := by
  refine TC.of fE (by decide +kernel) (Nat.le_of_ble_eq_true rfl) ?_
  intro p e s m below meth c ls hcs hK hX hT hl
  obtain ⟨hx, hb, hr, hml, hown, hg, hlocks, hin⟩ := hcs
  have hown : s.vm.findClass RX4 = some m.cls := hown
  have hl : lv_has ls 1 [(0, .ref this)] := hl
  have hT0 := hT
  have n0 : (0 : Int32).toInt = 0 := by decide
  have j4294967295 : (4294967295 : Int64).toInt = 4294967295 := by decide
  generalize hQ9 : tQ _ _ _ _ _ _ = Q9
  refine lv_aload_n hx hb dX4_lowest_0 rfl (lv_at hl 0 rfl) ?_
  obtain ⟨h1, oh1, th1⟩ := hT.o1 (hT.k t_this (by decide))
  obtain ⟨v2, ev2⟩ : ∃ zz9 : Int32, zI σ0 this 2 = zz9 := ⟨_, rfl⟩
  have qv2 : v2.toInt = (zI σ0 this 2).toInt := by rw [ev2]
  have b3 : isB v2 := by have q9 := (hT.P (hT.k t_this (by decide)) (by decide)).2.2; rw [(hT.eI t_this (by decide) rfl ev2)] at q9; exact q9
  refine va_get (D := κ.1) (ci := 4) (v := .int (zI σ0 this 2)) (C := RX4) (T := TX4) (N := 3) hx hb hg inX4 hown hK oh1.one 0 rfl rfl 2 (by decide) (hg _ k211) (fun _ h9 => h9) rfl dX4_lowest_1 ?_
  rw [(hT.eI t_this (by decide) rfl ev2)]
  refine lv_if_eq (tgt := 22) hx hb dX4_lowest_4 (by decide) (fun c9 => ?_) (fun c9 => ?_)
  · have c1 := gi_eq c9
    refine lv_aload_n hx hb dX4_lowest_22 rfl (lv_at hl 0 rfl) ?_
    obtain ⟨h4, oh4, th4⟩ := hT.o1 (hT.k t_this (by decide))
    refine va_get (D := κ.1) (ci := 4) (v := .ref h4) (C := RX4) (T := TX4) (N := 3) hx hb hg inX4 hown hK oh4.one 0 rfl rfl 0 (by decide) (hg _ k209) (fun _ h9 => h9) rfl dX4_lowest_23 ?_
    have bN5 := (hT.P (hT.k t_this (by decide)) (by decide)).1
    have hN6 : zN σ0 this = zN σ0 this := hT.eN t_this (by decide) rfl rfl
    refine lv_iconst (v := 0) hx hb dX4_lowest_26 (by decide) ?_
    refine va_iald hx hb hK (hT.oL th4).one 0 0 rfl rfl (g_in (by omega) (by omega)) dX4_lowest_27 ?_
    refine lv_topi (fun t7 ht7 => ?_)
    refine lv_i2l hx hb dX4_lowest_28 rfl ?_
    refine g_i2l (fun t8 ht8 => ?_)
    refine lv_ldc2 hx hb hown (hg _ k348) dX4_lowest_29 ?_
    refine lv_land hx hb dX4_lowest_32 ?_
    refine lv_topl (fun t9 ht9 => ?_)
    subst hQ9
    exact t_l hx hb hr hlocks hT trivial dX4_lowest_33
  · have c2 := gi_ne c9
    refine lv_aload_n hx hb dX4_lowest_7 rfl (lv_at hl 0 rfl) ?_
    obtain ⟨h10, oh10, th10⟩ := hT.o1 (hT.k t_this (by decide))
    refine va_get (D := κ.1) (ci := 4) (v := .ref h10) (C := RX4) (T := TX4) (N := 3) hx hb hg inX4 hown hK oh10.one 0 rfl rfl 0 (by decide) (hg _ k209) (fun _ h9 => h9) rfl dX4_lowest_8 ?_
    have bN11 := (hT.P (hT.k t_this (by decide)) (by decide)).1
    have hN12 : zN σ0 this = zN σ0 this := hT.eN t_this (by decide) rfl rfl
    refine lv_iconst (v := 0) hx hb dX4_lowest_11 (by decide) ?_
    refine va_iald hx hb hK (hT.oL th10).one 0 0 rfl rfl (g_in (by omega) (by omega)) dX4_lowest_12 ?_
    refine lv_topi (fun t13 ht13 => ?_)
    refine lv_i2l hx hb dX4_lowest_13 rfl ?_
    refine g_i2l (fun t14 ht14 => ?_)
    refine lv_ldc2 hx hb hown (hg _ k348) dX4_lowest_14 ?_
    refine lv_land hx hb dX4_lowest_17 ?_
    refine lv_topl (fun t15 ht15 => ?_)
    refine lv_lneg hx hb dX4_lowest_18 ?_
    refine lv_topl (fun t16 ht16 => ?_)
    refine lv_goto (tgt := 33) hx hb dX4_lowest_19 (by decide) ?_
    subst hQ9
    exact t_l hx hb hr hlocks hT trivial dX4_lowest_33
set_option maxHeartbeats 4000000 in
set_option maxRecDepth 100000 in
theorem X4_limbAt (l : Launch) (κ : Kt) (σ0 : Gh) (this : Nat) (i : Int32) (t_this : zk σ0 this 1) (h0 : 0 ≤ i.toInt) : TC l yX4_limbAt cX4_limbAt 2 (some .long) 0 0 [.ref this, .int i] κ σ0 (tql κ fE σ0 (fun (r : Int64) (τ : Gh) => True)) := by
  refine TC.of fE (by decide +kernel) (Nat.le_of_ble_eq_true rfl) ?_
  intro p e s m below meth c ls hcs hK hX hT hl
  obtain ⟨hx, hb, hr, hml, hown, hg, hlocks, hin⟩ := hcs
  have hown : s.vm.findClass RX4 = some m.cls := hown
  have hl : lv_has ls 2 [(0, .ref this), (1, .int i)] := hl
  have hT0 := hT
  have j0 : (0 : Int64).toInt = 0 := by decide
  have j4294967295 : (4294967295 : Int64).toInt = 4294967295 := by decide
  have i_lo := Int32.le_toInt i
  have i_hi := Int32.toInt_lt i
  generalize hQ9 : tQ _ _ _ _ _ _ = Q9
  refine lv_iload_n hx hb dX4_limbAt_0 rfl (lv_at hl 1 rfl) ?_
  refine lv_aload_n hx hb dX4_limbAt_1 rfl (lv_at hl 0 rfl) ?_
  obtain ⟨h1, oh1, th1⟩ := hT.o1 (hT.k t_this (by decide))
  obtain ⟨v2, ev2⟩ : ∃ zz9 : Int32, zI σ0 this 1 = zz9 := ⟨_, rfl⟩
  have qv2 : v2.toInt = (zI σ0 this 1).toInt := by rw [ev2]
  have b3 := (hT.P (hT.k t_this (by decide)) (by decide)).2.1
  rw [(hT.eI t_this (by decide) rfl ev2)] at b3
  have b3l := b3.1
  have b3h := b3.2
  have bN4 := (hT.P (hT.k t_this (by decide)) (by decide)).1
  have hN5 : zN σ0 this = zN σ0 this := hT.eN t_this (by decide) rfl rfl
  refine va_get (D := κ.1) (ci := 4) (v := .int (zI σ0 this 1)) (C := RX4) (T := TX4) (N := 3) hx hb hg inX4 hown hK oh1.one 0 rfl rfl 1 (by decide) (hg _ k210) (fun _ h9 => h9) rfl dX4_limbAt_2 ?_
  rw [(hT.eI t_this (by decide) rfl ev2)]
  refine lv_icmp_ge (tgt := 22) hx hb dX4_limbAt_5 (by decide) (fun c9 => ?_) (fun c9 => ?_)
  · have c1 := gi_le c9
    refine lv_lconst (v := 0) hx hb dX4_limbAt_22 (by decide) ?_
    subst hQ9
    exact t_l hx hb hr hlocks hT trivial dX4_limbAt_23
  · have c2 := gi_nle c9
    refine lv_aload_n hx hb dX4_limbAt_8 rfl (lv_at hl 0 rfl) ?_
    obtain ⟨h6, oh6, th6⟩ := hT.o1 (hT.k t_this (by decide))
    refine va_get (D := κ.1) (ci := 4) (v := .ref h6) (C := RX4) (T := TX4) (N := 3) hx hb hg inX4 hown hK oh6.one 0 rfl rfl 0 (by decide) (hg _ k209) (fun _ h9 => h9) rfl dX4_limbAt_9 ?_
    have bN7 := (hT.P (hT.k t_this (by decide)) (by decide)).1
    have hN8 : zN σ0 this = zN σ0 this := hT.eN t_this (by decide) rfl rfl
    refine lv_iload_n hx hb dX4_limbAt_12 rfl (lv_at hl 1 rfl) ?_
    refine va_iald hx hb hK (hT.oL th6).one 0 0 rfl rfl (g_in (by omega) (by omega)) dX4_limbAt_13 ?_
    refine lv_topi (fun t9 ht9 => ?_)
    refine lv_i2l hx hb dX4_limbAt_14 rfl ?_
    refine g_i2l (fun t10 ht10 => ?_)
    refine lv_ldc2 hx hb hown (hg _ k348) dX4_limbAt_15 ?_
    refine lv_land hx hb dX4_limbAt_18 ?_
    refine lv_topl (fun t11 ht11 => ?_)
    refine lv_goto (tgt := 23) hx hb dX4_limbAt_19 (by decide) ?_
    subst hQ9
    exact t_l hx hb hr hlocks hT trivial dX4_limbAt_23
