/-! The law, a row a case: more -/
theorem sub_fSet_fA : ∀ t k, fA t k = false → fSet t k = false := by
  intro t k h
  simp [fSet, fA] at h ⊢ <;> omega
theorem sub_fW_fA : ∀ t k, fA t k = false → fW t k = false := by
  intro t k h
  simp [fW, fA] at h ⊢ <;> omega
theorem sub_gTr_fA : ∀ t k, fA t k = false → gTr t k = false := by
  intro t k h
  simp [gTr, fA] at h ⊢ <;> omega
theorem sub_hfE_fA : ∀ t k, fA t k = false → hfE t k = false := by
  intro t k h
  simp [hfE, fA] at h ⊢ <;> omega
theorem sub_hfSet_fA : ∀ t k, fA t k = false → hfSet t k = false := by
  intro t k h
  simp [hfSet, fA] at h ⊢ <;> omega
theorem sub_hfTr_fA : ∀ t k, fA t k = false → hfTr t k = false := by
  intro t k h
  simp [hfTr, fA] at h ⊢ <;> omega
theorem sub_hfW_fA : ∀ t k, fA t k = false → hfW t k = false := by
  intro t k h
  simp [hfW, fA] at h ⊢ <;> omega
theorem k431 : Cond.methodLink RL 159 yX5_integral ∈ GW := gm 431 (by decide +kernel) (by decide +kernel)
theorem k432 : Cond.instanceMethod yX5_integral ∈ GW := gm 432 (by decide +kernel) (by decide +kernel)
theorem k433 : Cond.selects RX5 yX5_integral yX5_integral ∈ GW := gm 433 (by decide +kernel) (by decide +kernel)
theorem k434 : Cond.code yX5_integral cX5_integral 1 (some .long) ∈ GW := gm 434 (by decide +kernel) (by decide +kernel)
theorem k447 : Cond.methodLink RL 164 yX5_drift ∈ GW := gm 447 (by decide +kernel) (by decide +kernel)
theorem k448 : Cond.instanceMethod yX5_drift ∈ GW := gm 448 (by decide +kernel) (by decide +kernel)
theorem k449 : Cond.selects RX5 yX5_drift yX5_drift ∈ GW := gm 449 (by decide +kernel) (by decide +kernel)
theorem k450 : Cond.code yX5_drift cX5_drift 1 (some .long) ∈ GW := gm 450 (by decide +kernel) (by decide +kernel)
theorem k463 : Cond.methodLink RL 171 yX5_plainMean ∈ GW := gm 463 (by decide +kernel) (by decide +kernel)
theorem k464 : Cond.instanceMethod yX5_plainMean ∈ GW := gm 464 (by decide +kernel) (by decide +kernel)
theorem k465 : Cond.selects RX5 yX5_plainMean yX5_plainMean ∈ GW := gm 465 (by decide +kernel) (by decide +kernel)
theorem k466 : Cond.code yX5_plainMean cX5_plainMean 1 (some .double) ∈ GW := gm 466 (by decide +kernel) (by decide +kernel)
theorem k492 : Cond.methodLink RL 176 yX5_energy ∈ GW := gm 492 (by decide +kernel) (by decide +kernel)
theorem k493 : Cond.instanceMethod yX5_energy ∈ GW := gm 493 (by decide +kernel) (by decide +kernel)
theorem k494 : Cond.selects RX5 yX5_energy yX5_energy ∈ GW := gm 494 (by decide +kernel) (by decide +kernel)
theorem k495 : Cond.code yX5_energy cX5_energy 1 (some .long) ∈ GW := gm 495 (by decide +kernel) (by decide +kernel)
theorem k501 : Cond.methodLink RL 180 yX5_bits ∈ GW := gm 501 (by decide +kernel) (by decide +kernel)
theorem k502 : Cond.instanceMethod yX5_bits ∈ GW := gm 502 (by decide +kernel) (by decide +kernel)
theorem k503 : Cond.selects RX5 yX5_bits yX5_bits ∈ GW := gm 503 (by decide +kernel) (by decide +kernel)
theorem k504 : Cond.code yX5_bits cX5_bits 1 (some .int) ∈ GW := gm 504 (by decide +kernel) (by decide +kernel)
theorem k510 : Cond.methodLink RL 196 yX5_setUpdate ∈ GW := gm 510 (by decide +kernel) (by decide +kernel)
theorem k511 : Cond.instanceMethod yX5_setUpdate ∈ GW := gm 511 (by decide +kernel) (by decide +kernel)
theorem k512 : Cond.selects RX5 yX5_setUpdate yX5_setUpdate ∈ GW := gm 512 (by decide +kernel) (by decide +kernel)
theorem k513 : Cond.code yX5_setUpdate cX5_setUpdate 3 (some .boolean) ∈ GW := gm 513 (by decide +kernel) (by decide +kernel)
theorem k602 : Cond.methodLink RL 121 yL_truncate ∈ GW := gm 602 (by decide +kernel) (by decide +kernel)
theorem k603 : Cond.static yL_truncate ∈ GW := gm 603 (by decide +kernel) (by decide +kernel)
theorem k604 : Cond.codeWith yL_truncate cL_truncate 4 (some .int) [(0, 9, 12, 13)] ∈ GW := gm 604 (by decide +kernel) (by decide +kernel)
theorem k834 : Cond.methodLink RL 139 yL_count ∈ GW := gm 834 (by decide +kernel) (by decide +kernel)
theorem k835 : Cond.static yL_count ∈ GW := gm 835 (by decide +kernel) (by decide +kernel)
theorem k836 : Cond.codeWith yL_count cL_count 4 (some .int) [(0, 9, 12, 19)] ∈ GW := gm 836 (by decide +kernel) (by decide +kernel)
theorem k854 : Cond.methodLink RL 142 yL_sample ∈ GW := gm 854 (by decide +kernel) (by decide +kernel)
theorem k855 : Cond.static yL_sample ∈ GW := gm 855 (by decide +kernel) (by decide +kernel)
theorem k856 : Cond.codeWith yL_sample cL_sample 5 (some .int) [(0, 9, 12, 13), (0, 9, 16, 19)] ∈ GW := gm 856 (by decide +kernel) (by decide +kernel)
theorem k863 : Cond.methodLink RL 146 yL_present ∈ GW := gm 863 (by decide +kernel) (by decide +kernel)
theorem k864 : Cond.static yL_present ∈ GW := gm 864 (by decide +kernel) (by decide +kernel)
theorem k865 : Cond.codeWith yL_present cL_present 4 (some .int) [(0, 9, 12, 13)] ∈ GW := gm 865 (by decide +kernel) (by decide +kernel)
theorem k874 : Cond.methodLink RL 149 yL_neighbour ∈ GW := gm 874 (by decide +kernel) (by decide +kernel)
theorem k875 : Cond.static yL_neighbour ∈ GW := gm 875 (by decide +kernel) (by decide +kernel)
theorem k876 : Cond.codeWith yL_neighbour cL_neighbour 5 (some .int) [(0, 10, 13, 13)] ∈ GW := gm 876 (by decide +kernel) (by decide +kernel)
theorem k883 : Cond.methodLink RL 153 yL_step ∈ GW := gm 883 (by decide +kernel) (by decide +kernel)
theorem k884 : Cond.static yL_step ∈ GW := gm 884 (by decide +kernel) (by decide +kernel)
theorem k885 : Cond.codeWith yL_step cL_step 5 (some .int) [(0, 9, 12, 13), (0, 9, 16, 19)] ∈ GW := gm 885 (by decide +kernel) (by decide +kernel)
theorem k890 : Cond.methodLink RL 156 yL_valueAt ∈ GW := gm 890 (by decide +kernel) (by decide +kernel)
theorem k891 : Cond.static yL_valueAt ∈ GW := gm 891 (by decide +kernel) (by decide +kernel)
theorem k892 : Cond.codeWith yL_valueAt cL_valueAt 4 (some .int) [(0, 8, 11, 13)] ∈ GW := gm 892 (by decide +kernel) (by decide +kernel)
theorem k902 : Cond.methodLink RL 168 yL_mean ∈ GW := gm 902 (by decide +kernel) (by decide +kernel)
theorem k903 : Cond.static yL_mean ∈ GW := gm 903 (by decide +kernel) (by decide +kernel)
theorem k904 : Cond.codeWith yL_mean cL_mean 4 (some .int) [(0, 8, 11, 19)] ∈ GW := gm 904 (by decide +kernel) (by decide +kernel)
theorem k927 : Cond.methodLink RL 184 yL_largest ∈ GW := gm 927 (by decide +kernel) (by decide +kernel)
theorem k928 : Cond.static yL_largest ∈ GW := gm 928 (by decide +kernel) (by decide +kernel)
theorem k929 : Cond.codeWith yL_largest cL_largest 4 (some .int) [(0, 9, 12, 13)] ∈ GW := gm 929 (by decide +kernel) (by decide +kernel)
theorem k942 : Cond.methodLink RL 187 yL_next ∈ GW := gm 942 (by decide +kernel) (by decide +kernel)
theorem k943 : Cond.static yL_next ∈ GW := gm 943 (by decide +kernel) (by decide +kernel)
theorem k944 : Cond.codeWith yL_next cL_next 3 (some .int) [(0, 8, 11, 51)] ∈ GW := gm 944 (by decide +kernel) (by decide +kernel)
theorem k967 : Cond.methodLink RL 190 yL_setSplit ∈ GW := gm 967 (by decide +kernel) (by decide +kernel)
theorem k968 : Cond.static yL_setSplit ∈ GW := gm 968 (by decide +kernel) (by decide +kernel)
theorem k969 : Cond.codeWith yL_setSplit cL_setSplit 4 (some .int) [(0, 9, 12, 19)] ∈ GW := gm 969 (by decide +kernel) (by decide +kernel)
theorem k974 : Cond.methodLink RL 193 yL_setPredict ∈ GW := gm 974 (by decide +kernel) (by decide +kernel)
theorem k975 : Cond.static yL_setPredict ∈ GW := gm 975 (by decide +kernel) (by decide +kernel)
theorem k976 : Cond.codeWith yL_setPredict cL_setPredict 4 (some .int) [(0, 9, 12, 19)] ∈ GW := gm 976 (by decide +kernel) (by decide +kernel)
theorem k1313 : Cond.methodLink RL 126 yX6_truncate ∈ GW := gm 1313 (by decide +kernel) (by decide +kernel)
theorem k1314 : Cond.instanceMethod yX6_truncate ∈ GW := gm 1314 (by decide +kernel) (by decide +kernel)
theorem k1315 : Cond.selects RX6 yX6_truncate yX6_truncate ∈ GW := gm 1315 (by decide +kernel) (by decide +kernel)
theorem k1316 : Cond.code yX6_truncate cX6_truncate 2 (some .int) ∈ GW := gm 1316 (by decide +kernel) (by decide +kernel)
theorem k1407 : Cond.methodLink RL 141 yX6_count ∈ GW := gm 1407 (by decide +kernel) (by decide +kernel)
theorem k1408 : Cond.instanceMethod yX6_count ∈ GW := gm 1408 (by decide +kernel) (by decide +kernel)
theorem k1409 : Cond.selects RX6 yX6_count yX6_count ∈ GW := gm 1409 (by decide +kernel) (by decide +kernel)
theorem k1410 : Cond.code yX6_count cX6_count 2 (some .int) ∈ GW := gm 1410 (by decide +kernel) (by decide +kernel)
theorem k1436 : Cond.methodLink RL 145 yX6_sample ∈ GW := gm 1436 (by decide +kernel) (by decide +kernel)
theorem k1437 : Cond.instanceMethod yX6_sample ∈ GW := gm 1437 (by decide +kernel) (by decide +kernel)
theorem k1438 : Cond.selects RX6 yX6_sample yX6_sample ∈ GW := gm 1438 (by decide +kernel) (by decide +kernel)
theorem k1439 : Cond.code yX6_sample cX6_sample 3 (some .long) ∈ GW := gm 1439 (by decide +kernel) (by decide +kernel)
theorem k1445 : Cond.methodLink RL 148 yX6_present ∈ GW := gm 1445 (by decide +kernel) (by decide +kernel)
theorem k1446 : Cond.instanceMethod yX6_present ∈ GW := gm 1446 (by decide +kernel) (by decide +kernel)
theorem k1447 : Cond.selects RX6 yX6_present yX6_present ∈ GW := gm 1447 (by decide +kernel) (by decide +kernel)
theorem k1448 : Cond.code yX6_present cX6_present 4 (some .int) ∈ GW := gm 1448 (by decide +kernel) (by decide +kernel)
theorem k1453 : Cond.methodLink RL 152 yX6_neighbour ∈ GW := gm 1453 (by decide +kernel) (by decide +kernel)
theorem k1454 : Cond.instanceMethod yX6_neighbour ∈ GW := gm 1454 (by decide +kernel) (by decide +kernel)
theorem k1455 : Cond.selects RX6 yX6_neighbour yX6_neighbour ∈ GW := gm 1455 (by decide +kernel) (by decide +kernel)
theorem k1456 : Cond.code yX6_neighbour cX6_neighbour 3 (some .int) ∈ GW := gm 1456 (by decide +kernel) (by decide +kernel)
theorem k1457 : Cond.methodLink RL 155 yX6_step ∈ GW := gm 1457 (by decide +kernel) (by decide +kernel)
theorem k1458 : Cond.instanceMethod yX6_step ∈ GW := gm 1458 (by decide +kernel) (by decide +kernel)
theorem k1459 : Cond.selects RX6 yX6_step yX6_step ∈ GW := gm 1459 (by decide +kernel) (by decide +kernel)
theorem k1460 : Cond.code yX6_step cX6_step 3 (some .long) ∈ GW := gm 1460 (by decide +kernel) (by decide +kernel)
theorem k1465 : Cond.methodLink RL 158 yX6_valueAt ∈ GW := gm 1465 (by decide +kernel) (by decide +kernel)
theorem k1466 : Cond.instanceMethod yX6_valueAt ∈ GW := gm 1466 (by decide +kernel) (by decide +kernel)
theorem k1467 : Cond.selects RX6 yX6_valueAt yX6_valueAt ∈ GW := gm 1467 (by decide +kernel) (by decide +kernel)
theorem k1468 : Cond.code yX6_valueAt cX6_valueAt 4 (some .long) ∈ GW := gm 1468 (by decide +kernel) (by decide +kernel)
theorem k1472 : Cond.methodLink RL 163 yX6_integral ∈ GW := gm 1472 (by decide +kernel) (by decide +kernel)
theorem k1473 : Cond.instanceMethod yX6_integral ∈ GW := gm 1473 (by decide +kernel) (by decide +kernel)
theorem k1474 : Cond.selects RX6 yX6_integral yX6_integral ∈ GW := gm 1474 (by decide +kernel) (by decide +kernel)
theorem k1475 : Cond.code yX6_integral cX6_integral 1 (some .long) ∈ GW := gm 1475 (by decide +kernel) (by decide +kernel)
theorem k1480 : Cond.methodLink RL 167 yX6_drift ∈ GW := gm 1480 (by decide +kernel) (by decide +kernel)
theorem k1481 : Cond.instanceMethod yX6_drift ∈ GW := gm 1481 (by decide +kernel) (by decide +kernel)
theorem k1482 : Cond.selects RX6 yX6_drift yX6_drift ∈ GW := gm 1482 (by decide +kernel) (by decide +kernel)
theorem k1483 : Cond.code yX6_drift cX6_drift 1 (some .long) ∈ GW := gm 1483 (by decide +kernel) (by decide +kernel)
theorem k1484 : Cond.methodLink RL 170 yX6_mean ∈ GW := gm 1484 (by decide +kernel) (by decide +kernel)
theorem k1485 : Cond.instanceMethod yX6_mean ∈ GW := gm 1485 (by decide +kernel) (by decide +kernel)
theorem k1486 : Cond.selects RX6 yX6_mean yX6_mean ∈ GW := gm 1486 (by decide +kernel) (by decide +kernel)
theorem k1487 : Cond.code yX6_mean cX6_mean 4 (some .long) ∈ GW := gm 1487 (by decide +kernel) (by decide +kernel)
theorem k1494 : Cond.methodLink RL 175 yX6_plainMean ∈ GW := gm 1494 (by decide +kernel) (by decide +kernel)
theorem k1495 : Cond.instanceMethod yX6_plainMean ∈ GW := gm 1495 (by decide +kernel) (by decide +kernel)
theorem k1496 : Cond.selects RX6 yX6_plainMean yX6_plainMean ∈ GW := gm 1496 (by decide +kernel) (by decide +kernel)
theorem k1497 : Cond.code yX6_plainMean cX6_plainMean 4 (some .double) ∈ GW := gm 1497 (by decide +kernel) (by decide +kernel)
theorem k1498 : Cond.methodLink RL 179 yX6_energy ∈ GW := gm 1498 (by decide +kernel) (by decide +kernel)
theorem k1499 : Cond.instanceMethod yX6_energy ∈ GW := gm 1499 (by decide +kernel) (by decide +kernel)
theorem k1500 : Cond.selects RX6 yX6_energy yX6_energy ∈ GW := gm 1500 (by decide +kernel) (by decide +kernel)
theorem k1501 : Cond.code yX6_energy cX6_energy 4 (some .long) ∈ GW := gm 1501 (by decide +kernel) (by decide +kernel)
theorem k1502 : Cond.methodLink RL 183 yX6_bits ∈ GW := gm 1502 (by decide +kernel) (by decide +kernel)
theorem k1503 : Cond.instanceMethod yX6_bits ∈ GW := gm 1503 (by decide +kernel) (by decide +kernel)
theorem k1504 : Cond.selects RX6 yX6_bits yX6_bits ∈ GW := gm 1504 (by decide +kernel) (by decide +kernel)
theorem k1505 : Cond.code yX6_bits cX6_bits 1 (some .int) ∈ GW := gm 1505 (by decide +kernel) (by decide +kernel)
theorem k1511 : Cond.methodLink RL 186 yX6_largest ∈ GW := gm 1511 (by decide +kernel) (by decide +kernel)
theorem k1512 : Cond.instanceMethod yX6_largest ∈ GW := gm 1512 (by decide +kernel) (by decide +kernel)
theorem k1513 : Cond.selects RX6 yX6_largest yX6_largest ∈ GW := gm 1513 (by decide +kernel) (by decide +kernel)
theorem k1514 : Cond.code yX6_largest cX6_largest 3 (some .int) ∈ GW := gm 1514 (by decide +kernel) (by decide +kernel)
theorem k1519 : Cond.methodLink RL 189 yX6_next ∈ GW := gm 1519 (by decide +kernel) (by decide +kernel)
theorem k1520 : Cond.instanceMethod yX6_next ∈ GW := gm 1520 (by decide +kernel) (by decide +kernel)
theorem k1521 : Cond.selects RX6 yX6_next yX6_next ∈ GW := gm 1521 (by decide +kernel) (by decide +kernel)
theorem k1522 : Cond.code yX6_next cX6_next 2 (some .int) ∈ GW := gm 1522 (by decide +kernel) (by decide +kernel)
theorem k1547 : Cond.methodLink RL 192 yX6_setSplit ∈ GW := gm 1547 (by decide +kernel) (by decide +kernel)
theorem k1548 : Cond.instanceMethod yX6_setSplit ∈ GW := gm 1548 (by decide +kernel) (by decide +kernel)
theorem k1549 : Cond.selects RX6 yX6_setSplit yX6_setSplit ∈ GW := gm 1549 (by decide +kernel) (by decide +kernel)
theorem k1550 : Cond.code yX6_setSplit cX6_setSplit 2 (some .int) ∈ GW := gm 1550 (by decide +kernel) (by decide +kernel)
theorem k1555 : Cond.methodLink RL 195 yX6_setPredict ∈ GW := gm 1555 (by decide +kernel) (by decide +kernel)
theorem k1556 : Cond.instanceMethod yX6_setPredict ∈ GW := gm 1556 (by decide +kernel) (by decide +kernel)
theorem k1557 : Cond.selects RX6 yX6_setPredict yX6_setPredict ∈ GW := gm 1557 (by decide +kernel) (by decide +kernel)
theorem k1558 : Cond.code yX6_setPredict cX6_setPredict 2 (some .int) ∈ GW := gm 1558 (by decide +kernel) (by decide +kernel)
theorem k1559 : Cond.methodLink RL 200 yX6_setUpdate ∈ GW := gm 1559 (by decide +kernel) (by decide +kernel)
theorem k1560 : Cond.instanceMethod yX6_setUpdate ∈ GW := gm 1560 (by decide +kernel) (by decide +kernel)
theorem k1561 : Cond.selects RX6 yX6_setUpdate yX6_setUpdate ∈ GW := gm 1561 (by decide +kernel) (by decide +kernel)
theorem k1562 : Cond.code yX6_setUpdate cX6_setUpdate 2 (some .boolean) ∈ GW := gm 1562 (by decide +kernel) (by decide +kernel)
theorem dL_law_293 : decode cL_law 293 = .ok (.aload_n 1, 1) := by decide +kernel
theorem dL_law_294 : decode cL_law 294 = .ok (.aload_n 0, 1) := by decide +kernel
theorem dL_law_295 : decode cL_law 295 = .ok (.iload 4, 2) := by decide +kernel
theorem dL_law_297 : decode cL_law 297 = .ok (.iconst 1, 1) := by decide +kernel
theorem dL_law_298 : decode cL_law 298 = .ok (.iadd, 1) := by decide +kernel
theorem dL_law_299 : decode cL_law 299 = .ok (.iaload, 1) := by decide +kernel
theorem dL_law_300 : decode cL_law 300 = .ok (.aload_n 3, 1) := by decide +kernel
theorem dL_law_301 : decode cL_law 301 = .ok (.invokestatic 121, 3) := by decide +kernel
theorem dL_law_304 : decode cL_law 304 = .ok (.istore 5, 2) := by decide +kernel
theorem dL_law_306 : decode cL_law 306 = .ok (.aload_n 2, 1) := by decide +kernel
theorem dL_law_307 : decode cL_law 307 = .ok (.aload_n 0, 1) := by decide +kernel
theorem dL_law_308 : decode cL_law 308 = .ok (.iload 4, 2) := by decide +kernel
theorem dL_law_310 : decode cL_law 310 = .ok (.iconst 1, 1) := by decide +kernel
theorem dL_law_311 : decode cL_law 311 = .ok (.iadd, 1) := by decide +kernel
theorem dL_law_312 : decode cL_law 312 = .ok (.iaload, 1) := by decide +kernel
theorem dL_law_313 : decode cL_law 313 = .ok (.invokevirtual 126, 3) := by decide +kernel
theorem dL_law_316 : decode cL_law 316 = .ok (.istore 6, 2) := by decide +kernel
theorem dL_law_318 : decode cL_law 318 = .ok (.goto 1114, 3) := by decide +kernel
theorem dL_law_363 : decode cL_law 363 = .ok (.aload_n 1, 1) := by decide +kernel
theorem dL_law_364 : decode cL_law 364 = .ok (.aload_n 0, 1) := by decide +kernel
theorem dL_law_365 : decode cL_law 365 = .ok (.iload 4, 2) := by decide +kernel
theorem dL_law_367 : decode cL_law 367 = .ok (.iconst 1, 1) := by decide +kernel
theorem dL_law_368 : decode cL_law 368 = .ok (.iadd, 1) := by decide +kernel
theorem dL_law_369 : decode cL_law 369 = .ok (.iaload, 1) := by decide +kernel
theorem dL_law_370 : decode cL_law 370 = .ok (.aload_n 3, 1) := by decide +kernel
theorem dL_law_371 : decode cL_law 371 = .ok (.invokestatic 139, 3) := by decide +kernel
theorem dL_law_374 : decode cL_law 374 = .ok (.istore 5, 2) := by decide +kernel
theorem dL_law_376 : decode cL_law 376 = .ok (.aload_n 2, 1) := by decide +kernel
theorem dL_law_377 : decode cL_law 377 = .ok (.aload_n 0, 1) := by decide +kernel
theorem dL_law_378 : decode cL_law 378 = .ok (.iload 4, 2) := by decide +kernel
theorem dL_law_380 : decode cL_law 380 = .ok (.iconst 1, 1) := by decide +kernel
theorem dL_law_381 : decode cL_law 381 = .ok (.iadd, 1) := by decide +kernel
theorem dL_law_382 : decode cL_law 382 = .ok (.iaload, 1) := by decide +kernel
theorem dL_law_383 : decode cL_law 383 = .ok (.invokevirtual 141, 3) := by decide +kernel
theorem dL_law_386 : decode cL_law 386 = .ok (.istore 6, 2) := by decide +kernel
theorem dL_law_388 : decode cL_law 388 = .ok (.goto 1044, 3) := by decide +kernel
theorem dL_law_391 : decode cL_law 391 = .ok (.aload_n 1, 1) := by decide +kernel
theorem dL_law_392 : decode cL_law 392 = .ok (.aload_n 0, 1) := by decide +kernel
theorem dL_law_393 : decode cL_law 393 = .ok (.iload 4, 2) := by decide +kernel
theorem dL_law_395 : decode cL_law 395 = .ok (.iconst 1, 1) := by decide +kernel
theorem dL_law_396 : decode cL_law 396 = .ok (.iadd, 1) := by decide +kernel
theorem dL_law_397 : decode cL_law 397 = .ok (.iaload, 1) := by decide +kernel
theorem dL_law_398 : decode cL_law 398 = .ok (.aload_n 0, 1) := by decide +kernel
theorem dL_law_399 : decode cL_law 399 = .ok (.iload 4, 2) := by decide +kernel
theorem dL_law_401 : decode cL_law 401 = .ok (.iconst 2, 1) := by decide +kernel
theorem dL_law_402 : decode cL_law 402 = .ok (.iadd, 1) := by decide +kernel
theorem dL_law_403 : decode cL_law 403 = .ok (.iaload, 1) := by decide +kernel
theorem dL_law_404 : decode cL_law 404 = .ok (.aload_n 3, 1) := by decide +kernel
theorem dL_law_405 : decode cL_law 405 = .ok (.invokestatic 142, 3) := by decide +kernel
theorem dL_law_408 : decode cL_law 408 = .ok (.istore 5, 2) := by decide +kernel
theorem dL_law_410 : decode cL_law 410 = .ok (.aload_n 2, 1) := by decide +kernel
theorem dL_law_411 : decode cL_law 411 = .ok (.aload_n 0, 1) := by decide +kernel
theorem dL_law_412 : decode cL_law 412 = .ok (.iload 4, 2) := by decide +kernel
theorem dL_law_414 : decode cL_law 414 = .ok (.iconst 1, 1) := by decide +kernel
theorem dL_law_415 : decode cL_law 415 = .ok (.iadd, 1) := by decide +kernel
theorem dL_law_416 : decode cL_law 416 = .ok (.iaload, 1) := by decide +kernel
theorem dL_law_417 : decode cL_law 417 = .ok (.aload_n 0, 1) := by decide +kernel
theorem dL_law_418 : decode cL_law 418 = .ok (.iload 4, 2) := by decide +kernel
theorem dL_law_420 : decode cL_law 420 = .ok (.iconst 2, 1) := by decide +kernel
theorem dL_law_421 : decode cL_law 421 = .ok (.iadd, 1) := by decide +kernel
theorem dL_law_422 : decode cL_law 422 = .ok (.iaload, 1) := by decide +kernel
theorem dL_law_423 : decode cL_law 423 = .ok (.invokevirtual 145, 3) := by decide +kernel
theorem dL_law_426 : decode cL_law 426 = .ok (.lstore 6, 2) := by decide +kernel
theorem dL_law_428 : decode cL_law 428 = .ok (.goto 1004, 3) := by decide +kernel
theorem dL_law_431 : decode cL_law 431 = .ok (.aload_n 1, 1) := by decide +kernel
theorem dL_law_432 : decode cL_law 432 = .ok (.aload_n 0, 1) := by decide +kernel
theorem dL_law_433 : decode cL_law 433 = .ok (.iload 4, 2) := by decide +kernel
theorem dL_law_435 : decode cL_law 435 = .ok (.iconst 1, 1) := by decide +kernel
theorem dL_law_436 : decode cL_law 436 = .ok (.iadd, 1) := by decide +kernel
theorem dL_law_437 : decode cL_law 437 = .ok (.iaload, 1) := by decide +kernel
theorem dL_law_438 : decode cL_law 438 = .ok (.aload_n 3, 1) := by decide +kernel
theorem dL_law_439 : decode cL_law 439 = .ok (.invokestatic 146, 3) := by decide +kernel
theorem dL_law_442 : decode cL_law 442 = .ok (.istore 5, 2) := by decide +kernel
theorem dL_law_444 : decode cL_law 444 = .ok (.aload_n 2, 1) := by decide +kernel
theorem dL_law_445 : decode cL_law 445 = .ok (.aload_n 0, 1) := by decide +kernel
theorem dL_law_446 : decode cL_law 446 = .ok (.iload 4, 2) := by decide +kernel
theorem dL_law_448 : decode cL_law 448 = .ok (.iconst 1, 1) := by decide +kernel
theorem dL_law_449 : decode cL_law 449 = .ok (.iadd, 1) := by decide +kernel
theorem dL_law_450 : decode cL_law 450 = .ok (.iaload, 1) := by decide +kernel
theorem dL_law_451 : decode cL_law 451 = .ok (.invokevirtual 148, 3) := by decide +kernel
theorem dL_law_454 : decode cL_law 454 = .ok (.istore 6, 2) := by decide +kernel
theorem dL_law_456 : decode cL_law 456 = .ok (.goto 976, 3) := by decide +kernel
theorem dL_law_459 : decode cL_law 459 = .ok (.aload_n 1, 1) := by decide +kernel
theorem dL_law_460 : decode cL_law 460 = .ok (.aload_n 0, 1) := by decide +kernel
theorem dL_law_461 : decode cL_law 461 = .ok (.iload 4, 2) := by decide +kernel
theorem dL_law_463 : decode cL_law 463 = .ok (.iconst 1, 1) := by decide +kernel
theorem dL_law_464 : decode cL_law 464 = .ok (.iadd, 1) := by decide +kernel
theorem dL_law_465 : decode cL_law 465 = .ok (.iaload, 1) := by decide +kernel
theorem dL_law_466 : decode cL_law 466 = .ok (.aload_n 0, 1) := by decide +kernel
theorem dL_law_467 : decode cL_law 467 = .ok (.iload 4, 2) := by decide +kernel
theorem dL_law_469 : decode cL_law 469 = .ok (.iconst 2, 1) := by decide +kernel
theorem dL_law_470 : decode cL_law 470 = .ok (.iadd, 1) := by decide +kernel
theorem dL_law_471 : decode cL_law 471 = .ok (.iaload, 1) := by decide +kernel
theorem dL_law_472 : decode cL_law 472 = .ok (.ifCond .eq 7, 3) := by decide +kernel
theorem dL_law_475 : decode cL_law 475 = .ok (.iconst 1, 1) := by decide +kernel
theorem dL_law_476 : decode cL_law 476 = .ok (.goto 4, 3) := by decide +kernel
theorem dL_law_479 : decode cL_law 479 = .ok (.iconst 0, 1) := by decide +kernel
theorem dL_law_480 : decode cL_law 480 = .ok (.aload_n 3, 1) := by decide +kernel
theorem dL_law_481 : decode cL_law 481 = .ok (.invokestatic 149, 3) := by decide +kernel
theorem dL_law_484 : decode cL_law 484 = .ok (.istore 5, 2) := by decide +kernel
theorem dL_law_486 : decode cL_law 486 = .ok (.aload_n 2, 1) := by decide +kernel
theorem dL_law_487 : decode cL_law 487 = .ok (.aload_n 0, 1) := by decide +kernel
theorem dL_law_488 : decode cL_law 488 = .ok (.iload 4, 2) := by decide +kernel
theorem dL_law_490 : decode cL_law 490 = .ok (.iconst 1, 1) := by decide +kernel
theorem dL_law_491 : decode cL_law 491 = .ok (.iadd, 1) := by decide +kernel
theorem dL_law_492 : decode cL_law 492 = .ok (.iaload, 1) := by decide +kernel
theorem dL_law_493 : decode cL_law 493 = .ok (.aload_n 0, 1) := by decide +kernel
theorem dL_law_494 : decode cL_law 494 = .ok (.iload 4, 2) := by decide +kernel
theorem dL_law_496 : decode cL_law 496 = .ok (.iconst 2, 1) := by decide +kernel
theorem dL_law_497 : decode cL_law 497 = .ok (.iadd, 1) := by decide +kernel
theorem dL_law_498 : decode cL_law 498 = .ok (.iaload, 1) := by decide +kernel
theorem dL_law_499 : decode cL_law 499 = .ok (.ifCond .eq 7, 3) := by decide +kernel
theorem dL_law_502 : decode cL_law 502 = .ok (.iconst 1, 1) := by decide +kernel
theorem dL_law_503 : decode cL_law 503 = .ok (.goto 4, 3) := by decide +kernel
theorem dL_law_506 : decode cL_law 506 = .ok (.iconst 0, 1) := by decide +kernel
theorem dL_law_507 : decode cL_law 507 = .ok (.invokevirtual 152, 3) := by decide +kernel
theorem dL_law_510 : decode cL_law 510 = .ok (.istore 6, 2) := by decide +kernel
theorem dL_law_512 : decode cL_law 512 = .ok (.goto 920, 3) := by decide +kernel
theorem dL_law_515 : decode cL_law 515 = .ok (.aload_n 1, 1) := by decide +kernel
theorem dL_law_516 : decode cL_law 516 = .ok (.aload_n 0, 1) := by decide +kernel
theorem dL_law_517 : decode cL_law 517 = .ok (.iload 4, 2) := by decide +kernel
theorem dL_law_519 : decode cL_law 519 = .ok (.iconst 1, 1) := by decide +kernel
theorem dL_law_520 : decode cL_law 520 = .ok (.iadd, 1) := by decide +kernel
theorem dL_law_521 : decode cL_law 521 = .ok (.iaload, 1) := by decide +kernel
theorem dL_law_522 : decode cL_law 522 = .ok (.aload_n 0, 1) := by decide +kernel
theorem dL_law_523 : decode cL_law 523 = .ok (.iload 4, 2) := by decide +kernel
theorem dL_law_525 : decode cL_law 525 = .ok (.iconst 2, 1) := by decide +kernel
theorem dL_law_526 : decode cL_law 526 = .ok (.iadd, 1) := by decide +kernel
theorem dL_law_527 : decode cL_law 527 = .ok (.iaload, 1) := by decide +kernel
theorem dL_law_528 : decode cL_law 528 = .ok (.aload_n 3, 1) := by decide +kernel
theorem dL_law_529 : decode cL_law 529 = .ok (.invokestatic 153, 3) := by decide +kernel
theorem dL_law_532 : decode cL_law 532 = .ok (.istore 5, 2) := by decide +kernel
theorem dL_law_534 : decode cL_law 534 = .ok (.aload_n 2, 1) := by decide +kernel
theorem dL_law_535 : decode cL_law 535 = .ok (.aload_n 0, 1) := by decide +kernel
theorem dL_law_536 : decode cL_law 536 = .ok (.iload 4, 2) := by decide +kernel
theorem dL_law_538 : decode cL_law 538 = .ok (.iconst 1, 1) := by decide +kernel
theorem dL_law_539 : decode cL_law 539 = .ok (.iadd, 1) := by decide +kernel
theorem dL_law_540 : decode cL_law 540 = .ok (.iaload, 1) := by decide +kernel
theorem dL_law_541 : decode cL_law 541 = .ok (.aload_n 0, 1) := by decide +kernel
theorem dL_law_542 : decode cL_law 542 = .ok (.iload 4, 2) := by decide +kernel
theorem dL_law_544 : decode cL_law 544 = .ok (.iconst 2, 1) := by decide +kernel
theorem dL_law_545 : decode cL_law 545 = .ok (.iadd, 1) := by decide +kernel
theorem dL_law_546 : decode cL_law 546 = .ok (.iaload, 1) := by decide +kernel
theorem dL_law_547 : decode cL_law 547 = .ok (.invokevirtual 155, 3) := by decide +kernel
theorem dL_law_550 : decode cL_law 550 = .ok (.lstore 6, 2) := by decide +kernel
theorem dL_law_552 : decode cL_law 552 = .ok (.goto 880, 3) := by decide +kernel
theorem dL_law_555 : decode cL_law 555 = .ok (.aload_n 1, 1) := by decide +kernel
theorem dL_law_556 : decode cL_law 556 = .ok (.aload_n 0, 1) := by decide +kernel
theorem dL_law_557 : decode cL_law 557 = .ok (.iload 4, 2) := by decide +kernel
theorem dL_law_559 : decode cL_law 559 = .ok (.iconst 1, 1) := by decide +kernel
theorem dL_law_560 : decode cL_law 560 = .ok (.iadd, 1) := by decide +kernel
theorem dL_law_561 : decode cL_law 561 = .ok (.iaload, 1) := by decide +kernel
theorem dL_law_562 : decode cL_law 562 = .ok (.aload_n 3, 1) := by decide +kernel
theorem dL_law_563 : decode cL_law 563 = .ok (.invokestatic 156, 3) := by decide +kernel
theorem dL_law_566 : decode cL_law 566 = .ok (.istore 5, 2) := by decide +kernel
theorem dL_law_568 : decode cL_law 568 = .ok (.aload_n 2, 1) := by decide +kernel
theorem dL_law_569 : decode cL_law 569 = .ok (.aload_n 0, 1) := by decide +kernel
theorem dL_law_570 : decode cL_law 570 = .ok (.iload 4, 2) := by decide +kernel
theorem dL_law_572 : decode cL_law 572 = .ok (.iconst 1, 1) := by decide +kernel
theorem dL_law_573 : decode cL_law 573 = .ok (.iadd, 1) := by decide +kernel
theorem dL_law_574 : decode cL_law 574 = .ok (.iaload, 1) := by decide +kernel
theorem dL_law_575 : decode cL_law 575 = .ok (.invokevirtual 158, 3) := by decide +kernel
theorem dL_law_578 : decode cL_law 578 = .ok (.lstore 6, 2) := by decide +kernel
theorem dL_law_580 : decode cL_law 580 = .ok (.goto 852, 3) := by decide +kernel
theorem dL_law_583 : decode cL_law 583 = .ok (.aload_n 1, 1) := by decide +kernel
theorem dL_law_584 : decode cL_law 584 = .ok (.invokevirtual 159, 3) := by decide +kernel
theorem dL_law_587 : decode cL_law 587 = .ok (.pop2, 1) := by decide +kernel
theorem dL_law_588 : decode cL_law 588 = .ok (.aload_n 2, 1) := by decide +kernel
theorem dL_law_589 : decode cL_law 589 = .ok (.invokevirtual 163, 3) := by decide +kernel
theorem dL_law_592 : decode cL_law 592 = .ok (.pop2, 1) := by decide +kernel
theorem dL_law_593 : decode cL_law 593 = .ok (.goto 839, 3) := by decide +kernel
theorem dL_law_596 : decode cL_law 596 = .ok (.aload_n 1, 1) := by decide +kernel
theorem dL_law_597 : decode cL_law 597 = .ok (.invokevirtual 164, 3) := by decide +kernel
theorem dL_law_600 : decode cL_law 600 = .ok (.pop2, 1) := by decide +kernel
theorem dL_law_601 : decode cL_law 601 = .ok (.aload_n 2, 1) := by decide +kernel
theorem dL_law_602 : decode cL_law 602 = .ok (.invokevirtual 167, 3) := by decide +kernel
theorem dL_law_605 : decode cL_law 605 = .ok (.pop2, 1) := by decide +kernel
theorem dL_law_606 : decode cL_law 606 = .ok (.goto 826, 3) := by decide +kernel
theorem dL_law_609 : decode cL_law 609 = .ok (.aload_n 1, 1) := by decide +kernel
theorem dL_law_610 : decode cL_law 610 = .ok (.aload_n 0, 1) := by decide +kernel
theorem dL_law_611 : decode cL_law 611 = .ok (.iload 4, 2) := by decide +kernel
theorem dL_law_613 : decode cL_law 613 = .ok (.iconst 1, 1) := by decide +kernel
theorem dL_law_614 : decode cL_law 614 = .ok (.iadd, 1) := by decide +kernel
theorem dL_law_615 : decode cL_law 615 = .ok (.iaload, 1) := by decide +kernel
theorem dL_law_616 : decode cL_law 616 = .ok (.aload_n 3, 1) := by decide +kernel
theorem dL_law_617 : decode cL_law 617 = .ok (.invokestatic 168, 3) := by decide +kernel
theorem dL_law_620 : decode cL_law 620 = .ok (.istore 5, 2) := by decide +kernel
theorem dL_law_622 : decode cL_law 622 = .ok (.aload_n 2, 1) := by decide +kernel
theorem dL_law_623 : decode cL_law 623 = .ok (.aload_n 0, 1) := by decide +kernel
theorem dL_law_624 : decode cL_law 624 = .ok (.iload 4, 2) := by decide +kernel
theorem dL_law_626 : decode cL_law 626 = .ok (.iconst 1, 1) := by decide +kernel
theorem dL_law_627 : decode cL_law 627 = .ok (.iadd, 1) := by decide +kernel
theorem dL_law_628 : decode cL_law 628 = .ok (.iaload, 1) := by decide +kernel
theorem dL_law_629 : decode cL_law 629 = .ok (.invokevirtual 170, 3) := by decide +kernel
theorem dL_law_632 : decode cL_law 632 = .ok (.lstore 6, 2) := by decide +kernel
theorem dL_law_634 : decode cL_law 634 = .ok (.goto 798, 3) := by decide +kernel
theorem dL_law_637 : decode cL_law 637 = .ok (.aload_n 1, 1) := by decide +kernel
theorem dL_law_638 : decode cL_law 638 = .ok (.invokevirtual 171, 3) := by decide +kernel
theorem dL_law_641 : decode cL_law 641 = .ok (.dstore 5, 2) := by decide +kernel
theorem dL_law_643 : decode cL_law 643 = .ok (.aload_n 2, 1) := by decide +kernel
theorem dL_law_644 : decode cL_law 644 = .ok (.invokevirtual 175, 3) := by decide +kernel
theorem dL_law_647 : decode cL_law 647 = .ok (.dstore 7, 2) := by decide +kernel
theorem dL_law_649 : decode cL_law 649 = .ok (.goto 783, 3) := by decide +kernel
theorem dL_law_652 : decode cL_law 652 = .ok (.aload_n 1, 1) := by decide +kernel
theorem dL_law_653 : decode cL_law 653 = .ok (.invokevirtual 176, 3) := by decide +kernel
theorem dL_law_656 : decode cL_law 656 = .ok (.pop2, 1) := by decide +kernel
theorem dL_law_657 : decode cL_law 657 = .ok (.aload_n 2, 1) := by decide +kernel
theorem dL_law_658 : decode cL_law 658 = .ok (.invokevirtual 179, 3) := by decide +kernel
theorem dL_law_661 : decode cL_law 661 = .ok (.pop2, 1) := by decide +kernel
theorem dL_law_662 : decode cL_law 662 = .ok (.goto 770, 3) := by decide +kernel
theorem dL_law_665 : decode cL_law 665 = .ok (.aload_n 1, 1) := by decide +kernel
theorem dL_law_666 : decode cL_law 666 = .ok (.invokevirtual 180, 3) := by decide +kernel
theorem dL_law_669 : decode cL_law 669 = .ok (.pop, 1) := by decide +kernel
theorem dL_law_670 : decode cL_law 670 = .ok (.aload_n 2, 1) := by decide +kernel
theorem dL_law_671 : decode cL_law 671 = .ok (.invokevirtual 183, 3) := by decide +kernel
theorem dL_law_674 : decode cL_law 674 = .ok (.pop, 1) := by decide +kernel
theorem dL_law_675 : decode cL_law 675 = .ok (.goto 757, 3) := by decide +kernel
theorem dL_law_678 : decode cL_law 678 = .ok (.aload_n 1, 1) := by decide +kernel
theorem dL_law_679 : decode cL_law 679 = .ok (.aload_n 0, 1) := by decide +kernel
theorem dL_law_680 : decode cL_law 680 = .ok (.iload 4, 2) := by decide +kernel
theorem dL_law_682 : decode cL_law 682 = .ok (.iconst 1, 1) := by decide +kernel
theorem dL_law_683 : decode cL_law 683 = .ok (.iadd, 1) := by decide +kernel
theorem dL_law_684 : decode cL_law 684 = .ok (.iaload, 1) := by decide +kernel
theorem dL_law_685 : decode cL_law 685 = .ok (.aload_n 3, 1) := by decide +kernel
theorem dL_law_686 : decode cL_law 686 = .ok (.invokestatic 184, 3) := by decide +kernel
theorem dL_law_689 : decode cL_law 689 = .ok (.istore 5, 2) := by decide +kernel
theorem dL_law_691 : decode cL_law 691 = .ok (.aload_n 2, 1) := by decide +kernel
theorem dL_law_692 : decode cL_law 692 = .ok (.aload_n 0, 1) := by decide +kernel
theorem dL_law_693 : decode cL_law 693 = .ok (.iload 4, 2) := by decide +kernel
theorem dL_law_695 : decode cL_law 695 = .ok (.iconst 1, 1) := by decide +kernel
theorem dL_law_696 : decode cL_law 696 = .ok (.iadd, 1) := by decide +kernel
theorem dL_law_697 : decode cL_law 697 = .ok (.iaload, 1) := by decide +kernel
theorem dL_law_698 : decode cL_law 698 = .ok (.invokevirtual 186, 3) := by decide +kernel
theorem dL_law_701 : decode cL_law 701 = .ok (.istore 6, 2) := by decide +kernel
theorem dL_law_703 : decode cL_law 703 = .ok (.goto 729, 3) := by decide +kernel
theorem dL_law_706 : decode cL_law 706 = .ok (.aload_n 1, 1) := by decide +kernel
theorem dL_law_707 : decode cL_law 707 = .ok (.aload_n 3, 1) := by decide +kernel
theorem dL_law_708 : decode cL_law 708 = .ok (.invokestatic 187, 3) := by decide +kernel
theorem dL_law_711 : decode cL_law 711 = .ok (.istore 5, 2) := by decide +kernel
theorem dL_law_713 : decode cL_law 713 = .ok (.aload_n 2, 1) := by decide +kernel
theorem dL_law_714 : decode cL_law 714 = .ok (.invokevirtual 189, 3) := by decide +kernel
theorem dL_law_717 : decode cL_law 717 = .ok (.istore 6, 2) := by decide +kernel
theorem dL_law_719 : decode cL_law 719 = .ok (.goto 713, 3) := by decide +kernel
theorem dL_law_722 : decode cL_law 722 = .ok (.aload_n 1, 1) := by decide +kernel
theorem dL_law_723 : decode cL_law 723 = .ok (.aload_n 0, 1) := by decide +kernel
theorem dL_law_724 : decode cL_law 724 = .ok (.iload 4, 2) := by decide +kernel
theorem dL_law_726 : decode cL_law 726 = .ok (.iconst 1, 1) := by decide +kernel
theorem dL_law_727 : decode cL_law 727 = .ok (.iadd, 1) := by decide +kernel
theorem dL_law_728 : decode cL_law 728 = .ok (.iaload, 1) := by decide +kernel
theorem dL_law_729 : decode cL_law 729 = .ok (.aload_n 3, 1) := by decide +kernel
theorem dL_law_730 : decode cL_law 730 = .ok (.invokestatic 190, 3) := by decide +kernel
theorem dL_law_733 : decode cL_law 733 = .ok (.istore 5, 2) := by decide +kernel
theorem dL_law_735 : decode cL_law 735 = .ok (.aload_n 2, 1) := by decide +kernel
theorem dL_law_736 : decode cL_law 736 = .ok (.aload_n 0, 1) := by decide +kernel
theorem dL_law_737 : decode cL_law 737 = .ok (.iload 4, 2) := by decide +kernel
theorem dL_law_739 : decode cL_law 739 = .ok (.iconst 1, 1) := by decide +kernel
theorem dL_law_740 : decode cL_law 740 = .ok (.iadd, 1) := by decide +kernel
theorem dL_law_741 : decode cL_law 741 = .ok (.iaload, 1) := by decide +kernel
theorem dL_law_742 : decode cL_law 742 = .ok (.invokevirtual 192, 3) := by decide +kernel
theorem dL_law_745 : decode cL_law 745 = .ok (.istore 6, 2) := by decide +kernel
theorem dL_law_747 : decode cL_law 747 = .ok (.goto 685, 3) := by decide +kernel
theorem dL_law_750 : decode cL_law 750 = .ok (.aload_n 1, 1) := by decide +kernel
theorem dL_law_751 : decode cL_law 751 = .ok (.aload_n 0, 1) := by decide +kernel
theorem dL_law_752 : decode cL_law 752 = .ok (.iload 4, 2) := by decide +kernel
theorem dL_law_754 : decode cL_law 754 = .ok (.iconst 1, 1) := by decide +kernel
theorem dL_law_755 : decode cL_law 755 = .ok (.iadd, 1) := by decide +kernel
theorem dL_law_756 : decode cL_law 756 = .ok (.iaload, 1) := by decide +kernel
theorem dL_law_757 : decode cL_law 757 = .ok (.aload_n 3, 1) := by decide +kernel
theorem dL_law_758 : decode cL_law 758 = .ok (.invokestatic 193, 3) := by decide +kernel
theorem dL_law_761 : decode cL_law 761 = .ok (.istore 5, 2) := by decide +kernel
theorem dL_law_763 : decode cL_law 763 = .ok (.aload_n 2, 1) := by decide +kernel
theorem dL_law_764 : decode cL_law 764 = .ok (.aload_n 0, 1) := by decide +kernel
theorem dL_law_765 : decode cL_law 765 = .ok (.iload 4, 2) := by decide +kernel
theorem dL_law_767 : decode cL_law 767 = .ok (.iconst 1, 1) := by decide +kernel
theorem dL_law_768 : decode cL_law 768 = .ok (.iadd, 1) := by decide +kernel
theorem dL_law_769 : decode cL_law 769 = .ok (.iaload, 1) := by decide +kernel
theorem dL_law_770 : decode cL_law 770 = .ok (.invokevirtual 195, 3) := by decide +kernel
theorem dL_law_773 : decode cL_law 773 = .ok (.istore 6, 2) := by decide +kernel
theorem dL_law_775 : decode cL_law 775 = .ok (.goto 657, 3) := by decide +kernel
theorem dL_law_778 : decode cL_law 778 = .ok (.aload_n 1, 1) := by decide +kernel
theorem dL_law_779 : decode cL_law 779 = .ok (.aload_n 0, 1) := by decide +kernel
theorem dL_law_780 : decode cL_law 780 = .ok (.iload 4, 2) := by decide +kernel
theorem dL_law_782 : decode cL_law 782 = .ok (.iconst 1, 1) := by decide +kernel
theorem dL_law_783 : decode cL_law 783 = .ok (.iadd, 1) := by decide +kernel
theorem dL_law_784 : decode cL_law 784 = .ok (.iaload, 1) := by decide +kernel
theorem dL_law_785 : decode cL_law 785 = .ok (.ifCond .eq 7, 3) := by decide +kernel
theorem dL_law_788 : decode cL_law 788 = .ok (.iconst 1, 1) := by decide +kernel
theorem dL_law_789 : decode cL_law 789 = .ok (.goto 4, 3) := by decide +kernel
theorem dL_law_792 : decode cL_law 792 = .ok (.iconst 0, 1) := by decide +kernel
theorem dL_law_793 : decode cL_law 793 = .ok (.invokevirtual 196, 3) := by decide +kernel
theorem dL_law_796 : decode cL_law 796 = .ok (.pop, 1) := by decide +kernel
theorem dL_law_797 : decode cL_law 797 = .ok (.aload_n 2, 1) := by decide +kernel
theorem dL_law_798 : decode cL_law 798 = .ok (.aload_n 0, 1) := by decide +kernel
theorem dL_law_799 : decode cL_law 799 = .ok (.iload 4, 2) := by decide +kernel
theorem dL_law_801 : decode cL_law 801 = .ok (.iconst 1, 1) := by decide +kernel
theorem dL_law_802 : decode cL_law 802 = .ok (.iadd, 1) := by decide +kernel
theorem dL_law_803 : decode cL_law 803 = .ok (.iaload, 1) := by decide +kernel
theorem dL_law_804 : decode cL_law 804 = .ok (.ifCond .eq 7, 3) := by decide +kernel
theorem dL_law_807 : decode cL_law 807 = .ok (.iconst 1, 1) := by decide +kernel
theorem dL_law_808 : decode cL_law 808 = .ok (.goto 4, 3) := by decide +kernel
theorem dL_law_811 : decode cL_law 811 = .ok (.iconst 0, 1) := by decide +kernel
theorem dL_law_812 : decode cL_law 812 = .ok (.invokevirtual 200, 3) := by decide +kernel
theorem dL_law_815 : decode cL_law 815 = .ok (.pop, 1) := by decide +kernel
theorem dL_law_816 : decode cL_law 816 = .ok (.goto 616, 3) := by decide +kernel
set_option maxHeartbeats 4000000 in
set_option maxRecDepth 100000 in
theorem lc_1 (l : Launch) (κ : Kt) (σ0 : Gh) (x mm out b : Nat) (t_x : zk σ0 x 7) (t_mm : zk σ0 mm 20) (t_out : zk σ0 out 24) (ttx0 : zk σ0 (kR κ x 0) 6) (hdis : DIS κ x) (hlt : l.stackTraces = false) {p : Program} {e : Env} {s : State} {m : MethodId} {below : List Frame} {meth : Method} {c : Code} {L : Nat} {xs : Nat → Int32} {i : Int32} {Q9 : State → Prop} (hx : p.tables.exec = Jvm.exec) (hb : c.code = cL_law) (hml : c.maxLocals = 9) (hown : s.vm.findClass RL = some m.cls) (hg : ∀ w ∈ GW, w.before #[Value.ref b] s = true) (hK : va_K κ.1 vwCl (kTy κ) s) (hX : XY κ (tA σ0 s.heap.size) s s.heap) (hXs : va_X b L xs s s.heap) (hbl : b < s.heap.size) (hbA : ¬ tA σ0 s.heap.size b) (zx : zroomX κ s room_1 601024 7293034) (hi0 : 0 ≤ i.toInt) (hi1 : i.toInt + 6 ≤ L) (hL9 : L ≤ 3072) {σ : Gh} {H : Heap} {locs : List Loc} {ls : Array Slot} (hT : TS κ fA σ0 σ s H locs) (hR : RI κ σ mm) (hrel : LREL κ σ x mm) (hsr : SREL κ σ x mm) (hsm : SMP κ σ x mm) (hl : lv_has ls 9 [(4, .int i), (3, .ref out), (2, .ref mm), (1, .ref x), (0, .ref b)]) (KK : ∀ (σ1 : Gh) (H : Heap) (locs : List Loc) (ls : Array Slot), TS (kX κ) fA σ0 σ1 s H locs → RI (kX κ) σ1 mm → LREL κ σ1 x mm → SREL κ σ1 x mm → SMP κ σ1 x mm → lv_has ls 9 [(4, .int i), (3, .ref out), (2, .ref mm), (1, .ref x), (0, .ref b)] → W p l e room_1 s m #[Value.ref b] below meth c H locs 601024 7293034 Q9 (F0 m 1432 ls [])) : W p l e room_1 s m #[Value.ref b] below meth c H locs 601024 7293034 Q9 (F0 m 293 ls []) := by
  obtain ⟨y1, hy1⟩ : ∃ z, z = xs (ix i + 1) := ⟨_, rfl⟩
  obtain ⟨y2, hy2⟩ : ∃ z, z = xs (ix i + 2) := ⟨_, rfl⟩
  obtain ⟨y3, hy3⟩ : ∃ z, z = xs (ix i + 3) := ⟨_, rfl⟩
  obtain ⟨y4, hy4⟩ : ∃ z, z = xs (ix i + 4) := ⟨_, rfl⟩
  obtain ⟨y5, hy5⟩ : ∃ z, z = xs (ix i + 5) := ⟨_, rfl⟩
  have n0 : (0 : Int32).toInt = 0 := by decide
  have n1 : (1 : Int32).toInt = 1 := by decide
  have n2 : (2 : Int32).toInt = 2 := by decide
  have n3 : (3 : Int32).toInt = 3 := by decide
  have n4 : (4 : Int32).toInt = 4 := by decide
  have n5 : (5 : Int32).toInt = 5 := by decide
  obtain ⟨tx, etx⟩ : ∃ z, kR κ x 0 = z := ⟨_, rfl⟩
  have ttx : zk σ0 tx 6 := by rw [← etx]; exact ttx0
  obtain ⟨rB, erB⟩ : ∃ z, kR κ tx 0 = z := ⟨_, rfl⟩
  have trB : zk σ0 rB 14 := by rw [← erB]; exact hT.kr (hT.ref (hT.k ttx (by decide)) (by decide) (by decide) (by decide)) (by decide) (by decide)
  obtain ⟨rT, erT⟩ : ∃ z, kR κ mm 12 = z := ⟨_, rfl⟩
  have trT : zk σ0 rT 23 := by rw [← erT]; exact hT.kr (hT.ref (hT.k t_mm (by decide)) (by decide) (by decide) (by decide)) (by decide) (by decide)
  obtain ⟨rI, erI⟩ : ∃ z, kR κ x 6 = z := ⟨_, rfl⟩
  have trI : zk σ0 rI 13 := by rw [← erI]; exact hT.kr (hT.ref (hT.k t_x (by decide)) (by decide) (by decide) (by decide)) (by decide) (by decide)
  obtain ⟨rK, erK⟩ : ∃ z, kR κ mm 4 = z := ⟨_, rfl⟩
  have trK : zk σ0 rK 29 := by rw [← erK]; exact hT.kr (hT.ref (hT.k t_mm (by decide)) (by decide) (by decide) (by decide)) (by decide) (by decide)
  obtain ⟨hlen, ⟨hal, hnn⟩, ⟨hco, hpo⟩, hkp⟩ := hrel
  rw [etx] at hlen hal hco hpo
  rw [erB, erT] at hal
  rw [erT] at hnn
  rw [erI, erK] at hkp
  have btx := (hT.P (hT.k ttx (by decide)) (by decide)).1
  have btxl := btx.1
  have btxh := btx.2
  obtain ⟨nw, enw⟩ : ∃ z, kR κ x 3 = z := ⟨_, rfl⟩
  have tnw : zk σ0 nw 3 := by rw [← enw]; exact hT.kr (hT.ref (hT.k t_x (by decide)) (by decide) (by decide) (by decide)) (by decide) (by decide)
  obtain ⟨tr, etr⟩ : ∃ z, kR κ x 4 = z := ⟨_, rfl⟩
  have ttr : zk σ0 tr 3 := by rw [← etr]; exact hT.kr (hT.ref (hT.k t_x (by decide)) (by decide) (by decide) (by decide)) (by decide) (by decide)
  obtain ⟨rs5, ers5⟩ : ∃ z, kR κ x 5 = z := ⟨_, rfl⟩
  have trs5 : zk σ0 rs5 12 := by rw [← ers5]; exact hT.kr (hT.ref (hT.k t_x (by decide)) (by decide) (by decide) (by decide)) (by decide) (by decide)
  obtain ⟨sl0, esl0⟩ : ∃ z, kR κ rs5 0 = z := ⟨_, rfl⟩
  have tsl0 : zk σ0 sl0 3 := by rw [← esl0]; exact hT.kr (hT.ref (hT.k trs5 (by decide)) (by decide) (by decide) (by decide)) (by decide) (by decide)
  obtain ⟨sl1, esl1⟩ : ∃ z, kR κ rs5 1 = z := ⟨_, rfl⟩
  have tsl1 : zk σ0 sl1 3 := by rw [← esl1]; exact hT.kr (hT.ref (hT.k trs5 (by decide)) (by decide) (by decide) (by decide)) (by decide) (by decide)
  obtain ⟨rW, erW⟩ : ∃ z, kR κ mm 1 = z := ⟨_, rfl⟩
  have trW : zk σ0 rW 21 := by rw [← erW]; exact hT.kr (hT.ref (hT.k t_mm (by decide)) (by decide) (by decide) (by decide)) (by decide) (by decide)
  obtain ⟨rS, erS⟩ : ∃ z, kR κ mm 3 = z := ⟨_, rfl⟩
  have trS : zk σ0 rS 22 := by rw [← erS]; exact hT.kr (hT.ref (hT.k t_mm (by decide)) (by decide) (by decide) (by decide)) (by decide) (by decide)
  obtain ⟨so, eso⟩ : ∃ z, kR κ x 1 = z := ⟨_, rfl⟩
  have tso : zk σ0 so 4 := by rw [← eso]; exact hT.kr (hT.ref (hT.k t_x (by decide)) (by decide) (by decide) (by decide)) (by decide) (by decide)
  obtain ⟨qP, eqP⟩ : ∃ z, kR κ so 0 = z := ⟨_, rfl⟩
  have tqP : zk σ0 qP 8 := by rw [← eqP]; exact hT.kr (hT.ref (hT.k tso (by decide)) (by decide) (by decide) (by decide)) (by decide) (by decide)
  obtain ⟨qO, eqO⟩ : ∃ z, kR κ so 1 = z := ⟨_, rfl⟩
  have tqO : zk σ0 qO 16 := by rw [← eqO]; exact hT.kr (hT.ref (hT.k tso (by decide)) (by decide) (by decide) (by decide)) (by decide) (by decide)
  obtain ⟨r5, er5⟩ : ∃ z, kR κ mm 5 = z := ⟨_, rfl⟩
  have tr5 : zk σ0 r5 25 := by rw [← er5]; exact hT.kr (hT.ref (hT.k t_mm (by decide)) (by decide) (by decide) (by decide)) (by decide) (by decide)
  obtain ⟨r6, er6⟩ : ∃ z, kR κ mm 6 = z := ⟨_, rfl⟩
  have tr6 : zk σ0 r6 26 := by rw [← er6]; exact hT.kr (hT.ref (hT.k t_mm (by decide)) (by decide) (by decide) (by decide)) (by decide) (by decide)
  obtain ⟨hnw, hsl⟩ := hsr
  obtain ⟨hd1, ⟨hd2, hd3⟩, hd4, hd5, hd6, hd7⟩ := hdis
  have d_nt : nw ≠ tr := by rw [← enw, ← etr]; exact hd2
  have d_n0 : nw ≠ sl0 := by rw [← enw, ← esl0, ← ers5]; exact hd3 0 (by decide)
  have d_t0 : sl0 ≠ tr := by rw [← etr, ← esl0, ← ers5]; exact fun q => hd4 0 (by decide) q.symm
  have d_n1 : nw ≠ sl1 := by rw [← enw, ← esl1, ← ers5]; exact hd3 1 (by decide)
  have d_t1 : sl1 ≠ tr := by rw [← etr, ← esl1, ← ers5]; exact fun q => hd4 1 (by decide) q.symm
  have d_01 : sl0 ≠ sl1 := by rw [← esl0, ← esl1, ← ers5]; exact hd5
  have knw : zk σ nw 3 := hT.k tnw (by decide)
  have ksl0 : zk σ sl0 3 := hT.k tsl0 (by decide)
  have ksl1 : zk σ sl1 3 := hT.k tsl1 (by decide)
  refine lv_aload_n hx hb dL_law_293 rfl (lv_at hl 3 rfl) ?_
  refine lv_aload_n hx hb dL_law_294 rfl (lv_at hl 4 rfl) ?_
  refine lv_iload hx hb dL_law_295 (lv_at hl 0 rfl) ?_
  refine lv_iconst (v := 1) hx hb dL_law_297 (by decide) ?_
  refine lv_iadd hx hb dL_law_298 ?_
  refine g_add (by omega) (by omega) (fun t1 ht1 => ?_)
  refine va_sld hx hb hXs hbl hbA hT.2.2.2 (g_in (by omega) (by omega)) dL_law_299 ?_
  refine ti y1 (by rw [hy1]; exact congrArg xs (show t1.toNatClampNeg = ix i + 1 from by show t1.toInt.toNat = ix i + 1; unfold ix; omega)) ?_
  refine lv_aload_n hx hb dL_law_300 rfl (lv_at hl 1 rfl) ?_
  have hTo := hT
  refine tHi (n := 3) (As := [.ref x, .int y1, .ref out]) (rest := []) hx hb hml hown hg hT hK hX (L_truncate l κ σ x y1 out (hT.k t_x (by decide)) (hT.k t_out (by decide)) hlt) sub_hfTr_fA (mwHS k602 k603 k83 k604) ⟨by decide, by decide, by decide +kernel⟩ ⟨(Nat.le_of_ble_eq_true rfl), (Nat.le_of_ble_eq_true rfl)⟩ rfl hl.1 rfl (Nat.le_of_ble_eq_true rfl) dL_law_301 zx (fun r3 s2 H locs hφ hE hT => ?_)
  have f4 := hφ
  rw [etx] at f4
  have R5 := hR.ext hE ⟨rfl, rfl, fun _ => rfl, fun _ => rfl, fun _ => rfl, fun _ => rfl⟩
  have j6 : zI s2 rB = zI σ rB := (show zI s2 rB = zI σ rB from funext fun k => (hTo.k trB (by decide)).eI hE (by decide) rfl)
  have j7 : zI s2 rT = zI σ rT := (show zI s2 rT = zI σ rT from funext fun k => (hTo.k trT (by decide)).eI hE (by decide) rfl)
  have j8 : zI s2 rI = zI σ rI := (show zI s2 rI = zI σ rI from funext fun k => (hTo.k trI (by decide)).eI hE (by decide) rfl)
  have j9 : zI s2 rK = zI σ rK := (show zI s2 rK = zI σ rK from funext fun k => (hTo.k trK (by decide)).eI hE (by decide) rfl)
  have j10 : zI s2 tx 2 = zI σ tx 2 := (hTo.k ttx (by decide)).eI hE (by decide) rfl
  have j11 : zI s2 tx 3 = zI σ tx 3 := (hTo.k ttx (by decide)).eI hE (by decide) rfl
  have j12 : zI s2 mm 15 = zI σ mm 15 := (hTo.k t_mm (by decide)).eI hE (by decide) rfl
  have j13 : zI s2 mm 16 = zI σ mm 16 := (hTo.k t_mm (by decide)).eI hE (by decide) rfl
  have n14 : zI s2 nw 7 = zI σ nw 7 ∧ zI s2 nw 8 = zI σ nw 8 ∧ zI s2 nw 9 = zI σ nw 9 := ⟨(hTo.k tnw (by decide)).eI hE (by decide) rfl, (hTo.k tnw (by decide)).eI hE (by decide) rfl, (hTo.k tnw (by decide)).eI hE (by decide) rfl⟩
  have n15 : zI s2 sl0 7 = zI σ sl0 7 ∧ zI s2 sl0 8 = zI σ sl0 8 ∧ zI s2 sl0 9 = zI σ sl0 9 := ⟨(hTo.k tsl0 (by decide)).eI hE (by decide) rfl, (hTo.k tsl0 (by decide)).eI hE (by decide) rfl, (hTo.k tsl0 (by decide)).eI hE (by decide) rfl⟩
  have n16 : zI s2 sl1 7 = zI σ sl1 7 ∧ zI s2 sl1 8 = zI σ sl1 8 ∧ zI s2 sl1 9 = zI σ sl1 9 := ⟨(hTo.k tsl1 (by decide)).eI hE (by decide) rfl, (hTo.k tsl1 (by decide)).eI hE (by decide) rfl, (hTo.k tsl1 (by decide)).eI hE (by decide) rfl⟩
  have n17 : ∀ j : Nat, j < 3 → zJ s2 rW j = zJ σ rW j := fun j hj => (hTo.k trW (by decide)).eJ hE (by decide) rfl
  have n18 : zJ s2 rS = zJ σ rS := (show zJ s2 rS = zJ σ rS from funext fun k => (hTo.k trS (by decide)).eJ hE (by decide) rfl)
  have z19 : zI s2 so 2 = zI σ so 2 ∧ zI s2 so 6 = zI σ so 6 ∧ zI s2 qP = zI σ qP ∧ zI s2 qO = zI σ qO := ⟨(hTo.k tso (by decide)).eI hE (by decide) rfl, (hTo.k tso (by decide)).eI hE (by decide) rfl, funext fun q9 => (hTo.k tqP (by decide)).eI hE (by decide) rfl, funext fun q9 => (hTo.k tqO (by decide)).eI hE (by decide) rfl⟩
  have z20 : zI s2 mm 7 = zI σ mm 7 ∧ zI s2 mm 8 = zI σ mm 8 ∧ zI s2 r5 = zI σ r5 ∧ zI s2 r6 = zI σ r6 := ⟨(hTo.k t_mm (by decide)).eI hE (by decide) rfl, (hTo.k t_mm (by decide)).eI hE (by decide) rfl, funext fun q9 => (hTo.k tr5 (by decide)).eI hE (by decide) rfl, funext fun q9 => (hTo.k tr6 (by decide)).eI hE (by decide) rfl⟩
  have a21 : (zI s2 mm 13).toInt = (zI σ mm 13).toInt := by rw [(hTo.k t_mm (by decide)).eI hE (by decide) rfl]
  refine lv_istore (lv' := [(5, .int r3), (4, .int i), (3, .ref out), (2, .ref mm), (1, .ref x), (0, .ref b)]) hx hb dL_law_304 hl (by decide) rfl (fun ls hl => ?_)
  refine lv_aload_n hx hb dL_law_306 rfl (lv_at hl 3 rfl) ?_
  refine lv_aload_n hx hb dL_law_307 rfl (lv_at hl 5 rfl) ?_
  refine lv_iload hx hb dL_law_308 (lv_at hl 1 rfl) ?_
  refine lv_iconst (v := 1) hx hb dL_law_310 (by decide) ?_
  refine lv_iadd hx hb dL_law_311 ?_
  refine g_add (by omega) (by omega) (fun t22 ht22 => ?_)
  refine va_sld hx hb hXs hbl hbA hT.2.2.2 (g_in (by omega) (by omega)) dL_law_312 ?_
  refine ti y1 (by rw [hy1]; exact congrArg xs (show t22.toNatClampNeg = ix i + 1 from by show t22.toInt.toNat = ix i + 1; unfold ix; omega)) ?_
  have hTo := hT
  refine tVi (n := 1) (As := [.int y1]) (rest := []) hx hb hml hown hg hT hK hX (X6_truncate l (kX κ) s2 mm y1 (hT.k t_mm (by decide)) R5) sub_gTr_fA (mwV k1313 k1314 k1315 k92 k1316) ⟨rfl, by decide, by decide, by decide +kernel⟩ ⟨(Nat.le_of_ble_eq_true rfl), (Nat.le_of_ble_eq_true rfl)⟩ (hT.o20 (hT.k t_mm (by decide))) rfl rfl hl.1 rfl (Nat.le_of_ble_eq_true rfl) dL_law_313 zx (fun r24 s23 H locs hφ hE hT => ?_)
  obtain ⟨f25, f26⟩ := hφ
  have a27 : (zI s23 tx 1).toInt = (zI s2 tx 1).toInt := by rw [(hTo.k ttx (by decide)).eI hE (by decide) rfl]
  have j28 : zI s23 rB = zI σ rB := ((show zI s23 rB = zI s2 rB from funext fun k => (hTo.k trB (by decide)).eI hE (by decide) rfl)).trans j6
  have j29 : zI s23 rT = zI σ rT := ((show zI s23 rT = zI s2 rT from funext fun k => (hTo.k trT (by decide)).eI hE (by decide) rfl)).trans j7
  have j30 : zI s23 rI = zI σ rI := ((show zI s23 rI = zI s2 rI from funext fun k => (hTo.k trI (by decide)).eI hE (by decide) rfl)).trans j8
  have j31 : zI s23 rK = zI σ rK := ((show zI s23 rK = zI s2 rK from funext fun k => (hTo.k trK (by decide)).eI hE (by decide) rfl)).trans j9
  have j32 : zI s23 tx 2 = zI σ tx 2 := ((hTo.k ttx (by decide)).eI hE (by decide) rfl).trans j10
  have j33 : zI s23 tx 3 = zI σ tx 3 := ((hTo.k ttx (by decide)).eI hE (by decide) rfl).trans j11
  have j34 : zI s23 mm 15 = zI σ mm 15 := ((hTo.k t_mm (by decide)).eI hE (by decide) rfl).trans j12
  have j35 : zI s23 mm 16 = zI σ mm 16 := ((hTo.k t_mm (by decide)).eI hE (by decide) rfl).trans j13
  have n36 : zI s23 nw 7 = zI s2 nw 7 ∧ zI s23 nw 8 = zI s2 nw 8 ∧ zI s23 nw 9 = zI s2 nw 9 := ⟨(hTo.k tnw (by decide)).eI hE (by decide) rfl, (hTo.k tnw (by decide)).eI hE (by decide) rfl, (hTo.k tnw (by decide)).eI hE (by decide) rfl⟩
  have n37 : zI s23 nw 7 = zI σ nw 7 ∧ zI s23 nw 8 = zI σ nw 8 ∧ zI s23 nw 9 = zI σ nw 9 := ⟨n36.1.trans n14.1, n36.2.1.trans n14.2.1, n36.2.2.trans n14.2.2⟩
  have n38 : zI s23 sl0 7 = zI s2 sl0 7 ∧ zI s23 sl0 8 = zI s2 sl0 8 ∧ zI s23 sl0 9 = zI s2 sl0 9 := ⟨(hTo.k tsl0 (by decide)).eI hE (by decide) rfl, (hTo.k tsl0 (by decide)).eI hE (by decide) rfl, (hTo.k tsl0 (by decide)).eI hE (by decide) rfl⟩
  have n39 : zI s23 sl0 7 = zI σ sl0 7 ∧ zI s23 sl0 8 = zI σ sl0 8 ∧ zI s23 sl0 9 = zI σ sl0 9 := ⟨n38.1.trans n15.1, n38.2.1.trans n15.2.1, n38.2.2.trans n15.2.2⟩
  have n40 : zI s23 sl1 7 = zI s2 sl1 7 ∧ zI s23 sl1 8 = zI s2 sl1 8 ∧ zI s23 sl1 9 = zI s2 sl1 9 := ⟨(hTo.k tsl1 (by decide)).eI hE (by decide) rfl, (hTo.k tsl1 (by decide)).eI hE (by decide) rfl, (hTo.k tsl1 (by decide)).eI hE (by decide) rfl⟩
  have n41 : zI s23 sl1 7 = zI σ sl1 7 ∧ zI s23 sl1 8 = zI σ sl1 8 ∧ zI s23 sl1 9 = zI σ sl1 9 := ⟨n40.1.trans n16.1, n40.2.1.trans n16.2.1, n40.2.2.trans n16.2.2⟩
  have n42 : ∀ j : Nat, j < 3 → zJ s23 rW j = zJ s2 rW j := fun j hj => (hTo.k trW (by decide)).eJ hE (by decide) rfl
  have n43 : ∀ j : Nat, j < 3 → zJ s23 rW j = zJ σ rW j := fun j hj => (n42 j hj).trans (n17 j hj)
  have n44 : zJ s23 rS = zJ σ rS := (show zJ s23 rS = zJ s2 rS from funext fun k => (hTo.k trS (by decide)).eJ hE (by decide) rfl).trans n18
  have z45 : zI s23 so 2 = zI s2 so 2 ∧ zI s23 so 6 = zI s2 so 6 ∧ zI s23 qP = zI s2 qP ∧ zI s23 qO = zI s2 qO := ⟨(hTo.k tso (by decide)).eI hE (by decide) rfl, (hTo.k tso (by decide)).eI hE (by decide) rfl, funext fun q9 => (hTo.k tqP (by decide)).eI hE (by decide) rfl, funext fun q9 => (hTo.k tqO (by decide)).eI hE (by decide) rfl⟩
  have z46 : zI s23 so 2 = zI σ so 2 ∧ zI s23 so 6 = zI σ so 6 ∧ zI s23 qP = zI σ qP ∧ zI s23 qO = zI σ qO := ⟨z45.1.trans z19.1, z45.2.1.trans z19.2.1, z45.2.2.1.trans z19.2.2.1, z45.2.2.2.trans z19.2.2.2⟩
  have z47 : zI s23 mm 7 = zI s2 mm 7 ∧ zI s23 mm 8 = zI s2 mm 8 ∧ zI s23 r5 = zI s2 r5 ∧ zI s23 r6 = zI s2 r6 := ⟨(hTo.k t_mm (by decide)).eI hE (by decide) rfl, (hTo.k t_mm (by decide)).eI hE (by decide) rfl, funext fun q9 => (hTo.k tr5 (by decide)).eI hE (by decide) rfl, funext fun q9 => (hTo.k tr6 (by decide)).eI hE (by decide) rfl⟩
  have z48 : zI s23 mm 7 = zI σ mm 7 ∧ zI s23 mm 8 = zI σ mm 8 ∧ zI s23 r5 = zI σ r5 ∧ zI s23 r6 = zI σ r6 := ⟨z47.1.trans z20.1, z47.2.1.trans z20.2.1, z47.2.2.1.trans z20.2.2.1, z47.2.2.2.trans z20.2.2.2⟩
  refine lv_istore (lv' := [(6, .int r24), (5, .int r3), (4, .int i), (3, .ref out), (2, .ref mm), (1, .ref x), (0, .ref b)]) hx hb dL_law_316 hl (by decide) rfl (fun ls hl => ?_)
  refine lv_goto (tgt := 1432) hx hb dL_law_318 (by decide) ?_
  have sl0f : zI s23 rI 0 ≠ 0 → SLT κ s23 x mm 0 := fun hq => (hsl 0 (by decide) (fun q9 => hq (by rw [erI] at q9; rw [j30]; exact q9))).tr (by rw [ers5, esl0]; exact n39) (fun j hj => by rw [erS, n44])
  have sl1f : zI s23 rI 1 ≠ 0 → SLT κ s23 x mm 1 := fun hq => (hsl 1 (by decide) (fun q9 => hq (by rw [erI] at q9; rw [j30]; exact q9))).tr (by rw [ers5, esl1]; exact n41) (fun j hj => by rw [erS, n44])
  exact KK s23 _ _ _ hT f25 ⟨by rw [etx]; omega, ⟨by rw [etx, erB, erT, j28, j29]; exact tal_less hal (by omega), by rw [erT, j29]; exact tnn_less hnn (by omega)⟩, ⟨by rw [etx, j32, j34]; exact hco, by rw [etx, j33, j35]; exact hpo⟩, fun i hi => by rw [erI, erK, j30, j31]; exact hkp i hi⟩ (⟨hnw.tr (by rw [enw]; exact n37) (by rw [erW]; exact n43), fun i hi => (show i = 0 ∨ i = 1 by omega).elim (fun e9 => by rw [e9, erI]; exact sl0f) (fun e9 => by rw [e9, erI]; exact sl1f)⟩) (hsm.tr (by rw [eso, eqP, eqO]; exact z46) (by rw [er5, er6]; exact z48)) (lv_sub hl [2, 3, 4, 5, 6] rfl)
set_option maxHeartbeats 4000000 in
set_option maxRecDepth 100000 in
theorem lc_5 (l : Launch) (κ : Kt) (σ0 : Gh) (x mm out b : Nat) (t_x : zk σ0 x 7) (t_mm : zk σ0 mm 20) (t_out : zk σ0 out 24) (ttx0 : zk σ0 (kR κ x 0) 6) (hdis : DIS κ x) (hlt : l.stackTraces = false) {p : Program} {e : Env} {s : State} {m : MethodId} {below : List Frame} {meth : Method} {c : Code} {L : Nat} {xs : Nat → Int32} {i : Int32} {Q9 : State → Prop} (hx : p.tables.exec = Jvm.exec) (hb : c.code = cL_law) (hml : c.maxLocals = 9) (hown : s.vm.findClass RL = some m.cls) (hg : ∀ w ∈ GW, w.before #[Value.ref b] s = true) (hK : va_K κ.1 vwCl (kTy κ) s) (hX : XY κ (tA σ0 s.heap.size) s s.heap) (hXs : va_X b L xs s s.heap) (hbl : b < s.heap.size) (hbA : ¬ tA σ0 s.heap.size b) (zx : zroomX κ s room_1 601024 7293034) (hi0 : 0 ≤ i.toInt) (hi1 : i.toInt + 6 ≤ L) (hL9 : L ≤ 3072) {σ : Gh} {H : Heap} {locs : List Loc} {ls : Array Slot} (hT : TS κ fA σ0 σ s H locs) (hR : RI κ σ mm) (hrel : LREL κ σ x mm) (hsr : SREL κ σ x mm) (hsm : SMP κ σ x mm) (hl : lv_has ls 9 [(4, .int i), (3, .ref out), (2, .ref mm), (1, .ref x), (0, .ref b)]) (KK : ∀ (σ1 : Gh) (H : Heap) (locs : List Loc) (ls : Array Slot), TS (kX κ) fA σ0 σ1 s H locs → RI (kX κ) σ1 mm → LREL κ σ1 x mm → SREL κ σ1 x mm → SMP κ σ1 x mm → lv_has ls 9 [(4, .int i), (3, .ref out), (2, .ref mm), (1, .ref x), (0, .ref b)] → W p l e room_1 s m #[Value.ref b] below meth c H locs 601024 7293034 Q9 (F0 m 1432 ls [])) : W p l e room_1 s m #[Value.ref b] below meth c H locs 601024 7293034 Q9 (F0 m 363 ls []) := by
  obtain ⟨y1, hy1⟩ : ∃ z, z = xs (ix i + 1) := ⟨_, rfl⟩
  obtain ⟨y2, hy2⟩ : ∃ z, z = xs (ix i + 2) := ⟨_, rfl⟩
  obtain ⟨y3, hy3⟩ : ∃ z, z = xs (ix i + 3) := ⟨_, rfl⟩
  obtain ⟨y4, hy4⟩ : ∃ z, z = xs (ix i + 4) := ⟨_, rfl⟩
  obtain ⟨y5, hy5⟩ : ∃ z, z = xs (ix i + 5) := ⟨_, rfl⟩
  have n0 : (0 : Int32).toInt = 0 := by decide
  have n1 : (1 : Int32).toInt = 1 := by decide
  have n2 : (2 : Int32).toInt = 2 := by decide
  have n3 : (3 : Int32).toInt = 3 := by decide
  have n4 : (4 : Int32).toInt = 4 := by decide
  have n5 : (5 : Int32).toInt = 5 := by decide
  obtain ⟨tx, etx⟩ : ∃ z, kR κ x 0 = z := ⟨_, rfl⟩
  have ttx : zk σ0 tx 6 := by rw [← etx]; exact ttx0
  obtain ⟨rB, erB⟩ : ∃ z, kR κ tx 0 = z := ⟨_, rfl⟩
  have trB : zk σ0 rB 14 := by rw [← erB]; exact hT.kr (hT.ref (hT.k ttx (by decide)) (by decide) (by decide) (by decide)) (by decide) (by decide)
  obtain ⟨rT, erT⟩ : ∃ z, kR κ mm 12 = z := ⟨_, rfl⟩
  have trT : zk σ0 rT 23 := by rw [← erT]; exact hT.kr (hT.ref (hT.k t_mm (by decide)) (by decide) (by decide) (by decide)) (by decide) (by decide)
  obtain ⟨rI, erI⟩ : ∃ z, kR κ x 6 = z := ⟨_, rfl⟩
  have trI : zk σ0 rI 13 := by rw [← erI]; exact hT.kr (hT.ref (hT.k t_x (by decide)) (by decide) (by decide) (by decide)) (by decide) (by decide)
  obtain ⟨rK, erK⟩ : ∃ z, kR κ mm 4 = z := ⟨_, rfl⟩
  have trK : zk σ0 rK 29 := by rw [← erK]; exact hT.kr (hT.ref (hT.k t_mm (by decide)) (by decide) (by decide) (by decide)) (by decide) (by decide)
  obtain ⟨hlen, ⟨hal, hnn⟩, ⟨hco, hpo⟩, hkp⟩ := hrel
  rw [etx] at hlen hal hco hpo
  rw [erB, erT] at hal
  rw [erT] at hnn
  rw [erI, erK] at hkp
  have btx := (hT.P (hT.k ttx (by decide)) (by decide)).1
  have btxl := btx.1
  have btxh := btx.2
  obtain ⟨nw, enw⟩ : ∃ z, kR κ x 3 = z := ⟨_, rfl⟩
  have tnw : zk σ0 nw 3 := by rw [← enw]; exact hT.kr (hT.ref (hT.k t_x (by decide)) (by decide) (by decide) (by decide)) (by decide) (by decide)
  obtain ⟨tr, etr⟩ : ∃ z, kR κ x 4 = z := ⟨_, rfl⟩
  have ttr : zk σ0 tr 3 := by rw [← etr]; exact hT.kr (hT.ref (hT.k t_x (by decide)) (by decide) (by decide) (by decide)) (by decide) (by decide)
  obtain ⟨rs5, ers5⟩ : ∃ z, kR κ x 5 = z := ⟨_, rfl⟩
  have trs5 : zk σ0 rs5 12 := by rw [← ers5]; exact hT.kr (hT.ref (hT.k t_x (by decide)) (by decide) (by decide) (by decide)) (by decide) (by decide)
  obtain ⟨sl0, esl0⟩ : ∃ z, kR κ rs5 0 = z := ⟨_, rfl⟩
  have tsl0 : zk σ0 sl0 3 := by rw [← esl0]; exact hT.kr (hT.ref (hT.k trs5 (by decide)) (by decide) (by decide) (by decide)) (by decide) (by decide)
  obtain ⟨sl1, esl1⟩ : ∃ z, kR κ rs5 1 = z := ⟨_, rfl⟩
  have tsl1 : zk σ0 sl1 3 := by rw [← esl1]; exact hT.kr (hT.ref (hT.k trs5 (by decide)) (by decide) (by decide) (by decide)) (by decide) (by decide)
  obtain ⟨rW, erW⟩ : ∃ z, kR κ mm 1 = z := ⟨_, rfl⟩
  have trW : zk σ0 rW 21 := by rw [← erW]; exact hT.kr (hT.ref (hT.k t_mm (by decide)) (by decide) (by decide) (by decide)) (by decide) (by decide)
  obtain ⟨rS, erS⟩ : ∃ z, kR κ mm 3 = z := ⟨_, rfl⟩
  have trS : zk σ0 rS 22 := by rw [← erS]; exact hT.kr (hT.ref (hT.k t_mm (by decide)) (by decide) (by decide) (by decide)) (by decide) (by decide)
  obtain ⟨so, eso⟩ : ∃ z, kR κ x 1 = z := ⟨_, rfl⟩
  have tso : zk σ0 so 4 := by rw [← eso]; exact hT.kr (hT.ref (hT.k t_x (by decide)) (by decide) (by decide) (by decide)) (by decide) (by decide)
  obtain ⟨qP, eqP⟩ : ∃ z, kR κ so 0 = z := ⟨_, rfl⟩
  have tqP : zk σ0 qP 8 := by rw [← eqP]; exact hT.kr (hT.ref (hT.k tso (by decide)) (by decide) (by decide) (by decide)) (by decide) (by decide)
  obtain ⟨qO, eqO⟩ : ∃ z, kR κ so 1 = z := ⟨_, rfl⟩
  have tqO : zk σ0 qO 16 := by rw [← eqO]; exact hT.kr (hT.ref (hT.k tso (by decide)) (by decide) (by decide) (by decide)) (by decide) (by decide)
  obtain ⟨r5, er5⟩ : ∃ z, kR κ mm 5 = z := ⟨_, rfl⟩
  have tr5 : zk σ0 r5 25 := by rw [← er5]; exact hT.kr (hT.ref (hT.k t_mm (by decide)) (by decide) (by decide) (by decide)) (by decide) (by decide)
  obtain ⟨r6, er6⟩ : ∃ z, kR κ mm 6 = z := ⟨_, rfl⟩
  have tr6 : zk σ0 r6 26 := by rw [← er6]; exact hT.kr (hT.ref (hT.k t_mm (by decide)) (by decide) (by decide) (by decide)) (by decide) (by decide)
  obtain ⟨hnw, hsl⟩ := hsr
  obtain ⟨hd1, ⟨hd2, hd3⟩, hd4, hd5, hd6, hd7⟩ := hdis
  have d_nt : nw ≠ tr := by rw [← enw, ← etr]; exact hd2
  have d_n0 : nw ≠ sl0 := by rw [← enw, ← esl0, ← ers5]; exact hd3 0 (by decide)
  have d_t0 : sl0 ≠ tr := by rw [← etr, ← esl0, ← ers5]; exact fun q => hd4 0 (by decide) q.symm
  have d_n1 : nw ≠ sl1 := by rw [← enw, ← esl1, ← ers5]; exact hd3 1 (by decide)
  have d_t1 : sl1 ≠ tr := by rw [← etr, ← esl1, ← ers5]; exact fun q => hd4 1 (by decide) q.symm
  have d_01 : sl0 ≠ sl1 := by rw [← esl0, ← esl1, ← ers5]; exact hd5
  have knw : zk σ nw 3 := hT.k tnw (by decide)
  have ksl0 : zk σ sl0 3 := hT.k tsl0 (by decide)
  have ksl1 : zk σ sl1 3 := hT.k tsl1 (by decide)
  refine lv_aload_n hx hb dL_law_363 rfl (lv_at hl 3 rfl) ?_
  refine lv_aload_n hx hb dL_law_364 rfl (lv_at hl 4 rfl) ?_
  refine lv_iload hx hb dL_law_365 (lv_at hl 0 rfl) ?_
  refine lv_iconst (v := 1) hx hb dL_law_367 (by decide) ?_
  refine lv_iadd hx hb dL_law_368 ?_
  refine g_add (by omega) (by omega) (fun t1 ht1 => ?_)
  refine va_sld hx hb hXs hbl hbA hT.2.2.2 (g_in (by omega) (by omega)) dL_law_369 ?_
  refine ti y1 (by rw [hy1]; exact congrArg xs (show t1.toNatClampNeg = ix i + 1 from by show t1.toInt.toNat = ix i + 1; unfold ix; omega)) ?_
  refine lv_aload_n hx hb dL_law_370 rfl (lv_at hl 1 rfl) ?_
  have hTo := hT
  refine tHi (n := 3) (As := [.ref x, .int y1, .ref out]) (rest := []) hx hb hml hown hg hT hK hX (L_count l κ σ x y1 out (hT.k t_x (by decide)) (hT.k t_out (by decide)) hlt) sub_hfE_fA (mwHS k834 k835 k83 k836) ⟨by decide, by decide, by decide +kernel⟩ ⟨(Nat.le_of_ble_eq_true rfl), (Nat.le_of_ble_eq_true rfl)⟩ rfl hl.1 rfl (Nat.le_of_ble_eq_true rfl) dL_law_371 zx (fun r3 s2 H locs hφ hE hT => ?_)
  have R4 := hR.ext hE ⟨rfl, rfl, fun _ => rfl, fun _ => rfl, fun _ => rfl, fun _ => rfl⟩
  have a5 : (zI s2 tx 1).toInt = (zI σ tx 1).toInt := by rw [(hTo.k ttx (by decide)).eI hE (by decide) rfl]
  have j6 : zI s2 rB = zI σ rB := (show zI s2 rB = zI σ rB from funext fun k => (hTo.k trB (by decide)).eI hE (by decide) rfl)
  have j7 : zI s2 rT = zI σ rT := (show zI s2 rT = zI σ rT from funext fun k => (hTo.k trT (by decide)).eI hE (by decide) rfl)
  have j8 : zI s2 rI = zI σ rI := (show zI s2 rI = zI σ rI from funext fun k => (hTo.k trI (by decide)).eI hE (by decide) rfl)
  have j9 : zI s2 rK = zI σ rK := (show zI s2 rK = zI σ rK from funext fun k => (hTo.k trK (by decide)).eI hE (by decide) rfl)
  have j10 : zI s2 tx 2 = zI σ tx 2 := (hTo.k ttx (by decide)).eI hE (by decide) rfl
  have j11 : zI s2 tx 3 = zI σ tx 3 := (hTo.k ttx (by decide)).eI hE (by decide) rfl
  have j12 : zI s2 mm 15 = zI σ mm 15 := (hTo.k t_mm (by decide)).eI hE (by decide) rfl
  have j13 : zI s2 mm 16 = zI σ mm 16 := (hTo.k t_mm (by decide)).eI hE (by decide) rfl
  have n14 : zI s2 nw 7 = zI σ nw 7 ∧ zI s2 nw 8 = zI σ nw 8 ∧ zI s2 nw 9 = zI σ nw 9 := ⟨(hTo.k tnw (by decide)).eI hE (by decide) rfl, (hTo.k tnw (by decide)).eI hE (by decide) rfl, (hTo.k tnw (by decide)).eI hE (by decide) rfl⟩
  have n15 : zI s2 sl0 7 = zI σ sl0 7 ∧ zI s2 sl0 8 = zI σ sl0 8 ∧ zI s2 sl0 9 = zI σ sl0 9 := ⟨(hTo.k tsl0 (by decide)).eI hE (by decide) rfl, (hTo.k tsl0 (by decide)).eI hE (by decide) rfl, (hTo.k tsl0 (by decide)).eI hE (by decide) rfl⟩
  have n16 : zI s2 sl1 7 = zI σ sl1 7 ∧ zI s2 sl1 8 = zI σ sl1 8 ∧ zI s2 sl1 9 = zI σ sl1 9 := ⟨(hTo.k tsl1 (by decide)).eI hE (by decide) rfl, (hTo.k tsl1 (by decide)).eI hE (by decide) rfl, (hTo.k tsl1 (by decide)).eI hE (by decide) rfl⟩
  have n17 : ∀ j : Nat, j < 3 → zJ s2 rW j = zJ σ rW j := fun j hj => (hTo.k trW (by decide)).eJ hE (by decide) rfl
  have n18 : zJ s2 rS = zJ σ rS := (show zJ s2 rS = zJ σ rS from funext fun k => (hTo.k trS (by decide)).eJ hE (by decide) rfl)
  have z19 : zI s2 so 2 = zI σ so 2 ∧ zI s2 so 6 = zI σ so 6 ∧ zI s2 qP = zI σ qP ∧ zI s2 qO = zI σ qO := ⟨(hTo.k tso (by decide)).eI hE (by decide) rfl, (hTo.k tso (by decide)).eI hE (by decide) rfl, funext fun q9 => (hTo.k tqP (by decide)).eI hE (by decide) rfl, funext fun q9 => (hTo.k tqO (by decide)).eI hE (by decide) rfl⟩
  have z20 : zI s2 mm 7 = zI σ mm 7 ∧ zI s2 mm 8 = zI σ mm 8 ∧ zI s2 r5 = zI σ r5 ∧ zI s2 r6 = zI σ r6 := ⟨(hTo.k t_mm (by decide)).eI hE (by decide) rfl, (hTo.k t_mm (by decide)).eI hE (by decide) rfl, funext fun q9 => (hTo.k tr5 (by decide)).eI hE (by decide) rfl, funext fun q9 => (hTo.k tr6 (by decide)).eI hE (by decide) rfl⟩
  have a21 : (zI s2 mm 13).toInt = (zI σ mm 13).toInt := by rw [(hTo.k t_mm (by decide)).eI hE (by decide) rfl]
  refine lv_istore (lv' := [(5, .int r3), (4, .int i), (3, .ref out), (2, .ref mm), (1, .ref x), (0, .ref b)]) hx hb dL_law_374 hl (by decide) rfl (fun ls hl => ?_)
  refine lv_aload_n hx hb dL_law_376 rfl (lv_at hl 3 rfl) ?_
  refine lv_aload_n hx hb dL_law_377 rfl (lv_at hl 5 rfl) ?_
  refine lv_iload hx hb dL_law_378 (lv_at hl 1 rfl) ?_
  refine lv_iconst (v := 1) hx hb dL_law_380 (by decide) ?_
  refine lv_iadd hx hb dL_law_381 ?_
  refine g_add (by omega) (by omega) (fun t22 ht22 => ?_)
  refine va_sld hx hb hXs hbl hbA hT.2.2.2 (g_in (by omega) (by omega)) dL_law_382 ?_
  refine ti y1 (by rw [hy1]; exact congrArg xs (show t22.toNatClampNeg = ix i + 1 from by show t22.toInt.toNat = ix i + 1; unfold ix; omega)) ?_
  have hTo := hT
  refine tVi (n := 1) (As := [.int y1]) (rest := []) hx hb hml hown hg hT hK hX (X6_count l (kX κ) s2 mm y1 (hT.k t_mm (by decide)) R4) sub_gR_fA (mwV k1407 k1408 k1409 k92 k1410) ⟨rfl, by decide, by decide, by decide +kernel⟩ ⟨(Nat.le_of_ble_eq_true rfl), (Nat.le_of_ble_eq_true rfl)⟩ (hT.o20 (hT.k t_mm (by decide))) rfl rfl hl.1 rfl (Nat.le_of_ble_eq_true rfl) dL_law_383 zx (fun r24 s23 H locs hφ hE hT => ?_)
  have R25 := R4.ext hE ⟨rfl, rfl, fun _ => rfl, fun _ => rfl, fun _ => rfl, fun _ => rfl⟩
  have a26 : (zI s23 tx 1).toInt = (zI s2 tx 1).toInt := by rw [(hTo.k ttx (by decide)).eI hE (by decide) rfl]
  have j27 : zI s23 rB = zI σ rB := ((show zI s23 rB = zI s2 rB from funext fun k => (hTo.k trB (by decide)).eI hE (by decide) rfl)).trans j6
  have j28 : zI s23 rT = zI σ rT := ((show zI s23 rT = zI s2 rT from funext fun k => (hTo.k trT (by decide)).eI hE (by decide) rfl)).trans j7
  have j29 : zI s23 rI = zI σ rI := ((show zI s23 rI = zI s2 rI from funext fun k => (hTo.k trI (by decide)).eI hE (by decide) rfl)).trans j8
  have j30 : zI s23 rK = zI σ rK := ((show zI s23 rK = zI s2 rK from funext fun k => (hTo.k trK (by decide)).eI hE (by decide) rfl)).trans j9
  have j31 : zI s23 tx 2 = zI σ tx 2 := ((hTo.k ttx (by decide)).eI hE (by decide) rfl).trans j10
  have j32 : zI s23 tx 3 = zI σ tx 3 := ((hTo.k ttx (by decide)).eI hE (by decide) rfl).trans j11
  have j33 : zI s23 mm 15 = zI σ mm 15 := ((hTo.k t_mm (by decide)).eI hE (by decide) rfl).trans j12
  have j34 : zI s23 mm 16 = zI σ mm 16 := ((hTo.k t_mm (by decide)).eI hE (by decide) rfl).trans j13
  have n35 : zI s23 nw 7 = zI s2 nw 7 ∧ zI s23 nw 8 = zI s2 nw 8 ∧ zI s23 nw 9 = zI s2 nw 9 := ⟨(hTo.k tnw (by decide)).eI hE (by decide) rfl, (hTo.k tnw (by decide)).eI hE (by decide) rfl, (hTo.k tnw (by decide)).eI hE (by decide) rfl⟩
  have n36 : zI s23 nw 7 = zI σ nw 7 ∧ zI s23 nw 8 = zI σ nw 8 ∧ zI s23 nw 9 = zI σ nw 9 := ⟨n35.1.trans n14.1, n35.2.1.trans n14.2.1, n35.2.2.trans n14.2.2⟩
  have n37 : zI s23 sl0 7 = zI s2 sl0 7 ∧ zI s23 sl0 8 = zI s2 sl0 8 ∧ zI s23 sl0 9 = zI s2 sl0 9 := ⟨(hTo.k tsl0 (by decide)).eI hE (by decide) rfl, (hTo.k tsl0 (by decide)).eI hE (by decide) rfl, (hTo.k tsl0 (by decide)).eI hE (by decide) rfl⟩
  have n38 : zI s23 sl0 7 = zI σ sl0 7 ∧ zI s23 sl0 8 = zI σ sl0 8 ∧ zI s23 sl0 9 = zI σ sl0 9 := ⟨n37.1.trans n15.1, n37.2.1.trans n15.2.1, n37.2.2.trans n15.2.2⟩
  have n39 : zI s23 sl1 7 = zI s2 sl1 7 ∧ zI s23 sl1 8 = zI s2 sl1 8 ∧ zI s23 sl1 9 = zI s2 sl1 9 := ⟨(hTo.k tsl1 (by decide)).eI hE (by decide) rfl, (hTo.k tsl1 (by decide)).eI hE (by decide) rfl, (hTo.k tsl1 (by decide)).eI hE (by decide) rfl⟩
  have n40 : zI s23 sl1 7 = zI σ sl1 7 ∧ zI s23 sl1 8 = zI σ sl1 8 ∧ zI s23 sl1 9 = zI σ sl1 9 := ⟨n39.1.trans n16.1, n39.2.1.trans n16.2.1, n39.2.2.trans n16.2.2⟩
  have n41 : ∀ j : Nat, j < 3 → zJ s23 rW j = zJ s2 rW j := fun j hj => (hTo.k trW (by decide)).eJ hE (by decide) rfl
  have n42 : ∀ j : Nat, j < 3 → zJ s23 rW j = zJ σ rW j := fun j hj => (n41 j hj).trans (n17 j hj)
  have n43 : zJ s23 rS = zJ σ rS := (show zJ s23 rS = zJ s2 rS from funext fun k => (hTo.k trS (by decide)).eJ hE (by decide) rfl).trans n18
  have z44 : zI s23 so 2 = zI s2 so 2 ∧ zI s23 so 6 = zI s2 so 6 ∧ zI s23 qP = zI s2 qP ∧ zI s23 qO = zI s2 qO := ⟨(hTo.k tso (by decide)).eI hE (by decide) rfl, (hTo.k tso (by decide)).eI hE (by decide) rfl, funext fun q9 => (hTo.k tqP (by decide)).eI hE (by decide) rfl, funext fun q9 => (hTo.k tqO (by decide)).eI hE (by decide) rfl⟩
  have z45 : zI s23 so 2 = zI σ so 2 ∧ zI s23 so 6 = zI σ so 6 ∧ zI s23 qP = zI σ qP ∧ zI s23 qO = zI σ qO := ⟨z44.1.trans z19.1, z44.2.1.trans z19.2.1, z44.2.2.1.trans z19.2.2.1, z44.2.2.2.trans z19.2.2.2⟩
  have z46 : zI s23 mm 7 = zI s2 mm 7 ∧ zI s23 mm 8 = zI s2 mm 8 ∧ zI s23 r5 = zI s2 r5 ∧ zI s23 r6 = zI s2 r6 := ⟨(hTo.k t_mm (by decide)).eI hE (by decide) rfl, (hTo.k t_mm (by decide)).eI hE (by decide) rfl, funext fun q9 => (hTo.k tr5 (by decide)).eI hE (by decide) rfl, funext fun q9 => (hTo.k tr6 (by decide)).eI hE (by decide) rfl⟩
  have z47 : zI s23 mm 7 = zI σ mm 7 ∧ zI s23 mm 8 = zI σ mm 8 ∧ zI s23 r5 = zI σ r5 ∧ zI s23 r6 = zI σ r6 := ⟨z46.1.trans z20.1, z46.2.1.trans z20.2.1, z46.2.2.1.trans z20.2.2.1, z46.2.2.2.trans z20.2.2.2⟩
  have a48 : (zI s23 mm 13).toInt = (zI s2 mm 13).toInt := by rw [(hTo.k t_mm (by decide)).eI hE (by decide) rfl]
  refine lv_istore (lv' := [(6, .int r24), (5, .int r3), (4, .int i), (3, .ref out), (2, .ref mm), (1, .ref x), (0, .ref b)]) hx hb dL_law_386 hl (by decide) rfl (fun ls hl => ?_)
  refine lv_goto (tgt := 1432) hx hb dL_law_388 (by decide) ?_
  have sl0f : zI s23 rI 0 ≠ 0 → SLT κ s23 x mm 0 := fun hq => (hsl 0 (by decide) (fun q9 => hq (by rw [erI] at q9; rw [j29]; exact q9))).tr (by rw [ers5, esl0]; exact n38) (fun j hj => by rw [erS, n43])
  have sl1f : zI s23 rI 1 ≠ 0 → SLT κ s23 x mm 1 := fun hq => (hsl 1 (by decide) (fun q9 => hq (by rw [erI] at q9; rw [j29]; exact q9))).tr (by rw [ers5, esl1]; exact n40) (fun j hj => by rw [erS, n43])
  exact KK s23 _ _ _ hT R25 ⟨by rw [etx]; omega, ⟨by rw [etx, erB, erT, j27, j28]; exact tal_less hal (by omega), by rw [erT, j28]; exact tnn_less hnn (by omega)⟩, ⟨by rw [etx, j31, j33]; exact hco, by rw [etx, j32, j34]; exact hpo⟩, fun i hi => by rw [erI, erK, j29, j30]; exact hkp i hi⟩ (⟨hnw.tr (by rw [enw]; exact n36) (by rw [erW]; exact n42), fun i hi => (show i = 0 ∨ i = 1 by omega).elim (fun e9 => by rw [e9, erI]; exact sl0f) (fun e9 => by rw [e9, erI]; exact sl1f)⟩) (hsm.tr (by rw [eso, eqP, eqO]; exact z45) (by rw [er5, er6]; exact z47)) (lv_sub hl [2, 3, 4, 5, 6] rfl)
set_option maxHeartbeats 4000000 in
set_option maxRecDepth 100000 in
theorem lc_6 (l : Launch) (κ : Kt) (σ0 : Gh) (x mm out b : Nat) (t_x : zk σ0 x 7) (t_mm : zk σ0 mm 20) (t_out : zk σ0 out 24) (ttx0 : zk σ0 (kR κ x 0) 6) (hdis : DIS κ x) (hlt : l.stackTraces = false) {p : Program} {e : Env} {s : State} {m : MethodId} {below : List Frame} {meth : Method} {c : Code} {L : Nat} {xs : Nat → Int32} {i : Int32} {Q9 : State → Prop} (hx : p.tables.exec = Jvm.exec) (hb : c.code = cL_law) (hml : c.maxLocals = 9) (hown : s.vm.findClass RL = some m.cls) (hg : ∀ w ∈ GW, w.before #[Value.ref b] s = true) (hK : va_K κ.1 vwCl (kTy κ) s) (hX : XY κ (tA σ0 s.heap.size) s s.heap) (hXs : va_X b L xs s s.heap) (hbl : b < s.heap.size) (hbA : ¬ tA σ0 s.heap.size b) (zx : zroomX κ s room_1 601024 7293034) (hi0 : 0 ≤ i.toInt) (hi1 : i.toInt + 6 ≤ L) (hL9 : L ≤ 3072) {σ : Gh} {H : Heap} {locs : List Loc} {ls : Array Slot} (hT : TS κ fA σ0 σ s H locs) (hR : RI κ σ mm) (hrel : LREL κ σ x mm) (hsr : SREL κ σ x mm) (hsm : SMP κ σ x mm) (hl : lv_has ls 9 [(4, .int i), (3, .ref out), (2, .ref mm), (1, .ref x), (0, .ref b)]) (KK : ∀ (σ1 : Gh) (H : Heap) (locs : List Loc) (ls : Array Slot), TS (kX κ) fA σ0 σ1 s H locs → RI (kX κ) σ1 mm → LREL κ σ1 x mm → SREL κ σ1 x mm → SMP κ σ1 x mm → lv_has ls 9 [(4, .int i), (3, .ref out), (2, .ref mm), (1, .ref x), (0, .ref b)] → W p l e room_1 s m #[Value.ref b] below meth c H locs 601024 7293034 Q9 (F0 m 1432 ls [])) : W p l e room_1 s m #[Value.ref b] below meth c H locs 601024 7293034 Q9 (F0 m 391 ls []) := by
  obtain ⟨y1, hy1⟩ : ∃ z, z = xs (ix i + 1) := ⟨_, rfl⟩
  obtain ⟨y2, hy2⟩ : ∃ z, z = xs (ix i + 2) := ⟨_, rfl⟩
  obtain ⟨y3, hy3⟩ : ∃ z, z = xs (ix i + 3) := ⟨_, rfl⟩
  obtain ⟨y4, hy4⟩ : ∃ z, z = xs (ix i + 4) := ⟨_, rfl⟩
  obtain ⟨y5, hy5⟩ : ∃ z, z = xs (ix i + 5) := ⟨_, rfl⟩
  have n0 : (0 : Int32).toInt = 0 := by decide
  have n1 : (1 : Int32).toInt = 1 := by decide
  have n2 : (2 : Int32).toInt = 2 := by decide
  have n3 : (3 : Int32).toInt = 3 := by decide
  have n4 : (4 : Int32).toInt = 4 := by decide
  have n5 : (5 : Int32).toInt = 5 := by decide
  obtain ⟨tx, etx⟩ : ∃ z, kR κ x 0 = z := ⟨_, rfl⟩
  have ttx : zk σ0 tx 6 := by rw [← etx]; exact ttx0
  obtain ⟨rB, erB⟩ : ∃ z, kR κ tx 0 = z := ⟨_, rfl⟩
  have trB : zk σ0 rB 14 := by rw [← erB]; exact hT.kr (hT.ref (hT.k ttx (by decide)) (by decide) (by decide) (by decide)) (by decide) (by decide)
  obtain ⟨rT, erT⟩ : ∃ z, kR κ mm 12 = z := ⟨_, rfl⟩
  have trT : zk σ0 rT 23 := by rw [← erT]; exact hT.kr (hT.ref (hT.k t_mm (by decide)) (by decide) (by decide) (by decide)) (by decide) (by decide)
  obtain ⟨rI, erI⟩ : ∃ z, kR κ x 6 = z := ⟨_, rfl⟩
  have trI : zk σ0 rI 13 := by rw [← erI]; exact hT.kr (hT.ref (hT.k t_x (by decide)) (by decide) (by decide) (by decide)) (by decide) (by decide)
  obtain ⟨rK, erK⟩ : ∃ z, kR κ mm 4 = z := ⟨_, rfl⟩
  have trK : zk σ0 rK 29 := by rw [← erK]; exact hT.kr (hT.ref (hT.k t_mm (by decide)) (by decide) (by decide) (by decide)) (by decide) (by decide)
  obtain ⟨hlen, ⟨hal, hnn⟩, ⟨hco, hpo⟩, hkp⟩ := hrel
  rw [etx] at hlen hal hco hpo
  rw [erB, erT] at hal
  rw [erT] at hnn
  rw [erI, erK] at hkp
  have btx := (hT.P (hT.k ttx (by decide)) (by decide)).1
  have btxl := btx.1
  have btxh := btx.2
  obtain ⟨nw, enw⟩ : ∃ z, kR κ x 3 = z := ⟨_, rfl⟩
  have tnw : zk σ0 nw 3 := by rw [← enw]; exact hT.kr (hT.ref (hT.k t_x (by decide)) (by decide) (by decide) (by decide)) (by decide) (by decide)
  obtain ⟨tr, etr⟩ : ∃ z, kR κ x 4 = z := ⟨_, rfl⟩
  have ttr : zk σ0 tr 3 := by rw [← etr]; exact hT.kr (hT.ref (hT.k t_x (by decide)) (by decide) (by decide) (by decide)) (by decide) (by decide)
  obtain ⟨rs5, ers5⟩ : ∃ z, kR κ x 5 = z := ⟨_, rfl⟩
  have trs5 : zk σ0 rs5 12 := by rw [← ers5]; exact hT.kr (hT.ref (hT.k t_x (by decide)) (by decide) (by decide) (by decide)) (by decide) (by decide)
  obtain ⟨sl0, esl0⟩ : ∃ z, kR κ rs5 0 = z := ⟨_, rfl⟩
  have tsl0 : zk σ0 sl0 3 := by rw [← esl0]; exact hT.kr (hT.ref (hT.k trs5 (by decide)) (by decide) (by decide) (by decide)) (by decide) (by decide)
  obtain ⟨sl1, esl1⟩ : ∃ z, kR κ rs5 1 = z := ⟨_, rfl⟩
  have tsl1 : zk σ0 sl1 3 := by rw [← esl1]; exact hT.kr (hT.ref (hT.k trs5 (by decide)) (by decide) (by decide) (by decide)) (by decide) (by decide)
  obtain ⟨rW, erW⟩ : ∃ z, kR κ mm 1 = z := ⟨_, rfl⟩
  have trW : zk σ0 rW 21 := by rw [← erW]; exact hT.kr (hT.ref (hT.k t_mm (by decide)) (by decide) (by decide) (by decide)) (by decide) (by decide)
  obtain ⟨rS, erS⟩ : ∃ z, kR κ mm 3 = z := ⟨_, rfl⟩
  have trS : zk σ0 rS 22 := by rw [← erS]; exact hT.kr (hT.ref (hT.k t_mm (by decide)) (by decide) (by decide) (by decide)) (by decide) (by decide)
  obtain ⟨so, eso⟩ : ∃ z, kR κ x 1 = z := ⟨_, rfl⟩
  have tso : zk σ0 so 4 := by rw [← eso]; exact hT.kr (hT.ref (hT.k t_x (by decide)) (by decide) (by decide) (by decide)) (by decide) (by decide)
  obtain ⟨qP, eqP⟩ : ∃ z, kR κ so 0 = z := ⟨_, rfl⟩
  have tqP : zk σ0 qP 8 := by rw [← eqP]; exact hT.kr (hT.ref (hT.k tso (by decide)) (by decide) (by decide) (by decide)) (by decide) (by decide)
  obtain ⟨qO, eqO⟩ : ∃ z, kR κ so 1 = z := ⟨_, rfl⟩
  have tqO : zk σ0 qO 16 := by rw [← eqO]; exact hT.kr (hT.ref (hT.k tso (by decide)) (by decide) (by decide) (by decide)) (by decide) (by decide)
  obtain ⟨r5, er5⟩ : ∃ z, kR κ mm 5 = z := ⟨_, rfl⟩
  have tr5 : zk σ0 r5 25 := by rw [← er5]; exact hT.kr (hT.ref (hT.k t_mm (by decide)) (by decide) (by decide) (by decide)) (by decide) (by decide)
  obtain ⟨r6, er6⟩ : ∃ z, kR κ mm 6 = z := ⟨_, rfl⟩
  have tr6 : zk σ0 r6 26 := by rw [← er6]; exact hT.kr (hT.ref (hT.k t_mm (by decide)) (by decide) (by decide) (by decide)) (by decide) (by decide)
  obtain ⟨hnw, hsl⟩ := hsr
  obtain ⟨hd1, ⟨hd2, hd3⟩, hd4, hd5, hd6, hd7⟩ := hdis
  have d_nt : nw ≠ tr := by rw [← enw, ← etr]; exact hd2
  have d_n0 : nw ≠ sl0 := by rw [← enw, ← esl0, ← ers5]; exact hd3 0 (by decide)
  have d_t0 : sl0 ≠ tr := by rw [← etr, ← esl0, ← ers5]; exact fun q => hd4 0 (by decide) q.symm
  have d_n1 : nw ≠ sl1 := by rw [← enw, ← esl1, ← ers5]; exact hd3 1 (by decide)
  have d_t1 : sl1 ≠ tr := by rw [← etr, ← esl1, ← ers5]; exact fun q => hd4 1 (by decide) q.symm
  have d_01 : sl0 ≠ sl1 := by rw [← esl0, ← esl1, ← ers5]; exact hd5
  have knw : zk σ nw 3 := hT.k tnw (by decide)
  have ksl0 : zk σ sl0 3 := hT.k tsl0 (by decide)
  have ksl1 : zk σ sl1 3 := hT.k tsl1 (by decide)
  refine lv_aload_n hx hb dL_law_391 rfl (lv_at hl 3 rfl) ?_
  refine lv_aload_n hx hb dL_law_392 rfl (lv_at hl 4 rfl) ?_
  refine lv_iload hx hb dL_law_393 (lv_at hl 0 rfl) ?_
  refine lv_iconst (v := 1) hx hb dL_law_395 (by decide) ?_
  refine lv_iadd hx hb dL_law_396 ?_
  refine g_add (by omega) (by omega) (fun t1 ht1 => ?_)
  refine va_sld hx hb hXs hbl hbA hT.2.2.2 (g_in (by omega) (by omega)) dL_law_397 ?_
  refine ti y1 (by rw [hy1]; exact congrArg xs (show t1.toNatClampNeg = ix i + 1 from by show t1.toInt.toNat = ix i + 1; unfold ix; omega)) ?_
  refine lv_aload_n hx hb dL_law_398 rfl (lv_at hl 4 rfl) ?_
  refine lv_iload hx hb dL_law_399 (lv_at hl 0 rfl) ?_
  refine lv_iconst (v := 2) hx hb dL_law_401 (by decide) ?_
  refine lv_iadd hx hb dL_law_402 ?_
  refine g_add (by omega) (by omega) (fun t2 ht2 => ?_)
  refine va_sld hx hb hXs hbl hbA hT.2.2.2 (g_in (by omega) (by omega)) dL_law_403 ?_
  refine ti y2 (by rw [hy2]; exact congrArg xs (show t2.toNatClampNeg = ix i + 2 from by show t2.toInt.toNat = ix i + 2; unfold ix; omega)) ?_
  refine lv_aload_n hx hb dL_law_404 rfl (lv_at hl 1 rfl) ?_
  have hTo := hT
  refine tHi (n := 4) (As := [.ref x, .int y1, .int y2, .ref out]) (rest := []) hx hb hml hown hg hT hK hX (L_sample l κ σ x y1 y2 out (hT.k t_x (by decide)) (hT.k t_out (by decide)) hlt) sub_hfE_fA (mwHS k854 k855 k83 k856) ⟨by decide, by decide, by decide +kernel⟩ ⟨(Nat.le_of_ble_eq_true rfl), (Nat.le_of_ble_eq_true rfl)⟩ rfl hl.1 rfl (Nat.le_of_ble_eq_true rfl) dL_law_405 zx (fun r4 s3 H locs hφ hE hT => ?_)
  have R5 := hR.ext hE ⟨rfl, rfl, fun _ => rfl, fun _ => rfl, fun _ => rfl, fun _ => rfl⟩
  have a6 : (zI s3 tx 1).toInt = (zI σ tx 1).toInt := by rw [(hTo.k ttx (by decide)).eI hE (by decide) rfl]
  have j7 : zI s3 rB = zI σ rB := (show zI s3 rB = zI σ rB from funext fun k => (hTo.k trB (by decide)).eI hE (by decide) rfl)
  have j8 : zI s3 rT = zI σ rT := (show zI s3 rT = zI σ rT from funext fun k => (hTo.k trT (by decide)).eI hE (by decide) rfl)
  have j9 : zI s3 rI = zI σ rI := (show zI s3 rI = zI σ rI from funext fun k => (hTo.k trI (by decide)).eI hE (by decide) rfl)
  have j10 : zI s3 rK = zI σ rK := (show zI s3 rK = zI σ rK from funext fun k => (hTo.k trK (by decide)).eI hE (by decide) rfl)
  have j11 : zI s3 tx 2 = zI σ tx 2 := (hTo.k ttx (by decide)).eI hE (by decide) rfl
  have j12 : zI s3 tx 3 = zI σ tx 3 := (hTo.k ttx (by decide)).eI hE (by decide) rfl
  have j13 : zI s3 mm 15 = zI σ mm 15 := (hTo.k t_mm (by decide)).eI hE (by decide) rfl
  have j14 : zI s3 mm 16 = zI σ mm 16 := (hTo.k t_mm (by decide)).eI hE (by decide) rfl
  have n15 : zI s3 nw 7 = zI σ nw 7 ∧ zI s3 nw 8 = zI σ nw 8 ∧ zI s3 nw 9 = zI σ nw 9 := ⟨(hTo.k tnw (by decide)).eI hE (by decide) rfl, (hTo.k tnw (by decide)).eI hE (by decide) rfl, (hTo.k tnw (by decide)).eI hE (by decide) rfl⟩
  have n16 : zI s3 sl0 7 = zI σ sl0 7 ∧ zI s3 sl0 8 = zI σ sl0 8 ∧ zI s3 sl0 9 = zI σ sl0 9 := ⟨(hTo.k tsl0 (by decide)).eI hE (by decide) rfl, (hTo.k tsl0 (by decide)).eI hE (by decide) rfl, (hTo.k tsl0 (by decide)).eI hE (by decide) rfl⟩
  have n17 : zI s3 sl1 7 = zI σ sl1 7 ∧ zI s3 sl1 8 = zI σ sl1 8 ∧ zI s3 sl1 9 = zI σ sl1 9 := ⟨(hTo.k tsl1 (by decide)).eI hE (by decide) rfl, (hTo.k tsl1 (by decide)).eI hE (by decide) rfl, (hTo.k tsl1 (by decide)).eI hE (by decide) rfl⟩
  have n18 : ∀ j : Nat, j < 3 → zJ s3 rW j = zJ σ rW j := fun j hj => (hTo.k trW (by decide)).eJ hE (by decide) rfl
  have n19 : zJ s3 rS = zJ σ rS := (show zJ s3 rS = zJ σ rS from funext fun k => (hTo.k trS (by decide)).eJ hE (by decide) rfl)
  have z20 : zI s3 so 2 = zI σ so 2 ∧ zI s3 so 6 = zI σ so 6 ∧ zI s3 qP = zI σ qP ∧ zI s3 qO = zI σ qO := ⟨(hTo.k tso (by decide)).eI hE (by decide) rfl, (hTo.k tso (by decide)).eI hE (by decide) rfl, funext fun q9 => (hTo.k tqP (by decide)).eI hE (by decide) rfl, funext fun q9 => (hTo.k tqO (by decide)).eI hE (by decide) rfl⟩
  have z21 : zI s3 mm 7 = zI σ mm 7 ∧ zI s3 mm 8 = zI σ mm 8 ∧ zI s3 r5 = zI σ r5 ∧ zI s3 r6 = zI σ r6 := ⟨(hTo.k t_mm (by decide)).eI hE (by decide) rfl, (hTo.k t_mm (by decide)).eI hE (by decide) rfl, funext fun q9 => (hTo.k tr5 (by decide)).eI hE (by decide) rfl, funext fun q9 => (hTo.k tr6 (by decide)).eI hE (by decide) rfl⟩
  have a22 : (zI s3 mm 13).toInt = (zI σ mm 13).toInt := by rw [(hTo.k t_mm (by decide)).eI hE (by decide) rfl]
  refine lv_istore (lv' := [(5, .int r4), (4, .int i), (3, .ref out), (2, .ref mm), (1, .ref x), (0, .ref b)]) hx hb dL_law_408 hl (by decide) rfl (fun ls hl => ?_)
  refine lv_aload_n hx hb dL_law_410 rfl (lv_at hl 3 rfl) ?_
  refine lv_aload_n hx hb dL_law_411 rfl (lv_at hl 5 rfl) ?_
  refine lv_iload hx hb dL_law_412 (lv_at hl 1 rfl) ?_
  refine lv_iconst (v := 1) hx hb dL_law_414 (by decide) ?_
  refine lv_iadd hx hb dL_law_415 ?_
  refine g_add (by omega) (by omega) (fun t23 ht23 => ?_)
  refine va_sld hx hb hXs hbl hbA hT.2.2.2 (g_in (by omega) (by omega)) dL_law_416 ?_
  refine ti y1 (by rw [hy1]; exact congrArg xs (show t23.toNatClampNeg = ix i + 1 from by show t23.toInt.toNat = ix i + 1; unfold ix; omega)) ?_
  refine lv_aload_n hx hb dL_law_417 rfl (lv_at hl 5 rfl) ?_
  refine lv_iload hx hb dL_law_418 (lv_at hl 1 rfl) ?_
  refine lv_iconst (v := 2) hx hb dL_law_420 (by decide) ?_
  refine lv_iadd hx hb dL_law_421 ?_
  refine g_add (by omega) (by omega) (fun t24 ht24 => ?_)
  refine va_sld hx hb hXs hbl hbA hT.2.2.2 (g_in (by omega) (by omega)) dL_law_422 ?_
  refine ti y2 (by rw [hy2]; exact congrArg xs (show t24.toNatClampNeg = ix i + 2 from by show t24.toInt.toNat = ix i + 2; unfold ix; omega)) ?_
  have hTo := hT
  refine tVl (n := 2) (As := [.int y1, .int y2]) (rest := []) hx hb hml hown hg hT hK hX (X6_sample l (kX κ) s3 mm y1 y2 (hT.k t_mm (by decide)) R5) sub_gR_fA (mwV k1436 k1437 k1438 k92 k1439) ⟨rfl, by decide, by decide, by decide +kernel⟩ ⟨(Nat.le_of_ble_eq_true rfl), (Nat.le_of_ble_eq_true rfl)⟩ (hT.o20 (hT.k t_mm (by decide))) rfl rfl hl.1 rfl (Nat.le_of_ble_eq_true rfl) dL_law_423 zx (fun r26 s25 H locs hφ hE hT => ?_)
  have R27 := R5.ext hE ⟨rfl, rfl, fun _ => rfl, fun _ => rfl, fun _ => rfl, fun _ => rfl⟩
  have a28 : (zI s25 tx 1).toInt = (zI s3 tx 1).toInt := by rw [(hTo.k ttx (by decide)).eI hE (by decide) rfl]
  have j29 : zI s25 rB = zI σ rB := ((show zI s25 rB = zI s3 rB from funext fun k => (hTo.k trB (by decide)).eI hE (by decide) rfl)).trans j7
  have j30 : zI s25 rT = zI σ rT := ((show zI s25 rT = zI s3 rT from funext fun k => (hTo.k trT (by decide)).eI hE (by decide) rfl)).trans j8
  have j31 : zI s25 rI = zI σ rI := ((show zI s25 rI = zI s3 rI from funext fun k => (hTo.k trI (by decide)).eI hE (by decide) rfl)).trans j9
  have j32 : zI s25 rK = zI σ rK := ((show zI s25 rK = zI s3 rK from funext fun k => (hTo.k trK (by decide)).eI hE (by decide) rfl)).trans j10
  have j33 : zI s25 tx 2 = zI σ tx 2 := ((hTo.k ttx (by decide)).eI hE (by decide) rfl).trans j11
  have j34 : zI s25 tx 3 = zI σ tx 3 := ((hTo.k ttx (by decide)).eI hE (by decide) rfl).trans j12
  have j35 : zI s25 mm 15 = zI σ mm 15 := ((hTo.k t_mm (by decide)).eI hE (by decide) rfl).trans j13
  have j36 : zI s25 mm 16 = zI σ mm 16 := ((hTo.k t_mm (by decide)).eI hE (by decide) rfl).trans j14
  have n37 : zI s25 nw 7 = zI s3 nw 7 ∧ zI s25 nw 8 = zI s3 nw 8 ∧ zI s25 nw 9 = zI s3 nw 9 := ⟨(hTo.k tnw (by decide)).eI hE (by decide) rfl, (hTo.k tnw (by decide)).eI hE (by decide) rfl, (hTo.k tnw (by decide)).eI hE (by decide) rfl⟩
  have n38 : zI s25 nw 7 = zI σ nw 7 ∧ zI s25 nw 8 = zI σ nw 8 ∧ zI s25 nw 9 = zI σ nw 9 := ⟨n37.1.trans n15.1, n37.2.1.trans n15.2.1, n37.2.2.trans n15.2.2⟩
  have n39 : zI s25 sl0 7 = zI s3 sl0 7 ∧ zI s25 sl0 8 = zI s3 sl0 8 ∧ zI s25 sl0 9 = zI s3 sl0 9 := ⟨(hTo.k tsl0 (by decide)).eI hE (by decide) rfl, (hTo.k tsl0 (by decide)).eI hE (by decide) rfl, (hTo.k tsl0 (by decide)).eI hE (by decide) rfl⟩
  have n40 : zI s25 sl0 7 = zI σ sl0 7 ∧ zI s25 sl0 8 = zI σ sl0 8 ∧ zI s25 sl0 9 = zI σ sl0 9 := ⟨n39.1.trans n16.1, n39.2.1.trans n16.2.1, n39.2.2.trans n16.2.2⟩
  have n41 : zI s25 sl1 7 = zI s3 sl1 7 ∧ zI s25 sl1 8 = zI s3 sl1 8 ∧ zI s25 sl1 9 = zI s3 sl1 9 := ⟨(hTo.k tsl1 (by decide)).eI hE (by decide) rfl, (hTo.k tsl1 (by decide)).eI hE (by decide) rfl, (hTo.k tsl1 (by decide)).eI hE (by decide) rfl⟩
  have n42 : zI s25 sl1 7 = zI σ sl1 7 ∧ zI s25 sl1 8 = zI σ sl1 8 ∧ zI s25 sl1 9 = zI σ sl1 9 := ⟨n41.1.trans n17.1, n41.2.1.trans n17.2.1, n41.2.2.trans n17.2.2⟩
  have n43 : ∀ j : Nat, j < 3 → zJ s25 rW j = zJ s3 rW j := fun j hj => (hTo.k trW (by decide)).eJ hE (by decide) rfl
  have n44 : ∀ j : Nat, j < 3 → zJ s25 rW j = zJ σ rW j := fun j hj => (n43 j hj).trans (n18 j hj)
  have n45 : zJ s25 rS = zJ σ rS := (show zJ s25 rS = zJ s3 rS from funext fun k => (hTo.k trS (by decide)).eJ hE (by decide) rfl).trans n19
  have z46 : zI s25 so 2 = zI s3 so 2 ∧ zI s25 so 6 = zI s3 so 6 ∧ zI s25 qP = zI s3 qP ∧ zI s25 qO = zI s3 qO := ⟨(hTo.k tso (by decide)).eI hE (by decide) rfl, (hTo.k tso (by decide)).eI hE (by decide) rfl, funext fun q9 => (hTo.k tqP (by decide)).eI hE (by decide) rfl, funext fun q9 => (hTo.k tqO (by decide)).eI hE (by decide) rfl⟩
  have z47 : zI s25 so 2 = zI σ so 2 ∧ zI s25 so 6 = zI σ so 6 ∧ zI s25 qP = zI σ qP ∧ zI s25 qO = zI σ qO := ⟨z46.1.trans z20.1, z46.2.1.trans z20.2.1, z46.2.2.1.trans z20.2.2.1, z46.2.2.2.trans z20.2.2.2⟩
  have z48 : zI s25 mm 7 = zI s3 mm 7 ∧ zI s25 mm 8 = zI s3 mm 8 ∧ zI s25 r5 = zI s3 r5 ∧ zI s25 r6 = zI s3 r6 := ⟨(hTo.k t_mm (by decide)).eI hE (by decide) rfl, (hTo.k t_mm (by decide)).eI hE (by decide) rfl, funext fun q9 => (hTo.k tr5 (by decide)).eI hE (by decide) rfl, funext fun q9 => (hTo.k tr6 (by decide)).eI hE (by decide) rfl⟩
  have z49 : zI s25 mm 7 = zI σ mm 7 ∧ zI s25 mm 8 = zI σ mm 8 ∧ zI s25 r5 = zI σ r5 ∧ zI s25 r6 = zI σ r6 := ⟨z48.1.trans z21.1, z48.2.1.trans z21.2.1, z48.2.2.1.trans z21.2.2.1, z48.2.2.2.trans z21.2.2.2⟩
  have a50 : (zI s25 mm 13).toInt = (zI s3 mm 13).toInt := by rw [(hTo.k t_mm (by decide)).eI hE (by decide) rfl]
  refine lv_lstore (lv' := [(6, .long r26), (5, .int r4), (4, .int i), (3, .ref out), (2, .ref mm), (1, .ref x), (0, .ref b)]) hx hb dL_law_426 hl (by decide) rfl (fun ls hl => ?_)
  refine lv_goto (tgt := 1432) hx hb dL_law_428 (by decide) ?_
  have sl0f : zI s25 rI 0 ≠ 0 → SLT κ s25 x mm 0 := fun hq => (hsl 0 (by decide) (fun q9 => hq (by rw [erI] at q9; rw [j31]; exact q9))).tr (by rw [ers5, esl0]; exact n40) (fun j hj => by rw [erS, n45])
  have sl1f : zI s25 rI 1 ≠ 0 → SLT κ s25 x mm 1 := fun hq => (hsl 1 (by decide) (fun q9 => hq (by rw [erI] at q9; rw [j31]; exact q9))).tr (by rw [ers5, esl1]; exact n42) (fun j hj => by rw [erS, n45])
  exact KK s25 _ _ _ hT R27 ⟨by rw [etx]; omega, ⟨by rw [etx, erB, erT, j29, j30]; exact tal_less hal (by omega), by rw [erT, j30]; exact tnn_less hnn (by omega)⟩, ⟨by rw [etx, j33, j35]; exact hco, by rw [etx, j34, j36]; exact hpo⟩, fun i hi => by rw [erI, erK, j31, j32]; exact hkp i hi⟩ (⟨hnw.tr (by rw [enw]; exact n38) (by rw [erW]; exact n44), fun i hi => (show i = 0 ∨ i = 1 by omega).elim (fun e9 => by rw [e9, erI]; exact sl0f) (fun e9 => by rw [e9, erI]; exact sl1f)⟩) (hsm.tr (by rw [eso, eqP, eqO]; exact z47) (by rw [er5, er6]; exact z49)) (lv_sub hl [2, 3, 4, 5, 6] rfl)
set_option maxHeartbeats 4000000 in
set_option maxRecDepth 100000 in
theorem lc_7 (l : Launch) (κ : Kt) (σ0 : Gh) (x mm out b : Nat) (t_x : zk σ0 x 7) (t_mm : zk σ0 mm 20) (t_out : zk σ0 out 24) (ttx0 : zk σ0 (kR κ x 0) 6) (hdis : DIS κ x) (hlt : l.stackTraces = false) {p : Program} {e : Env} {s : State} {m : MethodId} {below : List Frame} {meth : Method} {c : Code} {L : Nat} {xs : Nat → Int32} {i : Int32} {Q9 : State → Prop} (hx : p.tables.exec = Jvm.exec) (hb : c.code = cL_law) (hml : c.maxLocals = 9) (hown : s.vm.findClass RL = some m.cls) (hg : ∀ w ∈ GW, w.before #[Value.ref b] s = true) (hK : va_K κ.1 vwCl (kTy κ) s) (hX : XY κ (tA σ0 s.heap.size) s s.heap) (hXs : va_X b L xs s s.heap) (hbl : b < s.heap.size) (hbA : ¬ tA σ0 s.heap.size b) (zx : zroomX κ s room_1 601024 7293034) (hi0 : 0 ≤ i.toInt) (hi1 : i.toInt + 6 ≤ L) (hL9 : L ≤ 3072) {σ : Gh} {H : Heap} {locs : List Loc} {ls : Array Slot} (hT : TS κ fA σ0 σ s H locs) (hR : RI κ σ mm) (hrel : LREL κ σ x mm) (hsr : SREL κ σ x mm) (hsm : SMP κ σ x mm) (hl : lv_has ls 9 [(4, .int i), (3, .ref out), (2, .ref mm), (1, .ref x), (0, .ref b)]) (KK : ∀ (σ1 : Gh) (H : Heap) (locs : List Loc) (ls : Array Slot), TS (kX κ) fA σ0 σ1 s H locs → RI (kX κ) σ1 mm → LREL κ σ1 x mm → SREL κ σ1 x mm → SMP κ σ1 x mm → lv_has ls 9 [(4, .int i), (3, .ref out), (2, .ref mm), (1, .ref x), (0, .ref b)] → W p l e room_1 s m #[Value.ref b] below meth c H locs 601024 7293034 Q9 (F0 m 1432 ls [])) : W p l e room_1 s m #[Value.ref b] below meth c H locs 601024 7293034 Q9 (F0 m 431 ls []) := by
  obtain ⟨y1, hy1⟩ : ∃ z, z = xs (ix i + 1) := ⟨_, rfl⟩
  obtain ⟨y2, hy2⟩ : ∃ z, z = xs (ix i + 2) := ⟨_, rfl⟩
  obtain ⟨y3, hy3⟩ : ∃ z, z = xs (ix i + 3) := ⟨_, rfl⟩
  obtain ⟨y4, hy4⟩ : ∃ z, z = xs (ix i + 4) := ⟨_, rfl⟩
  obtain ⟨y5, hy5⟩ : ∃ z, z = xs (ix i + 5) := ⟨_, rfl⟩
  have n0 : (0 : Int32).toInt = 0 := by decide
  have n1 : (1 : Int32).toInt = 1 := by decide
  have n2 : (2 : Int32).toInt = 2 := by decide
  have n3 : (3 : Int32).toInt = 3 := by decide
  have n4 : (4 : Int32).toInt = 4 := by decide
  have n5 : (5 : Int32).toInt = 5 := by decide
  obtain ⟨tx, etx⟩ : ∃ z, kR κ x 0 = z := ⟨_, rfl⟩
  have ttx : zk σ0 tx 6 := by rw [← etx]; exact ttx0
  obtain ⟨rB, erB⟩ : ∃ z, kR κ tx 0 = z := ⟨_, rfl⟩
  have trB : zk σ0 rB 14 := by rw [← erB]; exact hT.kr (hT.ref (hT.k ttx (by decide)) (by decide) (by decide) (by decide)) (by decide) (by decide)
  obtain ⟨rT, erT⟩ : ∃ z, kR κ mm 12 = z := ⟨_, rfl⟩
  have trT : zk σ0 rT 23 := by rw [← erT]; exact hT.kr (hT.ref (hT.k t_mm (by decide)) (by decide) (by decide) (by decide)) (by decide) (by decide)
  obtain ⟨rI, erI⟩ : ∃ z, kR κ x 6 = z := ⟨_, rfl⟩
  have trI : zk σ0 rI 13 := by rw [← erI]; exact hT.kr (hT.ref (hT.k t_x (by decide)) (by decide) (by decide) (by decide)) (by decide) (by decide)
  obtain ⟨rK, erK⟩ : ∃ z, kR κ mm 4 = z := ⟨_, rfl⟩
  have trK : zk σ0 rK 29 := by rw [← erK]; exact hT.kr (hT.ref (hT.k t_mm (by decide)) (by decide) (by decide) (by decide)) (by decide) (by decide)
  obtain ⟨hlen, ⟨hal, hnn⟩, ⟨hco, hpo⟩, hkp⟩ := hrel
  rw [etx] at hlen hal hco hpo
  rw [erB, erT] at hal
  rw [erT] at hnn
  rw [erI, erK] at hkp
  have btx := (hT.P (hT.k ttx (by decide)) (by decide)).1
  have btxl := btx.1
  have btxh := btx.2
  obtain ⟨nw, enw⟩ : ∃ z, kR κ x 3 = z := ⟨_, rfl⟩
  have tnw : zk σ0 nw 3 := by rw [← enw]; exact hT.kr (hT.ref (hT.k t_x (by decide)) (by decide) (by decide) (by decide)) (by decide) (by decide)
  obtain ⟨tr, etr⟩ : ∃ z, kR κ x 4 = z := ⟨_, rfl⟩
  have ttr : zk σ0 tr 3 := by rw [← etr]; exact hT.kr (hT.ref (hT.k t_x (by decide)) (by decide) (by decide) (by decide)) (by decide) (by decide)
  obtain ⟨rs5, ers5⟩ : ∃ z, kR κ x 5 = z := ⟨_, rfl⟩
  have trs5 : zk σ0 rs5 12 := by rw [← ers5]; exact hT.kr (hT.ref (hT.k t_x (by decide)) (by decide) (by decide) (by decide)) (by decide) (by decide)
  obtain ⟨sl0, esl0⟩ : ∃ z, kR κ rs5 0 = z := ⟨_, rfl⟩
  have tsl0 : zk σ0 sl0 3 := by rw [← esl0]; exact hT.kr (hT.ref (hT.k trs5 (by decide)) (by decide) (by decide) (by decide)) (by decide) (by decide)
  obtain ⟨sl1, esl1⟩ : ∃ z, kR κ rs5 1 = z := ⟨_, rfl⟩
  have tsl1 : zk σ0 sl1 3 := by rw [← esl1]; exact hT.kr (hT.ref (hT.k trs5 (by decide)) (by decide) (by decide) (by decide)) (by decide) (by decide)
  obtain ⟨rW, erW⟩ : ∃ z, kR κ mm 1 = z := ⟨_, rfl⟩
  have trW : zk σ0 rW 21 := by rw [← erW]; exact hT.kr (hT.ref (hT.k t_mm (by decide)) (by decide) (by decide) (by decide)) (by decide) (by decide)
  obtain ⟨rS, erS⟩ : ∃ z, kR κ mm 3 = z := ⟨_, rfl⟩
  have trS : zk σ0 rS 22 := by rw [← erS]; exact hT.kr (hT.ref (hT.k t_mm (by decide)) (by decide) (by decide) (by decide)) (by decide) (by decide)
  obtain ⟨so, eso⟩ : ∃ z, kR κ x 1 = z := ⟨_, rfl⟩
  have tso : zk σ0 so 4 := by rw [← eso]; exact hT.kr (hT.ref (hT.k t_x (by decide)) (by decide) (by decide) (by decide)) (by decide) (by decide)
  obtain ⟨qP, eqP⟩ : ∃ z, kR κ so 0 = z := ⟨_, rfl⟩
  have tqP : zk σ0 qP 8 := by rw [← eqP]; exact hT.kr (hT.ref (hT.k tso (by decide)) (by decide) (by decide) (by decide)) (by decide) (by decide)
  obtain ⟨qO, eqO⟩ : ∃ z, kR κ so 1 = z := ⟨_, rfl⟩
  have tqO : zk σ0 qO 16 := by rw [← eqO]; exact hT.kr (hT.ref (hT.k tso (by decide)) (by decide) (by decide) (by decide)) (by decide) (by decide)
  obtain ⟨r5, er5⟩ : ∃ z, kR κ mm 5 = z := ⟨_, rfl⟩
  have tr5 : zk σ0 r5 25 := by rw [← er5]; exact hT.kr (hT.ref (hT.k t_mm (by decide)) (by decide) (by decide) (by decide)) (by decide) (by decide)
  obtain ⟨r6, er6⟩ : ∃ z, kR κ mm 6 = z := ⟨_, rfl⟩
  have tr6 : zk σ0 r6 26 := by rw [← er6]; exact hT.kr (hT.ref (hT.k t_mm (by decide)) (by decide) (by decide) (by decide)) (by decide) (by decide)
  obtain ⟨hnw, hsl⟩ := hsr
  obtain ⟨hd1, ⟨hd2, hd3⟩, hd4, hd5, hd6, hd7⟩ := hdis
  have d_nt : nw ≠ tr := by rw [← enw, ← etr]; exact hd2
  have d_n0 : nw ≠ sl0 := by rw [← enw, ← esl0, ← ers5]; exact hd3 0 (by decide)
  have d_t0 : sl0 ≠ tr := by rw [← etr, ← esl0, ← ers5]; exact fun q => hd4 0 (by decide) q.symm
  have d_n1 : nw ≠ sl1 := by rw [← enw, ← esl1, ← ers5]; exact hd3 1 (by decide)
  have d_t1 : sl1 ≠ tr := by rw [← etr, ← esl1, ← ers5]; exact fun q => hd4 1 (by decide) q.symm
  have d_01 : sl0 ≠ sl1 := by rw [← esl0, ← esl1, ← ers5]; exact hd5
  have knw : zk σ nw 3 := hT.k tnw (by decide)
  have ksl0 : zk σ sl0 3 := hT.k tsl0 (by decide)
  have ksl1 : zk σ sl1 3 := hT.k tsl1 (by decide)
  refine lv_aload_n hx hb dL_law_431 rfl (lv_at hl 3 rfl) ?_
  refine lv_aload_n hx hb dL_law_432 rfl (lv_at hl 4 rfl) ?_
  refine lv_iload hx hb dL_law_433 (lv_at hl 0 rfl) ?_
  refine lv_iconst (v := 1) hx hb dL_law_435 (by decide) ?_
  refine lv_iadd hx hb dL_law_436 ?_
  refine g_add (by omega) (by omega) (fun t1 ht1 => ?_)
  refine va_sld hx hb hXs hbl hbA hT.2.2.2 (g_in (by omega) (by omega)) dL_law_437 ?_
  refine ti y1 (by rw [hy1]; exact congrArg xs (show t1.toNatClampNeg = ix i + 1 from by show t1.toInt.toNat = ix i + 1; unfold ix; omega)) ?_
  refine lv_aload_n hx hb dL_law_438 rfl (lv_at hl 1 rfl) ?_
  have hTo := hT
  refine tHi (n := 3) (As := [.ref x, .int y1, .ref out]) (rest := []) hx hb hml hown hg hT hK hX (L_present l κ σ x y1 out (hT.k t_x (by decide)) (hT.k t_out (by decide)) hlt) sub_hfE_fA (mwHS k863 k864 k83 k865) ⟨by decide, by decide, by decide +kernel⟩ ⟨(Nat.le_of_ble_eq_true rfl), (Nat.le_of_ble_eq_true rfl)⟩ rfl hl.1 rfl (Nat.le_of_ble_eq_true rfl) dL_law_439 zx (fun r3 s2 H locs hφ hE hT => ?_)
  have R4 := hR.ext hE ⟨rfl, rfl, fun _ => rfl, fun _ => rfl, fun _ => rfl, fun _ => rfl⟩
  have a5 : (zI s2 tx 1).toInt = (zI σ tx 1).toInt := by rw [(hTo.k ttx (by decide)).eI hE (by decide) rfl]
  have j6 : zI s2 rB = zI σ rB := (show zI s2 rB = zI σ rB from funext fun k => (hTo.k trB (by decide)).eI hE (by decide) rfl)
  have j7 : zI s2 rT = zI σ rT := (show zI s2 rT = zI σ rT from funext fun k => (hTo.k trT (by decide)).eI hE (by decide) rfl)
  have j8 : zI s2 rI = zI σ rI := (show zI s2 rI = zI σ rI from funext fun k => (hTo.k trI (by decide)).eI hE (by decide) rfl)
  have j9 : zI s2 rK = zI σ rK := (show zI s2 rK = zI σ rK from funext fun k => (hTo.k trK (by decide)).eI hE (by decide) rfl)
  have j10 : zI s2 tx 2 = zI σ tx 2 := (hTo.k ttx (by decide)).eI hE (by decide) rfl
  have j11 : zI s2 tx 3 = zI σ tx 3 := (hTo.k ttx (by decide)).eI hE (by decide) rfl
  have j12 : zI s2 mm 15 = zI σ mm 15 := (hTo.k t_mm (by decide)).eI hE (by decide) rfl
  have j13 : zI s2 mm 16 = zI σ mm 16 := (hTo.k t_mm (by decide)).eI hE (by decide) rfl
  have n14 : zI s2 nw 7 = zI σ nw 7 ∧ zI s2 nw 8 = zI σ nw 8 ∧ zI s2 nw 9 = zI σ nw 9 := ⟨(hTo.k tnw (by decide)).eI hE (by decide) rfl, (hTo.k tnw (by decide)).eI hE (by decide) rfl, (hTo.k tnw (by decide)).eI hE (by decide) rfl⟩
  have n15 : zI s2 sl0 7 = zI σ sl0 7 ∧ zI s2 sl0 8 = zI σ sl0 8 ∧ zI s2 sl0 9 = zI σ sl0 9 := ⟨(hTo.k tsl0 (by decide)).eI hE (by decide) rfl, (hTo.k tsl0 (by decide)).eI hE (by decide) rfl, (hTo.k tsl0 (by decide)).eI hE (by decide) rfl⟩
  have n16 : zI s2 sl1 7 = zI σ sl1 7 ∧ zI s2 sl1 8 = zI σ sl1 8 ∧ zI s2 sl1 9 = zI σ sl1 9 := ⟨(hTo.k tsl1 (by decide)).eI hE (by decide) rfl, (hTo.k tsl1 (by decide)).eI hE (by decide) rfl, (hTo.k tsl1 (by decide)).eI hE (by decide) rfl⟩
  have n17 : ∀ j : Nat, j < 3 → zJ s2 rW j = zJ σ rW j := fun j hj => (hTo.k trW (by decide)).eJ hE (by decide) rfl
  have n18 : zJ s2 rS = zJ σ rS := (show zJ s2 rS = zJ σ rS from funext fun k => (hTo.k trS (by decide)).eJ hE (by decide) rfl)
  have z19 : zI s2 so 2 = zI σ so 2 ∧ zI s2 so 6 = zI σ so 6 ∧ zI s2 qP = zI σ qP ∧ zI s2 qO = zI σ qO := ⟨(hTo.k tso (by decide)).eI hE (by decide) rfl, (hTo.k tso (by decide)).eI hE (by decide) rfl, funext fun q9 => (hTo.k tqP (by decide)).eI hE (by decide) rfl, funext fun q9 => (hTo.k tqO (by decide)).eI hE (by decide) rfl⟩
  have z20 : zI s2 mm 7 = zI σ mm 7 ∧ zI s2 mm 8 = zI σ mm 8 ∧ zI s2 r5 = zI σ r5 ∧ zI s2 r6 = zI σ r6 := ⟨(hTo.k t_mm (by decide)).eI hE (by decide) rfl, (hTo.k t_mm (by decide)).eI hE (by decide) rfl, funext fun q9 => (hTo.k tr5 (by decide)).eI hE (by decide) rfl, funext fun q9 => (hTo.k tr6 (by decide)).eI hE (by decide) rfl⟩
  have a21 : (zI s2 mm 13).toInt = (zI σ mm 13).toInt := by rw [(hTo.k t_mm (by decide)).eI hE (by decide) rfl]
  refine lv_istore (lv' := [(5, .int r3), (4, .int i), (3, .ref out), (2, .ref mm), (1, .ref x), (0, .ref b)]) hx hb dL_law_442 hl (by decide) rfl (fun ls hl => ?_)
  refine lv_aload_n hx hb dL_law_444 rfl (lv_at hl 3 rfl) ?_
  refine lv_aload_n hx hb dL_law_445 rfl (lv_at hl 5 rfl) ?_
  refine lv_iload hx hb dL_law_446 (lv_at hl 1 rfl) ?_
  refine lv_iconst (v := 1) hx hb dL_law_448 (by decide) ?_
  refine lv_iadd hx hb dL_law_449 ?_
  refine g_add (by omega) (by omega) (fun t22 ht22 => ?_)
  refine va_sld hx hb hXs hbl hbA hT.2.2.2 (g_in (by omega) (by omega)) dL_law_450 ?_
  refine ti y1 (by rw [hy1]; exact congrArg xs (show t22.toNatClampNeg = ix i + 1 from by show t22.toInt.toNat = ix i + 1; unfold ix; omega)) ?_
  have hTo := hT
  refine tVi (n := 1) (As := [.int y1]) (rest := []) hx hb hml hown hg hT hK hX (X6_present l (kX κ) s2 mm y1 (hT.k t_mm (by decide)) R4) sub_gR_fA (mwV k1445 k1446 k1447 k92 k1448) ⟨rfl, by decide, by decide, by decide +kernel⟩ ⟨(Nat.le_of_ble_eq_true rfl), (Nat.le_of_ble_eq_true rfl)⟩ (hT.o20 (hT.k t_mm (by decide))) rfl rfl hl.1 rfl (Nat.le_of_ble_eq_true rfl) dL_law_451 zx (fun r24 s23 H locs hφ hE hT => ?_)
  have R25 := R4.ext hE ⟨rfl, rfl, fun _ => rfl, fun _ => rfl, fun _ => rfl, fun _ => rfl⟩
  have a26 : (zI s23 tx 1).toInt = (zI s2 tx 1).toInt := by rw [(hTo.k ttx (by decide)).eI hE (by decide) rfl]
  have j27 : zI s23 rB = zI σ rB := ((show zI s23 rB = zI s2 rB from funext fun k => (hTo.k trB (by decide)).eI hE (by decide) rfl)).trans j6
  have j28 : zI s23 rT = zI σ rT := ((show zI s23 rT = zI s2 rT from funext fun k => (hTo.k trT (by decide)).eI hE (by decide) rfl)).trans j7
  have j29 : zI s23 rI = zI σ rI := ((show zI s23 rI = zI s2 rI from funext fun k => (hTo.k trI (by decide)).eI hE (by decide) rfl)).trans j8
  have j30 : zI s23 rK = zI σ rK := ((show zI s23 rK = zI s2 rK from funext fun k => (hTo.k trK (by decide)).eI hE (by decide) rfl)).trans j9
  have j31 : zI s23 tx 2 = zI σ tx 2 := ((hTo.k ttx (by decide)).eI hE (by decide) rfl).trans j10
  have j32 : zI s23 tx 3 = zI σ tx 3 := ((hTo.k ttx (by decide)).eI hE (by decide) rfl).trans j11
  have j33 : zI s23 mm 15 = zI σ mm 15 := ((hTo.k t_mm (by decide)).eI hE (by decide) rfl).trans j12
  have j34 : zI s23 mm 16 = zI σ mm 16 := ((hTo.k t_mm (by decide)).eI hE (by decide) rfl).trans j13
  have n35 : zI s23 nw 7 = zI s2 nw 7 ∧ zI s23 nw 8 = zI s2 nw 8 ∧ zI s23 nw 9 = zI s2 nw 9 := ⟨(hTo.k tnw (by decide)).eI hE (by decide) rfl, (hTo.k tnw (by decide)).eI hE (by decide) rfl, (hTo.k tnw (by decide)).eI hE (by decide) rfl⟩
  have n36 : zI s23 nw 7 = zI σ nw 7 ∧ zI s23 nw 8 = zI σ nw 8 ∧ zI s23 nw 9 = zI σ nw 9 := ⟨n35.1.trans n14.1, n35.2.1.trans n14.2.1, n35.2.2.trans n14.2.2⟩
  have n37 : zI s23 sl0 7 = zI s2 sl0 7 ∧ zI s23 sl0 8 = zI s2 sl0 8 ∧ zI s23 sl0 9 = zI s2 sl0 9 := ⟨(hTo.k tsl0 (by decide)).eI hE (by decide) rfl, (hTo.k tsl0 (by decide)).eI hE (by decide) rfl, (hTo.k tsl0 (by decide)).eI hE (by decide) rfl⟩
  have n38 : zI s23 sl0 7 = zI σ sl0 7 ∧ zI s23 sl0 8 = zI σ sl0 8 ∧ zI s23 sl0 9 = zI σ sl0 9 := ⟨n37.1.trans n15.1, n37.2.1.trans n15.2.1, n37.2.2.trans n15.2.2⟩
  have n39 : zI s23 sl1 7 = zI s2 sl1 7 ∧ zI s23 sl1 8 = zI s2 sl1 8 ∧ zI s23 sl1 9 = zI s2 sl1 9 := ⟨(hTo.k tsl1 (by decide)).eI hE (by decide) rfl, (hTo.k tsl1 (by decide)).eI hE (by decide) rfl, (hTo.k tsl1 (by decide)).eI hE (by decide) rfl⟩
  have n40 : zI s23 sl1 7 = zI σ sl1 7 ∧ zI s23 sl1 8 = zI σ sl1 8 ∧ zI s23 sl1 9 = zI σ sl1 9 := ⟨n39.1.trans n16.1, n39.2.1.trans n16.2.1, n39.2.2.trans n16.2.2⟩
  have n41 : ∀ j : Nat, j < 3 → zJ s23 rW j = zJ s2 rW j := fun j hj => (hTo.k trW (by decide)).eJ hE (by decide) rfl
  have n42 : ∀ j : Nat, j < 3 → zJ s23 rW j = zJ σ rW j := fun j hj => (n41 j hj).trans (n17 j hj)
  have n43 : zJ s23 rS = zJ σ rS := (show zJ s23 rS = zJ s2 rS from funext fun k => (hTo.k trS (by decide)).eJ hE (by decide) rfl).trans n18
  have z44 : zI s23 so 2 = zI s2 so 2 ∧ zI s23 so 6 = zI s2 so 6 ∧ zI s23 qP = zI s2 qP ∧ zI s23 qO = zI s2 qO := ⟨(hTo.k tso (by decide)).eI hE (by decide) rfl, (hTo.k tso (by decide)).eI hE (by decide) rfl, funext fun q9 => (hTo.k tqP (by decide)).eI hE (by decide) rfl, funext fun q9 => (hTo.k tqO (by decide)).eI hE (by decide) rfl⟩
  have z45 : zI s23 so 2 = zI σ so 2 ∧ zI s23 so 6 = zI σ so 6 ∧ zI s23 qP = zI σ qP ∧ zI s23 qO = zI σ qO := ⟨z44.1.trans z19.1, z44.2.1.trans z19.2.1, z44.2.2.1.trans z19.2.2.1, z44.2.2.2.trans z19.2.2.2⟩
  have z46 : zI s23 mm 7 = zI s2 mm 7 ∧ zI s23 mm 8 = zI s2 mm 8 ∧ zI s23 r5 = zI s2 r5 ∧ zI s23 r6 = zI s2 r6 := ⟨(hTo.k t_mm (by decide)).eI hE (by decide) rfl, (hTo.k t_mm (by decide)).eI hE (by decide) rfl, funext fun q9 => (hTo.k tr5 (by decide)).eI hE (by decide) rfl, funext fun q9 => (hTo.k tr6 (by decide)).eI hE (by decide) rfl⟩
  have z47 : zI s23 mm 7 = zI σ mm 7 ∧ zI s23 mm 8 = zI σ mm 8 ∧ zI s23 r5 = zI σ r5 ∧ zI s23 r6 = zI σ r6 := ⟨z46.1.trans z20.1, z46.2.1.trans z20.2.1, z46.2.2.1.trans z20.2.2.1, z46.2.2.2.trans z20.2.2.2⟩
  have a48 : (zI s23 mm 13).toInt = (zI s2 mm 13).toInt := by rw [(hTo.k t_mm (by decide)).eI hE (by decide) rfl]
  refine lv_istore (lv' := [(6, .int r24), (5, .int r3), (4, .int i), (3, .ref out), (2, .ref mm), (1, .ref x), (0, .ref b)]) hx hb dL_law_454 hl (by decide) rfl (fun ls hl => ?_)
  refine lv_goto (tgt := 1432) hx hb dL_law_456 (by decide) ?_
  have sl0f : zI s23 rI 0 ≠ 0 → SLT κ s23 x mm 0 := fun hq => (hsl 0 (by decide) (fun q9 => hq (by rw [erI] at q9; rw [j29]; exact q9))).tr (by rw [ers5, esl0]; exact n38) (fun j hj => by rw [erS, n43])
  have sl1f : zI s23 rI 1 ≠ 0 → SLT κ s23 x mm 1 := fun hq => (hsl 1 (by decide) (fun q9 => hq (by rw [erI] at q9; rw [j29]; exact q9))).tr (by rw [ers5, esl1]; exact n40) (fun j hj => by rw [erS, n43])
  exact KK s23 _ _ _ hT R25 ⟨by rw [etx]; omega, ⟨by rw [etx, erB, erT, j27, j28]; exact tal_less hal (by omega), by rw [erT, j28]; exact tnn_less hnn (by omega)⟩, ⟨by rw [etx, j31, j33]; exact hco, by rw [etx, j32, j34]; exact hpo⟩, fun i hi => by rw [erI, erK, j29, j30]; exact hkp i hi⟩ (⟨hnw.tr (by rw [enw]; exact n36) (by rw [erW]; exact n42), fun i hi => (show i = 0 ∨ i = 1 by omega).elim (fun e9 => by rw [e9, erI]; exact sl0f) (fun e9 => by rw [e9, erI]; exact sl1f)⟩) (hsm.tr (by rw [eso, eqP, eqO]; exact z45) (by rw [er5, er6]; exact z47)) (lv_sub hl [2, 3, 4, 5, 6] rfl)
set_option maxHeartbeats 4000000 in
set_option maxRecDepth 100000 in
theorem lc_8 (l : Launch) (κ : Kt) (σ0 : Gh) (x mm out b : Nat) (t_x : zk σ0 x 7) (t_mm : zk σ0 mm 20) (t_out : zk σ0 out 24) (ttx0 : zk σ0 (kR κ x 0) 6) (hdis : DIS κ x) (hlt : l.stackTraces = false) {p : Program} {e : Env} {s : State} {m : MethodId} {below : List Frame} {meth : Method} {c : Code} {L : Nat} {xs : Nat → Int32} {i : Int32} {Q9 : State → Prop} (hx : p.tables.exec = Jvm.exec) (hb : c.code = cL_law) (hml : c.maxLocals = 9) (hown : s.vm.findClass RL = some m.cls) (hg : ∀ w ∈ GW, w.before #[Value.ref b] s = true) (hK : va_K κ.1 vwCl (kTy κ) s) (hX : XY κ (tA σ0 s.heap.size) s s.heap) (hXs : va_X b L xs s s.heap) (hbl : b < s.heap.size) (hbA : ¬ tA σ0 s.heap.size b) (zx : zroomX κ s room_1 601024 7293034) (hi0 : 0 ≤ i.toInt) (hi1 : i.toInt + 6 ≤ L) (hL9 : L ≤ 3072) {σ : Gh} {H : Heap} {locs : List Loc} {ls : Array Slot} (hT : TS κ fA σ0 σ s H locs) (hR : RI κ σ mm) (hrel : LREL κ σ x mm) (hsr : SREL κ σ x mm) (hsm : SMP κ σ x mm) (hl : lv_has ls 9 [(4, .int i), (3, .ref out), (2, .ref mm), (1, .ref x), (0, .ref b)]) (KK : ∀ (σ1 : Gh) (H : Heap) (locs : List Loc) (ls : Array Slot), TS (kX κ) fA σ0 σ1 s H locs → RI (kX κ) σ1 mm → LREL κ σ1 x mm → SREL κ σ1 x mm → SMP κ σ1 x mm → lv_has ls 9 [(4, .int i), (3, .ref out), (2, .ref mm), (1, .ref x), (0, .ref b)] → W p l e room_1 s m #[Value.ref b] below meth c H locs 601024 7293034 Q9 (F0 m 1432 ls [])) : W p l e room_1 s m #[Value.ref b] below meth c H locs 601024 7293034 Q9 (F0 m 459 ls []) := by
  obtain ⟨y1, hy1⟩ : ∃ z, z = xs (ix i + 1) := ⟨_, rfl⟩
  obtain ⟨y2, hy2⟩ : ∃ z, z = xs (ix i + 2) := ⟨_, rfl⟩
  obtain ⟨y3, hy3⟩ : ∃ z, z = xs (ix i + 3) := ⟨_, rfl⟩
  obtain ⟨y4, hy4⟩ : ∃ z, z = xs (ix i + 4) := ⟨_, rfl⟩
  obtain ⟨y5, hy5⟩ : ∃ z, z = xs (ix i + 5) := ⟨_, rfl⟩
  have n0 : (0 : Int32).toInt = 0 := by decide
  have n1 : (1 : Int32).toInt = 1 := by decide
  have n2 : (2 : Int32).toInt = 2 := by decide
  have n3 : (3 : Int32).toInt = 3 := by decide
  have n4 : (4 : Int32).toInt = 4 := by decide
  have n5 : (5 : Int32).toInt = 5 := by decide
  obtain ⟨tx, etx⟩ : ∃ z, kR κ x 0 = z := ⟨_, rfl⟩
  have ttx : zk σ0 tx 6 := by rw [← etx]; exact ttx0
  obtain ⟨rB, erB⟩ : ∃ z, kR κ tx 0 = z := ⟨_, rfl⟩
  have trB : zk σ0 rB 14 := by rw [← erB]; exact hT.kr (hT.ref (hT.k ttx (by decide)) (by decide) (by decide) (by decide)) (by decide) (by decide)
  obtain ⟨rT, erT⟩ : ∃ z, kR κ mm 12 = z := ⟨_, rfl⟩
  have trT : zk σ0 rT 23 := by rw [← erT]; exact hT.kr (hT.ref (hT.k t_mm (by decide)) (by decide) (by decide) (by decide)) (by decide) (by decide)
  obtain ⟨rI, erI⟩ : ∃ z, kR κ x 6 = z := ⟨_, rfl⟩
  have trI : zk σ0 rI 13 := by rw [← erI]; exact hT.kr (hT.ref (hT.k t_x (by decide)) (by decide) (by decide) (by decide)) (by decide) (by decide)
  obtain ⟨rK, erK⟩ : ∃ z, kR κ mm 4 = z := ⟨_, rfl⟩
  have trK : zk σ0 rK 29 := by rw [← erK]; exact hT.kr (hT.ref (hT.k t_mm (by decide)) (by decide) (by decide) (by decide)) (by decide) (by decide)
  obtain ⟨hlen, ⟨hal, hnn⟩, ⟨hco, hpo⟩, hkp⟩ := hrel
  rw [etx] at hlen hal hco hpo
  rw [erB, erT] at hal
  rw [erT] at hnn
  rw [erI, erK] at hkp
  have btx := (hT.P (hT.k ttx (by decide)) (by decide)).1
  have btxl := btx.1
  have btxh := btx.2
  obtain ⟨nw, enw⟩ : ∃ z, kR κ x 3 = z := ⟨_, rfl⟩
  have tnw : zk σ0 nw 3 := by rw [← enw]; exact hT.kr (hT.ref (hT.k t_x (by decide)) (by decide) (by decide) (by decide)) (by decide) (by decide)
  obtain ⟨tr, etr⟩ : ∃ z, kR κ x 4 = z := ⟨_, rfl⟩
  have ttr : zk σ0 tr 3 := by rw [← etr]; exact hT.kr (hT.ref (hT.k t_x (by decide)) (by decide) (by decide) (by decide)) (by decide) (by decide)
  obtain ⟨rs5, ers5⟩ : ∃ z, kR κ x 5 = z := ⟨_, rfl⟩
  have trs5 : zk σ0 rs5 12 := by rw [← ers5]; exact hT.kr (hT.ref (hT.k t_x (by decide)) (by decide) (by decide) (by decide)) (by decide) (by decide)
  obtain ⟨sl0, esl0⟩ : ∃ z, kR κ rs5 0 = z := ⟨_, rfl⟩
  have tsl0 : zk σ0 sl0 3 := by rw [← esl0]; exact hT.kr (hT.ref (hT.k trs5 (by decide)) (by decide) (by decide) (by decide)) (by decide) (by decide)
  obtain ⟨sl1, esl1⟩ : ∃ z, kR κ rs5 1 = z := ⟨_, rfl⟩
  have tsl1 : zk σ0 sl1 3 := by rw [← esl1]; exact hT.kr (hT.ref (hT.k trs5 (by decide)) (by decide) (by decide) (by decide)) (by decide) (by decide)
  obtain ⟨rW, erW⟩ : ∃ z, kR κ mm 1 = z := ⟨_, rfl⟩
  have trW : zk σ0 rW 21 := by rw [← erW]; exact hT.kr (hT.ref (hT.k t_mm (by decide)) (by decide) (by decide) (by decide)) (by decide) (by decide)
  obtain ⟨rS, erS⟩ : ∃ z, kR κ mm 3 = z := ⟨_, rfl⟩
  have trS : zk σ0 rS 22 := by rw [← erS]; exact hT.kr (hT.ref (hT.k t_mm (by decide)) (by decide) (by decide) (by decide)) (by decide) (by decide)
  obtain ⟨so, eso⟩ : ∃ z, kR κ x 1 = z := ⟨_, rfl⟩
  have tso : zk σ0 so 4 := by rw [← eso]; exact hT.kr (hT.ref (hT.k t_x (by decide)) (by decide) (by decide) (by decide)) (by decide) (by decide)
  obtain ⟨qP, eqP⟩ : ∃ z, kR κ so 0 = z := ⟨_, rfl⟩
  have tqP : zk σ0 qP 8 := by rw [← eqP]; exact hT.kr (hT.ref (hT.k tso (by decide)) (by decide) (by decide) (by decide)) (by decide) (by decide)
  obtain ⟨qO, eqO⟩ : ∃ z, kR κ so 1 = z := ⟨_, rfl⟩
  have tqO : zk σ0 qO 16 := by rw [← eqO]; exact hT.kr (hT.ref (hT.k tso (by decide)) (by decide) (by decide) (by decide)) (by decide) (by decide)
  obtain ⟨r5, er5⟩ : ∃ z, kR κ mm 5 = z := ⟨_, rfl⟩
  have tr5 : zk σ0 r5 25 := by rw [← er5]; exact hT.kr (hT.ref (hT.k t_mm (by decide)) (by decide) (by decide) (by decide)) (by decide) (by decide)
  obtain ⟨r6, er6⟩ : ∃ z, kR κ mm 6 = z := ⟨_, rfl⟩
  have tr6 : zk σ0 r6 26 := by rw [← er6]; exact hT.kr (hT.ref (hT.k t_mm (by decide)) (by decide) (by decide) (by decide)) (by decide) (by decide)
  obtain ⟨hnw, hsl⟩ := hsr
  obtain ⟨hd1, ⟨hd2, hd3⟩, hd4, hd5, hd6, hd7⟩ := hdis
  have d_nt : nw ≠ tr := by rw [← enw, ← etr]; exact hd2
  have d_n0 : nw ≠ sl0 := by rw [← enw, ← esl0, ← ers5]; exact hd3 0 (by decide)
  have d_t0 : sl0 ≠ tr := by rw [← etr, ← esl0, ← ers5]; exact fun q => hd4 0 (by decide) q.symm
  have d_n1 : nw ≠ sl1 := by rw [← enw, ← esl1, ← ers5]; exact hd3 1 (by decide)
  have d_t1 : sl1 ≠ tr := by rw [← etr, ← esl1, ← ers5]; exact fun q => hd4 1 (by decide) q.symm
  have d_01 : sl0 ≠ sl1 := by rw [← esl0, ← esl1, ← ers5]; exact hd5
  have knw : zk σ nw 3 := hT.k tnw (by decide)
  have ksl0 : zk σ sl0 3 := hT.k tsl0 (by decide)
  have ksl1 : zk σ sl1 3 := hT.k tsl1 (by decide)
  refine lv_aload_n hx hb dL_law_459 rfl (lv_at hl 3 rfl) ?_
  refine lv_aload_n hx hb dL_law_460 rfl (lv_at hl 4 rfl) ?_
  refine lv_iload hx hb dL_law_461 (lv_at hl 0 rfl) ?_
  refine lv_iconst (v := 1) hx hb dL_law_463 (by decide) ?_
  refine lv_iadd hx hb dL_law_464 ?_
  refine g_add (by omega) (by omega) (fun t1 ht1 => ?_)
  refine va_sld hx hb hXs hbl hbA hT.2.2.2 (g_in (by omega) (by omega)) dL_law_465 ?_
  refine ti y1 (by rw [hy1]; exact congrArg xs (show t1.toNatClampNeg = ix i + 1 from by show t1.toInt.toNat = ix i + 1; unfold ix; omega)) ?_
  refine lv_aload_n hx hb dL_law_466 rfl (lv_at hl 4 rfl) ?_
  refine lv_iload hx hb dL_law_467 (lv_at hl 0 rfl) ?_
  refine lv_iconst (v := 2) hx hb dL_law_469 (by decide) ?_
  refine lv_iadd hx hb dL_law_470 ?_
  refine g_add (by omega) (by omega) (fun t2 ht2 => ?_)
  refine va_sld hx hb hXs hbl hbA hT.2.2.2 (g_in (by omega) (by omega)) dL_law_471 ?_
  refine ti y2 (by rw [hy2]; exact congrArg xs (show t2.toNatClampNeg = ix i + 2 from by show t2.toInt.toNat = ix i + 2; unfold ix; omega)) ?_
  refine lv_if_eq (tgt := 479) hx hb dL_law_472 (by decide) (fun c9 => ?_) (fun c9 => ?_)
  · have c7 := gi_eq c9
    refine lv_iconst (v := 0) hx hb dL_law_479 (by decide) ?_
    refine lv_aload_n hx hb dL_law_480 rfl (lv_at hl 1 rfl) ?_
    have hTo := hT
    refine tHi (n := 4) (As := [.ref x, .int y1, .int 0, .ref out]) (rest := []) hx hb hml hown hg hT hK hX (L_neighbour l κ σ x y1 0 out (hT.k t_x (by decide)) (hT.k t_out (by decide)) isB0 hlt) sub_hfE_fA (mwHS k874 k875 k83 k876) ⟨by decide, by decide, by decide +kernel⟩ ⟨(Nat.le_of_ble_eq_true rfl), (Nat.le_of_ble_eq_true rfl)⟩ rfl hl.1 rfl (Nat.le_of_ble_eq_true rfl) dL_law_481 zx (fun r4 s3 H locs hφ hE hT => ?_)
    have R5 := hR.ext hE ⟨rfl, rfl, fun _ => rfl, fun _ => rfl, fun _ => rfl, fun _ => rfl⟩
    have a6 : (zI s3 tx 1).toInt = (zI σ tx 1).toInt := by rw [(hTo.k ttx (by decide)).eI hE (by decide) rfl]
    have j7 : zI s3 rB = zI σ rB := (show zI s3 rB = zI σ rB from funext fun k => (hTo.k trB (by decide)).eI hE (by decide) rfl)
    have j8 : zI s3 rT = zI σ rT := (show zI s3 rT = zI σ rT from funext fun k => (hTo.k trT (by decide)).eI hE (by decide) rfl)
    have j9 : zI s3 rI = zI σ rI := (show zI s3 rI = zI σ rI from funext fun k => (hTo.k trI (by decide)).eI hE (by decide) rfl)
    have j10 : zI s3 rK = zI σ rK := (show zI s3 rK = zI σ rK from funext fun k => (hTo.k trK (by decide)).eI hE (by decide) rfl)
    have j11 : zI s3 tx 2 = zI σ tx 2 := (hTo.k ttx (by decide)).eI hE (by decide) rfl
    have j12 : zI s3 tx 3 = zI σ tx 3 := (hTo.k ttx (by decide)).eI hE (by decide) rfl
    have j13 : zI s3 mm 15 = zI σ mm 15 := (hTo.k t_mm (by decide)).eI hE (by decide) rfl
    have j14 : zI s3 mm 16 = zI σ mm 16 := (hTo.k t_mm (by decide)).eI hE (by decide) rfl
    have n15 : zI s3 nw 7 = zI σ nw 7 ∧ zI s3 nw 8 = zI σ nw 8 ∧ zI s3 nw 9 = zI σ nw 9 := ⟨(hTo.k tnw (by decide)).eI hE (by decide) rfl, (hTo.k tnw (by decide)).eI hE (by decide) rfl, (hTo.k tnw (by decide)).eI hE (by decide) rfl⟩
    have n16 : zI s3 sl0 7 = zI σ sl0 7 ∧ zI s3 sl0 8 = zI σ sl0 8 ∧ zI s3 sl0 9 = zI σ sl0 9 := ⟨(hTo.k tsl0 (by decide)).eI hE (by decide) rfl, (hTo.k tsl0 (by decide)).eI hE (by decide) rfl, (hTo.k tsl0 (by decide)).eI hE (by decide) rfl⟩
    have n17 : zI s3 sl1 7 = zI σ sl1 7 ∧ zI s3 sl1 8 = zI σ sl1 8 ∧ zI s3 sl1 9 = zI σ sl1 9 := ⟨(hTo.k tsl1 (by decide)).eI hE (by decide) rfl, (hTo.k tsl1 (by decide)).eI hE (by decide) rfl, (hTo.k tsl1 (by decide)).eI hE (by decide) rfl⟩
    have n18 : ∀ j : Nat, j < 3 → zJ s3 rW j = zJ σ rW j := fun j hj => (hTo.k trW (by decide)).eJ hE (by decide) rfl
    have n19 : zJ s3 rS = zJ σ rS := (show zJ s3 rS = zJ σ rS from funext fun k => (hTo.k trS (by decide)).eJ hE (by decide) rfl)
    have z20 : zI s3 so 2 = zI σ so 2 ∧ zI s3 so 6 = zI σ so 6 ∧ zI s3 qP = zI σ qP ∧ zI s3 qO = zI σ qO := ⟨(hTo.k tso (by decide)).eI hE (by decide) rfl, (hTo.k tso (by decide)).eI hE (by decide) rfl, funext fun q9 => (hTo.k tqP (by decide)).eI hE (by decide) rfl, funext fun q9 => (hTo.k tqO (by decide)).eI hE (by decide) rfl⟩
    have z21 : zI s3 mm 7 = zI σ mm 7 ∧ zI s3 mm 8 = zI σ mm 8 ∧ zI s3 r5 = zI σ r5 ∧ zI s3 r6 = zI σ r6 := ⟨(hTo.k t_mm (by decide)).eI hE (by decide) rfl, (hTo.k t_mm (by decide)).eI hE (by decide) rfl, funext fun q9 => (hTo.k tr5 (by decide)).eI hE (by decide) rfl, funext fun q9 => (hTo.k tr6 (by decide)).eI hE (by decide) rfl⟩
    have a22 : (zI s3 mm 13).toInt = (zI σ mm 13).toInt := by rw [(hTo.k t_mm (by decide)).eI hE (by decide) rfl]
    refine lv_istore (lv' := [(5, .int r4), (4, .int i), (3, .ref out), (2, .ref mm), (1, .ref x), (0, .ref b)]) hx hb dL_law_484 hl (by decide) rfl (fun ls hl => ?_)
    refine lv_aload_n hx hb dL_law_486 rfl (lv_at hl 3 rfl) ?_
    refine lv_aload_n hx hb dL_law_487 rfl (lv_at hl 5 rfl) ?_
    refine lv_iload hx hb dL_law_488 (lv_at hl 1 rfl) ?_
    refine lv_iconst (v := 1) hx hb dL_law_490 (by decide) ?_
    refine lv_iadd hx hb dL_law_491 ?_
    refine g_add (by omega) (by omega) (fun t23 ht23 => ?_)
    refine va_sld hx hb hXs hbl hbA hT.2.2.2 (g_in (by omega) (by omega)) dL_law_492 ?_
    refine ti y1 (by rw [hy1]; exact congrArg xs (show t23.toNatClampNeg = ix i + 1 from by show t23.toInt.toNat = ix i + 1; unfold ix; omega)) ?_
    refine lv_aload_n hx hb dL_law_493 rfl (lv_at hl 5 rfl) ?_
    refine lv_iload hx hb dL_law_494 (lv_at hl 1 rfl) ?_
    refine lv_iconst (v := 2) hx hb dL_law_496 (by decide) ?_
    refine lv_iadd hx hb dL_law_497 ?_
    refine g_add (by omega) (by omega) (fun t24 ht24 => ?_)
    refine va_sld hx hb hXs hbl hbA hT.2.2.2 (g_in (by omega) (by omega)) dL_law_498 ?_
    refine ti y2 (by rw [hy2]; exact congrArg xs (show t24.toNatClampNeg = ix i + 2 from by show t24.toInt.toNat = ix i + 2; unfold ix; omega)) ?_
    refine lv_if_eq (tgt := 506) hx hb dL_law_499 (by decide) (fun c9 => ?_) (fun c9 => ?_)
    · have c7 := gi_eq c9
      refine lv_iconst (v := 0) hx hb dL_law_506 (by decide) ?_
      have hTo := hT
      refine tVi (n := 2) (As := [.int y1, .int 0]) (rest := []) hx hb hml hown hg hT hK hX (X6_neighbour l (kX κ) s3 mm y1 0 (hT.k t_mm (by decide)) isB0 R5) sub_gR_fA (mwV k1453 k1454 k1455 k92 k1456) ⟨rfl, by decide, by decide, by decide +kernel⟩ ⟨(Nat.le_of_ble_eq_true rfl), (Nat.le_of_ble_eq_true rfl)⟩ (hT.o20 (hT.k t_mm (by decide))) rfl rfl hl.1 rfl (Nat.le_of_ble_eq_true rfl) dL_law_507 zx (fun r26 s25 H locs hφ hE hT => ?_)
      have R27 := R5.ext hE ⟨rfl, rfl, fun _ => rfl, fun _ => rfl, fun _ => rfl, fun _ => rfl⟩
      have a28 : (zI s25 tx 1).toInt = (zI s3 tx 1).toInt := by rw [(hTo.k ttx (by decide)).eI hE (by decide) rfl]
      have j29 : zI s25 rB = zI σ rB := ((show zI s25 rB = zI s3 rB from funext fun k => (hTo.k trB (by decide)).eI hE (by decide) rfl)).trans j7
      have j30 : zI s25 rT = zI σ rT := ((show zI s25 rT = zI s3 rT from funext fun k => (hTo.k trT (by decide)).eI hE (by decide) rfl)).trans j8
      have j31 : zI s25 rI = zI σ rI := ((show zI s25 rI = zI s3 rI from funext fun k => (hTo.k trI (by decide)).eI hE (by decide) rfl)).trans j9
      have j32 : zI s25 rK = zI σ rK := ((show zI s25 rK = zI s3 rK from funext fun k => (hTo.k trK (by decide)).eI hE (by decide) rfl)).trans j10
      have j33 : zI s25 tx 2 = zI σ tx 2 := ((hTo.k ttx (by decide)).eI hE (by decide) rfl).trans j11
      have j34 : zI s25 tx 3 = zI σ tx 3 := ((hTo.k ttx (by decide)).eI hE (by decide) rfl).trans j12
      have j35 : zI s25 mm 15 = zI σ mm 15 := ((hTo.k t_mm (by decide)).eI hE (by decide) rfl).trans j13
      have j36 : zI s25 mm 16 = zI σ mm 16 := ((hTo.k t_mm (by decide)).eI hE (by decide) rfl).trans j14
      have n37 : zI s25 nw 7 = zI s3 nw 7 ∧ zI s25 nw 8 = zI s3 nw 8 ∧ zI s25 nw 9 = zI s3 nw 9 := ⟨(hTo.k tnw (by decide)).eI hE (by decide) rfl, (hTo.k tnw (by decide)).eI hE (by decide) rfl, (hTo.k tnw (by decide)).eI hE (by decide) rfl⟩
      have n38 : zI s25 nw 7 = zI σ nw 7 ∧ zI s25 nw 8 = zI σ nw 8 ∧ zI s25 nw 9 = zI σ nw 9 := ⟨n37.1.trans n15.1, n37.2.1.trans n15.2.1, n37.2.2.trans n15.2.2⟩
      have n39 : zI s25 sl0 7 = zI s3 sl0 7 ∧ zI s25 sl0 8 = zI s3 sl0 8 ∧ zI s25 sl0 9 = zI s3 sl0 9 := ⟨(hTo.k tsl0 (by decide)).eI hE (by decide) rfl, (hTo.k tsl0 (by decide)).eI hE (by decide) rfl, (hTo.k tsl0 (by decide)).eI hE (by decide) rfl⟩
      have n40 : zI s25 sl0 7 = zI σ sl0 7 ∧ zI s25 sl0 8 = zI σ sl0 8 ∧ zI s25 sl0 9 = zI σ sl0 9 := ⟨n39.1.trans n16.1, n39.2.1.trans n16.2.1, n39.2.2.trans n16.2.2⟩
      have n41 : zI s25 sl1 7 = zI s3 sl1 7 ∧ zI s25 sl1 8 = zI s3 sl1 8 ∧ zI s25 sl1 9 = zI s3 sl1 9 := ⟨(hTo.k tsl1 (by decide)).eI hE (by decide) rfl, (hTo.k tsl1 (by decide)).eI hE (by decide) rfl, (hTo.k tsl1 (by decide)).eI hE (by decide) rfl⟩
      have n42 : zI s25 sl1 7 = zI σ sl1 7 ∧ zI s25 sl1 8 = zI σ sl1 8 ∧ zI s25 sl1 9 = zI σ sl1 9 := ⟨n41.1.trans n17.1, n41.2.1.trans n17.2.1, n41.2.2.trans n17.2.2⟩
      have n43 : ∀ j : Nat, j < 3 → zJ s25 rW j = zJ s3 rW j := fun j hj => (hTo.k trW (by decide)).eJ hE (by decide) rfl
      have n44 : ∀ j : Nat, j < 3 → zJ s25 rW j = zJ σ rW j := fun j hj => (n43 j hj).trans (n18 j hj)
      have n45 : zJ s25 rS = zJ σ rS := (show zJ s25 rS = zJ s3 rS from funext fun k => (hTo.k trS (by decide)).eJ hE (by decide) rfl).trans n19
      have z46 : zI s25 so 2 = zI s3 so 2 ∧ zI s25 so 6 = zI s3 so 6 ∧ zI s25 qP = zI s3 qP ∧ zI s25 qO = zI s3 qO := ⟨(hTo.k tso (by decide)).eI hE (by decide) rfl, (hTo.k tso (by decide)).eI hE (by decide) rfl, funext fun q9 => (hTo.k tqP (by decide)).eI hE (by decide) rfl, funext fun q9 => (hTo.k tqO (by decide)).eI hE (by decide) rfl⟩
      have z47 : zI s25 so 2 = zI σ so 2 ∧ zI s25 so 6 = zI σ so 6 ∧ zI s25 qP = zI σ qP ∧ zI s25 qO = zI σ qO := ⟨z46.1.trans z20.1, z46.2.1.trans z20.2.1, z46.2.2.1.trans z20.2.2.1, z46.2.2.2.trans z20.2.2.2⟩
      have z48 : zI s25 mm 7 = zI s3 mm 7 ∧ zI s25 mm 8 = zI s3 mm 8 ∧ zI s25 r5 = zI s3 r5 ∧ zI s25 r6 = zI s3 r6 := ⟨(hTo.k t_mm (by decide)).eI hE (by decide) rfl, (hTo.k t_mm (by decide)).eI hE (by decide) rfl, funext fun q9 => (hTo.k tr5 (by decide)).eI hE (by decide) rfl, funext fun q9 => (hTo.k tr6 (by decide)).eI hE (by decide) rfl⟩
      have z49 : zI s25 mm 7 = zI σ mm 7 ∧ zI s25 mm 8 = zI σ mm 8 ∧ zI s25 r5 = zI σ r5 ∧ zI s25 r6 = zI σ r6 := ⟨z48.1.trans z21.1, z48.2.1.trans z21.2.1, z48.2.2.1.trans z21.2.2.1, z48.2.2.2.trans z21.2.2.2⟩
      have a50 : (zI s25 mm 13).toInt = (zI s3 mm 13).toInt := by rw [(hTo.k t_mm (by decide)).eI hE (by decide) rfl]
      refine lv_istore (lv' := [(6, .int r26), (5, .int r4), (4, .int i), (3, .ref out), (2, .ref mm), (1, .ref x), (0, .ref b)]) hx hb dL_law_510 hl (by decide) rfl (fun ls hl => ?_)
      refine lv_goto (tgt := 1432) hx hb dL_law_512 (by decide) ?_
      have sl0f : zI s25 rI 0 ≠ 0 → SLT κ s25 x mm 0 := fun hq => (hsl 0 (by decide) (fun q9 => hq (by rw [erI] at q9; rw [j31]; exact q9))).tr (by rw [ers5, esl0]; exact n40) (fun j hj => by rw [erS, n45])
      have sl1f : zI s25 rI 1 ≠ 0 → SLT κ s25 x mm 1 := fun hq => (hsl 1 (by decide) (fun q9 => hq (by rw [erI] at q9; rw [j31]; exact q9))).tr (by rw [ers5, esl1]; exact n42) (fun j hj => by rw [erS, n45])
      exact KK s25 _ _ _ hT R27 ⟨by rw [etx]; omega, ⟨by rw [etx, erB, erT, j29, j30]; exact tal_less hal (by omega), by rw [erT, j30]; exact tnn_less hnn (by omega)⟩, ⟨by rw [etx, j33, j35]; exact hco, by rw [etx, j34, j36]; exact hpo⟩, fun i hi => by rw [erI, erK, j31, j32]; exact hkp i hi⟩ (⟨hnw.tr (by rw [enw]; exact n38) (by rw [erW]; exact n44), fun i hi => (show i = 0 ∨ i = 1 by omega).elim (fun e9 => by rw [e9, erI]; exact sl0f) (fun e9 => by rw [e9, erI]; exact sl1f)⟩) (hsm.tr (by rw [eso, eqP, eqO]; exact z47) (by rw [er5, er6]; exact z49)) (lv_sub hl [2, 3, 4, 5, 6] rfl)
    · have c7 := gi_ne c9
      refine lv_iconst (v := 1) hx hb dL_law_502 (by decide) ?_
      refine lv_goto (tgt := 507) hx hb dL_law_503 (by decide) ?_
      have hTo := hT
      refine tVi (n := 2) (As := [.int y1, .int 1]) (rest := []) hx hb hml hown hg hT hK hX (X6_neighbour l (kX κ) s3 mm y1 1 (hT.k t_mm (by decide)) isB1 R5) sub_gR_fA (mwV k1453 k1454 k1455 k92 k1456) ⟨rfl, by decide, by decide, by decide +kernel⟩ ⟨(Nat.le_of_ble_eq_true rfl), (Nat.le_of_ble_eq_true rfl)⟩ (hT.o20 (hT.k t_mm (by decide))) rfl rfl hl.1 rfl (Nat.le_of_ble_eq_true rfl) dL_law_507 zx (fun r52 s51 H locs hφ hE hT => ?_)
      have R53 := R5.ext hE ⟨rfl, rfl, fun _ => rfl, fun _ => rfl, fun _ => rfl, fun _ => rfl⟩
      have a54 : (zI s51 tx 1).toInt = (zI s3 tx 1).toInt := by rw [(hTo.k ttx (by decide)).eI hE (by decide) rfl]
      have j55 : zI s51 rB = zI σ rB := ((show zI s51 rB = zI s3 rB from funext fun k => (hTo.k trB (by decide)).eI hE (by decide) rfl)).trans j7
      have j56 : zI s51 rT = zI σ rT := ((show zI s51 rT = zI s3 rT from funext fun k => (hTo.k trT (by decide)).eI hE (by decide) rfl)).trans j8
      have j57 : zI s51 rI = zI σ rI := ((show zI s51 rI = zI s3 rI from funext fun k => (hTo.k trI (by decide)).eI hE (by decide) rfl)).trans j9
      have j58 : zI s51 rK = zI σ rK := ((show zI s51 rK = zI s3 rK from funext fun k => (hTo.k trK (by decide)).eI hE (by decide) rfl)).trans j10
      have j59 : zI s51 tx 2 = zI σ tx 2 := ((hTo.k ttx (by decide)).eI hE (by decide) rfl).trans j11
      have j60 : zI s51 tx 3 = zI σ tx 3 := ((hTo.k ttx (by decide)).eI hE (by decide) rfl).trans j12
      have j61 : zI s51 mm 15 = zI σ mm 15 := ((hTo.k t_mm (by decide)).eI hE (by decide) rfl).trans j13
      have j62 : zI s51 mm 16 = zI σ mm 16 := ((hTo.k t_mm (by decide)).eI hE (by decide) rfl).trans j14
      have n63 : zI s51 nw 7 = zI s3 nw 7 ∧ zI s51 nw 8 = zI s3 nw 8 ∧ zI s51 nw 9 = zI s3 nw 9 := ⟨(hTo.k tnw (by decide)).eI hE (by decide) rfl, (hTo.k tnw (by decide)).eI hE (by decide) rfl, (hTo.k tnw (by decide)).eI hE (by decide) rfl⟩
      have n64 : zI s51 nw 7 = zI σ nw 7 ∧ zI s51 nw 8 = zI σ nw 8 ∧ zI s51 nw 9 = zI σ nw 9 := ⟨n63.1.trans n15.1, n63.2.1.trans n15.2.1, n63.2.2.trans n15.2.2⟩
      have n65 : zI s51 sl0 7 = zI s3 sl0 7 ∧ zI s51 sl0 8 = zI s3 sl0 8 ∧ zI s51 sl0 9 = zI s3 sl0 9 := ⟨(hTo.k tsl0 (by decide)).eI hE (by decide) rfl, (hTo.k tsl0 (by decide)).eI hE (by decide) rfl, (hTo.k tsl0 (by decide)).eI hE (by decide) rfl⟩
      have n66 : zI s51 sl0 7 = zI σ sl0 7 ∧ zI s51 sl0 8 = zI σ sl0 8 ∧ zI s51 sl0 9 = zI σ sl0 9 := ⟨n65.1.trans n16.1, n65.2.1.trans n16.2.1, n65.2.2.trans n16.2.2⟩
      have n67 : zI s51 sl1 7 = zI s3 sl1 7 ∧ zI s51 sl1 8 = zI s3 sl1 8 ∧ zI s51 sl1 9 = zI s3 sl1 9 := ⟨(hTo.k tsl1 (by decide)).eI hE (by decide) rfl, (hTo.k tsl1 (by decide)).eI hE (by decide) rfl, (hTo.k tsl1 (by decide)).eI hE (by decide) rfl⟩
      have n68 : zI s51 sl1 7 = zI σ sl1 7 ∧ zI s51 sl1 8 = zI σ sl1 8 ∧ zI s51 sl1 9 = zI σ sl1 9 := ⟨n67.1.trans n17.1, n67.2.1.trans n17.2.1, n67.2.2.trans n17.2.2⟩
      have n69 : ∀ j : Nat, j < 3 → zJ s51 rW j = zJ s3 rW j := fun j hj => (hTo.k trW (by decide)).eJ hE (by decide) rfl
      have n70 : ∀ j : Nat, j < 3 → zJ s51 rW j = zJ σ rW j := fun j hj => (n69 j hj).trans (n18 j hj)
      have n71 : zJ s51 rS = zJ σ rS := (show zJ s51 rS = zJ s3 rS from funext fun k => (hTo.k trS (by decide)).eJ hE (by decide) rfl).trans n19
      have z72 : zI s51 so 2 = zI s3 so 2 ∧ zI s51 so 6 = zI s3 so 6 ∧ zI s51 qP = zI s3 qP ∧ zI s51 qO = zI s3 qO := ⟨(hTo.k tso (by decide)).eI hE (by decide) rfl, (hTo.k tso (by decide)).eI hE (by decide) rfl, funext fun q9 => (hTo.k tqP (by decide)).eI hE (by decide) rfl, funext fun q9 => (hTo.k tqO (by decide)).eI hE (by decide) rfl⟩
      have z73 : zI s51 so 2 = zI σ so 2 ∧ zI s51 so 6 = zI σ so 6 ∧ zI s51 qP = zI σ qP ∧ zI s51 qO = zI σ qO := ⟨z72.1.trans z20.1, z72.2.1.trans z20.2.1, z72.2.2.1.trans z20.2.2.1, z72.2.2.2.trans z20.2.2.2⟩
      have z74 : zI s51 mm 7 = zI s3 mm 7 ∧ zI s51 mm 8 = zI s3 mm 8 ∧ zI s51 r5 = zI s3 r5 ∧ zI s51 r6 = zI s3 r6 := ⟨(hTo.k t_mm (by decide)).eI hE (by decide) rfl, (hTo.k t_mm (by decide)).eI hE (by decide) rfl, funext fun q9 => (hTo.k tr5 (by decide)).eI hE (by decide) rfl, funext fun q9 => (hTo.k tr6 (by decide)).eI hE (by decide) rfl⟩
      have z75 : zI s51 mm 7 = zI σ mm 7 ∧ zI s51 mm 8 = zI σ mm 8 ∧ zI s51 r5 = zI σ r5 ∧ zI s51 r6 = zI σ r6 := ⟨z74.1.trans z21.1, z74.2.1.trans z21.2.1, z74.2.2.1.trans z21.2.2.1, z74.2.2.2.trans z21.2.2.2⟩
      have a76 : (zI s51 mm 13).toInt = (zI s3 mm 13).toInt := by rw [(hTo.k t_mm (by decide)).eI hE (by decide) rfl]
      refine lv_istore (lv' := [(6, .int r52), (5, .int r4), (4, .int i), (3, .ref out), (2, .ref mm), (1, .ref x), (0, .ref b)]) hx hb dL_law_510 hl (by decide) rfl (fun ls hl => ?_)
      refine lv_goto (tgt := 1432) hx hb dL_law_512 (by decide) ?_
      have sl0f : zI s51 rI 0 ≠ 0 → SLT κ s51 x mm 0 := fun hq => (hsl 0 (by decide) (fun q9 => hq (by rw [erI] at q9; rw [j57]; exact q9))).tr (by rw [ers5, esl0]; exact n66) (fun j hj => by rw [erS, n71])
      have sl1f : zI s51 rI 1 ≠ 0 → SLT κ s51 x mm 1 := fun hq => (hsl 1 (by decide) (fun q9 => hq (by rw [erI] at q9; rw [j57]; exact q9))).tr (by rw [ers5, esl1]; exact n68) (fun j hj => by rw [erS, n71])
      exact KK s51 _ _ _ hT R53 ⟨by rw [etx]; omega, ⟨by rw [etx, erB, erT, j55, j56]; exact tal_less hal (by omega), by rw [erT, j56]; exact tnn_less hnn (by omega)⟩, ⟨by rw [etx, j59, j61]; exact hco, by rw [etx, j60, j62]; exact hpo⟩, fun i hi => by rw [erI, erK, j57, j58]; exact hkp i hi⟩ (⟨hnw.tr (by rw [enw]; exact n64) (by rw [erW]; exact n70), fun i hi => (show i = 0 ∨ i = 1 by omega).elim (fun e9 => by rw [e9, erI]; exact sl0f) (fun e9 => by rw [e9, erI]; exact sl1f)⟩) (hsm.tr (by rw [eso, eqP, eqO]; exact z73) (by rw [er5, er6]; exact z75)) (lv_sub hl [2, 3, 4, 5, 6] rfl)
  · have c7 := gi_ne c9
    refine lv_iconst (v := 1) hx hb dL_law_475 (by decide) ?_
    refine lv_goto (tgt := 480) hx hb dL_law_476 (by decide) ?_
    refine lv_aload_n hx hb dL_law_480 rfl (lv_at hl 1 rfl) ?_
    have hTo := hT
    refine tHi (n := 4) (As := [.ref x, .int y1, .int 1, .ref out]) (rest := []) hx hb hml hown hg hT hK hX (L_neighbour l κ σ x y1 1 out (hT.k t_x (by decide)) (hT.k t_out (by decide)) isB1 hlt) sub_hfE_fA (mwHS k874 k875 k83 k876) ⟨by decide, by decide, by decide +kernel⟩ ⟨(Nat.le_of_ble_eq_true rfl), (Nat.le_of_ble_eq_true rfl)⟩ rfl hl.1 rfl (Nat.le_of_ble_eq_true rfl) dL_law_481 zx (fun r78 s77 H locs hφ hE hT => ?_)
    have R79 := hR.ext hE ⟨rfl, rfl, fun _ => rfl, fun _ => rfl, fun _ => rfl, fun _ => rfl⟩
    have a80 : (zI s77 tx 1).toInt = (zI σ tx 1).toInt := by rw [(hTo.k ttx (by decide)).eI hE (by decide) rfl]
    have j81 : zI s77 rB = zI σ rB := (show zI s77 rB = zI σ rB from funext fun k => (hTo.k trB (by decide)).eI hE (by decide) rfl)
    have j82 : zI s77 rT = zI σ rT := (show zI s77 rT = zI σ rT from funext fun k => (hTo.k trT (by decide)).eI hE (by decide) rfl)
    have j83 : zI s77 rI = zI σ rI := (show zI s77 rI = zI σ rI from funext fun k => (hTo.k trI (by decide)).eI hE (by decide) rfl)
    have j84 : zI s77 rK = zI σ rK := (show zI s77 rK = zI σ rK from funext fun k => (hTo.k trK (by decide)).eI hE (by decide) rfl)
    have j85 : zI s77 tx 2 = zI σ tx 2 := (hTo.k ttx (by decide)).eI hE (by decide) rfl
    have j86 : zI s77 tx 3 = zI σ tx 3 := (hTo.k ttx (by decide)).eI hE (by decide) rfl
    have j87 : zI s77 mm 15 = zI σ mm 15 := (hTo.k t_mm (by decide)).eI hE (by decide) rfl
    have j88 : zI s77 mm 16 = zI σ mm 16 := (hTo.k t_mm (by decide)).eI hE (by decide) rfl
    have n89 : zI s77 nw 7 = zI σ nw 7 ∧ zI s77 nw 8 = zI σ nw 8 ∧ zI s77 nw 9 = zI σ nw 9 := ⟨(hTo.k tnw (by decide)).eI hE (by decide) rfl, (hTo.k tnw (by decide)).eI hE (by decide) rfl, (hTo.k tnw (by decide)).eI hE (by decide) rfl⟩
    have n90 : zI s77 sl0 7 = zI σ sl0 7 ∧ zI s77 sl0 8 = zI σ sl0 8 ∧ zI s77 sl0 9 = zI σ sl0 9 := ⟨(hTo.k tsl0 (by decide)).eI hE (by decide) rfl, (hTo.k tsl0 (by decide)).eI hE (by decide) rfl, (hTo.k tsl0 (by decide)).eI hE (by decide) rfl⟩
    have n91 : zI s77 sl1 7 = zI σ sl1 7 ∧ zI s77 sl1 8 = zI σ sl1 8 ∧ zI s77 sl1 9 = zI σ sl1 9 := ⟨(hTo.k tsl1 (by decide)).eI hE (by decide) rfl, (hTo.k tsl1 (by decide)).eI hE (by decide) rfl, (hTo.k tsl1 (by decide)).eI hE (by decide) rfl⟩
    have n92 : ∀ j : Nat, j < 3 → zJ s77 rW j = zJ σ rW j := fun j hj => (hTo.k trW (by decide)).eJ hE (by decide) rfl
    have n93 : zJ s77 rS = zJ σ rS := (show zJ s77 rS = zJ σ rS from funext fun k => (hTo.k trS (by decide)).eJ hE (by decide) rfl)
    have z94 : zI s77 so 2 = zI σ so 2 ∧ zI s77 so 6 = zI σ so 6 ∧ zI s77 qP = zI σ qP ∧ zI s77 qO = zI σ qO := ⟨(hTo.k tso (by decide)).eI hE (by decide) rfl, (hTo.k tso (by decide)).eI hE (by decide) rfl, funext fun q9 => (hTo.k tqP (by decide)).eI hE (by decide) rfl, funext fun q9 => (hTo.k tqO (by decide)).eI hE (by decide) rfl⟩
    have z95 : zI s77 mm 7 = zI σ mm 7 ∧ zI s77 mm 8 = zI σ mm 8 ∧ zI s77 r5 = zI σ r5 ∧ zI s77 r6 = zI σ r6 := ⟨(hTo.k t_mm (by decide)).eI hE (by decide) rfl, (hTo.k t_mm (by decide)).eI hE (by decide) rfl, funext fun q9 => (hTo.k tr5 (by decide)).eI hE (by decide) rfl, funext fun q9 => (hTo.k tr6 (by decide)).eI hE (by decide) rfl⟩
    have a96 : (zI s77 mm 13).toInt = (zI σ mm 13).toInt := by rw [(hTo.k t_mm (by decide)).eI hE (by decide) rfl]
    refine lv_istore (lv' := [(5, .int r78), (4, .int i), (3, .ref out), (2, .ref mm), (1, .ref x), (0, .ref b)]) hx hb dL_law_484 hl (by decide) rfl (fun ls hl => ?_)
    refine lv_aload_n hx hb dL_law_486 rfl (lv_at hl 3 rfl) ?_
    refine lv_aload_n hx hb dL_law_487 rfl (lv_at hl 5 rfl) ?_
    refine lv_iload hx hb dL_law_488 (lv_at hl 1 rfl) ?_
    refine lv_iconst (v := 1) hx hb dL_law_490 (by decide) ?_
    refine lv_iadd hx hb dL_law_491 ?_
    refine g_add (by omega) (by omega) (fun t97 ht97 => ?_)
    refine va_sld hx hb hXs hbl hbA hT.2.2.2 (g_in (by omega) (by omega)) dL_law_492 ?_
    refine ti y1 (by rw [hy1]; exact congrArg xs (show t97.toNatClampNeg = ix i + 1 from by show t97.toInt.toNat = ix i + 1; unfold ix; omega)) ?_
    refine lv_aload_n hx hb dL_law_493 rfl (lv_at hl 5 rfl) ?_
    refine lv_iload hx hb dL_law_494 (lv_at hl 1 rfl) ?_
    refine lv_iconst (v := 2) hx hb dL_law_496 (by decide) ?_
    refine lv_iadd hx hb dL_law_497 ?_
    refine g_add (by omega) (by omega) (fun t98 ht98 => ?_)
    refine va_sld hx hb hXs hbl hbA hT.2.2.2 (g_in (by omega) (by omega)) dL_law_498 ?_
    refine ti y2 (by rw [hy2]; exact congrArg xs (show t98.toNatClampNeg = ix i + 2 from by show t98.toInt.toNat = ix i + 2; unfold ix; omega)) ?_
    refine lv_if_eq (tgt := 506) hx hb dL_law_499 (by decide) (fun c9 => ?_) (fun c9 => ?_)
    · have c7 := gi_eq c9
      refine lv_iconst (v := 0) hx hb dL_law_506 (by decide) ?_
      have hTo := hT
      refine tVi (n := 2) (As := [.int y1, .int 0]) (rest := []) hx hb hml hown hg hT hK hX (X6_neighbour l (kX κ) s77 mm y1 0 (hT.k t_mm (by decide)) isB0 R79) sub_gR_fA (mwV k1453 k1454 k1455 k92 k1456) ⟨rfl, by decide, by decide, by decide +kernel⟩ ⟨(Nat.le_of_ble_eq_true rfl), (Nat.le_of_ble_eq_true rfl)⟩ (hT.o20 (hT.k t_mm (by decide))) rfl rfl hl.1 rfl (Nat.le_of_ble_eq_true rfl) dL_law_507 zx (fun r100 s99 H locs hφ hE hT => ?_)
      have R101 := R79.ext hE ⟨rfl, rfl, fun _ => rfl, fun _ => rfl, fun _ => rfl, fun _ => rfl⟩
      have a102 : (zI s99 tx 1).toInt = (zI s77 tx 1).toInt := by rw [(hTo.k ttx (by decide)).eI hE (by decide) rfl]
      have j103 : zI s99 rB = zI σ rB := ((show zI s99 rB = zI s77 rB from funext fun k => (hTo.k trB (by decide)).eI hE (by decide) rfl)).trans j81
      have j104 : zI s99 rT = zI σ rT := ((show zI s99 rT = zI s77 rT from funext fun k => (hTo.k trT (by decide)).eI hE (by decide) rfl)).trans j82
      have j105 : zI s99 rI = zI σ rI := ((show zI s99 rI = zI s77 rI from funext fun k => (hTo.k trI (by decide)).eI hE (by decide) rfl)).trans j83
      have j106 : zI s99 rK = zI σ rK := ((show zI s99 rK = zI s77 rK from funext fun k => (hTo.k trK (by decide)).eI hE (by decide) rfl)).trans j84
      have j107 : zI s99 tx 2 = zI σ tx 2 := ((hTo.k ttx (by decide)).eI hE (by decide) rfl).trans j85
      have j108 : zI s99 tx 3 = zI σ tx 3 := ((hTo.k ttx (by decide)).eI hE (by decide) rfl).trans j86
      have j109 : zI s99 mm 15 = zI σ mm 15 := ((hTo.k t_mm (by decide)).eI hE (by decide) rfl).trans j87
      have j110 : zI s99 mm 16 = zI σ mm 16 := ((hTo.k t_mm (by decide)).eI hE (by decide) rfl).trans j88
      have n111 : zI s99 nw 7 = zI s77 nw 7 ∧ zI s99 nw 8 = zI s77 nw 8 ∧ zI s99 nw 9 = zI s77 nw 9 := ⟨(hTo.k tnw (by decide)).eI hE (by decide) rfl, (hTo.k tnw (by decide)).eI hE (by decide) rfl, (hTo.k tnw (by decide)).eI hE (by decide) rfl⟩
      have n112 : zI s99 nw 7 = zI σ nw 7 ∧ zI s99 nw 8 = zI σ nw 8 ∧ zI s99 nw 9 = zI σ nw 9 := ⟨n111.1.trans n89.1, n111.2.1.trans n89.2.1, n111.2.2.trans n89.2.2⟩
      have n113 : zI s99 sl0 7 = zI s77 sl0 7 ∧ zI s99 sl0 8 = zI s77 sl0 8 ∧ zI s99 sl0 9 = zI s77 sl0 9 := ⟨(hTo.k tsl0 (by decide)).eI hE (by decide) rfl, (hTo.k tsl0 (by decide)).eI hE (by decide) rfl, (hTo.k tsl0 (by decide)).eI hE (by decide) rfl⟩
      have n114 : zI s99 sl0 7 = zI σ sl0 7 ∧ zI s99 sl0 8 = zI σ sl0 8 ∧ zI s99 sl0 9 = zI σ sl0 9 := ⟨n113.1.trans n90.1, n113.2.1.trans n90.2.1, n113.2.2.trans n90.2.2⟩
      have n115 : zI s99 sl1 7 = zI s77 sl1 7 ∧ zI s99 sl1 8 = zI s77 sl1 8 ∧ zI s99 sl1 9 = zI s77 sl1 9 := ⟨(hTo.k tsl1 (by decide)).eI hE (by decide) rfl, (hTo.k tsl1 (by decide)).eI hE (by decide) rfl, (hTo.k tsl1 (by decide)).eI hE (by decide) rfl⟩
      have n116 : zI s99 sl1 7 = zI σ sl1 7 ∧ zI s99 sl1 8 = zI σ sl1 8 ∧ zI s99 sl1 9 = zI σ sl1 9 := ⟨n115.1.trans n91.1, n115.2.1.trans n91.2.1, n115.2.2.trans n91.2.2⟩
      have n117 : ∀ j : Nat, j < 3 → zJ s99 rW j = zJ s77 rW j := fun j hj => (hTo.k trW (by decide)).eJ hE (by decide) rfl
      have n118 : ∀ j : Nat, j < 3 → zJ s99 rW j = zJ σ rW j := fun j hj => (n117 j hj).trans (n92 j hj)
      have n119 : zJ s99 rS = zJ σ rS := (show zJ s99 rS = zJ s77 rS from funext fun k => (hTo.k trS (by decide)).eJ hE (by decide) rfl).trans n93
      have z120 : zI s99 so 2 = zI s77 so 2 ∧ zI s99 so 6 = zI s77 so 6 ∧ zI s99 qP = zI s77 qP ∧ zI s99 qO = zI s77 qO := ⟨(hTo.k tso (by decide)).eI hE (by decide) rfl, (hTo.k tso (by decide)).eI hE (by decide) rfl, funext fun q9 => (hTo.k tqP (by decide)).eI hE (by decide) rfl, funext fun q9 => (hTo.k tqO (by decide)).eI hE (by decide) rfl⟩
      have z121 : zI s99 so 2 = zI σ so 2 ∧ zI s99 so 6 = zI σ so 6 ∧ zI s99 qP = zI σ qP ∧ zI s99 qO = zI σ qO := ⟨z120.1.trans z94.1, z120.2.1.trans z94.2.1, z120.2.2.1.trans z94.2.2.1, z120.2.2.2.trans z94.2.2.2⟩
      have z122 : zI s99 mm 7 = zI s77 mm 7 ∧ zI s99 mm 8 = zI s77 mm 8 ∧ zI s99 r5 = zI s77 r5 ∧ zI s99 r6 = zI s77 r6 := ⟨(hTo.k t_mm (by decide)).eI hE (by decide) rfl, (hTo.k t_mm (by decide)).eI hE (by decide) rfl, funext fun q9 => (hTo.k tr5 (by decide)).eI hE (by decide) rfl, funext fun q9 => (hTo.k tr6 (by decide)).eI hE (by decide) rfl⟩
      have z123 : zI s99 mm 7 = zI σ mm 7 ∧ zI s99 mm 8 = zI σ mm 8 ∧ zI s99 r5 = zI σ r5 ∧ zI s99 r6 = zI σ r6 := ⟨z122.1.trans z95.1, z122.2.1.trans z95.2.1, z122.2.2.1.trans z95.2.2.1, z122.2.2.2.trans z95.2.2.2⟩
      have a124 : (zI s99 mm 13).toInt = (zI s77 mm 13).toInt := by rw [(hTo.k t_mm (by decide)).eI hE (by decide) rfl]
      refine lv_istore (lv' := [(6, .int r100), (5, .int r78), (4, .int i), (3, .ref out), (2, .ref mm), (1, .ref x), (0, .ref b)]) hx hb dL_law_510 hl (by decide) rfl (fun ls hl => ?_)
      refine lv_goto (tgt := 1432) hx hb dL_law_512 (by decide) ?_
      have sl0f : zI s99 rI 0 ≠ 0 → SLT κ s99 x mm 0 := fun hq => (hsl 0 (by decide) (fun q9 => hq (by rw [erI] at q9; rw [j105]; exact q9))).tr (by rw [ers5, esl0]; exact n114) (fun j hj => by rw [erS, n119])
      have sl1f : zI s99 rI 1 ≠ 0 → SLT κ s99 x mm 1 := fun hq => (hsl 1 (by decide) (fun q9 => hq (by rw [erI] at q9; rw [j105]; exact q9))).tr (by rw [ers5, esl1]; exact n116) (fun j hj => by rw [erS, n119])
      exact KK s99 _ _ _ hT R101 ⟨by rw [etx]; omega, ⟨by rw [etx, erB, erT, j103, j104]; exact tal_less hal (by omega), by rw [erT, j104]; exact tnn_less hnn (by omega)⟩, ⟨by rw [etx, j107, j109]; exact hco, by rw [etx, j108, j110]; exact hpo⟩, fun i hi => by rw [erI, erK, j105, j106]; exact hkp i hi⟩ (⟨hnw.tr (by rw [enw]; exact n112) (by rw [erW]; exact n118), fun i hi => (show i = 0 ∨ i = 1 by omega).elim (fun e9 => by rw [e9, erI]; exact sl0f) (fun e9 => by rw [e9, erI]; exact sl1f)⟩) (hsm.tr (by rw [eso, eqP, eqO]; exact z121) (by rw [er5, er6]; exact z123)) (lv_sub hl [2, 3, 4, 5, 6] rfl)
    · have c7 := gi_ne c9
      refine lv_iconst (v := 1) hx hb dL_law_502 (by decide) ?_
      refine lv_goto (tgt := 507) hx hb dL_law_503 (by decide) ?_
      have hTo := hT
      refine tVi (n := 2) (As := [.int y1, .int 1]) (rest := []) hx hb hml hown hg hT hK hX (X6_neighbour l (kX κ) s77 mm y1 1 (hT.k t_mm (by decide)) isB1 R79) sub_gR_fA (mwV k1453 k1454 k1455 k92 k1456) ⟨rfl, by decide, by decide, by decide +kernel⟩ ⟨(Nat.le_of_ble_eq_true rfl), (Nat.le_of_ble_eq_true rfl)⟩ (hT.o20 (hT.k t_mm (by decide))) rfl rfl hl.1 rfl (Nat.le_of_ble_eq_true rfl) dL_law_507 zx (fun r126 s125 H locs hφ hE hT => ?_)
      have R127 := R79.ext hE ⟨rfl, rfl, fun _ => rfl, fun _ => rfl, fun _ => rfl, fun _ => rfl⟩
      have a128 : (zI s125 tx 1).toInt = (zI s77 tx 1).toInt := by rw [(hTo.k ttx (by decide)).eI hE (by decide) rfl]
      have j129 : zI s125 rB = zI σ rB := ((show zI s125 rB = zI s77 rB from funext fun k => (hTo.k trB (by decide)).eI hE (by decide) rfl)).trans j81
      have j130 : zI s125 rT = zI σ rT := ((show zI s125 rT = zI s77 rT from funext fun k => (hTo.k trT (by decide)).eI hE (by decide) rfl)).trans j82
      have j131 : zI s125 rI = zI σ rI := ((show zI s125 rI = zI s77 rI from funext fun k => (hTo.k trI (by decide)).eI hE (by decide) rfl)).trans j83
      have j132 : zI s125 rK = zI σ rK := ((show zI s125 rK = zI s77 rK from funext fun k => (hTo.k trK (by decide)).eI hE (by decide) rfl)).trans j84
      have j133 : zI s125 tx 2 = zI σ tx 2 := ((hTo.k ttx (by decide)).eI hE (by decide) rfl).trans j85
      have j134 : zI s125 tx 3 = zI σ tx 3 := ((hTo.k ttx (by decide)).eI hE (by decide) rfl).trans j86
      have j135 : zI s125 mm 15 = zI σ mm 15 := ((hTo.k t_mm (by decide)).eI hE (by decide) rfl).trans j87
      have j136 : zI s125 mm 16 = zI σ mm 16 := ((hTo.k t_mm (by decide)).eI hE (by decide) rfl).trans j88
      have n137 : zI s125 nw 7 = zI s77 nw 7 ∧ zI s125 nw 8 = zI s77 nw 8 ∧ zI s125 nw 9 = zI s77 nw 9 := ⟨(hTo.k tnw (by decide)).eI hE (by decide) rfl, (hTo.k tnw (by decide)).eI hE (by decide) rfl, (hTo.k tnw (by decide)).eI hE (by decide) rfl⟩
      have n138 : zI s125 nw 7 = zI σ nw 7 ∧ zI s125 nw 8 = zI σ nw 8 ∧ zI s125 nw 9 = zI σ nw 9 := ⟨n137.1.trans n89.1, n137.2.1.trans n89.2.1, n137.2.2.trans n89.2.2⟩
      have n139 : zI s125 sl0 7 = zI s77 sl0 7 ∧ zI s125 sl0 8 = zI s77 sl0 8 ∧ zI s125 sl0 9 = zI s77 sl0 9 := ⟨(hTo.k tsl0 (by decide)).eI hE (by decide) rfl, (hTo.k tsl0 (by decide)).eI hE (by decide) rfl, (hTo.k tsl0 (by decide)).eI hE (by decide) rfl⟩
      have n140 : zI s125 sl0 7 = zI σ sl0 7 ∧ zI s125 sl0 8 = zI σ sl0 8 ∧ zI s125 sl0 9 = zI σ sl0 9 := ⟨n139.1.trans n90.1, n139.2.1.trans n90.2.1, n139.2.2.trans n90.2.2⟩
      have n141 : zI s125 sl1 7 = zI s77 sl1 7 ∧ zI s125 sl1 8 = zI s77 sl1 8 ∧ zI s125 sl1 9 = zI s77 sl1 9 := ⟨(hTo.k tsl1 (by decide)).eI hE (by decide) rfl, (hTo.k tsl1 (by decide)).eI hE (by decide) rfl, (hTo.k tsl1 (by decide)).eI hE (by decide) rfl⟩
      have n142 : zI s125 sl1 7 = zI σ sl1 7 ∧ zI s125 sl1 8 = zI σ sl1 8 ∧ zI s125 sl1 9 = zI σ sl1 9 := ⟨n141.1.trans n91.1, n141.2.1.trans n91.2.1, n141.2.2.trans n91.2.2⟩
      have n143 : ∀ j : Nat, j < 3 → zJ s125 rW j = zJ s77 rW j := fun j hj => (hTo.k trW (by decide)).eJ hE (by decide) rfl
      have n144 : ∀ j : Nat, j < 3 → zJ s125 rW j = zJ σ rW j := fun j hj => (n143 j hj).trans (n92 j hj)
      have n145 : zJ s125 rS = zJ σ rS := (show zJ s125 rS = zJ s77 rS from funext fun k => (hTo.k trS (by decide)).eJ hE (by decide) rfl).trans n93
      have z146 : zI s125 so 2 = zI s77 so 2 ∧ zI s125 so 6 = zI s77 so 6 ∧ zI s125 qP = zI s77 qP ∧ zI s125 qO = zI s77 qO := ⟨(hTo.k tso (by decide)).eI hE (by decide) rfl, (hTo.k tso (by decide)).eI hE (by decide) rfl, funext fun q9 => (hTo.k tqP (by decide)).eI hE (by decide) rfl, funext fun q9 => (hTo.k tqO (by decide)).eI hE (by decide) rfl⟩
      have z147 : zI s125 so 2 = zI σ so 2 ∧ zI s125 so 6 = zI σ so 6 ∧ zI s125 qP = zI σ qP ∧ zI s125 qO = zI σ qO := ⟨z146.1.trans z94.1, z146.2.1.trans z94.2.1, z146.2.2.1.trans z94.2.2.1, z146.2.2.2.trans z94.2.2.2⟩
      have z148 : zI s125 mm 7 = zI s77 mm 7 ∧ zI s125 mm 8 = zI s77 mm 8 ∧ zI s125 r5 = zI s77 r5 ∧ zI s125 r6 = zI s77 r6 := ⟨(hTo.k t_mm (by decide)).eI hE (by decide) rfl, (hTo.k t_mm (by decide)).eI hE (by decide) rfl, funext fun q9 => (hTo.k tr5 (by decide)).eI hE (by decide) rfl, funext fun q9 => (hTo.k tr6 (by decide)).eI hE (by decide) rfl⟩
      have z149 : zI s125 mm 7 = zI σ mm 7 ∧ zI s125 mm 8 = zI σ mm 8 ∧ zI s125 r5 = zI σ r5 ∧ zI s125 r6 = zI σ r6 := ⟨z148.1.trans z95.1, z148.2.1.trans z95.2.1, z148.2.2.1.trans z95.2.2.1, z148.2.2.2.trans z95.2.2.2⟩
      have a150 : (zI s125 mm 13).toInt = (zI s77 mm 13).toInt := by rw [(hTo.k t_mm (by decide)).eI hE (by decide) rfl]
      refine lv_istore (lv' := [(6, .int r126), (5, .int r78), (4, .int i), (3, .ref out), (2, .ref mm), (1, .ref x), (0, .ref b)]) hx hb dL_law_510 hl (by decide) rfl (fun ls hl => ?_)
      refine lv_goto (tgt := 1432) hx hb dL_law_512 (by decide) ?_
      have sl0f : zI s125 rI 0 ≠ 0 → SLT κ s125 x mm 0 := fun hq => (hsl 0 (by decide) (fun q9 => hq (by rw [erI] at q9; rw [j131]; exact q9))).tr (by rw [ers5, esl0]; exact n140) (fun j hj => by rw [erS, n145])
      have sl1f : zI s125 rI 1 ≠ 0 → SLT κ s125 x mm 1 := fun hq => (hsl 1 (by decide) (fun q9 => hq (by rw [erI] at q9; rw [j131]; exact q9))).tr (by rw [ers5, esl1]; exact n142) (fun j hj => by rw [erS, n145])
      exact KK s125 _ _ _ hT R127 ⟨by rw [etx]; omega, ⟨by rw [etx, erB, erT, j129, j130]; exact tal_less hal (by omega), by rw [erT, j130]; exact tnn_less hnn (by omega)⟩, ⟨by rw [etx, j133, j135]; exact hco, by rw [etx, j134, j136]; exact hpo⟩, fun i hi => by rw [erI, erK, j131, j132]; exact hkp i hi⟩ (⟨hnw.tr (by rw [enw]; exact n138) (by rw [erW]; exact n144), fun i hi => (show i = 0 ∨ i = 1 by omega).elim (fun e9 => by rw [e9, erI]; exact sl0f) (fun e9 => by rw [e9, erI]; exact sl1f)⟩) (hsm.tr (by rw [eso, eqP, eqO]; exact z147) (by rw [er5, er6]; exact z149)) (lv_sub hl [2, 3, 4, 5, 6] rfl)
set_option maxHeartbeats 4000000 in
set_option maxRecDepth 100000 in
theorem lc_9 (l : Launch) (κ : Kt) (σ0 : Gh) (x mm out b : Nat) (t_x : zk σ0 x 7) (t_mm : zk σ0 mm 20) (t_out : zk σ0 out 24) (ttx0 : zk σ0 (kR κ x 0) 6) (hdis : DIS κ x) (hlt : l.stackTraces = false) {p : Program} {e : Env} {s : State} {m : MethodId} {below : List Frame} {meth : Method} {c : Code} {L : Nat} {xs : Nat → Int32} {i : Int32} {Q9 : State → Prop} (hx : p.tables.exec = Jvm.exec) (hb : c.code = cL_law) (hml : c.maxLocals = 9) (hown : s.vm.findClass RL = some m.cls) (hg : ∀ w ∈ GW, w.before #[Value.ref b] s = true) (hK : va_K κ.1 vwCl (kTy κ) s) (hX : XY κ (tA σ0 s.heap.size) s s.heap) (hXs : va_X b L xs s s.heap) (hbl : b < s.heap.size) (hbA : ¬ tA σ0 s.heap.size b) (zx : zroomX κ s room_1 601024 7293034) (hi0 : 0 ≤ i.toInt) (hi1 : i.toInt + 6 ≤ L) (hL9 : L ≤ 3072) {σ : Gh} {H : Heap} {locs : List Loc} {ls : Array Slot} (hT : TS κ fA σ0 σ s H locs) (hR : RI κ σ mm) (hrel : LREL κ σ x mm) (hsr : SREL κ σ x mm) (hsm : SMP κ σ x mm) (hl : lv_has ls 9 [(4, .int i), (3, .ref out), (2, .ref mm), (1, .ref x), (0, .ref b)]) (KK : ∀ (σ1 : Gh) (H : Heap) (locs : List Loc) (ls : Array Slot), TS (kX κ) fA σ0 σ1 s H locs → RI (kX κ) σ1 mm → LREL κ σ1 x mm → SREL κ σ1 x mm → SMP κ σ1 x mm → lv_has ls 9 [(4, .int i), (3, .ref out), (2, .ref mm), (1, .ref x), (0, .ref b)] → W p l e room_1 s m #[Value.ref b] below meth c H locs 601024 7293034 Q9 (F0 m 1432 ls [])) : W p l e room_1 s m #[Value.ref b] below meth c H locs 601024 7293034 Q9 (F0 m 515 ls []) := by
  obtain ⟨y1, hy1⟩ : ∃ z, z = xs (ix i + 1) := ⟨_, rfl⟩
  obtain ⟨y2, hy2⟩ : ∃ z, z = xs (ix i + 2) := ⟨_, rfl⟩
  obtain ⟨y3, hy3⟩ : ∃ z, z = xs (ix i + 3) := ⟨_, rfl⟩
  obtain ⟨y4, hy4⟩ : ∃ z, z = xs (ix i + 4) := ⟨_, rfl⟩
  obtain ⟨y5, hy5⟩ : ∃ z, z = xs (ix i + 5) := ⟨_, rfl⟩
  have n0 : (0 : Int32).toInt = 0 := by decide
  have n1 : (1 : Int32).toInt = 1 := by decide
  have n2 : (2 : Int32).toInt = 2 := by decide
  have n3 : (3 : Int32).toInt = 3 := by decide
  have n4 : (4 : Int32).toInt = 4 := by decide
  have n5 : (5 : Int32).toInt = 5 := by decide
  obtain ⟨tx, etx⟩ : ∃ z, kR κ x 0 = z := ⟨_, rfl⟩
  have ttx : zk σ0 tx 6 := by rw [← etx]; exact ttx0
  obtain ⟨rB, erB⟩ : ∃ z, kR κ tx 0 = z := ⟨_, rfl⟩
  have trB : zk σ0 rB 14 := by rw [← erB]; exact hT.kr (hT.ref (hT.k ttx (by decide)) (by decide) (by decide) (by decide)) (by decide) (by decide)
  obtain ⟨rT, erT⟩ : ∃ z, kR κ mm 12 = z := ⟨_, rfl⟩
  have trT : zk σ0 rT 23 := by rw [← erT]; exact hT.kr (hT.ref (hT.k t_mm (by decide)) (by decide) (by decide) (by decide)) (by decide) (by decide)
  obtain ⟨rI, erI⟩ : ∃ z, kR κ x 6 = z := ⟨_, rfl⟩
  have trI : zk σ0 rI 13 := by rw [← erI]; exact hT.kr (hT.ref (hT.k t_x (by decide)) (by decide) (by decide) (by decide)) (by decide) (by decide)
  obtain ⟨rK, erK⟩ : ∃ z, kR κ mm 4 = z := ⟨_, rfl⟩
  have trK : zk σ0 rK 29 := by rw [← erK]; exact hT.kr (hT.ref (hT.k t_mm (by decide)) (by decide) (by decide) (by decide)) (by decide) (by decide)
  obtain ⟨hlen, ⟨hal, hnn⟩, ⟨hco, hpo⟩, hkp⟩ := hrel
  rw [etx] at hlen hal hco hpo
  rw [erB, erT] at hal
  rw [erT] at hnn
  rw [erI, erK] at hkp
  have btx := (hT.P (hT.k ttx (by decide)) (by decide)).1
  have btxl := btx.1
  have btxh := btx.2
  obtain ⟨nw, enw⟩ : ∃ z, kR κ x 3 = z := ⟨_, rfl⟩
  have tnw : zk σ0 nw 3 := by rw [← enw]; exact hT.kr (hT.ref (hT.k t_x (by decide)) (by decide) (by decide) (by decide)) (by decide) (by decide)
  obtain ⟨tr, etr⟩ : ∃ z, kR κ x 4 = z := ⟨_, rfl⟩
  have ttr : zk σ0 tr 3 := by rw [← etr]; exact hT.kr (hT.ref (hT.k t_x (by decide)) (by decide) (by decide) (by decide)) (by decide) (by decide)
  obtain ⟨rs5, ers5⟩ : ∃ z, kR κ x 5 = z := ⟨_, rfl⟩
  have trs5 : zk σ0 rs5 12 := by rw [← ers5]; exact hT.kr (hT.ref (hT.k t_x (by decide)) (by decide) (by decide) (by decide)) (by decide) (by decide)
  obtain ⟨sl0, esl0⟩ : ∃ z, kR κ rs5 0 = z := ⟨_, rfl⟩
  have tsl0 : zk σ0 sl0 3 := by rw [← esl0]; exact hT.kr (hT.ref (hT.k trs5 (by decide)) (by decide) (by decide) (by decide)) (by decide) (by decide)
  obtain ⟨sl1, esl1⟩ : ∃ z, kR κ rs5 1 = z := ⟨_, rfl⟩
  have tsl1 : zk σ0 sl1 3 := by rw [← esl1]; exact hT.kr (hT.ref (hT.k trs5 (by decide)) (by decide) (by decide) (by decide)) (by decide) (by decide)
  obtain ⟨rW, erW⟩ : ∃ z, kR κ mm 1 = z := ⟨_, rfl⟩
  have trW : zk σ0 rW 21 := by rw [← erW]; exact hT.kr (hT.ref (hT.k t_mm (by decide)) (by decide) (by decide) (by decide)) (by decide) (by decide)
  obtain ⟨rS, erS⟩ : ∃ z, kR κ mm 3 = z := ⟨_, rfl⟩
  have trS : zk σ0 rS 22 := by rw [← erS]; exact hT.kr (hT.ref (hT.k t_mm (by decide)) (by decide) (by decide) (by decide)) (by decide) (by decide)
  obtain ⟨so, eso⟩ : ∃ z, kR κ x 1 = z := ⟨_, rfl⟩
  have tso : zk σ0 so 4 := by rw [← eso]; exact hT.kr (hT.ref (hT.k t_x (by decide)) (by decide) (by decide) (by decide)) (by decide) (by decide)
  obtain ⟨qP, eqP⟩ : ∃ z, kR κ so 0 = z := ⟨_, rfl⟩
  have tqP : zk σ0 qP 8 := by rw [← eqP]; exact hT.kr (hT.ref (hT.k tso (by decide)) (by decide) (by decide) (by decide)) (by decide) (by decide)
  obtain ⟨qO, eqO⟩ : ∃ z, kR κ so 1 = z := ⟨_, rfl⟩
  have tqO : zk σ0 qO 16 := by rw [← eqO]; exact hT.kr (hT.ref (hT.k tso (by decide)) (by decide) (by decide) (by decide)) (by decide) (by decide)
  obtain ⟨r5, er5⟩ : ∃ z, kR κ mm 5 = z := ⟨_, rfl⟩
  have tr5 : zk σ0 r5 25 := by rw [← er5]; exact hT.kr (hT.ref (hT.k t_mm (by decide)) (by decide) (by decide) (by decide)) (by decide) (by decide)
  obtain ⟨r6, er6⟩ : ∃ z, kR κ mm 6 = z := ⟨_, rfl⟩
  have tr6 : zk σ0 r6 26 := by rw [← er6]; exact hT.kr (hT.ref (hT.k t_mm (by decide)) (by decide) (by decide) (by decide)) (by decide) (by decide)
  obtain ⟨hnw, hsl⟩ := hsr
  obtain ⟨hd1, ⟨hd2, hd3⟩, hd4, hd5, hd6, hd7⟩ := hdis
  have d_nt : nw ≠ tr := by rw [← enw, ← etr]; exact hd2
  have d_n0 : nw ≠ sl0 := by rw [← enw, ← esl0, ← ers5]; exact hd3 0 (by decide)
  have d_t0 : sl0 ≠ tr := by rw [← etr, ← esl0, ← ers5]; exact fun q => hd4 0 (by decide) q.symm
  have d_n1 : nw ≠ sl1 := by rw [← enw, ← esl1, ← ers5]; exact hd3 1 (by decide)
  have d_t1 : sl1 ≠ tr := by rw [← etr, ← esl1, ← ers5]; exact fun q => hd4 1 (by decide) q.symm
  have d_01 : sl0 ≠ sl1 := by rw [← esl0, ← esl1, ← ers5]; exact hd5
  have knw : zk σ nw 3 := hT.k tnw (by decide)
  have ksl0 : zk σ sl0 3 := hT.k tsl0 (by decide)
  have ksl1 : zk σ sl1 3 := hT.k tsl1 (by decide)
  refine lv_aload_n hx hb dL_law_515 rfl (lv_at hl 3 rfl) ?_
  refine lv_aload_n hx hb dL_law_516 rfl (lv_at hl 4 rfl) ?_
  refine lv_iload hx hb dL_law_517 (lv_at hl 0 rfl) ?_
  refine lv_iconst (v := 1) hx hb dL_law_519 (by decide) ?_
  refine lv_iadd hx hb dL_law_520 ?_
  refine g_add (by omega) (by omega) (fun t1 ht1 => ?_)
  refine va_sld hx hb hXs hbl hbA hT.2.2.2 (g_in (by omega) (by omega)) dL_law_521 ?_
  refine ti y1 (by rw [hy1]; exact congrArg xs (show t1.toNatClampNeg = ix i + 1 from by show t1.toInt.toNat = ix i + 1; unfold ix; omega)) ?_
  refine lv_aload_n hx hb dL_law_522 rfl (lv_at hl 4 rfl) ?_
  refine lv_iload hx hb dL_law_523 (lv_at hl 0 rfl) ?_
  refine lv_iconst (v := 2) hx hb dL_law_525 (by decide) ?_
  refine lv_iadd hx hb dL_law_526 ?_
  refine g_add (by omega) (by omega) (fun t2 ht2 => ?_)
  refine va_sld hx hb hXs hbl hbA hT.2.2.2 (g_in (by omega) (by omega)) dL_law_527 ?_
  refine ti y2 (by rw [hy2]; exact congrArg xs (show t2.toNatClampNeg = ix i + 2 from by show t2.toInt.toNat = ix i + 2; unfold ix; omega)) ?_
  refine lv_aload_n hx hb dL_law_528 rfl (lv_at hl 1 rfl) ?_
  have hTo := hT
  refine tHi (n := 4) (As := [.ref x, .int y1, .int y2, .ref out]) (rest := []) hx hb hml hown hg hT hK hX (L_step l κ σ x y1 y2 out (hT.k t_x (by decide)) (hT.k t_out (by decide)) hlt) sub_hfE_fA (mwHS k883 k884 k83 k885) ⟨by decide, by decide, by decide +kernel⟩ ⟨(Nat.le_of_ble_eq_true rfl), (Nat.le_of_ble_eq_true rfl)⟩ rfl hl.1 rfl (Nat.le_of_ble_eq_true rfl) dL_law_529 zx (fun r4 s3 H locs hφ hE hT => ?_)
  have R5 := hR.ext hE ⟨rfl, rfl, fun _ => rfl, fun _ => rfl, fun _ => rfl, fun _ => rfl⟩
  have a6 : (zI s3 tx 1).toInt = (zI σ tx 1).toInt := by rw [(hTo.k ttx (by decide)).eI hE (by decide) rfl]
  have j7 : zI s3 rB = zI σ rB := (show zI s3 rB = zI σ rB from funext fun k => (hTo.k trB (by decide)).eI hE (by decide) rfl)
  have j8 : zI s3 rT = zI σ rT := (show zI s3 rT = zI σ rT from funext fun k => (hTo.k trT (by decide)).eI hE (by decide) rfl)
  have j9 : zI s3 rI = zI σ rI := (show zI s3 rI = zI σ rI from funext fun k => (hTo.k trI (by decide)).eI hE (by decide) rfl)
  have j10 : zI s3 rK = zI σ rK := (show zI s3 rK = zI σ rK from funext fun k => (hTo.k trK (by decide)).eI hE (by decide) rfl)
  have j11 : zI s3 tx 2 = zI σ tx 2 := (hTo.k ttx (by decide)).eI hE (by decide) rfl
  have j12 : zI s3 tx 3 = zI σ tx 3 := (hTo.k ttx (by decide)).eI hE (by decide) rfl
  have j13 : zI s3 mm 15 = zI σ mm 15 := (hTo.k t_mm (by decide)).eI hE (by decide) rfl
  have j14 : zI s3 mm 16 = zI σ mm 16 := (hTo.k t_mm (by decide)).eI hE (by decide) rfl
  have n15 : zI s3 nw 7 = zI σ nw 7 ∧ zI s3 nw 8 = zI σ nw 8 ∧ zI s3 nw 9 = zI σ nw 9 := ⟨(hTo.k tnw (by decide)).eI hE (by decide) rfl, (hTo.k tnw (by decide)).eI hE (by decide) rfl, (hTo.k tnw (by decide)).eI hE (by decide) rfl⟩
  have n16 : zI s3 sl0 7 = zI σ sl0 7 ∧ zI s3 sl0 8 = zI σ sl0 8 ∧ zI s3 sl0 9 = zI σ sl0 9 := ⟨(hTo.k tsl0 (by decide)).eI hE (by decide) rfl, (hTo.k tsl0 (by decide)).eI hE (by decide) rfl, (hTo.k tsl0 (by decide)).eI hE (by decide) rfl⟩
  have n17 : zI s3 sl1 7 = zI σ sl1 7 ∧ zI s3 sl1 8 = zI σ sl1 8 ∧ zI s3 sl1 9 = zI σ sl1 9 := ⟨(hTo.k tsl1 (by decide)).eI hE (by decide) rfl, (hTo.k tsl1 (by decide)).eI hE (by decide) rfl, (hTo.k tsl1 (by decide)).eI hE (by decide) rfl⟩
  have n18 : ∀ j : Nat, j < 3 → zJ s3 rW j = zJ σ rW j := fun j hj => (hTo.k trW (by decide)).eJ hE (by decide) rfl
  have n19 : zJ s3 rS = zJ σ rS := (show zJ s3 rS = zJ σ rS from funext fun k => (hTo.k trS (by decide)).eJ hE (by decide) rfl)
  have z20 : zI s3 so 2 = zI σ so 2 ∧ zI s3 so 6 = zI σ so 6 ∧ zI s3 qP = zI σ qP ∧ zI s3 qO = zI σ qO := ⟨(hTo.k tso (by decide)).eI hE (by decide) rfl, (hTo.k tso (by decide)).eI hE (by decide) rfl, funext fun q9 => (hTo.k tqP (by decide)).eI hE (by decide) rfl, funext fun q9 => (hTo.k tqO (by decide)).eI hE (by decide) rfl⟩
  have z21 : zI s3 mm 7 = zI σ mm 7 ∧ zI s3 mm 8 = zI σ mm 8 ∧ zI s3 r5 = zI σ r5 ∧ zI s3 r6 = zI σ r6 := ⟨(hTo.k t_mm (by decide)).eI hE (by decide) rfl, (hTo.k t_mm (by decide)).eI hE (by decide) rfl, funext fun q9 => (hTo.k tr5 (by decide)).eI hE (by decide) rfl, funext fun q9 => (hTo.k tr6 (by decide)).eI hE (by decide) rfl⟩
  have a22 : (zI s3 mm 13).toInt = (zI σ mm 13).toInt := by rw [(hTo.k t_mm (by decide)).eI hE (by decide) rfl]
  refine lv_istore (lv' := [(5, .int r4), (4, .int i), (3, .ref out), (2, .ref mm), (1, .ref x), (0, .ref b)]) hx hb dL_law_532 hl (by decide) rfl (fun ls hl => ?_)
  refine lv_aload_n hx hb dL_law_534 rfl (lv_at hl 3 rfl) ?_
  refine lv_aload_n hx hb dL_law_535 rfl (lv_at hl 5 rfl) ?_
  refine lv_iload hx hb dL_law_536 (lv_at hl 1 rfl) ?_
  refine lv_iconst (v := 1) hx hb dL_law_538 (by decide) ?_
  refine lv_iadd hx hb dL_law_539 ?_
  refine g_add (by omega) (by omega) (fun t23 ht23 => ?_)
  refine va_sld hx hb hXs hbl hbA hT.2.2.2 (g_in (by omega) (by omega)) dL_law_540 ?_
  refine ti y1 (by rw [hy1]; exact congrArg xs (show t23.toNatClampNeg = ix i + 1 from by show t23.toInt.toNat = ix i + 1; unfold ix; omega)) ?_
  refine lv_aload_n hx hb dL_law_541 rfl (lv_at hl 5 rfl) ?_
  refine lv_iload hx hb dL_law_542 (lv_at hl 1 rfl) ?_
  refine lv_iconst (v := 2) hx hb dL_law_544 (by decide) ?_
  refine lv_iadd hx hb dL_law_545 ?_
  refine g_add (by omega) (by omega) (fun t24 ht24 => ?_)
  refine va_sld hx hb hXs hbl hbA hT.2.2.2 (g_in (by omega) (by omega)) dL_law_546 ?_
  refine ti y2 (by rw [hy2]; exact congrArg xs (show t24.toNatClampNeg = ix i + 2 from by show t24.toInt.toNat = ix i + 2; unfold ix; omega)) ?_
  have hTo := hT
  refine tVl (n := 2) (As := [.int y1, .int y2]) (rest := []) hx hb hml hown hg hT hK hX (X6_step l (kX κ) s3 mm y1 y2 (hT.k t_mm (by decide)) R5) sub_gR_fA (mwV k1457 k1458 k1459 k92 k1460) ⟨rfl, by decide, by decide, by decide +kernel⟩ ⟨(Nat.le_of_ble_eq_true rfl), (Nat.le_of_ble_eq_true rfl)⟩ (hT.o20 (hT.k t_mm (by decide))) rfl rfl hl.1 rfl (Nat.le_of_ble_eq_true rfl) dL_law_547 zx (fun r26 s25 H locs hφ hE hT => ?_)
  have R27 := R5.ext hE ⟨rfl, rfl, fun _ => rfl, fun _ => rfl, fun _ => rfl, fun _ => rfl⟩
  have a28 : (zI s25 tx 1).toInt = (zI s3 tx 1).toInt := by rw [(hTo.k ttx (by decide)).eI hE (by decide) rfl]
  have j29 : zI s25 rB = zI σ rB := ((show zI s25 rB = zI s3 rB from funext fun k => (hTo.k trB (by decide)).eI hE (by decide) rfl)).trans j7
  have j30 : zI s25 rT = zI σ rT := ((show zI s25 rT = zI s3 rT from funext fun k => (hTo.k trT (by decide)).eI hE (by decide) rfl)).trans j8
  have j31 : zI s25 rI = zI σ rI := ((show zI s25 rI = zI s3 rI from funext fun k => (hTo.k trI (by decide)).eI hE (by decide) rfl)).trans j9
  have j32 : zI s25 rK = zI σ rK := ((show zI s25 rK = zI s3 rK from funext fun k => (hTo.k trK (by decide)).eI hE (by decide) rfl)).trans j10
  have j33 : zI s25 tx 2 = zI σ tx 2 := ((hTo.k ttx (by decide)).eI hE (by decide) rfl).trans j11
  have j34 : zI s25 tx 3 = zI σ tx 3 := ((hTo.k ttx (by decide)).eI hE (by decide) rfl).trans j12
  have j35 : zI s25 mm 15 = zI σ mm 15 := ((hTo.k t_mm (by decide)).eI hE (by decide) rfl).trans j13
  have j36 : zI s25 mm 16 = zI σ mm 16 := ((hTo.k t_mm (by decide)).eI hE (by decide) rfl).trans j14
  have n37 : zI s25 nw 7 = zI s3 nw 7 ∧ zI s25 nw 8 = zI s3 nw 8 ∧ zI s25 nw 9 = zI s3 nw 9 := ⟨(hTo.k tnw (by decide)).eI hE (by decide) rfl, (hTo.k tnw (by decide)).eI hE (by decide) rfl, (hTo.k tnw (by decide)).eI hE (by decide) rfl⟩
  have n38 : zI s25 nw 7 = zI σ nw 7 ∧ zI s25 nw 8 = zI σ nw 8 ∧ zI s25 nw 9 = zI σ nw 9 := ⟨n37.1.trans n15.1, n37.2.1.trans n15.2.1, n37.2.2.trans n15.2.2⟩
  have n39 : zI s25 sl0 7 = zI s3 sl0 7 ∧ zI s25 sl0 8 = zI s3 sl0 8 ∧ zI s25 sl0 9 = zI s3 sl0 9 := ⟨(hTo.k tsl0 (by decide)).eI hE (by decide) rfl, (hTo.k tsl0 (by decide)).eI hE (by decide) rfl, (hTo.k tsl0 (by decide)).eI hE (by decide) rfl⟩
  have n40 : zI s25 sl0 7 = zI σ sl0 7 ∧ zI s25 sl0 8 = zI σ sl0 8 ∧ zI s25 sl0 9 = zI σ sl0 9 := ⟨n39.1.trans n16.1, n39.2.1.trans n16.2.1, n39.2.2.trans n16.2.2⟩
  have n41 : zI s25 sl1 7 = zI s3 sl1 7 ∧ zI s25 sl1 8 = zI s3 sl1 8 ∧ zI s25 sl1 9 = zI s3 sl1 9 := ⟨(hTo.k tsl1 (by decide)).eI hE (by decide) rfl, (hTo.k tsl1 (by decide)).eI hE (by decide) rfl, (hTo.k tsl1 (by decide)).eI hE (by decide) rfl⟩
  have n42 : zI s25 sl1 7 = zI σ sl1 7 ∧ zI s25 sl1 8 = zI σ sl1 8 ∧ zI s25 sl1 9 = zI σ sl1 9 := ⟨n41.1.trans n17.1, n41.2.1.trans n17.2.1, n41.2.2.trans n17.2.2⟩
  have n43 : ∀ j : Nat, j < 3 → zJ s25 rW j = zJ s3 rW j := fun j hj => (hTo.k trW (by decide)).eJ hE (by decide) rfl
  have n44 : ∀ j : Nat, j < 3 → zJ s25 rW j = zJ σ rW j := fun j hj => (n43 j hj).trans (n18 j hj)
  have n45 : zJ s25 rS = zJ σ rS := (show zJ s25 rS = zJ s3 rS from funext fun k => (hTo.k trS (by decide)).eJ hE (by decide) rfl).trans n19
  have z46 : zI s25 so 2 = zI s3 so 2 ∧ zI s25 so 6 = zI s3 so 6 ∧ zI s25 qP = zI s3 qP ∧ zI s25 qO = zI s3 qO := ⟨(hTo.k tso (by decide)).eI hE (by decide) rfl, (hTo.k tso (by decide)).eI hE (by decide) rfl, funext fun q9 => (hTo.k tqP (by decide)).eI hE (by decide) rfl, funext fun q9 => (hTo.k tqO (by decide)).eI hE (by decide) rfl⟩
  have z47 : zI s25 so 2 = zI σ so 2 ∧ zI s25 so 6 = zI σ so 6 ∧ zI s25 qP = zI σ qP ∧ zI s25 qO = zI σ qO := ⟨z46.1.trans z20.1, z46.2.1.trans z20.2.1, z46.2.2.1.trans z20.2.2.1, z46.2.2.2.trans z20.2.2.2⟩
  have z48 : zI s25 mm 7 = zI s3 mm 7 ∧ zI s25 mm 8 = zI s3 mm 8 ∧ zI s25 r5 = zI s3 r5 ∧ zI s25 r6 = zI s3 r6 := ⟨(hTo.k t_mm (by decide)).eI hE (by decide) rfl, (hTo.k t_mm (by decide)).eI hE (by decide) rfl, funext fun q9 => (hTo.k tr5 (by decide)).eI hE (by decide) rfl, funext fun q9 => (hTo.k tr6 (by decide)).eI hE (by decide) rfl⟩
  have z49 : zI s25 mm 7 = zI σ mm 7 ∧ zI s25 mm 8 = zI σ mm 8 ∧ zI s25 r5 = zI σ r5 ∧ zI s25 r6 = zI σ r6 := ⟨z48.1.trans z21.1, z48.2.1.trans z21.2.1, z48.2.2.1.trans z21.2.2.1, z48.2.2.2.trans z21.2.2.2⟩
  have a50 : (zI s25 mm 13).toInt = (zI s3 mm 13).toInt := by rw [(hTo.k t_mm (by decide)).eI hE (by decide) rfl]
  refine lv_lstore (lv' := [(6, .long r26), (5, .int r4), (4, .int i), (3, .ref out), (2, .ref mm), (1, .ref x), (0, .ref b)]) hx hb dL_law_550 hl (by decide) rfl (fun ls hl => ?_)
  refine lv_goto (tgt := 1432) hx hb dL_law_552 (by decide) ?_
  have sl0f : zI s25 rI 0 ≠ 0 → SLT κ s25 x mm 0 := fun hq => (hsl 0 (by decide) (fun q9 => hq (by rw [erI] at q9; rw [j31]; exact q9))).tr (by rw [ers5, esl0]; exact n40) (fun j hj => by rw [erS, n45])
  have sl1f : zI s25 rI 1 ≠ 0 → SLT κ s25 x mm 1 := fun hq => (hsl 1 (by decide) (fun q9 => hq (by rw [erI] at q9; rw [j31]; exact q9))).tr (by rw [ers5, esl1]; exact n42) (fun j hj => by rw [erS, n45])
  exact KK s25 _ _ _ hT R27 ⟨by rw [etx]; omega, ⟨by rw [etx, erB, erT, j29, j30]; exact tal_less hal (by omega), by rw [erT, j30]; exact tnn_less hnn (by omega)⟩, ⟨by rw [etx, j33, j35]; exact hco, by rw [etx, j34, j36]; exact hpo⟩, fun i hi => by rw [erI, erK, j31, j32]; exact hkp i hi⟩ (⟨hnw.tr (by rw [enw]; exact n38) (by rw [erW]; exact n44), fun i hi => (show i = 0 ∨ i = 1 by omega).elim (fun e9 => by rw [e9, erI]; exact sl0f) (fun e9 => by rw [e9, erI]; exact sl1f)⟩) (hsm.tr (by rw [eso, eqP, eqO]; exact z47) (by rw [er5, er6]; exact z49)) (lv_sub hl [2, 3, 4, 5, 6] rfl)
set_option maxHeartbeats 4000000 in
set_option maxRecDepth 100000 in
theorem lc_10 (l : Launch) (κ : Kt) (σ0 : Gh) (x mm out b : Nat) (t_x : zk σ0 x 7) (t_mm : zk σ0 mm 20) (t_out : zk σ0 out 24) (ttx0 : zk σ0 (kR κ x 0) 6) (hdis : DIS κ x) (hlt : l.stackTraces = false) {p : Program} {e : Env} {s : State} {m : MethodId} {below : List Frame} {meth : Method} {c : Code} {L : Nat} {xs : Nat → Int32} {i : Int32} {Q9 : State → Prop} (hx : p.tables.exec = Jvm.exec) (hb : c.code = cL_law) (hml : c.maxLocals = 9) (hown : s.vm.findClass RL = some m.cls) (hg : ∀ w ∈ GW, w.before #[Value.ref b] s = true) (hK : va_K κ.1 vwCl (kTy κ) s) (hX : XY κ (tA σ0 s.heap.size) s s.heap) (hXs : va_X b L xs s s.heap) (hbl : b < s.heap.size) (hbA : ¬ tA σ0 s.heap.size b) (zx : zroomX κ s room_1 601024 7293034) (hi0 : 0 ≤ i.toInt) (hi1 : i.toInt + 6 ≤ L) (hL9 : L ≤ 3072) {σ : Gh} {H : Heap} {locs : List Loc} {ls : Array Slot} (hT : TS κ fA σ0 σ s H locs) (hR : RI κ σ mm) (hrel : LREL κ σ x mm) (hsr : SREL κ σ x mm) (hsm : SMP κ σ x mm) (hl : lv_has ls 9 [(4, .int i), (3, .ref out), (2, .ref mm), (1, .ref x), (0, .ref b)]) (KK : ∀ (σ1 : Gh) (H : Heap) (locs : List Loc) (ls : Array Slot), TS (kX κ) fA σ0 σ1 s H locs → RI (kX κ) σ1 mm → LREL κ σ1 x mm → SREL κ σ1 x mm → SMP κ σ1 x mm → lv_has ls 9 [(4, .int i), (3, .ref out), (2, .ref mm), (1, .ref x), (0, .ref b)] → W p l e room_1 s m #[Value.ref b] below meth c H locs 601024 7293034 Q9 (F0 m 1432 ls [])) : W p l e room_1 s m #[Value.ref b] below meth c H locs 601024 7293034 Q9 (F0 m 555 ls []) := by
  obtain ⟨y1, hy1⟩ : ∃ z, z = xs (ix i + 1) := ⟨_, rfl⟩
  obtain ⟨y2, hy2⟩ : ∃ z, z = xs (ix i + 2) := ⟨_, rfl⟩
  obtain ⟨y3, hy3⟩ : ∃ z, z = xs (ix i + 3) := ⟨_, rfl⟩
  obtain ⟨y4, hy4⟩ : ∃ z, z = xs (ix i + 4) := ⟨_, rfl⟩
  obtain ⟨y5, hy5⟩ : ∃ z, z = xs (ix i + 5) := ⟨_, rfl⟩
  have n0 : (0 : Int32).toInt = 0 := by decide
  have n1 : (1 : Int32).toInt = 1 := by decide
  have n2 : (2 : Int32).toInt = 2 := by decide
  have n3 : (3 : Int32).toInt = 3 := by decide
  have n4 : (4 : Int32).toInt = 4 := by decide
  have n5 : (5 : Int32).toInt = 5 := by decide
  obtain ⟨tx, etx⟩ : ∃ z, kR κ x 0 = z := ⟨_, rfl⟩
  have ttx : zk σ0 tx 6 := by rw [← etx]; exact ttx0
  obtain ⟨rB, erB⟩ : ∃ z, kR κ tx 0 = z := ⟨_, rfl⟩
  have trB : zk σ0 rB 14 := by rw [← erB]; exact hT.kr (hT.ref (hT.k ttx (by decide)) (by decide) (by decide) (by decide)) (by decide) (by decide)
  obtain ⟨rT, erT⟩ : ∃ z, kR κ mm 12 = z := ⟨_, rfl⟩
  have trT : zk σ0 rT 23 := by rw [← erT]; exact hT.kr (hT.ref (hT.k t_mm (by decide)) (by decide) (by decide) (by decide)) (by decide) (by decide)
  obtain ⟨rI, erI⟩ : ∃ z, kR κ x 6 = z := ⟨_, rfl⟩
  have trI : zk σ0 rI 13 := by rw [← erI]; exact hT.kr (hT.ref (hT.k t_x (by decide)) (by decide) (by decide) (by decide)) (by decide) (by decide)
  obtain ⟨rK, erK⟩ : ∃ z, kR κ mm 4 = z := ⟨_, rfl⟩
  have trK : zk σ0 rK 29 := by rw [← erK]; exact hT.kr (hT.ref (hT.k t_mm (by decide)) (by decide) (by decide) (by decide)) (by decide) (by decide)
  obtain ⟨hlen, ⟨hal, hnn⟩, ⟨hco, hpo⟩, hkp⟩ := hrel
  rw [etx] at hlen hal hco hpo
  rw [erB, erT] at hal
  rw [erT] at hnn
  rw [erI, erK] at hkp
  have btx := (hT.P (hT.k ttx (by decide)) (by decide)).1
  have btxl := btx.1
  have btxh := btx.2
  obtain ⟨nw, enw⟩ : ∃ z, kR κ x 3 = z := ⟨_, rfl⟩
  have tnw : zk σ0 nw 3 := by rw [← enw]; exact hT.kr (hT.ref (hT.k t_x (by decide)) (by decide) (by decide) (by decide)) (by decide) (by decide)
  obtain ⟨tr, etr⟩ : ∃ z, kR κ x 4 = z := ⟨_, rfl⟩
  have ttr : zk σ0 tr 3 := by rw [← etr]; exact hT.kr (hT.ref (hT.k t_x (by decide)) (by decide) (by decide) (by decide)) (by decide) (by decide)
  obtain ⟨rs5, ers5⟩ : ∃ z, kR κ x 5 = z := ⟨_, rfl⟩
  have trs5 : zk σ0 rs5 12 := by rw [← ers5]; exact hT.kr (hT.ref (hT.k t_x (by decide)) (by decide) (by decide) (by decide)) (by decide) (by decide)
  obtain ⟨sl0, esl0⟩ : ∃ z, kR κ rs5 0 = z := ⟨_, rfl⟩
  have tsl0 : zk σ0 sl0 3 := by rw [← esl0]; exact hT.kr (hT.ref (hT.k trs5 (by decide)) (by decide) (by decide) (by decide)) (by decide) (by decide)
  obtain ⟨sl1, esl1⟩ : ∃ z, kR κ rs5 1 = z := ⟨_, rfl⟩
  have tsl1 : zk σ0 sl1 3 := by rw [← esl1]; exact hT.kr (hT.ref (hT.k trs5 (by decide)) (by decide) (by decide) (by decide)) (by decide) (by decide)
  obtain ⟨rW, erW⟩ : ∃ z, kR κ mm 1 = z := ⟨_, rfl⟩
  have trW : zk σ0 rW 21 := by rw [← erW]; exact hT.kr (hT.ref (hT.k t_mm (by decide)) (by decide) (by decide) (by decide)) (by decide) (by decide)
  obtain ⟨rS, erS⟩ : ∃ z, kR κ mm 3 = z := ⟨_, rfl⟩
  have trS : zk σ0 rS 22 := by rw [← erS]; exact hT.kr (hT.ref (hT.k t_mm (by decide)) (by decide) (by decide) (by decide)) (by decide) (by decide)
  obtain ⟨so, eso⟩ : ∃ z, kR κ x 1 = z := ⟨_, rfl⟩
  have tso : zk σ0 so 4 := by rw [← eso]; exact hT.kr (hT.ref (hT.k t_x (by decide)) (by decide) (by decide) (by decide)) (by decide) (by decide)
  obtain ⟨qP, eqP⟩ : ∃ z, kR κ so 0 = z := ⟨_, rfl⟩
  have tqP : zk σ0 qP 8 := by rw [← eqP]; exact hT.kr (hT.ref (hT.k tso (by decide)) (by decide) (by decide) (by decide)) (by decide) (by decide)
  obtain ⟨qO, eqO⟩ : ∃ z, kR κ so 1 = z := ⟨_, rfl⟩
  have tqO : zk σ0 qO 16 := by rw [← eqO]; exact hT.kr (hT.ref (hT.k tso (by decide)) (by decide) (by decide) (by decide)) (by decide) (by decide)
  obtain ⟨r5, er5⟩ : ∃ z, kR κ mm 5 = z := ⟨_, rfl⟩
  have tr5 : zk σ0 r5 25 := by rw [← er5]; exact hT.kr (hT.ref (hT.k t_mm (by decide)) (by decide) (by decide) (by decide)) (by decide) (by decide)
  obtain ⟨r6, er6⟩ : ∃ z, kR κ mm 6 = z := ⟨_, rfl⟩
  have tr6 : zk σ0 r6 26 := by rw [← er6]; exact hT.kr (hT.ref (hT.k t_mm (by decide)) (by decide) (by decide) (by decide)) (by decide) (by decide)
  obtain ⟨hnw, hsl⟩ := hsr
  obtain ⟨hd1, ⟨hd2, hd3⟩, hd4, hd5, hd6, hd7⟩ := hdis
  have d_nt : nw ≠ tr := by rw [← enw, ← etr]; exact hd2
  have d_n0 : nw ≠ sl0 := by rw [← enw, ← esl0, ← ers5]; exact hd3 0 (by decide)
  have d_t0 : sl0 ≠ tr := by rw [← etr, ← esl0, ← ers5]; exact fun q => hd4 0 (by decide) q.symm
  have d_n1 : nw ≠ sl1 := by rw [← enw, ← esl1, ← ers5]; exact hd3 1 (by decide)
  have d_t1 : sl1 ≠ tr := by rw [← etr, ← esl1, ← ers5]; exact fun q => hd4 1 (by decide) q.symm
  have d_01 : sl0 ≠ sl1 := by rw [← esl0, ← esl1, ← ers5]; exact hd5
  have knw : zk σ nw 3 := hT.k tnw (by decide)
  have ksl0 : zk σ sl0 3 := hT.k tsl0 (by decide)
  have ksl1 : zk σ sl1 3 := hT.k tsl1 (by decide)
  refine lv_aload_n hx hb dL_law_555 rfl (lv_at hl 3 rfl) ?_
  refine lv_aload_n hx hb dL_law_556 rfl (lv_at hl 4 rfl) ?_
  refine lv_iload hx hb dL_law_557 (lv_at hl 0 rfl) ?_
  refine lv_iconst (v := 1) hx hb dL_law_559 (by decide) ?_
  refine lv_iadd hx hb dL_law_560 ?_
  refine g_add (by omega) (by omega) (fun t1 ht1 => ?_)
  refine va_sld hx hb hXs hbl hbA hT.2.2.2 (g_in (by omega) (by omega)) dL_law_561 ?_
  refine ti y1 (by rw [hy1]; exact congrArg xs (show t1.toNatClampNeg = ix i + 1 from by show t1.toInt.toNat = ix i + 1; unfold ix; omega)) ?_
  refine lv_aload_n hx hb dL_law_562 rfl (lv_at hl 1 rfl) ?_
  have hTo := hT
  refine tHi (n := 3) (As := [.ref x, .int y1, .ref out]) (rest := []) hx hb hml hown hg hT hK hX (L_valueAt l κ σ x y1 out (hT.k t_x (by decide)) (hT.k t_out (by decide)) hlt) sub_hfW_fA (mwHS k890 k891 k83 k892) ⟨by decide, by decide, by decide +kernel⟩ ⟨(Nat.le_of_ble_eq_true rfl), (Nat.le_of_ble_eq_true rfl)⟩ rfl hl.1 rfl (Nat.le_of_ble_eq_true rfl) dL_law_563 zx (fun r3 s2 H locs hφ hE hT => ?_)
  have R4 := hR.ext hE ⟨rfl, rfl, fun _ => rfl, fun _ => rfl, fun _ => rfl, fun _ => rfl⟩
  have a5 : (zI s2 tx 1).toInt = (zI σ tx 1).toInt := by rw [(hTo.k ttx (by decide)).eI hE (by decide) rfl]
  have j6 : zI s2 rB = zI σ rB := (show zI s2 rB = zI σ rB from funext fun k => (hTo.k trB (by decide)).eI hE (by decide) rfl)
  have j7 : zI s2 rT = zI σ rT := (show zI s2 rT = zI σ rT from funext fun k => (hTo.k trT (by decide)).eI hE (by decide) rfl)
  have j8 : zI s2 rI = zI σ rI := (show zI s2 rI = zI σ rI from funext fun k => (hTo.k trI (by decide)).eI hE (by decide) rfl)
  have j9 : zI s2 rK = zI σ rK := (show zI s2 rK = zI σ rK from funext fun k => (hTo.k trK (by decide)).eI hE (by decide) rfl)
  have j10 : zI s2 tx 2 = zI σ tx 2 := (hTo.k ttx (by decide)).eI hE (by decide) rfl
  have j11 : zI s2 tx 3 = zI σ tx 3 := (hTo.k ttx (by decide)).eI hE (by decide) rfl
  have j12 : zI s2 mm 15 = zI σ mm 15 := (hTo.k t_mm (by decide)).eI hE (by decide) rfl
  have j13 : zI s2 mm 16 = zI σ mm 16 := (hTo.k t_mm (by decide)).eI hE (by decide) rfl
  have n14 : zI s2 nw 7 = zI σ nw 7 ∧ zI s2 nw 8 = zI σ nw 8 ∧ zI s2 nw 9 = zI σ nw 9 := ⟨(hTo.k tnw (by decide)).eI hE (by decide) rfl, (hTo.k tnw (by decide)).eI hE (by decide) rfl, (hTo.k tnw (by decide)).eI hE (by decide) rfl⟩
  have n15 : zI s2 sl0 7 = zI σ sl0 7 ∧ zI s2 sl0 8 = zI σ sl0 8 ∧ zI s2 sl0 9 = zI σ sl0 9 := ⟨(hTo.k tsl0 (by decide)).eI hE (by decide) rfl, (hTo.k tsl0 (by decide)).eI hE (by decide) rfl, (hTo.k tsl0 (by decide)).eI hE (by decide) rfl⟩
  have n16 : zI s2 sl1 7 = zI σ sl1 7 ∧ zI s2 sl1 8 = zI σ sl1 8 ∧ zI s2 sl1 9 = zI σ sl1 9 := ⟨(hTo.k tsl1 (by decide)).eI hE (by decide) rfl, (hTo.k tsl1 (by decide)).eI hE (by decide) rfl, (hTo.k tsl1 (by decide)).eI hE (by decide) rfl⟩
  have n17 : ∀ j : Nat, j < 3 → zJ s2 rW j = zJ σ rW j := fun j hj => (hTo.k trW (by decide)).eJ hE (by decide) rfl
  have n18 : zJ s2 rS = zJ σ rS := (show zJ s2 rS = zJ σ rS from funext fun k => (hTo.k trS (by decide)).eJ hE (by decide) rfl)
  have z19 : zI s2 so 2 = zI σ so 2 ∧ zI s2 so 6 = zI σ so 6 ∧ zI s2 qP = zI σ qP ∧ zI s2 qO = zI σ qO := ⟨(hTo.k tso (by decide)).eI hE (by decide) rfl, (hTo.k tso (by decide)).eI hE (by decide) rfl, funext fun q9 => (hTo.k tqP (by decide)).eI hE (by decide) rfl, funext fun q9 => (hTo.k tqO (by decide)).eI hE (by decide) rfl⟩
  have z20 : zI s2 mm 7 = zI σ mm 7 ∧ zI s2 mm 8 = zI σ mm 8 ∧ zI s2 r5 = zI σ r5 ∧ zI s2 r6 = zI σ r6 := ⟨(hTo.k t_mm (by decide)).eI hE (by decide) rfl, (hTo.k t_mm (by decide)).eI hE (by decide) rfl, funext fun q9 => (hTo.k tr5 (by decide)).eI hE (by decide) rfl, funext fun q9 => (hTo.k tr6 (by decide)).eI hE (by decide) rfl⟩
  have a21 : (zI s2 mm 13).toInt = (zI σ mm 13).toInt := by rw [(hTo.k t_mm (by decide)).eI hE (by decide) rfl]
  refine lv_istore (lv' := [(5, .int r3), (4, .int i), (3, .ref out), (2, .ref mm), (1, .ref x), (0, .ref b)]) hx hb dL_law_566 hl (by decide) rfl (fun ls hl => ?_)
  refine lv_aload_n hx hb dL_law_568 rfl (lv_at hl 3 rfl) ?_
  refine lv_aload_n hx hb dL_law_569 rfl (lv_at hl 5 rfl) ?_
  refine lv_iload hx hb dL_law_570 (lv_at hl 1 rfl) ?_
  refine lv_iconst (v := 1) hx hb dL_law_572 (by decide) ?_
  refine lv_iadd hx hb dL_law_573 ?_
  refine g_add (by omega) (by omega) (fun t22 ht22 => ?_)
  refine va_sld hx hb hXs hbl hbA hT.2.2.2 (g_in (by omega) (by omega)) dL_law_574 ?_
  refine ti y1 (by rw [hy1]; exact congrArg xs (show t22.toNatClampNeg = ix i + 1 from by show t22.toInt.toNat = ix i + 1; unfold ix; omega)) ?_
  have hTo := hT
  refine tVl (n := 1) (As := [.int y1]) (rest := []) hx hb hml hown hg hT hK hX (X6_valueAt l (kX κ) s2 mm y1 (hT.k t_mm (by decide)) R4) sub_gR_fA (mwV k1465 k1466 k1467 k92 k1468) ⟨rfl, by decide, by decide, by decide +kernel⟩ ⟨(Nat.le_of_ble_eq_true rfl), (Nat.le_of_ble_eq_true rfl)⟩ (hT.o20 (hT.k t_mm (by decide))) rfl rfl hl.1 rfl (Nat.le_of_ble_eq_true rfl) dL_law_575 zx (fun r24 s23 H locs hφ hE hT => ?_)
  have R25 := R4.ext hE ⟨rfl, rfl, fun _ => rfl, fun _ => rfl, fun _ => rfl, fun _ => rfl⟩
  have a26 : (zI s23 tx 1).toInt = (zI s2 tx 1).toInt := by rw [(hTo.k ttx (by decide)).eI hE (by decide) rfl]
  have j27 : zI s23 rB = zI σ rB := ((show zI s23 rB = zI s2 rB from funext fun k => (hTo.k trB (by decide)).eI hE (by decide) rfl)).trans j6
  have j28 : zI s23 rT = zI σ rT := ((show zI s23 rT = zI s2 rT from funext fun k => (hTo.k trT (by decide)).eI hE (by decide) rfl)).trans j7
  have j29 : zI s23 rI = zI σ rI := ((show zI s23 rI = zI s2 rI from funext fun k => (hTo.k trI (by decide)).eI hE (by decide) rfl)).trans j8
  have j30 : zI s23 rK = zI σ rK := ((show zI s23 rK = zI s2 rK from funext fun k => (hTo.k trK (by decide)).eI hE (by decide) rfl)).trans j9
  have j31 : zI s23 tx 2 = zI σ tx 2 := ((hTo.k ttx (by decide)).eI hE (by decide) rfl).trans j10
  have j32 : zI s23 tx 3 = zI σ tx 3 := ((hTo.k ttx (by decide)).eI hE (by decide) rfl).trans j11
  have j33 : zI s23 mm 15 = zI σ mm 15 := ((hTo.k t_mm (by decide)).eI hE (by decide) rfl).trans j12
  have j34 : zI s23 mm 16 = zI σ mm 16 := ((hTo.k t_mm (by decide)).eI hE (by decide) rfl).trans j13
  have n35 : zI s23 nw 7 = zI s2 nw 7 ∧ zI s23 nw 8 = zI s2 nw 8 ∧ zI s23 nw 9 = zI s2 nw 9 := ⟨(hTo.k tnw (by decide)).eI hE (by decide) rfl, (hTo.k tnw (by decide)).eI hE (by decide) rfl, (hTo.k tnw (by decide)).eI hE (by decide) rfl⟩
  have n36 : zI s23 nw 7 = zI σ nw 7 ∧ zI s23 nw 8 = zI σ nw 8 ∧ zI s23 nw 9 = zI σ nw 9 := ⟨n35.1.trans n14.1, n35.2.1.trans n14.2.1, n35.2.2.trans n14.2.2⟩
  have n37 : zI s23 sl0 7 = zI s2 sl0 7 ∧ zI s23 sl0 8 = zI s2 sl0 8 ∧ zI s23 sl0 9 = zI s2 sl0 9 := ⟨(hTo.k tsl0 (by decide)).eI hE (by decide) rfl, (hTo.k tsl0 (by decide)).eI hE (by decide) rfl, (hTo.k tsl0 (by decide)).eI hE (by decide) rfl⟩
  have n38 : zI s23 sl0 7 = zI σ sl0 7 ∧ zI s23 sl0 8 = zI σ sl0 8 ∧ zI s23 sl0 9 = zI σ sl0 9 := ⟨n37.1.trans n15.1, n37.2.1.trans n15.2.1, n37.2.2.trans n15.2.2⟩
  have n39 : zI s23 sl1 7 = zI s2 sl1 7 ∧ zI s23 sl1 8 = zI s2 sl1 8 ∧ zI s23 sl1 9 = zI s2 sl1 9 := ⟨(hTo.k tsl1 (by decide)).eI hE (by decide) rfl, (hTo.k tsl1 (by decide)).eI hE (by decide) rfl, (hTo.k tsl1 (by decide)).eI hE (by decide) rfl⟩
  have n40 : zI s23 sl1 7 = zI σ sl1 7 ∧ zI s23 sl1 8 = zI σ sl1 8 ∧ zI s23 sl1 9 = zI σ sl1 9 := ⟨n39.1.trans n16.1, n39.2.1.trans n16.2.1, n39.2.2.trans n16.2.2⟩
  have n41 : ∀ j : Nat, j < 3 → zJ s23 rW j = zJ s2 rW j := fun j hj => (hTo.k trW (by decide)).eJ hE (by decide) rfl
  have n42 : ∀ j : Nat, j < 3 → zJ s23 rW j = zJ σ rW j := fun j hj => (n41 j hj).trans (n17 j hj)
  have n43 : zJ s23 rS = zJ σ rS := (show zJ s23 rS = zJ s2 rS from funext fun k => (hTo.k trS (by decide)).eJ hE (by decide) rfl).trans n18
  have z44 : zI s23 so 2 = zI s2 so 2 ∧ zI s23 so 6 = zI s2 so 6 ∧ zI s23 qP = zI s2 qP ∧ zI s23 qO = zI s2 qO := ⟨(hTo.k tso (by decide)).eI hE (by decide) rfl, (hTo.k tso (by decide)).eI hE (by decide) rfl, funext fun q9 => (hTo.k tqP (by decide)).eI hE (by decide) rfl, funext fun q9 => (hTo.k tqO (by decide)).eI hE (by decide) rfl⟩
  have z45 : zI s23 so 2 = zI σ so 2 ∧ zI s23 so 6 = zI σ so 6 ∧ zI s23 qP = zI σ qP ∧ zI s23 qO = zI σ qO := ⟨z44.1.trans z19.1, z44.2.1.trans z19.2.1, z44.2.2.1.trans z19.2.2.1, z44.2.2.2.trans z19.2.2.2⟩
  have z46 : zI s23 mm 7 = zI s2 mm 7 ∧ zI s23 mm 8 = zI s2 mm 8 ∧ zI s23 r5 = zI s2 r5 ∧ zI s23 r6 = zI s2 r6 := ⟨(hTo.k t_mm (by decide)).eI hE (by decide) rfl, (hTo.k t_mm (by decide)).eI hE (by decide) rfl, funext fun q9 => (hTo.k tr5 (by decide)).eI hE (by decide) rfl, funext fun q9 => (hTo.k tr6 (by decide)).eI hE (by decide) rfl⟩
  have z47 : zI s23 mm 7 = zI σ mm 7 ∧ zI s23 mm 8 = zI σ mm 8 ∧ zI s23 r5 = zI σ r5 ∧ zI s23 r6 = zI σ r6 := ⟨z46.1.trans z20.1, z46.2.1.trans z20.2.1, z46.2.2.1.trans z20.2.2.1, z46.2.2.2.trans z20.2.2.2⟩
  have a48 : (zI s23 mm 13).toInt = (zI s2 mm 13).toInt := by rw [(hTo.k t_mm (by decide)).eI hE (by decide) rfl]
  refine lv_lstore (lv' := [(6, .long r24), (5, .int r3), (4, .int i), (3, .ref out), (2, .ref mm), (1, .ref x), (0, .ref b)]) hx hb dL_law_578 hl (by decide) rfl (fun ls hl => ?_)
  refine lv_goto (tgt := 1432) hx hb dL_law_580 (by decide) ?_
  have sl0f : zI s23 rI 0 ≠ 0 → SLT κ s23 x mm 0 := fun hq => (hsl 0 (by decide) (fun q9 => hq (by rw [erI] at q9; rw [j29]; exact q9))).tr (by rw [ers5, esl0]; exact n38) (fun j hj => by rw [erS, n43])
  have sl1f : zI s23 rI 1 ≠ 0 → SLT κ s23 x mm 1 := fun hq => (hsl 1 (by decide) (fun q9 => hq (by rw [erI] at q9; rw [j29]; exact q9))).tr (by rw [ers5, esl1]; exact n40) (fun j hj => by rw [erS, n43])
  exact KK s23 _ _ _ hT R25 ⟨by rw [etx]; omega, ⟨by rw [etx, erB, erT, j27, j28]; exact tal_less hal (by omega), by rw [erT, j28]; exact tnn_less hnn (by omega)⟩, ⟨by rw [etx, j31, j33]; exact hco, by rw [etx, j32, j34]; exact hpo⟩, fun i hi => by rw [erI, erK, j29, j30]; exact hkp i hi⟩ (⟨hnw.tr (by rw [enw]; exact n36) (by rw [erW]; exact n42), fun i hi => (show i = 0 ∨ i = 1 by omega).elim (fun e9 => by rw [e9, erI]; exact sl0f) (fun e9 => by rw [e9, erI]; exact sl1f)⟩) (hsm.tr (by rw [eso, eqP, eqO]; exact z45) (by rw [er5, er6]; exact z47)) (lv_sub hl [2, 3, 4, 5, 6] rfl)
set_option maxHeartbeats 4000000 in
set_option maxRecDepth 100000 in
theorem lc_11 (l : Launch) (κ : Kt) (σ0 : Gh) (x mm out b : Nat) (t_x : zk σ0 x 7) (t_mm : zk σ0 mm 20) (t_out : zk σ0 out 24) (ttx0 : zk σ0 (kR κ x 0) 6) (hdis : DIS κ x) (hlt : l.stackTraces = false) {p : Program} {e : Env} {s : State} {m : MethodId} {below : List Frame} {meth : Method} {c : Code} {L : Nat} {xs : Nat → Int32} {i : Int32} {Q9 : State → Prop} (hx : p.tables.exec = Jvm.exec) (hb : c.code = cL_law) (hml : c.maxLocals = 9) (hown : s.vm.findClass RL = some m.cls) (hg : ∀ w ∈ GW, w.before #[Value.ref b] s = true) (hK : va_K κ.1 vwCl (kTy κ) s) (hX : XY κ (tA σ0 s.heap.size) s s.heap) (hXs : va_X b L xs s s.heap) (hbl : b < s.heap.size) (hbA : ¬ tA σ0 s.heap.size b) (zx : zroomX κ s room_1 601024 7293034) (hi0 : 0 ≤ i.toInt) (hi1 : i.toInt + 6 ≤ L) (hL9 : L ≤ 3072) {σ : Gh} {H : Heap} {locs : List Loc} {ls : Array Slot} (hT : TS κ fA σ0 σ s H locs) (hR : RI κ σ mm) (hrel : LREL κ σ x mm) (hsr : SREL κ σ x mm) (hsm : SMP κ σ x mm) (hl : lv_has ls 9 [(4, .int i), (3, .ref out), (2, .ref mm), (1, .ref x), (0, .ref b)]) (KK : ∀ (σ1 : Gh) (H : Heap) (locs : List Loc) (ls : Array Slot), TS (kX κ) fA σ0 σ1 s H locs → RI (kX κ) σ1 mm → LREL κ σ1 x mm → SREL κ σ1 x mm → SMP κ σ1 x mm → lv_has ls 9 [(4, .int i), (3, .ref out), (2, .ref mm), (1, .ref x), (0, .ref b)] → W p l e room_1 s m #[Value.ref b] below meth c H locs 601024 7293034 Q9 (F0 m 1432 ls [])) : W p l e room_1 s m #[Value.ref b] below meth c H locs 601024 7293034 Q9 (F0 m 583 ls []) := by
  obtain ⟨y1, hy1⟩ : ∃ z, z = xs (ix i + 1) := ⟨_, rfl⟩
  obtain ⟨y2, hy2⟩ : ∃ z, z = xs (ix i + 2) := ⟨_, rfl⟩
  obtain ⟨y3, hy3⟩ : ∃ z, z = xs (ix i + 3) := ⟨_, rfl⟩
  obtain ⟨y4, hy4⟩ : ∃ z, z = xs (ix i + 4) := ⟨_, rfl⟩
  obtain ⟨y5, hy5⟩ : ∃ z, z = xs (ix i + 5) := ⟨_, rfl⟩
  have n0 : (0 : Int32).toInt = 0 := by decide
  have n1 : (1 : Int32).toInt = 1 := by decide
  have n2 : (2 : Int32).toInt = 2 := by decide
  have n3 : (3 : Int32).toInt = 3 := by decide
  have n4 : (4 : Int32).toInt = 4 := by decide
  have n5 : (5 : Int32).toInt = 5 := by decide
  obtain ⟨tx, etx⟩ : ∃ z, kR κ x 0 = z := ⟨_, rfl⟩
  have ttx : zk σ0 tx 6 := by rw [← etx]; exact ttx0
  obtain ⟨rB, erB⟩ : ∃ z, kR κ tx 0 = z := ⟨_, rfl⟩
  have trB : zk σ0 rB 14 := by rw [← erB]; exact hT.kr (hT.ref (hT.k ttx (by decide)) (by decide) (by decide) (by decide)) (by decide) (by decide)
  obtain ⟨rT, erT⟩ : ∃ z, kR κ mm 12 = z := ⟨_, rfl⟩
  have trT : zk σ0 rT 23 := by rw [← erT]; exact hT.kr (hT.ref (hT.k t_mm (by decide)) (by decide) (by decide) (by decide)) (by decide) (by decide)
  obtain ⟨rI, erI⟩ : ∃ z, kR κ x 6 = z := ⟨_, rfl⟩
  have trI : zk σ0 rI 13 := by rw [← erI]; exact hT.kr (hT.ref (hT.k t_x (by decide)) (by decide) (by decide) (by decide)) (by decide) (by decide)
  obtain ⟨rK, erK⟩ : ∃ z, kR κ mm 4 = z := ⟨_, rfl⟩
  have trK : zk σ0 rK 29 := by rw [← erK]; exact hT.kr (hT.ref (hT.k t_mm (by decide)) (by decide) (by decide) (by decide)) (by decide) (by decide)
  obtain ⟨hlen, ⟨hal, hnn⟩, ⟨hco, hpo⟩, hkp⟩ := hrel
  rw [etx] at hlen hal hco hpo
  rw [erB, erT] at hal
  rw [erT] at hnn
  rw [erI, erK] at hkp
  have btx := (hT.P (hT.k ttx (by decide)) (by decide)).1
  have btxl := btx.1
  have btxh := btx.2
  obtain ⟨nw, enw⟩ : ∃ z, kR κ x 3 = z := ⟨_, rfl⟩
  have tnw : zk σ0 nw 3 := by rw [← enw]; exact hT.kr (hT.ref (hT.k t_x (by decide)) (by decide) (by decide) (by decide)) (by decide) (by decide)
  obtain ⟨tr, etr⟩ : ∃ z, kR κ x 4 = z := ⟨_, rfl⟩
  have ttr : zk σ0 tr 3 := by rw [← etr]; exact hT.kr (hT.ref (hT.k t_x (by decide)) (by decide) (by decide) (by decide)) (by decide) (by decide)
  obtain ⟨rs5, ers5⟩ : ∃ z, kR κ x 5 = z := ⟨_, rfl⟩
  have trs5 : zk σ0 rs5 12 := by rw [← ers5]; exact hT.kr (hT.ref (hT.k t_x (by decide)) (by decide) (by decide) (by decide)) (by decide) (by decide)
  obtain ⟨sl0, esl0⟩ : ∃ z, kR κ rs5 0 = z := ⟨_, rfl⟩
  have tsl0 : zk σ0 sl0 3 := by rw [← esl0]; exact hT.kr (hT.ref (hT.k trs5 (by decide)) (by decide) (by decide) (by decide)) (by decide) (by decide)
  obtain ⟨sl1, esl1⟩ : ∃ z, kR κ rs5 1 = z := ⟨_, rfl⟩
  have tsl1 : zk σ0 sl1 3 := by rw [← esl1]; exact hT.kr (hT.ref (hT.k trs5 (by decide)) (by decide) (by decide) (by decide)) (by decide) (by decide)
  obtain ⟨rW, erW⟩ : ∃ z, kR κ mm 1 = z := ⟨_, rfl⟩
  have trW : zk σ0 rW 21 := by rw [← erW]; exact hT.kr (hT.ref (hT.k t_mm (by decide)) (by decide) (by decide) (by decide)) (by decide) (by decide)
  obtain ⟨rS, erS⟩ : ∃ z, kR κ mm 3 = z := ⟨_, rfl⟩
  have trS : zk σ0 rS 22 := by rw [← erS]; exact hT.kr (hT.ref (hT.k t_mm (by decide)) (by decide) (by decide) (by decide)) (by decide) (by decide)
  obtain ⟨so, eso⟩ : ∃ z, kR κ x 1 = z := ⟨_, rfl⟩
  have tso : zk σ0 so 4 := by rw [← eso]; exact hT.kr (hT.ref (hT.k t_x (by decide)) (by decide) (by decide) (by decide)) (by decide) (by decide)
  obtain ⟨qP, eqP⟩ : ∃ z, kR κ so 0 = z := ⟨_, rfl⟩
  have tqP : zk σ0 qP 8 := by rw [← eqP]; exact hT.kr (hT.ref (hT.k tso (by decide)) (by decide) (by decide) (by decide)) (by decide) (by decide)
  obtain ⟨qO, eqO⟩ : ∃ z, kR κ so 1 = z := ⟨_, rfl⟩
  have tqO : zk σ0 qO 16 := by rw [← eqO]; exact hT.kr (hT.ref (hT.k tso (by decide)) (by decide) (by decide) (by decide)) (by decide) (by decide)
  obtain ⟨r5, er5⟩ : ∃ z, kR κ mm 5 = z := ⟨_, rfl⟩
  have tr5 : zk σ0 r5 25 := by rw [← er5]; exact hT.kr (hT.ref (hT.k t_mm (by decide)) (by decide) (by decide) (by decide)) (by decide) (by decide)
  obtain ⟨r6, er6⟩ : ∃ z, kR κ mm 6 = z := ⟨_, rfl⟩
  have tr6 : zk σ0 r6 26 := by rw [← er6]; exact hT.kr (hT.ref (hT.k t_mm (by decide)) (by decide) (by decide) (by decide)) (by decide) (by decide)
  obtain ⟨hnw, hsl⟩ := hsr
  obtain ⟨hd1, ⟨hd2, hd3⟩, hd4, hd5, hd6, hd7⟩ := hdis
  have d_nt : nw ≠ tr := by rw [← enw, ← etr]; exact hd2
  have d_n0 : nw ≠ sl0 := by rw [← enw, ← esl0, ← ers5]; exact hd3 0 (by decide)
  have d_t0 : sl0 ≠ tr := by rw [← etr, ← esl0, ← ers5]; exact fun q => hd4 0 (by decide) q.symm
  have d_n1 : nw ≠ sl1 := by rw [← enw, ← esl1, ← ers5]; exact hd3 1 (by decide)
  have d_t1 : sl1 ≠ tr := by rw [← etr, ← esl1, ← ers5]; exact fun q => hd4 1 (by decide) q.symm
  have d_01 : sl0 ≠ sl1 := by rw [← esl0, ← esl1, ← ers5]; exact hd5
  have knw : zk σ nw 3 := hT.k tnw (by decide)
  have ksl0 : zk σ sl0 3 := hT.k tsl0 (by decide)
  have ksl1 : zk σ sl1 3 := hT.k tsl1 (by decide)
  refine lv_aload_n hx hb dL_law_583 rfl (lv_at hl 3 rfl) ?_
  have hTo := hT
  refine tVl (n := 0) (As := []) (rest := []) hx hb hml hown hg hT hK hX (X5_integral l κ σ x (hT.k t_x (by decide))) sub_fE_fA (mwV k431 k432 k433 k84 k434) ⟨rfl, by decide, by decide, by decide +kernel⟩ ⟨(Nat.le_of_ble_eq_true rfl), (Nat.le_of_ble_eq_true rfl)⟩ (hT.o7 (hT.k t_x (by decide))) rfl rfl hl.1 rfl (Nat.le_of_ble_eq_true rfl) dL_law_584 zx.dn (fun r2 s1 H locs hφ hE hT => ?_)
  have R3 := hR.ext hE ⟨rfl, rfl, fun _ => rfl, fun _ => rfl, fun _ => rfl, fun _ => rfl⟩
  have a4 : (zI s1 tx 1).toInt = (zI σ tx 1).toInt := by rw [(hTo.k ttx (by decide)).eI hE (by decide) rfl]
  have j5 : zI s1 rB = zI σ rB := (show zI s1 rB = zI σ rB from funext fun k => (hTo.k trB (by decide)).eI hE (by decide) rfl)
  have j6 : zI s1 rT = zI σ rT := (show zI s1 rT = zI σ rT from funext fun k => (hTo.k trT (by decide)).eI hE (by decide) rfl)
  have j7 : zI s1 rI = zI σ rI := (show zI s1 rI = zI σ rI from funext fun k => (hTo.k trI (by decide)).eI hE (by decide) rfl)
  have j8 : zI s1 rK = zI σ rK := (show zI s1 rK = zI σ rK from funext fun k => (hTo.k trK (by decide)).eI hE (by decide) rfl)
  have j9 : zI s1 tx 2 = zI σ tx 2 := (hTo.k ttx (by decide)).eI hE (by decide) rfl
  have j10 : zI s1 tx 3 = zI σ tx 3 := (hTo.k ttx (by decide)).eI hE (by decide) rfl
  have j11 : zI s1 mm 15 = zI σ mm 15 := (hTo.k t_mm (by decide)).eI hE (by decide) rfl
  have j12 : zI s1 mm 16 = zI σ mm 16 := (hTo.k t_mm (by decide)).eI hE (by decide) rfl
  have n13 : zI s1 nw 7 = zI σ nw 7 ∧ zI s1 nw 8 = zI σ nw 8 ∧ zI s1 nw 9 = zI σ nw 9 := ⟨(hTo.k tnw (by decide)).eI hE (by decide) rfl, (hTo.k tnw (by decide)).eI hE (by decide) rfl, (hTo.k tnw (by decide)).eI hE (by decide) rfl⟩
  have n14 : zI s1 sl0 7 = zI σ sl0 7 ∧ zI s1 sl0 8 = zI σ sl0 8 ∧ zI s1 sl0 9 = zI σ sl0 9 := ⟨(hTo.k tsl0 (by decide)).eI hE (by decide) rfl, (hTo.k tsl0 (by decide)).eI hE (by decide) rfl, (hTo.k tsl0 (by decide)).eI hE (by decide) rfl⟩
  have n15 : zI s1 sl1 7 = zI σ sl1 7 ∧ zI s1 sl1 8 = zI σ sl1 8 ∧ zI s1 sl1 9 = zI σ sl1 9 := ⟨(hTo.k tsl1 (by decide)).eI hE (by decide) rfl, (hTo.k tsl1 (by decide)).eI hE (by decide) rfl, (hTo.k tsl1 (by decide)).eI hE (by decide) rfl⟩
  have n16 : ∀ j : Nat, j < 3 → zJ s1 rW j = zJ σ rW j := fun j hj => (hTo.k trW (by decide)).eJ hE (by decide) rfl
  have n17 : zJ s1 rS = zJ σ rS := (show zJ s1 rS = zJ σ rS from funext fun k => (hTo.k trS (by decide)).eJ hE (by decide) rfl)
  have z18 : zI s1 so 2 = zI σ so 2 ∧ zI s1 so 6 = zI σ so 6 ∧ zI s1 qP = zI σ qP ∧ zI s1 qO = zI σ qO := ⟨(hTo.k tso (by decide)).eI hE (by decide) rfl, (hTo.k tso (by decide)).eI hE (by decide) rfl, funext fun q9 => (hTo.k tqP (by decide)).eI hE (by decide) rfl, funext fun q9 => (hTo.k tqO (by decide)).eI hE (by decide) rfl⟩
  have z19 : zI s1 mm 7 = zI σ mm 7 ∧ zI s1 mm 8 = zI σ mm 8 ∧ zI s1 r5 = zI σ r5 ∧ zI s1 r6 = zI σ r6 := ⟨(hTo.k t_mm (by decide)).eI hE (by decide) rfl, (hTo.k t_mm (by decide)).eI hE (by decide) rfl, funext fun q9 => (hTo.k tr5 (by decide)).eI hE (by decide) rfl, funext fun q9 => (hTo.k tr6 (by decide)).eI hE (by decide) rfl⟩
  have a20 : (zI s1 mm 13).toInt = (zI σ mm 13).toInt := by rw [(hTo.k t_mm (by decide)).eI hE (by decide) rfl]
  refine lv_pop2_2 hx hb dL_law_587 rfl ?_
  refine lv_aload_n hx hb dL_law_588 rfl (lv_at hl 2 rfl) ?_
  have hTo := hT
  refine tVl (n := 0) (As := []) (rest := []) hx hb hml hown hg hT hK hX (X6_integral l κ s1 mm (hT.k t_mm (by decide)) R3) sub_gR_fA (mwV k1472 k1473 k1474 k92 k1475) ⟨rfl, by decide, by decide, by decide +kernel⟩ ⟨(Nat.le_of_ble_eq_true rfl), (Nat.le_of_ble_eq_true rfl)⟩ (hT.o20 (hT.k t_mm (by decide))) rfl rfl hl.1 rfl (Nat.le_of_ble_eq_true rfl) dL_law_589 zx.dn (fun r22 s21 H locs hφ hE hT => ?_)
  have R23 := R3.ext hE ⟨rfl, rfl, fun _ => rfl, fun _ => rfl, fun _ => rfl, fun _ => rfl⟩
  have a24 : (zI s21 tx 1).toInt = (zI s1 tx 1).toInt := by rw [(hTo.k ttx (by decide)).eI hE (by decide) rfl]
  have j25 : zI s21 rB = zI σ rB := ((show zI s21 rB = zI s1 rB from funext fun k => (hTo.k trB (by decide)).eI hE (by decide) rfl)).trans j5
  have j26 : zI s21 rT = zI σ rT := ((show zI s21 rT = zI s1 rT from funext fun k => (hTo.k trT (by decide)).eI hE (by decide) rfl)).trans j6
  have j27 : zI s21 rI = zI σ rI := ((show zI s21 rI = zI s1 rI from funext fun k => (hTo.k trI (by decide)).eI hE (by decide) rfl)).trans j7
  have j28 : zI s21 rK = zI σ rK := ((show zI s21 rK = zI s1 rK from funext fun k => (hTo.k trK (by decide)).eI hE (by decide) rfl)).trans j8
  have j29 : zI s21 tx 2 = zI σ tx 2 := ((hTo.k ttx (by decide)).eI hE (by decide) rfl).trans j9
  have j30 : zI s21 tx 3 = zI σ tx 3 := ((hTo.k ttx (by decide)).eI hE (by decide) rfl).trans j10
  have j31 : zI s21 mm 15 = zI σ mm 15 := ((hTo.k t_mm (by decide)).eI hE (by decide) rfl).trans j11
  have j32 : zI s21 mm 16 = zI σ mm 16 := ((hTo.k t_mm (by decide)).eI hE (by decide) rfl).trans j12
  have n33 : zI s21 nw 7 = zI s1 nw 7 ∧ zI s21 nw 8 = zI s1 nw 8 ∧ zI s21 nw 9 = zI s1 nw 9 := ⟨(hTo.k tnw (by decide)).eI hE (by decide) rfl, (hTo.k tnw (by decide)).eI hE (by decide) rfl, (hTo.k tnw (by decide)).eI hE (by decide) rfl⟩
  have n34 : zI s21 nw 7 = zI σ nw 7 ∧ zI s21 nw 8 = zI σ nw 8 ∧ zI s21 nw 9 = zI σ nw 9 := ⟨n33.1.trans n13.1, n33.2.1.trans n13.2.1, n33.2.2.trans n13.2.2⟩
  have n35 : zI s21 sl0 7 = zI s1 sl0 7 ∧ zI s21 sl0 8 = zI s1 sl0 8 ∧ zI s21 sl0 9 = zI s1 sl0 9 := ⟨(hTo.k tsl0 (by decide)).eI hE (by decide) rfl, (hTo.k tsl0 (by decide)).eI hE (by decide) rfl, (hTo.k tsl0 (by decide)).eI hE (by decide) rfl⟩
  have n36 : zI s21 sl0 7 = zI σ sl0 7 ∧ zI s21 sl0 8 = zI σ sl0 8 ∧ zI s21 sl0 9 = zI σ sl0 9 := ⟨n35.1.trans n14.1, n35.2.1.trans n14.2.1, n35.2.2.trans n14.2.2⟩
  have n37 : zI s21 sl1 7 = zI s1 sl1 7 ∧ zI s21 sl1 8 = zI s1 sl1 8 ∧ zI s21 sl1 9 = zI s1 sl1 9 := ⟨(hTo.k tsl1 (by decide)).eI hE (by decide) rfl, (hTo.k tsl1 (by decide)).eI hE (by decide) rfl, (hTo.k tsl1 (by decide)).eI hE (by decide) rfl⟩
  have n38 : zI s21 sl1 7 = zI σ sl1 7 ∧ zI s21 sl1 8 = zI σ sl1 8 ∧ zI s21 sl1 9 = zI σ sl1 9 := ⟨n37.1.trans n15.1, n37.2.1.trans n15.2.1, n37.2.2.trans n15.2.2⟩
  have n39 : ∀ j : Nat, j < 3 → zJ s21 rW j = zJ s1 rW j := fun j hj => (hTo.k trW (by decide)).eJ hE (by decide) rfl
  have n40 : ∀ j : Nat, j < 3 → zJ s21 rW j = zJ σ rW j := fun j hj => (n39 j hj).trans (n16 j hj)
  have n41 : zJ s21 rS = zJ σ rS := (show zJ s21 rS = zJ s1 rS from funext fun k => (hTo.k trS (by decide)).eJ hE (by decide) rfl).trans n17
  have z42 : zI s21 so 2 = zI s1 so 2 ∧ zI s21 so 6 = zI s1 so 6 ∧ zI s21 qP = zI s1 qP ∧ zI s21 qO = zI s1 qO := ⟨(hTo.k tso (by decide)).eI hE (by decide) rfl, (hTo.k tso (by decide)).eI hE (by decide) rfl, funext fun q9 => (hTo.k tqP (by decide)).eI hE (by decide) rfl, funext fun q9 => (hTo.k tqO (by decide)).eI hE (by decide) rfl⟩
  have z43 : zI s21 so 2 = zI σ so 2 ∧ zI s21 so 6 = zI σ so 6 ∧ zI s21 qP = zI σ qP ∧ zI s21 qO = zI σ qO := ⟨z42.1.trans z18.1, z42.2.1.trans z18.2.1, z42.2.2.1.trans z18.2.2.1, z42.2.2.2.trans z18.2.2.2⟩
  have z44 : zI s21 mm 7 = zI s1 mm 7 ∧ zI s21 mm 8 = zI s1 mm 8 ∧ zI s21 r5 = zI s1 r5 ∧ zI s21 r6 = zI s1 r6 := ⟨(hTo.k t_mm (by decide)).eI hE (by decide) rfl, (hTo.k t_mm (by decide)).eI hE (by decide) rfl, funext fun q9 => (hTo.k tr5 (by decide)).eI hE (by decide) rfl, funext fun q9 => (hTo.k tr6 (by decide)).eI hE (by decide) rfl⟩
  have z45 : zI s21 mm 7 = zI σ mm 7 ∧ zI s21 mm 8 = zI σ mm 8 ∧ zI s21 r5 = zI σ r5 ∧ zI s21 r6 = zI σ r6 := ⟨z44.1.trans z19.1, z44.2.1.trans z19.2.1, z44.2.2.1.trans z19.2.2.1, z44.2.2.2.trans z19.2.2.2⟩
  have a46 : (zI s21 mm 13).toInt = (zI s1 mm 13).toInt := by rw [(hTo.k t_mm (by decide)).eI hE (by decide) rfl]
  refine lv_pop2_2 hx hb dL_law_592 rfl ?_
  refine lv_goto (tgt := 1432) hx hb dL_law_593 (by decide) ?_
  have sl0f : zI s21 rI 0 ≠ 0 → SLT κ s21 x mm 0 := fun hq => (hsl 0 (by decide) (fun q9 => hq (by rw [erI] at q9; rw [j27]; exact q9))).tr (by rw [ers5, esl0]; exact n36) (fun j hj => by rw [erS, n41])
  have sl1f : zI s21 rI 1 ≠ 0 → SLT κ s21 x mm 1 := fun hq => (hsl 1 (by decide) (fun q9 => hq (by rw [erI] at q9; rw [j27]; exact q9))).tr (by rw [ers5, esl1]; exact n38) (fun j hj => by rw [erS, n41])
  exact KK s21 _ _ _ hT.up R23 ⟨by rw [etx]; omega, ⟨by rw [etx, erB, erT, j25, j26]; exact tal_less hal (by omega), by rw [erT, j26]; exact tnn_less hnn (by omega)⟩, ⟨by rw [etx, j29, j31]; exact hco, by rw [etx, j30, j32]; exact hpo⟩, fun i hi => by rw [erI, erK, j27, j28]; exact hkp i hi⟩ (⟨hnw.tr (by rw [enw]; exact n34) (by rw [erW]; exact n40), fun i hi => (show i = 0 ∨ i = 1 by omega).elim (fun e9 => by rw [e9, erI]; exact sl0f) (fun e9 => by rw [e9, erI]; exact sl1f)⟩) (hsm.tr (by rw [eso, eqP, eqO]; exact z43) (by rw [er5, er6]; exact z45)) (lv_sub hl [0, 1, 2, 3, 4] rfl)
set_option maxHeartbeats 4000000 in
set_option maxRecDepth 100000 in
theorem lc_12 (l : Launch) (κ : Kt) (σ0 : Gh) (x mm out b : Nat) (t_x : zk σ0 x 7) (t_mm : zk σ0 mm 20) (t_out : zk σ0 out 24) (ttx0 : zk σ0 (kR κ x 0) 6) (hdis : DIS κ x) (hlt : l.stackTraces = false) {p : Program} {e : Env} {s : State} {m : MethodId} {below : List Frame} {meth : Method} {c : Code} {L : Nat} {xs : Nat → Int32} {i : Int32} {Q9 : State → Prop} (hx : p.tables.exec = Jvm.exec) (hb : c.code = cL_law) (hml : c.maxLocals = 9) (hown : s.vm.findClass RL = some m.cls) (hg : ∀ w ∈ GW, w.before #[Value.ref b] s = true) (hK : va_K κ.1 vwCl (kTy κ) s) (hX : XY κ (tA σ0 s.heap.size) s s.heap) (hXs : va_X b L xs s s.heap) (hbl : b < s.heap.size) (hbA : ¬ tA σ0 s.heap.size b) (zx : zroomX κ s room_1 601024 7293034) (hi0 : 0 ≤ i.toInt) (hi1 : i.toInt + 6 ≤ L) (hL9 : L ≤ 3072) {σ : Gh} {H : Heap} {locs : List Loc} {ls : Array Slot} (hT : TS κ fA σ0 σ s H locs) (hR : RI κ σ mm) (hrel : LREL κ σ x mm) (hsr : SREL κ σ x mm) (hsm : SMP κ σ x mm) (hl : lv_has ls 9 [(4, .int i), (3, .ref out), (2, .ref mm), (1, .ref x), (0, .ref b)]) (KK : ∀ (σ1 : Gh) (H : Heap) (locs : List Loc) (ls : Array Slot), TS (kX κ) fA σ0 σ1 s H locs → RI (kX κ) σ1 mm → LREL κ σ1 x mm → SREL κ σ1 x mm → SMP κ σ1 x mm → lv_has ls 9 [(4, .int i), (3, .ref out), (2, .ref mm), (1, .ref x), (0, .ref b)] → W p l e room_1 s m #[Value.ref b] below meth c H locs 601024 7293034 Q9 (F0 m 1432 ls [])) : W p l e room_1 s m #[Value.ref b] below meth c H locs 601024 7293034 Q9 (F0 m 596 ls []) := by
  obtain ⟨y1, hy1⟩ : ∃ z, z = xs (ix i + 1) := ⟨_, rfl⟩
  obtain ⟨y2, hy2⟩ : ∃ z, z = xs (ix i + 2) := ⟨_, rfl⟩
  obtain ⟨y3, hy3⟩ : ∃ z, z = xs (ix i + 3) := ⟨_, rfl⟩
  obtain ⟨y4, hy4⟩ : ∃ z, z = xs (ix i + 4) := ⟨_, rfl⟩
  obtain ⟨y5, hy5⟩ : ∃ z, z = xs (ix i + 5) := ⟨_, rfl⟩
  have n0 : (0 : Int32).toInt = 0 := by decide
  have n1 : (1 : Int32).toInt = 1 := by decide
  have n2 : (2 : Int32).toInt = 2 := by decide
  have n3 : (3 : Int32).toInt = 3 := by decide
  have n4 : (4 : Int32).toInt = 4 := by decide
  have n5 : (5 : Int32).toInt = 5 := by decide
  obtain ⟨tx, etx⟩ : ∃ z, kR κ x 0 = z := ⟨_, rfl⟩
  have ttx : zk σ0 tx 6 := by rw [← etx]; exact ttx0
  obtain ⟨rB, erB⟩ : ∃ z, kR κ tx 0 = z := ⟨_, rfl⟩
  have trB : zk σ0 rB 14 := by rw [← erB]; exact hT.kr (hT.ref (hT.k ttx (by decide)) (by decide) (by decide) (by decide)) (by decide) (by decide)
  obtain ⟨rT, erT⟩ : ∃ z, kR κ mm 12 = z := ⟨_, rfl⟩
  have trT : zk σ0 rT 23 := by rw [← erT]; exact hT.kr (hT.ref (hT.k t_mm (by decide)) (by decide) (by decide) (by decide)) (by decide) (by decide)
  obtain ⟨rI, erI⟩ : ∃ z, kR κ x 6 = z := ⟨_, rfl⟩
  have trI : zk σ0 rI 13 := by rw [← erI]; exact hT.kr (hT.ref (hT.k t_x (by decide)) (by decide) (by decide) (by decide)) (by decide) (by decide)
  obtain ⟨rK, erK⟩ : ∃ z, kR κ mm 4 = z := ⟨_, rfl⟩
  have trK : zk σ0 rK 29 := by rw [← erK]; exact hT.kr (hT.ref (hT.k t_mm (by decide)) (by decide) (by decide) (by decide)) (by decide) (by decide)
  obtain ⟨hlen, ⟨hal, hnn⟩, ⟨hco, hpo⟩, hkp⟩ := hrel
  rw [etx] at hlen hal hco hpo
  rw [erB, erT] at hal
  rw [erT] at hnn
  rw [erI, erK] at hkp
  have btx := (hT.P (hT.k ttx (by decide)) (by decide)).1
  have btxl := btx.1
  have btxh := btx.2
  obtain ⟨nw, enw⟩ : ∃ z, kR κ x 3 = z := ⟨_, rfl⟩
  have tnw : zk σ0 nw 3 := by rw [← enw]; exact hT.kr (hT.ref (hT.k t_x (by decide)) (by decide) (by decide) (by decide)) (by decide) (by decide)
  obtain ⟨tr, etr⟩ : ∃ z, kR κ x 4 = z := ⟨_, rfl⟩
  have ttr : zk σ0 tr 3 := by rw [← etr]; exact hT.kr (hT.ref (hT.k t_x (by decide)) (by decide) (by decide) (by decide)) (by decide) (by decide)
  obtain ⟨rs5, ers5⟩ : ∃ z, kR κ x 5 = z := ⟨_, rfl⟩
  have trs5 : zk σ0 rs5 12 := by rw [← ers5]; exact hT.kr (hT.ref (hT.k t_x (by decide)) (by decide) (by decide) (by decide)) (by decide) (by decide)
  obtain ⟨sl0, esl0⟩ : ∃ z, kR κ rs5 0 = z := ⟨_, rfl⟩
  have tsl0 : zk σ0 sl0 3 := by rw [← esl0]; exact hT.kr (hT.ref (hT.k trs5 (by decide)) (by decide) (by decide) (by decide)) (by decide) (by decide)
  obtain ⟨sl1, esl1⟩ : ∃ z, kR κ rs5 1 = z := ⟨_, rfl⟩
  have tsl1 : zk σ0 sl1 3 := by rw [← esl1]; exact hT.kr (hT.ref (hT.k trs5 (by decide)) (by decide) (by decide) (by decide)) (by decide) (by decide)
  obtain ⟨rW, erW⟩ : ∃ z, kR κ mm 1 = z := ⟨_, rfl⟩
  have trW : zk σ0 rW 21 := by rw [← erW]; exact hT.kr (hT.ref (hT.k t_mm (by decide)) (by decide) (by decide) (by decide)) (by decide) (by decide)
  obtain ⟨rS, erS⟩ : ∃ z, kR κ mm 3 = z := ⟨_, rfl⟩
  have trS : zk σ0 rS 22 := by rw [← erS]; exact hT.kr (hT.ref (hT.k t_mm (by decide)) (by decide) (by decide) (by decide)) (by decide) (by decide)
  obtain ⟨so, eso⟩ : ∃ z, kR κ x 1 = z := ⟨_, rfl⟩
  have tso : zk σ0 so 4 := by rw [← eso]; exact hT.kr (hT.ref (hT.k t_x (by decide)) (by decide) (by decide) (by decide)) (by decide) (by decide)
  obtain ⟨qP, eqP⟩ : ∃ z, kR κ so 0 = z := ⟨_, rfl⟩
  have tqP : zk σ0 qP 8 := by rw [← eqP]; exact hT.kr (hT.ref (hT.k tso (by decide)) (by decide) (by decide) (by decide)) (by decide) (by decide)
  obtain ⟨qO, eqO⟩ : ∃ z, kR κ so 1 = z := ⟨_, rfl⟩
  have tqO : zk σ0 qO 16 := by rw [← eqO]; exact hT.kr (hT.ref (hT.k tso (by decide)) (by decide) (by decide) (by decide)) (by decide) (by decide)
  obtain ⟨r5, er5⟩ : ∃ z, kR κ mm 5 = z := ⟨_, rfl⟩
  have tr5 : zk σ0 r5 25 := by rw [← er5]; exact hT.kr (hT.ref (hT.k t_mm (by decide)) (by decide) (by decide) (by decide)) (by decide) (by decide)
  obtain ⟨r6, er6⟩ : ∃ z, kR κ mm 6 = z := ⟨_, rfl⟩
  have tr6 : zk σ0 r6 26 := by rw [← er6]; exact hT.kr (hT.ref (hT.k t_mm (by decide)) (by decide) (by decide) (by decide)) (by decide) (by decide)
  obtain ⟨hnw, hsl⟩ := hsr
  obtain ⟨hd1, ⟨hd2, hd3⟩, hd4, hd5, hd6, hd7⟩ := hdis
  have d_nt : nw ≠ tr := by rw [← enw, ← etr]; exact hd2
  have d_n0 : nw ≠ sl0 := by rw [← enw, ← esl0, ← ers5]; exact hd3 0 (by decide)
  have d_t0 : sl0 ≠ tr := by rw [← etr, ← esl0, ← ers5]; exact fun q => hd4 0 (by decide) q.symm
  have d_n1 : nw ≠ sl1 := by rw [← enw, ← esl1, ← ers5]; exact hd3 1 (by decide)
  have d_t1 : sl1 ≠ tr := by rw [← etr, ← esl1, ← ers5]; exact fun q => hd4 1 (by decide) q.symm
  have d_01 : sl0 ≠ sl1 := by rw [← esl0, ← esl1, ← ers5]; exact hd5
  have knw : zk σ nw 3 := hT.k tnw (by decide)
  have ksl0 : zk σ sl0 3 := hT.k tsl0 (by decide)
  have ksl1 : zk σ sl1 3 := hT.k tsl1 (by decide)
  refine lv_aload_n hx hb dL_law_596 rfl (lv_at hl 3 rfl) ?_
  have hTo := hT
  refine tVl (n := 0) (As := []) (rest := []) hx hb hml hown hg hT hK hX (X5_drift l κ σ x (hT.k t_x (by decide))) sub_fW_fA (mwV k447 k448 k449 k84 k450) ⟨rfl, by decide, by decide, by decide +kernel⟩ ⟨(Nat.le_of_ble_eq_true rfl), (Nat.le_of_ble_eq_true rfl)⟩ (hT.o7 (hT.k t_x (by decide))) rfl rfl hl.1 rfl (Nat.le_of_ble_eq_true rfl) dL_law_597 zx.dn (fun r2 s1 H locs hφ hE hT => ?_)
  have R3 := hR.ext hE ⟨rfl, rfl, fun _ => rfl, fun _ => rfl, fun _ => rfl, fun _ => rfl⟩
  have a4 : (zI s1 tx 1).toInt = (zI σ tx 1).toInt := by rw [(hTo.k ttx (by decide)).eI hE (by decide) rfl]
  have j5 : zI s1 rB = zI σ rB := (show zI s1 rB = zI σ rB from funext fun k => (hTo.k trB (by decide)).eI hE (by decide) rfl)
  have j6 : zI s1 rT = zI σ rT := (show zI s1 rT = zI σ rT from funext fun k => (hTo.k trT (by decide)).eI hE (by decide) rfl)
  have j7 : zI s1 rI = zI σ rI := (show zI s1 rI = zI σ rI from funext fun k => (hTo.k trI (by decide)).eI hE (by decide) rfl)
  have j8 : zI s1 rK = zI σ rK := (show zI s1 rK = zI σ rK from funext fun k => (hTo.k trK (by decide)).eI hE (by decide) rfl)
  have j9 : zI s1 tx 2 = zI σ tx 2 := (hTo.k ttx (by decide)).eI hE (by decide) rfl
  have j10 : zI s1 tx 3 = zI σ tx 3 := (hTo.k ttx (by decide)).eI hE (by decide) rfl
  have j11 : zI s1 mm 15 = zI σ mm 15 := (hTo.k t_mm (by decide)).eI hE (by decide) rfl
  have j12 : zI s1 mm 16 = zI σ mm 16 := (hTo.k t_mm (by decide)).eI hE (by decide) rfl
  have n13 : zI s1 nw 7 = zI σ nw 7 ∧ zI s1 nw 8 = zI σ nw 8 ∧ zI s1 nw 9 = zI σ nw 9 := ⟨(hTo.k tnw (by decide)).eI hE (by decide) rfl, (hTo.k tnw (by decide)).eI hE (by decide) rfl, (hTo.k tnw (by decide)).eI hE (by decide) rfl⟩
  have n14 : zI s1 sl0 7 = zI σ sl0 7 ∧ zI s1 sl0 8 = zI σ sl0 8 ∧ zI s1 sl0 9 = zI σ sl0 9 := ⟨(hTo.k tsl0 (by decide)).eI hE (by decide) rfl, (hTo.k tsl0 (by decide)).eI hE (by decide) rfl, (hTo.k tsl0 (by decide)).eI hE (by decide) rfl⟩
  have n15 : zI s1 sl1 7 = zI σ sl1 7 ∧ zI s1 sl1 8 = zI σ sl1 8 ∧ zI s1 sl1 9 = zI σ sl1 9 := ⟨(hTo.k tsl1 (by decide)).eI hE (by decide) rfl, (hTo.k tsl1 (by decide)).eI hE (by decide) rfl, (hTo.k tsl1 (by decide)).eI hE (by decide) rfl⟩
  have n16 : ∀ j : Nat, j < 3 → zJ s1 rW j = zJ σ rW j := fun j hj => (hTo.k trW (by decide)).eJ hE (by decide) rfl
  have n17 : zJ s1 rS = zJ σ rS := (show zJ s1 rS = zJ σ rS from funext fun k => (hTo.k trS (by decide)).eJ hE (by decide) rfl)
  have z18 : zI s1 so 2 = zI σ so 2 ∧ zI s1 so 6 = zI σ so 6 ∧ zI s1 qP = zI σ qP ∧ zI s1 qO = zI σ qO := ⟨(hTo.k tso (by decide)).eI hE (by decide) rfl, (hTo.k tso (by decide)).eI hE (by decide) rfl, funext fun q9 => (hTo.k tqP (by decide)).eI hE (by decide) rfl, funext fun q9 => (hTo.k tqO (by decide)).eI hE (by decide) rfl⟩
  have z19 : zI s1 mm 7 = zI σ mm 7 ∧ zI s1 mm 8 = zI σ mm 8 ∧ zI s1 r5 = zI σ r5 ∧ zI s1 r6 = zI σ r6 := ⟨(hTo.k t_mm (by decide)).eI hE (by decide) rfl, (hTo.k t_mm (by decide)).eI hE (by decide) rfl, funext fun q9 => (hTo.k tr5 (by decide)).eI hE (by decide) rfl, funext fun q9 => (hTo.k tr6 (by decide)).eI hE (by decide) rfl⟩
  have a20 : (zI s1 mm 13).toInt = (zI σ mm 13).toInt := by rw [(hTo.k t_mm (by decide)).eI hE (by decide) rfl]
  refine lv_pop2_2 hx hb dL_law_600 rfl ?_
  refine lv_aload_n hx hb dL_law_601 rfl (lv_at hl 2 rfl) ?_
  have hTo := hT
  refine tVl (n := 0) (As := []) (rest := []) hx hb hml hown hg hT hK hX (X6_drift l κ s1 mm (hT.k t_mm (by decide)) R3) sub_gR_fA (mwV k1480 k1481 k1482 k92 k1483) ⟨rfl, by decide, by decide, by decide +kernel⟩ ⟨(Nat.le_of_ble_eq_true rfl), (Nat.le_of_ble_eq_true rfl)⟩ (hT.o20 (hT.k t_mm (by decide))) rfl rfl hl.1 rfl (Nat.le_of_ble_eq_true rfl) dL_law_602 zx.dn (fun r22 s21 H locs hφ hE hT => ?_)
  have R23 := R3.ext hE ⟨rfl, rfl, fun _ => rfl, fun _ => rfl, fun _ => rfl, fun _ => rfl⟩
  have a24 : (zI s21 tx 1).toInt = (zI s1 tx 1).toInt := by rw [(hTo.k ttx (by decide)).eI hE (by decide) rfl]
  have j25 : zI s21 rB = zI σ rB := ((show zI s21 rB = zI s1 rB from funext fun k => (hTo.k trB (by decide)).eI hE (by decide) rfl)).trans j5
  have j26 : zI s21 rT = zI σ rT := ((show zI s21 rT = zI s1 rT from funext fun k => (hTo.k trT (by decide)).eI hE (by decide) rfl)).trans j6
  have j27 : zI s21 rI = zI σ rI := ((show zI s21 rI = zI s1 rI from funext fun k => (hTo.k trI (by decide)).eI hE (by decide) rfl)).trans j7
  have j28 : zI s21 rK = zI σ rK := ((show zI s21 rK = zI s1 rK from funext fun k => (hTo.k trK (by decide)).eI hE (by decide) rfl)).trans j8
  have j29 : zI s21 tx 2 = zI σ tx 2 := ((hTo.k ttx (by decide)).eI hE (by decide) rfl).trans j9
  have j30 : zI s21 tx 3 = zI σ tx 3 := ((hTo.k ttx (by decide)).eI hE (by decide) rfl).trans j10
  have j31 : zI s21 mm 15 = zI σ mm 15 := ((hTo.k t_mm (by decide)).eI hE (by decide) rfl).trans j11
  have j32 : zI s21 mm 16 = zI σ mm 16 := ((hTo.k t_mm (by decide)).eI hE (by decide) rfl).trans j12
  have n33 : zI s21 nw 7 = zI s1 nw 7 ∧ zI s21 nw 8 = zI s1 nw 8 ∧ zI s21 nw 9 = zI s1 nw 9 := ⟨(hTo.k tnw (by decide)).eI hE (by decide) rfl, (hTo.k tnw (by decide)).eI hE (by decide) rfl, (hTo.k tnw (by decide)).eI hE (by decide) rfl⟩
  have n34 : zI s21 nw 7 = zI σ nw 7 ∧ zI s21 nw 8 = zI σ nw 8 ∧ zI s21 nw 9 = zI σ nw 9 := ⟨n33.1.trans n13.1, n33.2.1.trans n13.2.1, n33.2.2.trans n13.2.2⟩
  have n35 : zI s21 sl0 7 = zI s1 sl0 7 ∧ zI s21 sl0 8 = zI s1 sl0 8 ∧ zI s21 sl0 9 = zI s1 sl0 9 := ⟨(hTo.k tsl0 (by decide)).eI hE (by decide) rfl, (hTo.k tsl0 (by decide)).eI hE (by decide) rfl, (hTo.k tsl0 (by decide)).eI hE (by decide) rfl⟩
  have n36 : zI s21 sl0 7 = zI σ sl0 7 ∧ zI s21 sl0 8 = zI σ sl0 8 ∧ zI s21 sl0 9 = zI σ sl0 9 := ⟨n35.1.trans n14.1, n35.2.1.trans n14.2.1, n35.2.2.trans n14.2.2⟩
  have n37 : zI s21 sl1 7 = zI s1 sl1 7 ∧ zI s21 sl1 8 = zI s1 sl1 8 ∧ zI s21 sl1 9 = zI s1 sl1 9 := ⟨(hTo.k tsl1 (by decide)).eI hE (by decide) rfl, (hTo.k tsl1 (by decide)).eI hE (by decide) rfl, (hTo.k tsl1 (by decide)).eI hE (by decide) rfl⟩
  have n38 : zI s21 sl1 7 = zI σ sl1 7 ∧ zI s21 sl1 8 = zI σ sl1 8 ∧ zI s21 sl1 9 = zI σ sl1 9 := ⟨n37.1.trans n15.1, n37.2.1.trans n15.2.1, n37.2.2.trans n15.2.2⟩
  have n39 : ∀ j : Nat, j < 3 → zJ s21 rW j = zJ s1 rW j := fun j hj => (hTo.k trW (by decide)).eJ hE (by decide) rfl
  have n40 : ∀ j : Nat, j < 3 → zJ s21 rW j = zJ σ rW j := fun j hj => (n39 j hj).trans (n16 j hj)
  have n41 : zJ s21 rS = zJ σ rS := (show zJ s21 rS = zJ s1 rS from funext fun k => (hTo.k trS (by decide)).eJ hE (by decide) rfl).trans n17
  have z42 : zI s21 so 2 = zI s1 so 2 ∧ zI s21 so 6 = zI s1 so 6 ∧ zI s21 qP = zI s1 qP ∧ zI s21 qO = zI s1 qO := ⟨(hTo.k tso (by decide)).eI hE (by decide) rfl, (hTo.k tso (by decide)).eI hE (by decide) rfl, funext fun q9 => (hTo.k tqP (by decide)).eI hE (by decide) rfl, funext fun q9 => (hTo.k tqO (by decide)).eI hE (by decide) rfl⟩
  have z43 : zI s21 so 2 = zI σ so 2 ∧ zI s21 so 6 = zI σ so 6 ∧ zI s21 qP = zI σ qP ∧ zI s21 qO = zI σ qO := ⟨z42.1.trans z18.1, z42.2.1.trans z18.2.1, z42.2.2.1.trans z18.2.2.1, z42.2.2.2.trans z18.2.2.2⟩
  have z44 : zI s21 mm 7 = zI s1 mm 7 ∧ zI s21 mm 8 = zI s1 mm 8 ∧ zI s21 r5 = zI s1 r5 ∧ zI s21 r6 = zI s1 r6 := ⟨(hTo.k t_mm (by decide)).eI hE (by decide) rfl, (hTo.k t_mm (by decide)).eI hE (by decide) rfl, funext fun q9 => (hTo.k tr5 (by decide)).eI hE (by decide) rfl, funext fun q9 => (hTo.k tr6 (by decide)).eI hE (by decide) rfl⟩
  have z45 : zI s21 mm 7 = zI σ mm 7 ∧ zI s21 mm 8 = zI σ mm 8 ∧ zI s21 r5 = zI σ r5 ∧ zI s21 r6 = zI σ r6 := ⟨z44.1.trans z19.1, z44.2.1.trans z19.2.1, z44.2.2.1.trans z19.2.2.1, z44.2.2.2.trans z19.2.2.2⟩
  have a46 : (zI s21 mm 13).toInt = (zI s1 mm 13).toInt := by rw [(hTo.k t_mm (by decide)).eI hE (by decide) rfl]
  refine lv_pop2_2 hx hb dL_law_605 rfl ?_
  refine lv_goto (tgt := 1432) hx hb dL_law_606 (by decide) ?_
  have sl0f : zI s21 rI 0 ≠ 0 → SLT κ s21 x mm 0 := fun hq => (hsl 0 (by decide) (fun q9 => hq (by rw [erI] at q9; rw [j27]; exact q9))).tr (by rw [ers5, esl0]; exact n36) (fun j hj => by rw [erS, n41])
  have sl1f : zI s21 rI 1 ≠ 0 → SLT κ s21 x mm 1 := fun hq => (hsl 1 (by decide) (fun q9 => hq (by rw [erI] at q9; rw [j27]; exact q9))).tr (by rw [ers5, esl1]; exact n38) (fun j hj => by rw [erS, n41])
  exact KK s21 _ _ _ hT.up R23 ⟨by rw [etx]; omega, ⟨by rw [etx, erB, erT, j25, j26]; exact tal_less hal (by omega), by rw [erT, j26]; exact tnn_less hnn (by omega)⟩, ⟨by rw [etx, j29, j31]; exact hco, by rw [etx, j30, j32]; exact hpo⟩, fun i hi => by rw [erI, erK, j27, j28]; exact hkp i hi⟩ (⟨hnw.tr (by rw [enw]; exact n34) (by rw [erW]; exact n40), fun i hi => (show i = 0 ∨ i = 1 by omega).elim (fun e9 => by rw [e9, erI]; exact sl0f) (fun e9 => by rw [e9, erI]; exact sl1f)⟩) (hsm.tr (by rw [eso, eqP, eqO]; exact z43) (by rw [er5, er6]; exact z45)) (lv_sub hl [0, 1, 2, 3, 4] rfl)
set_option maxHeartbeats 4000000 in
set_option maxRecDepth 100000 in
theorem lc_13 (l : Launch) (κ : Kt) (σ0 : Gh) (x mm out b : Nat) (t_x : zk σ0 x 7) (t_mm : zk σ0 mm 20) (t_out : zk σ0 out 24) (ttx0 : zk σ0 (kR κ x 0) 6) (hdis : DIS κ x) (hlt : l.stackTraces = false) {p : Program} {e : Env} {s : State} {m : MethodId} {below : List Frame} {meth : Method} {c : Code} {L : Nat} {xs : Nat → Int32} {i : Int32} {Q9 : State → Prop} (hx : p.tables.exec = Jvm.exec) (hb : c.code = cL_law) (hml : c.maxLocals = 9) (hown : s.vm.findClass RL = some m.cls) (hg : ∀ w ∈ GW, w.before #[Value.ref b] s = true) (hK : va_K κ.1 vwCl (kTy κ) s) (hX : XY κ (tA σ0 s.heap.size) s s.heap) (hXs : va_X b L xs s s.heap) (hbl : b < s.heap.size) (hbA : ¬ tA σ0 s.heap.size b) (zx : zroomX κ s room_1 601024 7293034) (hi0 : 0 ≤ i.toInt) (hi1 : i.toInt + 6 ≤ L) (hL9 : L ≤ 3072) {σ : Gh} {H : Heap} {locs : List Loc} {ls : Array Slot} (hT : TS κ fA σ0 σ s H locs) (hR : RI κ σ mm) (hrel : LREL κ σ x mm) (hsr : SREL κ σ x mm) (hsm : SMP κ σ x mm) (hl : lv_has ls 9 [(4, .int i), (3, .ref out), (2, .ref mm), (1, .ref x), (0, .ref b)]) (KK : ∀ (σ1 : Gh) (H : Heap) (locs : List Loc) (ls : Array Slot), TS (kX κ) fA σ0 σ1 s H locs → RI (kX κ) σ1 mm → LREL κ σ1 x mm → SREL κ σ1 x mm → SMP κ σ1 x mm → lv_has ls 9 [(4, .int i), (3, .ref out), (2, .ref mm), (1, .ref x), (0, .ref b)] → W p l e room_1 s m #[Value.ref b] below meth c H locs 601024 7293034 Q9 (F0 m 1432 ls [])) : W p l e room_1 s m #[Value.ref b] below meth c H locs 601024 7293034 Q9 (F0 m 609 ls []) := by
  obtain ⟨y1, hy1⟩ : ∃ z, z = xs (ix i + 1) := ⟨_, rfl⟩
  obtain ⟨y2, hy2⟩ : ∃ z, z = xs (ix i + 2) := ⟨_, rfl⟩
  obtain ⟨y3, hy3⟩ : ∃ z, z = xs (ix i + 3) := ⟨_, rfl⟩
  obtain ⟨y4, hy4⟩ : ∃ z, z = xs (ix i + 4) := ⟨_, rfl⟩
  obtain ⟨y5, hy5⟩ : ∃ z, z = xs (ix i + 5) := ⟨_, rfl⟩
  have n0 : (0 : Int32).toInt = 0 := by decide
  have n1 : (1 : Int32).toInt = 1 := by decide
  have n2 : (2 : Int32).toInt = 2 := by decide
  have n3 : (3 : Int32).toInt = 3 := by decide
  have n4 : (4 : Int32).toInt = 4 := by decide
  have n5 : (5 : Int32).toInt = 5 := by decide
  obtain ⟨tx, etx⟩ : ∃ z, kR κ x 0 = z := ⟨_, rfl⟩
  have ttx : zk σ0 tx 6 := by rw [← etx]; exact ttx0
  obtain ⟨rB, erB⟩ : ∃ z, kR κ tx 0 = z := ⟨_, rfl⟩
  have trB : zk σ0 rB 14 := by rw [← erB]; exact hT.kr (hT.ref (hT.k ttx (by decide)) (by decide) (by decide) (by decide)) (by decide) (by decide)
  obtain ⟨rT, erT⟩ : ∃ z, kR κ mm 12 = z := ⟨_, rfl⟩
  have trT : zk σ0 rT 23 := by rw [← erT]; exact hT.kr (hT.ref (hT.k t_mm (by decide)) (by decide) (by decide) (by decide)) (by decide) (by decide)
  obtain ⟨rI, erI⟩ : ∃ z, kR κ x 6 = z := ⟨_, rfl⟩
  have trI : zk σ0 rI 13 := by rw [← erI]; exact hT.kr (hT.ref (hT.k t_x (by decide)) (by decide) (by decide) (by decide)) (by decide) (by decide)
  obtain ⟨rK, erK⟩ : ∃ z, kR κ mm 4 = z := ⟨_, rfl⟩
  have trK : zk σ0 rK 29 := by rw [← erK]; exact hT.kr (hT.ref (hT.k t_mm (by decide)) (by decide) (by decide) (by decide)) (by decide) (by decide)
  obtain ⟨hlen, ⟨hal, hnn⟩, ⟨hco, hpo⟩, hkp⟩ := hrel
  rw [etx] at hlen hal hco hpo
  rw [erB, erT] at hal
  rw [erT] at hnn
  rw [erI, erK] at hkp
  have btx := (hT.P (hT.k ttx (by decide)) (by decide)).1
  have btxl := btx.1
  have btxh := btx.2
  obtain ⟨nw, enw⟩ : ∃ z, kR κ x 3 = z := ⟨_, rfl⟩
  have tnw : zk σ0 nw 3 := by rw [← enw]; exact hT.kr (hT.ref (hT.k t_x (by decide)) (by decide) (by decide) (by decide)) (by decide) (by decide)
  obtain ⟨tr, etr⟩ : ∃ z, kR κ x 4 = z := ⟨_, rfl⟩
  have ttr : zk σ0 tr 3 := by rw [← etr]; exact hT.kr (hT.ref (hT.k t_x (by decide)) (by decide) (by decide) (by decide)) (by decide) (by decide)
  obtain ⟨rs5, ers5⟩ : ∃ z, kR κ x 5 = z := ⟨_, rfl⟩
  have trs5 : zk σ0 rs5 12 := by rw [← ers5]; exact hT.kr (hT.ref (hT.k t_x (by decide)) (by decide) (by decide) (by decide)) (by decide) (by decide)
  obtain ⟨sl0, esl0⟩ : ∃ z, kR κ rs5 0 = z := ⟨_, rfl⟩
  have tsl0 : zk σ0 sl0 3 := by rw [← esl0]; exact hT.kr (hT.ref (hT.k trs5 (by decide)) (by decide) (by decide) (by decide)) (by decide) (by decide)
  obtain ⟨sl1, esl1⟩ : ∃ z, kR κ rs5 1 = z := ⟨_, rfl⟩
  have tsl1 : zk σ0 sl1 3 := by rw [← esl1]; exact hT.kr (hT.ref (hT.k trs5 (by decide)) (by decide) (by decide) (by decide)) (by decide) (by decide)
  obtain ⟨rW, erW⟩ : ∃ z, kR κ mm 1 = z := ⟨_, rfl⟩
  have trW : zk σ0 rW 21 := by rw [← erW]; exact hT.kr (hT.ref (hT.k t_mm (by decide)) (by decide) (by decide) (by decide)) (by decide) (by decide)
  obtain ⟨rS, erS⟩ : ∃ z, kR κ mm 3 = z := ⟨_, rfl⟩
  have trS : zk σ0 rS 22 := by rw [← erS]; exact hT.kr (hT.ref (hT.k t_mm (by decide)) (by decide) (by decide) (by decide)) (by decide) (by decide)
  obtain ⟨so, eso⟩ : ∃ z, kR κ x 1 = z := ⟨_, rfl⟩
  have tso : zk σ0 so 4 := by rw [← eso]; exact hT.kr (hT.ref (hT.k t_x (by decide)) (by decide) (by decide) (by decide)) (by decide) (by decide)
  obtain ⟨qP, eqP⟩ : ∃ z, kR κ so 0 = z := ⟨_, rfl⟩
  have tqP : zk σ0 qP 8 := by rw [← eqP]; exact hT.kr (hT.ref (hT.k tso (by decide)) (by decide) (by decide) (by decide)) (by decide) (by decide)
  obtain ⟨qO, eqO⟩ : ∃ z, kR κ so 1 = z := ⟨_, rfl⟩
  have tqO : zk σ0 qO 16 := by rw [← eqO]; exact hT.kr (hT.ref (hT.k tso (by decide)) (by decide) (by decide) (by decide)) (by decide) (by decide)
  obtain ⟨r5, er5⟩ : ∃ z, kR κ mm 5 = z := ⟨_, rfl⟩
  have tr5 : zk σ0 r5 25 := by rw [← er5]; exact hT.kr (hT.ref (hT.k t_mm (by decide)) (by decide) (by decide) (by decide)) (by decide) (by decide)
  obtain ⟨r6, er6⟩ : ∃ z, kR κ mm 6 = z := ⟨_, rfl⟩
  have tr6 : zk σ0 r6 26 := by rw [← er6]; exact hT.kr (hT.ref (hT.k t_mm (by decide)) (by decide) (by decide) (by decide)) (by decide) (by decide)
  obtain ⟨hnw, hsl⟩ := hsr
  obtain ⟨hd1, ⟨hd2, hd3⟩, hd4, hd5, hd6, hd7⟩ := hdis
  have d_nt : nw ≠ tr := by rw [← enw, ← etr]; exact hd2
  have d_n0 : nw ≠ sl0 := by rw [← enw, ← esl0, ← ers5]; exact hd3 0 (by decide)
  have d_t0 : sl0 ≠ tr := by rw [← etr, ← esl0, ← ers5]; exact fun q => hd4 0 (by decide) q.symm
  have d_n1 : nw ≠ sl1 := by rw [← enw, ← esl1, ← ers5]; exact hd3 1 (by decide)
  have d_t1 : sl1 ≠ tr := by rw [← etr, ← esl1, ← ers5]; exact fun q => hd4 1 (by decide) q.symm
  have d_01 : sl0 ≠ sl1 := by rw [← esl0, ← esl1, ← ers5]; exact hd5
  have knw : zk σ nw 3 := hT.k tnw (by decide)
  have ksl0 : zk σ sl0 3 := hT.k tsl0 (by decide)
  have ksl1 : zk σ sl1 3 := hT.k tsl1 (by decide)
  refine lv_aload_n hx hb dL_law_609 rfl (lv_at hl 3 rfl) ?_
  refine lv_aload_n hx hb dL_law_610 rfl (lv_at hl 4 rfl) ?_
  refine lv_iload hx hb dL_law_611 (lv_at hl 0 rfl) ?_
  refine lv_iconst (v := 1) hx hb dL_law_613 (by decide) ?_
  refine lv_iadd hx hb dL_law_614 ?_
  refine g_add (by omega) (by omega) (fun t1 ht1 => ?_)
  refine va_sld hx hb hXs hbl hbA hT.2.2.2 (g_in (by omega) (by omega)) dL_law_615 ?_
  refine ti y1 (by rw [hy1]; exact congrArg xs (show t1.toNatClampNeg = ix i + 1 from by show t1.toInt.toNat = ix i + 1; unfold ix; omega)) ?_
  refine lv_aload_n hx hb dL_law_616 rfl (lv_at hl 1 rfl) ?_
  have hTo := hT
  refine tHi (n := 3) (As := [.ref x, .int y1, .ref out]) (rest := []) hx hb hml hown hg hT hK hX (L_mean l κ σ x y1 out (hT.k t_x (by decide)) (hT.k t_out (by decide)) hlt) sub_hfW_fA (mwHS k902 k903 k83 k904) ⟨by decide, by decide, by decide +kernel⟩ ⟨(Nat.le_of_ble_eq_true rfl), (Nat.le_of_ble_eq_true rfl)⟩ rfl hl.1 rfl (Nat.le_of_ble_eq_true rfl) dL_law_617 zx (fun r3 s2 H locs hφ hE hT => ?_)
  have R4 := hR.ext hE ⟨rfl, rfl, fun _ => rfl, fun _ => rfl, fun _ => rfl, fun _ => rfl⟩
  have a5 : (zI s2 tx 1).toInt = (zI σ tx 1).toInt := by rw [(hTo.k ttx (by decide)).eI hE (by decide) rfl]
  have j6 : zI s2 rB = zI σ rB := (show zI s2 rB = zI σ rB from funext fun k => (hTo.k trB (by decide)).eI hE (by decide) rfl)
  have j7 : zI s2 rT = zI σ rT := (show zI s2 rT = zI σ rT from funext fun k => (hTo.k trT (by decide)).eI hE (by decide) rfl)
  have j8 : zI s2 rI = zI σ rI := (show zI s2 rI = zI σ rI from funext fun k => (hTo.k trI (by decide)).eI hE (by decide) rfl)
  have j9 : zI s2 rK = zI σ rK := (show zI s2 rK = zI σ rK from funext fun k => (hTo.k trK (by decide)).eI hE (by decide) rfl)
  have j10 : zI s2 tx 2 = zI σ tx 2 := (hTo.k ttx (by decide)).eI hE (by decide) rfl
  have j11 : zI s2 tx 3 = zI σ tx 3 := (hTo.k ttx (by decide)).eI hE (by decide) rfl
  have j12 : zI s2 mm 15 = zI σ mm 15 := (hTo.k t_mm (by decide)).eI hE (by decide) rfl
  have j13 : zI s2 mm 16 = zI σ mm 16 := (hTo.k t_mm (by decide)).eI hE (by decide) rfl
  have n14 : zI s2 nw 7 = zI σ nw 7 ∧ zI s2 nw 8 = zI σ nw 8 ∧ zI s2 nw 9 = zI σ nw 9 := ⟨(hTo.k tnw (by decide)).eI hE (by decide) rfl, (hTo.k tnw (by decide)).eI hE (by decide) rfl, (hTo.k tnw (by decide)).eI hE (by decide) rfl⟩
  have n15 : zI s2 sl0 7 = zI σ sl0 7 ∧ zI s2 sl0 8 = zI σ sl0 8 ∧ zI s2 sl0 9 = zI σ sl0 9 := ⟨(hTo.k tsl0 (by decide)).eI hE (by decide) rfl, (hTo.k tsl0 (by decide)).eI hE (by decide) rfl, (hTo.k tsl0 (by decide)).eI hE (by decide) rfl⟩
  have n16 : zI s2 sl1 7 = zI σ sl1 7 ∧ zI s2 sl1 8 = zI σ sl1 8 ∧ zI s2 sl1 9 = zI σ sl1 9 := ⟨(hTo.k tsl1 (by decide)).eI hE (by decide) rfl, (hTo.k tsl1 (by decide)).eI hE (by decide) rfl, (hTo.k tsl1 (by decide)).eI hE (by decide) rfl⟩
  have n17 : ∀ j : Nat, j < 3 → zJ s2 rW j = zJ σ rW j := fun j hj => (hTo.k trW (by decide)).eJ hE (by decide) rfl
  have n18 : zJ s2 rS = zJ σ rS := (show zJ s2 rS = zJ σ rS from funext fun k => (hTo.k trS (by decide)).eJ hE (by decide) rfl)
  have z19 : zI s2 so 2 = zI σ so 2 ∧ zI s2 so 6 = zI σ so 6 ∧ zI s2 qP = zI σ qP ∧ zI s2 qO = zI σ qO := ⟨(hTo.k tso (by decide)).eI hE (by decide) rfl, (hTo.k tso (by decide)).eI hE (by decide) rfl, funext fun q9 => (hTo.k tqP (by decide)).eI hE (by decide) rfl, funext fun q9 => (hTo.k tqO (by decide)).eI hE (by decide) rfl⟩
  have z20 : zI s2 mm 7 = zI σ mm 7 ∧ zI s2 mm 8 = zI σ mm 8 ∧ zI s2 r5 = zI σ r5 ∧ zI s2 r6 = zI σ r6 := ⟨(hTo.k t_mm (by decide)).eI hE (by decide) rfl, (hTo.k t_mm (by decide)).eI hE (by decide) rfl, funext fun q9 => (hTo.k tr5 (by decide)).eI hE (by decide) rfl, funext fun q9 => (hTo.k tr6 (by decide)).eI hE (by decide) rfl⟩
  have a21 : (zI s2 mm 13).toInt = (zI σ mm 13).toInt := by rw [(hTo.k t_mm (by decide)).eI hE (by decide) rfl]
  refine lv_istore (lv' := [(5, .int r3), (4, .int i), (3, .ref out), (2, .ref mm), (1, .ref x), (0, .ref b)]) hx hb dL_law_620 hl (by decide) rfl (fun ls hl => ?_)
  refine lv_aload_n hx hb dL_law_622 rfl (lv_at hl 3 rfl) ?_
  refine lv_aload_n hx hb dL_law_623 rfl (lv_at hl 5 rfl) ?_
  refine lv_iload hx hb dL_law_624 (lv_at hl 1 rfl) ?_
  refine lv_iconst (v := 1) hx hb dL_law_626 (by decide) ?_
  refine lv_iadd hx hb dL_law_627 ?_
  refine g_add (by omega) (by omega) (fun t22 ht22 => ?_)
  refine va_sld hx hb hXs hbl hbA hT.2.2.2 (g_in (by omega) (by omega)) dL_law_628 ?_
  refine ti y1 (by rw [hy1]; exact congrArg xs (show t22.toNatClampNeg = ix i + 1 from by show t22.toInt.toNat = ix i + 1; unfold ix; omega)) ?_
  have hTo := hT
  refine tVl (n := 1) (As := [.int y1]) (rest := []) hx hb hml hown hg hT hK hX (X6_mean l (kX κ) s2 mm y1 (hT.k t_mm (by decide)) R4) sub_gR_fA (mwV k1484 k1485 k1486 k92 k1487) ⟨rfl, by decide, by decide, by decide +kernel⟩ ⟨(Nat.le_of_ble_eq_true rfl), (Nat.le_of_ble_eq_true rfl)⟩ (hT.o20 (hT.k t_mm (by decide))) rfl rfl hl.1 rfl (Nat.le_of_ble_eq_true rfl) dL_law_629 zx (fun r24 s23 H locs hφ hE hT => ?_)
  have R25 := R4.ext hE ⟨rfl, rfl, fun _ => rfl, fun _ => rfl, fun _ => rfl, fun _ => rfl⟩
  have a26 : (zI s23 tx 1).toInt = (zI s2 tx 1).toInt := by rw [(hTo.k ttx (by decide)).eI hE (by decide) rfl]
  have j27 : zI s23 rB = zI σ rB := ((show zI s23 rB = zI s2 rB from funext fun k => (hTo.k trB (by decide)).eI hE (by decide) rfl)).trans j6
  have j28 : zI s23 rT = zI σ rT := ((show zI s23 rT = zI s2 rT from funext fun k => (hTo.k trT (by decide)).eI hE (by decide) rfl)).trans j7
  have j29 : zI s23 rI = zI σ rI := ((show zI s23 rI = zI s2 rI from funext fun k => (hTo.k trI (by decide)).eI hE (by decide) rfl)).trans j8
  have j30 : zI s23 rK = zI σ rK := ((show zI s23 rK = zI s2 rK from funext fun k => (hTo.k trK (by decide)).eI hE (by decide) rfl)).trans j9
  have j31 : zI s23 tx 2 = zI σ tx 2 := ((hTo.k ttx (by decide)).eI hE (by decide) rfl).trans j10
  have j32 : zI s23 tx 3 = zI σ tx 3 := ((hTo.k ttx (by decide)).eI hE (by decide) rfl).trans j11
  have j33 : zI s23 mm 15 = zI σ mm 15 := ((hTo.k t_mm (by decide)).eI hE (by decide) rfl).trans j12
  have j34 : zI s23 mm 16 = zI σ mm 16 := ((hTo.k t_mm (by decide)).eI hE (by decide) rfl).trans j13
  have n35 : zI s23 nw 7 = zI s2 nw 7 ∧ zI s23 nw 8 = zI s2 nw 8 ∧ zI s23 nw 9 = zI s2 nw 9 := ⟨(hTo.k tnw (by decide)).eI hE (by decide) rfl, (hTo.k tnw (by decide)).eI hE (by decide) rfl, (hTo.k tnw (by decide)).eI hE (by decide) rfl⟩
  have n36 : zI s23 nw 7 = zI σ nw 7 ∧ zI s23 nw 8 = zI σ nw 8 ∧ zI s23 nw 9 = zI σ nw 9 := ⟨n35.1.trans n14.1, n35.2.1.trans n14.2.1, n35.2.2.trans n14.2.2⟩
  have n37 : zI s23 sl0 7 = zI s2 sl0 7 ∧ zI s23 sl0 8 = zI s2 sl0 8 ∧ zI s23 sl0 9 = zI s2 sl0 9 := ⟨(hTo.k tsl0 (by decide)).eI hE (by decide) rfl, (hTo.k tsl0 (by decide)).eI hE (by decide) rfl, (hTo.k tsl0 (by decide)).eI hE (by decide) rfl⟩
  have n38 : zI s23 sl0 7 = zI σ sl0 7 ∧ zI s23 sl0 8 = zI σ sl0 8 ∧ zI s23 sl0 9 = zI σ sl0 9 := ⟨n37.1.trans n15.1, n37.2.1.trans n15.2.1, n37.2.2.trans n15.2.2⟩
  have n39 : zI s23 sl1 7 = zI s2 sl1 7 ∧ zI s23 sl1 8 = zI s2 sl1 8 ∧ zI s23 sl1 9 = zI s2 sl1 9 := ⟨(hTo.k tsl1 (by decide)).eI hE (by decide) rfl, (hTo.k tsl1 (by decide)).eI hE (by decide) rfl, (hTo.k tsl1 (by decide)).eI hE (by decide) rfl⟩
  have n40 : zI s23 sl1 7 = zI σ sl1 7 ∧ zI s23 sl1 8 = zI σ sl1 8 ∧ zI s23 sl1 9 = zI σ sl1 9 := ⟨n39.1.trans n16.1, n39.2.1.trans n16.2.1, n39.2.2.trans n16.2.2⟩
  have n41 : ∀ j : Nat, j < 3 → zJ s23 rW j = zJ s2 rW j := fun j hj => (hTo.k trW (by decide)).eJ hE (by decide) rfl
  have n42 : ∀ j : Nat, j < 3 → zJ s23 rW j = zJ σ rW j := fun j hj => (n41 j hj).trans (n17 j hj)
  have n43 : zJ s23 rS = zJ σ rS := (show zJ s23 rS = zJ s2 rS from funext fun k => (hTo.k trS (by decide)).eJ hE (by decide) rfl).trans n18
  have z44 : zI s23 so 2 = zI s2 so 2 ∧ zI s23 so 6 = zI s2 so 6 ∧ zI s23 qP = zI s2 qP ∧ zI s23 qO = zI s2 qO := ⟨(hTo.k tso (by decide)).eI hE (by decide) rfl, (hTo.k tso (by decide)).eI hE (by decide) rfl, funext fun q9 => (hTo.k tqP (by decide)).eI hE (by decide) rfl, funext fun q9 => (hTo.k tqO (by decide)).eI hE (by decide) rfl⟩
  have z45 : zI s23 so 2 = zI σ so 2 ∧ zI s23 so 6 = zI σ so 6 ∧ zI s23 qP = zI σ qP ∧ zI s23 qO = zI σ qO := ⟨z44.1.trans z19.1, z44.2.1.trans z19.2.1, z44.2.2.1.trans z19.2.2.1, z44.2.2.2.trans z19.2.2.2⟩
  have z46 : zI s23 mm 7 = zI s2 mm 7 ∧ zI s23 mm 8 = zI s2 mm 8 ∧ zI s23 r5 = zI s2 r5 ∧ zI s23 r6 = zI s2 r6 := ⟨(hTo.k t_mm (by decide)).eI hE (by decide) rfl, (hTo.k t_mm (by decide)).eI hE (by decide) rfl, funext fun q9 => (hTo.k tr5 (by decide)).eI hE (by decide) rfl, funext fun q9 => (hTo.k tr6 (by decide)).eI hE (by decide) rfl⟩
  have z47 : zI s23 mm 7 = zI σ mm 7 ∧ zI s23 mm 8 = zI σ mm 8 ∧ zI s23 r5 = zI σ r5 ∧ zI s23 r6 = zI σ r6 := ⟨z46.1.trans z20.1, z46.2.1.trans z20.2.1, z46.2.2.1.trans z20.2.2.1, z46.2.2.2.trans z20.2.2.2⟩
  have a48 : (zI s23 mm 13).toInt = (zI s2 mm 13).toInt := by rw [(hTo.k t_mm (by decide)).eI hE (by decide) rfl]
  refine lv_lstore (lv' := [(6, .long r24), (5, .int r3), (4, .int i), (3, .ref out), (2, .ref mm), (1, .ref x), (0, .ref b)]) hx hb dL_law_632 hl (by decide) rfl (fun ls hl => ?_)
  refine lv_goto (tgt := 1432) hx hb dL_law_634 (by decide) ?_
  have sl0f : zI s23 rI 0 ≠ 0 → SLT κ s23 x mm 0 := fun hq => (hsl 0 (by decide) (fun q9 => hq (by rw [erI] at q9; rw [j29]; exact q9))).tr (by rw [ers5, esl0]; exact n38) (fun j hj => by rw [erS, n43])
  have sl1f : zI s23 rI 1 ≠ 0 → SLT κ s23 x mm 1 := fun hq => (hsl 1 (by decide) (fun q9 => hq (by rw [erI] at q9; rw [j29]; exact q9))).tr (by rw [ers5, esl1]; exact n40) (fun j hj => by rw [erS, n43])
  exact KK s23 _ _ _ hT R25 ⟨by rw [etx]; omega, ⟨by rw [etx, erB, erT, j27, j28]; exact tal_less hal (by omega), by rw [erT, j28]; exact tnn_less hnn (by omega)⟩, ⟨by rw [etx, j31, j33]; exact hco, by rw [etx, j32, j34]; exact hpo⟩, fun i hi => by rw [erI, erK, j29, j30]; exact hkp i hi⟩ (⟨hnw.tr (by rw [enw]; exact n36) (by rw [erW]; exact n42), fun i hi => (show i = 0 ∨ i = 1 by omega).elim (fun e9 => by rw [e9, erI]; exact sl0f) (fun e9 => by rw [e9, erI]; exact sl1f)⟩) (hsm.tr (by rw [eso, eqP, eqO]; exact z45) (by rw [er5, er6]; exact z47)) (lv_sub hl [2, 3, 4, 5, 6] rfl)
set_option maxHeartbeats 4000000 in
set_option maxRecDepth 100000 in
theorem lc_14 (l : Launch) (κ : Kt) (σ0 : Gh) (x mm out b : Nat) (t_x : zk σ0 x 7) (t_mm : zk σ0 mm 20) (t_out : zk σ0 out 24) (ttx0 : zk σ0 (kR κ x 0) 6) (hdis : DIS κ x) (hlt : l.stackTraces = false) {p : Program} {e : Env} {s : State} {m : MethodId} {below : List Frame} {meth : Method} {c : Code} {L : Nat} {xs : Nat → Int32} {i : Int32} {Q9 : State → Prop} (hx : p.tables.exec = Jvm.exec) (hb : c.code = cL_law) (hml : c.maxLocals = 9) (hown : s.vm.findClass RL = some m.cls) (hg : ∀ w ∈ GW, w.before #[Value.ref b] s = true) (hK : va_K κ.1 vwCl (kTy κ) s) (hX : XY κ (tA σ0 s.heap.size) s s.heap) (hXs : va_X b L xs s s.heap) (hbl : b < s.heap.size) (hbA : ¬ tA σ0 s.heap.size b) (zx : zroomX κ s room_1 601024 7293034) (hi0 : 0 ≤ i.toInt) (hi1 : i.toInt + 6 ≤ L) (hL9 : L ≤ 3072) {d0 : Drawn} (hd0 : s.drawn.sameBut d0 lw_cs) {σ : Gh} {H : Heap} {locs : List Loc} {ls : Array Slot} (hT : TS κ fA σ0 σ s H locs) (hR : RI κ σ mm) (hrel : LREL κ σ x mm) (hsr : SREL κ σ x mm) (hsm : SMP κ σ x mm) (hl : lv_has ls 9 [(4, .int i), (3, .ref out), (2, .ref mm), (1, .ref x), (0, .ref b)]) (KK : ∀ (d1 : Drawn), s.drawn.sameBut d1 lw_cs → ∀ (σ1 : Gh) (H : Heap) (locs : List Loc) (ls : Array Slot), TS (kX κ) fA σ0 σ1 s H locs → RI (kX κ) σ1 mm → LREL κ σ1 x mm → SREL κ σ1 x mm → SMP κ σ1 x mm → lv_has ls 9 [(4, .int i), (3, .ref out), (2, .ref mm), (1, .ref x), (0, .ref b)] → W p l e room_1 (s.setDrawn d1) m #[Value.ref b] below meth c H locs 601024 7293034 Q9 (F0 m 1432 ls [])) : W p l e room_1 (s.setDrawn d0) m #[Value.ref b] below meth c H locs 601024 7293034 Q9 (F0 m 637 ls []) := by
  obtain ⟨y1, hy1⟩ : ∃ z, z = xs (ix i + 1) := ⟨_, rfl⟩
  obtain ⟨y2, hy2⟩ : ∃ z, z = xs (ix i + 2) := ⟨_, rfl⟩
  obtain ⟨y3, hy3⟩ : ∃ z, z = xs (ix i + 3) := ⟨_, rfl⟩
  obtain ⟨y4, hy4⟩ : ∃ z, z = xs (ix i + 4) := ⟨_, rfl⟩
  obtain ⟨y5, hy5⟩ : ∃ z, z = xs (ix i + 5) := ⟨_, rfl⟩
  have n0 : (0 : Int32).toInt = 0 := by decide
  have n1 : (1 : Int32).toInt = 1 := by decide
  have n2 : (2 : Int32).toInt = 2 := by decide
  have n3 : (3 : Int32).toInt = 3 := by decide
  have n4 : (4 : Int32).toInt = 4 := by decide
  have n5 : (5 : Int32).toInt = 5 := by decide
  obtain ⟨tx, etx⟩ : ∃ z, kR κ x 0 = z := ⟨_, rfl⟩
  have ttx : zk σ0 tx 6 := by rw [← etx]; exact ttx0
  obtain ⟨rB, erB⟩ : ∃ z, kR κ tx 0 = z := ⟨_, rfl⟩
  have trB : zk σ0 rB 14 := by rw [← erB]; exact hT.kr (hT.ref (hT.k ttx (by decide)) (by decide) (by decide) (by decide)) (by decide) (by decide)
  obtain ⟨rT, erT⟩ : ∃ z, kR κ mm 12 = z := ⟨_, rfl⟩
  have trT : zk σ0 rT 23 := by rw [← erT]; exact hT.kr (hT.ref (hT.k t_mm (by decide)) (by decide) (by decide) (by decide)) (by decide) (by decide)
  obtain ⟨rI, erI⟩ : ∃ z, kR κ x 6 = z := ⟨_, rfl⟩
  have trI : zk σ0 rI 13 := by rw [← erI]; exact hT.kr (hT.ref (hT.k t_x (by decide)) (by decide) (by decide) (by decide)) (by decide) (by decide)
  obtain ⟨rK, erK⟩ : ∃ z, kR κ mm 4 = z := ⟨_, rfl⟩
  have trK : zk σ0 rK 29 := by rw [← erK]; exact hT.kr (hT.ref (hT.k t_mm (by decide)) (by decide) (by decide) (by decide)) (by decide) (by decide)
  obtain ⟨hlen, ⟨hal, hnn⟩, ⟨hco, hpo⟩, hkp⟩ := hrel
  rw [etx] at hlen hal hco hpo
  rw [erB, erT] at hal
  rw [erT] at hnn
  rw [erI, erK] at hkp
  have btx := (hT.P (hT.k ttx (by decide)) (by decide)).1
  have btxl := btx.1
  have btxh := btx.2
  obtain ⟨nw, enw⟩ : ∃ z, kR κ x 3 = z := ⟨_, rfl⟩
  have tnw : zk σ0 nw 3 := by rw [← enw]; exact hT.kr (hT.ref (hT.k t_x (by decide)) (by decide) (by decide) (by decide)) (by decide) (by decide)
  obtain ⟨tr, etr⟩ : ∃ z, kR κ x 4 = z := ⟨_, rfl⟩
  have ttr : zk σ0 tr 3 := by rw [← etr]; exact hT.kr (hT.ref (hT.k t_x (by decide)) (by decide) (by decide) (by decide)) (by decide) (by decide)
  obtain ⟨rs5, ers5⟩ : ∃ z, kR κ x 5 = z := ⟨_, rfl⟩
  have trs5 : zk σ0 rs5 12 := by rw [← ers5]; exact hT.kr (hT.ref (hT.k t_x (by decide)) (by decide) (by decide) (by decide)) (by decide) (by decide)
  obtain ⟨sl0, esl0⟩ : ∃ z, kR κ rs5 0 = z := ⟨_, rfl⟩
  have tsl0 : zk σ0 sl0 3 := by rw [← esl0]; exact hT.kr (hT.ref (hT.k trs5 (by decide)) (by decide) (by decide) (by decide)) (by decide) (by decide)
  obtain ⟨sl1, esl1⟩ : ∃ z, kR κ rs5 1 = z := ⟨_, rfl⟩
  have tsl1 : zk σ0 sl1 3 := by rw [← esl1]; exact hT.kr (hT.ref (hT.k trs5 (by decide)) (by decide) (by decide) (by decide)) (by decide) (by decide)
  obtain ⟨rW, erW⟩ : ∃ z, kR κ mm 1 = z := ⟨_, rfl⟩
  have trW : zk σ0 rW 21 := by rw [← erW]; exact hT.kr (hT.ref (hT.k t_mm (by decide)) (by decide) (by decide) (by decide)) (by decide) (by decide)
  obtain ⟨rS, erS⟩ : ∃ z, kR κ mm 3 = z := ⟨_, rfl⟩
  have trS : zk σ0 rS 22 := by rw [← erS]; exact hT.kr (hT.ref (hT.k t_mm (by decide)) (by decide) (by decide) (by decide)) (by decide) (by decide)
  obtain ⟨so, eso⟩ : ∃ z, kR κ x 1 = z := ⟨_, rfl⟩
  have tso : zk σ0 so 4 := by rw [← eso]; exact hT.kr (hT.ref (hT.k t_x (by decide)) (by decide) (by decide) (by decide)) (by decide) (by decide)
  obtain ⟨qP, eqP⟩ : ∃ z, kR κ so 0 = z := ⟨_, rfl⟩
  have tqP : zk σ0 qP 8 := by rw [← eqP]; exact hT.kr (hT.ref (hT.k tso (by decide)) (by decide) (by decide) (by decide)) (by decide) (by decide)
  obtain ⟨qO, eqO⟩ : ∃ z, kR κ so 1 = z := ⟨_, rfl⟩
  have tqO : zk σ0 qO 16 := by rw [← eqO]; exact hT.kr (hT.ref (hT.k tso (by decide)) (by decide) (by decide) (by decide)) (by decide) (by decide)
  obtain ⟨r5, er5⟩ : ∃ z, kR κ mm 5 = z := ⟨_, rfl⟩
  have tr5 : zk σ0 r5 25 := by rw [← er5]; exact hT.kr (hT.ref (hT.k t_mm (by decide)) (by decide) (by decide) (by decide)) (by decide) (by decide)
  obtain ⟨r6, er6⟩ : ∃ z, kR κ mm 6 = z := ⟨_, rfl⟩
  have tr6 : zk σ0 r6 26 := by rw [← er6]; exact hT.kr (hT.ref (hT.k t_mm (by decide)) (by decide) (by decide) (by decide)) (by decide) (by decide)
  obtain ⟨hnw, hsl⟩ := hsr
  obtain ⟨hd1, ⟨hd2, hd3⟩, hd4, hd5, hd6, hd7⟩ := hdis
  have d_nt : nw ≠ tr := by rw [← enw, ← etr]; exact hd2
  have d_n0 : nw ≠ sl0 := by rw [← enw, ← esl0, ← ers5]; exact hd3 0 (by decide)
  have d_t0 : sl0 ≠ tr := by rw [← etr, ← esl0, ← ers5]; exact fun q => hd4 0 (by decide) q.symm
  have d_n1 : nw ≠ sl1 := by rw [← enw, ← esl1, ← ers5]; exact hd3 1 (by decide)
  have d_t1 : sl1 ≠ tr := by rw [← etr, ← esl1, ← ers5]; exact fun q => hd4 1 (by decide) q.symm
  have d_01 : sl0 ≠ sl1 := by rw [← esl0, ← esl1, ← ers5]; exact hd5
  have knw : zk σ nw 3 := hT.k tnw (by decide)
  have ksl0 : zk σ sl0 3 := hT.k tsl0 (by decide)
  have ksl1 : zk σ sl1 3 := hT.k tsl1 (by decide)
  refine lv_aload_n hx hb dL_law_637 rfl (lv_at hl 3 rfl) ?_
  have hTo := hT
  refine tVdD (n := 0) (As := []) (rest := []) hd0 hx hb hml hown (dr_words hg d0) hT hK hX (X5_plainMean l κ σ x (hT.k t_x (by decide))) sub_fW_fA (mwV k463 k464 k465 k84 k466) ⟨rfl, by decide, by decide, by decide +kernel⟩ ⟨(Nat.le_of_ble_eq_true rfl), (Nat.le_of_ble_eq_true rfl)⟩ (hT.o7 (hT.k t_x (by decide))) rfl rfl hl.1 rfl (Nat.le_of_ble_eq_true rfl) dL_law_638 zx.dn (fun r2 s1 H locs d1 hd1 hφ hE hT => ?_)
  have hg1 := dr_words hg d1
  have R3 := hR.ext hE ⟨rfl, rfl, fun _ => rfl, fun _ => rfl, fun _ => rfl, fun _ => rfl⟩
  have a4 : (zI s1 tx 1).toInt = (zI σ tx 1).toInt := by rw [(hTo.k ttx (by decide)).eI hE (by decide) rfl]
  have j5 : zI s1 rB = zI σ rB := (show zI s1 rB = zI σ rB from funext fun k => (hTo.k trB (by decide)).eI hE (by decide) rfl)
  have j6 : zI s1 rT = zI σ rT := (show zI s1 rT = zI σ rT from funext fun k => (hTo.k trT (by decide)).eI hE (by decide) rfl)
  have j7 : zI s1 rI = zI σ rI := (show zI s1 rI = zI σ rI from funext fun k => (hTo.k trI (by decide)).eI hE (by decide) rfl)
  have j8 : zI s1 rK = zI σ rK := (show zI s1 rK = zI σ rK from funext fun k => (hTo.k trK (by decide)).eI hE (by decide) rfl)
  have j9 : zI s1 tx 2 = zI σ tx 2 := (hTo.k ttx (by decide)).eI hE (by decide) rfl
  have j10 : zI s1 tx 3 = zI σ tx 3 := (hTo.k ttx (by decide)).eI hE (by decide) rfl
  have j11 : zI s1 mm 15 = zI σ mm 15 := (hTo.k t_mm (by decide)).eI hE (by decide) rfl
  have j12 : zI s1 mm 16 = zI σ mm 16 := (hTo.k t_mm (by decide)).eI hE (by decide) rfl
  have n13 : zI s1 nw 7 = zI σ nw 7 ∧ zI s1 nw 8 = zI σ nw 8 ∧ zI s1 nw 9 = zI σ nw 9 := ⟨(hTo.k tnw (by decide)).eI hE (by decide) rfl, (hTo.k tnw (by decide)).eI hE (by decide) rfl, (hTo.k tnw (by decide)).eI hE (by decide) rfl⟩
  have n14 : zI s1 sl0 7 = zI σ sl0 7 ∧ zI s1 sl0 8 = zI σ sl0 8 ∧ zI s1 sl0 9 = zI σ sl0 9 := ⟨(hTo.k tsl0 (by decide)).eI hE (by decide) rfl, (hTo.k tsl0 (by decide)).eI hE (by decide) rfl, (hTo.k tsl0 (by decide)).eI hE (by decide) rfl⟩
  have n15 : zI s1 sl1 7 = zI σ sl1 7 ∧ zI s1 sl1 8 = zI σ sl1 8 ∧ zI s1 sl1 9 = zI σ sl1 9 := ⟨(hTo.k tsl1 (by decide)).eI hE (by decide) rfl, (hTo.k tsl1 (by decide)).eI hE (by decide) rfl, (hTo.k tsl1 (by decide)).eI hE (by decide) rfl⟩
  have n16 : ∀ j : Nat, j < 3 → zJ s1 rW j = zJ σ rW j := fun j hj => (hTo.k trW (by decide)).eJ hE (by decide) rfl
  have n17 : zJ s1 rS = zJ σ rS := (show zJ s1 rS = zJ σ rS from funext fun k => (hTo.k trS (by decide)).eJ hE (by decide) rfl)
  have z18 : zI s1 so 2 = zI σ so 2 ∧ zI s1 so 6 = zI σ so 6 ∧ zI s1 qP = zI σ qP ∧ zI s1 qO = zI σ qO := ⟨(hTo.k tso (by decide)).eI hE (by decide) rfl, (hTo.k tso (by decide)).eI hE (by decide) rfl, funext fun q9 => (hTo.k tqP (by decide)).eI hE (by decide) rfl, funext fun q9 => (hTo.k tqO (by decide)).eI hE (by decide) rfl⟩
  have z19 : zI s1 mm 7 = zI σ mm 7 ∧ zI s1 mm 8 = zI σ mm 8 ∧ zI s1 r5 = zI σ r5 ∧ zI s1 r6 = zI σ r6 := ⟨(hTo.k t_mm (by decide)).eI hE (by decide) rfl, (hTo.k t_mm (by decide)).eI hE (by decide) rfl, funext fun q9 => (hTo.k tr5 (by decide)).eI hE (by decide) rfl, funext fun q9 => (hTo.k tr6 (by decide)).eI hE (by decide) rfl⟩
  have a20 : (zI s1 mm 13).toInt = (zI σ mm 13).toInt := by rw [(hTo.k t_mm (by decide)).eI hE (by decide) rfl]
  refine lv_dstore (lv' := [(5, .double r2), (4, .int i), (3, .ref out), (2, .ref mm), (1, .ref x), (0, .ref b)]) hx hb dL_law_641 hl (by decide) rfl (fun ls hl => ?_)
  refine lv_aload_n hx hb dL_law_643 rfl (lv_at hl 3 rfl) ?_
  have hTo := hT
  refine tVd (s := s.setDrawn d1) (n := 0) (As := []) (rest := []) hx hb hml hown hg1 hT hK hX (X6_plainMean l κ s1 mm (hT.k t_mm (by decide)) R3) sub_gR_fA (mwV k1494 k1495 k1496 k92 k1497) ⟨rfl, by decide, by decide, by decide +kernel⟩ ⟨(Nat.le_of_ble_eq_true rfl), (Nat.le_of_ble_eq_true rfl)⟩ (hT.o20 (hT.k t_mm (by decide))) rfl rfl hl.1 rfl (Nat.le_of_ble_eq_true rfl) dL_law_644 zx.dn (fun r22 s21 H locs hφ hE hT => ?_)
  have R23 := R3.ext hE ⟨rfl, rfl, fun _ => rfl, fun _ => rfl, fun _ => rfl, fun _ => rfl⟩
  have a24 : (zI s21 tx 1).toInt = (zI s1 tx 1).toInt := by rw [(hTo.k ttx (by decide)).eI hE (by decide) rfl]
  have j25 : zI s21 rB = zI σ rB := ((show zI s21 rB = zI s1 rB from funext fun k => (hTo.k trB (by decide)).eI hE (by decide) rfl)).trans j5
  have j26 : zI s21 rT = zI σ rT := ((show zI s21 rT = zI s1 rT from funext fun k => (hTo.k trT (by decide)).eI hE (by decide) rfl)).trans j6
  have j27 : zI s21 rI = zI σ rI := ((show zI s21 rI = zI s1 rI from funext fun k => (hTo.k trI (by decide)).eI hE (by decide) rfl)).trans j7
  have j28 : zI s21 rK = zI σ rK := ((show zI s21 rK = zI s1 rK from funext fun k => (hTo.k trK (by decide)).eI hE (by decide) rfl)).trans j8
  have j29 : zI s21 tx 2 = zI σ tx 2 := ((hTo.k ttx (by decide)).eI hE (by decide) rfl).trans j9
  have j30 : zI s21 tx 3 = zI σ tx 3 := ((hTo.k ttx (by decide)).eI hE (by decide) rfl).trans j10
  have j31 : zI s21 mm 15 = zI σ mm 15 := ((hTo.k t_mm (by decide)).eI hE (by decide) rfl).trans j11
  have j32 : zI s21 mm 16 = zI σ mm 16 := ((hTo.k t_mm (by decide)).eI hE (by decide) rfl).trans j12
  have n33 : zI s21 nw 7 = zI s1 nw 7 ∧ zI s21 nw 8 = zI s1 nw 8 ∧ zI s21 nw 9 = zI s1 nw 9 := ⟨(hTo.k tnw (by decide)).eI hE (by decide) rfl, (hTo.k tnw (by decide)).eI hE (by decide) rfl, (hTo.k tnw (by decide)).eI hE (by decide) rfl⟩
  have n34 : zI s21 nw 7 = zI σ nw 7 ∧ zI s21 nw 8 = zI σ nw 8 ∧ zI s21 nw 9 = zI σ nw 9 := ⟨n33.1.trans n13.1, n33.2.1.trans n13.2.1, n33.2.2.trans n13.2.2⟩
  have n35 : zI s21 sl0 7 = zI s1 sl0 7 ∧ zI s21 sl0 8 = zI s1 sl0 8 ∧ zI s21 sl0 9 = zI s1 sl0 9 := ⟨(hTo.k tsl0 (by decide)).eI hE (by decide) rfl, (hTo.k tsl0 (by decide)).eI hE (by decide) rfl, (hTo.k tsl0 (by decide)).eI hE (by decide) rfl⟩
  have n36 : zI s21 sl0 7 = zI σ sl0 7 ∧ zI s21 sl0 8 = zI σ sl0 8 ∧ zI s21 sl0 9 = zI σ sl0 9 := ⟨n35.1.trans n14.1, n35.2.1.trans n14.2.1, n35.2.2.trans n14.2.2⟩
  have n37 : zI s21 sl1 7 = zI s1 sl1 7 ∧ zI s21 sl1 8 = zI s1 sl1 8 ∧ zI s21 sl1 9 = zI s1 sl1 9 := ⟨(hTo.k tsl1 (by decide)).eI hE (by decide) rfl, (hTo.k tsl1 (by decide)).eI hE (by decide) rfl, (hTo.k tsl1 (by decide)).eI hE (by decide) rfl⟩
  have n38 : zI s21 sl1 7 = zI σ sl1 7 ∧ zI s21 sl1 8 = zI σ sl1 8 ∧ zI s21 sl1 9 = zI σ sl1 9 := ⟨n37.1.trans n15.1, n37.2.1.trans n15.2.1, n37.2.2.trans n15.2.2⟩
  have n39 : ∀ j : Nat, j < 3 → zJ s21 rW j = zJ s1 rW j := fun j hj => (hTo.k trW (by decide)).eJ hE (by decide) rfl
  have n40 : ∀ j : Nat, j < 3 → zJ s21 rW j = zJ σ rW j := fun j hj => (n39 j hj).trans (n16 j hj)
  have n41 : zJ s21 rS = zJ σ rS := (show zJ s21 rS = zJ s1 rS from funext fun k => (hTo.k trS (by decide)).eJ hE (by decide) rfl).trans n17
  have z42 : zI s21 so 2 = zI s1 so 2 ∧ zI s21 so 6 = zI s1 so 6 ∧ zI s21 qP = zI s1 qP ∧ zI s21 qO = zI s1 qO := ⟨(hTo.k tso (by decide)).eI hE (by decide) rfl, (hTo.k tso (by decide)).eI hE (by decide) rfl, funext fun q9 => (hTo.k tqP (by decide)).eI hE (by decide) rfl, funext fun q9 => (hTo.k tqO (by decide)).eI hE (by decide) rfl⟩
  have z43 : zI s21 so 2 = zI σ so 2 ∧ zI s21 so 6 = zI σ so 6 ∧ zI s21 qP = zI σ qP ∧ zI s21 qO = zI σ qO := ⟨z42.1.trans z18.1, z42.2.1.trans z18.2.1, z42.2.2.1.trans z18.2.2.1, z42.2.2.2.trans z18.2.2.2⟩
  have z44 : zI s21 mm 7 = zI s1 mm 7 ∧ zI s21 mm 8 = zI s1 mm 8 ∧ zI s21 r5 = zI s1 r5 ∧ zI s21 r6 = zI s1 r6 := ⟨(hTo.k t_mm (by decide)).eI hE (by decide) rfl, (hTo.k t_mm (by decide)).eI hE (by decide) rfl, funext fun q9 => (hTo.k tr5 (by decide)).eI hE (by decide) rfl, funext fun q9 => (hTo.k tr6 (by decide)).eI hE (by decide) rfl⟩
  have z45 : zI s21 mm 7 = zI σ mm 7 ∧ zI s21 mm 8 = zI σ mm 8 ∧ zI s21 r5 = zI σ r5 ∧ zI s21 r6 = zI σ r6 := ⟨z44.1.trans z19.1, z44.2.1.trans z19.2.1, z44.2.2.1.trans z19.2.2.1, z44.2.2.2.trans z19.2.2.2⟩
  have a46 : (zI s21 mm 13).toInt = (zI s1 mm 13).toInt := by rw [(hTo.k t_mm (by decide)).eI hE (by decide) rfl]
  refine lv_dstore (lv' := [(7, .double r22), (5, .double r2), (4, .int i), (3, .ref out), (2, .ref mm), (1, .ref x), (0, .ref b)]) hx hb dL_law_647 hl (by decide) rfl (fun ls hl => ?_)
  refine lv_goto (tgt := 1432) hx hb dL_law_649 (by decide) ?_
  have sl0f : zI s21 rI 0 ≠ 0 → SLT κ s21 x mm 0 := fun hq => (hsl 0 (by decide) (fun q9 => hq (by rw [erI] at q9; rw [j27]; exact q9))).tr (by rw [ers5, esl0]; exact n36) (fun j hj => by rw [erS, n41])
  have sl1f : zI s21 rI 1 ≠ 0 → SLT κ s21 x mm 1 := fun hq => (hsl 1 (by decide) (fun q9 => hq (by rw [erI] at q9; rw [j27]; exact q9))).tr (by rw [ers5, esl1]; exact n38) (fun j hj => by rw [erS, n41])
  exact KK d1 hd1 s21 _ _ _ hT.up R23 ⟨by rw [etx]; omega, ⟨by rw [etx, erB, erT, j25, j26]; exact tal_less hal (by omega), by rw [erT, j26]; exact tnn_less hnn (by omega)⟩, ⟨by rw [etx, j29, j31]; exact hco, by rw [etx, j30, j32]; exact hpo⟩, fun i hi => by rw [erI, erK, j27, j28]; exact hkp i hi⟩ (⟨hnw.tr (by rw [enw]; exact n34) (by rw [erW]; exact n40), fun i hi => (show i = 0 ∨ i = 1 by omega).elim (fun e9 => by rw [e9, erI]; exact sl0f) (fun e9 => by rw [e9, erI]; exact sl1f)⟩) (hsm.tr (by rw [eso, eqP, eqO]; exact z43) (by rw [er5, er6]; exact z45)) (lv_sub hl [2, 3, 4, 5, 6] rfl)
set_option maxHeartbeats 4000000 in
set_option maxRecDepth 100000 in
theorem lc_15 (l : Launch) (κ : Kt) (σ0 : Gh) (x mm out b : Nat) (t_x : zk σ0 x 7) (t_mm : zk σ0 mm 20) (t_out : zk σ0 out 24) (ttx0 : zk σ0 (kR κ x 0) 6) (hdis : DIS κ x) (hlt : l.stackTraces = false) {p : Program} {e : Env} {s : State} {m : MethodId} {below : List Frame} {meth : Method} {c : Code} {L : Nat} {xs : Nat → Int32} {i : Int32} {Q9 : State → Prop} (hx : p.tables.exec = Jvm.exec) (hb : c.code = cL_law) (hml : c.maxLocals = 9) (hown : s.vm.findClass RL = some m.cls) (hg : ∀ w ∈ GW, w.before #[Value.ref b] s = true) (hK : va_K κ.1 vwCl (kTy κ) s) (hX : XY κ (tA σ0 s.heap.size) s s.heap) (hXs : va_X b L xs s s.heap) (hbl : b < s.heap.size) (hbA : ¬ tA σ0 s.heap.size b) (zx : zroomX κ s room_1 601024 7293034) (hi0 : 0 ≤ i.toInt) (hi1 : i.toInt + 6 ≤ L) (hL9 : L ≤ 3072) {σ : Gh} {H : Heap} {locs : List Loc} {ls : Array Slot} (hT : TS κ fA σ0 σ s H locs) (hR : RI κ σ mm) (hrel : LREL κ σ x mm) (hsr : SREL κ σ x mm) (hsm : SMP κ σ x mm) (hl : lv_has ls 9 [(4, .int i), (3, .ref out), (2, .ref mm), (1, .ref x), (0, .ref b)]) (KK : ∀ (σ1 : Gh) (H : Heap) (locs : List Loc) (ls : Array Slot), TS (kX κ) fA σ0 σ1 s H locs → RI (kX κ) σ1 mm → LREL κ σ1 x mm → SREL κ σ1 x mm → SMP κ σ1 x mm → lv_has ls 9 [(4, .int i), (3, .ref out), (2, .ref mm), (1, .ref x), (0, .ref b)] → W p l e room_1 s m #[Value.ref b] below meth c H locs 601024 7293034 Q9 (F0 m 1432 ls [])) : W p l e room_1 s m #[Value.ref b] below meth c H locs 601024 7293034 Q9 (F0 m 652 ls []) := by
  obtain ⟨y1, hy1⟩ : ∃ z, z = xs (ix i + 1) := ⟨_, rfl⟩
  obtain ⟨y2, hy2⟩ : ∃ z, z = xs (ix i + 2) := ⟨_, rfl⟩
  obtain ⟨y3, hy3⟩ : ∃ z, z = xs (ix i + 3) := ⟨_, rfl⟩
  obtain ⟨y4, hy4⟩ : ∃ z, z = xs (ix i + 4) := ⟨_, rfl⟩
  obtain ⟨y5, hy5⟩ : ∃ z, z = xs (ix i + 5) := ⟨_, rfl⟩
  have n0 : (0 : Int32).toInt = 0 := by decide
  have n1 : (1 : Int32).toInt = 1 := by decide
  have n2 : (2 : Int32).toInt = 2 := by decide
  have n3 : (3 : Int32).toInt = 3 := by decide
  have n4 : (4 : Int32).toInt = 4 := by decide
  have n5 : (5 : Int32).toInt = 5 := by decide
  obtain ⟨tx, etx⟩ : ∃ z, kR κ x 0 = z := ⟨_, rfl⟩
  have ttx : zk σ0 tx 6 := by rw [← etx]; exact ttx0
  obtain ⟨rB, erB⟩ : ∃ z, kR κ tx 0 = z := ⟨_, rfl⟩
  have trB : zk σ0 rB 14 := by rw [← erB]; exact hT.kr (hT.ref (hT.k ttx (by decide)) (by decide) (by decide) (by decide)) (by decide) (by decide)
  obtain ⟨rT, erT⟩ : ∃ z, kR κ mm 12 = z := ⟨_, rfl⟩
  have trT : zk σ0 rT 23 := by rw [← erT]; exact hT.kr (hT.ref (hT.k t_mm (by decide)) (by decide) (by decide) (by decide)) (by decide) (by decide)
  obtain ⟨rI, erI⟩ : ∃ z, kR κ x 6 = z := ⟨_, rfl⟩
  have trI : zk σ0 rI 13 := by rw [← erI]; exact hT.kr (hT.ref (hT.k t_x (by decide)) (by decide) (by decide) (by decide)) (by decide) (by decide)
  obtain ⟨rK, erK⟩ : ∃ z, kR κ mm 4 = z := ⟨_, rfl⟩
  have trK : zk σ0 rK 29 := by rw [← erK]; exact hT.kr (hT.ref (hT.k t_mm (by decide)) (by decide) (by decide) (by decide)) (by decide) (by decide)
  obtain ⟨hlen, ⟨hal, hnn⟩, ⟨hco, hpo⟩, hkp⟩ := hrel
  rw [etx] at hlen hal hco hpo
  rw [erB, erT] at hal
  rw [erT] at hnn
  rw [erI, erK] at hkp
  have btx := (hT.P (hT.k ttx (by decide)) (by decide)).1
  have btxl := btx.1
  have btxh := btx.2
  obtain ⟨nw, enw⟩ : ∃ z, kR κ x 3 = z := ⟨_, rfl⟩
  have tnw : zk σ0 nw 3 := by rw [← enw]; exact hT.kr (hT.ref (hT.k t_x (by decide)) (by decide) (by decide) (by decide)) (by decide) (by decide)
  obtain ⟨tr, etr⟩ : ∃ z, kR κ x 4 = z := ⟨_, rfl⟩
  have ttr : zk σ0 tr 3 := by rw [← etr]; exact hT.kr (hT.ref (hT.k t_x (by decide)) (by decide) (by decide) (by decide)) (by decide) (by decide)
  obtain ⟨rs5, ers5⟩ : ∃ z, kR κ x 5 = z := ⟨_, rfl⟩
  have trs5 : zk σ0 rs5 12 := by rw [← ers5]; exact hT.kr (hT.ref (hT.k t_x (by decide)) (by decide) (by decide) (by decide)) (by decide) (by decide)
  obtain ⟨sl0, esl0⟩ : ∃ z, kR κ rs5 0 = z := ⟨_, rfl⟩
  have tsl0 : zk σ0 sl0 3 := by rw [← esl0]; exact hT.kr (hT.ref (hT.k trs5 (by decide)) (by decide) (by decide) (by decide)) (by decide) (by decide)
  obtain ⟨sl1, esl1⟩ : ∃ z, kR κ rs5 1 = z := ⟨_, rfl⟩
  have tsl1 : zk σ0 sl1 3 := by rw [← esl1]; exact hT.kr (hT.ref (hT.k trs5 (by decide)) (by decide) (by decide) (by decide)) (by decide) (by decide)
  obtain ⟨rW, erW⟩ : ∃ z, kR κ mm 1 = z := ⟨_, rfl⟩
  have trW : zk σ0 rW 21 := by rw [← erW]; exact hT.kr (hT.ref (hT.k t_mm (by decide)) (by decide) (by decide) (by decide)) (by decide) (by decide)
  obtain ⟨rS, erS⟩ : ∃ z, kR κ mm 3 = z := ⟨_, rfl⟩
  have trS : zk σ0 rS 22 := by rw [← erS]; exact hT.kr (hT.ref (hT.k t_mm (by decide)) (by decide) (by decide) (by decide)) (by decide) (by decide)
  obtain ⟨so, eso⟩ : ∃ z, kR κ x 1 = z := ⟨_, rfl⟩
  have tso : zk σ0 so 4 := by rw [← eso]; exact hT.kr (hT.ref (hT.k t_x (by decide)) (by decide) (by decide) (by decide)) (by decide) (by decide)
  obtain ⟨qP, eqP⟩ : ∃ z, kR κ so 0 = z := ⟨_, rfl⟩
  have tqP : zk σ0 qP 8 := by rw [← eqP]; exact hT.kr (hT.ref (hT.k tso (by decide)) (by decide) (by decide) (by decide)) (by decide) (by decide)
  obtain ⟨qO, eqO⟩ : ∃ z, kR κ so 1 = z := ⟨_, rfl⟩
  have tqO : zk σ0 qO 16 := by rw [← eqO]; exact hT.kr (hT.ref (hT.k tso (by decide)) (by decide) (by decide) (by decide)) (by decide) (by decide)
  obtain ⟨r5, er5⟩ : ∃ z, kR κ mm 5 = z := ⟨_, rfl⟩
  have tr5 : zk σ0 r5 25 := by rw [← er5]; exact hT.kr (hT.ref (hT.k t_mm (by decide)) (by decide) (by decide) (by decide)) (by decide) (by decide)
  obtain ⟨r6, er6⟩ : ∃ z, kR κ mm 6 = z := ⟨_, rfl⟩
  have tr6 : zk σ0 r6 26 := by rw [← er6]; exact hT.kr (hT.ref (hT.k t_mm (by decide)) (by decide) (by decide) (by decide)) (by decide) (by decide)
  obtain ⟨hnw, hsl⟩ := hsr
  obtain ⟨hd1, ⟨hd2, hd3⟩, hd4, hd5, hd6, hd7⟩ := hdis
  have d_nt : nw ≠ tr := by rw [← enw, ← etr]; exact hd2
  have d_n0 : nw ≠ sl0 := by rw [← enw, ← esl0, ← ers5]; exact hd3 0 (by decide)
  have d_t0 : sl0 ≠ tr := by rw [← etr, ← esl0, ← ers5]; exact fun q => hd4 0 (by decide) q.symm
  have d_n1 : nw ≠ sl1 := by rw [← enw, ← esl1, ← ers5]; exact hd3 1 (by decide)
  have d_t1 : sl1 ≠ tr := by rw [← etr, ← esl1, ← ers5]; exact fun q => hd4 1 (by decide) q.symm
  have d_01 : sl0 ≠ sl1 := by rw [← esl0, ← esl1, ← ers5]; exact hd5
  have knw : zk σ nw 3 := hT.k tnw (by decide)
  have ksl0 : zk σ sl0 3 := hT.k tsl0 (by decide)
  have ksl1 : zk σ sl1 3 := hT.k tsl1 (by decide)
  refine lv_aload_n hx hb dL_law_652 rfl (lv_at hl 3 rfl) ?_
  have hTo := hT
  refine tVl (n := 0) (As := []) (rest := []) hx hb hml hown hg hT hK hX (X5_energy l κ σ x (hT.k t_x (by decide))) sub_fE_fA (mwV k492 k493 k494 k84 k495) ⟨rfl, by decide, by decide, by decide +kernel⟩ ⟨(Nat.le_of_ble_eq_true rfl), (Nat.le_of_ble_eq_true rfl)⟩ (hT.o7 (hT.k t_x (by decide))) rfl rfl hl.1 rfl (Nat.le_of_ble_eq_true rfl) dL_law_653 zx.dn (fun r2 s1 H locs hφ hE hT => ?_)
  have R3 := hR.ext hE ⟨rfl, rfl, fun _ => rfl, fun _ => rfl, fun _ => rfl, fun _ => rfl⟩
  have a4 : (zI s1 tx 1).toInt = (zI σ tx 1).toInt := by rw [(hTo.k ttx (by decide)).eI hE (by decide) rfl]
  have j5 : zI s1 rB = zI σ rB := (show zI s1 rB = zI σ rB from funext fun k => (hTo.k trB (by decide)).eI hE (by decide) rfl)
  have j6 : zI s1 rT = zI σ rT := (show zI s1 rT = zI σ rT from funext fun k => (hTo.k trT (by decide)).eI hE (by decide) rfl)
  have j7 : zI s1 rI = zI σ rI := (show zI s1 rI = zI σ rI from funext fun k => (hTo.k trI (by decide)).eI hE (by decide) rfl)
  have j8 : zI s1 rK = zI σ rK := (show zI s1 rK = zI σ rK from funext fun k => (hTo.k trK (by decide)).eI hE (by decide) rfl)
  have j9 : zI s1 tx 2 = zI σ tx 2 := (hTo.k ttx (by decide)).eI hE (by decide) rfl
  have j10 : zI s1 tx 3 = zI σ tx 3 := (hTo.k ttx (by decide)).eI hE (by decide) rfl
  have j11 : zI s1 mm 15 = zI σ mm 15 := (hTo.k t_mm (by decide)).eI hE (by decide) rfl
  have j12 : zI s1 mm 16 = zI σ mm 16 := (hTo.k t_mm (by decide)).eI hE (by decide) rfl
  have n13 : zI s1 nw 7 = zI σ nw 7 ∧ zI s1 nw 8 = zI σ nw 8 ∧ zI s1 nw 9 = zI σ nw 9 := ⟨(hTo.k tnw (by decide)).eI hE (by decide) rfl, (hTo.k tnw (by decide)).eI hE (by decide) rfl, (hTo.k tnw (by decide)).eI hE (by decide) rfl⟩
  have n14 : zI s1 sl0 7 = zI σ sl0 7 ∧ zI s1 sl0 8 = zI σ sl0 8 ∧ zI s1 sl0 9 = zI σ sl0 9 := ⟨(hTo.k tsl0 (by decide)).eI hE (by decide) rfl, (hTo.k tsl0 (by decide)).eI hE (by decide) rfl, (hTo.k tsl0 (by decide)).eI hE (by decide) rfl⟩
  have n15 : zI s1 sl1 7 = zI σ sl1 7 ∧ zI s1 sl1 8 = zI σ sl1 8 ∧ zI s1 sl1 9 = zI σ sl1 9 := ⟨(hTo.k tsl1 (by decide)).eI hE (by decide) rfl, (hTo.k tsl1 (by decide)).eI hE (by decide) rfl, (hTo.k tsl1 (by decide)).eI hE (by decide) rfl⟩
  have n16 : ∀ j : Nat, j < 3 → zJ s1 rW j = zJ σ rW j := fun j hj => (hTo.k trW (by decide)).eJ hE (by decide) rfl
  have n17 : zJ s1 rS = zJ σ rS := (show zJ s1 rS = zJ σ rS from funext fun k => (hTo.k trS (by decide)).eJ hE (by decide) rfl)
  have z18 : zI s1 so 2 = zI σ so 2 ∧ zI s1 so 6 = zI σ so 6 ∧ zI s1 qP = zI σ qP ∧ zI s1 qO = zI σ qO := ⟨(hTo.k tso (by decide)).eI hE (by decide) rfl, (hTo.k tso (by decide)).eI hE (by decide) rfl, funext fun q9 => (hTo.k tqP (by decide)).eI hE (by decide) rfl, funext fun q9 => (hTo.k tqO (by decide)).eI hE (by decide) rfl⟩
  have z19 : zI s1 mm 7 = zI σ mm 7 ∧ zI s1 mm 8 = zI σ mm 8 ∧ zI s1 r5 = zI σ r5 ∧ zI s1 r6 = zI σ r6 := ⟨(hTo.k t_mm (by decide)).eI hE (by decide) rfl, (hTo.k t_mm (by decide)).eI hE (by decide) rfl, funext fun q9 => (hTo.k tr5 (by decide)).eI hE (by decide) rfl, funext fun q9 => (hTo.k tr6 (by decide)).eI hE (by decide) rfl⟩
  have a20 : (zI s1 mm 13).toInt = (zI σ mm 13).toInt := by rw [(hTo.k t_mm (by decide)).eI hE (by decide) rfl]
  refine lv_pop2_2 hx hb dL_law_656 rfl ?_
  refine lv_aload_n hx hb dL_law_657 rfl (lv_at hl 2 rfl) ?_
  have hTo := hT
  refine tVl (n := 0) (As := []) (rest := []) hx hb hml hown hg hT hK hX (X6_energy l κ s1 mm (hT.k t_mm (by decide)) R3) sub_gR_fA (mwV k1498 k1499 k1500 k92 k1501) ⟨rfl, by decide, by decide, by decide +kernel⟩ ⟨(Nat.le_of_ble_eq_true rfl), (Nat.le_of_ble_eq_true rfl)⟩ (hT.o20 (hT.k t_mm (by decide))) rfl rfl hl.1 rfl (Nat.le_of_ble_eq_true rfl) dL_law_658 zx.dn (fun r22 s21 H locs hφ hE hT => ?_)
  have R23 := R3.ext hE ⟨rfl, rfl, fun _ => rfl, fun _ => rfl, fun _ => rfl, fun _ => rfl⟩
  have a24 : (zI s21 tx 1).toInt = (zI s1 tx 1).toInt := by rw [(hTo.k ttx (by decide)).eI hE (by decide) rfl]
  have j25 : zI s21 rB = zI σ rB := ((show zI s21 rB = zI s1 rB from funext fun k => (hTo.k trB (by decide)).eI hE (by decide) rfl)).trans j5
  have j26 : zI s21 rT = zI σ rT := ((show zI s21 rT = zI s1 rT from funext fun k => (hTo.k trT (by decide)).eI hE (by decide) rfl)).trans j6
  have j27 : zI s21 rI = zI σ rI := ((show zI s21 rI = zI s1 rI from funext fun k => (hTo.k trI (by decide)).eI hE (by decide) rfl)).trans j7
  have j28 : zI s21 rK = zI σ rK := ((show zI s21 rK = zI s1 rK from funext fun k => (hTo.k trK (by decide)).eI hE (by decide) rfl)).trans j8
  have j29 : zI s21 tx 2 = zI σ tx 2 := ((hTo.k ttx (by decide)).eI hE (by decide) rfl).trans j9
  have j30 : zI s21 tx 3 = zI σ tx 3 := ((hTo.k ttx (by decide)).eI hE (by decide) rfl).trans j10
  have j31 : zI s21 mm 15 = zI σ mm 15 := ((hTo.k t_mm (by decide)).eI hE (by decide) rfl).trans j11
  have j32 : zI s21 mm 16 = zI σ mm 16 := ((hTo.k t_mm (by decide)).eI hE (by decide) rfl).trans j12
  have n33 : zI s21 nw 7 = zI s1 nw 7 ∧ zI s21 nw 8 = zI s1 nw 8 ∧ zI s21 nw 9 = zI s1 nw 9 := ⟨(hTo.k tnw (by decide)).eI hE (by decide) rfl, (hTo.k tnw (by decide)).eI hE (by decide) rfl, (hTo.k tnw (by decide)).eI hE (by decide) rfl⟩
  have n34 : zI s21 nw 7 = zI σ nw 7 ∧ zI s21 nw 8 = zI σ nw 8 ∧ zI s21 nw 9 = zI σ nw 9 := ⟨n33.1.trans n13.1, n33.2.1.trans n13.2.1, n33.2.2.trans n13.2.2⟩
  have n35 : zI s21 sl0 7 = zI s1 sl0 7 ∧ zI s21 sl0 8 = zI s1 sl0 8 ∧ zI s21 sl0 9 = zI s1 sl0 9 := ⟨(hTo.k tsl0 (by decide)).eI hE (by decide) rfl, (hTo.k tsl0 (by decide)).eI hE (by decide) rfl, (hTo.k tsl0 (by decide)).eI hE (by decide) rfl⟩
  have n36 : zI s21 sl0 7 = zI σ sl0 7 ∧ zI s21 sl0 8 = zI σ sl0 8 ∧ zI s21 sl0 9 = zI σ sl0 9 := ⟨n35.1.trans n14.1, n35.2.1.trans n14.2.1, n35.2.2.trans n14.2.2⟩
  have n37 : zI s21 sl1 7 = zI s1 sl1 7 ∧ zI s21 sl1 8 = zI s1 sl1 8 ∧ zI s21 sl1 9 = zI s1 sl1 9 := ⟨(hTo.k tsl1 (by decide)).eI hE (by decide) rfl, (hTo.k tsl1 (by decide)).eI hE (by decide) rfl, (hTo.k tsl1 (by decide)).eI hE (by decide) rfl⟩
  have n38 : zI s21 sl1 7 = zI σ sl1 7 ∧ zI s21 sl1 8 = zI σ sl1 8 ∧ zI s21 sl1 9 = zI σ sl1 9 := ⟨n37.1.trans n15.1, n37.2.1.trans n15.2.1, n37.2.2.trans n15.2.2⟩
  have n39 : ∀ j : Nat, j < 3 → zJ s21 rW j = zJ s1 rW j := fun j hj => (hTo.k trW (by decide)).eJ hE (by decide) rfl
  have n40 : ∀ j : Nat, j < 3 → zJ s21 rW j = zJ σ rW j := fun j hj => (n39 j hj).trans (n16 j hj)
  have n41 : zJ s21 rS = zJ σ rS := (show zJ s21 rS = zJ s1 rS from funext fun k => (hTo.k trS (by decide)).eJ hE (by decide) rfl).trans n17
  have z42 : zI s21 so 2 = zI s1 so 2 ∧ zI s21 so 6 = zI s1 so 6 ∧ zI s21 qP = zI s1 qP ∧ zI s21 qO = zI s1 qO := ⟨(hTo.k tso (by decide)).eI hE (by decide) rfl, (hTo.k tso (by decide)).eI hE (by decide) rfl, funext fun q9 => (hTo.k tqP (by decide)).eI hE (by decide) rfl, funext fun q9 => (hTo.k tqO (by decide)).eI hE (by decide) rfl⟩
  have z43 : zI s21 so 2 = zI σ so 2 ∧ zI s21 so 6 = zI σ so 6 ∧ zI s21 qP = zI σ qP ∧ zI s21 qO = zI σ qO := ⟨z42.1.trans z18.1, z42.2.1.trans z18.2.1, z42.2.2.1.trans z18.2.2.1, z42.2.2.2.trans z18.2.2.2⟩
  have z44 : zI s21 mm 7 = zI s1 mm 7 ∧ zI s21 mm 8 = zI s1 mm 8 ∧ zI s21 r5 = zI s1 r5 ∧ zI s21 r6 = zI s1 r6 := ⟨(hTo.k t_mm (by decide)).eI hE (by decide) rfl, (hTo.k t_mm (by decide)).eI hE (by decide) rfl, funext fun q9 => (hTo.k tr5 (by decide)).eI hE (by decide) rfl, funext fun q9 => (hTo.k tr6 (by decide)).eI hE (by decide) rfl⟩
  have z45 : zI s21 mm 7 = zI σ mm 7 ∧ zI s21 mm 8 = zI σ mm 8 ∧ zI s21 r5 = zI σ r5 ∧ zI s21 r6 = zI σ r6 := ⟨z44.1.trans z19.1, z44.2.1.trans z19.2.1, z44.2.2.1.trans z19.2.2.1, z44.2.2.2.trans z19.2.2.2⟩
  have a46 : (zI s21 mm 13).toInt = (zI s1 mm 13).toInt := by rw [(hTo.k t_mm (by decide)).eI hE (by decide) rfl]
  refine lv_pop2_2 hx hb dL_law_661 rfl ?_
  refine lv_goto (tgt := 1432) hx hb dL_law_662 (by decide) ?_
  have sl0f : zI s21 rI 0 ≠ 0 → SLT κ s21 x mm 0 := fun hq => (hsl 0 (by decide) (fun q9 => hq (by rw [erI] at q9; rw [j27]; exact q9))).tr (by rw [ers5, esl0]; exact n36) (fun j hj => by rw [erS, n41])
  have sl1f : zI s21 rI 1 ≠ 0 → SLT κ s21 x mm 1 := fun hq => (hsl 1 (by decide) (fun q9 => hq (by rw [erI] at q9; rw [j27]; exact q9))).tr (by rw [ers5, esl1]; exact n38) (fun j hj => by rw [erS, n41])
  exact KK s21 _ _ _ hT.up R23 ⟨by rw [etx]; omega, ⟨by rw [etx, erB, erT, j25, j26]; exact tal_less hal (by omega), by rw [erT, j26]; exact tnn_less hnn (by omega)⟩, ⟨by rw [etx, j29, j31]; exact hco, by rw [etx, j30, j32]; exact hpo⟩, fun i hi => by rw [erI, erK, j27, j28]; exact hkp i hi⟩ (⟨hnw.tr (by rw [enw]; exact n34) (by rw [erW]; exact n40), fun i hi => (show i = 0 ∨ i = 1 by omega).elim (fun e9 => by rw [e9, erI]; exact sl0f) (fun e9 => by rw [e9, erI]; exact sl1f)⟩) (hsm.tr (by rw [eso, eqP, eqO]; exact z43) (by rw [er5, er6]; exact z45)) (lv_sub hl [0, 1, 2, 3, 4] rfl)
set_option maxHeartbeats 4000000 in
set_option maxRecDepth 100000 in
theorem lc_16 (l : Launch) (κ : Kt) (σ0 : Gh) (x mm out b : Nat) (t_x : zk σ0 x 7) (t_mm : zk σ0 mm 20) (t_out : zk σ0 out 24) (ttx0 : zk σ0 (kR κ x 0) 6) (hdis : DIS κ x) (hlt : l.stackTraces = false) {p : Program} {e : Env} {s : State} {m : MethodId} {below : List Frame} {meth : Method} {c : Code} {L : Nat} {xs : Nat → Int32} {i : Int32} {Q9 : State → Prop} (hx : p.tables.exec = Jvm.exec) (hb : c.code = cL_law) (hml : c.maxLocals = 9) (hown : s.vm.findClass RL = some m.cls) (hg : ∀ w ∈ GW, w.before #[Value.ref b] s = true) (hK : va_K κ.1 vwCl (kTy κ) s) (hX : XY κ (tA σ0 s.heap.size) s s.heap) (hXs : va_X b L xs s s.heap) (hbl : b < s.heap.size) (hbA : ¬ tA σ0 s.heap.size b) (zx : zroomX κ s room_1 601024 7293034) (hi0 : 0 ≤ i.toInt) (hi1 : i.toInt + 6 ≤ L) (hL9 : L ≤ 3072) {σ : Gh} {H : Heap} {locs : List Loc} {ls : Array Slot} (hT : TS κ fA σ0 σ s H locs) (hR : RI κ σ mm) (hrel : LREL κ σ x mm) (hsr : SREL κ σ x mm) (hsm : SMP κ σ x mm) (hl : lv_has ls 9 [(4, .int i), (3, .ref out), (2, .ref mm), (1, .ref x), (0, .ref b)]) (KK : ∀ (σ1 : Gh) (H : Heap) (locs : List Loc) (ls : Array Slot), TS (kX κ) fA σ0 σ1 s H locs → RI (kX κ) σ1 mm → LREL κ σ1 x mm → SREL κ σ1 x mm → SMP κ σ1 x mm → lv_has ls 9 [(4, .int i), (3, .ref out), (2, .ref mm), (1, .ref x), (0, .ref b)] → W p l e room_1 s m #[Value.ref b] below meth c H locs 601024 7293034 Q9 (F0 m 1432 ls [])) : W p l e room_1 s m #[Value.ref b] below meth c H locs 601024 7293034 Q9 (F0 m 665 ls []) := by
  obtain ⟨y1, hy1⟩ : ∃ z, z = xs (ix i + 1) := ⟨_, rfl⟩
  obtain ⟨y2, hy2⟩ : ∃ z, z = xs (ix i + 2) := ⟨_, rfl⟩
  obtain ⟨y3, hy3⟩ : ∃ z, z = xs (ix i + 3) := ⟨_, rfl⟩
  obtain ⟨y4, hy4⟩ : ∃ z, z = xs (ix i + 4) := ⟨_, rfl⟩
  obtain ⟨y5, hy5⟩ : ∃ z, z = xs (ix i + 5) := ⟨_, rfl⟩
  have n0 : (0 : Int32).toInt = 0 := by decide
  have n1 : (1 : Int32).toInt = 1 := by decide
  have n2 : (2 : Int32).toInt = 2 := by decide
  have n3 : (3 : Int32).toInt = 3 := by decide
  have n4 : (4 : Int32).toInt = 4 := by decide
  have n5 : (5 : Int32).toInt = 5 := by decide
  obtain ⟨tx, etx⟩ : ∃ z, kR κ x 0 = z := ⟨_, rfl⟩
  have ttx : zk σ0 tx 6 := by rw [← etx]; exact ttx0
  obtain ⟨rB, erB⟩ : ∃ z, kR κ tx 0 = z := ⟨_, rfl⟩
  have trB : zk σ0 rB 14 := by rw [← erB]; exact hT.kr (hT.ref (hT.k ttx (by decide)) (by decide) (by decide) (by decide)) (by decide) (by decide)
  obtain ⟨rT, erT⟩ : ∃ z, kR κ mm 12 = z := ⟨_, rfl⟩
  have trT : zk σ0 rT 23 := by rw [← erT]; exact hT.kr (hT.ref (hT.k t_mm (by decide)) (by decide) (by decide) (by decide)) (by decide) (by decide)
  obtain ⟨rI, erI⟩ : ∃ z, kR κ x 6 = z := ⟨_, rfl⟩
  have trI : zk σ0 rI 13 := by rw [← erI]; exact hT.kr (hT.ref (hT.k t_x (by decide)) (by decide) (by decide) (by decide)) (by decide) (by decide)
  obtain ⟨rK, erK⟩ : ∃ z, kR κ mm 4 = z := ⟨_, rfl⟩
  have trK : zk σ0 rK 29 := by rw [← erK]; exact hT.kr (hT.ref (hT.k t_mm (by decide)) (by decide) (by decide) (by decide)) (by decide) (by decide)
  obtain ⟨hlen, ⟨hal, hnn⟩, ⟨hco, hpo⟩, hkp⟩ := hrel
  rw [etx] at hlen hal hco hpo
  rw [erB, erT] at hal
  rw [erT] at hnn
  rw [erI, erK] at hkp
  have btx := (hT.P (hT.k ttx (by decide)) (by decide)).1
  have btxl := btx.1
  have btxh := btx.2
  obtain ⟨nw, enw⟩ : ∃ z, kR κ x 3 = z := ⟨_, rfl⟩
  have tnw : zk σ0 nw 3 := by rw [← enw]; exact hT.kr (hT.ref (hT.k t_x (by decide)) (by decide) (by decide) (by decide)) (by decide) (by decide)
  obtain ⟨tr, etr⟩ : ∃ z, kR κ x 4 = z := ⟨_, rfl⟩
  have ttr : zk σ0 tr 3 := by rw [← etr]; exact hT.kr (hT.ref (hT.k t_x (by decide)) (by decide) (by decide) (by decide)) (by decide) (by decide)
  obtain ⟨rs5, ers5⟩ : ∃ z, kR κ x 5 = z := ⟨_, rfl⟩
  have trs5 : zk σ0 rs5 12 := by rw [← ers5]; exact hT.kr (hT.ref (hT.k t_x (by decide)) (by decide) (by decide) (by decide)) (by decide) (by decide)
  obtain ⟨sl0, esl0⟩ : ∃ z, kR κ rs5 0 = z := ⟨_, rfl⟩
  have tsl0 : zk σ0 sl0 3 := by rw [← esl0]; exact hT.kr (hT.ref (hT.k trs5 (by decide)) (by decide) (by decide) (by decide)) (by decide) (by decide)
  obtain ⟨sl1, esl1⟩ : ∃ z, kR κ rs5 1 = z := ⟨_, rfl⟩
  have tsl1 : zk σ0 sl1 3 := by rw [← esl1]; exact hT.kr (hT.ref (hT.k trs5 (by decide)) (by decide) (by decide) (by decide)) (by decide) (by decide)
  obtain ⟨rW, erW⟩ : ∃ z, kR κ mm 1 = z := ⟨_, rfl⟩
  have trW : zk σ0 rW 21 := by rw [← erW]; exact hT.kr (hT.ref (hT.k t_mm (by decide)) (by decide) (by decide) (by decide)) (by decide) (by decide)
  obtain ⟨rS, erS⟩ : ∃ z, kR κ mm 3 = z := ⟨_, rfl⟩
  have trS : zk σ0 rS 22 := by rw [← erS]; exact hT.kr (hT.ref (hT.k t_mm (by decide)) (by decide) (by decide) (by decide)) (by decide) (by decide)
  obtain ⟨so, eso⟩ : ∃ z, kR κ x 1 = z := ⟨_, rfl⟩
  have tso : zk σ0 so 4 := by rw [← eso]; exact hT.kr (hT.ref (hT.k t_x (by decide)) (by decide) (by decide) (by decide)) (by decide) (by decide)
  obtain ⟨qP, eqP⟩ : ∃ z, kR κ so 0 = z := ⟨_, rfl⟩
  have tqP : zk σ0 qP 8 := by rw [← eqP]; exact hT.kr (hT.ref (hT.k tso (by decide)) (by decide) (by decide) (by decide)) (by decide) (by decide)
  obtain ⟨qO, eqO⟩ : ∃ z, kR κ so 1 = z := ⟨_, rfl⟩
  have tqO : zk σ0 qO 16 := by rw [← eqO]; exact hT.kr (hT.ref (hT.k tso (by decide)) (by decide) (by decide) (by decide)) (by decide) (by decide)
  obtain ⟨r5, er5⟩ : ∃ z, kR κ mm 5 = z := ⟨_, rfl⟩
  have tr5 : zk σ0 r5 25 := by rw [← er5]; exact hT.kr (hT.ref (hT.k t_mm (by decide)) (by decide) (by decide) (by decide)) (by decide) (by decide)
  obtain ⟨r6, er6⟩ : ∃ z, kR κ mm 6 = z := ⟨_, rfl⟩
  have tr6 : zk σ0 r6 26 := by rw [← er6]; exact hT.kr (hT.ref (hT.k t_mm (by decide)) (by decide) (by decide) (by decide)) (by decide) (by decide)
  obtain ⟨hnw, hsl⟩ := hsr
  obtain ⟨hd1, ⟨hd2, hd3⟩, hd4, hd5, hd6, hd7⟩ := hdis
  have d_nt : nw ≠ tr := by rw [← enw, ← etr]; exact hd2
  have d_n0 : nw ≠ sl0 := by rw [← enw, ← esl0, ← ers5]; exact hd3 0 (by decide)
  have d_t0 : sl0 ≠ tr := by rw [← etr, ← esl0, ← ers5]; exact fun q => hd4 0 (by decide) q.symm
  have d_n1 : nw ≠ sl1 := by rw [← enw, ← esl1, ← ers5]; exact hd3 1 (by decide)
  have d_t1 : sl1 ≠ tr := by rw [← etr, ← esl1, ← ers5]; exact fun q => hd4 1 (by decide) q.symm
  have d_01 : sl0 ≠ sl1 := by rw [← esl0, ← esl1, ← ers5]; exact hd5
  have knw : zk σ nw 3 := hT.k tnw (by decide)
  have ksl0 : zk σ sl0 3 := hT.k tsl0 (by decide)
  have ksl1 : zk σ sl1 3 := hT.k tsl1 (by decide)
  refine lv_aload_n hx hb dL_law_665 rfl (lv_at hl 3 rfl) ?_
  have hTo := hT
  refine tVi (n := 0) (As := []) (rest := []) hx hb hml hown hg hT hK hX (X5_bits l κ σ x (hT.k t_x (by decide))) sub_fE_fA (mwV k501 k502 k503 k84 k504) ⟨rfl, by decide, by decide, by decide +kernel⟩ ⟨(Nat.le_of_ble_eq_true rfl), (Nat.le_of_ble_eq_true rfl)⟩ (hT.o7 (hT.k t_x (by decide))) rfl rfl hl.1 rfl (Nat.le_of_ble_eq_true rfl) dL_law_666 zx.dn (fun r2 s1 H locs hφ hE hT => ?_)
  have R3 := hR.ext hE ⟨rfl, rfl, fun _ => rfl, fun _ => rfl, fun _ => rfl, fun _ => rfl⟩
  have a4 : (zI s1 tx 1).toInt = (zI σ tx 1).toInt := by rw [(hTo.k ttx (by decide)).eI hE (by decide) rfl]
  have j5 : zI s1 rB = zI σ rB := (show zI s1 rB = zI σ rB from funext fun k => (hTo.k trB (by decide)).eI hE (by decide) rfl)
  have j6 : zI s1 rT = zI σ rT := (show zI s1 rT = zI σ rT from funext fun k => (hTo.k trT (by decide)).eI hE (by decide) rfl)
  have j7 : zI s1 rI = zI σ rI := (show zI s1 rI = zI σ rI from funext fun k => (hTo.k trI (by decide)).eI hE (by decide) rfl)
  have j8 : zI s1 rK = zI σ rK := (show zI s1 rK = zI σ rK from funext fun k => (hTo.k trK (by decide)).eI hE (by decide) rfl)
  have j9 : zI s1 tx 2 = zI σ tx 2 := (hTo.k ttx (by decide)).eI hE (by decide) rfl
  have j10 : zI s1 tx 3 = zI σ tx 3 := (hTo.k ttx (by decide)).eI hE (by decide) rfl
  have j11 : zI s1 mm 15 = zI σ mm 15 := (hTo.k t_mm (by decide)).eI hE (by decide) rfl
  have j12 : zI s1 mm 16 = zI σ mm 16 := (hTo.k t_mm (by decide)).eI hE (by decide) rfl
  have n13 : zI s1 nw 7 = zI σ nw 7 ∧ zI s1 nw 8 = zI σ nw 8 ∧ zI s1 nw 9 = zI σ nw 9 := ⟨(hTo.k tnw (by decide)).eI hE (by decide) rfl, (hTo.k tnw (by decide)).eI hE (by decide) rfl, (hTo.k tnw (by decide)).eI hE (by decide) rfl⟩
  have n14 : zI s1 sl0 7 = zI σ sl0 7 ∧ zI s1 sl0 8 = zI σ sl0 8 ∧ zI s1 sl0 9 = zI σ sl0 9 := ⟨(hTo.k tsl0 (by decide)).eI hE (by decide) rfl, (hTo.k tsl0 (by decide)).eI hE (by decide) rfl, (hTo.k tsl0 (by decide)).eI hE (by decide) rfl⟩
  have n15 : zI s1 sl1 7 = zI σ sl1 7 ∧ zI s1 sl1 8 = zI σ sl1 8 ∧ zI s1 sl1 9 = zI σ sl1 9 := ⟨(hTo.k tsl1 (by decide)).eI hE (by decide) rfl, (hTo.k tsl1 (by decide)).eI hE (by decide) rfl, (hTo.k tsl1 (by decide)).eI hE (by decide) rfl⟩
  have n16 : ∀ j : Nat, j < 3 → zJ s1 rW j = zJ σ rW j := fun j hj => (hTo.k trW (by decide)).eJ hE (by decide) rfl
  have n17 : zJ s1 rS = zJ σ rS := (show zJ s1 rS = zJ σ rS from funext fun k => (hTo.k trS (by decide)).eJ hE (by decide) rfl)
  have z18 : zI s1 so 2 = zI σ so 2 ∧ zI s1 so 6 = zI σ so 6 ∧ zI s1 qP = zI σ qP ∧ zI s1 qO = zI σ qO := ⟨(hTo.k tso (by decide)).eI hE (by decide) rfl, (hTo.k tso (by decide)).eI hE (by decide) rfl, funext fun q9 => (hTo.k tqP (by decide)).eI hE (by decide) rfl, funext fun q9 => (hTo.k tqO (by decide)).eI hE (by decide) rfl⟩
  have z19 : zI s1 mm 7 = zI σ mm 7 ∧ zI s1 mm 8 = zI σ mm 8 ∧ zI s1 r5 = zI σ r5 ∧ zI s1 r6 = zI σ r6 := ⟨(hTo.k t_mm (by decide)).eI hE (by decide) rfl, (hTo.k t_mm (by decide)).eI hE (by decide) rfl, funext fun q9 => (hTo.k tr5 (by decide)).eI hE (by decide) rfl, funext fun q9 => (hTo.k tr6 (by decide)).eI hE (by decide) rfl⟩
  have a20 : (zI s1 mm 13).toInt = (zI σ mm 13).toInt := by rw [(hTo.k t_mm (by decide)).eI hE (by decide) rfl]
  refine lv_pop hx hb dL_law_669 rfl ?_
  refine lv_aload_n hx hb dL_law_670 rfl (lv_at hl 2 rfl) ?_
  have hTo := hT
  refine tVi (n := 0) (As := []) (rest := []) hx hb hml hown hg hT hK hX (X6_bits l κ s1 mm (hT.k t_mm (by decide)) R3) sub_gR_fA (mwV k1502 k1503 k1504 k92 k1505) ⟨rfl, by decide, by decide, by decide +kernel⟩ ⟨(Nat.le_of_ble_eq_true rfl), (Nat.le_of_ble_eq_true rfl)⟩ (hT.o20 (hT.k t_mm (by decide))) rfl rfl hl.1 rfl (Nat.le_of_ble_eq_true rfl) dL_law_671 zx.dn (fun r22 s21 H locs hφ hE hT => ?_)
  have R23 := R3.ext hE ⟨rfl, rfl, fun _ => rfl, fun _ => rfl, fun _ => rfl, fun _ => rfl⟩
  have a24 : (zI s21 tx 1).toInt = (zI s1 tx 1).toInt := by rw [(hTo.k ttx (by decide)).eI hE (by decide) rfl]
  have j25 : zI s21 rB = zI σ rB := ((show zI s21 rB = zI s1 rB from funext fun k => (hTo.k trB (by decide)).eI hE (by decide) rfl)).trans j5
  have j26 : zI s21 rT = zI σ rT := ((show zI s21 rT = zI s1 rT from funext fun k => (hTo.k trT (by decide)).eI hE (by decide) rfl)).trans j6
  have j27 : zI s21 rI = zI σ rI := ((show zI s21 rI = zI s1 rI from funext fun k => (hTo.k trI (by decide)).eI hE (by decide) rfl)).trans j7
  have j28 : zI s21 rK = zI σ rK := ((show zI s21 rK = zI s1 rK from funext fun k => (hTo.k trK (by decide)).eI hE (by decide) rfl)).trans j8
  have j29 : zI s21 tx 2 = zI σ tx 2 := ((hTo.k ttx (by decide)).eI hE (by decide) rfl).trans j9
  have j30 : zI s21 tx 3 = zI σ tx 3 := ((hTo.k ttx (by decide)).eI hE (by decide) rfl).trans j10
  have j31 : zI s21 mm 15 = zI σ mm 15 := ((hTo.k t_mm (by decide)).eI hE (by decide) rfl).trans j11
  have j32 : zI s21 mm 16 = zI σ mm 16 := ((hTo.k t_mm (by decide)).eI hE (by decide) rfl).trans j12
  have n33 : zI s21 nw 7 = zI s1 nw 7 ∧ zI s21 nw 8 = zI s1 nw 8 ∧ zI s21 nw 9 = zI s1 nw 9 := ⟨(hTo.k tnw (by decide)).eI hE (by decide) rfl, (hTo.k tnw (by decide)).eI hE (by decide) rfl, (hTo.k tnw (by decide)).eI hE (by decide) rfl⟩
  have n34 : zI s21 nw 7 = zI σ nw 7 ∧ zI s21 nw 8 = zI σ nw 8 ∧ zI s21 nw 9 = zI σ nw 9 := ⟨n33.1.trans n13.1, n33.2.1.trans n13.2.1, n33.2.2.trans n13.2.2⟩
  have n35 : zI s21 sl0 7 = zI s1 sl0 7 ∧ zI s21 sl0 8 = zI s1 sl0 8 ∧ zI s21 sl0 9 = zI s1 sl0 9 := ⟨(hTo.k tsl0 (by decide)).eI hE (by decide) rfl, (hTo.k tsl0 (by decide)).eI hE (by decide) rfl, (hTo.k tsl0 (by decide)).eI hE (by decide) rfl⟩
  have n36 : zI s21 sl0 7 = zI σ sl0 7 ∧ zI s21 sl0 8 = zI σ sl0 8 ∧ zI s21 sl0 9 = zI σ sl0 9 := ⟨n35.1.trans n14.1, n35.2.1.trans n14.2.1, n35.2.2.trans n14.2.2⟩
  have n37 : zI s21 sl1 7 = zI s1 sl1 7 ∧ zI s21 sl1 8 = zI s1 sl1 8 ∧ zI s21 sl1 9 = zI s1 sl1 9 := ⟨(hTo.k tsl1 (by decide)).eI hE (by decide) rfl, (hTo.k tsl1 (by decide)).eI hE (by decide) rfl, (hTo.k tsl1 (by decide)).eI hE (by decide) rfl⟩
  have n38 : zI s21 sl1 7 = zI σ sl1 7 ∧ zI s21 sl1 8 = zI σ sl1 8 ∧ zI s21 sl1 9 = zI σ sl1 9 := ⟨n37.1.trans n15.1, n37.2.1.trans n15.2.1, n37.2.2.trans n15.2.2⟩
  have n39 : ∀ j : Nat, j < 3 → zJ s21 rW j = zJ s1 rW j := fun j hj => (hTo.k trW (by decide)).eJ hE (by decide) rfl
  have n40 : ∀ j : Nat, j < 3 → zJ s21 rW j = zJ σ rW j := fun j hj => (n39 j hj).trans (n16 j hj)
  have n41 : zJ s21 rS = zJ σ rS := (show zJ s21 rS = zJ s1 rS from funext fun k => (hTo.k trS (by decide)).eJ hE (by decide) rfl).trans n17
  have z42 : zI s21 so 2 = zI s1 so 2 ∧ zI s21 so 6 = zI s1 so 6 ∧ zI s21 qP = zI s1 qP ∧ zI s21 qO = zI s1 qO := ⟨(hTo.k tso (by decide)).eI hE (by decide) rfl, (hTo.k tso (by decide)).eI hE (by decide) rfl, funext fun q9 => (hTo.k tqP (by decide)).eI hE (by decide) rfl, funext fun q9 => (hTo.k tqO (by decide)).eI hE (by decide) rfl⟩
  have z43 : zI s21 so 2 = zI σ so 2 ∧ zI s21 so 6 = zI σ so 6 ∧ zI s21 qP = zI σ qP ∧ zI s21 qO = zI σ qO := ⟨z42.1.trans z18.1, z42.2.1.trans z18.2.1, z42.2.2.1.trans z18.2.2.1, z42.2.2.2.trans z18.2.2.2⟩
  have z44 : zI s21 mm 7 = zI s1 mm 7 ∧ zI s21 mm 8 = zI s1 mm 8 ∧ zI s21 r5 = zI s1 r5 ∧ zI s21 r6 = zI s1 r6 := ⟨(hTo.k t_mm (by decide)).eI hE (by decide) rfl, (hTo.k t_mm (by decide)).eI hE (by decide) rfl, funext fun q9 => (hTo.k tr5 (by decide)).eI hE (by decide) rfl, funext fun q9 => (hTo.k tr6 (by decide)).eI hE (by decide) rfl⟩
  have z45 : zI s21 mm 7 = zI σ mm 7 ∧ zI s21 mm 8 = zI σ mm 8 ∧ zI s21 r5 = zI σ r5 ∧ zI s21 r6 = zI σ r6 := ⟨z44.1.trans z19.1, z44.2.1.trans z19.2.1, z44.2.2.1.trans z19.2.2.1, z44.2.2.2.trans z19.2.2.2⟩
  have a46 : (zI s21 mm 13).toInt = (zI s1 mm 13).toInt := by rw [(hTo.k t_mm (by decide)).eI hE (by decide) rfl]
  refine lv_pop hx hb dL_law_674 rfl ?_
  refine lv_goto (tgt := 1432) hx hb dL_law_675 (by decide) ?_
  have sl0f : zI s21 rI 0 ≠ 0 → SLT κ s21 x mm 0 := fun hq => (hsl 0 (by decide) (fun q9 => hq (by rw [erI] at q9; rw [j27]; exact q9))).tr (by rw [ers5, esl0]; exact n36) (fun j hj => by rw [erS, n41])
  have sl1f : zI s21 rI 1 ≠ 0 → SLT κ s21 x mm 1 := fun hq => (hsl 1 (by decide) (fun q9 => hq (by rw [erI] at q9; rw [j27]; exact q9))).tr (by rw [ers5, esl1]; exact n38) (fun j hj => by rw [erS, n41])
  exact KK s21 _ _ _ hT.up R23 ⟨by rw [etx]; omega, ⟨by rw [etx, erB, erT, j25, j26]; exact tal_less hal (by omega), by rw [erT, j26]; exact tnn_less hnn (by omega)⟩, ⟨by rw [etx, j29, j31]; exact hco, by rw [etx, j30, j32]; exact hpo⟩, fun i hi => by rw [erI, erK, j27, j28]; exact hkp i hi⟩ (⟨hnw.tr (by rw [enw]; exact n34) (by rw [erW]; exact n40), fun i hi => (show i = 0 ∨ i = 1 by omega).elim (fun e9 => by rw [e9, erI]; exact sl0f) (fun e9 => by rw [e9, erI]; exact sl1f)⟩) (hsm.tr (by rw [eso, eqP, eqO]; exact z43) (by rw [er5, er6]; exact z45)) (lv_sub hl [0, 1, 2, 3, 4] rfl)
set_option maxHeartbeats 4000000 in
set_option maxRecDepth 100000 in
theorem lc_17 (l : Launch) (κ : Kt) (σ0 : Gh) (x mm out b : Nat) (t_x : zk σ0 x 7) (t_mm : zk σ0 mm 20) (t_out : zk σ0 out 24) (ttx0 : zk σ0 (kR κ x 0) 6) (hdis : DIS κ x) (hlt : l.stackTraces = false) {p : Program} {e : Env} {s : State} {m : MethodId} {below : List Frame} {meth : Method} {c : Code} {L : Nat} {xs : Nat → Int32} {i : Int32} {Q9 : State → Prop} (hx : p.tables.exec = Jvm.exec) (hb : c.code = cL_law) (hml : c.maxLocals = 9) (hown : s.vm.findClass RL = some m.cls) (hg : ∀ w ∈ GW, w.before #[Value.ref b] s = true) (hK : va_K κ.1 vwCl (kTy κ) s) (hX : XY κ (tA σ0 s.heap.size) s s.heap) (hXs : va_X b L xs s s.heap) (hbl : b < s.heap.size) (hbA : ¬ tA σ0 s.heap.size b) (zx : zroomX κ s room_1 601024 7293034) (hi0 : 0 ≤ i.toInt) (hi1 : i.toInt + 6 ≤ L) (hL9 : L ≤ 3072) {σ : Gh} {H : Heap} {locs : List Loc} {ls : Array Slot} (hT : TS κ fA σ0 σ s H locs) (hR : RI κ σ mm) (hrel : LREL κ σ x mm) (hsr : SREL κ σ x mm) (hsm : SMP κ σ x mm) (hl : lv_has ls 9 [(4, .int i), (3, .ref out), (2, .ref mm), (1, .ref x), (0, .ref b)]) (KK : ∀ (σ1 : Gh) (H : Heap) (locs : List Loc) (ls : Array Slot), TS (kX κ) fA σ0 σ1 s H locs → RI (kX κ) σ1 mm → LREL κ σ1 x mm → SREL κ σ1 x mm → SMP κ σ1 x mm → lv_has ls 9 [(4, .int i), (3, .ref out), (2, .ref mm), (1, .ref x), (0, .ref b)] → W p l e room_1 s m #[Value.ref b] below meth c H locs 601024 7293034 Q9 (F0 m 1432 ls [])) : W p l e room_1 s m #[Value.ref b] below meth c H locs 601024 7293034 Q9 (F0 m 678 ls []) := by
  obtain ⟨y1, hy1⟩ : ∃ z, z = xs (ix i + 1) := ⟨_, rfl⟩
  obtain ⟨y2, hy2⟩ : ∃ z, z = xs (ix i + 2) := ⟨_, rfl⟩
  obtain ⟨y3, hy3⟩ : ∃ z, z = xs (ix i + 3) := ⟨_, rfl⟩
  obtain ⟨y4, hy4⟩ : ∃ z, z = xs (ix i + 4) := ⟨_, rfl⟩
  obtain ⟨y5, hy5⟩ : ∃ z, z = xs (ix i + 5) := ⟨_, rfl⟩
  have n0 : (0 : Int32).toInt = 0 := by decide
  have n1 : (1 : Int32).toInt = 1 := by decide
  have n2 : (2 : Int32).toInt = 2 := by decide
  have n3 : (3 : Int32).toInt = 3 := by decide
  have n4 : (4 : Int32).toInt = 4 := by decide
  have n5 : (5 : Int32).toInt = 5 := by decide
  obtain ⟨tx, etx⟩ : ∃ z, kR κ x 0 = z := ⟨_, rfl⟩
  have ttx : zk σ0 tx 6 := by rw [← etx]; exact ttx0
  obtain ⟨rB, erB⟩ : ∃ z, kR κ tx 0 = z := ⟨_, rfl⟩
  have trB : zk σ0 rB 14 := by rw [← erB]; exact hT.kr (hT.ref (hT.k ttx (by decide)) (by decide) (by decide) (by decide)) (by decide) (by decide)
  obtain ⟨rT, erT⟩ : ∃ z, kR κ mm 12 = z := ⟨_, rfl⟩
  have trT : zk σ0 rT 23 := by rw [← erT]; exact hT.kr (hT.ref (hT.k t_mm (by decide)) (by decide) (by decide) (by decide)) (by decide) (by decide)
  obtain ⟨rI, erI⟩ : ∃ z, kR κ x 6 = z := ⟨_, rfl⟩
  have trI : zk σ0 rI 13 := by rw [← erI]; exact hT.kr (hT.ref (hT.k t_x (by decide)) (by decide) (by decide) (by decide)) (by decide) (by decide)
  obtain ⟨rK, erK⟩ : ∃ z, kR κ mm 4 = z := ⟨_, rfl⟩
  have trK : zk σ0 rK 29 := by rw [← erK]; exact hT.kr (hT.ref (hT.k t_mm (by decide)) (by decide) (by decide) (by decide)) (by decide) (by decide)
  obtain ⟨hlen, ⟨hal, hnn⟩, ⟨hco, hpo⟩, hkp⟩ := hrel
  rw [etx] at hlen hal hco hpo
  rw [erB, erT] at hal
  rw [erT] at hnn
  rw [erI, erK] at hkp
  have btx := (hT.P (hT.k ttx (by decide)) (by decide)).1
  have btxl := btx.1
  have btxh := btx.2
  obtain ⟨nw, enw⟩ : ∃ z, kR κ x 3 = z := ⟨_, rfl⟩
  have tnw : zk σ0 nw 3 := by rw [← enw]; exact hT.kr (hT.ref (hT.k t_x (by decide)) (by decide) (by decide) (by decide)) (by decide) (by decide)
  obtain ⟨tr, etr⟩ : ∃ z, kR κ x 4 = z := ⟨_, rfl⟩
  have ttr : zk σ0 tr 3 := by rw [← etr]; exact hT.kr (hT.ref (hT.k t_x (by decide)) (by decide) (by decide) (by decide)) (by decide) (by decide)
  obtain ⟨rs5, ers5⟩ : ∃ z, kR κ x 5 = z := ⟨_, rfl⟩
  have trs5 : zk σ0 rs5 12 := by rw [← ers5]; exact hT.kr (hT.ref (hT.k t_x (by decide)) (by decide) (by decide) (by decide)) (by decide) (by decide)
  obtain ⟨sl0, esl0⟩ : ∃ z, kR κ rs5 0 = z := ⟨_, rfl⟩
  have tsl0 : zk σ0 sl0 3 := by rw [← esl0]; exact hT.kr (hT.ref (hT.k trs5 (by decide)) (by decide) (by decide) (by decide)) (by decide) (by decide)
  obtain ⟨sl1, esl1⟩ : ∃ z, kR κ rs5 1 = z := ⟨_, rfl⟩
  have tsl1 : zk σ0 sl1 3 := by rw [← esl1]; exact hT.kr (hT.ref (hT.k trs5 (by decide)) (by decide) (by decide) (by decide)) (by decide) (by decide)
  obtain ⟨rW, erW⟩ : ∃ z, kR κ mm 1 = z := ⟨_, rfl⟩
  have trW : zk σ0 rW 21 := by rw [← erW]; exact hT.kr (hT.ref (hT.k t_mm (by decide)) (by decide) (by decide) (by decide)) (by decide) (by decide)
  obtain ⟨rS, erS⟩ : ∃ z, kR κ mm 3 = z := ⟨_, rfl⟩
  have trS : zk σ0 rS 22 := by rw [← erS]; exact hT.kr (hT.ref (hT.k t_mm (by decide)) (by decide) (by decide) (by decide)) (by decide) (by decide)
  obtain ⟨so, eso⟩ : ∃ z, kR κ x 1 = z := ⟨_, rfl⟩
  have tso : zk σ0 so 4 := by rw [← eso]; exact hT.kr (hT.ref (hT.k t_x (by decide)) (by decide) (by decide) (by decide)) (by decide) (by decide)
  obtain ⟨qP, eqP⟩ : ∃ z, kR κ so 0 = z := ⟨_, rfl⟩
  have tqP : zk σ0 qP 8 := by rw [← eqP]; exact hT.kr (hT.ref (hT.k tso (by decide)) (by decide) (by decide) (by decide)) (by decide) (by decide)
  obtain ⟨qO, eqO⟩ : ∃ z, kR κ so 1 = z := ⟨_, rfl⟩
  have tqO : zk σ0 qO 16 := by rw [← eqO]; exact hT.kr (hT.ref (hT.k tso (by decide)) (by decide) (by decide) (by decide)) (by decide) (by decide)
  obtain ⟨r5, er5⟩ : ∃ z, kR κ mm 5 = z := ⟨_, rfl⟩
  have tr5 : zk σ0 r5 25 := by rw [← er5]; exact hT.kr (hT.ref (hT.k t_mm (by decide)) (by decide) (by decide) (by decide)) (by decide) (by decide)
  obtain ⟨r6, er6⟩ : ∃ z, kR κ mm 6 = z := ⟨_, rfl⟩
  have tr6 : zk σ0 r6 26 := by rw [← er6]; exact hT.kr (hT.ref (hT.k t_mm (by decide)) (by decide) (by decide) (by decide)) (by decide) (by decide)
  obtain ⟨hnw, hsl⟩ := hsr
  obtain ⟨hd1, ⟨hd2, hd3⟩, hd4, hd5, hd6, hd7⟩ := hdis
  have d_nt : nw ≠ tr := by rw [← enw, ← etr]; exact hd2
  have d_n0 : nw ≠ sl0 := by rw [← enw, ← esl0, ← ers5]; exact hd3 0 (by decide)
  have d_t0 : sl0 ≠ tr := by rw [← etr, ← esl0, ← ers5]; exact fun q => hd4 0 (by decide) q.symm
  have d_n1 : nw ≠ sl1 := by rw [← enw, ← esl1, ← ers5]; exact hd3 1 (by decide)
  have d_t1 : sl1 ≠ tr := by rw [← etr, ← esl1, ← ers5]; exact fun q => hd4 1 (by decide) q.symm
  have d_01 : sl0 ≠ sl1 := by rw [← esl0, ← esl1, ← ers5]; exact hd5
  have knw : zk σ nw 3 := hT.k tnw (by decide)
  have ksl0 : zk σ sl0 3 := hT.k tsl0 (by decide)
  have ksl1 : zk σ sl1 3 := hT.k tsl1 (by decide)
  refine lv_aload_n hx hb dL_law_678 rfl (lv_at hl 3 rfl) ?_
  refine lv_aload_n hx hb dL_law_679 rfl (lv_at hl 4 rfl) ?_
  refine lv_iload hx hb dL_law_680 (lv_at hl 0 rfl) ?_
  refine lv_iconst (v := 1) hx hb dL_law_682 (by decide) ?_
  refine lv_iadd hx hb dL_law_683 ?_
  refine g_add (by omega) (by omega) (fun t1 ht1 => ?_)
  refine va_sld hx hb hXs hbl hbA hT.2.2.2 (g_in (by omega) (by omega)) dL_law_684 ?_
  refine ti y1 (by rw [hy1]; exact congrArg xs (show t1.toNatClampNeg = ix i + 1 from by show t1.toInt.toNat = ix i + 1; unfold ix; omega)) ?_
  refine lv_aload_n hx hb dL_law_685 rfl (lv_at hl 1 rfl) ?_
  have hTo := hT
  refine tHi (n := 3) (As := [.ref x, .int y1, .ref out]) (rest := []) hx hb hml hown hg hT hK hX (L_largest l κ σ x y1 out (hT.k t_x (by decide)) (hT.k t_out (by decide)) hlt) sub_hfE_fA (mwHS k927 k928 k83 k929) ⟨by decide, by decide, by decide +kernel⟩ ⟨(Nat.le_of_ble_eq_true rfl), (Nat.le_of_ble_eq_true rfl)⟩ rfl hl.1 rfl (Nat.le_of_ble_eq_true rfl) dL_law_686 zx (fun r3 s2 H locs hφ hE hT => ?_)
  have R4 := hR.ext hE ⟨rfl, rfl, fun _ => rfl, fun _ => rfl, fun _ => rfl, fun _ => rfl⟩
  have a5 : (zI s2 tx 1).toInt = (zI σ tx 1).toInt := by rw [(hTo.k ttx (by decide)).eI hE (by decide) rfl]
  have j6 : zI s2 rB = zI σ rB := (show zI s2 rB = zI σ rB from funext fun k => (hTo.k trB (by decide)).eI hE (by decide) rfl)
  have j7 : zI s2 rT = zI σ rT := (show zI s2 rT = zI σ rT from funext fun k => (hTo.k trT (by decide)).eI hE (by decide) rfl)
  have j8 : zI s2 rI = zI σ rI := (show zI s2 rI = zI σ rI from funext fun k => (hTo.k trI (by decide)).eI hE (by decide) rfl)
  have j9 : zI s2 rK = zI σ rK := (show zI s2 rK = zI σ rK from funext fun k => (hTo.k trK (by decide)).eI hE (by decide) rfl)
  have j10 : zI s2 tx 2 = zI σ tx 2 := (hTo.k ttx (by decide)).eI hE (by decide) rfl
  have j11 : zI s2 tx 3 = zI σ tx 3 := (hTo.k ttx (by decide)).eI hE (by decide) rfl
  have j12 : zI s2 mm 15 = zI σ mm 15 := (hTo.k t_mm (by decide)).eI hE (by decide) rfl
  have j13 : zI s2 mm 16 = zI σ mm 16 := (hTo.k t_mm (by decide)).eI hE (by decide) rfl
  have n14 : zI s2 nw 7 = zI σ nw 7 ∧ zI s2 nw 8 = zI σ nw 8 ∧ zI s2 nw 9 = zI σ nw 9 := ⟨(hTo.k tnw (by decide)).eI hE (by decide) rfl, (hTo.k tnw (by decide)).eI hE (by decide) rfl, (hTo.k tnw (by decide)).eI hE (by decide) rfl⟩
  have n15 : zI s2 sl0 7 = zI σ sl0 7 ∧ zI s2 sl0 8 = zI σ sl0 8 ∧ zI s2 sl0 9 = zI σ sl0 9 := ⟨(hTo.k tsl0 (by decide)).eI hE (by decide) rfl, (hTo.k tsl0 (by decide)).eI hE (by decide) rfl, (hTo.k tsl0 (by decide)).eI hE (by decide) rfl⟩
  have n16 : zI s2 sl1 7 = zI σ sl1 7 ∧ zI s2 sl1 8 = zI σ sl1 8 ∧ zI s2 sl1 9 = zI σ sl1 9 := ⟨(hTo.k tsl1 (by decide)).eI hE (by decide) rfl, (hTo.k tsl1 (by decide)).eI hE (by decide) rfl, (hTo.k tsl1 (by decide)).eI hE (by decide) rfl⟩
  have n17 : ∀ j : Nat, j < 3 → zJ s2 rW j = zJ σ rW j := fun j hj => (hTo.k trW (by decide)).eJ hE (by decide) rfl
  have n18 : zJ s2 rS = zJ σ rS := (show zJ s2 rS = zJ σ rS from funext fun k => (hTo.k trS (by decide)).eJ hE (by decide) rfl)
  have z19 : zI s2 so 2 = zI σ so 2 ∧ zI s2 so 6 = zI σ so 6 ∧ zI s2 qP = zI σ qP ∧ zI s2 qO = zI σ qO := ⟨(hTo.k tso (by decide)).eI hE (by decide) rfl, (hTo.k tso (by decide)).eI hE (by decide) rfl, funext fun q9 => (hTo.k tqP (by decide)).eI hE (by decide) rfl, funext fun q9 => (hTo.k tqO (by decide)).eI hE (by decide) rfl⟩
  have z20 : zI s2 mm 7 = zI σ mm 7 ∧ zI s2 mm 8 = zI σ mm 8 ∧ zI s2 r5 = zI σ r5 ∧ zI s2 r6 = zI σ r6 := ⟨(hTo.k t_mm (by decide)).eI hE (by decide) rfl, (hTo.k t_mm (by decide)).eI hE (by decide) rfl, funext fun q9 => (hTo.k tr5 (by decide)).eI hE (by decide) rfl, funext fun q9 => (hTo.k tr6 (by decide)).eI hE (by decide) rfl⟩
  have a21 : (zI s2 mm 13).toInt = (zI σ mm 13).toInt := by rw [(hTo.k t_mm (by decide)).eI hE (by decide) rfl]
  refine lv_istore (lv' := [(5, .int r3), (4, .int i), (3, .ref out), (2, .ref mm), (1, .ref x), (0, .ref b)]) hx hb dL_law_689 hl (by decide) rfl (fun ls hl => ?_)
  refine lv_aload_n hx hb dL_law_691 rfl (lv_at hl 3 rfl) ?_
  refine lv_aload_n hx hb dL_law_692 rfl (lv_at hl 5 rfl) ?_
  refine lv_iload hx hb dL_law_693 (lv_at hl 1 rfl) ?_
  refine lv_iconst (v := 1) hx hb dL_law_695 (by decide) ?_
  refine lv_iadd hx hb dL_law_696 ?_
  refine g_add (by omega) (by omega) (fun t22 ht22 => ?_)
  refine va_sld hx hb hXs hbl hbA hT.2.2.2 (g_in (by omega) (by omega)) dL_law_697 ?_
  refine ti y1 (by rw [hy1]; exact congrArg xs (show t22.toNatClampNeg = ix i + 1 from by show t22.toInt.toNat = ix i + 1; unfold ix; omega)) ?_
  have hTo := hT
  refine tVi (n := 1) (As := [.int y1]) (rest := []) hx hb hml hown hg hT hK hX (X6_largest l (kX κ) s2 mm y1 (hT.k t_mm (by decide)) R4) sub_gR_fA (mwV k1511 k1512 k1513 k92 k1514) ⟨rfl, by decide, by decide, by decide +kernel⟩ ⟨(Nat.le_of_ble_eq_true rfl), (Nat.le_of_ble_eq_true rfl)⟩ (hT.o20 (hT.k t_mm (by decide))) rfl rfl hl.1 rfl (Nat.le_of_ble_eq_true rfl) dL_law_698 zx (fun r24 s23 H locs hφ hE hT => ?_)
  have R25 := R4.ext hE ⟨rfl, rfl, fun _ => rfl, fun _ => rfl, fun _ => rfl, fun _ => rfl⟩
  have a26 : (zI s23 tx 1).toInt = (zI s2 tx 1).toInt := by rw [(hTo.k ttx (by decide)).eI hE (by decide) rfl]
  have j27 : zI s23 rB = zI σ rB := ((show zI s23 rB = zI s2 rB from funext fun k => (hTo.k trB (by decide)).eI hE (by decide) rfl)).trans j6
  have j28 : zI s23 rT = zI σ rT := ((show zI s23 rT = zI s2 rT from funext fun k => (hTo.k trT (by decide)).eI hE (by decide) rfl)).trans j7
  have j29 : zI s23 rI = zI σ rI := ((show zI s23 rI = zI s2 rI from funext fun k => (hTo.k trI (by decide)).eI hE (by decide) rfl)).trans j8
  have j30 : zI s23 rK = zI σ rK := ((show zI s23 rK = zI s2 rK from funext fun k => (hTo.k trK (by decide)).eI hE (by decide) rfl)).trans j9
  have j31 : zI s23 tx 2 = zI σ tx 2 := ((hTo.k ttx (by decide)).eI hE (by decide) rfl).trans j10
  have j32 : zI s23 tx 3 = zI σ tx 3 := ((hTo.k ttx (by decide)).eI hE (by decide) rfl).trans j11
  have j33 : zI s23 mm 15 = zI σ mm 15 := ((hTo.k t_mm (by decide)).eI hE (by decide) rfl).trans j12
  have j34 : zI s23 mm 16 = zI σ mm 16 := ((hTo.k t_mm (by decide)).eI hE (by decide) rfl).trans j13
  have n35 : zI s23 nw 7 = zI s2 nw 7 ∧ zI s23 nw 8 = zI s2 nw 8 ∧ zI s23 nw 9 = zI s2 nw 9 := ⟨(hTo.k tnw (by decide)).eI hE (by decide) rfl, (hTo.k tnw (by decide)).eI hE (by decide) rfl, (hTo.k tnw (by decide)).eI hE (by decide) rfl⟩
  have n36 : zI s23 nw 7 = zI σ nw 7 ∧ zI s23 nw 8 = zI σ nw 8 ∧ zI s23 nw 9 = zI σ nw 9 := ⟨n35.1.trans n14.1, n35.2.1.trans n14.2.1, n35.2.2.trans n14.2.2⟩
  have n37 : zI s23 sl0 7 = zI s2 sl0 7 ∧ zI s23 sl0 8 = zI s2 sl0 8 ∧ zI s23 sl0 9 = zI s2 sl0 9 := ⟨(hTo.k tsl0 (by decide)).eI hE (by decide) rfl, (hTo.k tsl0 (by decide)).eI hE (by decide) rfl, (hTo.k tsl0 (by decide)).eI hE (by decide) rfl⟩
  have n38 : zI s23 sl0 7 = zI σ sl0 7 ∧ zI s23 sl0 8 = zI σ sl0 8 ∧ zI s23 sl0 9 = zI σ sl0 9 := ⟨n37.1.trans n15.1, n37.2.1.trans n15.2.1, n37.2.2.trans n15.2.2⟩
  have n39 : zI s23 sl1 7 = zI s2 sl1 7 ∧ zI s23 sl1 8 = zI s2 sl1 8 ∧ zI s23 sl1 9 = zI s2 sl1 9 := ⟨(hTo.k tsl1 (by decide)).eI hE (by decide) rfl, (hTo.k tsl1 (by decide)).eI hE (by decide) rfl, (hTo.k tsl1 (by decide)).eI hE (by decide) rfl⟩
  have n40 : zI s23 sl1 7 = zI σ sl1 7 ∧ zI s23 sl1 8 = zI σ sl1 8 ∧ zI s23 sl1 9 = zI σ sl1 9 := ⟨n39.1.trans n16.1, n39.2.1.trans n16.2.1, n39.2.2.trans n16.2.2⟩
  have n41 : ∀ j : Nat, j < 3 → zJ s23 rW j = zJ s2 rW j := fun j hj => (hTo.k trW (by decide)).eJ hE (by decide) rfl
  have n42 : ∀ j : Nat, j < 3 → zJ s23 rW j = zJ σ rW j := fun j hj => (n41 j hj).trans (n17 j hj)
  have n43 : zJ s23 rS = zJ σ rS := (show zJ s23 rS = zJ s2 rS from funext fun k => (hTo.k trS (by decide)).eJ hE (by decide) rfl).trans n18
  have z44 : zI s23 so 2 = zI s2 so 2 ∧ zI s23 so 6 = zI s2 so 6 ∧ zI s23 qP = zI s2 qP ∧ zI s23 qO = zI s2 qO := ⟨(hTo.k tso (by decide)).eI hE (by decide) rfl, (hTo.k tso (by decide)).eI hE (by decide) rfl, funext fun q9 => (hTo.k tqP (by decide)).eI hE (by decide) rfl, funext fun q9 => (hTo.k tqO (by decide)).eI hE (by decide) rfl⟩
  have z45 : zI s23 so 2 = zI σ so 2 ∧ zI s23 so 6 = zI σ so 6 ∧ zI s23 qP = zI σ qP ∧ zI s23 qO = zI σ qO := ⟨z44.1.trans z19.1, z44.2.1.trans z19.2.1, z44.2.2.1.trans z19.2.2.1, z44.2.2.2.trans z19.2.2.2⟩
  have z46 : zI s23 mm 7 = zI s2 mm 7 ∧ zI s23 mm 8 = zI s2 mm 8 ∧ zI s23 r5 = zI s2 r5 ∧ zI s23 r6 = zI s2 r6 := ⟨(hTo.k t_mm (by decide)).eI hE (by decide) rfl, (hTo.k t_mm (by decide)).eI hE (by decide) rfl, funext fun q9 => (hTo.k tr5 (by decide)).eI hE (by decide) rfl, funext fun q9 => (hTo.k tr6 (by decide)).eI hE (by decide) rfl⟩
  have z47 : zI s23 mm 7 = zI σ mm 7 ∧ zI s23 mm 8 = zI σ mm 8 ∧ zI s23 r5 = zI σ r5 ∧ zI s23 r6 = zI σ r6 := ⟨z46.1.trans z20.1, z46.2.1.trans z20.2.1, z46.2.2.1.trans z20.2.2.1, z46.2.2.2.trans z20.2.2.2⟩
  have a48 : (zI s23 mm 13).toInt = (zI s2 mm 13).toInt := by rw [(hTo.k t_mm (by decide)).eI hE (by decide) rfl]
  refine lv_istore (lv' := [(6, .int r24), (5, .int r3), (4, .int i), (3, .ref out), (2, .ref mm), (1, .ref x), (0, .ref b)]) hx hb dL_law_701 hl (by decide) rfl (fun ls hl => ?_)
  refine lv_goto (tgt := 1432) hx hb dL_law_703 (by decide) ?_
  have sl0f : zI s23 rI 0 ≠ 0 → SLT κ s23 x mm 0 := fun hq => (hsl 0 (by decide) (fun q9 => hq (by rw [erI] at q9; rw [j29]; exact q9))).tr (by rw [ers5, esl0]; exact n38) (fun j hj => by rw [erS, n43])
  have sl1f : zI s23 rI 1 ≠ 0 → SLT κ s23 x mm 1 := fun hq => (hsl 1 (by decide) (fun q9 => hq (by rw [erI] at q9; rw [j29]; exact q9))).tr (by rw [ers5, esl1]; exact n40) (fun j hj => by rw [erS, n43])
  exact KK s23 _ _ _ hT R25 ⟨by rw [etx]; omega, ⟨by rw [etx, erB, erT, j27, j28]; exact tal_less hal (by omega), by rw [erT, j28]; exact tnn_less hnn (by omega)⟩, ⟨by rw [etx, j31, j33]; exact hco, by rw [etx, j32, j34]; exact hpo⟩, fun i hi => by rw [erI, erK, j29, j30]; exact hkp i hi⟩ (⟨hnw.tr (by rw [enw]; exact n36) (by rw [erW]; exact n42), fun i hi => (show i = 0 ∨ i = 1 by omega).elim (fun e9 => by rw [e9, erI]; exact sl0f) (fun e9 => by rw [e9, erI]; exact sl1f)⟩) (hsm.tr (by rw [eso, eqP, eqO]; exact z45) (by rw [er5, er6]; exact z47)) (lv_sub hl [2, 3, 4, 5, 6] rfl)
set_option maxHeartbeats 4000000 in
set_option maxRecDepth 100000 in
theorem lc_18 (l : Launch) (κ : Kt) (σ0 : Gh) (x mm out b : Nat) (t_x : zk σ0 x 7) (t_mm : zk σ0 mm 20) (t_out : zk σ0 out 24) (ttx0 : zk σ0 (kR κ x 0) 6) (hdis : DIS κ x) (hlt : l.stackTraces = false) {p : Program} {e : Env} {s : State} {m : MethodId} {below : List Frame} {meth : Method} {c : Code} {L : Nat} {xs : Nat → Int32} {i : Int32} {Q9 : State → Prop} (hx : p.tables.exec = Jvm.exec) (hb : c.code = cL_law) (hml : c.maxLocals = 9) (hown : s.vm.findClass RL = some m.cls) (hg : ∀ w ∈ GW, w.before #[Value.ref b] s = true) (hK : va_K κ.1 vwCl (kTy κ) s) (hX : XY κ (tA σ0 s.heap.size) s s.heap) (hXs : va_X b L xs s s.heap) (hbl : b < s.heap.size) (hbA : ¬ tA σ0 s.heap.size b) (zx : zroomX κ s room_1 601024 7293034) (hi0 : 0 ≤ i.toInt) (hi1 : i.toInt + 6 ≤ L) (hL9 : L ≤ 3072) {σ : Gh} {H : Heap} {locs : List Loc} {ls : Array Slot} (hT : TS κ fA σ0 σ s H locs) (hR : RI κ σ mm) (hrel : LREL κ σ x mm) (hsr : SREL κ σ x mm) (hsm : SMP κ σ x mm) (hl : lv_has ls 9 [(4, .int i), (3, .ref out), (2, .ref mm), (1, .ref x), (0, .ref b)]) (KK : ∀ (σ1 : Gh) (H : Heap) (locs : List Loc) (ls : Array Slot), TS (kX κ) fA σ0 σ1 s H locs → RI (kX κ) σ1 mm → LREL κ σ1 x mm → SREL κ σ1 x mm → SMP κ σ1 x mm → lv_has ls 9 [(4, .int i), (3, .ref out), (2, .ref mm), (1, .ref x), (0, .ref b)] → W p l e room_1 s m #[Value.ref b] below meth c H locs 601024 7293034 Q9 (F0 m 1432 ls [])) : W p l e room_1 s m #[Value.ref b] below meth c H locs 601024 7293034 Q9 (F0 m 706 ls []) := by
  obtain ⟨y1, hy1⟩ : ∃ z, z = xs (ix i + 1) := ⟨_, rfl⟩
  obtain ⟨y2, hy2⟩ : ∃ z, z = xs (ix i + 2) := ⟨_, rfl⟩
  obtain ⟨y3, hy3⟩ : ∃ z, z = xs (ix i + 3) := ⟨_, rfl⟩
  obtain ⟨y4, hy4⟩ : ∃ z, z = xs (ix i + 4) := ⟨_, rfl⟩
  obtain ⟨y5, hy5⟩ : ∃ z, z = xs (ix i + 5) := ⟨_, rfl⟩
  have n0 : (0 : Int32).toInt = 0 := by decide
  have n1 : (1 : Int32).toInt = 1 := by decide
  have n2 : (2 : Int32).toInt = 2 := by decide
  have n3 : (3 : Int32).toInt = 3 := by decide
  have n4 : (4 : Int32).toInt = 4 := by decide
  have n5 : (5 : Int32).toInt = 5 := by decide
  obtain ⟨tx, etx⟩ : ∃ z, kR κ x 0 = z := ⟨_, rfl⟩
  have ttx : zk σ0 tx 6 := by rw [← etx]; exact ttx0
  obtain ⟨rB, erB⟩ : ∃ z, kR κ tx 0 = z := ⟨_, rfl⟩
  have trB : zk σ0 rB 14 := by rw [← erB]; exact hT.kr (hT.ref (hT.k ttx (by decide)) (by decide) (by decide) (by decide)) (by decide) (by decide)
  obtain ⟨rT, erT⟩ : ∃ z, kR κ mm 12 = z := ⟨_, rfl⟩
  have trT : zk σ0 rT 23 := by rw [← erT]; exact hT.kr (hT.ref (hT.k t_mm (by decide)) (by decide) (by decide) (by decide)) (by decide) (by decide)
  obtain ⟨rI, erI⟩ : ∃ z, kR κ x 6 = z := ⟨_, rfl⟩
  have trI : zk σ0 rI 13 := by rw [← erI]; exact hT.kr (hT.ref (hT.k t_x (by decide)) (by decide) (by decide) (by decide)) (by decide) (by decide)
  obtain ⟨rK, erK⟩ : ∃ z, kR κ mm 4 = z := ⟨_, rfl⟩
  have trK : zk σ0 rK 29 := by rw [← erK]; exact hT.kr (hT.ref (hT.k t_mm (by decide)) (by decide) (by decide) (by decide)) (by decide) (by decide)
  obtain ⟨hlen, ⟨hal, hnn⟩, ⟨hco, hpo⟩, hkp⟩ := hrel
  rw [etx] at hlen hal hco hpo
  rw [erB, erT] at hal
  rw [erT] at hnn
  rw [erI, erK] at hkp
  have btx := (hT.P (hT.k ttx (by decide)) (by decide)).1
  have btxl := btx.1
  have btxh := btx.2
  obtain ⟨nw, enw⟩ : ∃ z, kR κ x 3 = z := ⟨_, rfl⟩
  have tnw : zk σ0 nw 3 := by rw [← enw]; exact hT.kr (hT.ref (hT.k t_x (by decide)) (by decide) (by decide) (by decide)) (by decide) (by decide)
  obtain ⟨tr, etr⟩ : ∃ z, kR κ x 4 = z := ⟨_, rfl⟩
  have ttr : zk σ0 tr 3 := by rw [← etr]; exact hT.kr (hT.ref (hT.k t_x (by decide)) (by decide) (by decide) (by decide)) (by decide) (by decide)
  obtain ⟨rs5, ers5⟩ : ∃ z, kR κ x 5 = z := ⟨_, rfl⟩
  have trs5 : zk σ0 rs5 12 := by rw [← ers5]; exact hT.kr (hT.ref (hT.k t_x (by decide)) (by decide) (by decide) (by decide)) (by decide) (by decide)
  obtain ⟨sl0, esl0⟩ : ∃ z, kR κ rs5 0 = z := ⟨_, rfl⟩
  have tsl0 : zk σ0 sl0 3 := by rw [← esl0]; exact hT.kr (hT.ref (hT.k trs5 (by decide)) (by decide) (by decide) (by decide)) (by decide) (by decide)
  obtain ⟨sl1, esl1⟩ : ∃ z, kR κ rs5 1 = z := ⟨_, rfl⟩
  have tsl1 : zk σ0 sl1 3 := by rw [← esl1]; exact hT.kr (hT.ref (hT.k trs5 (by decide)) (by decide) (by decide) (by decide)) (by decide) (by decide)
  obtain ⟨rW, erW⟩ : ∃ z, kR κ mm 1 = z := ⟨_, rfl⟩
  have trW : zk σ0 rW 21 := by rw [← erW]; exact hT.kr (hT.ref (hT.k t_mm (by decide)) (by decide) (by decide) (by decide)) (by decide) (by decide)
  obtain ⟨rS, erS⟩ : ∃ z, kR κ mm 3 = z := ⟨_, rfl⟩
  have trS : zk σ0 rS 22 := by rw [← erS]; exact hT.kr (hT.ref (hT.k t_mm (by decide)) (by decide) (by decide) (by decide)) (by decide) (by decide)
  obtain ⟨so, eso⟩ : ∃ z, kR κ x 1 = z := ⟨_, rfl⟩
  have tso : zk σ0 so 4 := by rw [← eso]; exact hT.kr (hT.ref (hT.k t_x (by decide)) (by decide) (by decide) (by decide)) (by decide) (by decide)
  obtain ⟨qP, eqP⟩ : ∃ z, kR κ so 0 = z := ⟨_, rfl⟩
  have tqP : zk σ0 qP 8 := by rw [← eqP]; exact hT.kr (hT.ref (hT.k tso (by decide)) (by decide) (by decide) (by decide)) (by decide) (by decide)
  obtain ⟨qO, eqO⟩ : ∃ z, kR κ so 1 = z := ⟨_, rfl⟩
  have tqO : zk σ0 qO 16 := by rw [← eqO]; exact hT.kr (hT.ref (hT.k tso (by decide)) (by decide) (by decide) (by decide)) (by decide) (by decide)
  obtain ⟨r5, er5⟩ : ∃ z, kR κ mm 5 = z := ⟨_, rfl⟩
  have tr5 : zk σ0 r5 25 := by rw [← er5]; exact hT.kr (hT.ref (hT.k t_mm (by decide)) (by decide) (by decide) (by decide)) (by decide) (by decide)
  obtain ⟨r6, er6⟩ : ∃ z, kR κ mm 6 = z := ⟨_, rfl⟩
  have tr6 : zk σ0 r6 26 := by rw [← er6]; exact hT.kr (hT.ref (hT.k t_mm (by decide)) (by decide) (by decide) (by decide)) (by decide) (by decide)
  obtain ⟨hnw, hsl⟩ := hsr
  obtain ⟨hd1, ⟨hd2, hd3⟩, hd4, hd5, hd6, hd7⟩ := hdis
  have d_nt : nw ≠ tr := by rw [← enw, ← etr]; exact hd2
  have d_n0 : nw ≠ sl0 := by rw [← enw, ← esl0, ← ers5]; exact hd3 0 (by decide)
  have d_t0 : sl0 ≠ tr := by rw [← etr, ← esl0, ← ers5]; exact fun q => hd4 0 (by decide) q.symm
  have d_n1 : nw ≠ sl1 := by rw [← enw, ← esl1, ← ers5]; exact hd3 1 (by decide)
  have d_t1 : sl1 ≠ tr := by rw [← etr, ← esl1, ← ers5]; exact fun q => hd4 1 (by decide) q.symm
  have d_01 : sl0 ≠ sl1 := by rw [← esl0, ← esl1, ← ers5]; exact hd5
  have knw : zk σ nw 3 := hT.k tnw (by decide)
  have ksl0 : zk σ sl0 3 := hT.k tsl0 (by decide)
  have ksl1 : zk σ sl1 3 := hT.k tsl1 (by decide)
  refine lv_aload_n hx hb dL_law_706 rfl (lv_at hl 3 rfl) ?_
  refine lv_aload_n hx hb dL_law_707 rfl (lv_at hl 1 rfl) ?_
  have hTo := hT
  refine tHi (n := 2) (As := [.ref x, .ref out]) (rest := []) hx hb hml hown hg hT hK hX (L_next l κ σ x out (hT.k t_x (by decide)) (hT.k t_out (by decide)) hlt) sub_hfW_fA (mwHS k942 k943 k83 k944) ⟨by decide, by decide, by decide +kernel⟩ ⟨(Nat.le_of_ble_eq_true rfl), (Nat.le_of_ble_eq_true rfl)⟩ rfl hl.1 rfl (Nat.le_of_ble_eq_true rfl) dL_law_708 zx (fun r2 s1 H locs hφ hE hT => ?_)
  have R3 := hR.ext hE ⟨rfl, rfl, fun _ => rfl, fun _ => rfl, fun _ => rfl, fun _ => rfl⟩
  have a4 : (zI s1 tx 1).toInt = (zI σ tx 1).toInt := by rw [(hTo.k ttx (by decide)).eI hE (by decide) rfl]
  have j5 : zI s1 rB = zI σ rB := (show zI s1 rB = zI σ rB from funext fun k => (hTo.k trB (by decide)).eI hE (by decide) rfl)
  have j6 : zI s1 rT = zI σ rT := (show zI s1 rT = zI σ rT from funext fun k => (hTo.k trT (by decide)).eI hE (by decide) rfl)
  have j7 : zI s1 rI = zI σ rI := (show zI s1 rI = zI σ rI from funext fun k => (hTo.k trI (by decide)).eI hE (by decide) rfl)
  have j8 : zI s1 rK = zI σ rK := (show zI s1 rK = zI σ rK from funext fun k => (hTo.k trK (by decide)).eI hE (by decide) rfl)
  have j9 : zI s1 tx 2 = zI σ tx 2 := (hTo.k ttx (by decide)).eI hE (by decide) rfl
  have j10 : zI s1 tx 3 = zI σ tx 3 := (hTo.k ttx (by decide)).eI hE (by decide) rfl
  have j11 : zI s1 mm 15 = zI σ mm 15 := (hTo.k t_mm (by decide)).eI hE (by decide) rfl
  have j12 : zI s1 mm 16 = zI σ mm 16 := (hTo.k t_mm (by decide)).eI hE (by decide) rfl
  have n13 : zI s1 nw 7 = zI σ nw 7 ∧ zI s1 nw 8 = zI σ nw 8 ∧ zI s1 nw 9 = zI σ nw 9 := ⟨(hTo.k tnw (by decide)).eI hE (by decide) rfl, (hTo.k tnw (by decide)).eI hE (by decide) rfl, (hTo.k tnw (by decide)).eI hE (by decide) rfl⟩
  have n14 : zI s1 sl0 7 = zI σ sl0 7 ∧ zI s1 sl0 8 = zI σ sl0 8 ∧ zI s1 sl0 9 = zI σ sl0 9 := ⟨(hTo.k tsl0 (by decide)).eI hE (by decide) rfl, (hTo.k tsl0 (by decide)).eI hE (by decide) rfl, (hTo.k tsl0 (by decide)).eI hE (by decide) rfl⟩
  have n15 : zI s1 sl1 7 = zI σ sl1 7 ∧ zI s1 sl1 8 = zI σ sl1 8 ∧ zI s1 sl1 9 = zI σ sl1 9 := ⟨(hTo.k tsl1 (by decide)).eI hE (by decide) rfl, (hTo.k tsl1 (by decide)).eI hE (by decide) rfl, (hTo.k tsl1 (by decide)).eI hE (by decide) rfl⟩
  have n16 : ∀ j : Nat, j < 3 → zJ s1 rW j = zJ σ rW j := fun j hj => (hTo.k trW (by decide)).eJ hE (by decide) rfl
  have n17 : zJ s1 rS = zJ σ rS := (show zJ s1 rS = zJ σ rS from funext fun k => (hTo.k trS (by decide)).eJ hE (by decide) rfl)
  have z18 : zI s1 so 2 = zI σ so 2 ∧ zI s1 so 6 = zI σ so 6 ∧ zI s1 qP = zI σ qP ∧ zI s1 qO = zI σ qO := ⟨(hTo.k tso (by decide)).eI hE (by decide) rfl, (hTo.k tso (by decide)).eI hE (by decide) rfl, funext fun q9 => (hTo.k tqP (by decide)).eI hE (by decide) rfl, funext fun q9 => (hTo.k tqO (by decide)).eI hE (by decide) rfl⟩
  have z19 : zI s1 mm 7 = zI σ mm 7 ∧ zI s1 mm 8 = zI σ mm 8 ∧ zI s1 r5 = zI σ r5 ∧ zI s1 r6 = zI σ r6 := ⟨(hTo.k t_mm (by decide)).eI hE (by decide) rfl, (hTo.k t_mm (by decide)).eI hE (by decide) rfl, funext fun q9 => (hTo.k tr5 (by decide)).eI hE (by decide) rfl, funext fun q9 => (hTo.k tr6 (by decide)).eI hE (by decide) rfl⟩
  have a20 : (zI s1 mm 13).toInt = (zI σ mm 13).toInt := by rw [(hTo.k t_mm (by decide)).eI hE (by decide) rfl]
  refine lv_istore (lv' := [(5, .int r2), (4, .int i), (3, .ref out), (2, .ref mm), (1, .ref x), (0, .ref b)]) hx hb dL_law_711 hl (by decide) rfl (fun ls hl => ?_)
  refine lv_aload_n hx hb dL_law_713 rfl (lv_at hl 3 rfl) ?_
  have hTo := hT
  refine tVi (n := 0) (As := []) (rest := []) hx hb hml hown hg hT hK hX (X6_next l (kX κ) s1 mm (hT.k t_mm (by decide)) R3) sub_gR_fA (mwV k1519 k1520 k1521 k92 k1522) ⟨rfl, by decide, by decide, by decide +kernel⟩ ⟨(Nat.le_of_ble_eq_true rfl), (Nat.le_of_ble_eq_true rfl)⟩ (hT.o20 (hT.k t_mm (by decide))) rfl rfl hl.1 rfl (Nat.le_of_ble_eq_true rfl) dL_law_714 zx (fun r22 s21 H locs hφ hE hT => ?_)
  have R23 := R3.ext hE ⟨rfl, rfl, fun _ => rfl, fun _ => rfl, fun _ => rfl, fun _ => rfl⟩
  have a24 : (zI s21 tx 1).toInt = (zI s1 tx 1).toInt := by rw [(hTo.k ttx (by decide)).eI hE (by decide) rfl]
  have j25 : zI s21 rB = zI σ rB := ((show zI s21 rB = zI s1 rB from funext fun k => (hTo.k trB (by decide)).eI hE (by decide) rfl)).trans j5
  have j26 : zI s21 rT = zI σ rT := ((show zI s21 rT = zI s1 rT from funext fun k => (hTo.k trT (by decide)).eI hE (by decide) rfl)).trans j6
  have j27 : zI s21 rI = zI σ rI := ((show zI s21 rI = zI s1 rI from funext fun k => (hTo.k trI (by decide)).eI hE (by decide) rfl)).trans j7
  have j28 : zI s21 rK = zI σ rK := ((show zI s21 rK = zI s1 rK from funext fun k => (hTo.k trK (by decide)).eI hE (by decide) rfl)).trans j8
  have j29 : zI s21 tx 2 = zI σ tx 2 := ((hTo.k ttx (by decide)).eI hE (by decide) rfl).trans j9
  have j30 : zI s21 tx 3 = zI σ tx 3 := ((hTo.k ttx (by decide)).eI hE (by decide) rfl).trans j10
  have j31 : zI s21 mm 15 = zI σ mm 15 := ((hTo.k t_mm (by decide)).eI hE (by decide) rfl).trans j11
  have j32 : zI s21 mm 16 = zI σ mm 16 := ((hTo.k t_mm (by decide)).eI hE (by decide) rfl).trans j12
  have n33 : zI s21 nw 7 = zI s1 nw 7 ∧ zI s21 nw 8 = zI s1 nw 8 ∧ zI s21 nw 9 = zI s1 nw 9 := ⟨(hTo.k tnw (by decide)).eI hE (by decide) rfl, (hTo.k tnw (by decide)).eI hE (by decide) rfl, (hTo.k tnw (by decide)).eI hE (by decide) rfl⟩
  have n34 : zI s21 nw 7 = zI σ nw 7 ∧ zI s21 nw 8 = zI σ nw 8 ∧ zI s21 nw 9 = zI σ nw 9 := ⟨n33.1.trans n13.1, n33.2.1.trans n13.2.1, n33.2.2.trans n13.2.2⟩
  have n35 : zI s21 sl0 7 = zI s1 sl0 7 ∧ zI s21 sl0 8 = zI s1 sl0 8 ∧ zI s21 sl0 9 = zI s1 sl0 9 := ⟨(hTo.k tsl0 (by decide)).eI hE (by decide) rfl, (hTo.k tsl0 (by decide)).eI hE (by decide) rfl, (hTo.k tsl0 (by decide)).eI hE (by decide) rfl⟩
  have n36 : zI s21 sl0 7 = zI σ sl0 7 ∧ zI s21 sl0 8 = zI σ sl0 8 ∧ zI s21 sl0 9 = zI σ sl0 9 := ⟨n35.1.trans n14.1, n35.2.1.trans n14.2.1, n35.2.2.trans n14.2.2⟩
  have n37 : zI s21 sl1 7 = zI s1 sl1 7 ∧ zI s21 sl1 8 = zI s1 sl1 8 ∧ zI s21 sl1 9 = zI s1 sl1 9 := ⟨(hTo.k tsl1 (by decide)).eI hE (by decide) rfl, (hTo.k tsl1 (by decide)).eI hE (by decide) rfl, (hTo.k tsl1 (by decide)).eI hE (by decide) rfl⟩
  have n38 : zI s21 sl1 7 = zI σ sl1 7 ∧ zI s21 sl1 8 = zI σ sl1 8 ∧ zI s21 sl1 9 = zI σ sl1 9 := ⟨n37.1.trans n15.1, n37.2.1.trans n15.2.1, n37.2.2.trans n15.2.2⟩
  have n39 : ∀ j : Nat, j < 3 → zJ s21 rW j = zJ s1 rW j := fun j hj => (hTo.k trW (by decide)).eJ hE (by decide) rfl
  have n40 : ∀ j : Nat, j < 3 → zJ s21 rW j = zJ σ rW j := fun j hj => (n39 j hj).trans (n16 j hj)
  have n41 : zJ s21 rS = zJ σ rS := (show zJ s21 rS = zJ s1 rS from funext fun k => (hTo.k trS (by decide)).eJ hE (by decide) rfl).trans n17
  have z42 : zI s21 so 2 = zI s1 so 2 ∧ zI s21 so 6 = zI s1 so 6 ∧ zI s21 qP = zI s1 qP ∧ zI s21 qO = zI s1 qO := ⟨(hTo.k tso (by decide)).eI hE (by decide) rfl, (hTo.k tso (by decide)).eI hE (by decide) rfl, funext fun q9 => (hTo.k tqP (by decide)).eI hE (by decide) rfl, funext fun q9 => (hTo.k tqO (by decide)).eI hE (by decide) rfl⟩
  have z43 : zI s21 so 2 = zI σ so 2 ∧ zI s21 so 6 = zI σ so 6 ∧ zI s21 qP = zI σ qP ∧ zI s21 qO = zI σ qO := ⟨z42.1.trans z18.1, z42.2.1.trans z18.2.1, z42.2.2.1.trans z18.2.2.1, z42.2.2.2.trans z18.2.2.2⟩
  have z44 : zI s21 mm 7 = zI s1 mm 7 ∧ zI s21 mm 8 = zI s1 mm 8 ∧ zI s21 r5 = zI s1 r5 ∧ zI s21 r6 = zI s1 r6 := ⟨(hTo.k t_mm (by decide)).eI hE (by decide) rfl, (hTo.k t_mm (by decide)).eI hE (by decide) rfl, funext fun q9 => (hTo.k tr5 (by decide)).eI hE (by decide) rfl, funext fun q9 => (hTo.k tr6 (by decide)).eI hE (by decide) rfl⟩
  have z45 : zI s21 mm 7 = zI σ mm 7 ∧ zI s21 mm 8 = zI σ mm 8 ∧ zI s21 r5 = zI σ r5 ∧ zI s21 r6 = zI σ r6 := ⟨z44.1.trans z19.1, z44.2.1.trans z19.2.1, z44.2.2.1.trans z19.2.2.1, z44.2.2.2.trans z19.2.2.2⟩
  have a46 : (zI s21 mm 13).toInt = (zI s1 mm 13).toInt := by rw [(hTo.k t_mm (by decide)).eI hE (by decide) rfl]
  refine lv_istore (lv' := [(6, .int r22), (5, .int r2), (4, .int i), (3, .ref out), (2, .ref mm), (1, .ref x), (0, .ref b)]) hx hb dL_law_717 hl (by decide) rfl (fun ls hl => ?_)
  refine lv_goto (tgt := 1432) hx hb dL_law_719 (by decide) ?_
  have sl0f : zI s21 rI 0 ≠ 0 → SLT κ s21 x mm 0 := fun hq => (hsl 0 (by decide) (fun q9 => hq (by rw [erI] at q9; rw [j27]; exact q9))).tr (by rw [ers5, esl0]; exact n36) (fun j hj => by rw [erS, n41])
  have sl1f : zI s21 rI 1 ≠ 0 → SLT κ s21 x mm 1 := fun hq => (hsl 1 (by decide) (fun q9 => hq (by rw [erI] at q9; rw [j27]; exact q9))).tr (by rw [ers5, esl1]; exact n38) (fun j hj => by rw [erS, n41])
  exact KK s21 _ _ _ hT R23 ⟨by rw [etx]; omega, ⟨by rw [etx, erB, erT, j25, j26]; exact tal_less hal (by omega), by rw [erT, j26]; exact tnn_less hnn (by omega)⟩, ⟨by rw [etx, j29, j31]; exact hco, by rw [etx, j30, j32]; exact hpo⟩, fun i hi => by rw [erI, erK, j27, j28]; exact hkp i hi⟩ (⟨hnw.tr (by rw [enw]; exact n34) (by rw [erW]; exact n40), fun i hi => (show i = 0 ∨ i = 1 by omega).elim (fun e9 => by rw [e9, erI]; exact sl0f) (fun e9 => by rw [e9, erI]; exact sl1f)⟩) (hsm.tr (by rw [eso, eqP, eqO]; exact z43) (by rw [er5, er6]; exact z45)) (lv_sub hl [2, 3, 4, 5, 6] rfl)
set_option maxHeartbeats 4000000 in
set_option maxRecDepth 100000 in
theorem lc_19 (l : Launch) (κ : Kt) (σ0 : Gh) (x mm out b : Nat) (t_x : zk σ0 x 7) (t_mm : zk σ0 mm 20) (t_out : zk σ0 out 24) (ttx0 : zk σ0 (kR κ x 0) 6) (hdis : DIS κ x) (hlt : l.stackTraces = false) {p : Program} {e : Env} {s : State} {m : MethodId} {below : List Frame} {meth : Method} {c : Code} {L : Nat} {xs : Nat → Int32} {i : Int32} {Q9 : State → Prop} (hx : p.tables.exec = Jvm.exec) (hb : c.code = cL_law) (hml : c.maxLocals = 9) (hown : s.vm.findClass RL = some m.cls) (hg : ∀ w ∈ GW, w.before #[Value.ref b] s = true) (hK : va_K κ.1 vwCl (kTy κ) s) (hX : XY κ (tA σ0 s.heap.size) s s.heap) (hXs : va_X b L xs s s.heap) (hbl : b < s.heap.size) (hbA : ¬ tA σ0 s.heap.size b) (zx : zroomX κ s room_1 601024 7293034) (hi0 : 0 ≤ i.toInt) (hi1 : i.toInt + 6 ≤ L) (hL9 : L ≤ 3072) {σ : Gh} {H : Heap} {locs : List Loc} {ls : Array Slot} (hT : TS κ fA σ0 σ s H locs) (hR : RI κ σ mm) (hrel : LREL κ σ x mm) (hsr : SREL κ σ x mm) (hsm : SMP κ σ x mm) (hl : lv_has ls 9 [(4, .int i), (3, .ref out), (2, .ref mm), (1, .ref x), (0, .ref b)]) (KK : ∀ (σ1 : Gh) (H : Heap) (locs : List Loc) (ls : Array Slot), TS (kX κ) fA σ0 σ1 s H locs → RI (kX κ) σ1 mm → LREL κ σ1 x mm → SREL κ σ1 x mm → SMP κ σ1 x mm → lv_has ls 9 [(4, .int i), (3, .ref out), (2, .ref mm), (1, .ref x), (0, .ref b)] → W p l e room_1 s m #[Value.ref b] below meth c H locs 601024 7293034 Q9 (F0 m 1432 ls [])) : W p l e room_1 s m #[Value.ref b] below meth c H locs 601024 7293034 Q9 (F0 m 722 ls []) := by
  obtain ⟨y1, hy1⟩ : ∃ z, z = xs (ix i + 1) := ⟨_, rfl⟩
  obtain ⟨y2, hy2⟩ : ∃ z, z = xs (ix i + 2) := ⟨_, rfl⟩
  obtain ⟨y3, hy3⟩ : ∃ z, z = xs (ix i + 3) := ⟨_, rfl⟩
  obtain ⟨y4, hy4⟩ : ∃ z, z = xs (ix i + 4) := ⟨_, rfl⟩
  obtain ⟨y5, hy5⟩ : ∃ z, z = xs (ix i + 5) := ⟨_, rfl⟩
  have n0 : (0 : Int32).toInt = 0 := by decide
  have n1 : (1 : Int32).toInt = 1 := by decide
  have n2 : (2 : Int32).toInt = 2 := by decide
  have n3 : (3 : Int32).toInt = 3 := by decide
  have n4 : (4 : Int32).toInt = 4 := by decide
  have n5 : (5 : Int32).toInt = 5 := by decide
  obtain ⟨tx, etx⟩ : ∃ z, kR κ x 0 = z := ⟨_, rfl⟩
  have ttx : zk σ0 tx 6 := by rw [← etx]; exact ttx0
  obtain ⟨rB, erB⟩ : ∃ z, kR κ tx 0 = z := ⟨_, rfl⟩
  have trB : zk σ0 rB 14 := by rw [← erB]; exact hT.kr (hT.ref (hT.k ttx (by decide)) (by decide) (by decide) (by decide)) (by decide) (by decide)
  obtain ⟨rT, erT⟩ : ∃ z, kR κ mm 12 = z := ⟨_, rfl⟩
  have trT : zk σ0 rT 23 := by rw [← erT]; exact hT.kr (hT.ref (hT.k t_mm (by decide)) (by decide) (by decide) (by decide)) (by decide) (by decide)
  obtain ⟨rI, erI⟩ : ∃ z, kR κ x 6 = z := ⟨_, rfl⟩
  have trI : zk σ0 rI 13 := by rw [← erI]; exact hT.kr (hT.ref (hT.k t_x (by decide)) (by decide) (by decide) (by decide)) (by decide) (by decide)
  obtain ⟨rK, erK⟩ : ∃ z, kR κ mm 4 = z := ⟨_, rfl⟩
  have trK : zk σ0 rK 29 := by rw [← erK]; exact hT.kr (hT.ref (hT.k t_mm (by decide)) (by decide) (by decide) (by decide)) (by decide) (by decide)
  obtain ⟨hlen, ⟨hal, hnn⟩, ⟨hco, hpo⟩, hkp⟩ := hrel
  rw [etx] at hlen hal hco hpo
  rw [erB, erT] at hal
  rw [erT] at hnn
  rw [erI, erK] at hkp
  have btx := (hT.P (hT.k ttx (by decide)) (by decide)).1
  have btxl := btx.1
  have btxh := btx.2
  obtain ⟨nw, enw⟩ : ∃ z, kR κ x 3 = z := ⟨_, rfl⟩
  have tnw : zk σ0 nw 3 := by rw [← enw]; exact hT.kr (hT.ref (hT.k t_x (by decide)) (by decide) (by decide) (by decide)) (by decide) (by decide)
  obtain ⟨tr, etr⟩ : ∃ z, kR κ x 4 = z := ⟨_, rfl⟩
  have ttr : zk σ0 tr 3 := by rw [← etr]; exact hT.kr (hT.ref (hT.k t_x (by decide)) (by decide) (by decide) (by decide)) (by decide) (by decide)
  obtain ⟨rs5, ers5⟩ : ∃ z, kR κ x 5 = z := ⟨_, rfl⟩
  have trs5 : zk σ0 rs5 12 := by rw [← ers5]; exact hT.kr (hT.ref (hT.k t_x (by decide)) (by decide) (by decide) (by decide)) (by decide) (by decide)
  obtain ⟨sl0, esl0⟩ : ∃ z, kR κ rs5 0 = z := ⟨_, rfl⟩
  have tsl0 : zk σ0 sl0 3 := by rw [← esl0]; exact hT.kr (hT.ref (hT.k trs5 (by decide)) (by decide) (by decide) (by decide)) (by decide) (by decide)
  obtain ⟨sl1, esl1⟩ : ∃ z, kR κ rs5 1 = z := ⟨_, rfl⟩
  have tsl1 : zk σ0 sl1 3 := by rw [← esl1]; exact hT.kr (hT.ref (hT.k trs5 (by decide)) (by decide) (by decide) (by decide)) (by decide) (by decide)
  obtain ⟨rW, erW⟩ : ∃ z, kR κ mm 1 = z := ⟨_, rfl⟩
  have trW : zk σ0 rW 21 := by rw [← erW]; exact hT.kr (hT.ref (hT.k t_mm (by decide)) (by decide) (by decide) (by decide)) (by decide) (by decide)
  obtain ⟨rS, erS⟩ : ∃ z, kR κ mm 3 = z := ⟨_, rfl⟩
  have trS : zk σ0 rS 22 := by rw [← erS]; exact hT.kr (hT.ref (hT.k t_mm (by decide)) (by decide) (by decide) (by decide)) (by decide) (by decide)
  obtain ⟨so, eso⟩ : ∃ z, kR κ x 1 = z := ⟨_, rfl⟩
  have tso : zk σ0 so 4 := by rw [← eso]; exact hT.kr (hT.ref (hT.k t_x (by decide)) (by decide) (by decide) (by decide)) (by decide) (by decide)
  obtain ⟨qP, eqP⟩ : ∃ z, kR κ so 0 = z := ⟨_, rfl⟩
  have tqP : zk σ0 qP 8 := by rw [← eqP]; exact hT.kr (hT.ref (hT.k tso (by decide)) (by decide) (by decide) (by decide)) (by decide) (by decide)
  obtain ⟨qO, eqO⟩ : ∃ z, kR κ so 1 = z := ⟨_, rfl⟩
  have tqO : zk σ0 qO 16 := by rw [← eqO]; exact hT.kr (hT.ref (hT.k tso (by decide)) (by decide) (by decide) (by decide)) (by decide) (by decide)
  obtain ⟨r5, er5⟩ : ∃ z, kR κ mm 5 = z := ⟨_, rfl⟩
  have tr5 : zk σ0 r5 25 := by rw [← er5]; exact hT.kr (hT.ref (hT.k t_mm (by decide)) (by decide) (by decide) (by decide)) (by decide) (by decide)
  obtain ⟨r6, er6⟩ : ∃ z, kR κ mm 6 = z := ⟨_, rfl⟩
  have tr6 : zk σ0 r6 26 := by rw [← er6]; exact hT.kr (hT.ref (hT.k t_mm (by decide)) (by decide) (by decide) (by decide)) (by decide) (by decide)
  obtain ⟨hnw, hsl⟩ := hsr
  obtain ⟨hd1, ⟨hd2, hd3⟩, hd4, hd5, hd6, hd7⟩ := hdis
  have d_nt : nw ≠ tr := by rw [← enw, ← etr]; exact hd2
  have d_n0 : nw ≠ sl0 := by rw [← enw, ← esl0, ← ers5]; exact hd3 0 (by decide)
  have d_t0 : sl0 ≠ tr := by rw [← etr, ← esl0, ← ers5]; exact fun q => hd4 0 (by decide) q.symm
  have d_n1 : nw ≠ sl1 := by rw [← enw, ← esl1, ← ers5]; exact hd3 1 (by decide)
  have d_t1 : sl1 ≠ tr := by rw [← etr, ← esl1, ← ers5]; exact fun q => hd4 1 (by decide) q.symm
  have d_01 : sl0 ≠ sl1 := by rw [← esl0, ← esl1, ← ers5]; exact hd5
  have knw : zk σ nw 3 := hT.k tnw (by decide)
  have ksl0 : zk σ sl0 3 := hT.k tsl0 (by decide)
  have ksl1 : zk σ sl1 3 := hT.k tsl1 (by decide)
  have hw7 : (zI σ nw 7).toInt = (zJ σ rW 0).toInt := by rw [← enw, ← erW]; exact hnw.1
  have hb7 := Int32.le_toInt (zI σ nw 7)
  have hc7 := Int32.toInt_lt (zI σ nw 7)
  have hw8 : (zI σ nw 8).toInt = (zJ σ rW 1).toInt := by rw [← enw, ← erW]; exact hnw.2.1
  have hb8 := Int32.le_toInt (zI σ nw 8)
  have hc8 := Int32.toInt_lt (zI σ nw 8)
  have hw9 : (zI σ nw 9).toInt = (zJ σ rW 2).toInt := by rw [← enw, ← erW]; exact hnw.2.2
  have hb9 := Int32.le_toInt (zI σ nw 9)
  have hc9 := Int32.toInt_lt (zI σ nw 9)
  refine lv_aload_n hx hb dL_law_722 rfl (lv_at hl 3 rfl) ?_
  refine lv_aload_n hx hb dL_law_723 rfl (lv_at hl 4 rfl) ?_
  refine lv_iload hx hb dL_law_724 (lv_at hl 0 rfl) ?_
  refine lv_iconst (v := 1) hx hb dL_law_726 (by decide) ?_
  refine lv_iadd hx hb dL_law_727 ?_
  refine g_add (by omega) (by omega) (fun t1 ht1 => ?_)
  refine va_sld hx hb hXs hbl hbA hT.2.2.2 (g_in (by omega) (by omega)) dL_law_728 ?_
  refine ti y1 (by rw [hy1]; exact congrArg xs (show t1.toNatClampNeg = ix i + 1 from by show t1.toInt.toNat = ix i + 1; unfold ix; omega)) ?_
  refine lv_aload_n hx hb dL_law_729 rfl (lv_at hl 1 rfl) ?_
  have hTo := hT
  refine tHi (n := 3) (As := [.ref x, .int y1, .ref out]) (rest := []) hx hb hml hown hg hT hK hX (L_setSplit l κ σ x y1 out (hT.k t_x (by decide)) (hT.k t_out (by decide)) hlt) sub_hfSet_fA (mwHS k967 k968 k83 k969) ⟨by decide, by decide, by decide +kernel⟩ ⟨(Nat.le_of_ble_eq_true rfl), (Nat.le_of_ble_eq_true rfl)⟩ rfl hl.1 rfl (Nat.le_of_ble_eq_true rfl) dL_law_730 zx (fun r3 s2 H locs hφ hE hT => ?_)
  have f4 := hφ
  have R5 := hR.ext hE ⟨rfl, rfl, fun _ => rfl, fun _ => rfl, fun _ => rfl, fun _ => rfl⟩
  have a6 : (zI s2 tx 1).toInt = (zI σ tx 1).toInt := by rw [(hTo.k ttx (by decide)).eI hE (by decide) rfl]
  have j7 : zI s2 rB = zI σ rB := (show zI s2 rB = zI σ rB from funext fun k => (hTo.k trB (by decide)).eI hE (by decide) rfl)
  have j8 : zI s2 rT = zI σ rT := (show zI s2 rT = zI σ rT from funext fun k => (hTo.k trT (by decide)).eI hE (by decide) rfl)
  have j9 : zI s2 rI = zI σ rI := (show zI s2 rI = zI σ rI from funext fun k => (hTo.k trI (by decide)).eI hE (by decide) rfl)
  have j10 : zI s2 rK = zI σ rK := (show zI s2 rK = zI σ rK from funext fun k => (hTo.k trK (by decide)).eI hE (by decide) rfl)
  have j11 : zI s2 tx 2 = zI σ tx 2 := (hTo.k ttx (by decide)).eI hE (by decide) rfl
  have j12 : zI s2 tx 3 = zI σ tx 3 := (hTo.k ttx (by decide)).eI hE (by decide) rfl
  have j13 : zI s2 mm 15 = zI σ mm 15 := (hTo.k t_mm (by decide)).eI hE (by decide) rfl
  have j14 : zI s2 mm 16 = zI σ mm 16 := (hTo.k t_mm (by decide)).eI hE (by decide) rfl
  have n15 : ∀ j : Nat, j < 3 → zJ s2 rW j = zJ σ rW j := fun j hj => (hTo.k trW (by decide)).eJ hE (by decide) rfl
  have n16 : zJ s2 rS = zJ σ rS := (show zJ s2 rS = zJ σ rS from funext fun k => (hTo.k trS (by decide)).eJ hE (by decide) rfl)
  have z17 : zI s2 so 2 = zI σ so 2 ∧ zI s2 so 6 = zI σ so 6 ∧ zI s2 qP = zI σ qP ∧ zI s2 qO = zI σ qO := ⟨(hTo.k tso (by decide)).eI hE (by decide) rfl, (hTo.k tso (by decide)).eI hE (by decide) rfl, funext fun q9 => (hTo.k tqP (by decide)).eI hE (by decide) rfl, funext fun q9 => (hTo.k tqO (by decide)).eI hE (by decide) rfl⟩
  have z18 : zI s2 mm 7 = zI σ mm 7 ∧ zI s2 mm 8 = zI σ mm 8 ∧ zI s2 r5 = zI σ r5 ∧ zI s2 r6 = zI σ r6 := ⟨(hTo.k t_mm (by decide)).eI hE (by decide) rfl, (hTo.k t_mm (by decide)).eI hE (by decide) rfl, funext fun q9 => (hTo.k tr5 (by decide)).eI hE (by decide) rfl, funext fun q9 => (hTo.k tr6 (by decide)).eI hE (by decide) rfl⟩
  rw [enw] at f4
  have nz0 : zI s2 sl0 7 = zI σ sl0 7 ∧ zI s2 sl0 8 = zI σ sl0 8 ∧ zI s2 sl0 9 = zI σ sl0 9 := f4.elim (fun q9 => q9.2.2.2.2.2.2.2 sl0 (fun e9 => d_n0 e9.symm) ksl0) (fun q9 => q9.2.2 sl0 ksl0)
  have nz1 : zI s2 sl1 7 = zI σ sl1 7 ∧ zI s2 sl1 8 = zI σ sl1 8 ∧ zI s2 sl1 9 = zI σ sl1 9 := f4.elim (fun q9 => q9.2.2.2.2.2.2.2 sl1 (fun e9 => d_n1 e9.symm) ksl1) (fun q9 => q9.2.2 sl1 ksl1)
  have as1 : (0 ≤ y1.toInt ∧ y1.toInt ≤ 2 ∧ (zI s2 nw 7).toInt = y1.toInt ∧ (zI s2 nw 8).toInt = (zI σ nw 8).toInt ∧ (zI s2 nw 9).toInt = (zI σ nw 9).toInt) ∨ ((y1.toInt < 0 ∨ 2 < y1.toInt) ∧ (zI s2 nw 7).toInt = (zI σ nw 7).toInt ∧ (zI s2 nw 8).toInt = (zI σ nw 8).toInt ∧ (zI s2 nw 9).toInt = (zI σ nw 9).toInt) := f4.elim (fun q9 => Or.inl ⟨q9.2.1, q9.2.2.1, congrArg Int32.toInt q9.2.2.2.2.1, congrArg Int32.toInt q9.2.2.2.2.2.1, congrArg Int32.toInt q9.2.2.2.2.2.2.1⟩) (fun q9 => Or.inr ⟨q9.2.1, congrArg Int32.toInt (q9.2.2 nw knw).1, congrArg Int32.toInt (q9.2.2 nw knw).2.1, congrArg Int32.toInt (q9.2.2 nw knw).2.2⟩)
  have ao1 : (r3.toInt = 0 ∧ 0 ≤ y1.toInt ∧ y1.toInt ≤ 2 ∧ (zJ s2 out 0).toInt = (zI σ nw 7).toInt) ∨ (r3.toInt = 1 ∧ (y1.toInt < 0 ∨ 2 < y1.toInt)) := f4.elim (fun q9 => Or.inl ⟨q9.1, q9.2.1, q9.2.2.1, q9.2.2.2.1⟩) (fun q9 => Or.inr ⟨q9.1, q9.2.1⟩)
  have a19 : (zI s2 mm 13).toInt = (zI σ mm 13).toInt := by rw [(hTo.k t_mm (by decide)).eI hE (by decide) rfl]
  refine lv_istore (lv' := [(5, .int r3), (4, .int i), (3, .ref out), (2, .ref mm), (1, .ref x), (0, .ref b)]) hx hb dL_law_733 hl (by decide) rfl (fun ls hl => ?_)
  refine lv_aload_n hx hb dL_law_735 rfl (lv_at hl 3 rfl) ?_
  refine lv_aload_n hx hb dL_law_736 rfl (lv_at hl 5 rfl) ?_
  refine lv_iload hx hb dL_law_737 (lv_at hl 1 rfl) ?_
  refine lv_iconst (v := 1) hx hb dL_law_739 (by decide) ?_
  refine lv_iadd hx hb dL_law_740 ?_
  refine g_add (by omega) (by omega) (fun t20 ht20 => ?_)
  refine va_sld hx hb hXs hbl hbA hT.2.2.2 (g_in (by omega) (by omega)) dL_law_741 ?_
  refine ti y1 (by rw [hy1]; exact congrArg xs (show t20.toNatClampNeg = ix i + 1 from by show t20.toInt.toNat = ix i + 1; unfold ix; omega)) ?_
  have hTo := hT
  refine tVi (n := 1) (As := [.int y1]) (rest := []) hx hb hml hown hg hT hK hX (X6_setSplit l (kX κ) s2 mm y1 (hT.k t_mm (by decide)) R5 (by rw [show kR (kX κ) mm 1 = rW from erW, n15 0 (by decide)]; omega) (by rw [show kR (kX κ) mm 1 = rW from erW, n15 0 (by decide)]; omega)) sub_gXs_fA (mwV k1547 k1548 k1549 k92 k1550) ⟨rfl, by decide, by decide, by decide +kernel⟩ ⟨(Nat.le_of_ble_eq_true rfl), (Nat.le_of_ble_eq_true rfl)⟩ (hT.o20 (hT.k t_mm (by decide))) rfl rfl hl.1 rfl (Nat.le_of_ble_eq_true rfl) dL_law_742 zx (fun r22 s21 H locs hφ hE hT => ?_)
  obtain ⟨f23, f24, f25, f26⟩ := hφ
  have a27 : (zI s21 tx 1).toInt = (zI s2 tx 1).toInt := by rw [(hTo.k ttx (by decide)).eI hE (by decide) rfl]
  have j28 : zI s21 rB = zI σ rB := ((show zI s21 rB = zI s2 rB from funext fun k => (hTo.k trB (by decide)).eI hE (by decide) rfl)).trans j7
  have j29 : zI s21 rT = zI σ rT := ((show zI s21 rT = zI s2 rT from funext fun k => (hTo.k trT (by decide)).eI hE (by decide) rfl)).trans j8
  have j30 : zI s21 rI = zI σ rI := ((show zI s21 rI = zI s2 rI from funext fun k => (hTo.k trI (by decide)).eI hE (by decide) rfl)).trans j9
  have j31 : zI s21 rK = zI σ rK := ((show zI s21 rK = zI s2 rK from funext fun k => (hTo.k trK (by decide)).eI hE (by decide) rfl)).trans j10
  have j32 : zI s21 tx 2 = zI σ tx 2 := ((hTo.k ttx (by decide)).eI hE (by decide) rfl).trans j11
  have j33 : zI s21 tx 3 = zI σ tx 3 := ((hTo.k ttx (by decide)).eI hE (by decide) rfl).trans j12
  have j34 : zI s21 mm 15 = zI σ mm 15 := ((hTo.k t_mm (by decide)).eI hE (by decide) rfl).trans j13
  have j35 : zI s21 mm 16 = zI σ mm 16 := ((hTo.k t_mm (by decide)).eI hE (by decide) rfl).trans j14
  have n36 : zI s21 nw 7 = zI s2 nw 7 ∧ zI s21 nw 8 = zI s2 nw 8 ∧ zI s21 nw 9 = zI s2 nw 9 := ⟨(hTo.k tnw (by decide)).eI hE (by decide) rfl, (hTo.k tnw (by decide)).eI hE (by decide) rfl, (hTo.k tnw (by decide)).eI hE (by decide) rfl⟩
  have n37 : zI s21 sl0 7 = zI s2 sl0 7 ∧ zI s21 sl0 8 = zI s2 sl0 8 ∧ zI s21 sl0 9 = zI s2 sl0 9 := ⟨(hTo.k tsl0 (by decide)).eI hE (by decide) rfl, (hTo.k tsl0 (by decide)).eI hE (by decide) rfl, (hTo.k tsl0 (by decide)).eI hE (by decide) rfl⟩
  have n38 : zI s21 sl0 7 = zI σ sl0 7 ∧ zI s21 sl0 8 = zI σ sl0 8 ∧ zI s21 sl0 9 = zI σ sl0 9 := ⟨n37.1.trans nz0.1, n37.2.1.trans nz0.2.1, n37.2.2.trans nz0.2.2⟩
  have n39 : zI s21 sl1 7 = zI s2 sl1 7 ∧ zI s21 sl1 8 = zI s2 sl1 8 ∧ zI s21 sl1 9 = zI s2 sl1 9 := ⟨(hTo.k tsl1 (by decide)).eI hE (by decide) rfl, (hTo.k tsl1 (by decide)).eI hE (by decide) rfl, (hTo.k tsl1 (by decide)).eI hE (by decide) rfl⟩
  have n40 : zI s21 sl1 7 = zI σ sl1 7 ∧ zI s21 sl1 8 = zI σ sl1 8 ∧ zI s21 sl1 9 = zI σ sl1 9 := ⟨n39.1.trans nz1.1, n39.2.1.trans nz1.2.1, n39.2.2.trans nz1.2.2⟩
  have n41 : zJ s21 rS = zJ σ rS := (show zJ s21 rS = zJ s2 rS from funext fun k => (hTo.k trS (by decide)).eJ hE (by decide) rfl).trans n16
  have z42 : zI s21 so 2 = zI s2 so 2 ∧ zI s21 so 6 = zI s2 so 6 ∧ zI s21 qP = zI s2 qP ∧ zI s21 qO = zI s2 qO := ⟨(hTo.k tso (by decide)).eI hE (by decide) rfl, (hTo.k tso (by decide)).eI hE (by decide) rfl, funext fun q9 => (hTo.k tqP (by decide)).eI hE (by decide) rfl, funext fun q9 => (hTo.k tqO (by decide)).eI hE (by decide) rfl⟩
  have z43 : zI s21 so 2 = zI σ so 2 ∧ zI s21 so 6 = zI σ so 6 ∧ zI s21 qP = zI σ qP ∧ zI s21 qO = zI σ qO := ⟨z42.1.trans z17.1, z42.2.1.trans z17.2.1, z42.2.2.1.trans z17.2.2.1, z42.2.2.2.trans z17.2.2.2⟩
  have z44 : zI s21 mm 7 = zI s2 mm 7 ∧ zI s21 mm 8 = zI s2 mm 8 ∧ zI s21 r5 = zI s2 r5 ∧ zI s21 r6 = zI s2 r6 := ⟨(hTo.k t_mm (by decide)).eI hE (by decide) rfl, (hTo.k t_mm (by decide)).eI hE (by decide) rfl, funext fun q9 => (hTo.k tr5 (by decide)).eI hE (by decide) rfl, funext fun q9 => (hTo.k tr6 (by decide)).eI hE (by decide) rfl⟩
  have z45 : zI s21 mm 7 = zI σ mm 7 ∧ zI s21 mm 8 = zI σ mm 8 ∧ zI s21 r5 = zI σ r5 ∧ zI s21 r6 = zI σ r6 := ⟨z44.1.trans z18.1, z44.2.1.trans z18.2.1, z44.2.2.1.trans z18.2.2.1, z44.2.2.2.trans z18.2.2.2⟩
  have a46 : (zJ s21 out 0).toInt = (zJ s2 out 0).toInt := by rw [(hTo.k t_out (by decide)).eJ hE (by decide) rfl]
  rw [show kR (kX κ) mm 1 = rW from erW] at f24
  rw [show kR (kX κ) mm 1 = rW from erW] at f25
  rw [show kR (kX κ) mm 1 = rW from erW] at f26
  have sz0 : (zJ s2 rW 0).toInt = (zJ σ rW 0).toInt := congrArg Int64.toInt (n15 0 (by decide))
  have sz1 : (zJ s2 rW 1).toInt = (zJ σ rW 1).toInt := congrArg Int64.toInt (n15 1 (by decide))
  have sz2 : (zJ s2 rW 2).toInt = (zJ σ rW 2).toInt := congrArg Int64.toInt (n15 2 (by decide))
  have as2 : (0 ≤ y1.toInt ∧ y1.toInt ≤ 2 ∧ (zI s21 mm 0).toInt = 0 ∧ (zJ s21 rW 0).toInt = y1.toInt) ∨ ((y1.toInt < 0 ∨ 2 < y1.toInt) ∧ (zI s21 mm 0).toInt = 1 ∧ (zJ s21 rW 0).toInt = (zJ s2 rW 0).toInt) := f24.elim (fun q9 => Or.inl q9) (fun q9 => Or.inr ⟨q9.1, q9.2.1, congrArg Int64.toInt q9.2.2⟩)
  have at1 : (zJ s21 rW 1).toInt = (zJ s2 rW 1).toInt := congrArg Int64.toInt (f25 1 (by decide))
  have at2 : (zJ s21 rW 2).toInt = (zJ s2 rW 2).toInt := congrArg Int64.toInt (f25 2 (by decide))
  have a47 : (zI s21 mm 13).toInt = (zI s2 mm 13).toInt := by rw [(hTo.k t_mm (by decide)).eI hE (by decide) rfl]
  refine lv_istore (lv' := [(6, .int r22), (5, .int r3), (4, .int i), (3, .ref out), (2, .ref mm), (1, .ref x), (0, .ref b)]) hx hb dL_law_745 hl (by decide) rfl (fun ls hl => ?_)
  refine lv_goto (tgt := 1432) hx hb dL_law_747 (by decide) ?_
  have sl0f : zI s21 rI 0 ≠ 0 → SLT κ s21 x mm 0 := fun hq => (hsl 0 (by decide) (fun q9 => hq (by rw [erI] at q9; rw [j30]; exact q9))).tr (by rw [ers5, esl0]; exact n38) (fun j hj => by rw [erS, n41])
  have sl1f : zI s21 rI 1 ≠ 0 → SLT κ s21 x mm 1 := fun hq => (hsl 1 (by decide) (fun q9 => hq (by rw [erI] at q9; rw [j30]; exact q9))).tr (by rw [ers5, esl1]; exact n40) (fun j hj => by rw [erS, n41])
  have v7 := congrArg Int32.toInt n36.1
  have v8 := congrArg Int32.toInt n36.2.1
  have v9 := congrArg Int32.toInt n36.2.2
  exact KK s21 _ _ _ hT f23 ⟨by rw [etx]; omega, ⟨by rw [etx, erB, erT, j28, j29]; exact tal_less hal (by omega), by rw [erT, j29]; exact tnn_less hnn (by omega)⟩, ⟨by rw [etx, j32, j34]; exact hco, by rw [etx, j33, j35]; exact hpo⟩, fun i hi => by rw [erI, erK, j30, j31]; exact hkp i hi⟩ (⟨⟨by rw [enw, erW]; omega, by rw [enw, erW]; omega, by rw [enw, erW]; omega⟩, fun i hi => (show i = 0 ∨ i = 1 by omega).elim (fun e9 => by rw [e9, erI]; exact sl0f) (fun e9 => by rw [e9, erI]; exact sl1f)⟩) (hsm.tr (by rw [eso, eqP, eqO]; exact z43) (by rw [er5, er6]; exact z45)) (lv_sub hl [2, 3, 4, 5, 6] rfl)
set_option maxHeartbeats 4000000 in
set_option maxRecDepth 100000 in
theorem lc_20 (l : Launch) (κ : Kt) (σ0 : Gh) (x mm out b : Nat) (t_x : zk σ0 x 7) (t_mm : zk σ0 mm 20) (t_out : zk σ0 out 24) (ttx0 : zk σ0 (kR κ x 0) 6) (hdis : DIS κ x) (hlt : l.stackTraces = false) {p : Program} {e : Env} {s : State} {m : MethodId} {below : List Frame} {meth : Method} {c : Code} {L : Nat} {xs : Nat → Int32} {i : Int32} {Q9 : State → Prop} (hx : p.tables.exec = Jvm.exec) (hb : c.code = cL_law) (hml : c.maxLocals = 9) (hown : s.vm.findClass RL = some m.cls) (hg : ∀ w ∈ GW, w.before #[Value.ref b] s = true) (hK : va_K κ.1 vwCl (kTy κ) s) (hX : XY κ (tA σ0 s.heap.size) s s.heap) (hXs : va_X b L xs s s.heap) (hbl : b < s.heap.size) (hbA : ¬ tA σ0 s.heap.size b) (zx : zroomX κ s room_1 601024 7293034) (hi0 : 0 ≤ i.toInt) (hi1 : i.toInt + 6 ≤ L) (hL9 : L ≤ 3072) {σ : Gh} {H : Heap} {locs : List Loc} {ls : Array Slot} (hT : TS κ fA σ0 σ s H locs) (hR : RI κ σ mm) (hrel : LREL κ σ x mm) (hsr : SREL κ σ x mm) (hsm : SMP κ σ x mm) (hl : lv_has ls 9 [(4, .int i), (3, .ref out), (2, .ref mm), (1, .ref x), (0, .ref b)]) (KK : ∀ (σ1 : Gh) (H : Heap) (locs : List Loc) (ls : Array Slot), TS (kX κ) fA σ0 σ1 s H locs → RI (kX κ) σ1 mm → LREL κ σ1 x mm → SREL κ σ1 x mm → SMP κ σ1 x mm → lv_has ls 9 [(4, .int i), (3, .ref out), (2, .ref mm), (1, .ref x), (0, .ref b)] → W p l e room_1 s m #[Value.ref b] below meth c H locs 601024 7293034 Q9 (F0 m 1432 ls [])) : W p l e room_1 s m #[Value.ref b] below meth c H locs 601024 7293034 Q9 (F0 m 750 ls []) := by
  obtain ⟨y1, hy1⟩ : ∃ z, z = xs (ix i + 1) := ⟨_, rfl⟩
  obtain ⟨y2, hy2⟩ : ∃ z, z = xs (ix i + 2) := ⟨_, rfl⟩
  obtain ⟨y3, hy3⟩ : ∃ z, z = xs (ix i + 3) := ⟨_, rfl⟩
  obtain ⟨y4, hy4⟩ : ∃ z, z = xs (ix i + 4) := ⟨_, rfl⟩
  obtain ⟨y5, hy5⟩ : ∃ z, z = xs (ix i + 5) := ⟨_, rfl⟩
  have n0 : (0 : Int32).toInt = 0 := by decide
  have n1 : (1 : Int32).toInt = 1 := by decide
  have n2 : (2 : Int32).toInt = 2 := by decide
  have n3 : (3 : Int32).toInt = 3 := by decide
  have n4 : (4 : Int32).toInt = 4 := by decide
  have n5 : (5 : Int32).toInt = 5 := by decide
  obtain ⟨tx, etx⟩ : ∃ z, kR κ x 0 = z := ⟨_, rfl⟩
  have ttx : zk σ0 tx 6 := by rw [← etx]; exact ttx0
  obtain ⟨rB, erB⟩ : ∃ z, kR κ tx 0 = z := ⟨_, rfl⟩
  have trB : zk σ0 rB 14 := by rw [← erB]; exact hT.kr (hT.ref (hT.k ttx (by decide)) (by decide) (by decide) (by decide)) (by decide) (by decide)
  obtain ⟨rT, erT⟩ : ∃ z, kR κ mm 12 = z := ⟨_, rfl⟩
  have trT : zk σ0 rT 23 := by rw [← erT]; exact hT.kr (hT.ref (hT.k t_mm (by decide)) (by decide) (by decide) (by decide)) (by decide) (by decide)
  obtain ⟨rI, erI⟩ : ∃ z, kR κ x 6 = z := ⟨_, rfl⟩
  have trI : zk σ0 rI 13 := by rw [← erI]; exact hT.kr (hT.ref (hT.k t_x (by decide)) (by decide) (by decide) (by decide)) (by decide) (by decide)
  obtain ⟨rK, erK⟩ : ∃ z, kR κ mm 4 = z := ⟨_, rfl⟩
  have trK : zk σ0 rK 29 := by rw [← erK]; exact hT.kr (hT.ref (hT.k t_mm (by decide)) (by decide) (by decide) (by decide)) (by decide) (by decide)
  obtain ⟨hlen, ⟨hal, hnn⟩, ⟨hco, hpo⟩, hkp⟩ := hrel
  rw [etx] at hlen hal hco hpo
  rw [erB, erT] at hal
  rw [erT] at hnn
  rw [erI, erK] at hkp
  have btx := (hT.P (hT.k ttx (by decide)) (by decide)).1
  have btxl := btx.1
  have btxh := btx.2
  obtain ⟨nw, enw⟩ : ∃ z, kR κ x 3 = z := ⟨_, rfl⟩
  have tnw : zk σ0 nw 3 := by rw [← enw]; exact hT.kr (hT.ref (hT.k t_x (by decide)) (by decide) (by decide) (by decide)) (by decide) (by decide)
  obtain ⟨tr, etr⟩ : ∃ z, kR κ x 4 = z := ⟨_, rfl⟩
  have ttr : zk σ0 tr 3 := by rw [← etr]; exact hT.kr (hT.ref (hT.k t_x (by decide)) (by decide) (by decide) (by decide)) (by decide) (by decide)
  obtain ⟨rs5, ers5⟩ : ∃ z, kR κ x 5 = z := ⟨_, rfl⟩
  have trs5 : zk σ0 rs5 12 := by rw [← ers5]; exact hT.kr (hT.ref (hT.k t_x (by decide)) (by decide) (by decide) (by decide)) (by decide) (by decide)
  obtain ⟨sl0, esl0⟩ : ∃ z, kR κ rs5 0 = z := ⟨_, rfl⟩
  have tsl0 : zk σ0 sl0 3 := by rw [← esl0]; exact hT.kr (hT.ref (hT.k trs5 (by decide)) (by decide) (by decide) (by decide)) (by decide) (by decide)
  obtain ⟨sl1, esl1⟩ : ∃ z, kR κ rs5 1 = z := ⟨_, rfl⟩
  have tsl1 : zk σ0 sl1 3 := by rw [← esl1]; exact hT.kr (hT.ref (hT.k trs5 (by decide)) (by decide) (by decide) (by decide)) (by decide) (by decide)
  obtain ⟨rW, erW⟩ : ∃ z, kR κ mm 1 = z := ⟨_, rfl⟩
  have trW : zk σ0 rW 21 := by rw [← erW]; exact hT.kr (hT.ref (hT.k t_mm (by decide)) (by decide) (by decide) (by decide)) (by decide) (by decide)
  obtain ⟨rS, erS⟩ : ∃ z, kR κ mm 3 = z := ⟨_, rfl⟩
  have trS : zk σ0 rS 22 := by rw [← erS]; exact hT.kr (hT.ref (hT.k t_mm (by decide)) (by decide) (by decide) (by decide)) (by decide) (by decide)
  obtain ⟨so, eso⟩ : ∃ z, kR κ x 1 = z := ⟨_, rfl⟩
  have tso : zk σ0 so 4 := by rw [← eso]; exact hT.kr (hT.ref (hT.k t_x (by decide)) (by decide) (by decide) (by decide)) (by decide) (by decide)
  obtain ⟨qP, eqP⟩ : ∃ z, kR κ so 0 = z := ⟨_, rfl⟩
  have tqP : zk σ0 qP 8 := by rw [← eqP]; exact hT.kr (hT.ref (hT.k tso (by decide)) (by decide) (by decide) (by decide)) (by decide) (by decide)
  obtain ⟨qO, eqO⟩ : ∃ z, kR κ so 1 = z := ⟨_, rfl⟩
  have tqO : zk σ0 qO 16 := by rw [← eqO]; exact hT.kr (hT.ref (hT.k tso (by decide)) (by decide) (by decide) (by decide)) (by decide) (by decide)
  obtain ⟨r5, er5⟩ : ∃ z, kR κ mm 5 = z := ⟨_, rfl⟩
  have tr5 : zk σ0 r5 25 := by rw [← er5]; exact hT.kr (hT.ref (hT.k t_mm (by decide)) (by decide) (by decide) (by decide)) (by decide) (by decide)
  obtain ⟨r6, er6⟩ : ∃ z, kR κ mm 6 = z := ⟨_, rfl⟩
  have tr6 : zk σ0 r6 26 := by rw [← er6]; exact hT.kr (hT.ref (hT.k t_mm (by decide)) (by decide) (by decide) (by decide)) (by decide) (by decide)
  obtain ⟨hnw, hsl⟩ := hsr
  obtain ⟨hd1, ⟨hd2, hd3⟩, hd4, hd5, hd6, hd7⟩ := hdis
  have d_nt : nw ≠ tr := by rw [← enw, ← etr]; exact hd2
  have d_n0 : nw ≠ sl0 := by rw [← enw, ← esl0, ← ers5]; exact hd3 0 (by decide)
  have d_t0 : sl0 ≠ tr := by rw [← etr, ← esl0, ← ers5]; exact fun q => hd4 0 (by decide) q.symm
  have d_n1 : nw ≠ sl1 := by rw [← enw, ← esl1, ← ers5]; exact hd3 1 (by decide)
  have d_t1 : sl1 ≠ tr := by rw [← etr, ← esl1, ← ers5]; exact fun q => hd4 1 (by decide) q.symm
  have d_01 : sl0 ≠ sl1 := by rw [← esl0, ← esl1, ← ers5]; exact hd5
  have knw : zk σ nw 3 := hT.k tnw (by decide)
  have ksl0 : zk σ sl0 3 := hT.k tsl0 (by decide)
  have ksl1 : zk σ sl1 3 := hT.k tsl1 (by decide)
  have hw7 : (zI σ nw 7).toInt = (zJ σ rW 0).toInt := by rw [← enw, ← erW]; exact hnw.1
  have hb7 := Int32.le_toInt (zI σ nw 7)
  have hc7 := Int32.toInt_lt (zI σ nw 7)
  have hw8 : (zI σ nw 8).toInt = (zJ σ rW 1).toInt := by rw [← enw, ← erW]; exact hnw.2.1
  have hb8 := Int32.le_toInt (zI σ nw 8)
  have hc8 := Int32.toInt_lt (zI σ nw 8)
  have hw9 : (zI σ nw 9).toInt = (zJ σ rW 2).toInt := by rw [← enw, ← erW]; exact hnw.2.2
  have hb9 := Int32.le_toInt (zI σ nw 9)
  have hc9 := Int32.toInt_lt (zI σ nw 9)
  refine lv_aload_n hx hb dL_law_750 rfl (lv_at hl 3 rfl) ?_
  refine lv_aload_n hx hb dL_law_751 rfl (lv_at hl 4 rfl) ?_
  refine lv_iload hx hb dL_law_752 (lv_at hl 0 rfl) ?_
  refine lv_iconst (v := 1) hx hb dL_law_754 (by decide) ?_
  refine lv_iadd hx hb dL_law_755 ?_
  refine g_add (by omega) (by omega) (fun t1 ht1 => ?_)
  refine va_sld hx hb hXs hbl hbA hT.2.2.2 (g_in (by omega) (by omega)) dL_law_756 ?_
  refine ti y1 (by rw [hy1]; exact congrArg xs (show t1.toNatClampNeg = ix i + 1 from by show t1.toInt.toNat = ix i + 1; unfold ix; omega)) ?_
  refine lv_aload_n hx hb dL_law_757 rfl (lv_at hl 1 rfl) ?_
  have hTo := hT
  refine tHi (n := 3) (As := [.ref x, .int y1, .ref out]) (rest := []) hx hb hml hown hg hT hK hX (L_setPredict l κ σ x y1 out (hT.k t_x (by decide)) (hT.k t_out (by decide)) hlt) sub_hfSet_fA (mwHS k974 k975 k83 k976) ⟨by decide, by decide, by decide +kernel⟩ ⟨(Nat.le_of_ble_eq_true rfl), (Nat.le_of_ble_eq_true rfl)⟩ rfl hl.1 rfl (Nat.le_of_ble_eq_true rfl) dL_law_758 zx (fun r3 s2 H locs hφ hE hT => ?_)
  have f4 := hφ
  have R5 := hR.ext hE ⟨rfl, rfl, fun _ => rfl, fun _ => rfl, fun _ => rfl, fun _ => rfl⟩
  have a6 : (zI s2 tx 1).toInt = (zI σ tx 1).toInt := by rw [(hTo.k ttx (by decide)).eI hE (by decide) rfl]
  have j7 : zI s2 rB = zI σ rB := (show zI s2 rB = zI σ rB from funext fun k => (hTo.k trB (by decide)).eI hE (by decide) rfl)
  have j8 : zI s2 rT = zI σ rT := (show zI s2 rT = zI σ rT from funext fun k => (hTo.k trT (by decide)).eI hE (by decide) rfl)
  have j9 : zI s2 rI = zI σ rI := (show zI s2 rI = zI σ rI from funext fun k => (hTo.k trI (by decide)).eI hE (by decide) rfl)
  have j10 : zI s2 rK = zI σ rK := (show zI s2 rK = zI σ rK from funext fun k => (hTo.k trK (by decide)).eI hE (by decide) rfl)
  have j11 : zI s2 tx 2 = zI σ tx 2 := (hTo.k ttx (by decide)).eI hE (by decide) rfl
  have j12 : zI s2 tx 3 = zI σ tx 3 := (hTo.k ttx (by decide)).eI hE (by decide) rfl
  have j13 : zI s2 mm 15 = zI σ mm 15 := (hTo.k t_mm (by decide)).eI hE (by decide) rfl
  have j14 : zI s2 mm 16 = zI σ mm 16 := (hTo.k t_mm (by decide)).eI hE (by decide) rfl
  have n15 : ∀ j : Nat, j < 3 → zJ s2 rW j = zJ σ rW j := fun j hj => (hTo.k trW (by decide)).eJ hE (by decide) rfl
  have n16 : zJ s2 rS = zJ σ rS := (show zJ s2 rS = zJ σ rS from funext fun k => (hTo.k trS (by decide)).eJ hE (by decide) rfl)
  have z17 : zI s2 so 2 = zI σ so 2 ∧ zI s2 so 6 = zI σ so 6 ∧ zI s2 qP = zI σ qP ∧ zI s2 qO = zI σ qO := ⟨(hTo.k tso (by decide)).eI hE (by decide) rfl, (hTo.k tso (by decide)).eI hE (by decide) rfl, funext fun q9 => (hTo.k tqP (by decide)).eI hE (by decide) rfl, funext fun q9 => (hTo.k tqO (by decide)).eI hE (by decide) rfl⟩
  have z18 : zI s2 mm 7 = zI σ mm 7 ∧ zI s2 mm 8 = zI σ mm 8 ∧ zI s2 r5 = zI σ r5 ∧ zI s2 r6 = zI σ r6 := ⟨(hTo.k t_mm (by decide)).eI hE (by decide) rfl, (hTo.k t_mm (by decide)).eI hE (by decide) rfl, funext fun q9 => (hTo.k tr5 (by decide)).eI hE (by decide) rfl, funext fun q9 => (hTo.k tr6 (by decide)).eI hE (by decide) rfl⟩
  rw [enw] at f4
  have nz0 : zI s2 sl0 7 = zI σ sl0 7 ∧ zI s2 sl0 8 = zI σ sl0 8 ∧ zI s2 sl0 9 = zI σ sl0 9 := f4.elim (fun q9 => q9.2.2.2.2.2.2.2 sl0 (fun e9 => d_n0 e9.symm) ksl0) (fun q9 => q9.2.2 sl0 ksl0)
  have nz1 : zI s2 sl1 7 = zI σ sl1 7 ∧ zI s2 sl1 8 = zI σ sl1 8 ∧ zI s2 sl1 9 = zI σ sl1 9 := f4.elim (fun q9 => q9.2.2.2.2.2.2.2 sl1 (fun e9 => d_n1 e9.symm) ksl1) (fun q9 => q9.2.2 sl1 ksl1)
  have as1 : (0 ≤ y1.toInt ∧ y1.toInt ≤ 2 ∧ (zI s2 nw 8).toInt = y1.toInt ∧ (zI s2 nw 7).toInt = (zI σ nw 7).toInt ∧ (zI s2 nw 9).toInt = (zI σ nw 9).toInt) ∨ ((y1.toInt < 0 ∨ 2 < y1.toInt) ∧ (zI s2 nw 8).toInt = (zI σ nw 8).toInt ∧ (zI s2 nw 7).toInt = (zI σ nw 7).toInt ∧ (zI s2 nw 9).toInt = (zI σ nw 9).toInt) := f4.elim (fun q9 => Or.inl ⟨q9.2.1, q9.2.2.1, congrArg Int32.toInt q9.2.2.2.2.1, congrArg Int32.toInt q9.2.2.2.2.2.1, congrArg Int32.toInt q9.2.2.2.2.2.2.1⟩) (fun q9 => Or.inr ⟨q9.2.1, congrArg Int32.toInt (q9.2.2 nw knw).2.1, congrArg Int32.toInt (q9.2.2 nw knw).1, congrArg Int32.toInt (q9.2.2 nw knw).2.2⟩)
  have ao1 : (r3.toInt = 0 ∧ 0 ≤ y1.toInt ∧ y1.toInt ≤ 2 ∧ (zJ s2 out 0).toInt = (zI σ nw 8).toInt) ∨ (r3.toInt = 1 ∧ (y1.toInt < 0 ∨ 2 < y1.toInt)) := f4.elim (fun q9 => Or.inl ⟨q9.1, q9.2.1, q9.2.2.1, q9.2.2.2.1⟩) (fun q9 => Or.inr ⟨q9.1, q9.2.1⟩)
  have a19 : (zI s2 mm 13).toInt = (zI σ mm 13).toInt := by rw [(hTo.k t_mm (by decide)).eI hE (by decide) rfl]
  refine lv_istore (lv' := [(5, .int r3), (4, .int i), (3, .ref out), (2, .ref mm), (1, .ref x), (0, .ref b)]) hx hb dL_law_761 hl (by decide) rfl (fun ls hl => ?_)
  refine lv_aload_n hx hb dL_law_763 rfl (lv_at hl 3 rfl) ?_
  refine lv_aload_n hx hb dL_law_764 rfl (lv_at hl 5 rfl) ?_
  refine lv_iload hx hb dL_law_765 (lv_at hl 1 rfl) ?_
  refine lv_iconst (v := 1) hx hb dL_law_767 (by decide) ?_
  refine lv_iadd hx hb dL_law_768 ?_
  refine g_add (by omega) (by omega) (fun t20 ht20 => ?_)
  refine va_sld hx hb hXs hbl hbA hT.2.2.2 (g_in (by omega) (by omega)) dL_law_769 ?_
  refine ti y1 (by rw [hy1]; exact congrArg xs (show t20.toNatClampNeg = ix i + 1 from by show t20.toInt.toNat = ix i + 1; unfold ix; omega)) ?_
  have hTo := hT
  refine tVi (n := 1) (As := [.int y1]) (rest := []) hx hb hml hown hg hT hK hX (X6_setPredict l (kX κ) s2 mm y1 (hT.k t_mm (by decide)) R5 (by rw [show kR (kX κ) mm 1 = rW from erW, n15 1 (by decide)]; omega) (by rw [show kR (kX κ) mm 1 = rW from erW, n15 1 (by decide)]; omega)) sub_gXs_fA (mwV k1555 k1556 k1557 k92 k1558) ⟨rfl, by decide, by decide, by decide +kernel⟩ ⟨(Nat.le_of_ble_eq_true rfl), (Nat.le_of_ble_eq_true rfl)⟩ (hT.o20 (hT.k t_mm (by decide))) rfl rfl hl.1 rfl (Nat.le_of_ble_eq_true rfl) dL_law_770 zx (fun r22 s21 H locs hφ hE hT => ?_)
  obtain ⟨f23, f24, f25, f26⟩ := hφ
  have a27 : (zI s21 tx 1).toInt = (zI s2 tx 1).toInt := by rw [(hTo.k ttx (by decide)).eI hE (by decide) rfl]
  have j28 : zI s21 rB = zI σ rB := ((show zI s21 rB = zI s2 rB from funext fun k => (hTo.k trB (by decide)).eI hE (by decide) rfl)).trans j7
  have j29 : zI s21 rT = zI σ rT := ((show zI s21 rT = zI s2 rT from funext fun k => (hTo.k trT (by decide)).eI hE (by decide) rfl)).trans j8
  have j30 : zI s21 rI = zI σ rI := ((show zI s21 rI = zI s2 rI from funext fun k => (hTo.k trI (by decide)).eI hE (by decide) rfl)).trans j9
  have j31 : zI s21 rK = zI σ rK := ((show zI s21 rK = zI s2 rK from funext fun k => (hTo.k trK (by decide)).eI hE (by decide) rfl)).trans j10
  have j32 : zI s21 tx 2 = zI σ tx 2 := ((hTo.k ttx (by decide)).eI hE (by decide) rfl).trans j11
  have j33 : zI s21 tx 3 = zI σ tx 3 := ((hTo.k ttx (by decide)).eI hE (by decide) rfl).trans j12
  have j34 : zI s21 mm 15 = zI σ mm 15 := ((hTo.k t_mm (by decide)).eI hE (by decide) rfl).trans j13
  have j35 : zI s21 mm 16 = zI σ mm 16 := ((hTo.k t_mm (by decide)).eI hE (by decide) rfl).trans j14
  have n36 : zI s21 nw 7 = zI s2 nw 7 ∧ zI s21 nw 8 = zI s2 nw 8 ∧ zI s21 nw 9 = zI s2 nw 9 := ⟨(hTo.k tnw (by decide)).eI hE (by decide) rfl, (hTo.k tnw (by decide)).eI hE (by decide) rfl, (hTo.k tnw (by decide)).eI hE (by decide) rfl⟩
  have n37 : zI s21 sl0 7 = zI s2 sl0 7 ∧ zI s21 sl0 8 = zI s2 sl0 8 ∧ zI s21 sl0 9 = zI s2 sl0 9 := ⟨(hTo.k tsl0 (by decide)).eI hE (by decide) rfl, (hTo.k tsl0 (by decide)).eI hE (by decide) rfl, (hTo.k tsl0 (by decide)).eI hE (by decide) rfl⟩
  have n38 : zI s21 sl0 7 = zI σ sl0 7 ∧ zI s21 sl0 8 = zI σ sl0 8 ∧ zI s21 sl0 9 = zI σ sl0 9 := ⟨n37.1.trans nz0.1, n37.2.1.trans nz0.2.1, n37.2.2.trans nz0.2.2⟩
  have n39 : zI s21 sl1 7 = zI s2 sl1 7 ∧ zI s21 sl1 8 = zI s2 sl1 8 ∧ zI s21 sl1 9 = zI s2 sl1 9 := ⟨(hTo.k tsl1 (by decide)).eI hE (by decide) rfl, (hTo.k tsl1 (by decide)).eI hE (by decide) rfl, (hTo.k tsl1 (by decide)).eI hE (by decide) rfl⟩
  have n40 : zI s21 sl1 7 = zI σ sl1 7 ∧ zI s21 sl1 8 = zI σ sl1 8 ∧ zI s21 sl1 9 = zI σ sl1 9 := ⟨n39.1.trans nz1.1, n39.2.1.trans nz1.2.1, n39.2.2.trans nz1.2.2⟩
  have n41 : zJ s21 rS = zJ σ rS := (show zJ s21 rS = zJ s2 rS from funext fun k => (hTo.k trS (by decide)).eJ hE (by decide) rfl).trans n16
  have z42 : zI s21 so 2 = zI s2 so 2 ∧ zI s21 so 6 = zI s2 so 6 ∧ zI s21 qP = zI s2 qP ∧ zI s21 qO = zI s2 qO := ⟨(hTo.k tso (by decide)).eI hE (by decide) rfl, (hTo.k tso (by decide)).eI hE (by decide) rfl, funext fun q9 => (hTo.k tqP (by decide)).eI hE (by decide) rfl, funext fun q9 => (hTo.k tqO (by decide)).eI hE (by decide) rfl⟩
  have z43 : zI s21 so 2 = zI σ so 2 ∧ zI s21 so 6 = zI σ so 6 ∧ zI s21 qP = zI σ qP ∧ zI s21 qO = zI σ qO := ⟨z42.1.trans z17.1, z42.2.1.trans z17.2.1, z42.2.2.1.trans z17.2.2.1, z42.2.2.2.trans z17.2.2.2⟩
  have z44 : zI s21 mm 7 = zI s2 mm 7 ∧ zI s21 mm 8 = zI s2 mm 8 ∧ zI s21 r5 = zI s2 r5 ∧ zI s21 r6 = zI s2 r6 := ⟨(hTo.k t_mm (by decide)).eI hE (by decide) rfl, (hTo.k t_mm (by decide)).eI hE (by decide) rfl, funext fun q9 => (hTo.k tr5 (by decide)).eI hE (by decide) rfl, funext fun q9 => (hTo.k tr6 (by decide)).eI hE (by decide) rfl⟩
  have z45 : zI s21 mm 7 = zI σ mm 7 ∧ zI s21 mm 8 = zI σ mm 8 ∧ zI s21 r5 = zI σ r5 ∧ zI s21 r6 = zI σ r6 := ⟨z44.1.trans z18.1, z44.2.1.trans z18.2.1, z44.2.2.1.trans z18.2.2.1, z44.2.2.2.trans z18.2.2.2⟩
  have a46 : (zJ s21 out 0).toInt = (zJ s2 out 0).toInt := by rw [(hTo.k t_out (by decide)).eJ hE (by decide) rfl]
  rw [show kR (kX κ) mm 1 = rW from erW] at f24
  rw [show kR (kX κ) mm 1 = rW from erW] at f25
  rw [show kR (kX κ) mm 1 = rW from erW] at f26
  have sz0 : (zJ s2 rW 0).toInt = (zJ σ rW 0).toInt := congrArg Int64.toInt (n15 0 (by decide))
  have sz1 : (zJ s2 rW 1).toInt = (zJ σ rW 1).toInt := congrArg Int64.toInt (n15 1 (by decide))
  have sz2 : (zJ s2 rW 2).toInt = (zJ σ rW 2).toInt := congrArg Int64.toInt (n15 2 (by decide))
  have as2 : (0 ≤ y1.toInt ∧ y1.toInt ≤ 2 ∧ (zI s21 mm 0).toInt = 0 ∧ (zJ s21 rW 1).toInt = y1.toInt) ∨ ((y1.toInt < 0 ∨ 2 < y1.toInt) ∧ (zI s21 mm 0).toInt = 1 ∧ (zJ s21 rW 1).toInt = (zJ s2 rW 1).toInt) := f24.elim (fun q9 => Or.inl q9) (fun q9 => Or.inr ⟨q9.1, q9.2.1, congrArg Int64.toInt q9.2.2⟩)
  have at0 : (zJ s21 rW 0).toInt = (zJ s2 rW 0).toInt := congrArg Int64.toInt (f25 0 (by decide))
  have at2 : (zJ s21 rW 2).toInt = (zJ s2 rW 2).toInt := congrArg Int64.toInt (f25 2 (by decide))
  have a47 : (zI s21 mm 13).toInt = (zI s2 mm 13).toInt := by rw [(hTo.k t_mm (by decide)).eI hE (by decide) rfl]
  refine lv_istore (lv' := [(6, .int r22), (5, .int r3), (4, .int i), (3, .ref out), (2, .ref mm), (1, .ref x), (0, .ref b)]) hx hb dL_law_773 hl (by decide) rfl (fun ls hl => ?_)
  refine lv_goto (tgt := 1432) hx hb dL_law_775 (by decide) ?_
  have sl0f : zI s21 rI 0 ≠ 0 → SLT κ s21 x mm 0 := fun hq => (hsl 0 (by decide) (fun q9 => hq (by rw [erI] at q9; rw [j30]; exact q9))).tr (by rw [ers5, esl0]; exact n38) (fun j hj => by rw [erS, n41])
  have sl1f : zI s21 rI 1 ≠ 0 → SLT κ s21 x mm 1 := fun hq => (hsl 1 (by decide) (fun q9 => hq (by rw [erI] at q9; rw [j30]; exact q9))).tr (by rw [ers5, esl1]; exact n40) (fun j hj => by rw [erS, n41])
  have v7 := congrArg Int32.toInt n36.1
  have v8 := congrArg Int32.toInt n36.2.1
  have v9 := congrArg Int32.toInt n36.2.2
  exact KK s21 _ _ _ hT f23 ⟨by rw [etx]; omega, ⟨by rw [etx, erB, erT, j28, j29]; exact tal_less hal (by omega), by rw [erT, j29]; exact tnn_less hnn (by omega)⟩, ⟨by rw [etx, j32, j34]; exact hco, by rw [etx, j33, j35]; exact hpo⟩, fun i hi => by rw [erI, erK, j30, j31]; exact hkp i hi⟩ (⟨⟨by rw [enw, erW]; omega, by rw [enw, erW]; omega, by rw [enw, erW]; omega⟩, fun i hi => (show i = 0 ∨ i = 1 by omega).elim (fun e9 => by rw [e9, erI]; exact sl0f) (fun e9 => by rw [e9, erI]; exact sl1f)⟩) (hsm.tr (by rw [eso, eqP, eqO]; exact z43) (by rw [er5, er6]; exact z45)) (lv_sub hl [2, 3, 4, 5, 6] rfl)
set_option maxHeartbeats 4000000 in
set_option maxRecDepth 100000 in
theorem lc_21 (l : Launch) (κ : Kt) (σ0 : Gh) (x mm out b : Nat) (t_x : zk σ0 x 7) (t_mm : zk σ0 mm 20) (t_out : zk σ0 out 24) (ttx0 : zk σ0 (kR κ x 0) 6) (hdis : DIS κ x) (hlt : l.stackTraces = false) {p : Program} {e : Env} {s : State} {m : MethodId} {below : List Frame} {meth : Method} {c : Code} {L : Nat} {xs : Nat → Int32} {i : Int32} {Q9 : State → Prop} (hx : p.tables.exec = Jvm.exec) (hb : c.code = cL_law) (hml : c.maxLocals = 9) (hown : s.vm.findClass RL = some m.cls) (hg : ∀ w ∈ GW, w.before #[Value.ref b] s = true) (hK : va_K κ.1 vwCl (kTy κ) s) (hX : XY κ (tA σ0 s.heap.size) s s.heap) (hXs : va_X b L xs s s.heap) (hbl : b < s.heap.size) (hbA : ¬ tA σ0 s.heap.size b) (zx : zroomX κ s room_1 601024 7293034) (hi0 : 0 ≤ i.toInt) (hi1 : i.toInt + 6 ≤ L) (hL9 : L ≤ 3072) {σ : Gh} {H : Heap} {locs : List Loc} {ls : Array Slot} (hT : TS κ fA σ0 σ s H locs) (hR : RI κ σ mm) (hrel : LREL κ σ x mm) (hsr : SREL κ σ x mm) (hsm : SMP κ σ x mm) (hl : lv_has ls 9 [(4, .int i), (3, .ref out), (2, .ref mm), (1, .ref x), (0, .ref b)]) (KK : ∀ (σ1 : Gh) (H : Heap) (locs : List Loc) (ls : Array Slot), TS (kX κ) fA σ0 σ1 s H locs → RI (kX κ) σ1 mm → LREL κ σ1 x mm → SREL κ σ1 x mm → SMP κ σ1 x mm → lv_has ls 9 [(4, .int i), (3, .ref out), (2, .ref mm), (1, .ref x), (0, .ref b)] → W p l e room_1 s m #[Value.ref b] below meth c H locs 601024 7293034 Q9 (F0 m 1432 ls [])) : W p l e room_1 s m #[Value.ref b] below meth c H locs 601024 7293034 Q9 (F0 m 778 ls []) := by
  obtain ⟨y1, hy1⟩ : ∃ z, z = xs (ix i + 1) := ⟨_, rfl⟩
  obtain ⟨y2, hy2⟩ : ∃ z, z = xs (ix i + 2) := ⟨_, rfl⟩
  obtain ⟨y3, hy3⟩ : ∃ z, z = xs (ix i + 3) := ⟨_, rfl⟩
  obtain ⟨y4, hy4⟩ : ∃ z, z = xs (ix i + 4) := ⟨_, rfl⟩
  obtain ⟨y5, hy5⟩ : ∃ z, z = xs (ix i + 5) := ⟨_, rfl⟩
  have n0 : (0 : Int32).toInt = 0 := by decide
  have n1 : (1 : Int32).toInt = 1 := by decide
  have n2 : (2 : Int32).toInt = 2 := by decide
  have n3 : (3 : Int32).toInt = 3 := by decide
  have n4 : (4 : Int32).toInt = 4 := by decide
  have n5 : (5 : Int32).toInt = 5 := by decide
  obtain ⟨tx, etx⟩ : ∃ z, kR κ x 0 = z := ⟨_, rfl⟩
  have ttx : zk σ0 tx 6 := by rw [← etx]; exact ttx0
  obtain ⟨rB, erB⟩ : ∃ z, kR κ tx 0 = z := ⟨_, rfl⟩
  have trB : zk σ0 rB 14 := by rw [← erB]; exact hT.kr (hT.ref (hT.k ttx (by decide)) (by decide) (by decide) (by decide)) (by decide) (by decide)
  obtain ⟨rT, erT⟩ : ∃ z, kR κ mm 12 = z := ⟨_, rfl⟩
  have trT : zk σ0 rT 23 := by rw [← erT]; exact hT.kr (hT.ref (hT.k t_mm (by decide)) (by decide) (by decide) (by decide)) (by decide) (by decide)
  obtain ⟨rI, erI⟩ : ∃ z, kR κ x 6 = z := ⟨_, rfl⟩
  have trI : zk σ0 rI 13 := by rw [← erI]; exact hT.kr (hT.ref (hT.k t_x (by decide)) (by decide) (by decide) (by decide)) (by decide) (by decide)
  obtain ⟨rK, erK⟩ : ∃ z, kR κ mm 4 = z := ⟨_, rfl⟩
  have trK : zk σ0 rK 29 := by rw [← erK]; exact hT.kr (hT.ref (hT.k t_mm (by decide)) (by decide) (by decide) (by decide)) (by decide) (by decide)
  obtain ⟨hlen, ⟨hal, hnn⟩, ⟨hco, hpo⟩, hkp⟩ := hrel
  rw [etx] at hlen hal hco hpo
  rw [erB, erT] at hal
  rw [erT] at hnn
  rw [erI, erK] at hkp
  have btx := (hT.P (hT.k ttx (by decide)) (by decide)).1
  have btxl := btx.1
  have btxh := btx.2
  obtain ⟨nw, enw⟩ : ∃ z, kR κ x 3 = z := ⟨_, rfl⟩
  have tnw : zk σ0 nw 3 := by rw [← enw]; exact hT.kr (hT.ref (hT.k t_x (by decide)) (by decide) (by decide) (by decide)) (by decide) (by decide)
  obtain ⟨tr, etr⟩ : ∃ z, kR κ x 4 = z := ⟨_, rfl⟩
  have ttr : zk σ0 tr 3 := by rw [← etr]; exact hT.kr (hT.ref (hT.k t_x (by decide)) (by decide) (by decide) (by decide)) (by decide) (by decide)
  obtain ⟨rs5, ers5⟩ : ∃ z, kR κ x 5 = z := ⟨_, rfl⟩
  have trs5 : zk σ0 rs5 12 := by rw [← ers5]; exact hT.kr (hT.ref (hT.k t_x (by decide)) (by decide) (by decide) (by decide)) (by decide) (by decide)
  obtain ⟨sl0, esl0⟩ : ∃ z, kR κ rs5 0 = z := ⟨_, rfl⟩
  have tsl0 : zk σ0 sl0 3 := by rw [← esl0]; exact hT.kr (hT.ref (hT.k trs5 (by decide)) (by decide) (by decide) (by decide)) (by decide) (by decide)
  obtain ⟨sl1, esl1⟩ : ∃ z, kR κ rs5 1 = z := ⟨_, rfl⟩
  have tsl1 : zk σ0 sl1 3 := by rw [← esl1]; exact hT.kr (hT.ref (hT.k trs5 (by decide)) (by decide) (by decide) (by decide)) (by decide) (by decide)
  obtain ⟨rW, erW⟩ : ∃ z, kR κ mm 1 = z := ⟨_, rfl⟩
  have trW : zk σ0 rW 21 := by rw [← erW]; exact hT.kr (hT.ref (hT.k t_mm (by decide)) (by decide) (by decide) (by decide)) (by decide) (by decide)
  obtain ⟨rS, erS⟩ : ∃ z, kR κ mm 3 = z := ⟨_, rfl⟩
  have trS : zk σ0 rS 22 := by rw [← erS]; exact hT.kr (hT.ref (hT.k t_mm (by decide)) (by decide) (by decide) (by decide)) (by decide) (by decide)
  obtain ⟨so, eso⟩ : ∃ z, kR κ x 1 = z := ⟨_, rfl⟩
  have tso : zk σ0 so 4 := by rw [← eso]; exact hT.kr (hT.ref (hT.k t_x (by decide)) (by decide) (by decide) (by decide)) (by decide) (by decide)
  obtain ⟨qP, eqP⟩ : ∃ z, kR κ so 0 = z := ⟨_, rfl⟩
  have tqP : zk σ0 qP 8 := by rw [← eqP]; exact hT.kr (hT.ref (hT.k tso (by decide)) (by decide) (by decide) (by decide)) (by decide) (by decide)
  obtain ⟨qO, eqO⟩ : ∃ z, kR κ so 1 = z := ⟨_, rfl⟩
  have tqO : zk σ0 qO 16 := by rw [← eqO]; exact hT.kr (hT.ref (hT.k tso (by decide)) (by decide) (by decide) (by decide)) (by decide) (by decide)
  obtain ⟨r5, er5⟩ : ∃ z, kR κ mm 5 = z := ⟨_, rfl⟩
  have tr5 : zk σ0 r5 25 := by rw [← er5]; exact hT.kr (hT.ref (hT.k t_mm (by decide)) (by decide) (by decide) (by decide)) (by decide) (by decide)
  obtain ⟨r6, er6⟩ : ∃ z, kR κ mm 6 = z := ⟨_, rfl⟩
  have tr6 : zk σ0 r6 26 := by rw [← er6]; exact hT.kr (hT.ref (hT.k t_mm (by decide)) (by decide) (by decide) (by decide)) (by decide) (by decide)
  obtain ⟨hnw, hsl⟩ := hsr
  obtain ⟨hd1, ⟨hd2, hd3⟩, hd4, hd5, hd6, hd7⟩ := hdis
  have d_nt : nw ≠ tr := by rw [← enw, ← etr]; exact hd2
  have d_n0 : nw ≠ sl0 := by rw [← enw, ← esl0, ← ers5]; exact hd3 0 (by decide)
  have d_t0 : sl0 ≠ tr := by rw [← etr, ← esl0, ← ers5]; exact fun q => hd4 0 (by decide) q.symm
  have d_n1 : nw ≠ sl1 := by rw [← enw, ← esl1, ← ers5]; exact hd3 1 (by decide)
  have d_t1 : sl1 ≠ tr := by rw [← etr, ← esl1, ← ers5]; exact fun q => hd4 1 (by decide) q.symm
  have d_01 : sl0 ≠ sl1 := by rw [← esl0, ← esl1, ← ers5]; exact hd5
  have knw : zk σ nw 3 := hT.k tnw (by decide)
  have ksl0 : zk σ sl0 3 := hT.k tsl0 (by decide)
  have ksl1 : zk σ sl1 3 := hT.k tsl1 (by decide)
  have hw7 : (zI σ nw 7).toInt = (zJ σ rW 0).toInt := by rw [← enw, ← erW]; exact hnw.1
  have hb7 := Int32.le_toInt (zI σ nw 7)
  have hc7 := Int32.toInt_lt (zI σ nw 7)
  have hw8 : (zI σ nw 8).toInt = (zJ σ rW 1).toInt := by rw [← enw, ← erW]; exact hnw.2.1
  have hb8 := Int32.le_toInt (zI σ nw 8)
  have hc8 := Int32.toInt_lt (zI σ nw 8)
  have hw9 : (zI σ nw 9).toInt = (zJ σ rW 2).toInt := by rw [← enw, ← erW]; exact hnw.2.2
  have hb9 := Int32.le_toInt (zI σ nw 9)
  have hc9 := Int32.toInt_lt (zI σ nw 9)
  refine lv_aload_n hx hb dL_law_778 rfl (lv_at hl 3 rfl) ?_
  refine lv_aload_n hx hb dL_law_779 rfl (lv_at hl 4 rfl) ?_
  refine lv_iload hx hb dL_law_780 (lv_at hl 0 rfl) ?_
  refine lv_iconst (v := 1) hx hb dL_law_782 (by decide) ?_
  refine lv_iadd hx hb dL_law_783 ?_
  refine g_add (by omega) (by omega) (fun t1 ht1 => ?_)
  refine va_sld hx hb hXs hbl hbA hT.2.2.2 (g_in (by omega) (by omega)) dL_law_784 ?_
  refine ti y1 (by rw [hy1]; exact congrArg xs (show t1.toNatClampNeg = ix i + 1 from by show t1.toInt.toNat = ix i + 1; unfold ix; omega)) ?_
  refine lv_if_eq (tgt := 792) hx hb dL_law_785 (by decide) (fun c9 => ?_) (fun c9 => ?_)
  · have c7 := gi_eq c9
    refine lv_iconst (v := 0) hx hb dL_law_792 (by decide) ?_
    have hTo := hT
    refine tVi (n := 1) (As := [.int 0]) (rest := []) hx hb hml hown hg hT hK hX (X5t_setUpdate l κ σ x 0 (hT.k t_x (by decide)) isB0) sub_fSet_fA (mwV k510 k511 k512 k84 k513) ⟨rfl, by decide, by decide, by decide +kernel⟩ ⟨(Nat.le_of_ble_eq_true rfl), (Nat.le_of_ble_eq_true rfl)⟩ (hT.o7 (hT.k t_x (by decide))) rfl rfl hl.1 rfl (Nat.le_of_ble_eq_true rfl) dL_law_793 zx.dn (fun r3 s2 H locs hφ hE hT => ?_)
    obtain ⟨f4, f5, f6, f7, f8, f9⟩ := hφ
    have R10 := hR.ext hE ⟨rfl, rfl, fun _ => rfl, fun _ => rfl, fun _ => rfl, fun _ => rfl⟩
    have a11 : (zI s2 tx 1).toInt = (zI σ tx 1).toInt := by rw [(hTo.k ttx (by decide)).eI hE (by decide) rfl]
    have j12 : zI s2 rB = zI σ rB := (show zI s2 rB = zI σ rB from funext fun k => (hTo.k trB (by decide)).eI hE (by decide) rfl)
    have j13 : zI s2 rT = zI σ rT := (show zI s2 rT = zI σ rT from funext fun k => (hTo.k trT (by decide)).eI hE (by decide) rfl)
    have j14 : zI s2 rI = zI σ rI := (show zI s2 rI = zI σ rI from funext fun k => (hTo.k trI (by decide)).eI hE (by decide) rfl)
    have j15 : zI s2 rK = zI σ rK := (show zI s2 rK = zI σ rK from funext fun k => (hTo.k trK (by decide)).eI hE (by decide) rfl)
    have j16 : zI s2 tx 2 = zI σ tx 2 := (hTo.k ttx (by decide)).eI hE (by decide) rfl
    have j17 : zI s2 tx 3 = zI σ tx 3 := (hTo.k ttx (by decide)).eI hE (by decide) rfl
    have j18 : zI s2 mm 15 = zI σ mm 15 := (hTo.k t_mm (by decide)).eI hE (by decide) rfl
    have j19 : zI s2 mm 16 = zI σ mm 16 := (hTo.k t_mm (by decide)).eI hE (by decide) rfl
    have f89 := f8
    try rw [etr] at f89
    try rw [enw] at f89
    have n20 : zI s2 sl0 7 = zI σ sl0 7 ∧ zI s2 sl0 8 = zI σ sl0 8 ∧ zI s2 sl0 9 = zI σ sl0 9 := f89 sl0 (fun q => d_n0 q.symm) (hTo.k tsl0 (by decide))
    have n21 : zI s2 sl1 7 = zI σ sl1 7 ∧ zI s2 sl1 8 = zI σ sl1 8 ∧ zI s2 sl1 9 = zI σ sl1 9 := f89 sl1 (fun q => d_n1 q.symm) (hTo.k tsl1 (by decide))
    have n22 : ∀ j : Nat, j < 3 → zJ s2 rW j = zJ σ rW j := fun j hj => (hTo.k trW (by decide)).eJ hE (by decide) rfl
    have n23 : zJ s2 rS = zJ σ rS := (show zJ s2 rS = zJ σ rS from funext fun k => (hTo.k trS (by decide)).eJ hE (by decide) rfl)
    have z24 : zI s2 so 2 = zI σ so 2 ∧ zI s2 so 6 = zI σ so 6 ∧ zI s2 qP = zI σ qP ∧ zI s2 qO = zI σ qO := ⟨(hTo.k tso (by decide)).eI hE (by decide) rfl, (hTo.k tso (by decide)).eI hE (by decide) rfl, funext fun q9 => (hTo.k tqP (by decide)).eI hE (by decide) rfl, funext fun q9 => (hTo.k tqO (by decide)).eI hE (by decide) rfl⟩
    have z25 : zI s2 mm 7 = zI σ mm 7 ∧ zI s2 mm 8 = zI σ mm 8 ∧ zI s2 r5 = zI σ r5 ∧ zI s2 r6 = zI σ r6 := ⟨(hTo.k t_mm (by decide)).eI hE (by decide) rfl, (hTo.k t_mm (by decide)).eI hE (by decide) rfl, funext fun q9 => (hTo.k tr5 (by decide)).eI hE (by decide) rfl, funext fun q9 => (hTo.k tr6 (by decide)).eI hE (by decide) rfl⟩
    rw [enw] at f4
    rw [enw] at f5
    rw [enw] at f6
    rw [enw] at f7
    have as0 : r3.toInt = (zI σ nw 9).toInt := congrArg Int32.toInt f4
    have as9 := congrArg Int32.toInt f5
    have as7 := congrArg Int32.toInt f6
    have as8 := congrArg Int32.toInt f7
    have asb := isB_t f9
    have a26 : (zI s2 mm 13).toInt = (zI σ mm 13).toInt := by rw [(hTo.k t_mm (by decide)).eI hE (by decide) rfl]
    refine lv_pop hx hb dL_law_796 rfl ?_
    refine lv_aload_n hx hb dL_law_797 rfl (lv_at hl 2 rfl) ?_
    refine lv_aload_n hx hb dL_law_798 rfl (lv_at hl 4 rfl) ?_
    refine lv_iload hx hb dL_law_799 (lv_at hl 0 rfl) ?_
    refine lv_iconst (v := 1) hx hb dL_law_801 (by decide) ?_
    refine lv_iadd hx hb dL_law_802 ?_
    refine g_add (by omega) (by omega) (fun t27 ht27 => ?_)
    refine va_sld hx hb hXs hbl hbA hT.2.2.2 (g_in (by omega) (by omega)) dL_law_803 ?_
    refine ti y1 (by rw [hy1]; exact congrArg xs (show t27.toNatClampNeg = ix i + 1 from by show t27.toInt.toNat = ix i + 1; unfold ix; omega)) ?_
    refine lv_if_eq (tgt := 811) hx hb dL_law_804 (by decide) (fun c9 => ?_) (fun c9 => ?_)
    · have c7 := gi_eq c9
      refine lv_iconst (v := 0) hx hb dL_law_811 (by decide) ?_
      have hTo := hT
      refine tVi (n := 1) (As := [.int 0]) (rest := []) hx hb hml hown hg hT hK hX (X6_setUpdate l κ s2 mm 0 (hT.k t_mm (by decide)) isB0 R10 (by rw [show kR κ mm 1 = rW from erW, n22 2 (by decide)]; omega) (by rw [show kR κ mm 1 = rW from erW, n22 2 (by decide)]; omega)) sub_gXs_fA (mwV k1559 k1560 k1561 k92 k1562) ⟨rfl, by decide, by decide, by decide +kernel⟩ ⟨(Nat.le_of_ble_eq_true rfl), (Nat.le_of_ble_eq_true rfl)⟩ (hT.o20 (hT.k t_mm (by decide))) rfl rfl hl.1 rfl (Nat.le_of_ble_eq_true rfl) dL_law_812 zx.dn (fun r29 s28 H locs hφ hE hT => ?_)
      obtain ⟨f30, f31, f32, f33, f34, f35⟩ := hφ
      have a36 : (zI s28 tx 1).toInt = (zI s2 tx 1).toInt := by rw [(hTo.k ttx (by decide)).eI hE (by decide) rfl]
      have j37 : zI s28 rB = zI σ rB := ((show zI s28 rB = zI s2 rB from funext fun k => (hTo.k trB (by decide)).eI hE (by decide) rfl)).trans j12
      have j38 : zI s28 rT = zI σ rT := ((show zI s28 rT = zI s2 rT from funext fun k => (hTo.k trT (by decide)).eI hE (by decide) rfl)).trans j13
      have j39 : zI s28 rI = zI σ rI := ((show zI s28 rI = zI s2 rI from funext fun k => (hTo.k trI (by decide)).eI hE (by decide) rfl)).trans j14
      have j40 : zI s28 rK = zI σ rK := ((show zI s28 rK = zI s2 rK from funext fun k => (hTo.k trK (by decide)).eI hE (by decide) rfl)).trans j15
      have j41 : zI s28 tx 2 = zI σ tx 2 := ((hTo.k ttx (by decide)).eI hE (by decide) rfl).trans j16
      have j42 : zI s28 tx 3 = zI σ tx 3 := ((hTo.k ttx (by decide)).eI hE (by decide) rfl).trans j17
      have j43 : zI s28 mm 15 = zI σ mm 15 := ((hTo.k t_mm (by decide)).eI hE (by decide) rfl).trans j18
      have j44 : zI s28 mm 16 = zI σ mm 16 := ((hTo.k t_mm (by decide)).eI hE (by decide) rfl).trans j19
      have n45 : zI s28 nw 7 = zI s2 nw 7 ∧ zI s28 nw 8 = zI s2 nw 8 ∧ zI s28 nw 9 = zI s2 nw 9 := ⟨(hTo.k tnw (by decide)).eI hE (by decide) rfl, (hTo.k tnw (by decide)).eI hE (by decide) rfl, (hTo.k tnw (by decide)).eI hE (by decide) rfl⟩
      have n46 : zI s28 sl0 7 = zI s2 sl0 7 ∧ zI s28 sl0 8 = zI s2 sl0 8 ∧ zI s28 sl0 9 = zI s2 sl0 9 := ⟨(hTo.k tsl0 (by decide)).eI hE (by decide) rfl, (hTo.k tsl0 (by decide)).eI hE (by decide) rfl, (hTo.k tsl0 (by decide)).eI hE (by decide) rfl⟩
      have n47 : zI s28 sl0 7 = zI σ sl0 7 ∧ zI s28 sl0 8 = zI σ sl0 8 ∧ zI s28 sl0 9 = zI σ sl0 9 := ⟨n46.1.trans n20.1, n46.2.1.trans n20.2.1, n46.2.2.trans n20.2.2⟩
      have n48 : zI s28 sl1 7 = zI s2 sl1 7 ∧ zI s28 sl1 8 = zI s2 sl1 8 ∧ zI s28 sl1 9 = zI s2 sl1 9 := ⟨(hTo.k tsl1 (by decide)).eI hE (by decide) rfl, (hTo.k tsl1 (by decide)).eI hE (by decide) rfl, (hTo.k tsl1 (by decide)).eI hE (by decide) rfl⟩
      have n49 : zI s28 sl1 7 = zI σ sl1 7 ∧ zI s28 sl1 8 = zI σ sl1 8 ∧ zI s28 sl1 9 = zI σ sl1 9 := ⟨n48.1.trans n21.1, n48.2.1.trans n21.2.1, n48.2.2.trans n21.2.2⟩
      have n50 : zJ s28 rS = zJ σ rS := (show zJ s28 rS = zJ s2 rS from funext fun k => (hTo.k trS (by decide)).eJ hE (by decide) rfl).trans n23
      have z51 : zI s28 so 2 = zI s2 so 2 ∧ zI s28 so 6 = zI s2 so 6 ∧ zI s28 qP = zI s2 qP ∧ zI s28 qO = zI s2 qO := ⟨(hTo.k tso (by decide)).eI hE (by decide) rfl, (hTo.k tso (by decide)).eI hE (by decide) rfl, funext fun q9 => (hTo.k tqP (by decide)).eI hE (by decide) rfl, funext fun q9 => (hTo.k tqO (by decide)).eI hE (by decide) rfl⟩
      have z52 : zI s28 so 2 = zI σ so 2 ∧ zI s28 so 6 = zI σ so 6 ∧ zI s28 qP = zI σ qP ∧ zI s28 qO = zI σ qO := ⟨z51.1.trans z24.1, z51.2.1.trans z24.2.1, z51.2.2.1.trans z24.2.2.1, z51.2.2.2.trans z24.2.2.2⟩
      have z53 : zI s28 mm 7 = zI s2 mm 7 ∧ zI s28 mm 8 = zI s2 mm 8 ∧ zI s28 r5 = zI s2 r5 ∧ zI s28 r6 = zI s2 r6 := ⟨(hTo.k t_mm (by decide)).eI hE (by decide) rfl, (hTo.k t_mm (by decide)).eI hE (by decide) rfl, funext fun q9 => (hTo.k tr5 (by decide)).eI hE (by decide) rfl, funext fun q9 => (hTo.k tr6 (by decide)).eI hE (by decide) rfl⟩
      have z54 : zI s28 mm 7 = zI σ mm 7 ∧ zI s28 mm 8 = zI σ mm 8 ∧ zI s28 r5 = zI σ r5 ∧ zI s28 r6 = zI σ r6 := ⟨z53.1.trans z25.1, z53.2.1.trans z25.2.1, z53.2.2.1.trans z25.2.2.1, z53.2.2.2.trans z25.2.2.2⟩
      rw [show kR κ mm 1 = rW from erW] at f32
      rw [show kR κ mm 1 = rW from erW] at f33
      rw [show kR κ mm 1 = rW from erW] at f34
      have sz0 : (zJ s2 rW 0).toInt = (zJ σ rW 0).toInt := congrArg Int64.toInt (n22 0 (by decide))
      have sz1 : (zJ s2 rW 1).toInt = (zJ σ rW 1).toInt := congrArg Int64.toInt (n22 1 (by decide))
      have sz2 : (zJ s2 rW 2).toInt = (zJ σ rW 2).toInt := congrArg Int64.toInt (n22 2 (by decide))
      have at0 : (zJ s28 rW 0).toInt = (zJ s2 rW 0).toInt := congrArg Int64.toInt (f33 0 (by decide))
      have at1 : (zJ s28 rW 1).toInt = (zJ s2 rW 1).toInt := congrArg Int64.toInt (f33 1 (by decide))
      have a55 : (zI s28 mm 13).toInt = (zI s2 mm 13).toInt := by rw [(hTo.k t_mm (by decide)).eI hE (by decide) rfl]
      refine lv_pop hx hb dL_law_815 rfl ?_
      refine lv_goto (tgt := 1432) hx hb dL_law_816 (by decide) ?_
      have sl0f : zI s28 rI 0 ≠ 0 → SLT κ s28 x mm 0 := fun hq => (hsl 0 (by decide) (fun q9 => hq (by rw [erI] at q9; rw [j39]; exact q9))).tr (by rw [ers5, esl0]; exact n47) (fun j hj => by rw [erS, n50])
      have sl1f : zI s28 rI 1 ≠ 0 → SLT κ s28 x mm 1 := fun hq => (hsl 1 (by decide) (fun q9 => hq (by rw [erI] at q9; rw [j39]; exact q9))).tr (by rw [ers5, esl1]; exact n49) (fun j hj => by rw [erS, n50])
      have v7 := congrArg Int32.toInt n45.1
      have v8 := congrArg Int32.toInt n45.2.1
      have v9 := congrArg Int32.toInt n45.2.2
      exact KK s28 _ _ _ hT.up f30 ⟨by rw [etx]; omega, ⟨by rw [etx, erB, erT, j37, j38]; exact tal_less hal (by omega), by rw [erT, j38]; exact tnn_less hnn (by omega)⟩, ⟨by rw [etx, j41, j43]; exact hco, by rw [etx, j42, j44]; exact hpo⟩, fun i hi => by rw [erI, erK, j39, j40]; exact hkp i hi⟩ (⟨⟨by rw [enw, erW]; omega, by rw [enw, erW]; omega, by rw [enw, erW]; omega⟩, fun i hi => (show i = 0 ∨ i = 1 by omega).elim (fun e9 => by rw [e9, erI]; exact sl0f) (fun e9 => by rw [e9, erI]; exact sl1f)⟩) (hsm.tr (by rw [eso, eqP, eqO]; exact z52) (by rw [er5, er6]; exact z54)) (lv_sub hl [0, 1, 2, 3, 4] rfl)
    · have c7 := gi_ne c9
      refine lv_iconst (v := 1) hx hb dL_law_807 (by decide) ?_
      refine lv_goto (tgt := 812) hx hb dL_law_808 (by decide) ?_
      have hTo := hT
      refine tVi (n := 1) (As := [.int 1]) (rest := []) hx hb hml hown hg hT hK hX (X6_setUpdate l κ s2 mm 1 (hT.k t_mm (by decide)) isB1 R10 (by rw [show kR κ mm 1 = rW from erW, n22 2 (by decide)]; omega) (by rw [show kR κ mm 1 = rW from erW, n22 2 (by decide)]; omega)) sub_gXs_fA (mwV k1559 k1560 k1561 k92 k1562) ⟨rfl, by decide, by decide, by decide +kernel⟩ ⟨(Nat.le_of_ble_eq_true rfl), (Nat.le_of_ble_eq_true rfl)⟩ (hT.o20 (hT.k t_mm (by decide))) rfl rfl hl.1 rfl (Nat.le_of_ble_eq_true rfl) dL_law_812 zx.dn (fun r57 s56 H locs hφ hE hT => ?_)
      obtain ⟨f58, f59, f60, f61, f62, f63⟩ := hφ
      have a64 : (zI s56 tx 1).toInt = (zI s2 tx 1).toInt := by rw [(hTo.k ttx (by decide)).eI hE (by decide) rfl]
      have j65 : zI s56 rB = zI σ rB := ((show zI s56 rB = zI s2 rB from funext fun k => (hTo.k trB (by decide)).eI hE (by decide) rfl)).trans j12
      have j66 : zI s56 rT = zI σ rT := ((show zI s56 rT = zI s2 rT from funext fun k => (hTo.k trT (by decide)).eI hE (by decide) rfl)).trans j13
      have j67 : zI s56 rI = zI σ rI := ((show zI s56 rI = zI s2 rI from funext fun k => (hTo.k trI (by decide)).eI hE (by decide) rfl)).trans j14
      have j68 : zI s56 rK = zI σ rK := ((show zI s56 rK = zI s2 rK from funext fun k => (hTo.k trK (by decide)).eI hE (by decide) rfl)).trans j15
      have j69 : zI s56 tx 2 = zI σ tx 2 := ((hTo.k ttx (by decide)).eI hE (by decide) rfl).trans j16
      have j70 : zI s56 tx 3 = zI σ tx 3 := ((hTo.k ttx (by decide)).eI hE (by decide) rfl).trans j17
      have j71 : zI s56 mm 15 = zI σ mm 15 := ((hTo.k t_mm (by decide)).eI hE (by decide) rfl).trans j18
      have j72 : zI s56 mm 16 = zI σ mm 16 := ((hTo.k t_mm (by decide)).eI hE (by decide) rfl).trans j19
      have n73 : zI s56 nw 7 = zI s2 nw 7 ∧ zI s56 nw 8 = zI s2 nw 8 ∧ zI s56 nw 9 = zI s2 nw 9 := ⟨(hTo.k tnw (by decide)).eI hE (by decide) rfl, (hTo.k tnw (by decide)).eI hE (by decide) rfl, (hTo.k tnw (by decide)).eI hE (by decide) rfl⟩
      have n74 : zI s56 sl0 7 = zI s2 sl0 7 ∧ zI s56 sl0 8 = zI s2 sl0 8 ∧ zI s56 sl0 9 = zI s2 sl0 9 := ⟨(hTo.k tsl0 (by decide)).eI hE (by decide) rfl, (hTo.k tsl0 (by decide)).eI hE (by decide) rfl, (hTo.k tsl0 (by decide)).eI hE (by decide) rfl⟩
      have n75 : zI s56 sl0 7 = zI σ sl0 7 ∧ zI s56 sl0 8 = zI σ sl0 8 ∧ zI s56 sl0 9 = zI σ sl0 9 := ⟨n74.1.trans n20.1, n74.2.1.trans n20.2.1, n74.2.2.trans n20.2.2⟩
      have n76 : zI s56 sl1 7 = zI s2 sl1 7 ∧ zI s56 sl1 8 = zI s2 sl1 8 ∧ zI s56 sl1 9 = zI s2 sl1 9 := ⟨(hTo.k tsl1 (by decide)).eI hE (by decide) rfl, (hTo.k tsl1 (by decide)).eI hE (by decide) rfl, (hTo.k tsl1 (by decide)).eI hE (by decide) rfl⟩
      have n77 : zI s56 sl1 7 = zI σ sl1 7 ∧ zI s56 sl1 8 = zI σ sl1 8 ∧ zI s56 sl1 9 = zI σ sl1 9 := ⟨n76.1.trans n21.1, n76.2.1.trans n21.2.1, n76.2.2.trans n21.2.2⟩
      have n78 : zJ s56 rS = zJ σ rS := (show zJ s56 rS = zJ s2 rS from funext fun k => (hTo.k trS (by decide)).eJ hE (by decide) rfl).trans n23
      have z79 : zI s56 so 2 = zI s2 so 2 ∧ zI s56 so 6 = zI s2 so 6 ∧ zI s56 qP = zI s2 qP ∧ zI s56 qO = zI s2 qO := ⟨(hTo.k tso (by decide)).eI hE (by decide) rfl, (hTo.k tso (by decide)).eI hE (by decide) rfl, funext fun q9 => (hTo.k tqP (by decide)).eI hE (by decide) rfl, funext fun q9 => (hTo.k tqO (by decide)).eI hE (by decide) rfl⟩
      have z80 : zI s56 so 2 = zI σ so 2 ∧ zI s56 so 6 = zI σ so 6 ∧ zI s56 qP = zI σ qP ∧ zI s56 qO = zI σ qO := ⟨z79.1.trans z24.1, z79.2.1.trans z24.2.1, z79.2.2.1.trans z24.2.2.1, z79.2.2.2.trans z24.2.2.2⟩
      have z81 : zI s56 mm 7 = zI s2 mm 7 ∧ zI s56 mm 8 = zI s2 mm 8 ∧ zI s56 r5 = zI s2 r5 ∧ zI s56 r6 = zI s2 r6 := ⟨(hTo.k t_mm (by decide)).eI hE (by decide) rfl, (hTo.k t_mm (by decide)).eI hE (by decide) rfl, funext fun q9 => (hTo.k tr5 (by decide)).eI hE (by decide) rfl, funext fun q9 => (hTo.k tr6 (by decide)).eI hE (by decide) rfl⟩
      have z82 : zI s56 mm 7 = zI σ mm 7 ∧ zI s56 mm 8 = zI σ mm 8 ∧ zI s56 r5 = zI σ r5 ∧ zI s56 r6 = zI σ r6 := ⟨z81.1.trans z25.1, z81.2.1.trans z25.2.1, z81.2.2.1.trans z25.2.2.1, z81.2.2.2.trans z25.2.2.2⟩
      rw [show kR κ mm 1 = rW from erW] at f60
      rw [show kR κ mm 1 = rW from erW] at f61
      rw [show kR κ mm 1 = rW from erW] at f62
      have sz0 : (zJ s2 rW 0).toInt = (zJ σ rW 0).toInt := congrArg Int64.toInt (n22 0 (by decide))
      have sz1 : (zJ s2 rW 1).toInt = (zJ σ rW 1).toInt := congrArg Int64.toInt (n22 1 (by decide))
      have sz2 : (zJ s2 rW 2).toInt = (zJ σ rW 2).toInt := congrArg Int64.toInt (n22 2 (by decide))
      have at0 : (zJ s56 rW 0).toInt = (zJ s2 rW 0).toInt := congrArg Int64.toInt (f61 0 (by decide))
      have at1 : (zJ s56 rW 1).toInt = (zJ s2 rW 1).toInt := congrArg Int64.toInt (f61 1 (by decide))
      have a83 : (zI s56 mm 13).toInt = (zI s2 mm 13).toInt := by rw [(hTo.k t_mm (by decide)).eI hE (by decide) rfl]
      refine lv_pop hx hb dL_law_815 rfl ?_
      refine lv_goto (tgt := 1432) hx hb dL_law_816 (by decide) ?_
      have sl0f : zI s56 rI 0 ≠ 0 → SLT κ s56 x mm 0 := fun hq => (hsl 0 (by decide) (fun q9 => hq (by rw [erI] at q9; rw [j67]; exact q9))).tr (by rw [ers5, esl0]; exact n75) (fun j hj => by rw [erS, n78])
      have sl1f : zI s56 rI 1 ≠ 0 → SLT κ s56 x mm 1 := fun hq => (hsl 1 (by decide) (fun q9 => hq (by rw [erI] at q9; rw [j67]; exact q9))).tr (by rw [ers5, esl1]; exact n77) (fun j hj => by rw [erS, n78])
      have v7 := congrArg Int32.toInt n73.1
      have v8 := congrArg Int32.toInt n73.2.1
      have v9 := congrArg Int32.toInt n73.2.2
      exact KK s56 _ _ _ hT.up f58 ⟨by rw [etx]; omega, ⟨by rw [etx, erB, erT, j65, j66]; exact tal_less hal (by omega), by rw [erT, j66]; exact tnn_less hnn (by omega)⟩, ⟨by rw [etx, j69, j71]; exact hco, by rw [etx, j70, j72]; exact hpo⟩, fun i hi => by rw [erI, erK, j67, j68]; exact hkp i hi⟩ (⟨⟨by rw [enw, erW]; omega, by rw [enw, erW]; omega, by rw [enw, erW]; omega⟩, fun i hi => (show i = 0 ∨ i = 1 by omega).elim (fun e9 => by rw [e9, erI]; exact sl0f) (fun e9 => by rw [e9, erI]; exact sl1f)⟩) (hsm.tr (by rw [eso, eqP, eqO]; exact z80) (by rw [er5, er6]; exact z82)) (lv_sub hl [0, 1, 2, 3, 4] rfl)
  · have c7 := gi_ne c9
    refine lv_iconst (v := 1) hx hb dL_law_788 (by decide) ?_
    refine lv_goto (tgt := 793) hx hb dL_law_789 (by decide) ?_
    have hTo := hT
    refine tVi (n := 1) (As := [.int 1]) (rest := []) hx hb hml hown hg hT hK hX (X5t_setUpdate l κ σ x 1 (hT.k t_x (by decide)) isB1) sub_fSet_fA (mwV k510 k511 k512 k84 k513) ⟨rfl, by decide, by decide, by decide +kernel⟩ ⟨(Nat.le_of_ble_eq_true rfl), (Nat.le_of_ble_eq_true rfl)⟩ (hT.o7 (hT.k t_x (by decide))) rfl rfl hl.1 rfl (Nat.le_of_ble_eq_true rfl) dL_law_793 zx.dn (fun r85 s84 H locs hφ hE hT => ?_)
    obtain ⟨f86, f87, f88, f89, f90, f91⟩ := hφ
    have R92 := hR.ext hE ⟨rfl, rfl, fun _ => rfl, fun _ => rfl, fun _ => rfl, fun _ => rfl⟩
    have a93 : (zI s84 tx 1).toInt = (zI σ tx 1).toInt := by rw [(hTo.k ttx (by decide)).eI hE (by decide) rfl]
    have j94 : zI s84 rB = zI σ rB := (show zI s84 rB = zI σ rB from funext fun k => (hTo.k trB (by decide)).eI hE (by decide) rfl)
    have j95 : zI s84 rT = zI σ rT := (show zI s84 rT = zI σ rT from funext fun k => (hTo.k trT (by decide)).eI hE (by decide) rfl)
    have j96 : zI s84 rI = zI σ rI := (show zI s84 rI = zI σ rI from funext fun k => (hTo.k trI (by decide)).eI hE (by decide) rfl)
    have j97 : zI s84 rK = zI σ rK := (show zI s84 rK = zI σ rK from funext fun k => (hTo.k trK (by decide)).eI hE (by decide) rfl)
    have j98 : zI s84 tx 2 = zI σ tx 2 := (hTo.k ttx (by decide)).eI hE (by decide) rfl
    have j99 : zI s84 tx 3 = zI σ tx 3 := (hTo.k ttx (by decide)).eI hE (by decide) rfl
    have j100 : zI s84 mm 15 = zI σ mm 15 := (hTo.k t_mm (by decide)).eI hE (by decide) rfl
    have j101 : zI s84 mm 16 = zI σ mm 16 := (hTo.k t_mm (by decide)).eI hE (by decide) rfl
    have f909 := f90
    try rw [etr] at f909
    try rw [enw] at f909
    have n102 : zI s84 sl0 7 = zI σ sl0 7 ∧ zI s84 sl0 8 = zI σ sl0 8 ∧ zI s84 sl0 9 = zI σ sl0 9 := f909 sl0 (fun q => d_n0 q.symm) (hTo.k tsl0 (by decide))
    have n103 : zI s84 sl1 7 = zI σ sl1 7 ∧ zI s84 sl1 8 = zI σ sl1 8 ∧ zI s84 sl1 9 = zI σ sl1 9 := f909 sl1 (fun q => d_n1 q.symm) (hTo.k tsl1 (by decide))
    have n104 : ∀ j : Nat, j < 3 → zJ s84 rW j = zJ σ rW j := fun j hj => (hTo.k trW (by decide)).eJ hE (by decide) rfl
    have n105 : zJ s84 rS = zJ σ rS := (show zJ s84 rS = zJ σ rS from funext fun k => (hTo.k trS (by decide)).eJ hE (by decide) rfl)
    have z106 : zI s84 so 2 = zI σ so 2 ∧ zI s84 so 6 = zI σ so 6 ∧ zI s84 qP = zI σ qP ∧ zI s84 qO = zI σ qO := ⟨(hTo.k tso (by decide)).eI hE (by decide) rfl, (hTo.k tso (by decide)).eI hE (by decide) rfl, funext fun q9 => (hTo.k tqP (by decide)).eI hE (by decide) rfl, funext fun q9 => (hTo.k tqO (by decide)).eI hE (by decide) rfl⟩
    have z107 : zI s84 mm 7 = zI σ mm 7 ∧ zI s84 mm 8 = zI σ mm 8 ∧ zI s84 r5 = zI σ r5 ∧ zI s84 r6 = zI σ r6 := ⟨(hTo.k t_mm (by decide)).eI hE (by decide) rfl, (hTo.k t_mm (by decide)).eI hE (by decide) rfl, funext fun q9 => (hTo.k tr5 (by decide)).eI hE (by decide) rfl, funext fun q9 => (hTo.k tr6 (by decide)).eI hE (by decide) rfl⟩
    rw [enw] at f86
    rw [enw] at f87
    rw [enw] at f88
    rw [enw] at f89
    have as0 : r85.toInt = (zI σ nw 9).toInt := congrArg Int32.toInt f86
    have as9 := congrArg Int32.toInt f87
    have as7 := congrArg Int32.toInt f88
    have as8 := congrArg Int32.toInt f89
    have asb := isB_t f91
    have a108 : (zI s84 mm 13).toInt = (zI σ mm 13).toInt := by rw [(hTo.k t_mm (by decide)).eI hE (by decide) rfl]
    refine lv_pop hx hb dL_law_796 rfl ?_
    refine lv_aload_n hx hb dL_law_797 rfl (lv_at hl 2 rfl) ?_
    refine lv_aload_n hx hb dL_law_798 rfl (lv_at hl 4 rfl) ?_
    refine lv_iload hx hb dL_law_799 (lv_at hl 0 rfl) ?_
    refine lv_iconst (v := 1) hx hb dL_law_801 (by decide) ?_
    refine lv_iadd hx hb dL_law_802 ?_
    refine g_add (by omega) (by omega) (fun t109 ht109 => ?_)
    refine va_sld hx hb hXs hbl hbA hT.2.2.2 (g_in (by omega) (by omega)) dL_law_803 ?_
    refine ti y1 (by rw [hy1]; exact congrArg xs (show t109.toNatClampNeg = ix i + 1 from by show t109.toInt.toNat = ix i + 1; unfold ix; omega)) ?_
    refine lv_if_eq (tgt := 811) hx hb dL_law_804 (by decide) (fun c9 => ?_) (fun c9 => ?_)
    · have c7 := gi_eq c9
      refine lv_iconst (v := 0) hx hb dL_law_811 (by decide) ?_
      have hTo := hT
      refine tVi (n := 1) (As := [.int 0]) (rest := []) hx hb hml hown hg hT hK hX (X6_setUpdate l κ s84 mm 0 (hT.k t_mm (by decide)) isB0 R92 (by rw [show kR κ mm 1 = rW from erW, n104 2 (by decide)]; omega) (by rw [show kR κ mm 1 = rW from erW, n104 2 (by decide)]; omega)) sub_gXs_fA (mwV k1559 k1560 k1561 k92 k1562) ⟨rfl, by decide, by decide, by decide +kernel⟩ ⟨(Nat.le_of_ble_eq_true rfl), (Nat.le_of_ble_eq_true rfl)⟩ (hT.o20 (hT.k t_mm (by decide))) rfl rfl hl.1 rfl (Nat.le_of_ble_eq_true rfl) dL_law_812 zx.dn (fun r111 s110 H locs hφ hE hT => ?_)
      obtain ⟨f112, f113, f114, f115, f116, f117⟩ := hφ
      have a118 : (zI s110 tx 1).toInt = (zI s84 tx 1).toInt := by rw [(hTo.k ttx (by decide)).eI hE (by decide) rfl]
      have j119 : zI s110 rB = zI σ rB := ((show zI s110 rB = zI s84 rB from funext fun k => (hTo.k trB (by decide)).eI hE (by decide) rfl)).trans j94
      have j120 : zI s110 rT = zI σ rT := ((show zI s110 rT = zI s84 rT from funext fun k => (hTo.k trT (by decide)).eI hE (by decide) rfl)).trans j95
      have j121 : zI s110 rI = zI σ rI := ((show zI s110 rI = zI s84 rI from funext fun k => (hTo.k trI (by decide)).eI hE (by decide) rfl)).trans j96
      have j122 : zI s110 rK = zI σ rK := ((show zI s110 rK = zI s84 rK from funext fun k => (hTo.k trK (by decide)).eI hE (by decide) rfl)).trans j97
      have j123 : zI s110 tx 2 = zI σ tx 2 := ((hTo.k ttx (by decide)).eI hE (by decide) rfl).trans j98
      have j124 : zI s110 tx 3 = zI σ tx 3 := ((hTo.k ttx (by decide)).eI hE (by decide) rfl).trans j99
      have j125 : zI s110 mm 15 = zI σ mm 15 := ((hTo.k t_mm (by decide)).eI hE (by decide) rfl).trans j100
      have j126 : zI s110 mm 16 = zI σ mm 16 := ((hTo.k t_mm (by decide)).eI hE (by decide) rfl).trans j101
      have n127 : zI s110 nw 7 = zI s84 nw 7 ∧ zI s110 nw 8 = zI s84 nw 8 ∧ zI s110 nw 9 = zI s84 nw 9 := ⟨(hTo.k tnw (by decide)).eI hE (by decide) rfl, (hTo.k tnw (by decide)).eI hE (by decide) rfl, (hTo.k tnw (by decide)).eI hE (by decide) rfl⟩
      have n128 : zI s110 sl0 7 = zI s84 sl0 7 ∧ zI s110 sl0 8 = zI s84 sl0 8 ∧ zI s110 sl0 9 = zI s84 sl0 9 := ⟨(hTo.k tsl0 (by decide)).eI hE (by decide) rfl, (hTo.k tsl0 (by decide)).eI hE (by decide) rfl, (hTo.k tsl0 (by decide)).eI hE (by decide) rfl⟩
      have n129 : zI s110 sl0 7 = zI σ sl0 7 ∧ zI s110 sl0 8 = zI σ sl0 8 ∧ zI s110 sl0 9 = zI σ sl0 9 := ⟨n128.1.trans n102.1, n128.2.1.trans n102.2.1, n128.2.2.trans n102.2.2⟩
      have n130 : zI s110 sl1 7 = zI s84 sl1 7 ∧ zI s110 sl1 8 = zI s84 sl1 8 ∧ zI s110 sl1 9 = zI s84 sl1 9 := ⟨(hTo.k tsl1 (by decide)).eI hE (by decide) rfl, (hTo.k tsl1 (by decide)).eI hE (by decide) rfl, (hTo.k tsl1 (by decide)).eI hE (by decide) rfl⟩
      have n131 : zI s110 sl1 7 = zI σ sl1 7 ∧ zI s110 sl1 8 = zI σ sl1 8 ∧ zI s110 sl1 9 = zI σ sl1 9 := ⟨n130.1.trans n103.1, n130.2.1.trans n103.2.1, n130.2.2.trans n103.2.2⟩
      have n132 : zJ s110 rS = zJ σ rS := (show zJ s110 rS = zJ s84 rS from funext fun k => (hTo.k trS (by decide)).eJ hE (by decide) rfl).trans n105
      have z133 : zI s110 so 2 = zI s84 so 2 ∧ zI s110 so 6 = zI s84 so 6 ∧ zI s110 qP = zI s84 qP ∧ zI s110 qO = zI s84 qO := ⟨(hTo.k tso (by decide)).eI hE (by decide) rfl, (hTo.k tso (by decide)).eI hE (by decide) rfl, funext fun q9 => (hTo.k tqP (by decide)).eI hE (by decide) rfl, funext fun q9 => (hTo.k tqO (by decide)).eI hE (by decide) rfl⟩
      have z134 : zI s110 so 2 = zI σ so 2 ∧ zI s110 so 6 = zI σ so 6 ∧ zI s110 qP = zI σ qP ∧ zI s110 qO = zI σ qO := ⟨z133.1.trans z106.1, z133.2.1.trans z106.2.1, z133.2.2.1.trans z106.2.2.1, z133.2.2.2.trans z106.2.2.2⟩
      have z135 : zI s110 mm 7 = zI s84 mm 7 ∧ zI s110 mm 8 = zI s84 mm 8 ∧ zI s110 r5 = zI s84 r5 ∧ zI s110 r6 = zI s84 r6 := ⟨(hTo.k t_mm (by decide)).eI hE (by decide) rfl, (hTo.k t_mm (by decide)).eI hE (by decide) rfl, funext fun q9 => (hTo.k tr5 (by decide)).eI hE (by decide) rfl, funext fun q9 => (hTo.k tr6 (by decide)).eI hE (by decide) rfl⟩
      have z136 : zI s110 mm 7 = zI σ mm 7 ∧ zI s110 mm 8 = zI σ mm 8 ∧ zI s110 r5 = zI σ r5 ∧ zI s110 r6 = zI σ r6 := ⟨z135.1.trans z107.1, z135.2.1.trans z107.2.1, z135.2.2.1.trans z107.2.2.1, z135.2.2.2.trans z107.2.2.2⟩
      rw [show kR κ mm 1 = rW from erW] at f114
      rw [show kR κ mm 1 = rW from erW] at f115
      rw [show kR κ mm 1 = rW from erW] at f116
      have sz0 : (zJ s84 rW 0).toInt = (zJ σ rW 0).toInt := congrArg Int64.toInt (n104 0 (by decide))
      have sz1 : (zJ s84 rW 1).toInt = (zJ σ rW 1).toInt := congrArg Int64.toInt (n104 1 (by decide))
      have sz2 : (zJ s84 rW 2).toInt = (zJ σ rW 2).toInt := congrArg Int64.toInt (n104 2 (by decide))
      have at0 : (zJ s110 rW 0).toInt = (zJ s84 rW 0).toInt := congrArg Int64.toInt (f115 0 (by decide))
      have at1 : (zJ s110 rW 1).toInt = (zJ s84 rW 1).toInt := congrArg Int64.toInt (f115 1 (by decide))
      have a137 : (zI s110 mm 13).toInt = (zI s84 mm 13).toInt := by rw [(hTo.k t_mm (by decide)).eI hE (by decide) rfl]
      refine lv_pop hx hb dL_law_815 rfl ?_
      refine lv_goto (tgt := 1432) hx hb dL_law_816 (by decide) ?_
      have sl0f : zI s110 rI 0 ≠ 0 → SLT κ s110 x mm 0 := fun hq => (hsl 0 (by decide) (fun q9 => hq (by rw [erI] at q9; rw [j121]; exact q9))).tr (by rw [ers5, esl0]; exact n129) (fun j hj => by rw [erS, n132])
      have sl1f : zI s110 rI 1 ≠ 0 → SLT κ s110 x mm 1 := fun hq => (hsl 1 (by decide) (fun q9 => hq (by rw [erI] at q9; rw [j121]; exact q9))).tr (by rw [ers5, esl1]; exact n131) (fun j hj => by rw [erS, n132])
      have v7 := congrArg Int32.toInt n127.1
      have v8 := congrArg Int32.toInt n127.2.1
      have v9 := congrArg Int32.toInt n127.2.2
      exact KK s110 _ _ _ hT.up f112 ⟨by rw [etx]; omega, ⟨by rw [etx, erB, erT, j119, j120]; exact tal_less hal (by omega), by rw [erT, j120]; exact tnn_less hnn (by omega)⟩, ⟨by rw [etx, j123, j125]; exact hco, by rw [etx, j124, j126]; exact hpo⟩, fun i hi => by rw [erI, erK, j121, j122]; exact hkp i hi⟩ (⟨⟨by rw [enw, erW]; omega, by rw [enw, erW]; omega, by rw [enw, erW]; omega⟩, fun i hi => (show i = 0 ∨ i = 1 by omega).elim (fun e9 => by rw [e9, erI]; exact sl0f) (fun e9 => by rw [e9, erI]; exact sl1f)⟩) (hsm.tr (by rw [eso, eqP, eqO]; exact z134) (by rw [er5, er6]; exact z136)) (lv_sub hl [0, 1, 2, 3, 4] rfl)
    · have c7 := gi_ne c9
      refine lv_iconst (v := 1) hx hb dL_law_807 (by decide) ?_
      refine lv_goto (tgt := 812) hx hb dL_law_808 (by decide) ?_
      have hTo := hT
      refine tVi (n := 1) (As := [.int 1]) (rest := []) hx hb hml hown hg hT hK hX (X6_setUpdate l κ s84 mm 1 (hT.k t_mm (by decide)) isB1 R92 (by rw [show kR κ mm 1 = rW from erW, n104 2 (by decide)]; omega) (by rw [show kR κ mm 1 = rW from erW, n104 2 (by decide)]; omega)) sub_gXs_fA (mwV k1559 k1560 k1561 k92 k1562) ⟨rfl, by decide, by decide, by decide +kernel⟩ ⟨(Nat.le_of_ble_eq_true rfl), (Nat.le_of_ble_eq_true rfl)⟩ (hT.o20 (hT.k t_mm (by decide))) rfl rfl hl.1 rfl (Nat.le_of_ble_eq_true rfl) dL_law_812 zx.dn (fun r139 s138 H locs hφ hE hT => ?_)
      obtain ⟨f140, f141, f142, f143, f144, f145⟩ := hφ
      have a146 : (zI s138 tx 1).toInt = (zI s84 tx 1).toInt := by rw [(hTo.k ttx (by decide)).eI hE (by decide) rfl]
      have j147 : zI s138 rB = zI σ rB := ((show zI s138 rB = zI s84 rB from funext fun k => (hTo.k trB (by decide)).eI hE (by decide) rfl)).trans j94
      have j148 : zI s138 rT = zI σ rT := ((show zI s138 rT = zI s84 rT from funext fun k => (hTo.k trT (by decide)).eI hE (by decide) rfl)).trans j95
      have j149 : zI s138 rI = zI σ rI := ((show zI s138 rI = zI s84 rI from funext fun k => (hTo.k trI (by decide)).eI hE (by decide) rfl)).trans j96
      have j150 : zI s138 rK = zI σ rK := ((show zI s138 rK = zI s84 rK from funext fun k => (hTo.k trK (by decide)).eI hE (by decide) rfl)).trans j97
      have j151 : zI s138 tx 2 = zI σ tx 2 := ((hTo.k ttx (by decide)).eI hE (by decide) rfl).trans j98
      have j152 : zI s138 tx 3 = zI σ tx 3 := ((hTo.k ttx (by decide)).eI hE (by decide) rfl).trans j99
      have j153 : zI s138 mm 15 = zI σ mm 15 := ((hTo.k t_mm (by decide)).eI hE (by decide) rfl).trans j100
      have j154 : zI s138 mm 16 = zI σ mm 16 := ((hTo.k t_mm (by decide)).eI hE (by decide) rfl).trans j101
      have n155 : zI s138 nw 7 = zI s84 nw 7 ∧ zI s138 nw 8 = zI s84 nw 8 ∧ zI s138 nw 9 = zI s84 nw 9 := ⟨(hTo.k tnw (by decide)).eI hE (by decide) rfl, (hTo.k tnw (by decide)).eI hE (by decide) rfl, (hTo.k tnw (by decide)).eI hE (by decide) rfl⟩
      have n156 : zI s138 sl0 7 = zI s84 sl0 7 ∧ zI s138 sl0 8 = zI s84 sl0 8 ∧ zI s138 sl0 9 = zI s84 sl0 9 := ⟨(hTo.k tsl0 (by decide)).eI hE (by decide) rfl, (hTo.k tsl0 (by decide)).eI hE (by decide) rfl, (hTo.k tsl0 (by decide)).eI hE (by decide) rfl⟩
      have n157 : zI s138 sl0 7 = zI σ sl0 7 ∧ zI s138 sl0 8 = zI σ sl0 8 ∧ zI s138 sl0 9 = zI σ sl0 9 := ⟨n156.1.trans n102.1, n156.2.1.trans n102.2.1, n156.2.2.trans n102.2.2⟩
      have n158 : zI s138 sl1 7 = zI s84 sl1 7 ∧ zI s138 sl1 8 = zI s84 sl1 8 ∧ zI s138 sl1 9 = zI s84 sl1 9 := ⟨(hTo.k tsl1 (by decide)).eI hE (by decide) rfl, (hTo.k tsl1 (by decide)).eI hE (by decide) rfl, (hTo.k tsl1 (by decide)).eI hE (by decide) rfl⟩
      have n159 : zI s138 sl1 7 = zI σ sl1 7 ∧ zI s138 sl1 8 = zI σ sl1 8 ∧ zI s138 sl1 9 = zI σ sl1 9 := ⟨n158.1.trans n103.1, n158.2.1.trans n103.2.1, n158.2.2.trans n103.2.2⟩
      have n160 : zJ s138 rS = zJ σ rS := (show zJ s138 rS = zJ s84 rS from funext fun k => (hTo.k trS (by decide)).eJ hE (by decide) rfl).trans n105
      have z161 : zI s138 so 2 = zI s84 so 2 ∧ zI s138 so 6 = zI s84 so 6 ∧ zI s138 qP = zI s84 qP ∧ zI s138 qO = zI s84 qO := ⟨(hTo.k tso (by decide)).eI hE (by decide) rfl, (hTo.k tso (by decide)).eI hE (by decide) rfl, funext fun q9 => (hTo.k tqP (by decide)).eI hE (by decide) rfl, funext fun q9 => (hTo.k tqO (by decide)).eI hE (by decide) rfl⟩
      have z162 : zI s138 so 2 = zI σ so 2 ∧ zI s138 so 6 = zI σ so 6 ∧ zI s138 qP = zI σ qP ∧ zI s138 qO = zI σ qO := ⟨z161.1.trans z106.1, z161.2.1.trans z106.2.1, z161.2.2.1.trans z106.2.2.1, z161.2.2.2.trans z106.2.2.2⟩
      have z163 : zI s138 mm 7 = zI s84 mm 7 ∧ zI s138 mm 8 = zI s84 mm 8 ∧ zI s138 r5 = zI s84 r5 ∧ zI s138 r6 = zI s84 r6 := ⟨(hTo.k t_mm (by decide)).eI hE (by decide) rfl, (hTo.k t_mm (by decide)).eI hE (by decide) rfl, funext fun q9 => (hTo.k tr5 (by decide)).eI hE (by decide) rfl, funext fun q9 => (hTo.k tr6 (by decide)).eI hE (by decide) rfl⟩
      have z164 : zI s138 mm 7 = zI σ mm 7 ∧ zI s138 mm 8 = zI σ mm 8 ∧ zI s138 r5 = zI σ r5 ∧ zI s138 r6 = zI σ r6 := ⟨z163.1.trans z107.1, z163.2.1.trans z107.2.1, z163.2.2.1.trans z107.2.2.1, z163.2.2.2.trans z107.2.2.2⟩
      rw [show kR κ mm 1 = rW from erW] at f142
      rw [show kR κ mm 1 = rW from erW] at f143
      rw [show kR κ mm 1 = rW from erW] at f144
      have sz0 : (zJ s84 rW 0).toInt = (zJ σ rW 0).toInt := congrArg Int64.toInt (n104 0 (by decide))
      have sz1 : (zJ s84 rW 1).toInt = (zJ σ rW 1).toInt := congrArg Int64.toInt (n104 1 (by decide))
      have sz2 : (zJ s84 rW 2).toInt = (zJ σ rW 2).toInt := congrArg Int64.toInt (n104 2 (by decide))
      have at0 : (zJ s138 rW 0).toInt = (zJ s84 rW 0).toInt := congrArg Int64.toInt (f143 0 (by decide))
      have at1 : (zJ s138 rW 1).toInt = (zJ s84 rW 1).toInt := congrArg Int64.toInt (f143 1 (by decide))
      have a165 : (zI s138 mm 13).toInt = (zI s84 mm 13).toInt := by rw [(hTo.k t_mm (by decide)).eI hE (by decide) rfl]
      refine lv_pop hx hb dL_law_815 rfl ?_
      refine lv_goto (tgt := 1432) hx hb dL_law_816 (by decide) ?_
      have sl0f : zI s138 rI 0 ≠ 0 → SLT κ s138 x mm 0 := fun hq => (hsl 0 (by decide) (fun q9 => hq (by rw [erI] at q9; rw [j149]; exact q9))).tr (by rw [ers5, esl0]; exact n157) (fun j hj => by rw [erS, n160])
      have sl1f : zI s138 rI 1 ≠ 0 → SLT κ s138 x mm 1 := fun hq => (hsl 1 (by decide) (fun q9 => hq (by rw [erI] at q9; rw [j149]; exact q9))).tr (by rw [ers5, esl1]; exact n159) (fun j hj => by rw [erS, n160])
      have v7 := congrArg Int32.toInt n155.1
      have v8 := congrArg Int32.toInt n155.2.1
      have v9 := congrArg Int32.toInt n155.2.2
      exact KK s138 _ _ _ hT.up f140 ⟨by rw [etx]; omega, ⟨by rw [etx, erB, erT, j147, j148]; exact tal_less hal (by omega), by rw [erT, j148]; exact tnn_less hnn (by omega)⟩, ⟨by rw [etx, j151, j153]; exact hco, by rw [etx, j152, j154]; exact hpo⟩, fun i hi => by rw [erI, erK, j149, j150]; exact hkp i hi⟩ (⟨⟨by rw [enw, erW]; omega, by rw [enw, erW]; omega, by rw [enw, erW]; omega⟩, fun i hi => (show i = 0 ∨ i = 1 by omega).elim (fun e9 => by rw [e9, erI]; exact sl0f) (fun e9 => by rw [e9, erI]; exact sl1f)⟩) (hsm.tr (by rw [eso, eqP, eqO]; exact z162) (by rw [er5, er6]; exact z164)) (lv_sub hl [0, 1, 2, 3, 4] rfl)
