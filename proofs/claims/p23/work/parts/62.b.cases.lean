/-! The law, a row a case: more -/
theorem sub_fSet_fA : ∀ t k, fA t k = false → fSet t k = false := by
  intro t k h
  simp [fSet, fA] at h ⊢ <;> omega
theorem sub_fW_fA : ∀ t k, fA t k = false → fW t k = false := by
  intro t k h
  simp [fW, fA] at h ⊢ <;> omega
theorem sub_gTr_fA : ∀ t k, fA t k = false → gTr t k = false := by
  intro t k h
  simp [gTr, fA] at h ⊢ <;> omega
theorem sub_hfE_fA : ∀ t k, fA t k = false → hfE t k = false := by
  intro t k h
  simp [hfE, fA] at h ⊢ <;> omega
theorem sub_hfSet_fA : ∀ t k, fA t k = false → hfSet t k = false := by
  intro t k h
  simp [hfSet, fA] at h ⊢ <;> omega
theorem sub_hfTr_fA : ∀ t k, fA t k = false → hfTr t k = false := by
  intro t k h
  simp [hfTr, fA] at h ⊢ <;> omega
theorem sub_hfW_fA : ∀ t k, fA t k = false → hfW t k = false := by
  intro t k h
  simp [hfW, fA] at h ⊢ <;> omega
theorem k431 : Cond.methodLink RL 159 yX5_integral ∈ GW := gm 431 (by decide +kernel) (by decide +kernel)
theorem k432 : Cond.instanceMethod yX5_integral ∈ GW := gm 432 (by decide +kernel) (by decide +kernel)
theorem k433 : Cond.selects RX5 yX5_integral yX5_integral ∈ GW := gm 433 (by decide +kernel) (by decide +kernel)
theorem k434 : Cond.code yX5_integral cX5_integral 1 (some .long) ∈ GW := gm 434 (by decide +kernel) (by decide +kernel)
theorem k447 : Cond.methodLink RL 164 yX5_drift ∈ GW := gm 447 (by decide +kernel) (by decide +kernel)
theorem k448 : Cond.instanceMethod yX5_drift ∈ GW := gm 448 (by decide +kernel) (by decide +kernel)
theorem k449 : Cond.selects RX5 yX5_drift yX5_drift ∈ GW := gm 449 (by decide +kernel) (by decide +kernel)
theorem k450 : Cond.code yX5_drift cX5_drift 1 (some .long) ∈ GW := gm 450 (by decide +kernel) (by decide +kernel)
theorem k463 : Cond.methodLink RL 171 yX5_plainMean ∈ GW := gm 463 (by decide +kernel) (by decide +kernel)
theorem k464 : Cond.instanceMethod yX5_plainMean ∈ GW := gm 464 (by decide +kernel) (by decide +kernel)
theorem k465 : Cond.selects RX5 yX5_plainMean yX5_plainMean ∈ GW := gm 465 (by decide +kernel) (by decide +kernel)
theorem k466 : Cond.code yX5_plainMean cX5_plainMean 1 (some .double) ∈ GW := gm 466 (by decide +kernel) (by decide +kernel)
theorem k492 : Cond.methodLink RL 176 yX5_energy ∈ GW := gm 492 (by decide +kernel) (by decide +kernel)
theorem k493 : Cond.instanceMethod yX5_energy ∈ GW := gm 493 (by decide +kernel) (by decide +kernel)
theorem k494 : Cond.selects RX5 yX5_energy yX5_energy ∈ GW := gm 494 (by decide +kernel) (by decide +kernel)
theorem k495 : Cond.code yX5_energy cX5_energy 1 (some .long) ∈ GW := gm 495 (by decide +kernel) (by decide +kernel)
theorem k501 : Cond.methodLink RL 180 yX5_bits ∈ GW := gm 501 (by decide +kernel) (by decide +kernel)
theorem k502 : Cond.instanceMethod yX5_bits ∈ GW := gm 502 (by decide +kernel) (by decide +kernel)
theorem k503 : Cond.selects RX5 yX5_bits yX5_bits ∈ GW := gm 503 (by decide +kernel) (by decide +kernel)
theorem k504 : Cond.code yX5_bits cX5_bits 1 (some .int) ∈ GW := gm 504 (by decide +kernel) (by decide +kernel)
theorem k510 : Cond.methodLink RL 196 yX5_setUpdate ∈ GW := gm 510 (by decide +kernel) (by decide +kernel)
theorem k511 : Cond.instanceMethod yX5_setUpdate ∈ GW := gm 511 (by decide +kernel) (by decide +kernel)
theorem k512 : Cond.selects RX5 yX5_setUpdate yX5_setUpdate ∈ GW := gm 512 (by decide +kernel) (by decide +kernel)
theorem k513 : Cond.code yX5_setUpdate cX5_setUpdate 3 (some .boolean) ∈ GW := gm 513 (by decide +kernel) (by decide +kernel)
theorem k602 : Cond.methodLink RL 121 yL_truncate ∈ GW := gm 602 (by decide +kernel) (by decide +kernel)
theorem k603 : Cond.static yL_truncate ∈ GW := gm 603 (by decide +kernel) (by decide +kernel)
theorem k604 : Cond.codeWith yL_truncate cL_truncate 4 (some .int) [(0, 9, 12, 13)] ∈ GW := gm 604 (by decide +kernel) (by decide +kernel)
theorem k834 : Cond.methodLink RL 139 yL_count ∈ GW := gm 834 (by decide +kernel) (by decide +kernel)
theorem k835 : Cond.static yL_count ∈ GW := gm 835 (by decide +kernel) (by decide +kernel)
theorem k836 : Cond.codeWith yL_count cL_count 4 (some .int) [(0, 9, 12, 19)] ∈ GW := gm 836 (by decide +kernel) (by decide +kernel)
theorem k854 : Cond.methodLink RL 142 yL_sample ∈ GW := gm 854 (by decide +kernel) (by decide +kernel)
theorem k855 : Cond.static yL_sample ∈ GW := gm 855 (by decide +kernel) (by decide +kernel)
theorem k856 : Cond.codeWith yL_sample cL_sample 5 (some .int) [(0, 9, 12, 13), (0, 9, 16, 19)] ∈ GW := gm 856 (by decide +kernel) (by decide +kernel)
theorem k863 : Cond.methodLink RL 146 yL_present ∈ GW := gm 863 (by decide +kernel) (by decide +kernel)
theorem k864 : Cond.static yL_present ∈ GW := gm 864 (by decide +kernel) (by decide +kernel)
theorem k865 : Cond.codeWith yL_present cL_present 4 (some .int) [(0, 9, 12, 13)] ∈ GW := gm 865 (by decide +kernel) (by decide +kernel)
theorem k874 : Cond.methodLink RL 149 yL_neighbour ∈ GW := gm 874 (by decide +kernel) (by decide +kernel)
theorem k875 : Cond.static yL_neighbour ∈ GW := gm 875 (by decide +kernel) (by decide +kernel)
theorem k876 : Cond.codeWith yL_neighbour cL_neighbour 5 (some .int) [(0, 10, 13, 13)] ∈ GW := gm 876 (by decide +kernel) (by decide +kernel)
theorem k883 : Cond.methodLink RL 153 yL_step ∈ GW := gm 883 (by decide +kernel) (by decide +kernel)
theorem k884 : Cond.static yL_step ∈ GW := gm 884 (by decide +kernel) (by decide +kernel)
theorem k885 : Cond.codeWith yL_step cL_step 5 (some .int) [(0, 9, 12, 13), (0, 9, 16, 19)] ∈ GW := gm 885 (by decide +kernel) (by decide +kernel)
theorem k890 : Cond.methodLink RL 156 yL_valueAt ∈ GW := gm 890 (by decide +kernel) (by decide +kernel)
theorem k891 : Cond.static yL_valueAt ∈ GW := gm 891 (by decide +kernel) (by decide +kernel)
theorem k892 : Cond.codeWith yL_valueAt cL_valueAt 4 (some .int) [(0, 8, 11, 13)] ∈ GW := gm 892 (by decide +kernel) (by decide +kernel)
theorem k902 : Cond.methodLink RL 168 yL_mean ∈ GW := gm 902 (by decide +kernel) (by decide +kernel)
theorem k903 : Cond.static yL_mean ∈ GW := gm 903 (by decide +kernel) (by decide +kernel)
theorem k904 : Cond.codeWith yL_mean cL_mean 4 (some .int) [(0, 8, 11, 19)] ∈ GW := gm 904 (by decide +kernel) (by decide +kernel)
theorem k927 : Cond.methodLink RL 184 yL_largest ∈ GW := gm 927 (by decide +kernel) (by decide +kernel)
theorem k928 : Cond.static yL_largest ∈ GW := gm 928 (by decide +kernel) (by decide +kernel)
theorem k929 : Cond.codeWith yL_largest cL_largest 4 (some .int) [(0, 9, 12, 13)] ∈ GW := gm 929 (by decide +kernel) (by decide +kernel)
theorem k942 : Cond.methodLink RL 187 yL_next ∈ GW := gm 942 (by decide +kernel) (by decide +kernel)
theorem k943 : Cond.static yL_next ∈ GW := gm 943 (by decide +kernel) (by decide +kernel)
theorem k944 : Cond.codeWith yL_next cL_next 3 (some .int) [(0, 8, 11, 51)] ∈ GW := gm 944 (by decide +kernel) (by decide +kernel)
theorem k967 : Cond.methodLink RL 190 yL_setSplit ∈ GW := gm 967 (by decide +kernel) (by decide +kernel)
theorem k968 : Cond.static yL_setSplit ∈ GW := gm 968 (by decide +kernel) (by decide +kernel)
theorem k969 : Cond.codeWith yL_setSplit cL_setSplit 4 (some .int) [(0, 9, 12, 19)] ∈ GW := gm 969 (by decide +kernel) (by decide +kernel)
theorem k974 : Cond.methodLink RL 193 yL_setPredict ∈ GW := gm 974 (by decide +kernel) (by decide +kernel)
theorem k975 : Cond.static yL_setPredict ∈ GW := gm 975 (by decide +kernel) (by decide +kernel)
theorem k976 : Cond.codeWith yL_setPredict cL_setPredict 4 (some .int) [(0, 9, 12, 19)] ∈ GW := gm 976 (by decide +kernel) (by decide +kernel)
theorem k1309 : Cond.methodLink RL 126 yX6_truncate ∈ GW := gm 1309 (by decide +kernel) (by decide +kernel)
theorem k1310 : Cond.instanceMethod yX6_truncate ∈ GW := gm 1310 (by decide +kernel) (by decide +kernel)
theorem k1311 : Cond.selects RX6 yX6_truncate yX6_truncate ∈ GW := gm 1311 (by decide +kernel) (by decide +kernel)
theorem k1312 : Cond.code yX6_truncate cX6_truncate 2 (some .int) ∈ GW := gm 1312 (by decide +kernel) (by decide +kernel)
theorem k1403 : Cond.methodLink RL 141 yX6_count ∈ GW := gm 1403 (by decide +kernel) (by decide +kernel)
theorem k1404 : Cond.instanceMethod yX6_count ∈ GW := gm 1404 (by decide +kernel) (by decide +kernel)
theorem k1405 : Cond.selects RX6 yX6_count yX6_count ∈ GW := gm 1405 (by decide +kernel) (by decide +kernel)
theorem k1406 : Cond.code yX6_count cX6_count 2 (some .int) ∈ GW := gm 1406 (by decide +kernel) (by decide +kernel)
theorem k1432 : Cond.methodLink RL 145 yX6_sample ∈ GW := gm 1432 (by decide +kernel) (by decide +kernel)
theorem k1433 : Cond.instanceMethod yX6_sample ∈ GW := gm 1433 (by decide +kernel) (by decide +kernel)
theorem k1434 : Cond.selects RX6 yX6_sample yX6_sample ∈ GW := gm 1434 (by decide +kernel) (by decide +kernel)
theorem k1435 : Cond.code yX6_sample cX6_sample 3 (some .long) ∈ GW := gm 1435 (by decide +kernel) (by decide +kernel)
theorem k1441 : Cond.methodLink RL 148 yX6_present ∈ GW := gm 1441 (by decide +kernel) (by decide +kernel)
theorem k1442 : Cond.instanceMethod yX6_present ∈ GW := gm 1442 (by decide +kernel) (by decide +kernel)
theorem k1443 : Cond.selects RX6 yX6_present yX6_present ∈ GW := gm 1443 (by decide +kernel) (by decide +kernel)
theorem k1444 : Cond.code yX6_present cX6_present 4 (some .int) ∈ GW := gm 1444 (by decide +kernel) (by decide +kernel)
theorem k1449 : Cond.methodLink RL 152 yX6_neighbour ∈ GW := gm 1449 (by decide +kernel) (by decide +kernel)
theorem k1450 : Cond.instanceMethod yX6_neighbour ∈ GW := gm 1450 (by decide +kernel) (by decide +kernel)
theorem k1451 : Cond.selects RX6 yX6_neighbour yX6_neighbour ∈ GW := gm 1451 (by decide +kernel) (by decide +kernel)
theorem k1452 : Cond.code yX6_neighbour cX6_neighbour 3 (some .int) ∈ GW := gm 1452 (by decide +kernel) (by decide +kernel)
theorem k1453 : Cond.methodLink RL 155 yX6_step ∈ GW := gm 1453 (by decide +kernel) (by decide +kernel)
theorem k1454 : Cond.instanceMethod yX6_step ∈ GW := gm 1454 (by decide +kernel) (by decide +kernel)
theorem k1455 : Cond.selects RX6 yX6_step yX6_step ∈ GW := gm 1455 (by decide +kernel) (by decide +kernel)
theorem k1456 : Cond.code yX6_step cX6_step 3 (some .long) ∈ GW := gm 1456 (by decide +kernel) (by decide +kernel)
theorem k1461 : Cond.methodLink RL 158 yX6_valueAt ∈ GW := gm 1461 (by decide +kernel) (by decide +kernel)
theorem k1462 : Cond.instanceMethod yX6_valueAt ∈ GW := gm 1462 (by decide +kernel) (by decide +kernel)
theorem k1463 : Cond.selects RX6 yX6_valueAt yX6_valueAt ∈ GW := gm 1463 (by decide +kernel) (by decide +kernel)
theorem k1464 : Cond.code yX6_valueAt cX6_valueAt 4 (some .long) ∈ GW := gm 1464 (by decide +kernel) (by decide +kernel)
theorem k1468 : Cond.methodLink RL 163 yX6_integral ∈ GW := gm 1468 (by decide +kernel) (by decide +kernel)
theorem k1469 : Cond.instanceMethod yX6_integral ∈ GW := gm 1469 (by decide +kernel) (by decide +kernel)
theorem k1470 : Cond.selects RX6 yX6_integral yX6_integral ∈ GW := gm 1470 (by decide +kernel) (by decide +kernel)
theorem k1471 : Cond.code yX6_integral cX6_integral 1 (some .long) ∈ GW := gm 1471 (by decide +kernel) (by decide +kernel)
theorem k1476 : Cond.methodLink RL 167 yX6_drift ∈ GW := gm 1476 (by decide +kernel) (by decide +kernel)
theorem k1477 : Cond.instanceMethod yX6_drift ∈ GW := gm 1477 (by decide +kernel) (by decide +kernel)
theorem k1478 : Cond.selects RX6 yX6_drift yX6_drift ∈ GW := gm 1478 (by decide +kernel) (by decide +kernel)
theorem k1479 : Cond.code yX6_drift cX6_drift 1 (some .long) ∈ GW := gm 1479 (by decide +kernel) (by decide +kernel)
theorem k1480 : Cond.methodLink RL 170 yX6_mean ∈ GW := gm 1480 (by decide +kernel) (by decide +kernel)
theorem k1481 : Cond.instanceMethod yX6_mean ∈ GW := gm 1481 (by decide +kernel) (by decide +kernel)
theorem k1482 : Cond.selects RX6 yX6_mean yX6_mean ∈ GW := gm 1482 (by decide +kernel) (by decide +kernel)
theorem k1483 : Cond.code yX6_mean cX6_mean 4 (some .long) ∈ GW := gm 1483 (by decide +kernel) (by decide +kernel)
theorem k1490 : Cond.methodLink RL 175 yX6_plainMean ∈ GW := gm 1490 (by decide +kernel) (by decide +kernel)
theorem k1491 : Cond.instanceMethod yX6_plainMean ∈ GW := gm 1491 (by decide +kernel) (by decide +kernel)
theorem k1492 : Cond.selects RX6 yX6_plainMean yX6_plainMean ∈ GW := gm 1492 (by decide +kernel) (by decide +kernel)
theorem k1493 : Cond.code yX6_plainMean cX6_plainMean 4 (some .double) ∈ GW := gm 1493 (by decide +kernel) (by decide +kernel)
theorem k1494 : Cond.methodLink RL 179 yX6_energy ∈ GW := gm 1494 (by decide +kernel) (by decide +kernel)
theorem k1495 : Cond.instanceMethod yX6_energy ∈ GW := gm 1495 (by decide +kernel) (by decide +kernel)
theorem k1496 : Cond.selects RX6 yX6_energy yX6_energy ∈ GW := gm 1496 (by decide +kernel) (by decide +kernel)
theorem k1497 : Cond.code yX6_energy cX6_energy 4 (some .long) ∈ GW := gm 1497 (by decide +kernel) (by decide +kernel)
theorem k1498 : Cond.methodLink RL 183 yX6_bits ∈ GW := gm 1498 (by decide +kernel) (by decide +kernel)
theorem k1499 : Cond.instanceMethod yX6_bits ∈ GW := gm 1499 (by decide +kernel) (by decide +kernel)
theorem k1500 : Cond.selects RX6 yX6_bits yX6_bits ∈ GW := gm 1500 (by decide +kernel) (by decide +kernel)
theorem k1501 : Cond.code yX6_bits cX6_bits 1 (some .int) ∈ GW := gm 1501 (by decide +kernel) (by decide +kernel)
theorem k1507 : Cond.methodLink RL 186 yX6_largest ∈ GW := gm 1507 (by decide +kernel) (by decide +kernel)
theorem k1508 : Cond.instanceMethod yX6_largest ∈ GW := gm 1508 (by decide +kernel) (by decide +kernel)
theorem k1509 : Cond.selects RX6 yX6_largest yX6_largest ∈ GW := gm 1509 (by decide +kernel) (by decide +kernel)
theorem k1510 : Cond.code yX6_largest cX6_largest 3 (some .int) ∈ GW := gm 1510 (by decide +kernel) (by decide +kernel)
theorem k1515 : Cond.methodLink RL 189 yX6_next ∈ GW := gm 1515 (by decide +kernel) (by decide +kernel)
theorem k1516 : Cond.instanceMethod yX6_next ∈ GW := gm 1516 (by decide +kernel) (by decide +kernel)
theorem k1517 : Cond.selects RX6 yX6_next yX6_next ∈ GW := gm 1517 (by decide +kernel) (by decide +kernel)
theorem k1518 : Cond.code yX6_next cX6_next 2 (some .int) ∈ GW := gm 1518 (by decide +kernel) (by decide +kernel)
theorem k1543 : Cond.methodLink RL 192 yX6_setSplit ∈ GW := gm 1543 (by decide +kernel) (by decide +kernel)
theorem k1544 : Cond.instanceMethod yX6_setSplit ∈ GW := gm 1544 (by decide +kernel) (by decide +kernel)
theorem k1545 : Cond.selects RX6 yX6_setSplit yX6_setSplit ∈ GW := gm 1545 (by decide +kernel) (by decide +kernel)
theorem k1546 : Cond.code yX6_setSplit cX6_setSplit 2 (some .int) ∈ GW := gm 1546 (by decide +kernel) (by decide +kernel)
theorem k1551 : Cond.methodLink RL 195 yX6_setPredict ∈ GW := gm 1551 (by decide +kernel) (by decide +kernel)
theorem k1552 : Cond.instanceMethod yX6_setPredict ∈ GW := gm 1552 (by decide +kernel) (by decide +kernel)
theorem k1553 : Cond.selects RX6 yX6_setPredict yX6_setPredict ∈ GW := gm 1553 (by decide +kernel) (by decide +kernel)
theorem k1554 : Cond.code yX6_setPredict cX6_setPredict 2 (some .int) ∈ GW := gm 1554 (by decide +kernel) (by decide +kernel)
theorem k1555 : Cond.methodLink RL 200 yX6_setUpdate ∈ GW := gm 1555 (by decide +kernel) (by decide +kernel)
theorem k1556 : Cond.instanceMethod yX6_setUpdate ∈ GW := gm 1556 (by decide +kernel) (by decide +kernel)
theorem k1557 : Cond.selects RX6 yX6_setUpdate yX6_setUpdate ∈ GW := gm 1557 (by decide +kernel) (by decide +kernel)
theorem k1558 : Cond.code yX6_setUpdate cX6_setUpdate 2 (some .boolean) ∈ GW := gm 1558 (by decide +kernel) (by decide +kernel)
theorem dL_law_293 : decode cL_law 293 = .ok (.aload_n 1, 1) := by decide +kernel
theorem dL_law_294 : decode cL_law 294 = .ok (.aload_n 0, 1) := by decide +kernel
theorem dL_law_295 : decode cL_law 295 = .ok (.iload 4, 2) := by decide +kernel
theorem dL_law_297 : decode cL_law 297 = .ok (.iconst 1, 1) := by decide +kernel
theorem dL_law_298 : decode cL_law 298 = .ok (.iadd, 1) := by decide +kernel
theorem dL_law_299 : decode cL_law 299 = .ok (.iaload, 1) := by decide +kernel
theorem dL_law_300 : decode cL_law 300 = .ok (.aload_n 3, 1) := by decide +kernel
theorem dL_law_301 : decode cL_law 301 = .ok (.invokestatic 121, 3) := by decide +kernel
theorem dL_law_304 : decode cL_law 304 = .ok (.istore 5, 2) := by decide +kernel
theorem dL_law_306 : decode cL_law 306 = .ok (.aload_n 2, 1) := by decide +kernel
theorem dL_law_307 : decode cL_law 307 = .ok (.aload_n 0, 1) := by decide +kernel
theorem dL_law_308 : decode cL_law 308 = .ok (.iload 4, 2) := by decide +kernel
theorem dL_law_310 : decode cL_law 310 = .ok (.iconst 1, 1) := by decide +kernel
theorem dL_law_311 : decode cL_law 311 = .ok (.iadd, 1) := by decide +kernel
theorem dL_law_312 : decode cL_law 312 = .ok (.iaload, 1) := by decide +kernel
theorem dL_law_313 : decode cL_law 313 = .ok (.invokevirtual 126, 3) := by decide +kernel
theorem dL_law_316 : decode cL_law 316 = .ok (.istore 6, 2) := by decide +kernel
theorem dL_law_318 : decode cL_law 318 = .ok (.goto 1086, 3) := by decide +kernel
theorem dL_law_363 : decode cL_law 363 = .ok (.aload_n 1, 1) := by decide +kernel
theorem dL_law_364 : decode cL_law 364 = .ok (.aload_n 0, 1) := by decide +kernel
theorem dL_law_365 : decode cL_law 365 = .ok (.iload 4, 2) := by decide +kernel
theorem dL_law_367 : decode cL_law 367 = .ok (.iconst 1, 1) := by decide +kernel
theorem dL_law_368 : decode cL_law 368 = .ok (.iadd, 1) := by decide +kernel
theorem dL_law_369 : decode cL_law 369 = .ok (.iaload, 1) := by decide +kernel
theorem dL_law_370 : decode cL_law 370 = .ok (.aload_n 3, 1) := by decide +kernel
theorem dL_law_371 : decode cL_law 371 = .ok (.invokestatic 139, 3) := by decide +kernel
theorem dL_law_374 : decode cL_law 374 = .ok (.istore 5, 2) := by decide +kernel
theorem dL_law_376 : decode cL_law 376 = .ok (.aload_n 2, 1) := by decide +kernel
theorem dL_law_377 : decode cL_law 377 = .ok (.aload_n 0, 1) := by decide +kernel
theorem dL_law_378 : decode cL_law 378 = .ok (.iload 4, 2) := by decide +kernel
theorem dL_law_380 : decode cL_law 380 = .ok (.iconst 1, 1) := by decide +kernel
theorem dL_law_381 : decode cL_law 381 = .ok (.iadd, 1) := by decide +kernel
theorem dL_law_382 : decode cL_law 382 = .ok (.iaload, 1) := by decide +kernel
theorem dL_law_383 : decode cL_law 383 = .ok (.invokevirtual 141, 3) := by decide +kernel
theorem dL_law_386 : decode cL_law 386 = .ok (.istore 6, 2) := by decide +kernel
theorem dL_law_388 : decode cL_law 388 = .ok (.goto 1016, 3) := by decide +kernel
theorem dL_law_391 : decode cL_law 391 = .ok (.aload_n 1, 1) := by decide +kernel
theorem dL_law_392 : decode cL_law 392 = .ok (.aload_n 0, 1) := by decide +kernel
theorem dL_law_393 : decode cL_law 393 = .ok (.iload 4, 2) := by decide +kernel
theorem dL_law_395 : decode cL_law 395 = .ok (.iconst 1, 1) := by decide +kernel
theorem dL_law_396 : decode cL_law 396 = .ok (.iadd, 1) := by decide +kernel
theorem dL_law_397 : decode cL_law 397 = .ok (.iaload, 1) := by decide +kernel
theorem dL_law_398 : decode cL_law 398 = .ok (.aload_n 0, 1) := by decide +kernel
theorem dL_law_399 : decode cL_law 399 = .ok (.iload 4, 2) := by decide +kernel
theorem dL_law_401 : decode cL_law 401 = .ok (.iconst 2, 1) := by decide +kernel
theorem dL_law_402 : decode cL_law 402 = .ok (.iadd, 1) := by decide +kernel
theorem dL_law_403 : decode cL_law 403 = .ok (.iaload, 1) := by decide +kernel
theorem dL_law_404 : decode cL_law 404 = .ok (.aload_n 3, 1) := by decide +kernel
theorem dL_law_405 : decode cL_law 405 = .ok (.invokestatic 142, 3) := by decide +kernel
theorem dL_law_408 : decode cL_law 408 = .ok (.istore 5, 2) := by decide +kernel
theorem dL_law_410 : decode cL_law 410 = .ok (.aload_n 2, 1) := by decide +kernel
theorem dL_law_411 : decode cL_law 411 = .ok (.aload_n 0, 1) := by decide +kernel
theorem dL_law_412 : decode cL_law 412 = .ok (.iload 4, 2) := by decide +kernel
theorem dL_law_414 : decode cL_law 414 = .ok (.iconst 1, 1) := by decide +kernel
theorem dL_law_415 : decode cL_law 415 = .ok (.iadd, 1) := by decide +kernel
theorem dL_law_416 : decode cL_law 416 = .ok (.iaload, 1) := by decide +kernel
theorem dL_law_417 : decode cL_law 417 = .ok (.aload_n 0, 1) := by decide +kernel
theorem dL_law_418 : decode cL_law 418 = .ok (.iload 4, 2) := by decide +kernel
theorem dL_law_420 : decode cL_law 420 = .ok (.iconst 2, 1) := by decide +kernel
theorem dL_law_421 : decode cL_law 421 = .ok (.iadd, 1) := by decide +kernel
theorem dL_law_422 : decode cL_law 422 = .ok (.iaload, 1) := by decide +kernel
theorem dL_law_423 : decode cL_law 423 = .ok (.invokevirtual 145, 3) := by decide +kernel
theorem dL_law_426 : decode cL_law 426 = .ok (.lstore 6, 2) := by decide +kernel
theorem dL_law_428 : decode cL_law 428 = .ok (.goto 976, 3) := by decide +kernel
theorem dL_law_431 : decode cL_law 431 = .ok (.aload_n 1, 1) := by decide +kernel
theorem dL_law_432 : decode cL_law 432 = .ok (.aload_n 0, 1) := by decide +kernel
theorem dL_law_433 : decode cL_law 433 = .ok (.iload 4, 2) := by decide +kernel
theorem dL_law_435 : decode cL_law 435 = .ok (.iconst 1, 1) := by decide +kernel
theorem dL_law_436 : decode cL_law 436 = .ok (.iadd, 1) := by decide +kernel
theorem dL_law_437 : decode cL_law 437 = .ok (.iaload, 1) := by decide +kernel
theorem dL_law_438 : decode cL_law 438 = .ok (.aload_n 3, 1) := by decide +kernel
theorem dL_law_439 : decode cL_law 439 = .ok (.invokestatic 146, 3) := by decide +kernel
theorem dL_law_442 : decode cL_law 442 = .ok (.istore 5, 2) := by decide +kernel
theorem dL_law_444 : decode cL_law 444 = .ok (.aload_n 2, 1) := by decide +kernel
theorem dL_law_445 : decode cL_law 445 = .ok (.aload_n 0, 1) := by decide +kernel
theorem dL_law_446 : decode cL_law 446 = .ok (.iload 4, 2) := by decide +kernel
theorem dL_law_448 : decode cL_law 448 = .ok (.iconst 1, 1) := by decide +kernel
theorem dL_law_449 : decode cL_law 449 = .ok (.iadd, 1) := by decide +kernel
theorem dL_law_450 : decode cL_law 450 = .ok (.iaload, 1) := by decide +kernel
theorem dL_law_451 : decode cL_law 451 = .ok (.invokevirtual 148, 3) := by decide +kernel
theorem dL_law_454 : decode cL_law 454 = .ok (.istore 6, 2) := by decide +kernel
theorem dL_law_456 : decode cL_law 456 = .ok (.goto 948, 3) := by decide +kernel
theorem dL_law_459 : decode cL_law 459 = .ok (.aload_n 1, 1) := by decide +kernel
theorem dL_law_460 : decode cL_law 460 = .ok (.aload_n 0, 1) := by decide +kernel
theorem dL_law_461 : decode cL_law 461 = .ok (.iload 4, 2) := by decide +kernel
theorem dL_law_463 : decode cL_law 463 = .ok (.iconst 1, 1) := by decide +kernel
theorem dL_law_464 : decode cL_law 464 = .ok (.iadd, 1) := by decide +kernel
theorem dL_law_465 : decode cL_law 465 = .ok (.iaload, 1) := by decide +kernel
theorem dL_law_466 : decode cL_law 466 = .ok (.aload_n 0, 1) := by decide +kernel
theorem dL_law_467 : decode cL_law 467 = .ok (.iload 4, 2) := by decide +kernel
theorem dL_law_469 : decode cL_law 469 = .ok (.iconst 2, 1) := by decide +kernel
theorem dL_law_470 : decode cL_law 470 = .ok (.iadd, 1) := by decide +kernel
theorem dL_law_471 : decode cL_law 471 = .ok (.iaload, 1) := by decide +kernel
theorem dL_law_472 : decode cL_law 472 = .ok (.ifCond .eq 7, 3) := by decide +kernel
theorem dL_law_475 : decode cL_law 475 = .ok (.iconst 1, 1) := by decide +kernel
theorem dL_law_476 : decode cL_law 476 = .ok (.goto 4, 3) := by decide +kernel
theorem dL_law_479 : decode cL_law 479 = .ok (.iconst 0, 1) := by decide +kernel
theorem dL_law_480 : decode cL_law 480 = .ok (.aload_n 3, 1) := by decide +kernel
theorem dL_law_481 : decode cL_law 481 = .ok (.invokestatic 149, 3) := by decide +kernel
theorem dL_law_484 : decode cL_law 484 = .ok (.istore 5, 2) := by decide +kernel
theorem dL_law_486 : decode cL_law 486 = .ok (.aload_n 2, 1) := by decide +kernel
theorem dL_law_487 : decode cL_law 487 = .ok (.aload_n 0, 1) := by decide +kernel
theorem dL_law_488 : decode cL_law 488 = .ok (.iload 4, 2) := by decide +kernel
theorem dL_law_490 : decode cL_law 490 = .ok (.iconst 1, 1) := by decide +kernel
theorem dL_law_491 : decode cL_law 491 = .ok (.iadd, 1) := by decide +kernel
theorem dL_law_492 : decode cL_law 492 = .ok (.iaload, 1) := by decide +kernel
theorem dL_law_493 : decode cL_law 493 = .ok (.aload_n 0, 1) := by decide +kernel
theorem dL_law_494 : decode cL_law 494 = .ok (.iload 4, 2) := by decide +kernel
theorem dL_law_496 : decode cL_law 496 = .ok (.iconst 2, 1) := by decide +kernel
theorem dL_law_497 : decode cL_law 497 = .ok (.iadd, 1) := by decide +kernel
theorem dL_law_498 : decode cL_law 498 = .ok (.iaload, 1) := by decide +kernel
theorem dL_law_499 : decode cL_law 499 = .ok (.ifCond .eq 7, 3) := by decide +kernel
theorem dL_law_502 : decode cL_law 502 = .ok (.iconst 1, 1) := by decide +kernel
theorem dL_law_503 : decode cL_law 503 = .ok (.goto 4, 3) := by decide +kernel
theorem dL_law_506 : decode cL_law 506 = .ok (.iconst 0, 1) := by decide +kernel
theorem dL_law_507 : decode cL_law 507 = .ok (.invokevirtual 152, 3) := by decide +kernel
theorem dL_law_510 : decode cL_law 510 = .ok (.istore 6, 2) := by decide +kernel
theorem dL_law_512 : decode cL_law 512 = .ok (.goto 892, 3) := by decide +kernel
theorem dL_law_515 : decode cL_law 515 = .ok (.aload_n 1, 1) := by decide +kernel
theorem dL_law_516 : decode cL_law 516 = .ok (.aload_n 0, 1) := by decide +kernel
theorem dL_law_517 : decode cL_law 517 = .ok (.iload 4, 2) := by decide +kernel
theorem dL_law_519 : decode cL_law 519 = .ok (.iconst 1, 1) := by decide +kernel
theorem dL_law_520 : decode cL_law 520 = .ok (.iadd, 1) := by decide +kernel
theorem dL_law_521 : decode cL_law 521 = .ok (.iaload, 1) := by decide +kernel
theorem dL_law_522 : decode cL_law 522 = .ok (.aload_n 0, 1) := by decide +kernel
theorem dL_law_523 : decode cL_law 523 = .ok (.iload 4, 2) := by decide +kernel
theorem dL_law_525 : decode cL_law 525 = .ok (.iconst 2, 1) := by decide +kernel
theorem dL_law_526 : decode cL_law 526 = .ok (.iadd, 1) := by decide +kernel
theorem dL_law_527 : decode cL_law 527 = .ok (.iaload, 1) := by decide +kernel
theorem dL_law_528 : decode cL_law 528 = .ok (.aload_n 3, 1) := by decide +kernel
theorem dL_law_529 : decode cL_law 529 = .ok (.invokestatic 153, 3) := by decide +kernel
theorem dL_law_532 : decode cL_law 532 = .ok (.istore 5, 2) := by decide +kernel
theorem dL_law_534 : decode cL_law 534 = .ok (.aload_n 2, 1) := by decide +kernel
theorem dL_law_535 : decode cL_law 535 = .ok (.aload_n 0, 1) := by decide +kernel
theorem dL_law_536 : decode cL_law 536 = .ok (.iload 4, 2) := by decide +kernel
theorem dL_law_538 : decode cL_law 538 = .ok (.iconst 1, 1) := by decide +kernel
theorem dL_law_539 : decode cL_law 539 = .ok (.iadd, 1) := by decide +kernel
theorem dL_law_540 : decode cL_law 540 = .ok (.iaload, 1) := by decide +kernel
theorem dL_law_541 : decode cL_law 541 = .ok (.aload_n 0, 1) := by decide +kernel
theorem dL_law_542 : decode cL_law 542 = .ok (.iload 4, 2) := by decide +kernel
theorem dL_law_544 : decode cL_law 544 = .ok (.iconst 2, 1) := by decide +kernel
theorem dL_law_545 : decode cL_law 545 = .ok (.iadd, 1) := by decide +kernel
theorem dL_law_546 : decode cL_law 546 = .ok (.iaload, 1) := by decide +kernel
theorem dL_law_547 : decode cL_law 547 = .ok (.invokevirtual 155, 3) := by decide +kernel
theorem dL_law_550 : decode cL_law 550 = .ok (.lstore 6, 2) := by decide +kernel
theorem dL_law_552 : decode cL_law 552 = .ok (.goto 852, 3) := by decide +kernel
theorem dL_law_555 : decode cL_law 555 = .ok (.aload_n 1, 1) := by decide +kernel
theorem dL_law_556 : decode cL_law 556 = .ok (.aload_n 0, 1) := by decide +kernel
theorem dL_law_557 : decode cL_law 557 = .ok (.iload 4, 2) := by decide +kernel
theorem dL_law_559 : decode cL_law 559 = .ok (.iconst 1, 1) := by decide +kernel
theorem dL_law_560 : decode cL_law 560 = .ok (.iadd, 1) := by decide +kernel
theorem dL_law_561 : decode cL_law 561 = .ok (.iaload, 1) := by decide +kernel
theorem dL_law_562 : decode cL_law 562 = .ok (.aload_n 3, 1) := by decide +kernel
theorem dL_law_563 : decode cL_law 563 = .ok (.invokestatic 156, 3) := by decide +kernel
theorem dL_law_566 : decode cL_law 566 = .ok (.istore 5, 2) := by decide +kernel
theorem dL_law_568 : decode cL_law 568 = .ok (.aload_n 2, 1) := by decide +kernel
theorem dL_law_569 : decode cL_law 569 = .ok (.aload_n 0, 1) := by decide +kernel
theorem dL_law_570 : decode cL_law 570 = .ok (.iload 4, 2) := by decide +kernel
theorem dL_law_572 : decode cL_law 572 = .ok (.iconst 1, 1) := by decide +kernel
theorem dL_law_573 : decode cL_law 573 = .ok (.iadd, 1) := by decide +kernel
theorem dL_law_574 : decode cL_law 574 = .ok (.iaload, 1) := by decide +kernel
theorem dL_law_575 : decode cL_law 575 = .ok (.invokevirtual 158, 3) := by decide +kernel
theorem dL_law_578 : decode cL_law 578 = .ok (.lstore 6, 2) := by decide +kernel
theorem dL_law_580 : decode cL_law 580 = .ok (.goto 824, 3) := by decide +kernel
theorem dL_law_583 : decode cL_law 583 = .ok (.aload_n 1, 1) := by decide +kernel
theorem dL_law_584 : decode cL_law 584 = .ok (.invokevirtual 159, 3) := by decide +kernel
theorem dL_law_587 : decode cL_law 587 = .ok (.pop2, 1) := by decide +kernel
theorem dL_law_588 : decode cL_law 588 = .ok (.aload_n 2, 1) := by decide +kernel
theorem dL_law_589 : decode cL_law 589 = .ok (.invokevirtual 163, 3) := by decide +kernel
theorem dL_law_592 : decode cL_law 592 = .ok (.pop2, 1) := by decide +kernel
theorem dL_law_593 : decode cL_law 593 = .ok (.goto 811, 3) := by decide +kernel
theorem dL_law_596 : decode cL_law 596 = .ok (.aload_n 1, 1) := by decide +kernel
theorem dL_law_597 : decode cL_law 597 = .ok (.invokevirtual 164, 3) := by decide +kernel
theorem dL_law_600 : decode cL_law 600 = .ok (.pop2, 1) := by decide +kernel
theorem dL_law_601 : decode cL_law 601 = .ok (.aload_n 2, 1) := by decide +kernel
theorem dL_law_602 : decode cL_law 602 = .ok (.invokevirtual 167, 3) := by decide +kernel
theorem dL_law_605 : decode cL_law 605 = .ok (.pop2, 1) := by decide +kernel
theorem dL_law_606 : decode cL_law 606 = .ok (.goto 798, 3) := by decide +kernel
theorem dL_law_609 : decode cL_law 609 = .ok (.aload_n 1, 1) := by decide +kernel
theorem dL_law_610 : decode cL_law 610 = .ok (.aload_n 0, 1) := by decide +kernel
theorem dL_law_611 : decode cL_law 611 = .ok (.iload 4, 2) := by decide +kernel
theorem dL_law_613 : decode cL_law 613 = .ok (.iconst 1, 1) := by decide +kernel
theorem dL_law_614 : decode cL_law 614 = .ok (.iadd, 1) := by decide +kernel
theorem dL_law_615 : decode cL_law 615 = .ok (.iaload, 1) := by decide +kernel
theorem dL_law_616 : decode cL_law 616 = .ok (.aload_n 3, 1) := by decide +kernel
theorem dL_law_617 : decode cL_law 617 = .ok (.invokestatic 168, 3) := by decide +kernel
theorem dL_law_620 : decode cL_law 620 = .ok (.istore 5, 2) := by decide +kernel
theorem dL_law_622 : decode cL_law 622 = .ok (.aload_n 2, 1) := by decide +kernel
theorem dL_law_623 : decode cL_law 623 = .ok (.aload_n 0, 1) := by decide +kernel
theorem dL_law_624 : decode cL_law 624 = .ok (.iload 4, 2) := by decide +kernel
theorem dL_law_626 : decode cL_law 626 = .ok (.iconst 1, 1) := by decide +kernel
theorem dL_law_627 : decode cL_law 627 = .ok (.iadd, 1) := by decide +kernel
theorem dL_law_628 : decode cL_law 628 = .ok (.iaload, 1) := by decide +kernel
theorem dL_law_629 : decode cL_law 629 = .ok (.invokevirtual 170, 3) := by decide +kernel
theorem dL_law_632 : decode cL_law 632 = .ok (.lstore 6, 2) := by decide +kernel
theorem dL_law_634 : decode cL_law 634 = .ok (.goto 770, 3) := by decide +kernel
theorem dL_law_637 : decode cL_law 637 = .ok (.aload_n 1, 1) := by decide +kernel
theorem dL_law_638 : decode cL_law 638 = .ok (.invokevirtual 171, 3) := by decide +kernel
theorem dL_law_641 : decode cL_law 641 = .ok (.dstore 5, 2) := by decide +kernel
theorem dL_law_643 : decode cL_law 643 = .ok (.aload_n 2, 1) := by decide +kernel
theorem dL_law_644 : decode cL_law 644 = .ok (.invokevirtual 175, 3) := by decide +kernel
theorem dL_law_647 : decode cL_law 647 = .ok (.dstore 7, 2) := by decide +kernel
theorem dL_law_649 : decode cL_law 649 = .ok (.goto 755, 3) := by decide +kernel
theorem dL_law_652 : decode cL_law 652 = .ok (.aload_n 1, 1) := by decide +kernel
theorem dL_law_653 : decode cL_law 653 = .ok (.invokevirtual 176, 3) := by decide +kernel
theorem dL_law_656 : decode cL_law 656 = .ok (.pop2, 1) := by decide +kernel
theorem dL_law_657 : decode cL_law 657 = .ok (.aload_n 2, 1) := by decide +kernel
theorem dL_law_658 : decode cL_law 658 = .ok (.invokevirtual 179, 3) := by decide +kernel
theorem dL_law_661 : decode cL_law 661 = .ok (.pop2, 1) := by decide +kernel
theorem dL_law_662 : decode cL_law 662 = .ok (.goto 742, 3) := by decide +kernel
theorem dL_law_665 : decode cL_law 665 = .ok (.aload_n 1, 1) := by decide +kernel
theorem dL_law_666 : decode cL_law 666 = .ok (.invokevirtual 180, 3) := by decide +kernel
theorem dL_law_669 : decode cL_law 669 = .ok (.pop, 1) := by decide +kernel
theorem dL_law_670 : decode cL_law 670 = .ok (.aload_n 2, 1) := by decide +kernel
theorem dL_law_671 : decode cL_law 671 = .ok (.invokevirtual 183, 3) := by decide +kernel
theorem dL_law_674 : decode cL_law 674 = .ok (.pop, 1) := by decide +kernel
theorem dL_law_675 : decode cL_law 675 = .ok (.goto 729, 3) := by decide +kernel
theorem dL_law_678 : decode cL_law 678 = .ok (.aload_n 1, 1) := by decide +kernel
theorem dL_law_679 : decode cL_law 679 = .ok (.aload_n 0, 1) := by decide +kernel
theorem dL_law_680 : decode cL_law 680 = .ok (.iload 4, 2) := by decide +kernel
theorem dL_law_682 : decode cL_law 682 = .ok (.iconst 1, 1) := by decide +kernel
theorem dL_law_683 : decode cL_law 683 = .ok (.iadd, 1) := by decide +kernel
theorem dL_law_684 : decode cL_law 684 = .ok (.iaload, 1) := by decide +kernel
theorem dL_law_685 : decode cL_law 685 = .ok (.aload_n 3, 1) := by decide +kernel
theorem dL_law_686 : decode cL_law 686 = .ok (.invokestatic 184, 3) := by decide +kernel
theorem dL_law_689 : decode cL_law 689 = .ok (.istore 5, 2) := by decide +kernel
theorem dL_law_691 : decode cL_law 691 = .ok (.aload_n 2, 1) := by decide +kernel
theorem dL_law_692 : decode cL_law 692 = .ok (.aload_n 0, 1) := by decide +kernel
theorem dL_law_693 : decode cL_law 693 = .ok (.iload 4, 2) := by decide +kernel
theorem dL_law_695 : decode cL_law 695 = .ok (.iconst 1, 1) := by decide +kernel
theorem dL_law_696 : decode cL_law 696 = .ok (.iadd, 1) := by decide +kernel
theorem dL_law_697 : decode cL_law 697 = .ok (.iaload, 1) := by decide +kernel
theorem dL_law_698 : decode cL_law 698 = .ok (.invokevirtual 186, 3) := by decide +kernel
theorem dL_law_701 : decode cL_law 701 = .ok (.istore 6, 2) := by decide +kernel
theorem dL_law_703 : decode cL_law 703 = .ok (.goto 701, 3) := by decide +kernel
theorem dL_law_706 : decode cL_law 706 = .ok (.aload_n 1, 1) := by decide +kernel
theorem dL_law_707 : decode cL_law 707 = .ok (.aload_n 3, 1) := by decide +kernel
theorem dL_law_708 : decode cL_law 708 = .ok (.invokestatic 187, 3) := by decide +kernel
theorem dL_law_711 : decode cL_law 711 = .ok (.istore 5, 2) := by decide +kernel
theorem dL_law_713 : decode cL_law 713 = .ok (.aload_n 2, 1) := by decide +kernel
theorem dL_law_714 : decode cL_law 714 = .ok (.invokevirtual 189, 3) := by decide +kernel
theorem dL_law_717 : decode cL_law 717 = .ok (.istore 6, 2) := by decide +kernel
theorem dL_law_719 : decode cL_law 719 = .ok (.goto 685, 3) := by decide +kernel
theorem dL_law_722 : decode cL_law 722 = .ok (.aload_n 1, 1) := by decide +kernel
theorem dL_law_723 : decode cL_law 723 = .ok (.aload_n 0, 1) := by decide +kernel
theorem dL_law_724 : decode cL_law 724 = .ok (.iload 4, 2) := by decide +kernel
theorem dL_law_726 : decode cL_law 726 = .ok (.iconst 1, 1) := by decide +kernel
theorem dL_law_727 : decode cL_law 727 = .ok (.iadd, 1) := by decide +kernel
theorem dL_law_728 : decode cL_law 728 = .ok (.iaload, 1) := by decide +kernel
theorem dL_law_729 : decode cL_law 729 = .ok (.aload_n 3, 1) := by decide +kernel
theorem dL_law_730 : decode cL_law 730 = .ok (.invokestatic 190, 3) := by decide +kernel
theorem dL_law_733 : decode cL_law 733 = .ok (.istore 5, 2) := by decide +kernel
theorem dL_law_735 : decode cL_law 735 = .ok (.aload_n 2, 1) := by decide +kernel
theorem dL_law_736 : decode cL_law 736 = .ok (.aload_n 0, 1) := by decide +kernel
theorem dL_law_737 : decode cL_law 737 = .ok (.iload 4, 2) := by decide +kernel
theorem dL_law_739 : decode cL_law 739 = .ok (.iconst 1, 1) := by decide +kernel
theorem dL_law_740 : decode cL_law 740 = .ok (.iadd, 1) := by decide +kernel
theorem dL_law_741 : decode cL_law 741 = .ok (.iaload, 1) := by decide +kernel
theorem dL_law_742 : decode cL_law 742 = .ok (.invokevirtual 192, 3) := by decide +kernel
theorem dL_law_745 : decode cL_law 745 = .ok (.istore 6, 2) := by decide +kernel
theorem dL_law_747 : decode cL_law 747 = .ok (.goto 657, 3) := by decide +kernel
theorem dL_law_750 : decode cL_law 750 = .ok (.aload_n 1, 1) := by decide +kernel
theorem dL_law_751 : decode cL_law 751 = .ok (.aload_n 0, 1) := by decide +kernel
theorem dL_law_752 : decode cL_law 752 = .ok (.iload 4, 2) := by decide +kernel
theorem dL_law_754 : decode cL_law 754 = .ok (.iconst 1, 1) := by decide +kernel
theorem dL_law_755 : decode cL_law 755 = .ok (.iadd, 1) := by decide +kernel
theorem dL_law_756 : decode cL_law 756 = .ok (.iaload, 1) := by decide +kernel
theorem dL_law_757 : decode cL_law 757 = .ok (.aload_n 3, 1) := by decide +kernel
theorem dL_law_758 : decode cL_law 758 = .ok (.invokestatic 193, 3) := by decide +kernel
theorem dL_law_761 : decode cL_law 761 = .ok (.istore 5, 2) := by decide +kernel
theorem dL_law_763 : decode cL_law 763 = .ok (.aload_n 2, 1) := by decide +kernel
theorem dL_law_764 : decode cL_law 764 = .ok (.aload_n 0, 1) := by decide +kernel
theorem dL_law_765 : decode cL_law 765 = .ok (.iload 4, 2) := by decide +kernel
theorem dL_law_767 : decode cL_law 767 = .ok (.iconst 1, 1) := by decide +kernel
theorem dL_law_768 : decode cL_law 768 = .ok (.iadd, 1) := by decide +kernel
theorem dL_law_769 : decode cL_law 769 = .ok (.iaload, 1) := by decide +kernel
theorem dL_law_770 : decode cL_law 770 = .ok (.invokevirtual 195, 3) := by decide +kernel
theorem dL_law_773 : decode cL_law 773 = .ok (.istore 6, 2) := by decide +kernel
theorem dL_law_775 : decode cL_law 775 = .ok (.goto 629, 3) := by decide +kernel
theorem dL_law_778 : decode cL_law 778 = .ok (.aload_n 1, 1) := by decide +kernel
theorem dL_law_779 : decode cL_law 779 = .ok (.aload_n 0, 1) := by decide +kernel
theorem dL_law_780 : decode cL_law 780 = .ok (.iload 4, 2) := by decide +kernel
theorem dL_law_782 : decode cL_law 782 = .ok (.iconst 1, 1) := by decide +kernel
theorem dL_law_783 : decode cL_law 783 = .ok (.iadd, 1) := by decide +kernel
theorem dL_law_784 : decode cL_law 784 = .ok (.iaload, 1) := by decide +kernel
theorem dL_law_785 : decode cL_law 785 = .ok (.ifCond .eq 7, 3) := by decide +kernel
theorem dL_law_788 : decode cL_law 788 = .ok (.iconst 1, 1) := by decide +kernel
theorem dL_law_789 : decode cL_law 789 = .ok (.goto 4, 3) := by decide +kernel
theorem dL_law_792 : decode cL_law 792 = .ok (.iconst 0, 1) := by decide +kernel
theorem dL_law_793 : decode cL_law 793 = .ok (.invokevirtual 196, 3) := by decide +kernel
theorem dL_law_796 : decode cL_law 796 = .ok (.aload_n 2, 1) := by decide +kernel
theorem dL_law_797 : decode cL_law 797 = .ok (.aload_n 0, 1) := by decide +kernel
theorem dL_law_798 : decode cL_law 798 = .ok (.iload 4, 2) := by decide +kernel
theorem dL_law_800 : decode cL_law 800 = .ok (.iconst 1, 1) := by decide +kernel
theorem dL_law_801 : decode cL_law 801 = .ok (.iadd, 1) := by decide +kernel
theorem dL_law_802 : decode cL_law 802 = .ok (.iaload, 1) := by decide +kernel
theorem dL_law_803 : decode cL_law 803 = .ok (.ifCond .eq 7, 3) := by decide +kernel
theorem dL_law_806 : decode cL_law 806 = .ok (.iconst 1, 1) := by decide +kernel
theorem dL_law_807 : decode cL_law 807 = .ok (.goto 4, 3) := by decide +kernel
theorem dL_law_810 : decode cL_law 810 = .ok (.iconst 0, 1) := by decide +kernel
theorem dL_law_811 : decode cL_law 811 = .ok (.invokevirtual 200, 3) := by decide +kernel
theorem dL_law_814 : decode cL_law 814 = .ok (.if_icmp .eq 590, 3) := by decide +kernel
set_option maxHeartbeats 4000000 in
set_option maxRecDepth 100000 in
theorem lc_1 (l : Launch) (κ : Kt) (σ0 : Gh) (x mm out b : Nat) (t_x : zk σ0 x 7) (t_mm : zk σ0 mm 20) (t_out : zk σ0 out 24) (ttx0 : zk σ0 (kR κ x 0) 6) (hdis : DIS κ x) (hlt : l.stackTraces = false) {p : Program} {e : Env} {s : State} {m : MethodId} {below : List Frame} {meth : Method} {c : Code} {L : Nat} {xs : Nat → Int32} {i : Int32} {Q9 : State → Prop} (hx : p.tables.exec = Jvm.exec) (hb : c.code = cL_law) (hml : c.maxLocals = 9) (hown : s.vm.findClass RL = some m.cls) (hg : ∀ w ∈ GW, w.before #[Value.ref b] s = true) (hK : va_K κ.1 vwCl (kTy κ) s) (hX : XY κ (tA σ0 s.heap.size) s s.heap) (hXs : va_X b L xs s s.heap) (hbl : b < s.heap.size) (hbA : ¬ tA σ0 s.heap.size b) (zx : zroomX κ s room_1 601024 7293034) (hi0 : 0 ≤ i.toInt) (hi1 : i.toInt + 6 ≤ L) (hL9 : L ≤ 3072) {σ : Gh} {H : Heap} {locs : List Loc} {ls : Array Slot} (hT : TS κ fA σ0 σ s H locs) (hR : RI κ σ mm) (hrel : LREL κ σ x mm) (hsr : SREL κ σ x mm) (hl : lv_has ls 9 [(4, .int i), (3, .ref out), (2, .ref mm), (1, .ref x), (0, .ref b)]) (KK : ∀ (σ1 : Gh) (H : Heap) (locs : List Loc) (ls : Array Slot), TS (kX κ) fA σ0 σ1 s H locs → RI (kX κ) σ1 mm → LREL κ σ1 x mm → SREL κ σ1 x mm → lv_has ls 9 [(4, .int i), (3, .ref out), (2, .ref mm), (1, .ref x), (0, .ref b)] → W p l e room_1 s m #[Value.ref b] below meth c H locs 601024 7293034 Q9 (F0 m 1404 ls [])) : W p l e room_1 s m #[Value.ref b] below meth c H locs 601024 7293034 Q9 (F0 m 293 ls []) := by
  obtain ⟨y1, hy1⟩ : ∃ z, z = xs (ix i + 1) := ⟨_, rfl⟩
  obtain ⟨y2, hy2⟩ : ∃ z, z = xs (ix i + 2) := ⟨_, rfl⟩
  obtain ⟨y3, hy3⟩ : ∃ z, z = xs (ix i + 3) := ⟨_, rfl⟩
  obtain ⟨y4, hy4⟩ : ∃ z, z = xs (ix i + 4) := ⟨_, rfl⟩
  obtain ⟨y5, hy5⟩ : ∃ z, z = xs (ix i + 5) := ⟨_, rfl⟩
  have n0 : (0 : Int32).toInt = 0 := by decide
  have n1 : (1 : Int32).toInt = 1 := by decide
  have n2 : (2 : Int32).toInt = 2 := by decide
  have n3 : (3 : Int32).toInt = 3 := by decide
  have n4 : (4 : Int32).toInt = 4 := by decide
  have n5 : (5 : Int32).toInt = 5 := by decide
  obtain ⟨tx, etx⟩ : ∃ z, kR κ x 0 = z := ⟨_, rfl⟩
  have ttx : zk σ0 tx 6 := by rw [← etx]; exact ttx0
  obtain ⟨rB, erB⟩ : ∃ z, kR κ tx 0 = z := ⟨_, rfl⟩
  have trB : zk σ0 rB 14 := by rw [← erB]; exact hT.kr (hT.ref (hT.k ttx (by decide)) (by decide) (by decide) (by decide)) (by decide) (by decide)
  obtain ⟨rT, erT⟩ : ∃ z, kR κ mm 12 = z := ⟨_, rfl⟩
  have trT : zk σ0 rT 23 := by rw [← erT]; exact hT.kr (hT.ref (hT.k t_mm (by decide)) (by decide) (by decide) (by decide)) (by decide) (by decide)
  obtain ⟨rI, erI⟩ : ∃ z, kR κ x 6 = z := ⟨_, rfl⟩
  have trI : zk σ0 rI 13 := by rw [← erI]; exact hT.kr (hT.ref (hT.k t_x (by decide)) (by decide) (by decide) (by decide)) (by decide) (by decide)
  obtain ⟨rK, erK⟩ : ∃ z, kR κ mm 4 = z := ⟨_, rfl⟩
  have trK : zk σ0 rK 29 := by rw [← erK]; exact hT.kr (hT.ref (hT.k t_mm (by decide)) (by decide) (by decide) (by decide)) (by decide) (by decide)
  obtain ⟨hlen, ⟨hal, hnn⟩, ⟨hco, hpo⟩, hkp⟩ := hrel
  rw [etx] at hlen hal hco hpo
  rw [erB, erT] at hal
  rw [erT] at hnn
  rw [erI, erK] at hkp
  have btx := (hT.P (hT.k ttx (by decide)) (by decide)).1
  have btxl := btx.1
  have btxh := btx.2
  obtain ⟨nw, enw⟩ : ∃ z, kR κ x 3 = z := ⟨_, rfl⟩
  have tnw : zk σ0 nw 3 := by rw [← enw]; exact hT.kr (hT.ref (hT.k t_x (by decide)) (by decide) (by decide) (by decide)) (by decide) (by decide)
  obtain ⟨tr, etr⟩ : ∃ z, kR κ x 4 = z := ⟨_, rfl⟩
  have ttr : zk σ0 tr 3 := by rw [← etr]; exact hT.kr (hT.ref (hT.k t_x (by decide)) (by decide) (by decide) (by decide)) (by decide) (by decide)
  obtain ⟨rs5, ers5⟩ : ∃ z, kR κ x 5 = z := ⟨_, rfl⟩
  have trs5 : zk σ0 rs5 12 := by rw [← ers5]; exact hT.kr (hT.ref (hT.k t_x (by decide)) (by decide) (by decide) (by decide)) (by decide) (by decide)
  obtain ⟨sl0, esl0⟩ : ∃ z, kR κ rs5 0 = z := ⟨_, rfl⟩
  have tsl0 : zk σ0 sl0 3 := by rw [← esl0]; exact hT.kr (hT.ref (hT.k trs5 (by decide)) (by decide) (by decide) (by decide)) (by decide) (by decide)
  obtain ⟨sl1, esl1⟩ : ∃ z, kR κ rs5 1 = z := ⟨_, rfl⟩
  have tsl1 : zk σ0 sl1 3 := by rw [← esl1]; exact hT.kr (hT.ref (hT.k trs5 (by decide)) (by decide) (by decide) (by decide)) (by decide) (by decide)
  obtain ⟨rW, erW⟩ : ∃ z, kR κ mm 1 = z := ⟨_, rfl⟩
  have trW : zk σ0 rW 21 := by rw [← erW]; exact hT.kr (hT.ref (hT.k t_mm (by decide)) (by decide) (by decide) (by decide)) (by decide) (by decide)
  obtain ⟨rS, erS⟩ : ∃ z, kR κ mm 3 = z := ⟨_, rfl⟩
  have trS : zk σ0 rS 22 := by rw [← erS]; exact hT.kr (hT.ref (hT.k t_mm (by decide)) (by decide) (by decide) (by decide)) (by decide) (by decide)
  obtain ⟨hnw, hsl⟩ := hsr
  obtain ⟨hd1, ⟨hd2, hd3⟩, hd4, hd5⟩ := hdis
  have d_nt : nw ≠ tr := by rw [← enw, ← etr]; exact hd2
  have d_n0 : nw ≠ sl0 := by rw [← enw, ← esl0, ← ers5]; exact hd3 0 (by decide)
  have d_t0 : sl0 ≠ tr := by rw [← etr, ← esl0, ← ers5]; exact fun q => hd4 0 (by decide) q.symm
  have d_n1 : nw ≠ sl1 := by rw [← enw, ← esl1, ← ers5]; exact hd3 1 (by decide)
  have d_t1 : sl1 ≠ tr := by rw [← etr, ← esl1, ← ers5]; exact fun q => hd4 1 (by decide) q.symm
  have d_01 : sl0 ≠ sl1 := by rw [← esl0, ← esl1, ← ers5]; exact hd5
  have knw : zk σ nw 3 := hT.k tnw (by decide)
  have ksl0 : zk σ sl0 3 := hT.k tsl0 (by decide)
  have ksl1 : zk σ sl1 3 := hT.k tsl1 (by decide)
  refine lv_aload_n hx hb dL_law_293 rfl (lv_at hl 3 rfl) ?_
  refine lv_aload_n hx hb dL_law_294 rfl (lv_at hl 4 rfl) ?_
  refine lv_iload hx hb dL_law_295 (lv_at hl 0 rfl) ?_
  refine lv_iconst (v := 1) hx hb dL_law_297 (by decide) ?_
  refine lv_iadd hx hb dL_law_298 ?_
  refine g_add (by omega) (by omega) (fun t1 ht1 => ?_)
  refine va_sld hx hb hXs hbl hbA hT.2.2.2 (g_in (by omega) (by omega)) dL_law_299 ?_
  refine ti y1 (by rw [hy1]; exact congrArg xs (show t1.toNatClampNeg = ix i + 1 from by show t1.toInt.toNat = ix i + 1; unfold ix; omega)) ?_
  refine lv_aload_n hx hb dL_law_300 rfl (lv_at hl 1 rfl) ?_
  have hTo := hT
  refine tHi (n := 3) (As := [.ref x, .int y1, .ref out]) (rest := []) hx hb hml hown hg hT hK hX (L_truncate l κ σ x y1 out (hT.k t_x (by decide)) (hT.k t_out (by decide)) hlt) sub_hfTr_fA (mwHS k602 k603 k83 k604) ⟨by decide, by decide, by decide +kernel⟩ ⟨(Nat.le_of_ble_eq_true rfl), (Nat.le_of_ble_eq_true rfl)⟩ rfl hl.1 rfl (Nat.le_of_ble_eq_true rfl) dL_law_301 zx (fun r3 s2 H locs hφ hE hT => ?_)
  have f4 := hφ
  rw [etx] at f4
  have R5 := hR.ext hE ⟨rfl, rfl, fun _ => rfl, fun _ => rfl, fun _ => rfl, fun _ => rfl⟩
  have j6 : zI s2 rB = zI σ rB := (show zI s2 rB = zI σ rB from funext fun k => (hTo.k trB (by decide)).eI hE (by decide) rfl)
  have j7 : zI s2 rT = zI σ rT := (show zI s2 rT = zI σ rT from funext fun k => (hTo.k trT (by decide)).eI hE (by decide) rfl)
  have j8 : zI s2 rI = zI σ rI := (show zI s2 rI = zI σ rI from funext fun k => (hTo.k trI (by decide)).eI hE (by decide) rfl)
  have j9 : zI s2 rK = zI σ rK := (show zI s2 rK = zI σ rK from funext fun k => (hTo.k trK (by decide)).eI hE (by decide) rfl)
  have j10 : zI s2 tx 2 = zI σ tx 2 := (hTo.k ttx (by decide)).eI hE (by decide) rfl
  have j11 : zI s2 tx 3 = zI σ tx 3 := (hTo.k ttx (by decide)).eI hE (by decide) rfl
  have j12 : zI s2 mm 15 = zI σ mm 15 := (hTo.k t_mm (by decide)).eI hE (by decide) rfl
  have j13 : zI s2 mm 16 = zI σ mm 16 := (hTo.k t_mm (by decide)).eI hE (by decide) rfl
  have n14 : zI s2 nw 7 = zI σ nw 7 ∧ zI s2 nw 8 = zI σ nw 8 ∧ zI s2 nw 9 = zI σ nw 9 := ⟨(hTo.k tnw (by decide)).eI hE (by decide) rfl, (hTo.k tnw (by decide)).eI hE (by decide) rfl, (hTo.k tnw (by decide)).eI hE (by decide) rfl⟩
  have n15 : zI s2 sl0 7 = zI σ sl0 7 ∧ zI s2 sl0 8 = zI σ sl0 8 ∧ zI s2 sl0 9 = zI σ sl0 9 := ⟨(hTo.k tsl0 (by decide)).eI hE (by decide) rfl, (hTo.k tsl0 (by decide)).eI hE (by decide) rfl, (hTo.k tsl0 (by decide)).eI hE (by decide) rfl⟩
  have n16 : zI s2 sl1 7 = zI σ sl1 7 ∧ zI s2 sl1 8 = zI σ sl1 8 ∧ zI s2 sl1 9 = zI σ sl1 9 := ⟨(hTo.k tsl1 (by decide)).eI hE (by decide) rfl, (hTo.k tsl1 (by decide)).eI hE (by decide) rfl, (hTo.k tsl1 (by decide)).eI hE (by decide) rfl⟩
  have n17 : ∀ j : Nat, j < 3 → zJ s2 rW j = zJ σ rW j := fun j hj => (hTo.k trW (by decide)).eJ hE (by decide) rfl
  have n18 : zJ s2 rS = zJ σ rS := (show zJ s2 rS = zJ σ rS from funext fun k => (hTo.k trS (by decide)).eJ hE (by decide) rfl)
  have a19 : (zI s2 mm 13).toInt = (zI σ mm 13).toInt := by rw [(hTo.k t_mm (by decide)).eI hE (by decide) rfl]
  refine lv_istore (lv' := [(5, .int r3), (4, .int i), (3, .ref out), (2, .ref mm), (1, .ref x), (0, .ref b)]) hx hb dL_law_304 hl (by decide) rfl (fun ls hl => ?_)
  refine lv_aload_n hx hb dL_law_306 rfl (lv_at hl 3 rfl) ?_
  refine lv_aload_n hx hb dL_law_307 rfl (lv_at hl 5 rfl) ?_
  refine lv_iload hx hb dL_law_308 (lv_at hl 1 rfl) ?_
  refine lv_iconst (v := 1) hx hb dL_law_310 (by decide) ?_
  refine lv_iadd hx hb dL_law_311 ?_
  refine g_add (by omega) (by omega) (fun t20 ht20 => ?_)
  refine va_sld hx hb hXs hbl hbA hT.2.2.2 (g_in (by omega) (by omega)) dL_law_312 ?_
  refine ti y1 (by rw [hy1]; exact congrArg xs (show t20.toNatClampNeg = ix i + 1 from by show t20.toInt.toNat = ix i + 1; unfold ix; omega)) ?_
  have hTo := hT
  refine tVi (n := 1) (As := [.int y1]) (rest := []) hx hb hml hown hg hT hK hX (X6_truncate l (kX κ) s2 mm y1 (hT.k t_mm (by decide)) R5) sub_gTr_fA (mwV k1309 k1310 k1311 k92 k1312) ⟨rfl, by decide, by decide, by decide +kernel⟩ ⟨(Nat.le_of_ble_eq_true rfl), (Nat.le_of_ble_eq_true rfl)⟩ (hT.o20 (hT.k t_mm (by decide))) rfl rfl hl.1 rfl (Nat.le_of_ble_eq_true rfl) dL_law_313 zx (fun r22 s21 H locs hφ hE hT => ?_)
  obtain ⟨f23, f24⟩ := hφ
  have a25 : (zI s21 tx 1).toInt = (zI s2 tx 1).toInt := by rw [(hTo.k ttx (by decide)).eI hE (by decide) rfl]
  have j26 : zI s21 rB = zI σ rB := ((show zI s21 rB = zI s2 rB from funext fun k => (hTo.k trB (by decide)).eI hE (by decide) rfl)).trans j6
  have j27 : zI s21 rT = zI σ rT := ((show zI s21 rT = zI s2 rT from funext fun k => (hTo.k trT (by decide)).eI hE (by decide) rfl)).trans j7
  have j28 : zI s21 rI = zI σ rI := ((show zI s21 rI = zI s2 rI from funext fun k => (hTo.k trI (by decide)).eI hE (by decide) rfl)).trans j8
  have j29 : zI s21 rK = zI σ rK := ((show zI s21 rK = zI s2 rK from funext fun k => (hTo.k trK (by decide)).eI hE (by decide) rfl)).trans j9
  have j30 : zI s21 tx 2 = zI σ tx 2 := ((hTo.k ttx (by decide)).eI hE (by decide) rfl).trans j10
  have j31 : zI s21 tx 3 = zI σ tx 3 := ((hTo.k ttx (by decide)).eI hE (by decide) rfl).trans j11
  have j32 : zI s21 mm 15 = zI σ mm 15 := ((hTo.k t_mm (by decide)).eI hE (by decide) rfl).trans j12
  have j33 : zI s21 mm 16 = zI σ mm 16 := ((hTo.k t_mm (by decide)).eI hE (by decide) rfl).trans j13
  have n34 : zI s21 nw 7 = zI s2 nw 7 ∧ zI s21 nw 8 = zI s2 nw 8 ∧ zI s21 nw 9 = zI s2 nw 9 := ⟨(hTo.k tnw (by decide)).eI hE (by decide) rfl, (hTo.k tnw (by decide)).eI hE (by decide) rfl, (hTo.k tnw (by decide)).eI hE (by decide) rfl⟩
  have n35 : zI s21 nw 7 = zI σ nw 7 ∧ zI s21 nw 8 = zI σ nw 8 ∧ zI s21 nw 9 = zI σ nw 9 := ⟨n34.1.trans n14.1, n34.2.1.trans n14.2.1, n34.2.2.trans n14.2.2⟩
  have n36 : zI s21 sl0 7 = zI s2 sl0 7 ∧ zI s21 sl0 8 = zI s2 sl0 8 ∧ zI s21 sl0 9 = zI s2 sl0 9 := ⟨(hTo.k tsl0 (by decide)).eI hE (by decide) rfl, (hTo.k tsl0 (by decide)).eI hE (by decide) rfl, (hTo.k tsl0 (by decide)).eI hE (by decide) rfl⟩
  have n37 : zI s21 sl0 7 = zI σ sl0 7 ∧ zI s21 sl0 8 = zI σ sl0 8 ∧ zI s21 sl0 9 = zI σ sl0 9 := ⟨n36.1.trans n15.1, n36.2.1.trans n15.2.1, n36.2.2.trans n15.2.2⟩
  have n38 : zI s21 sl1 7 = zI s2 sl1 7 ∧ zI s21 sl1 8 = zI s2 sl1 8 ∧ zI s21 sl1 9 = zI s2 sl1 9 := ⟨(hTo.k tsl1 (by decide)).eI hE (by decide) rfl, (hTo.k tsl1 (by decide)).eI hE (by decide) rfl, (hTo.k tsl1 (by decide)).eI hE (by decide) rfl⟩
  have n39 : zI s21 sl1 7 = zI σ sl1 7 ∧ zI s21 sl1 8 = zI σ sl1 8 ∧ zI s21 sl1 9 = zI σ sl1 9 := ⟨n38.1.trans n16.1, n38.2.1.trans n16.2.1, n38.2.2.trans n16.2.2⟩
  have n40 : ∀ j : Nat, j < 3 → zJ s21 rW j = zJ s2 rW j := fun j hj => (hTo.k trW (by decide)).eJ hE (by decide) rfl
  have n41 : ∀ j : Nat, j < 3 → zJ s21 rW j = zJ σ rW j := fun j hj => (n40 j hj).trans (n17 j hj)
  have n42 : zJ s21 rS = zJ σ rS := (show zJ s21 rS = zJ s2 rS from funext fun k => (hTo.k trS (by decide)).eJ hE (by decide) rfl).trans n18
  refine lv_istore (lv' := [(6, .int r22), (5, .int r3), (4, .int i), (3, .ref out), (2, .ref mm), (1, .ref x), (0, .ref b)]) hx hb dL_law_316 hl (by decide) rfl (fun ls hl => ?_)
  refine lv_goto (tgt := 1404) hx hb dL_law_318 (by decide) ?_
  have sl0f : zI s21 rI 0 ≠ 0 → SLT κ s21 x mm 0 := fun hq => (hsl 0 (by decide) (fun q9 => hq (by rw [erI] at q9; rw [j28]; exact q9))).tr (by rw [ers5, esl0]; exact n37) (fun j hj => by rw [erS, n42])
  have sl1f : zI s21 rI 1 ≠ 0 → SLT κ s21 x mm 1 := fun hq => (hsl 1 (by decide) (fun q9 => hq (by rw [erI] at q9; rw [j28]; exact q9))).tr (by rw [ers5, esl1]; exact n39) (fun j hj => by rw [erS, n42])
  exact KK s21 _ _ _ hT f23 ⟨by rw [etx]; omega, ⟨by rw [etx, erB, erT, j26, j27]; exact tal_less hal (by omega), by rw [erT, j27]; exact tnn_less hnn (by omega)⟩, ⟨by rw [etx, j30, j32]; exact hco, by rw [etx, j31, j33]; exact hpo⟩, fun i hi => by rw [erI, erK, j28, j29]; exact hkp i hi⟩ (⟨hnw.tr (by rw [enw]; exact n35) (by rw [erW]; exact n41), fun i hi => (show i = 0 ∨ i = 1 by omega).elim (fun e9 => by rw [e9, erI]; exact sl0f) (fun e9 => by rw [e9, erI]; exact sl1f)⟩) (lv_sub hl [2, 3, 4, 5, 6] rfl)
set_option maxHeartbeats 4000000 in
set_option maxRecDepth 100000 in
theorem lc_5 (l : Launch) (κ : Kt) (σ0 : Gh) (x mm out b : Nat) (t_x : zk σ0 x 7) (t_mm : zk σ0 mm 20) (t_out : zk σ0 out 24) (ttx0 : zk σ0 (kR κ x 0) 6) (hdis : DIS κ x) (hlt : l.stackTraces = false) {p : Program} {e : Env} {s : State} {m : MethodId} {below : List Frame} {meth : Method} {c : Code} {L : Nat} {xs : Nat → Int32} {i : Int32} {Q9 : State → Prop} (hx : p.tables.exec = Jvm.exec) (hb : c.code = cL_law) (hml : c.maxLocals = 9) (hown : s.vm.findClass RL = some m.cls) (hg : ∀ w ∈ GW, w.before #[Value.ref b] s = true) (hK : va_K κ.1 vwCl (kTy κ) s) (hX : XY κ (tA σ0 s.heap.size) s s.heap) (hXs : va_X b L xs s s.heap) (hbl : b < s.heap.size) (hbA : ¬ tA σ0 s.heap.size b) (zx : zroomX κ s room_1 601024 7293034) (hi0 : 0 ≤ i.toInt) (hi1 : i.toInt + 6 ≤ L) (hL9 : L ≤ 3072) {σ : Gh} {H : Heap} {locs : List Loc} {ls : Array Slot} (hT : TS κ fA σ0 σ s H locs) (hR : RI κ σ mm) (hrel : LREL κ σ x mm) (hsr : SREL κ σ x mm) (hl : lv_has ls 9 [(4, .int i), (3, .ref out), (2, .ref mm), (1, .ref x), (0, .ref b)]) (KK : ∀ (σ1 : Gh) (H : Heap) (locs : List Loc) (ls : Array Slot), TS (kX κ) fA σ0 σ1 s H locs → RI (kX κ) σ1 mm → LREL κ σ1 x mm → SREL κ σ1 x mm → lv_has ls 9 [(4, .int i), (3, .ref out), (2, .ref mm), (1, .ref x), (0, .ref b)] → W p l e room_1 s m #[Value.ref b] below meth c H locs 601024 7293034 Q9 (F0 m 1404 ls [])) : W p l e room_1 s m #[Value.ref b] below meth c H locs 601024 7293034 Q9 (F0 m 363 ls []) := by
  obtain ⟨y1, hy1⟩ : ∃ z, z = xs (ix i + 1) := ⟨_, rfl⟩
  obtain ⟨y2, hy2⟩ : ∃ z, z = xs (ix i + 2) := ⟨_, rfl⟩
  obtain ⟨y3, hy3⟩ : ∃ z, z = xs (ix i + 3) := ⟨_, rfl⟩
  obtain ⟨y4, hy4⟩ : ∃ z, z = xs (ix i + 4) := ⟨_, rfl⟩
  obtain ⟨y5, hy5⟩ : ∃ z, z = xs (ix i + 5) := ⟨_, rfl⟩
  have n0 : (0 : Int32).toInt = 0 := by decide
  have n1 : (1 : Int32).toInt = 1 := by decide
  have n2 : (2 : Int32).toInt = 2 := by decide
  have n3 : (3 : Int32).toInt = 3 := by decide
  have n4 : (4 : Int32).toInt = 4 := by decide
  have n5 : (5 : Int32).toInt = 5 := by decide
  obtain ⟨tx, etx⟩ : ∃ z, kR κ x 0 = z := ⟨_, rfl⟩
  have ttx : zk σ0 tx 6 := by rw [← etx]; exact ttx0
  obtain ⟨rB, erB⟩ : ∃ z, kR κ tx 0 = z := ⟨_, rfl⟩
  have trB : zk σ0 rB 14 := by rw [← erB]; exact hT.kr (hT.ref (hT.k ttx (by decide)) (by decide) (by decide) (by decide)) (by decide) (by decide)
  obtain ⟨rT, erT⟩ : ∃ z, kR κ mm 12 = z := ⟨_, rfl⟩
  have trT : zk σ0 rT 23 := by rw [← erT]; exact hT.kr (hT.ref (hT.k t_mm (by decide)) (by decide) (by decide) (by decide)) (by decide) (by decide)
  obtain ⟨rI, erI⟩ : ∃ z, kR κ x 6 = z := ⟨_, rfl⟩
  have trI : zk σ0 rI 13 := by rw [← erI]; exact hT.kr (hT.ref (hT.k t_x (by decide)) (by decide) (by decide) (by decide)) (by decide) (by decide)
  obtain ⟨rK, erK⟩ : ∃ z, kR κ mm 4 = z := ⟨_, rfl⟩
  have trK : zk σ0 rK 29 := by rw [← erK]; exact hT.kr (hT.ref (hT.k t_mm (by decide)) (by decide) (by decide) (by decide)) (by decide) (by decide)
  obtain ⟨hlen, ⟨hal, hnn⟩, ⟨hco, hpo⟩, hkp⟩ := hrel
  rw [etx] at hlen hal hco hpo
  rw [erB, erT] at hal
  rw [erT] at hnn
  rw [erI, erK] at hkp
  have btx := (hT.P (hT.k ttx (by decide)) (by decide)).1
  have btxl := btx.1
  have btxh := btx.2
  obtain ⟨nw, enw⟩ : ∃ z, kR κ x 3 = z := ⟨_, rfl⟩
  have tnw : zk σ0 nw 3 := by rw [← enw]; exact hT.kr (hT.ref (hT.k t_x (by decide)) (by decide) (by decide) (by decide)) (by decide) (by decide)
  obtain ⟨tr, etr⟩ : ∃ z, kR κ x 4 = z := ⟨_, rfl⟩
  have ttr : zk σ0 tr 3 := by rw [← etr]; exact hT.kr (hT.ref (hT.k t_x (by decide)) (by decide) (by decide) (by decide)) (by decide) (by decide)
  obtain ⟨rs5, ers5⟩ : ∃ z, kR κ x 5 = z := ⟨_, rfl⟩
  have trs5 : zk σ0 rs5 12 := by rw [← ers5]; exact hT.kr (hT.ref (hT.k t_x (by decide)) (by decide) (by decide) (by decide)) (by decide) (by decide)
  obtain ⟨sl0, esl0⟩ : ∃ z, kR κ rs5 0 = z := ⟨_, rfl⟩
  have tsl0 : zk σ0 sl0 3 := by rw [← esl0]; exact hT.kr (hT.ref (hT.k trs5 (by decide)) (by decide) (by decide) (by decide)) (by decide) (by decide)
  obtain ⟨sl1, esl1⟩ : ∃ z, kR κ rs5 1 = z := ⟨_, rfl⟩
  have tsl1 : zk σ0 sl1 3 := by rw [← esl1]; exact hT.kr (hT.ref (hT.k trs5 (by decide)) (by decide) (by decide) (by decide)) (by decide) (by decide)
  obtain ⟨rW, erW⟩ : ∃ z, kR κ mm 1 = z := ⟨_, rfl⟩
  have trW : zk σ0 rW 21 := by rw [← erW]; exact hT.kr (hT.ref (hT.k t_mm (by decide)) (by decide) (by decide) (by decide)) (by decide) (by decide)
  obtain ⟨rS, erS⟩ : ∃ z, kR κ mm 3 = z := ⟨_, rfl⟩
  have trS : zk σ0 rS 22 := by rw [← erS]; exact hT.kr (hT.ref (hT.k t_mm (by decide)) (by decide) (by decide) (by decide)) (by decide) (by decide)
  obtain ⟨hnw, hsl⟩ := hsr
  obtain ⟨hd1, ⟨hd2, hd3⟩, hd4, hd5⟩ := hdis
  have d_nt : nw ≠ tr := by rw [← enw, ← etr]; exact hd2
  have d_n0 : nw ≠ sl0 := by rw [← enw, ← esl0, ← ers5]; exact hd3 0 (by decide)
  have d_t0 : sl0 ≠ tr := by rw [← etr, ← esl0, ← ers5]; exact fun q => hd4 0 (by decide) q.symm
  have d_n1 : nw ≠ sl1 := by rw [← enw, ← esl1, ← ers5]; exact hd3 1 (by decide)
  have d_t1 : sl1 ≠ tr := by rw [← etr, ← esl1, ← ers5]; exact fun q => hd4 1 (by decide) q.symm
  have d_01 : sl0 ≠ sl1 := by rw [← esl0, ← esl1, ← ers5]; exact hd5
  have knw : zk σ nw 3 := hT.k tnw (by decide)
  have ksl0 : zk σ sl0 3 := hT.k tsl0 (by decide)
  have ksl1 : zk σ sl1 3 := hT.k tsl1 (by decide)
  refine lv_aload_n hx hb dL_law_363 rfl (lv_at hl 3 rfl) ?_
  refine lv_aload_n hx hb dL_law_364 rfl (lv_at hl 4 rfl) ?_
  refine lv_iload hx hb dL_law_365 (lv_at hl 0 rfl) ?_
  refine lv_iconst (v := 1) hx hb dL_law_367 (by decide) ?_
  refine lv_iadd hx hb dL_law_368 ?_
  refine g_add (by omega) (by omega) (fun t1 ht1 => ?_)
  refine va_sld hx hb hXs hbl hbA hT.2.2.2 (g_in (by omega) (by omega)) dL_law_369 ?_
  refine ti y1 (by rw [hy1]; exact congrArg xs (show t1.toNatClampNeg = ix i + 1 from by show t1.toInt.toNat = ix i + 1; unfold ix; omega)) ?_
  refine lv_aload_n hx hb dL_law_370 rfl (lv_at hl 1 rfl) ?_
  have hTo := hT
  refine tHi (n := 3) (As := [.ref x, .int y1, .ref out]) (rest := []) hx hb hml hown hg hT hK hX (L_count l κ σ x y1 out (hT.k t_x (by decide)) (hT.k t_out (by decide)) hlt) sub_hfE_fA (mwHS k834 k835 k83 k836) ⟨by decide, by decide, by decide +kernel⟩ ⟨(Nat.le_of_ble_eq_true rfl), (Nat.le_of_ble_eq_true rfl)⟩ rfl hl.1 rfl (Nat.le_of_ble_eq_true rfl) dL_law_371 zx (fun r3 s2 H locs hφ hE hT => ?_)
  have R4 := hR.ext hE ⟨rfl, rfl, fun _ => rfl, fun _ => rfl, fun _ => rfl, fun _ => rfl⟩
  have a5 : (zI s2 tx 1).toInt = (zI σ tx 1).toInt := by rw [(hTo.k ttx (by decide)).eI hE (by decide) rfl]
  have j6 : zI s2 rB = zI σ rB := (show zI s2 rB = zI σ rB from funext fun k => (hTo.k trB (by decide)).eI hE (by decide) rfl)
  have j7 : zI s2 rT = zI σ rT := (show zI s2 rT = zI σ rT from funext fun k => (hTo.k trT (by decide)).eI hE (by decide) rfl)
  have j8 : zI s2 rI = zI σ rI := (show zI s2 rI = zI σ rI from funext fun k => (hTo.k trI (by decide)).eI hE (by decide) rfl)
  have j9 : zI s2 rK = zI σ rK := (show zI s2 rK = zI σ rK from funext fun k => (hTo.k trK (by decide)).eI hE (by decide) rfl)
  have j10 : zI s2 tx 2 = zI σ tx 2 := (hTo.k ttx (by decide)).eI hE (by decide) rfl
  have j11 : zI s2 tx 3 = zI σ tx 3 := (hTo.k ttx (by decide)).eI hE (by decide) rfl
  have j12 : zI s2 mm 15 = zI σ mm 15 := (hTo.k t_mm (by decide)).eI hE (by decide) rfl
  have j13 : zI s2 mm 16 = zI σ mm 16 := (hTo.k t_mm (by decide)).eI hE (by decide) rfl
  have n14 : zI s2 nw 7 = zI σ nw 7 ∧ zI s2 nw 8 = zI σ nw 8 ∧ zI s2 nw 9 = zI σ nw 9 := ⟨(hTo.k tnw (by decide)).eI hE (by decide) rfl, (hTo.k tnw (by decide)).eI hE (by decide) rfl, (hTo.k tnw (by decide)).eI hE (by decide) rfl⟩
  have n15 : zI s2 sl0 7 = zI σ sl0 7 ∧ zI s2 sl0 8 = zI σ sl0 8 ∧ zI s2 sl0 9 = zI σ sl0 9 := ⟨(hTo.k tsl0 (by decide)).eI hE (by decide) rfl, (hTo.k tsl0 (by decide)).eI hE (by decide) rfl, (hTo.k tsl0 (by decide)).eI hE (by decide) rfl⟩
  have n16 : zI s2 sl1 7 = zI σ sl1 7 ∧ zI s2 sl1 8 = zI σ sl1 8 ∧ zI s2 sl1 9 = zI σ sl1 9 := ⟨(hTo.k tsl1 (by decide)).eI hE (by decide) rfl, (hTo.k tsl1 (by decide)).eI hE (by decide) rfl, (hTo.k tsl1 (by decide)).eI hE (by decide) rfl⟩
  have n17 : ∀ j : Nat, j < 3 → zJ s2 rW j = zJ σ rW j := fun j hj => (hTo.k trW (by decide)).eJ hE (by decide) rfl
  have n18 : zJ s2 rS = zJ σ rS := (show zJ s2 rS = zJ σ rS from funext fun k => (hTo.k trS (by decide)).eJ hE (by decide) rfl)
  have a19 : (zI s2 mm 13).toInt = (zI σ mm 13).toInt := by rw [(hTo.k t_mm (by decide)).eI hE (by decide) rfl]
  refine lv_istore (lv' := [(5, .int r3), (4, .int i), (3, .ref out), (2, .ref mm), (1, .ref x), (0, .ref b)]) hx hb dL_law_374 hl (by decide) rfl (fun ls hl => ?_)
  refine lv_aload_n hx hb dL_law_376 rfl (lv_at hl 3 rfl) ?_
  refine lv_aload_n hx hb dL_law_377 rfl (lv_at hl 5 rfl) ?_
  refine lv_iload hx hb dL_law_378 (lv_at hl 1 rfl) ?_
  refine lv_iconst (v := 1) hx hb dL_law_380 (by decide) ?_
  refine lv_iadd hx hb dL_law_381 ?_
  refine g_add (by omega) (by omega) (fun t20 ht20 => ?_)
  refine va_sld hx hb hXs hbl hbA hT.2.2.2 (g_in (by omega) (by omega)) dL_law_382 ?_
  refine ti y1 (by rw [hy1]; exact congrArg xs (show t20.toNatClampNeg = ix i + 1 from by show t20.toInt.toNat = ix i + 1; unfold ix; omega)) ?_
  have hTo := hT
  refine tVi (n := 1) (As := [.int y1]) (rest := []) hx hb hml hown hg hT hK hX (X6_count l (kX κ) s2 mm y1 (hT.k t_mm (by decide)) R4) sub_gR_fA (mwV k1403 k1404 k1405 k92 k1406) ⟨rfl, by decide, by decide, by decide +kernel⟩ ⟨(Nat.le_of_ble_eq_true rfl), (Nat.le_of_ble_eq_true rfl)⟩ (hT.o20 (hT.k t_mm (by decide))) rfl rfl hl.1 rfl (Nat.le_of_ble_eq_true rfl) dL_law_383 zx (fun r22 s21 H locs hφ hE hT => ?_)
  have R23 := R4.ext hE ⟨rfl, rfl, fun _ => rfl, fun _ => rfl, fun _ => rfl, fun _ => rfl⟩
  have a24 : (zI s21 tx 1).toInt = (zI s2 tx 1).toInt := by rw [(hTo.k ttx (by decide)).eI hE (by decide) rfl]
  have j25 : zI s21 rB = zI σ rB := ((show zI s21 rB = zI s2 rB from funext fun k => (hTo.k trB (by decide)).eI hE (by decide) rfl)).trans j6
  have j26 : zI s21 rT = zI σ rT := ((show zI s21 rT = zI s2 rT from funext fun k => (hTo.k trT (by decide)).eI hE (by decide) rfl)).trans j7
  have j27 : zI s21 rI = zI σ rI := ((show zI s21 rI = zI s2 rI from funext fun k => (hTo.k trI (by decide)).eI hE (by decide) rfl)).trans j8
  have j28 : zI s21 rK = zI σ rK := ((show zI s21 rK = zI s2 rK from funext fun k => (hTo.k trK (by decide)).eI hE (by decide) rfl)).trans j9
  have j29 : zI s21 tx 2 = zI σ tx 2 := ((hTo.k ttx (by decide)).eI hE (by decide) rfl).trans j10
  have j30 : zI s21 tx 3 = zI σ tx 3 := ((hTo.k ttx (by decide)).eI hE (by decide) rfl).trans j11
  have j31 : zI s21 mm 15 = zI σ mm 15 := ((hTo.k t_mm (by decide)).eI hE (by decide) rfl).trans j12
  have j32 : zI s21 mm 16 = zI σ mm 16 := ((hTo.k t_mm (by decide)).eI hE (by decide) rfl).trans j13
  have n33 : zI s21 nw 7 = zI s2 nw 7 ∧ zI s21 nw 8 = zI s2 nw 8 ∧ zI s21 nw 9 = zI s2 nw 9 := ⟨(hTo.k tnw (by decide)).eI hE (by decide) rfl, (hTo.k tnw (by decide)).eI hE (by decide) rfl, (hTo.k tnw (by decide)).eI hE (by decide) rfl⟩
  have n34 : zI s21 nw 7 = zI σ nw 7 ∧ zI s21 nw 8 = zI σ nw 8 ∧ zI s21 nw 9 = zI σ nw 9 := ⟨n33.1.trans n14.1, n33.2.1.trans n14.2.1, n33.2.2.trans n14.2.2⟩
  have n35 : zI s21 sl0 7 = zI s2 sl0 7 ∧ zI s21 sl0 8 = zI s2 sl0 8 ∧ zI s21 sl0 9 = zI s2 sl0 9 := ⟨(hTo.k tsl0 (by decide)).eI hE (by decide) rfl, (hTo.k tsl0 (by decide)).eI hE (by decide) rfl, (hTo.k tsl0 (by decide)).eI hE (by decide) rfl⟩
  have n36 : zI s21 sl0 7 = zI σ sl0 7 ∧ zI s21 sl0 8 = zI σ sl0 8 ∧ zI s21 sl0 9 = zI σ sl0 9 := ⟨n35.1.trans n15.1, n35.2.1.trans n15.2.1, n35.2.2.trans n15.2.2⟩
  have n37 : zI s21 sl1 7 = zI s2 sl1 7 ∧ zI s21 sl1 8 = zI s2 sl1 8 ∧ zI s21 sl1 9 = zI s2 sl1 9 := ⟨(hTo.k tsl1 (by decide)).eI hE (by decide) rfl, (hTo.k tsl1 (by decide)).eI hE (by decide) rfl, (hTo.k tsl1 (by decide)).eI hE (by decide) rfl⟩
  have n38 : zI s21 sl1 7 = zI σ sl1 7 ∧ zI s21 sl1 8 = zI σ sl1 8 ∧ zI s21 sl1 9 = zI σ sl1 9 := ⟨n37.1.trans n16.1, n37.2.1.trans n16.2.1, n37.2.2.trans n16.2.2⟩
  have n39 : ∀ j : Nat, j < 3 → zJ s21 rW j = zJ s2 rW j := fun j hj => (hTo.k trW (by decide)).eJ hE (by decide) rfl
  have n40 : ∀ j : Nat, j < 3 → zJ s21 rW j = zJ σ rW j := fun j hj => (n39 j hj).trans (n17 j hj)
  have n41 : zJ s21 rS = zJ σ rS := (show zJ s21 rS = zJ s2 rS from funext fun k => (hTo.k trS (by decide)).eJ hE (by decide) rfl).trans n18
  have a42 : (zI s21 mm 13).toInt = (zI s2 mm 13).toInt := by rw [(hTo.k t_mm (by decide)).eI hE (by decide) rfl]
  refine lv_istore (lv' := [(6, .int r22), (5, .int r3), (4, .int i), (3, .ref out), (2, .ref mm), (1, .ref x), (0, .ref b)]) hx hb dL_law_386 hl (by decide) rfl (fun ls hl => ?_)
  refine lv_goto (tgt := 1404) hx hb dL_law_388 (by decide) ?_
  have sl0f : zI s21 rI 0 ≠ 0 → SLT κ s21 x mm 0 := fun hq => (hsl 0 (by decide) (fun q9 => hq (by rw [erI] at q9; rw [j27]; exact q9))).tr (by rw [ers5, esl0]; exact n36) (fun j hj => by rw [erS, n41])
  have sl1f : zI s21 rI 1 ≠ 0 → SLT κ s21 x mm 1 := fun hq => (hsl 1 (by decide) (fun q9 => hq (by rw [erI] at q9; rw [j27]; exact q9))).tr (by rw [ers5, esl1]; exact n38) (fun j hj => by rw [erS, n41])
  exact KK s21 _ _ _ hT R23 ⟨by rw [etx]; omega, ⟨by rw [etx, erB, erT, j25, j26]; exact tal_less hal (by omega), by rw [erT, j26]; exact tnn_less hnn (by omega)⟩, ⟨by rw [etx, j29, j31]; exact hco, by rw [etx, j30, j32]; exact hpo⟩, fun i hi => by rw [erI, erK, j27, j28]; exact hkp i hi⟩ (⟨hnw.tr (by rw [enw]; exact n34) (by rw [erW]; exact n40), fun i hi => (show i = 0 ∨ i = 1 by omega).elim (fun e9 => by rw [e9, erI]; exact sl0f) (fun e9 => by rw [e9, erI]; exact sl1f)⟩) (lv_sub hl [2, 3, 4, 5, 6] rfl)
set_option maxHeartbeats 4000000 in
set_option maxRecDepth 100000 in
theorem lc_6 (l : Launch) (κ : Kt) (σ0 : Gh) (x mm out b : Nat) (t_x : zk σ0 x 7) (t_mm : zk σ0 mm 20) (t_out : zk σ0 out 24) (ttx0 : zk σ0 (kR κ x 0) 6) (hdis : DIS κ x) (hlt : l.stackTraces = false) {p : Program} {e : Env} {s : State} {m : MethodId} {below : List Frame} {meth : Method} {c : Code} {L : Nat} {xs : Nat → Int32} {i : Int32} {Q9 : State → Prop} (hx : p.tables.exec = Jvm.exec) (hb : c.code = cL_law) (hml : c.maxLocals = 9) (hown : s.vm.findClass RL = some m.cls) (hg : ∀ w ∈ GW, w.before #[Value.ref b] s = true) (hK : va_K κ.1 vwCl (kTy κ) s) (hX : XY κ (tA σ0 s.heap.size) s s.heap) (hXs : va_X b L xs s s.heap) (hbl : b < s.heap.size) (hbA : ¬ tA σ0 s.heap.size b) (zx : zroomX κ s room_1 601024 7293034) (hi0 : 0 ≤ i.toInt) (hi1 : i.toInt + 6 ≤ L) (hL9 : L ≤ 3072) {σ : Gh} {H : Heap} {locs : List Loc} {ls : Array Slot} (hT : TS κ fA σ0 σ s H locs) (hR : RI κ σ mm) (hrel : LREL κ σ x mm) (hsr : SREL κ σ x mm) (hl : lv_has ls 9 [(4, .int i), (3, .ref out), (2, .ref mm), (1, .ref x), (0, .ref b)]) (KK : ∀ (σ1 : Gh) (H : Heap) (locs : List Loc) (ls : Array Slot), TS (kX κ) fA σ0 σ1 s H locs → RI (kX κ) σ1 mm → LREL κ σ1 x mm → SREL κ σ1 x mm → lv_has ls 9 [(4, .int i), (3, .ref out), (2, .ref mm), (1, .ref x), (0, .ref b)] → W p l e room_1 s m #[Value.ref b] below meth c H locs 601024 7293034 Q9 (F0 m 1404 ls [])) : W p l e room_1 s m #[Value.ref b] below meth c H locs 601024 7293034 Q9 (F0 m 391 ls []) := by
  obtain ⟨y1, hy1⟩ : ∃ z, z = xs (ix i + 1) := ⟨_, rfl⟩
  obtain ⟨y2, hy2⟩ : ∃ z, z = xs (ix i + 2) := ⟨_, rfl⟩
  obtain ⟨y3, hy3⟩ : ∃ z, z = xs (ix i + 3) := ⟨_, rfl⟩
  obtain ⟨y4, hy4⟩ : ∃ z, z = xs (ix i + 4) := ⟨_, rfl⟩
  obtain ⟨y5, hy5⟩ : ∃ z, z = xs (ix i + 5) := ⟨_, rfl⟩
  have n0 : (0 : Int32).toInt = 0 := by decide
  have n1 : (1 : Int32).toInt = 1 := by decide
  have n2 : (2 : Int32).toInt = 2 := by decide
  have n3 : (3 : Int32).toInt = 3 := by decide
  have n4 : (4 : Int32).toInt = 4 := by decide
  have n5 : (5 : Int32).toInt = 5 := by decide
  obtain ⟨tx, etx⟩ : ∃ z, kR κ x 0 = z := ⟨_, rfl⟩
  have ttx : zk σ0 tx 6 := by rw [← etx]; exact ttx0
  obtain ⟨rB, erB⟩ : ∃ z, kR κ tx 0 = z := ⟨_, rfl⟩
  have trB : zk σ0 rB 14 := by rw [← erB]; exact hT.kr (hT.ref (hT.k ttx (by decide)) (by decide) (by decide) (by decide)) (by decide) (by decide)
  obtain ⟨rT, erT⟩ : ∃ z, kR κ mm 12 = z := ⟨_, rfl⟩
  have trT : zk σ0 rT 23 := by rw [← erT]; exact hT.kr (hT.ref (hT.k t_mm (by decide)) (by decide) (by decide) (by decide)) (by decide) (by decide)
  obtain ⟨rI, erI⟩ : ∃ z, kR κ x 6 = z := ⟨_, rfl⟩
  have trI : zk σ0 rI 13 := by rw [← erI]; exact hT.kr (hT.ref (hT.k t_x (by decide)) (by decide) (by decide) (by decide)) (by decide) (by decide)
  obtain ⟨rK, erK⟩ : ∃ z, kR κ mm 4 = z := ⟨_, rfl⟩
  have trK : zk σ0 rK 29 := by rw [← erK]; exact hT.kr (hT.ref (hT.k t_mm (by decide)) (by decide) (by decide) (by decide)) (by decide) (by decide)
  obtain ⟨hlen, ⟨hal, hnn⟩, ⟨hco, hpo⟩, hkp⟩ := hrel
  rw [etx] at hlen hal hco hpo
  rw [erB, erT] at hal
  rw [erT] at hnn
  rw [erI, erK] at hkp
  have btx := (hT.P (hT.k ttx (by decide)) (by decide)).1
  have btxl := btx.1
  have btxh := btx.2
  obtain ⟨nw, enw⟩ : ∃ z, kR κ x 3 = z := ⟨_, rfl⟩
  have tnw : zk σ0 nw 3 := by rw [← enw]; exact hT.kr (hT.ref (hT.k t_x (by decide)) (by decide) (by decide) (by decide)) (by decide) (by decide)
  obtain ⟨tr, etr⟩ : ∃ z, kR κ x 4 = z := ⟨_, rfl⟩
  have ttr : zk σ0 tr 3 := by rw [← etr]; exact hT.kr (hT.ref (hT.k t_x (by decide)) (by decide) (by decide) (by decide)) (by decide) (by decide)
  obtain ⟨rs5, ers5⟩ : ∃ z, kR κ x 5 = z := ⟨_, rfl⟩
  have trs5 : zk σ0 rs5 12 := by rw [← ers5]; exact hT.kr (hT.ref (hT.k t_x (by decide)) (by decide) (by decide) (by decide)) (by decide) (by decide)
  obtain ⟨sl0, esl0⟩ : ∃ z, kR κ rs5 0 = z := ⟨_, rfl⟩
  have tsl0 : zk σ0 sl0 3 := by rw [← esl0]; exact hT.kr (hT.ref (hT.k trs5 (by decide)) (by decide) (by decide) (by decide)) (by decide) (by decide)
  obtain ⟨sl1, esl1⟩ : ∃ z, kR κ rs5 1 = z := ⟨_, rfl⟩
  have tsl1 : zk σ0 sl1 3 := by rw [← esl1]; exact hT.kr (hT.ref (hT.k trs5 (by decide)) (by decide) (by decide) (by decide)) (by decide) (by decide)
  obtain ⟨rW, erW⟩ : ∃ z, kR κ mm 1 = z := ⟨_, rfl⟩
  have trW : zk σ0 rW 21 := by rw [← erW]; exact hT.kr (hT.ref (hT.k t_mm (by decide)) (by decide) (by decide) (by decide)) (by decide) (by decide)
  obtain ⟨rS, erS⟩ : ∃ z, kR κ mm 3 = z := ⟨_, rfl⟩
  have trS : zk σ0 rS 22 := by rw [← erS]; exact hT.kr (hT.ref (hT.k t_mm (by decide)) (by decide) (by decide) (by decide)) (by decide) (by decide)
  obtain ⟨hnw, hsl⟩ := hsr
  obtain ⟨hd1, ⟨hd2, hd3⟩, hd4, hd5⟩ := hdis
  have d_nt : nw ≠ tr := by rw [← enw, ← etr]; exact hd2
  have d_n0 : nw ≠ sl0 := by rw [← enw, ← esl0, ← ers5]; exact hd3 0 (by decide)
  have d_t0 : sl0 ≠ tr := by rw [← etr, ← esl0, ← ers5]; exact fun q => hd4 0 (by decide) q.symm
  have d_n1 : nw ≠ sl1 := by rw [← enw, ← esl1, ← ers5]; exact hd3 1 (by decide)
  have d_t1 : sl1 ≠ tr := by rw [← etr, ← esl1, ← ers5]; exact fun q => hd4 1 (by decide) q.symm
  have d_01 : sl0 ≠ sl1 := by rw [← esl0, ← esl1, ← ers5]; exact hd5
  have knw : zk σ nw 3 := hT.k tnw (by decide)
  have ksl0 : zk σ sl0 3 := hT.k tsl0 (by decide)
  have ksl1 : zk σ sl1 3 := hT.k tsl1 (by decide)
  refine lv_aload_n hx hb dL_law_391 rfl (lv_at hl 3 rfl) ?_
  refine lv_aload_n hx hb dL_law_392 rfl (lv_at hl 4 rfl) ?_
  refine lv_iload hx hb dL_law_393 (lv_at hl 0 rfl) ?_
  refine lv_iconst (v := 1) hx hb dL_law_395 (by decide) ?_
  refine lv_iadd hx hb dL_law_396 ?_
  refine g_add (by omega) (by omega) (fun t1 ht1 => ?_)
  refine va_sld hx hb hXs hbl hbA hT.2.2.2 (g_in (by omega) (by omega)) dL_law_397 ?_
  refine ti y1 (by rw [hy1]; exact congrArg xs (show t1.toNatClampNeg = ix i + 1 from by show t1.toInt.toNat = ix i + 1; unfold ix; omega)) ?_
  refine lv_aload_n hx hb dL_law_398 rfl (lv_at hl 4 rfl) ?_
  refine lv_iload hx hb dL_law_399 (lv_at hl 0 rfl) ?_
  refine lv_iconst (v := 2) hx hb dL_law_401 (by decide) ?_
  refine lv_iadd hx hb dL_law_402 ?_
  refine g_add (by omega) (by omega) (fun t2 ht2 => ?_)
  refine va_sld hx hb hXs hbl hbA hT.2.2.2 (g_in (by omega) (by omega)) dL_law_403 ?_
  refine ti y2 (by rw [hy2]; exact congrArg xs (show t2.toNatClampNeg = ix i + 2 from by show t2.toInt.toNat = ix i + 2; unfold ix; omega)) ?_
  refine lv_aload_n hx hb dL_law_404 rfl (lv_at hl 1 rfl) ?_
  have hTo := hT
  refine tHi (n := 4) (As := [.ref x, .int y1, .int y2, .ref out]) (rest := []) hx hb hml hown hg hT hK hX (L_sample l κ σ x y1 y2 out (hT.k t_x (by decide)) (hT.k t_out (by decide)) hlt) sub_hfE_fA (mwHS k854 k855 k83 k856) ⟨by decide, by decide, by decide +kernel⟩ ⟨(Nat.le_of_ble_eq_true rfl), (Nat.le_of_ble_eq_true rfl)⟩ rfl hl.1 rfl (Nat.le_of_ble_eq_true rfl) dL_law_405 zx (fun r4 s3 H locs hφ hE hT => ?_)
  have R5 := hR.ext hE ⟨rfl, rfl, fun _ => rfl, fun _ => rfl, fun _ => rfl, fun _ => rfl⟩
  have a6 : (zI s3 tx 1).toInt = (zI σ tx 1).toInt := by rw [(hTo.k ttx (by decide)).eI hE (by decide) rfl]
  have j7 : zI s3 rB = zI σ rB := (show zI s3 rB = zI σ rB from funext fun k => (hTo.k trB (by decide)).eI hE (by decide) rfl)
  have j8 : zI s3 rT = zI σ rT := (show zI s3 rT = zI σ rT from funext fun k => (hTo.k trT (by decide)).eI hE (by decide) rfl)
  have j9 : zI s3 rI = zI σ rI := (show zI s3 rI = zI σ rI from funext fun k => (hTo.k trI (by decide)).eI hE (by decide) rfl)
  have j10 : zI s3 rK = zI σ rK := (show zI s3 rK = zI σ rK from funext fun k => (hTo.k trK (by decide)).eI hE (by decide) rfl)
  have j11 : zI s3 tx 2 = zI σ tx 2 := (hTo.k ttx (by decide)).eI hE (by decide) rfl
  have j12 : zI s3 tx 3 = zI σ tx 3 := (hTo.k ttx (by decide)).eI hE (by decide) rfl
  have j13 : zI s3 mm 15 = zI σ mm 15 := (hTo.k t_mm (by decide)).eI hE (by decide) rfl
  have j14 : zI s3 mm 16 = zI σ mm 16 := (hTo.k t_mm (by decide)).eI hE (by decide) rfl
  have n15 : zI s3 nw 7 = zI σ nw 7 ∧ zI s3 nw 8 = zI σ nw 8 ∧ zI s3 nw 9 = zI σ nw 9 := ⟨(hTo.k tnw (by decide)).eI hE (by decide) rfl, (hTo.k tnw (by decide)).eI hE (by decide) rfl, (hTo.k tnw (by decide)).eI hE (by decide) rfl⟩
  have n16 : zI s3 sl0 7 = zI σ sl0 7 ∧ zI s3 sl0 8 = zI σ sl0 8 ∧ zI s3 sl0 9 = zI σ sl0 9 := ⟨(hTo.k tsl0 (by decide)).eI hE (by decide) rfl, (hTo.k tsl0 (by decide)).eI hE (by decide) rfl, (hTo.k tsl0 (by decide)).eI hE (by decide) rfl⟩
  have n17 : zI s3 sl1 7 = zI σ sl1 7 ∧ zI s3 sl1 8 = zI σ sl1 8 ∧ zI s3 sl1 9 = zI σ sl1 9 := ⟨(hTo.k tsl1 (by decide)).eI hE (by decide) rfl, (hTo.k tsl1 (by decide)).eI hE (by decide) rfl, (hTo.k tsl1 (by decide)).eI hE (by decide) rfl⟩
  have n18 : ∀ j : Nat, j < 3 → zJ s3 rW j = zJ σ rW j := fun j hj => (hTo.k trW (by decide)).eJ hE (by decide) rfl
  have n19 : zJ s3 rS = zJ σ rS := (show zJ s3 rS = zJ σ rS from funext fun k => (hTo.k trS (by decide)).eJ hE (by decide) rfl)
  have a20 : (zI s3 mm 13).toInt = (zI σ mm 13).toInt := by rw [(hTo.k t_mm (by decide)).eI hE (by decide) rfl]
  refine lv_istore (lv' := [(5, .int r4), (4, .int i), (3, .ref out), (2, .ref mm), (1, .ref x), (0, .ref b)]) hx hb dL_law_408 hl (by decide) rfl (fun ls hl => ?_)
  refine lv_aload_n hx hb dL_law_410 rfl (lv_at hl 3 rfl) ?_
  refine lv_aload_n hx hb dL_law_411 rfl (lv_at hl 5 rfl) ?_
  refine lv_iload hx hb dL_law_412 (lv_at hl 1 rfl) ?_
  refine lv_iconst (v := 1) hx hb dL_law_414 (by decide) ?_
  refine lv_iadd hx hb dL_law_415 ?_
  refine g_add (by omega) (by omega) (fun t21 ht21 => ?_)
  refine va_sld hx hb hXs hbl hbA hT.2.2.2 (g_in (by omega) (by omega)) dL_law_416 ?_
  refine ti y1 (by rw [hy1]; exact congrArg xs (show t21.toNatClampNeg = ix i + 1 from by show t21.toInt.toNat = ix i + 1; unfold ix; omega)) ?_
  refine lv_aload_n hx hb dL_law_417 rfl (lv_at hl 5 rfl) ?_
  refine lv_iload hx hb dL_law_418 (lv_at hl 1 rfl) ?_
  refine lv_iconst (v := 2) hx hb dL_law_420 (by decide) ?_
  refine lv_iadd hx hb dL_law_421 ?_
  refine g_add (by omega) (by omega) (fun t22 ht22 => ?_)
  refine va_sld hx hb hXs hbl hbA hT.2.2.2 (g_in (by omega) (by omega)) dL_law_422 ?_
  refine ti y2 (by rw [hy2]; exact congrArg xs (show t22.toNatClampNeg = ix i + 2 from by show t22.toInt.toNat = ix i + 2; unfold ix; omega)) ?_
  have hTo := hT
  refine tVl (n := 2) (As := [.int y1, .int y2]) (rest := []) hx hb hml hown hg hT hK hX (X6_sample l (kX κ) s3 mm y1 y2 (hT.k t_mm (by decide)) R5) sub_gR_fA (mwV k1432 k1433 k1434 k92 k1435) ⟨rfl, by decide, by decide, by decide +kernel⟩ ⟨(Nat.le_of_ble_eq_true rfl), (Nat.le_of_ble_eq_true rfl)⟩ (hT.o20 (hT.k t_mm (by decide))) rfl rfl hl.1 rfl (Nat.le_of_ble_eq_true rfl) dL_law_423 zx (fun r24 s23 H locs hφ hE hT => ?_)
  have R25 := R5.ext hE ⟨rfl, rfl, fun _ => rfl, fun _ => rfl, fun _ => rfl, fun _ => rfl⟩
  have a26 : (zI s23 tx 1).toInt = (zI s3 tx 1).toInt := by rw [(hTo.k ttx (by decide)).eI hE (by decide) rfl]
  have j27 : zI s23 rB = zI σ rB := ((show zI s23 rB = zI s3 rB from funext fun k => (hTo.k trB (by decide)).eI hE (by decide) rfl)).trans j7
  have j28 : zI s23 rT = zI σ rT := ((show zI s23 rT = zI s3 rT from funext fun k => (hTo.k trT (by decide)).eI hE (by decide) rfl)).trans j8
  have j29 : zI s23 rI = zI σ rI := ((show zI s23 rI = zI s3 rI from funext fun k => (hTo.k trI (by decide)).eI hE (by decide) rfl)).trans j9
  have j30 : zI s23 rK = zI σ rK := ((show zI s23 rK = zI s3 rK from funext fun k => (hTo.k trK (by decide)).eI hE (by decide) rfl)).trans j10
  have j31 : zI s23 tx 2 = zI σ tx 2 := ((hTo.k ttx (by decide)).eI hE (by decide) rfl).trans j11
  have j32 : zI s23 tx 3 = zI σ tx 3 := ((hTo.k ttx (by decide)).eI hE (by decide) rfl).trans j12
  have j33 : zI s23 mm 15 = zI σ mm 15 := ((hTo.k t_mm (by decide)).eI hE (by decide) rfl).trans j13
  have j34 : zI s23 mm 16 = zI σ mm 16 := ((hTo.k t_mm (by decide)).eI hE (by decide) rfl).trans j14
  have n35 : zI s23 nw 7 = zI s3 nw 7 ∧ zI s23 nw 8 = zI s3 nw 8 ∧ zI s23 nw 9 = zI s3 nw 9 := ⟨(hTo.k tnw (by decide)).eI hE (by decide) rfl, (hTo.k tnw (by decide)).eI hE (by decide) rfl, (hTo.k tnw (by decide)).eI hE (by decide) rfl⟩
  have n36 : zI s23 nw 7 = zI σ nw 7 ∧ zI s23 nw 8 = zI σ nw 8 ∧ zI s23 nw 9 = zI σ nw 9 := ⟨n35.1.trans n15.1, n35.2.1.trans n15.2.1, n35.2.2.trans n15.2.2⟩
  have n37 : zI s23 sl0 7 = zI s3 sl0 7 ∧ zI s23 sl0 8 = zI s3 sl0 8 ∧ zI s23 sl0 9 = zI s3 sl0 9 := ⟨(hTo.k tsl0 (by decide)).eI hE (by decide) rfl, (hTo.k tsl0 (by decide)).eI hE (by decide) rfl, (hTo.k tsl0 (by decide)).eI hE (by decide) rfl⟩
  have n38 : zI s23 sl0 7 = zI σ sl0 7 ∧ zI s23 sl0 8 = zI σ sl0 8 ∧ zI s23 sl0 9 = zI σ sl0 9 := ⟨n37.1.trans n16.1, n37.2.1.trans n16.2.1, n37.2.2.trans n16.2.2⟩
  have n39 : zI s23 sl1 7 = zI s3 sl1 7 ∧ zI s23 sl1 8 = zI s3 sl1 8 ∧ zI s23 sl1 9 = zI s3 sl1 9 := ⟨(hTo.k tsl1 (by decide)).eI hE (by decide) rfl, (hTo.k tsl1 (by decide)).eI hE (by decide) rfl, (hTo.k tsl1 (by decide)).eI hE (by decide) rfl⟩
  have n40 : zI s23 sl1 7 = zI σ sl1 7 ∧ zI s23 sl1 8 = zI σ sl1 8 ∧ zI s23 sl1 9 = zI σ sl1 9 := ⟨n39.1.trans n17.1, n39.2.1.trans n17.2.1, n39.2.2.trans n17.2.2⟩
  have n41 : ∀ j : Nat, j < 3 → zJ s23 rW j = zJ s3 rW j := fun j hj => (hTo.k trW (by decide)).eJ hE (by decide) rfl
  have n42 : ∀ j : Nat, j < 3 → zJ s23 rW j = zJ σ rW j := fun j hj => (n41 j hj).trans (n18 j hj)
  have n43 : zJ s23 rS = zJ σ rS := (show zJ s23 rS = zJ s3 rS from funext fun k => (hTo.k trS (by decide)).eJ hE (by decide) rfl).trans n19
  have a44 : (zI s23 mm 13).toInt = (zI s3 mm 13).toInt := by rw [(hTo.k t_mm (by decide)).eI hE (by decide) rfl]
  refine lv_lstore (lv' := [(6, .long r24), (5, .int r4), (4, .int i), (3, .ref out), (2, .ref mm), (1, .ref x), (0, .ref b)]) hx hb dL_law_426 hl (by decide) rfl (fun ls hl => ?_)
  refine lv_goto (tgt := 1404) hx hb dL_law_428 (by decide) ?_
  have sl0f : zI s23 rI 0 ≠ 0 → SLT κ s23 x mm 0 := fun hq => (hsl 0 (by decide) (fun q9 => hq (by rw [erI] at q9; rw [j29]; exact q9))).tr (by rw [ers5, esl0]; exact n38) (fun j hj => by rw [erS, n43])
  have sl1f : zI s23 rI 1 ≠ 0 → SLT κ s23 x mm 1 := fun hq => (hsl 1 (by decide) (fun q9 => hq (by rw [erI] at q9; rw [j29]; exact q9))).tr (by rw [ers5, esl1]; exact n40) (fun j hj => by rw [erS, n43])
  exact KK s23 _ _ _ hT R25 ⟨by rw [etx]; omega, ⟨by rw [etx, erB, erT, j27, j28]; exact tal_less hal (by omega), by rw [erT, j28]; exact tnn_less hnn (by omega)⟩, ⟨by rw [etx, j31, j33]; exact hco, by rw [etx, j32, j34]; exact hpo⟩, fun i hi => by rw [erI, erK, j29, j30]; exact hkp i hi⟩ (⟨hnw.tr (by rw [enw]; exact n36) (by rw [erW]; exact n42), fun i hi => (show i = 0 ∨ i = 1 by omega).elim (fun e9 => by rw [e9, erI]; exact sl0f) (fun e9 => by rw [e9, erI]; exact sl1f)⟩) (lv_sub hl [2, 3, 4, 5, 6] rfl)
set_option maxHeartbeats 4000000 in
set_option maxRecDepth 100000 in
theorem lc_7 (l : Launch) (κ : Kt) (σ0 : Gh) (x mm out b : Nat) (t_x : zk σ0 x 7) (t_mm : zk σ0 mm 20) (t_out : zk σ0 out 24) (ttx0 : zk σ0 (kR κ x 0) 6) (hdis : DIS κ x) (hlt : l.stackTraces = false) {p : Program} {e : Env} {s : State} {m : MethodId} {below : List Frame} {meth : Method} {c : Code} {L : Nat} {xs : Nat → Int32} {i : Int32} {Q9 : State → Prop} (hx : p.tables.exec = Jvm.exec) (hb : c.code = cL_law) (hml : c.maxLocals = 9) (hown : s.vm.findClass RL = some m.cls) (hg : ∀ w ∈ GW, w.before #[Value.ref b] s = true) (hK : va_K κ.1 vwCl (kTy κ) s) (hX : XY κ (tA σ0 s.heap.size) s s.heap) (hXs : va_X b L xs s s.heap) (hbl : b < s.heap.size) (hbA : ¬ tA σ0 s.heap.size b) (zx : zroomX κ s room_1 601024 7293034) (hi0 : 0 ≤ i.toInt) (hi1 : i.toInt + 6 ≤ L) (hL9 : L ≤ 3072) {σ : Gh} {H : Heap} {locs : List Loc} {ls : Array Slot} (hT : TS κ fA σ0 σ s H locs) (hR : RI κ σ mm) (hrel : LREL κ σ x mm) (hsr : SREL κ σ x mm) (hl : lv_has ls 9 [(4, .int i), (3, .ref out), (2, .ref mm), (1, .ref x), (0, .ref b)]) (KK : ∀ (σ1 : Gh) (H : Heap) (locs : List Loc) (ls : Array Slot), TS (kX κ) fA σ0 σ1 s H locs → RI (kX κ) σ1 mm → LREL κ σ1 x mm → SREL κ σ1 x mm → lv_has ls 9 [(4, .int i), (3, .ref out), (2, .ref mm), (1, .ref x), (0, .ref b)] → W p l e room_1 s m #[Value.ref b] below meth c H locs 601024 7293034 Q9 (F0 m 1404 ls [])) : W p l e room_1 s m #[Value.ref b] below meth c H locs 601024 7293034 Q9 (F0 m 431 ls []) := by
  obtain ⟨y1, hy1⟩ : ∃ z, z = xs (ix i + 1) := ⟨_, rfl⟩
  obtain ⟨y2, hy2⟩ : ∃ z, z = xs (ix i + 2) := ⟨_, rfl⟩
  obtain ⟨y3, hy3⟩ : ∃ z, z = xs (ix i + 3) := ⟨_, rfl⟩
  obtain ⟨y4, hy4⟩ : ∃ z, z = xs (ix i + 4) := ⟨_, rfl⟩
  obtain ⟨y5, hy5⟩ : ∃ z, z = xs (ix i + 5) := ⟨_, rfl⟩
  have n0 : (0 : Int32).toInt = 0 := by decide
  have n1 : (1 : Int32).toInt = 1 := by decide
  have n2 : (2 : Int32).toInt = 2 := by decide
  have n3 : (3 : Int32).toInt = 3 := by decide
  have n4 : (4 : Int32).toInt = 4 := by decide
  have n5 : (5 : Int32).toInt = 5 := by decide
  obtain ⟨tx, etx⟩ : ∃ z, kR κ x 0 = z := ⟨_, rfl⟩
  have ttx : zk σ0 tx 6 := by rw [← etx]; exact ttx0
  obtain ⟨rB, erB⟩ : ∃ z, kR κ tx 0 = z := ⟨_, rfl⟩
  have trB : zk σ0 rB 14 := by rw [← erB]; exact hT.kr (hT.ref (hT.k ttx (by decide)) (by decide) (by decide) (by decide)) (by decide) (by decide)
  obtain ⟨rT, erT⟩ : ∃ z, kR κ mm 12 = z := ⟨_, rfl⟩
  have trT : zk σ0 rT 23 := by rw [← erT]; exact hT.kr (hT.ref (hT.k t_mm (by decide)) (by decide) (by decide) (by decide)) (by decide) (by decide)
  obtain ⟨rI, erI⟩ : ∃ z, kR κ x 6 = z := ⟨_, rfl⟩
  have trI : zk σ0 rI 13 := by rw [← erI]; exact hT.kr (hT.ref (hT.k t_x (by decide)) (by decide) (by decide) (by decide)) (by decide) (by decide)
  obtain ⟨rK, erK⟩ : ∃ z, kR κ mm 4 = z := ⟨_, rfl⟩
  have trK : zk σ0 rK 29 := by rw [← erK]; exact hT.kr (hT.ref (hT.k t_mm (by decide)) (by decide) (by decide) (by decide)) (by decide) (by decide)
  obtain ⟨hlen, ⟨hal, hnn⟩, ⟨hco, hpo⟩, hkp⟩ := hrel
  rw [etx] at hlen hal hco hpo
  rw [erB, erT] at hal
  rw [erT] at hnn
  rw [erI, erK] at hkp
  have btx := (hT.P (hT.k ttx (by decide)) (by decide)).1
  have btxl := btx.1
  have btxh := btx.2
  obtain ⟨nw, enw⟩ : ∃ z, kR κ x 3 = z := ⟨_, rfl⟩
  have tnw : zk σ0 nw 3 := by rw [← enw]; exact hT.kr (hT.ref (hT.k t_x (by decide)) (by decide) (by decide) (by decide)) (by decide) (by decide)
  obtain ⟨tr, etr⟩ : ∃ z, kR κ x 4 = z := ⟨_, rfl⟩
  have ttr : zk σ0 tr 3 := by rw [← etr]; exact hT.kr (hT.ref (hT.k t_x (by decide)) (by decide) (by decide) (by decide)) (by decide) (by decide)
  obtain ⟨rs5, ers5⟩ : ∃ z, kR κ x 5 = z := ⟨_, rfl⟩
  have trs5 : zk σ0 rs5 12 := by rw [← ers5]; exact hT.kr (hT.ref (hT.k t_x (by decide)) (by decide) (by decide) (by decide)) (by decide) (by decide)
  obtain ⟨sl0, esl0⟩ : ∃ z, kR κ rs5 0 = z := ⟨_, rfl⟩
  have tsl0 : zk σ0 sl0 3 := by rw [← esl0]; exact hT.kr (hT.ref (hT.k trs5 (by decide)) (by decide) (by decide) (by decide)) (by decide) (by decide)
  obtain ⟨sl1, esl1⟩ : ∃ z, kR κ rs5 1 = z := ⟨_, rfl⟩
  have tsl1 : zk σ0 sl1 3 := by rw [← esl1]; exact hT.kr (hT.ref (hT.k trs5 (by decide)) (by decide) (by decide) (by decide)) (by decide) (by decide)
  obtain ⟨rW, erW⟩ : ∃ z, kR κ mm 1 = z := ⟨_, rfl⟩
  have trW : zk σ0 rW 21 := by rw [← erW]; exact hT.kr (hT.ref (hT.k t_mm (by decide)) (by decide) (by decide) (by decide)) (by decide) (by decide)
  obtain ⟨rS, erS⟩ : ∃ z, kR κ mm 3 = z := ⟨_, rfl⟩
  have trS : zk σ0 rS 22 := by rw [← erS]; exact hT.kr (hT.ref (hT.k t_mm (by decide)) (by decide) (by decide) (by decide)) (by decide) (by decide)
  obtain ⟨hnw, hsl⟩ := hsr
  obtain ⟨hd1, ⟨hd2, hd3⟩, hd4, hd5⟩ := hdis
  have d_nt : nw ≠ tr := by rw [← enw, ← etr]; exact hd2
  have d_n0 : nw ≠ sl0 := by rw [← enw, ← esl0, ← ers5]; exact hd3 0 (by decide)
  have d_t0 : sl0 ≠ tr := by rw [← etr, ← esl0, ← ers5]; exact fun q => hd4 0 (by decide) q.symm
  have d_n1 : nw ≠ sl1 := by rw [← enw, ← esl1, ← ers5]; exact hd3 1 (by decide)
  have d_t1 : sl1 ≠ tr := by rw [← etr, ← esl1, ← ers5]; exact fun q => hd4 1 (by decide) q.symm
  have d_01 : sl0 ≠ sl1 := by rw [← esl0, ← esl1, ← ers5]; exact hd5
  have knw : zk σ nw 3 := hT.k tnw (by decide)
  have ksl0 : zk σ sl0 3 := hT.k tsl0 (by decide)
  have ksl1 : zk σ sl1 3 := hT.k tsl1 (by decide)
  refine lv_aload_n hx hb dL_law_431 rfl (lv_at hl 3 rfl) ?_
  refine lv_aload_n hx hb dL_law_432 rfl (lv_at hl 4 rfl) ?_
  refine lv_iload hx hb dL_law_433 (lv_at hl 0 rfl) ?_
  refine lv_iconst (v := 1) hx hb dL_law_435 (by decide) ?_
  refine lv_iadd hx hb dL_law_436 ?_
  refine g_add (by omega) (by omega) (fun t1 ht1 => ?_)
  refine va_sld hx hb hXs hbl hbA hT.2.2.2 (g_in (by omega) (by omega)) dL_law_437 ?_
  refine ti y1 (by rw [hy1]; exact congrArg xs (show t1.toNatClampNeg = ix i + 1 from by show t1.toInt.toNat = ix i + 1; unfold ix; omega)) ?_
  refine lv_aload_n hx hb dL_law_438 rfl (lv_at hl 1 rfl) ?_
  have hTo := hT
  refine tHi (n := 3) (As := [.ref x, .int y1, .ref out]) (rest := []) hx hb hml hown hg hT hK hX (L_present l κ σ x y1 out (hT.k t_x (by decide)) (hT.k t_out (by decide)) hlt) sub_hfE_fA (mwHS k863 k864 k83 k865) ⟨by decide, by decide, by decide +kernel⟩ ⟨(Nat.le_of_ble_eq_true rfl), (Nat.le_of_ble_eq_true rfl)⟩ rfl hl.1 rfl (Nat.le_of_ble_eq_true rfl) dL_law_439 zx (fun r3 s2 H locs hφ hE hT => ?_)
  have R4 := hR.ext hE ⟨rfl, rfl, fun _ => rfl, fun _ => rfl, fun _ => rfl, fun _ => rfl⟩
  have a5 : (zI s2 tx 1).toInt = (zI σ tx 1).toInt := by rw [(hTo.k ttx (by decide)).eI hE (by decide) rfl]
  have j6 : zI s2 rB = zI σ rB := (show zI s2 rB = zI σ rB from funext fun k => (hTo.k trB (by decide)).eI hE (by decide) rfl)
  have j7 : zI s2 rT = zI σ rT := (show zI s2 rT = zI σ rT from funext fun k => (hTo.k trT (by decide)).eI hE (by decide) rfl)
  have j8 : zI s2 rI = zI σ rI := (show zI s2 rI = zI σ rI from funext fun k => (hTo.k trI (by decide)).eI hE (by decide) rfl)
  have j9 : zI s2 rK = zI σ rK := (show zI s2 rK = zI σ rK from funext fun k => (hTo.k trK (by decide)).eI hE (by decide) rfl)
  have j10 : zI s2 tx 2 = zI σ tx 2 := (hTo.k ttx (by decide)).eI hE (by decide) rfl
  have j11 : zI s2 tx 3 = zI σ tx 3 := (hTo.k ttx (by decide)).eI hE (by decide) rfl
  have j12 : zI s2 mm 15 = zI σ mm 15 := (hTo.k t_mm (by decide)).eI hE (by decide) rfl
  have j13 : zI s2 mm 16 = zI σ mm 16 := (hTo.k t_mm (by decide)).eI hE (by decide) rfl
  have n14 : zI s2 nw 7 = zI σ nw 7 ∧ zI s2 nw 8 = zI σ nw 8 ∧ zI s2 nw 9 = zI σ nw 9 := ⟨(hTo.k tnw (by decide)).eI hE (by decide) rfl, (hTo.k tnw (by decide)).eI hE (by decide) rfl, (hTo.k tnw (by decide)).eI hE (by decide) rfl⟩
  have n15 : zI s2 sl0 7 = zI σ sl0 7 ∧ zI s2 sl0 8 = zI σ sl0 8 ∧ zI s2 sl0 9 = zI σ sl0 9 := ⟨(hTo.k tsl0 (by decide)).eI hE (by decide) rfl, (hTo.k tsl0 (by decide)).eI hE (by decide) rfl, (hTo.k tsl0 (by decide)).eI hE (by decide) rfl⟩
  have n16 : zI s2 sl1 7 = zI σ sl1 7 ∧ zI s2 sl1 8 = zI σ sl1 8 ∧ zI s2 sl1 9 = zI σ sl1 9 := ⟨(hTo.k tsl1 (by decide)).eI hE (by decide) rfl, (hTo.k tsl1 (by decide)).eI hE (by decide) rfl, (hTo.k tsl1 (by decide)).eI hE (by decide) rfl⟩
  have n17 : ∀ j : Nat, j < 3 → zJ s2 rW j = zJ σ rW j := fun j hj => (hTo.k trW (by decide)).eJ hE (by decide) rfl
  have n18 : zJ s2 rS = zJ σ rS := (show zJ s2 rS = zJ σ rS from funext fun k => (hTo.k trS (by decide)).eJ hE (by decide) rfl)
  have a19 : (zI s2 mm 13).toInt = (zI σ mm 13).toInt := by rw [(hTo.k t_mm (by decide)).eI hE (by decide) rfl]
  refine lv_istore (lv' := [(5, .int r3), (4, .int i), (3, .ref out), (2, .ref mm), (1, .ref x), (0, .ref b)]) hx hb dL_law_442 hl (by decide) rfl (fun ls hl => ?_)
  refine lv_aload_n hx hb dL_law_444 rfl (lv_at hl 3 rfl) ?_
  refine lv_aload_n hx hb dL_law_445 rfl (lv_at hl 5 rfl) ?_
  refine lv_iload hx hb dL_law_446 (lv_at hl 1 rfl) ?_
  refine lv_iconst (v := 1) hx hb dL_law_448 (by decide) ?_
  refine lv_iadd hx hb dL_law_449 ?_
  refine g_add (by omega) (by omega) (fun t20 ht20 => ?_)
  refine va_sld hx hb hXs hbl hbA hT.2.2.2 (g_in (by omega) (by omega)) dL_law_450 ?_
  refine ti y1 (by rw [hy1]; exact congrArg xs (show t20.toNatClampNeg = ix i + 1 from by show t20.toInt.toNat = ix i + 1; unfold ix; omega)) ?_
  have hTo := hT
  refine tVi (n := 1) (As := [.int y1]) (rest := []) hx hb hml hown hg hT hK hX (X6_present l (kX κ) s2 mm y1 (hT.k t_mm (by decide)) R4) sub_gR_fA (mwV k1441 k1442 k1443 k92 k1444) ⟨rfl, by decide, by decide, by decide +kernel⟩ ⟨(Nat.le_of_ble_eq_true rfl), (Nat.le_of_ble_eq_true rfl)⟩ (hT.o20 (hT.k t_mm (by decide))) rfl rfl hl.1 rfl (Nat.le_of_ble_eq_true rfl) dL_law_451 zx (fun r22 s21 H locs hφ hE hT => ?_)
  have R23 := R4.ext hE ⟨rfl, rfl, fun _ => rfl, fun _ => rfl, fun _ => rfl, fun _ => rfl⟩
  have a24 : (zI s21 tx 1).toInt = (zI s2 tx 1).toInt := by rw [(hTo.k ttx (by decide)).eI hE (by decide) rfl]
  have j25 : zI s21 rB = zI σ rB := ((show zI s21 rB = zI s2 rB from funext fun k => (hTo.k trB (by decide)).eI hE (by decide) rfl)).trans j6
  have j26 : zI s21 rT = zI σ rT := ((show zI s21 rT = zI s2 rT from funext fun k => (hTo.k trT (by decide)).eI hE (by decide) rfl)).trans j7
  have j27 : zI s21 rI = zI σ rI := ((show zI s21 rI = zI s2 rI from funext fun k => (hTo.k trI (by decide)).eI hE (by decide) rfl)).trans j8
  have j28 : zI s21 rK = zI σ rK := ((show zI s21 rK = zI s2 rK from funext fun k => (hTo.k trK (by decide)).eI hE (by decide) rfl)).trans j9
  have j29 : zI s21 tx 2 = zI σ tx 2 := ((hTo.k ttx (by decide)).eI hE (by decide) rfl).trans j10
  have j30 : zI s21 tx 3 = zI σ tx 3 := ((hTo.k ttx (by decide)).eI hE (by decide) rfl).trans j11
  have j31 : zI s21 mm 15 = zI σ mm 15 := ((hTo.k t_mm (by decide)).eI hE (by decide) rfl).trans j12
  have j32 : zI s21 mm 16 = zI σ mm 16 := ((hTo.k t_mm (by decide)).eI hE (by decide) rfl).trans j13
  have n33 : zI s21 nw 7 = zI s2 nw 7 ∧ zI s21 nw 8 = zI s2 nw 8 ∧ zI s21 nw 9 = zI s2 nw 9 := ⟨(hTo.k tnw (by decide)).eI hE (by decide) rfl, (hTo.k tnw (by decide)).eI hE (by decide) rfl, (hTo.k tnw (by decide)).eI hE (by decide) rfl⟩
  have n34 : zI s21 nw 7 = zI σ nw 7 ∧ zI s21 nw 8 = zI σ nw 8 ∧ zI s21 nw 9 = zI σ nw 9 := ⟨n33.1.trans n14.1, n33.2.1.trans n14.2.1, n33.2.2.trans n14.2.2⟩
  have n35 : zI s21 sl0 7 = zI s2 sl0 7 ∧ zI s21 sl0 8 = zI s2 sl0 8 ∧ zI s21 sl0 9 = zI s2 sl0 9 := ⟨(hTo.k tsl0 (by decide)).eI hE (by decide) rfl, (hTo.k tsl0 (by decide)).eI hE (by decide) rfl, (hTo.k tsl0 (by decide)).eI hE (by decide) rfl⟩
  have n36 : zI s21 sl0 7 = zI σ sl0 7 ∧ zI s21 sl0 8 = zI σ sl0 8 ∧ zI s21 sl0 9 = zI σ sl0 9 := ⟨n35.1.trans n15.1, n35.2.1.trans n15.2.1, n35.2.2.trans n15.2.2⟩
  have n37 : zI s21 sl1 7 = zI s2 sl1 7 ∧ zI s21 sl1 8 = zI s2 sl1 8 ∧ zI s21 sl1 9 = zI s2 sl1 9 := ⟨(hTo.k tsl1 (by decide)).eI hE (by decide) rfl, (hTo.k tsl1 (by decide)).eI hE (by decide) rfl, (hTo.k tsl1 (by decide)).eI hE (by decide) rfl⟩
  have n38 : zI s21 sl1 7 = zI σ sl1 7 ∧ zI s21 sl1 8 = zI σ sl1 8 ∧ zI s21 sl1 9 = zI σ sl1 9 := ⟨n37.1.trans n16.1, n37.2.1.trans n16.2.1, n37.2.2.trans n16.2.2⟩
  have n39 : ∀ j : Nat, j < 3 → zJ s21 rW j = zJ s2 rW j := fun j hj => (hTo.k trW (by decide)).eJ hE (by decide) rfl
  have n40 : ∀ j : Nat, j < 3 → zJ s21 rW j = zJ σ rW j := fun j hj => (n39 j hj).trans (n17 j hj)
  have n41 : zJ s21 rS = zJ σ rS := (show zJ s21 rS = zJ s2 rS from funext fun k => (hTo.k trS (by decide)).eJ hE (by decide) rfl).trans n18
  have a42 : (zI s21 mm 13).toInt = (zI s2 mm 13).toInt := by rw [(hTo.k t_mm (by decide)).eI hE (by decide) rfl]
  refine lv_istore (lv' := [(6, .int r22), (5, .int r3), (4, .int i), (3, .ref out), (2, .ref mm), (1, .ref x), (0, .ref b)]) hx hb dL_law_454 hl (by decide) rfl (fun ls hl => ?_)
  refine lv_goto (tgt := 1404) hx hb dL_law_456 (by decide) ?_
  have sl0f : zI s21 rI 0 ≠ 0 → SLT κ s21 x mm 0 := fun hq => (hsl 0 (by decide) (fun q9 => hq (by rw [erI] at q9; rw [j27]; exact q9))).tr (by rw [ers5, esl0]; exact n36) (fun j hj => by rw [erS, n41])
  have sl1f : zI s21 rI 1 ≠ 0 → SLT κ s21 x mm 1 := fun hq => (hsl 1 (by decide) (fun q9 => hq (by rw [erI] at q9; rw [j27]; exact q9))).tr (by rw [ers5, esl1]; exact n38) (fun j hj => by rw [erS, n41])
  exact KK s21 _ _ _ hT R23 ⟨by rw [etx]; omega, ⟨by rw [etx, erB, erT, j25, j26]; exact tal_less hal (by omega), by rw [erT, j26]; exact tnn_less hnn (by omega)⟩, ⟨by rw [etx, j29, j31]; exact hco, by rw [etx, j30, j32]; exact hpo⟩, fun i hi => by rw [erI, erK, j27, j28]; exact hkp i hi⟩ (⟨hnw.tr (by rw [enw]; exact n34) (by rw [erW]; exact n40), fun i hi => (show i = 0 ∨ i = 1 by omega).elim (fun e9 => by rw [e9, erI]; exact sl0f) (fun e9 => by rw [e9, erI]; exact sl1f)⟩) (lv_sub hl [2, 3, 4, 5, 6] rfl)
set_option maxHeartbeats 4000000 in
set_option maxRecDepth 100000 in
theorem lc_8 (l : Launch) (κ : Kt) (σ0 : Gh) (x mm out b : Nat) (t_x : zk σ0 x 7) (t_mm : zk σ0 mm 20) (t_out : zk σ0 out 24) (ttx0 : zk σ0 (kR κ x 0) 6) (hdis : DIS κ x) (hlt : l.stackTraces = false) {p : Program} {e : Env} {s : State} {m : MethodId} {below : List Frame} {meth : Method} {c : Code} {L : Nat} {xs : Nat → Int32} {i : Int32} {Q9 : State → Prop} (hx : p.tables.exec = Jvm.exec) (hb : c.code = cL_law) (hml : c.maxLocals = 9) (hown : s.vm.findClass RL = some m.cls) (hg : ∀ w ∈ GW, w.before #[Value.ref b] s = true) (hK : va_K κ.1 vwCl (kTy κ) s) (hX : XY κ (tA σ0 s.heap.size) s s.heap) (hXs : va_X b L xs s s.heap) (hbl : b < s.heap.size) (hbA : ¬ tA σ0 s.heap.size b) (zx : zroomX κ s room_1 601024 7293034) (hi0 : 0 ≤ i.toInt) (hi1 : i.toInt + 6 ≤ L) (hL9 : L ≤ 3072) {σ : Gh} {H : Heap} {locs : List Loc} {ls : Array Slot} (hT : TS κ fA σ0 σ s H locs) (hR : RI κ σ mm) (hrel : LREL κ σ x mm) (hsr : SREL κ σ x mm) (hl : lv_has ls 9 [(4, .int i), (3, .ref out), (2, .ref mm), (1, .ref x), (0, .ref b)]) (KK : ∀ (σ1 : Gh) (H : Heap) (locs : List Loc) (ls : Array Slot), TS (kX κ) fA σ0 σ1 s H locs → RI (kX κ) σ1 mm → LREL κ σ1 x mm → SREL κ σ1 x mm → lv_has ls 9 [(4, .int i), (3, .ref out), (2, .ref mm), (1, .ref x), (0, .ref b)] → W p l e room_1 s m #[Value.ref b] below meth c H locs 601024 7293034 Q9 (F0 m 1404 ls [])) : W p l e room_1 s m #[Value.ref b] below meth c H locs 601024 7293034 Q9 (F0 m 459 ls []) := by
  obtain ⟨y1, hy1⟩ : ∃ z, z = xs (ix i + 1) := ⟨_, rfl⟩
  obtain ⟨y2, hy2⟩ : ∃ z, z = xs (ix i + 2) := ⟨_, rfl⟩
  obtain ⟨y3, hy3⟩ : ∃ z, z = xs (ix i + 3) := ⟨_, rfl⟩
  obtain ⟨y4, hy4⟩ : ∃ z, z = xs (ix i + 4) := ⟨_, rfl⟩
  obtain ⟨y5, hy5⟩ : ∃ z, z = xs (ix i + 5) := ⟨_, rfl⟩
  have n0 : (0 : Int32).toInt = 0 := by decide
  have n1 : (1 : Int32).toInt = 1 := by decide
  have n2 : (2 : Int32).toInt = 2 := by decide
  have n3 : (3 : Int32).toInt = 3 := by decide
  have n4 : (4 : Int32).toInt = 4 := by decide
  have n5 : (5 : Int32).toInt = 5 := by decide
  obtain ⟨tx, etx⟩ : ∃ z, kR κ x 0 = z := ⟨_, rfl⟩
  have ttx : zk σ0 tx 6 := by rw [← etx]; exact ttx0
  obtain ⟨rB, erB⟩ : ∃ z, kR κ tx 0 = z := ⟨_, rfl⟩
  have trB : zk σ0 rB 14 := by rw [← erB]; exact hT.kr (hT.ref (hT.k ttx (by decide)) (by decide) (by decide) (by decide)) (by decide) (by decide)
  obtain ⟨rT, erT⟩ : ∃ z, kR κ mm 12 = z := ⟨_, rfl⟩
  have trT : zk σ0 rT 23 := by rw [← erT]; exact hT.kr (hT.ref (hT.k t_mm (by decide)) (by decide) (by decide) (by decide)) (by decide) (by decide)
  obtain ⟨rI, erI⟩ : ∃ z, kR κ x 6 = z := ⟨_, rfl⟩
  have trI : zk σ0 rI 13 := by rw [← erI]; exact hT.kr (hT.ref (hT.k t_x (by decide)) (by decide) (by decide) (by decide)) (by decide) (by decide)
  obtain ⟨rK, erK⟩ : ∃ z, kR κ mm 4 = z := ⟨_, rfl⟩
  have trK : zk σ0 rK 29 := by rw [← erK]; exact hT.kr (hT.ref (hT.k t_mm (by decide)) (by decide) (by decide) (by decide)) (by decide) (by decide)
  obtain ⟨hlen, ⟨hal, hnn⟩, ⟨hco, hpo⟩, hkp⟩ := hrel
  rw [etx] at hlen hal hco hpo
  rw [erB, erT] at hal
  rw [erT] at hnn
  rw [erI, erK] at hkp
  have btx := (hT.P (hT.k ttx (by decide)) (by decide)).1
  have btxl := btx.1
  have btxh := btx.2
  obtain ⟨nw, enw⟩ : ∃ z, kR κ x 3 = z := ⟨_, rfl⟩
  have tnw : zk σ0 nw 3 := by rw [← enw]; exact hT.kr (hT.ref (hT.k t_x (by decide)) (by decide) (by decide) (by decide)) (by decide) (by decide)
  obtain ⟨tr, etr⟩ : ∃ z, kR κ x 4 = z := ⟨_, rfl⟩
  have ttr : zk σ0 tr 3 := by rw [← etr]; exact hT.kr (hT.ref (hT.k t_x (by decide)) (by decide) (by decide) (by decide)) (by decide) (by decide)
  obtain ⟨rs5, ers5⟩ : ∃ z, kR κ x 5 = z := ⟨_, rfl⟩
  have trs5 : zk σ0 rs5 12 := by rw [← ers5]; exact hT.kr (hT.ref (hT.k t_x (by decide)) (by decide) (by decide) (by decide)) (by decide) (by decide)
  obtain ⟨sl0, esl0⟩ : ∃ z, kR κ rs5 0 = z := ⟨_, rfl⟩
  have tsl0 : zk σ0 sl0 3 := by rw [← esl0]; exact hT.kr (hT.ref (hT.k trs5 (by decide)) (by decide) (by decide) (by decide)) (by decide) (by decide)
  obtain ⟨sl1, esl1⟩ : ∃ z, kR κ rs5 1 = z := ⟨_, rfl⟩
  have tsl1 : zk σ0 sl1 3 := by rw [← esl1]; exact hT.kr (hT.ref (hT.k trs5 (by decide)) (by decide) (by decide) (by decide)) (by decide) (by decide)
  obtain ⟨rW, erW⟩ : ∃ z, kR κ mm 1 = z := ⟨_, rfl⟩
  have trW : zk σ0 rW 21 := by rw [← erW]; exact hT.kr (hT.ref (hT.k t_mm (by decide)) (by decide) (by decide) (by decide)) (by decide) (by decide)
  obtain ⟨rS, erS⟩ : ∃ z, kR κ mm 3 = z := ⟨_, rfl⟩
  have trS : zk σ0 rS 22 := by rw [← erS]; exact hT.kr (hT.ref (hT.k t_mm (by decide)) (by decide) (by decide) (by decide)) (by decide) (by decide)
  obtain ⟨hnw, hsl⟩ := hsr
  obtain ⟨hd1, ⟨hd2, hd3⟩, hd4, hd5⟩ := hdis
  have d_nt : nw ≠ tr := by rw [← enw, ← etr]; exact hd2
  have d_n0 : nw ≠ sl0 := by rw [← enw, ← esl0, ← ers5]; exact hd3 0 (by decide)
  have d_t0 : sl0 ≠ tr := by rw [← etr, ← esl0, ← ers5]; exact fun q => hd4 0 (by decide) q.symm
  have d_n1 : nw ≠ sl1 := by rw [← enw, ← esl1, ← ers5]; exact hd3 1 (by decide)
  have d_t1 : sl1 ≠ tr := by rw [← etr, ← esl1, ← ers5]; exact fun q => hd4 1 (by decide) q.symm
  have d_01 : sl0 ≠ sl1 := by rw [← esl0, ← esl1, ← ers5]; exact hd5
  have knw : zk σ nw 3 := hT.k tnw (by decide)
  have ksl0 : zk σ sl0 3 := hT.k tsl0 (by decide)
  have ksl1 : zk σ sl1 3 := hT.k tsl1 (by decide)
  refine lv_aload_n hx hb dL_law_459 rfl (lv_at hl 3 rfl) ?_
  refine lv_aload_n hx hb dL_law_460 rfl (lv_at hl 4 rfl) ?_
  refine lv_iload hx hb dL_law_461 (lv_at hl 0 rfl) ?_
  refine lv_iconst (v := 1) hx hb dL_law_463 (by decide) ?_
  refine lv_iadd hx hb dL_law_464 ?_
  refine g_add (by omega) (by omega) (fun t1 ht1 => ?_)
  refine va_sld hx hb hXs hbl hbA hT.2.2.2 (g_in (by omega) (by omega)) dL_law_465 ?_
  refine ti y1 (by rw [hy1]; exact congrArg xs (show t1.toNatClampNeg = ix i + 1 from by show t1.toInt.toNat = ix i + 1; unfold ix; omega)) ?_
  refine lv_aload_n hx hb dL_law_466 rfl (lv_at hl 4 rfl) ?_
  refine lv_iload hx hb dL_law_467 (lv_at hl 0 rfl) ?_
  refine lv_iconst (v := 2) hx hb dL_law_469 (by decide) ?_
  refine lv_iadd hx hb dL_law_470 ?_
  refine g_add (by omega) (by omega) (fun t2 ht2 => ?_)
  refine va_sld hx hb hXs hbl hbA hT.2.2.2 (g_in (by omega) (by omega)) dL_law_471 ?_
  refine ti y2 (by rw [hy2]; exact congrArg xs (show t2.toNatClampNeg = ix i + 2 from by show t2.toInt.toNat = ix i + 2; unfold ix; omega)) ?_
  refine lv_if_eq (tgt := 479) hx hb dL_law_472 (by decide) (fun c9 => ?_) (fun c9 => ?_)
  · have c7 := gi_eq c9
    refine lv_iconst (v := 0) hx hb dL_law_479 (by decide) ?_
    refine lv_aload_n hx hb dL_law_480 rfl (lv_at hl 1 rfl) ?_
    have hTo := hT
    refine tHi (n := 4) (As := [.ref x, .int y1, .int 0, .ref out]) (rest := []) hx hb hml hown hg hT hK hX (L_neighbour l κ σ x y1 0 out (hT.k t_x (by decide)) (hT.k t_out (by decide)) isB0 hlt) sub_hfE_fA (mwHS k874 k875 k83 k876) ⟨by decide, by decide, by decide +kernel⟩ ⟨(Nat.le_of_ble_eq_true rfl), (Nat.le_of_ble_eq_true rfl)⟩ rfl hl.1 rfl (Nat.le_of_ble_eq_true rfl) dL_law_481 zx (fun r4 s3 H locs hφ hE hT => ?_)
    have R5 := hR.ext hE ⟨rfl, rfl, fun _ => rfl, fun _ => rfl, fun _ => rfl, fun _ => rfl⟩
    have a6 : (zI s3 tx 1).toInt = (zI σ tx 1).toInt := by rw [(hTo.k ttx (by decide)).eI hE (by decide) rfl]
    have j7 : zI s3 rB = zI σ rB := (show zI s3 rB = zI σ rB from funext fun k => (hTo.k trB (by decide)).eI hE (by decide) rfl)
    have j8 : zI s3 rT = zI σ rT := (show zI s3 rT = zI σ rT from funext fun k => (hTo.k trT (by decide)).eI hE (by decide) rfl)
    have j9 : zI s3 rI = zI σ rI := (show zI s3 rI = zI σ rI from funext fun k => (hTo.k trI (by decide)).eI hE (by decide) rfl)
    have j10 : zI s3 rK = zI σ rK := (show zI s3 rK = zI σ rK from funext fun k => (hTo.k trK (by decide)).eI hE (by decide) rfl)
    have j11 : zI s3 tx 2 = zI σ tx 2 := (hTo.k ttx (by decide)).eI hE (by decide) rfl
    have j12 : zI s3 tx 3 = zI σ tx 3 := (hTo.k ttx (by decide)).eI hE (by decide) rfl
    have j13 : zI s3 mm 15 = zI σ mm 15 := (hTo.k t_mm (by decide)).eI hE (by decide) rfl
    have j14 : zI s3 mm 16 = zI σ mm 16 := (hTo.k t_mm (by decide)).eI hE (by decide) rfl
    have n15 : zI s3 nw 7 = zI σ nw 7 ∧ zI s3 nw 8 = zI σ nw 8 ∧ zI s3 nw 9 = zI σ nw 9 := ⟨(hTo.k tnw (by decide)).eI hE (by decide) rfl, (hTo.k tnw (by decide)).eI hE (by decide) rfl, (hTo.k tnw (by decide)).eI hE (by decide) rfl⟩
    have n16 : zI s3 sl0 7 = zI σ sl0 7 ∧ zI s3 sl0 8 = zI σ sl0 8 ∧ zI s3 sl0 9 = zI σ sl0 9 := ⟨(hTo.k tsl0 (by decide)).eI hE (by decide) rfl, (hTo.k tsl0 (by decide)).eI hE (by decide) rfl, (hTo.k tsl0 (by decide)).eI hE (by decide) rfl⟩
    have n17 : zI s3 sl1 7 = zI σ sl1 7 ∧ zI s3 sl1 8 = zI σ sl1 8 ∧ zI s3 sl1 9 = zI σ sl1 9 := ⟨(hTo.k tsl1 (by decide)).eI hE (by decide) rfl, (hTo.k tsl1 (by decide)).eI hE (by decide) rfl, (hTo.k tsl1 (by decide)).eI hE (by decide) rfl⟩
    have n18 : ∀ j : Nat, j < 3 → zJ s3 rW j = zJ σ rW j := fun j hj => (hTo.k trW (by decide)).eJ hE (by decide) rfl
    have n19 : zJ s3 rS = zJ σ rS := (show zJ s3 rS = zJ σ rS from funext fun k => (hTo.k trS (by decide)).eJ hE (by decide) rfl)
    have a20 : (zI s3 mm 13).toInt = (zI σ mm 13).toInt := by rw [(hTo.k t_mm (by decide)).eI hE (by decide) rfl]
    refine lv_istore (lv' := [(5, .int r4), (4, .int i), (3, .ref out), (2, .ref mm), (1, .ref x), (0, .ref b)]) hx hb dL_law_484 hl (by decide) rfl (fun ls hl => ?_)
    refine lv_aload_n hx hb dL_law_486 rfl (lv_at hl 3 rfl) ?_
    refine lv_aload_n hx hb dL_law_487 rfl (lv_at hl 5 rfl) ?_
    refine lv_iload hx hb dL_law_488 (lv_at hl 1 rfl) ?_
    refine lv_iconst (v := 1) hx hb dL_law_490 (by decide) ?_
    refine lv_iadd hx hb dL_law_491 ?_
    refine g_add (by omega) (by omega) (fun t21 ht21 => ?_)
    refine va_sld hx hb hXs hbl hbA hT.2.2.2 (g_in (by omega) (by omega)) dL_law_492 ?_
    refine ti y1 (by rw [hy1]; exact congrArg xs (show t21.toNatClampNeg = ix i + 1 from by show t21.toInt.toNat = ix i + 1; unfold ix; omega)) ?_
    refine lv_aload_n hx hb dL_law_493 rfl (lv_at hl 5 rfl) ?_
    refine lv_iload hx hb dL_law_494 (lv_at hl 1 rfl) ?_
    refine lv_iconst (v := 2) hx hb dL_law_496 (by decide) ?_
    refine lv_iadd hx hb dL_law_497 ?_
    refine g_add (by omega) (by omega) (fun t22 ht22 => ?_)
    refine va_sld hx hb hXs hbl hbA hT.2.2.2 (g_in (by omega) (by omega)) dL_law_498 ?_
    refine ti y2 (by rw [hy2]; exact congrArg xs (show t22.toNatClampNeg = ix i + 2 from by show t22.toInt.toNat = ix i + 2; unfold ix; omega)) ?_
    refine lv_if_eq (tgt := 506) hx hb dL_law_499 (by decide) (fun c9 => ?_) (fun c9 => ?_)
    · have c7 := gi_eq c9
      refine lv_iconst (v := 0) hx hb dL_law_506 (by decide) ?_
      have hTo := hT
      refine tVi (n := 2) (As := [.int y1, .int 0]) (rest := []) hx hb hml hown hg hT hK hX (X6_neighbour l (kX κ) s3 mm y1 0 (hT.k t_mm (by decide)) isB0 R5) sub_gR_fA (mwV k1449 k1450 k1451 k92 k1452) ⟨rfl, by decide, by decide, by decide +kernel⟩ ⟨(Nat.le_of_ble_eq_true rfl), (Nat.le_of_ble_eq_true rfl)⟩ (hT.o20 (hT.k t_mm (by decide))) rfl rfl hl.1 rfl (Nat.le_of_ble_eq_true rfl) dL_law_507 zx (fun r24 s23 H locs hφ hE hT => ?_)
      have R25 := R5.ext hE ⟨rfl, rfl, fun _ => rfl, fun _ => rfl, fun _ => rfl, fun _ => rfl⟩
      have a26 : (zI s23 tx 1).toInt = (zI s3 tx 1).toInt := by rw [(hTo.k ttx (by decide)).eI hE (by decide) rfl]
      have j27 : zI s23 rB = zI σ rB := ((show zI s23 rB = zI s3 rB from funext fun k => (hTo.k trB (by decide)).eI hE (by decide) rfl)).trans j7
      have j28 : zI s23 rT = zI σ rT := ((show zI s23 rT = zI s3 rT from funext fun k => (hTo.k trT (by decide)).eI hE (by decide) rfl)).trans j8
      have j29 : zI s23 rI = zI σ rI := ((show zI s23 rI = zI s3 rI from funext fun k => (hTo.k trI (by decide)).eI hE (by decide) rfl)).trans j9
      have j30 : zI s23 rK = zI σ rK := ((show zI s23 rK = zI s3 rK from funext fun k => (hTo.k trK (by decide)).eI hE (by decide) rfl)).trans j10
      have j31 : zI s23 tx 2 = zI σ tx 2 := ((hTo.k ttx (by decide)).eI hE (by decide) rfl).trans j11
      have j32 : zI s23 tx 3 = zI σ tx 3 := ((hTo.k ttx (by decide)).eI hE (by decide) rfl).trans j12
      have j33 : zI s23 mm 15 = zI σ mm 15 := ((hTo.k t_mm (by decide)).eI hE (by decide) rfl).trans j13
      have j34 : zI s23 mm 16 = zI σ mm 16 := ((hTo.k t_mm (by decide)).eI hE (by decide) rfl).trans j14
      have n35 : zI s23 nw 7 = zI s3 nw 7 ∧ zI s23 nw 8 = zI s3 nw 8 ∧ zI s23 nw 9 = zI s3 nw 9 := ⟨(hTo.k tnw (by decide)).eI hE (by decide) rfl, (hTo.k tnw (by decide)).eI hE (by decide) rfl, (hTo.k tnw (by decide)).eI hE (by decide) rfl⟩
      have n36 : zI s23 nw 7 = zI σ nw 7 ∧ zI s23 nw 8 = zI σ nw 8 ∧ zI s23 nw 9 = zI σ nw 9 := ⟨n35.1.trans n15.1, n35.2.1.trans n15.2.1, n35.2.2.trans n15.2.2⟩
      have n37 : zI s23 sl0 7 = zI s3 sl0 7 ∧ zI s23 sl0 8 = zI s3 sl0 8 ∧ zI s23 sl0 9 = zI s3 sl0 9 := ⟨(hTo.k tsl0 (by decide)).eI hE (by decide) rfl, (hTo.k tsl0 (by decide)).eI hE (by decide) rfl, (hTo.k tsl0 (by decide)).eI hE (by decide) rfl⟩
      have n38 : zI s23 sl0 7 = zI σ sl0 7 ∧ zI s23 sl0 8 = zI σ sl0 8 ∧ zI s23 sl0 9 = zI σ sl0 9 := ⟨n37.1.trans n16.1, n37.2.1.trans n16.2.1, n37.2.2.trans n16.2.2⟩
      have n39 : zI s23 sl1 7 = zI s3 sl1 7 ∧ zI s23 sl1 8 = zI s3 sl1 8 ∧ zI s23 sl1 9 = zI s3 sl1 9 := ⟨(hTo.k tsl1 (by decide)).eI hE (by decide) rfl, (hTo.k tsl1 (by decide)).eI hE (by decide) rfl, (hTo.k tsl1 (by decide)).eI hE (by decide) rfl⟩
      have n40 : zI s23 sl1 7 = zI σ sl1 7 ∧ zI s23 sl1 8 = zI σ sl1 8 ∧ zI s23 sl1 9 = zI σ sl1 9 := ⟨n39.1.trans n17.1, n39.2.1.trans n17.2.1, n39.2.2.trans n17.2.2⟩
      have n41 : ∀ j : Nat, j < 3 → zJ s23 rW j = zJ s3 rW j := fun j hj => (hTo.k trW (by decide)).eJ hE (by decide) rfl
      have n42 : ∀ j : Nat, j < 3 → zJ s23 rW j = zJ σ rW j := fun j hj => (n41 j hj).trans (n18 j hj)
      have n43 : zJ s23 rS = zJ σ rS := (show zJ s23 rS = zJ s3 rS from funext fun k => (hTo.k trS (by decide)).eJ hE (by decide) rfl).trans n19
      have a44 : (zI s23 mm 13).toInt = (zI s3 mm 13).toInt := by rw [(hTo.k t_mm (by decide)).eI hE (by decide) rfl]
      refine lv_istore (lv' := [(6, .int r24), (5, .int r4), (4, .int i), (3, .ref out), (2, .ref mm), (1, .ref x), (0, .ref b)]) hx hb dL_law_510 hl (by decide) rfl (fun ls hl => ?_)
      refine lv_goto (tgt := 1404) hx hb dL_law_512 (by decide) ?_
      have sl0f : zI s23 rI 0 ≠ 0 → SLT κ s23 x mm 0 := fun hq => (hsl 0 (by decide) (fun q9 => hq (by rw [erI] at q9; rw [j29]; exact q9))).tr (by rw [ers5, esl0]; exact n38) (fun j hj => by rw [erS, n43])
      have sl1f : zI s23 rI 1 ≠ 0 → SLT κ s23 x mm 1 := fun hq => (hsl 1 (by decide) (fun q9 => hq (by rw [erI] at q9; rw [j29]; exact q9))).tr (by rw [ers5, esl1]; exact n40) (fun j hj => by rw [erS, n43])
      exact KK s23 _ _ _ hT R25 ⟨by rw [etx]; omega, ⟨by rw [etx, erB, erT, j27, j28]; exact tal_less hal (by omega), by rw [erT, j28]; exact tnn_less hnn (by omega)⟩, ⟨by rw [etx, j31, j33]; exact hco, by rw [etx, j32, j34]; exact hpo⟩, fun i hi => by rw [erI, erK, j29, j30]; exact hkp i hi⟩ (⟨hnw.tr (by rw [enw]; exact n36) (by rw [erW]; exact n42), fun i hi => (show i = 0 ∨ i = 1 by omega).elim (fun e9 => by rw [e9, erI]; exact sl0f) (fun e9 => by rw [e9, erI]; exact sl1f)⟩) (lv_sub hl [2, 3, 4, 5, 6] rfl)
    · have c7 := gi_ne c9
      refine lv_iconst (v := 1) hx hb dL_law_502 (by decide) ?_
      refine lv_goto (tgt := 507) hx hb dL_law_503 (by decide) ?_
      have hTo := hT
      refine tVi (n := 2) (As := [.int y1, .int 1]) (rest := []) hx hb hml hown hg hT hK hX (X6_neighbour l (kX κ) s3 mm y1 1 (hT.k t_mm (by decide)) isB1 R5) sub_gR_fA (mwV k1449 k1450 k1451 k92 k1452) ⟨rfl, by decide, by decide, by decide +kernel⟩ ⟨(Nat.le_of_ble_eq_true rfl), (Nat.le_of_ble_eq_true rfl)⟩ (hT.o20 (hT.k t_mm (by decide))) rfl rfl hl.1 rfl (Nat.le_of_ble_eq_true rfl) dL_law_507 zx (fun r46 s45 H locs hφ hE hT => ?_)
      have R47 := R5.ext hE ⟨rfl, rfl, fun _ => rfl, fun _ => rfl, fun _ => rfl, fun _ => rfl⟩
      have a48 : (zI s45 tx 1).toInt = (zI s3 tx 1).toInt := by rw [(hTo.k ttx (by decide)).eI hE (by decide) rfl]
      have j49 : zI s45 rB = zI σ rB := ((show zI s45 rB = zI s3 rB from funext fun k => (hTo.k trB (by decide)).eI hE (by decide) rfl)).trans j7
      have j50 : zI s45 rT = zI σ rT := ((show zI s45 rT = zI s3 rT from funext fun k => (hTo.k trT (by decide)).eI hE (by decide) rfl)).trans j8
      have j51 : zI s45 rI = zI σ rI := ((show zI s45 rI = zI s3 rI from funext fun k => (hTo.k trI (by decide)).eI hE (by decide) rfl)).trans j9
      have j52 : zI s45 rK = zI σ rK := ((show zI s45 rK = zI s3 rK from funext fun k => (hTo.k trK (by decide)).eI hE (by decide) rfl)).trans j10
      have j53 : zI s45 tx 2 = zI σ tx 2 := ((hTo.k ttx (by decide)).eI hE (by decide) rfl).trans j11
      have j54 : zI s45 tx 3 = zI σ tx 3 := ((hTo.k ttx (by decide)).eI hE (by decide) rfl).trans j12
      have j55 : zI s45 mm 15 = zI σ mm 15 := ((hTo.k t_mm (by decide)).eI hE (by decide) rfl).trans j13
      have j56 : zI s45 mm 16 = zI σ mm 16 := ((hTo.k t_mm (by decide)).eI hE (by decide) rfl).trans j14
      have n57 : zI s45 nw 7 = zI s3 nw 7 ∧ zI s45 nw 8 = zI s3 nw 8 ∧ zI s45 nw 9 = zI s3 nw 9 := ⟨(hTo.k tnw (by decide)).eI hE (by decide) rfl, (hTo.k tnw (by decide)).eI hE (by decide) rfl, (hTo.k tnw (by decide)).eI hE (by decide) rfl⟩
      have n58 : zI s45 nw 7 = zI σ nw 7 ∧ zI s45 nw 8 = zI σ nw 8 ∧ zI s45 nw 9 = zI σ nw 9 := ⟨n57.1.trans n15.1, n57.2.1.trans n15.2.1, n57.2.2.trans n15.2.2⟩
      have n59 : zI s45 sl0 7 = zI s3 sl0 7 ∧ zI s45 sl0 8 = zI s3 sl0 8 ∧ zI s45 sl0 9 = zI s3 sl0 9 := ⟨(hTo.k tsl0 (by decide)).eI hE (by decide) rfl, (hTo.k tsl0 (by decide)).eI hE (by decide) rfl, (hTo.k tsl0 (by decide)).eI hE (by decide) rfl⟩
      have n60 : zI s45 sl0 7 = zI σ sl0 7 ∧ zI s45 sl0 8 = zI σ sl0 8 ∧ zI s45 sl0 9 = zI σ sl0 9 := ⟨n59.1.trans n16.1, n59.2.1.trans n16.2.1, n59.2.2.trans n16.2.2⟩
      have n61 : zI s45 sl1 7 = zI s3 sl1 7 ∧ zI s45 sl1 8 = zI s3 sl1 8 ∧ zI s45 sl1 9 = zI s3 sl1 9 := ⟨(hTo.k tsl1 (by decide)).eI hE (by decide) rfl, (hTo.k tsl1 (by decide)).eI hE (by decide) rfl, (hTo.k tsl1 (by decide)).eI hE (by decide) rfl⟩
      have n62 : zI s45 sl1 7 = zI σ sl1 7 ∧ zI s45 sl1 8 = zI σ sl1 8 ∧ zI s45 sl1 9 = zI σ sl1 9 := ⟨n61.1.trans n17.1, n61.2.1.trans n17.2.1, n61.2.2.trans n17.2.2⟩
      have n63 : ∀ j : Nat, j < 3 → zJ s45 rW j = zJ s3 rW j := fun j hj => (hTo.k trW (by decide)).eJ hE (by decide) rfl
      have n64 : ∀ j : Nat, j < 3 → zJ s45 rW j = zJ σ rW j := fun j hj => (n63 j hj).trans (n18 j hj)
      have n65 : zJ s45 rS = zJ σ rS := (show zJ s45 rS = zJ s3 rS from funext fun k => (hTo.k trS (by decide)).eJ hE (by decide) rfl).trans n19
      have a66 : (zI s45 mm 13).toInt = (zI s3 mm 13).toInt := by rw [(hTo.k t_mm (by decide)).eI hE (by decide) rfl]
      refine lv_istore (lv' := [(6, .int r46), (5, .int r4), (4, .int i), (3, .ref out), (2, .ref mm), (1, .ref x), (0, .ref b)]) hx hb dL_law_510 hl (by decide) rfl (fun ls hl => ?_)
      refine lv_goto (tgt := 1404) hx hb dL_law_512 (by decide) ?_
      have sl0f : zI s45 rI 0 ≠ 0 → SLT κ s45 x mm 0 := fun hq => (hsl 0 (by decide) (fun q9 => hq (by rw [erI] at q9; rw [j51]; exact q9))).tr (by rw [ers5, esl0]; exact n60) (fun j hj => by rw [erS, n65])
      have sl1f : zI s45 rI 1 ≠ 0 → SLT κ s45 x mm 1 := fun hq => (hsl 1 (by decide) (fun q9 => hq (by rw [erI] at q9; rw [j51]; exact q9))).tr (by rw [ers5, esl1]; exact n62) (fun j hj => by rw [erS, n65])
      exact KK s45 _ _ _ hT R47 ⟨by rw [etx]; omega, ⟨by rw [etx, erB, erT, j49, j50]; exact tal_less hal (by omega), by rw [erT, j50]; exact tnn_less hnn (by omega)⟩, ⟨by rw [etx, j53, j55]; exact hco, by rw [etx, j54, j56]; exact hpo⟩, fun i hi => by rw [erI, erK, j51, j52]; exact hkp i hi⟩ (⟨hnw.tr (by rw [enw]; exact n58) (by rw [erW]; exact n64), fun i hi => (show i = 0 ∨ i = 1 by omega).elim (fun e9 => by rw [e9, erI]; exact sl0f) (fun e9 => by rw [e9, erI]; exact sl1f)⟩) (lv_sub hl [2, 3, 4, 5, 6] rfl)
  · have c7 := gi_ne c9
    refine lv_iconst (v := 1) hx hb dL_law_475 (by decide) ?_
    refine lv_goto (tgt := 480) hx hb dL_law_476 (by decide) ?_
    refine lv_aload_n hx hb dL_law_480 rfl (lv_at hl 1 rfl) ?_
    have hTo := hT
    refine tHi (n := 4) (As := [.ref x, .int y1, .int 1, .ref out]) (rest := []) hx hb hml hown hg hT hK hX (L_neighbour l κ σ x y1 1 out (hT.k t_x (by decide)) (hT.k t_out (by decide)) isB1 hlt) sub_hfE_fA (mwHS k874 k875 k83 k876) ⟨by decide, by decide, by decide +kernel⟩ ⟨(Nat.le_of_ble_eq_true rfl), (Nat.le_of_ble_eq_true rfl)⟩ rfl hl.1 rfl (Nat.le_of_ble_eq_true rfl) dL_law_481 zx (fun r68 s67 H locs hφ hE hT => ?_)
    have R69 := hR.ext hE ⟨rfl, rfl, fun _ => rfl, fun _ => rfl, fun _ => rfl, fun _ => rfl⟩
    have a70 : (zI s67 tx 1).toInt = (zI σ tx 1).toInt := by rw [(hTo.k ttx (by decide)).eI hE (by decide) rfl]
    have j71 : zI s67 rB = zI σ rB := (show zI s67 rB = zI σ rB from funext fun k => (hTo.k trB (by decide)).eI hE (by decide) rfl)
    have j72 : zI s67 rT = zI σ rT := (show zI s67 rT = zI σ rT from funext fun k => (hTo.k trT (by decide)).eI hE (by decide) rfl)
    have j73 : zI s67 rI = zI σ rI := (show zI s67 rI = zI σ rI from funext fun k => (hTo.k trI (by decide)).eI hE (by decide) rfl)
    have j74 : zI s67 rK = zI σ rK := (show zI s67 rK = zI σ rK from funext fun k => (hTo.k trK (by decide)).eI hE (by decide) rfl)
    have j75 : zI s67 tx 2 = zI σ tx 2 := (hTo.k ttx (by decide)).eI hE (by decide) rfl
    have j76 : zI s67 tx 3 = zI σ tx 3 := (hTo.k ttx (by decide)).eI hE (by decide) rfl
    have j77 : zI s67 mm 15 = zI σ mm 15 := (hTo.k t_mm (by decide)).eI hE (by decide) rfl
    have j78 : zI s67 mm 16 = zI σ mm 16 := (hTo.k t_mm (by decide)).eI hE (by decide) rfl
    have n79 : zI s67 nw 7 = zI σ nw 7 ∧ zI s67 nw 8 = zI σ nw 8 ∧ zI s67 nw 9 = zI σ nw 9 := ⟨(hTo.k tnw (by decide)).eI hE (by decide) rfl, (hTo.k tnw (by decide)).eI hE (by decide) rfl, (hTo.k tnw (by decide)).eI hE (by decide) rfl⟩
    have n80 : zI s67 sl0 7 = zI σ sl0 7 ∧ zI s67 sl0 8 = zI σ sl0 8 ∧ zI s67 sl0 9 = zI σ sl0 9 := ⟨(hTo.k tsl0 (by decide)).eI hE (by decide) rfl, (hTo.k tsl0 (by decide)).eI hE (by decide) rfl, (hTo.k tsl0 (by decide)).eI hE (by decide) rfl⟩
    have n81 : zI s67 sl1 7 = zI σ sl1 7 ∧ zI s67 sl1 8 = zI σ sl1 8 ∧ zI s67 sl1 9 = zI σ sl1 9 := ⟨(hTo.k tsl1 (by decide)).eI hE (by decide) rfl, (hTo.k tsl1 (by decide)).eI hE (by decide) rfl, (hTo.k tsl1 (by decide)).eI hE (by decide) rfl⟩
    have n82 : ∀ j : Nat, j < 3 → zJ s67 rW j = zJ σ rW j := fun j hj => (hTo.k trW (by decide)).eJ hE (by decide) rfl
    have n83 : zJ s67 rS = zJ σ rS := (show zJ s67 rS = zJ σ rS from funext fun k => (hTo.k trS (by decide)).eJ hE (by decide) rfl)
    have a84 : (zI s67 mm 13).toInt = (zI σ mm 13).toInt := by rw [(hTo.k t_mm (by decide)).eI hE (by decide) rfl]
    refine lv_istore (lv' := [(5, .int r68), (4, .int i), (3, .ref out), (2, .ref mm), (1, .ref x), (0, .ref b)]) hx hb dL_law_484 hl (by decide) rfl (fun ls hl => ?_)
    refine lv_aload_n hx hb dL_law_486 rfl (lv_at hl 3 rfl) ?_
    refine lv_aload_n hx hb dL_law_487 rfl (lv_at hl 5 rfl) ?_
    refine lv_iload hx hb dL_law_488 (lv_at hl 1 rfl) ?_
    refine lv_iconst (v := 1) hx hb dL_law_490 (by decide) ?_
    refine lv_iadd hx hb dL_law_491 ?_
    refine g_add (by omega) (by omega) (fun t85 ht85 => ?_)
    refine va_sld hx hb hXs hbl hbA hT.2.2.2 (g_in (by omega) (by omega)) dL_law_492 ?_
    refine ti y1 (by rw [hy1]; exact congrArg xs (show t85.toNatClampNeg = ix i + 1 from by show t85.toInt.toNat = ix i + 1; unfold ix; omega)) ?_
    refine lv_aload_n hx hb dL_law_493 rfl (lv_at hl 5 rfl) ?_
    refine lv_iload hx hb dL_law_494 (lv_at hl 1 rfl) ?_
    refine lv_iconst (v := 2) hx hb dL_law_496 (by decide) ?_
    refine lv_iadd hx hb dL_law_497 ?_
    refine g_add (by omega) (by omega) (fun t86 ht86 => ?_)
    refine va_sld hx hb hXs hbl hbA hT.2.2.2 (g_in (by omega) (by omega)) dL_law_498 ?_
    refine ti y2 (by rw [hy2]; exact congrArg xs (show t86.toNatClampNeg = ix i + 2 from by show t86.toInt.toNat = ix i + 2; unfold ix; omega)) ?_
    refine lv_if_eq (tgt := 506) hx hb dL_law_499 (by decide) (fun c9 => ?_) (fun c9 => ?_)
    · have c7 := gi_eq c9
      refine lv_iconst (v := 0) hx hb dL_law_506 (by decide) ?_
      have hTo := hT
      refine tVi (n := 2) (As := [.int y1, .int 0]) (rest := []) hx hb hml hown hg hT hK hX (X6_neighbour l (kX κ) s67 mm y1 0 (hT.k t_mm (by decide)) isB0 R69) sub_gR_fA (mwV k1449 k1450 k1451 k92 k1452) ⟨rfl, by decide, by decide, by decide +kernel⟩ ⟨(Nat.le_of_ble_eq_true rfl), (Nat.le_of_ble_eq_true rfl)⟩ (hT.o20 (hT.k t_mm (by decide))) rfl rfl hl.1 rfl (Nat.le_of_ble_eq_true rfl) dL_law_507 zx (fun r88 s87 H locs hφ hE hT => ?_)
      have R89 := R69.ext hE ⟨rfl, rfl, fun _ => rfl, fun _ => rfl, fun _ => rfl, fun _ => rfl⟩
      have a90 : (zI s87 tx 1).toInt = (zI s67 tx 1).toInt := by rw [(hTo.k ttx (by decide)).eI hE (by decide) rfl]
      have j91 : zI s87 rB = zI σ rB := ((show zI s87 rB = zI s67 rB from funext fun k => (hTo.k trB (by decide)).eI hE (by decide) rfl)).trans j71
      have j92 : zI s87 rT = zI σ rT := ((show zI s87 rT = zI s67 rT from funext fun k => (hTo.k trT (by decide)).eI hE (by decide) rfl)).trans j72
      have j93 : zI s87 rI = zI σ rI := ((show zI s87 rI = zI s67 rI from funext fun k => (hTo.k trI (by decide)).eI hE (by decide) rfl)).trans j73
      have j94 : zI s87 rK = zI σ rK := ((show zI s87 rK = zI s67 rK from funext fun k => (hTo.k trK (by decide)).eI hE (by decide) rfl)).trans j74
      have j95 : zI s87 tx 2 = zI σ tx 2 := ((hTo.k ttx (by decide)).eI hE (by decide) rfl).trans j75
      have j96 : zI s87 tx 3 = zI σ tx 3 := ((hTo.k ttx (by decide)).eI hE (by decide) rfl).trans j76
      have j97 : zI s87 mm 15 = zI σ mm 15 := ((hTo.k t_mm (by decide)).eI hE (by decide) rfl).trans j77
      have j98 : zI s87 mm 16 = zI σ mm 16 := ((hTo.k t_mm (by decide)).eI hE (by decide) rfl).trans j78
      have n99 : zI s87 nw 7 = zI s67 nw 7 ∧ zI s87 nw 8 = zI s67 nw 8 ∧ zI s87 nw 9 = zI s67 nw 9 := ⟨(hTo.k tnw (by decide)).eI hE (by decide) rfl, (hTo.k tnw (by decide)).eI hE (by decide) rfl, (hTo.k tnw (by decide)).eI hE (by decide) rfl⟩
      have n100 : zI s87 nw 7 = zI σ nw 7 ∧ zI s87 nw 8 = zI σ nw 8 ∧ zI s87 nw 9 = zI σ nw 9 := ⟨n99.1.trans n79.1, n99.2.1.trans n79.2.1, n99.2.2.trans n79.2.2⟩
      have n101 : zI s87 sl0 7 = zI s67 sl0 7 ∧ zI s87 sl0 8 = zI s67 sl0 8 ∧ zI s87 sl0 9 = zI s67 sl0 9 := ⟨(hTo.k tsl0 (by decide)).eI hE (by decide) rfl, (hTo.k tsl0 (by decide)).eI hE (by decide) rfl, (hTo.k tsl0 (by decide)).eI hE (by decide) rfl⟩
      have n102 : zI s87 sl0 7 = zI σ sl0 7 ∧ zI s87 sl0 8 = zI σ sl0 8 ∧ zI s87 sl0 9 = zI σ sl0 9 := ⟨n101.1.trans n80.1, n101.2.1.trans n80.2.1, n101.2.2.trans n80.2.2⟩
      have n103 : zI s87 sl1 7 = zI s67 sl1 7 ∧ zI s87 sl1 8 = zI s67 sl1 8 ∧ zI s87 sl1 9 = zI s67 sl1 9 := ⟨(hTo.k tsl1 (by decide)).eI hE (by decide) rfl, (hTo.k tsl1 (by decide)).eI hE (by decide) rfl, (hTo.k tsl1 (by decide)).eI hE (by decide) rfl⟩
      have n104 : zI s87 sl1 7 = zI σ sl1 7 ∧ zI s87 sl1 8 = zI σ sl1 8 ∧ zI s87 sl1 9 = zI σ sl1 9 := ⟨n103.1.trans n81.1, n103.2.1.trans n81.2.1, n103.2.2.trans n81.2.2⟩
      have n105 : ∀ j : Nat, j < 3 → zJ s87 rW j = zJ s67 rW j := fun j hj => (hTo.k trW (by decide)).eJ hE (by decide) rfl
      have n106 : ∀ j : Nat, j < 3 → zJ s87 rW j = zJ σ rW j := fun j hj => (n105 j hj).trans (n82 j hj)
      have n107 : zJ s87 rS = zJ σ rS := (show zJ s87 rS = zJ s67 rS from funext fun k => (hTo.k trS (by decide)).eJ hE (by decide) rfl).trans n83
      have a108 : (zI s87 mm 13).toInt = (zI s67 mm 13).toInt := by rw [(hTo.k t_mm (by decide)).eI hE (by decide) rfl]
      refine lv_istore (lv' := [(6, .int r88), (5, .int r68), (4, .int i), (3, .ref out), (2, .ref mm), (1, .ref x), (0, .ref b)]) hx hb dL_law_510 hl (by decide) rfl (fun ls hl => ?_)
      refine lv_goto (tgt := 1404) hx hb dL_law_512 (by decide) ?_
      have sl0f : zI s87 rI 0 ≠ 0 → SLT κ s87 x mm 0 := fun hq => (hsl 0 (by decide) (fun q9 => hq (by rw [erI] at q9; rw [j93]; exact q9))).tr (by rw [ers5, esl0]; exact n102) (fun j hj => by rw [erS, n107])
      have sl1f : zI s87 rI 1 ≠ 0 → SLT κ s87 x mm 1 := fun hq => (hsl 1 (by decide) (fun q9 => hq (by rw [erI] at q9; rw [j93]; exact q9))).tr (by rw [ers5, esl1]; exact n104) (fun j hj => by rw [erS, n107])
      exact KK s87 _ _ _ hT R89 ⟨by rw [etx]; omega, ⟨by rw [etx, erB, erT, j91, j92]; exact tal_less hal (by omega), by rw [erT, j92]; exact tnn_less hnn (by omega)⟩, ⟨by rw [etx, j95, j97]; exact hco, by rw [etx, j96, j98]; exact hpo⟩, fun i hi => by rw [erI, erK, j93, j94]; exact hkp i hi⟩ (⟨hnw.tr (by rw [enw]; exact n100) (by rw [erW]; exact n106), fun i hi => (show i = 0 ∨ i = 1 by omega).elim (fun e9 => by rw [e9, erI]; exact sl0f) (fun e9 => by rw [e9, erI]; exact sl1f)⟩) (lv_sub hl [2, 3, 4, 5, 6] rfl)
    · have c7 := gi_ne c9
      refine lv_iconst (v := 1) hx hb dL_law_502 (by decide) ?_
      refine lv_goto (tgt := 507) hx hb dL_law_503 (by decide) ?_
      have hTo := hT
      refine tVi (n := 2) (As := [.int y1, .int 1]) (rest := []) hx hb hml hown hg hT hK hX (X6_neighbour l (kX κ) s67 mm y1 1 (hT.k t_mm (by decide)) isB1 R69) sub_gR_fA (mwV k1449 k1450 k1451 k92 k1452) ⟨rfl, by decide, by decide, by decide +kernel⟩ ⟨(Nat.le_of_ble_eq_true rfl), (Nat.le_of_ble_eq_true rfl)⟩ (hT.o20 (hT.k t_mm (by decide))) rfl rfl hl.1 rfl (Nat.le_of_ble_eq_true rfl) dL_law_507 zx (fun r110 s109 H locs hφ hE hT => ?_)
      have R111 := R69.ext hE ⟨rfl, rfl, fun _ => rfl, fun _ => rfl, fun _ => rfl, fun _ => rfl⟩
      have a112 : (zI s109 tx 1).toInt = (zI s67 tx 1).toInt := by rw [(hTo.k ttx (by decide)).eI hE (by decide) rfl]
      have j113 : zI s109 rB = zI σ rB := ((show zI s109 rB = zI s67 rB from funext fun k => (hTo.k trB (by decide)).eI hE (by decide) rfl)).trans j71
      have j114 : zI s109 rT = zI σ rT := ((show zI s109 rT = zI s67 rT from funext fun k => (hTo.k trT (by decide)).eI hE (by decide) rfl)).trans j72
      have j115 : zI s109 rI = zI σ rI := ((show zI s109 rI = zI s67 rI from funext fun k => (hTo.k trI (by decide)).eI hE (by decide) rfl)).trans j73
      have j116 : zI s109 rK = zI σ rK := ((show zI s109 rK = zI s67 rK from funext fun k => (hTo.k trK (by decide)).eI hE (by decide) rfl)).trans j74
      have j117 : zI s109 tx 2 = zI σ tx 2 := ((hTo.k ttx (by decide)).eI hE (by decide) rfl).trans j75
      have j118 : zI s109 tx 3 = zI σ tx 3 := ((hTo.k ttx (by decide)).eI hE (by decide) rfl).trans j76
      have j119 : zI s109 mm 15 = zI σ mm 15 := ((hTo.k t_mm (by decide)).eI hE (by decide) rfl).trans j77
      have j120 : zI s109 mm 16 = zI σ mm 16 := ((hTo.k t_mm (by decide)).eI hE (by decide) rfl).trans j78
      have n121 : zI s109 nw 7 = zI s67 nw 7 ∧ zI s109 nw 8 = zI s67 nw 8 ∧ zI s109 nw 9 = zI s67 nw 9 := ⟨(hTo.k tnw (by decide)).eI hE (by decide) rfl, (hTo.k tnw (by decide)).eI hE (by decide) rfl, (hTo.k tnw (by decide)).eI hE (by decide) rfl⟩
      have n122 : zI s109 nw 7 = zI σ nw 7 ∧ zI s109 nw 8 = zI σ nw 8 ∧ zI s109 nw 9 = zI σ nw 9 := ⟨n121.1.trans n79.1, n121.2.1.trans n79.2.1, n121.2.2.trans n79.2.2⟩
      have n123 : zI s109 sl0 7 = zI s67 sl0 7 ∧ zI s109 sl0 8 = zI s67 sl0 8 ∧ zI s109 sl0 9 = zI s67 sl0 9 := ⟨(hTo.k tsl0 (by decide)).eI hE (by decide) rfl, (hTo.k tsl0 (by decide)).eI hE (by decide) rfl, (hTo.k tsl0 (by decide)).eI hE (by decide) rfl⟩
      have n124 : zI s109 sl0 7 = zI σ sl0 7 ∧ zI s109 sl0 8 = zI σ sl0 8 ∧ zI s109 sl0 9 = zI σ sl0 9 := ⟨n123.1.trans n80.1, n123.2.1.trans n80.2.1, n123.2.2.trans n80.2.2⟩
      have n125 : zI s109 sl1 7 = zI s67 sl1 7 ∧ zI s109 sl1 8 = zI s67 sl1 8 ∧ zI s109 sl1 9 = zI s67 sl1 9 := ⟨(hTo.k tsl1 (by decide)).eI hE (by decide) rfl, (hTo.k tsl1 (by decide)).eI hE (by decide) rfl, (hTo.k tsl1 (by decide)).eI hE (by decide) rfl⟩
      have n126 : zI s109 sl1 7 = zI σ sl1 7 ∧ zI s109 sl1 8 = zI σ sl1 8 ∧ zI s109 sl1 9 = zI σ sl1 9 := ⟨n125.1.trans n81.1, n125.2.1.trans n81.2.1, n125.2.2.trans n81.2.2⟩
      have n127 : ∀ j : Nat, j < 3 → zJ s109 rW j = zJ s67 rW j := fun j hj => (hTo.k trW (by decide)).eJ hE (by decide) rfl
      have n128 : ∀ j : Nat, j < 3 → zJ s109 rW j = zJ σ rW j := fun j hj => (n127 j hj).trans (n82 j hj)
      have n129 : zJ s109 rS = zJ σ rS := (show zJ s109 rS = zJ s67 rS from funext fun k => (hTo.k trS (by decide)).eJ hE (by decide) rfl).trans n83
      have a130 : (zI s109 mm 13).toInt = (zI s67 mm 13).toInt := by rw [(hTo.k t_mm (by decide)).eI hE (by decide) rfl]
      refine lv_istore (lv' := [(6, .int r110), (5, .int r68), (4, .int i), (3, .ref out), (2, .ref mm), (1, .ref x), (0, .ref b)]) hx hb dL_law_510 hl (by decide) rfl (fun ls hl => ?_)
      refine lv_goto (tgt := 1404) hx hb dL_law_512 (by decide) ?_
      have sl0f : zI s109 rI 0 ≠ 0 → SLT κ s109 x mm 0 := fun hq => (hsl 0 (by decide) (fun q9 => hq (by rw [erI] at q9; rw [j115]; exact q9))).tr (by rw [ers5, esl0]; exact n124) (fun j hj => by rw [erS, n129])
      have sl1f : zI s109 rI 1 ≠ 0 → SLT κ s109 x mm 1 := fun hq => (hsl 1 (by decide) (fun q9 => hq (by rw [erI] at q9; rw [j115]; exact q9))).tr (by rw [ers5, esl1]; exact n126) (fun j hj => by rw [erS, n129])
      exact KK s109 _ _ _ hT R111 ⟨by rw [etx]; omega, ⟨by rw [etx, erB, erT, j113, j114]; exact tal_less hal (by omega), by rw [erT, j114]; exact tnn_less hnn (by omega)⟩, ⟨by rw [etx, j117, j119]; exact hco, by rw [etx, j118, j120]; exact hpo⟩, fun i hi => by rw [erI, erK, j115, j116]; exact hkp i hi⟩ (⟨hnw.tr (by rw [enw]; exact n122) (by rw [erW]; exact n128), fun i hi => (show i = 0 ∨ i = 1 by omega).elim (fun e9 => by rw [e9, erI]; exact sl0f) (fun e9 => by rw [e9, erI]; exact sl1f)⟩) (lv_sub hl [2, 3, 4, 5, 6] rfl)
set_option maxHeartbeats 4000000 in
set_option maxRecDepth 100000 in
theorem lc_9 (l : Launch) (κ : Kt) (σ0 : Gh) (x mm out b : Nat) (t_x : zk σ0 x 7) (t_mm : zk σ0 mm 20) (t_out : zk σ0 out 24) (ttx0 : zk σ0 (kR κ x 0) 6) (hdis : DIS κ x) (hlt : l.stackTraces = false) {p : Program} {e : Env} {s : State} {m : MethodId} {below : List Frame} {meth : Method} {c : Code} {L : Nat} {xs : Nat → Int32} {i : Int32} {Q9 : State → Prop} (hx : p.tables.exec = Jvm.exec) (hb : c.code = cL_law) (hml : c.maxLocals = 9) (hown : s.vm.findClass RL = some m.cls) (hg : ∀ w ∈ GW, w.before #[Value.ref b] s = true) (hK : va_K κ.1 vwCl (kTy κ) s) (hX : XY κ (tA σ0 s.heap.size) s s.heap) (hXs : va_X b L xs s s.heap) (hbl : b < s.heap.size) (hbA : ¬ tA σ0 s.heap.size b) (zx : zroomX κ s room_1 601024 7293034) (hi0 : 0 ≤ i.toInt) (hi1 : i.toInt + 6 ≤ L) (hL9 : L ≤ 3072) {σ : Gh} {H : Heap} {locs : List Loc} {ls : Array Slot} (hT : TS κ fA σ0 σ s H locs) (hR : RI κ σ mm) (hrel : LREL κ σ x mm) (hsr : SREL κ σ x mm) (hl : lv_has ls 9 [(4, .int i), (3, .ref out), (2, .ref mm), (1, .ref x), (0, .ref b)]) (KK : ∀ (σ1 : Gh) (H : Heap) (locs : List Loc) (ls : Array Slot), TS (kX κ) fA σ0 σ1 s H locs → RI (kX κ) σ1 mm → LREL κ σ1 x mm → SREL κ σ1 x mm → lv_has ls 9 [(4, .int i), (3, .ref out), (2, .ref mm), (1, .ref x), (0, .ref b)] → W p l e room_1 s m #[Value.ref b] below meth c H locs 601024 7293034 Q9 (F0 m 1404 ls [])) : W p l e room_1 s m #[Value.ref b] below meth c H locs 601024 7293034 Q9 (F0 m 515 ls []) := by
  obtain ⟨y1, hy1⟩ : ∃ z, z = xs (ix i + 1) := ⟨_, rfl⟩
  obtain ⟨y2, hy2⟩ : ∃ z, z = xs (ix i + 2) := ⟨_, rfl⟩
  obtain ⟨y3, hy3⟩ : ∃ z, z = xs (ix i + 3) := ⟨_, rfl⟩
  obtain ⟨y4, hy4⟩ : ∃ z, z = xs (ix i + 4) := ⟨_, rfl⟩
  obtain ⟨y5, hy5⟩ : ∃ z, z = xs (ix i + 5) := ⟨_, rfl⟩
  have n0 : (0 : Int32).toInt = 0 := by decide
  have n1 : (1 : Int32).toInt = 1 := by decide
  have n2 : (2 : Int32).toInt = 2 := by decide
  have n3 : (3 : Int32).toInt = 3 := by decide
  have n4 : (4 : Int32).toInt = 4 := by decide
  have n5 : (5 : Int32).toInt = 5 := by decide
  obtain ⟨tx, etx⟩ : ∃ z, kR κ x 0 = z := ⟨_, rfl⟩
  have ttx : zk σ0 tx 6 := by rw [← etx]; exact ttx0
  obtain ⟨rB, erB⟩ : ∃ z, kR κ tx 0 = z := ⟨_, rfl⟩
  have trB : zk σ0 rB 14 := by rw [← erB]; exact hT.kr (hT.ref (hT.k ttx (by decide)) (by decide) (by decide) (by decide)) (by decide) (by decide)
  obtain ⟨rT, erT⟩ : ∃ z, kR κ mm 12 = z := ⟨_, rfl⟩
  have trT : zk σ0 rT 23 := by rw [← erT]; exact hT.kr (hT.ref (hT.k t_mm (by decide)) (by decide) (by decide) (by decide)) (by decide) (by decide)
  obtain ⟨rI, erI⟩ : ∃ z, kR κ x 6 = z := ⟨_, rfl⟩
  have trI : zk σ0 rI 13 := by rw [← erI]; exact hT.kr (hT.ref (hT.k t_x (by decide)) (by decide) (by decide) (by decide)) (by decide) (by decide)
  obtain ⟨rK, erK⟩ : ∃ z, kR κ mm 4 = z := ⟨_, rfl⟩
  have trK : zk σ0 rK 29 := by rw [← erK]; exact hT.kr (hT.ref (hT.k t_mm (by decide)) (by decide) (by decide) (by decide)) (by decide) (by decide)
  obtain ⟨hlen, ⟨hal, hnn⟩, ⟨hco, hpo⟩, hkp⟩ := hrel
  rw [etx] at hlen hal hco hpo
  rw [erB, erT] at hal
  rw [erT] at hnn
  rw [erI, erK] at hkp
  have btx := (hT.P (hT.k ttx (by decide)) (by decide)).1
  have btxl := btx.1
  have btxh := btx.2
  obtain ⟨nw, enw⟩ : ∃ z, kR κ x 3 = z := ⟨_, rfl⟩
  have tnw : zk σ0 nw 3 := by rw [← enw]; exact hT.kr (hT.ref (hT.k t_x (by decide)) (by decide) (by decide) (by decide)) (by decide) (by decide)
  obtain ⟨tr, etr⟩ : ∃ z, kR κ x 4 = z := ⟨_, rfl⟩
  have ttr : zk σ0 tr 3 := by rw [← etr]; exact hT.kr (hT.ref (hT.k t_x (by decide)) (by decide) (by decide) (by decide)) (by decide) (by decide)
  obtain ⟨rs5, ers5⟩ : ∃ z, kR κ x 5 = z := ⟨_, rfl⟩
  have trs5 : zk σ0 rs5 12 := by rw [← ers5]; exact hT.kr (hT.ref (hT.k t_x (by decide)) (by decide) (by decide) (by decide)) (by decide) (by decide)
  obtain ⟨sl0, esl0⟩ : ∃ z, kR κ rs5 0 = z := ⟨_, rfl⟩
  have tsl0 : zk σ0 sl0 3 := by rw [← esl0]; exact hT.kr (hT.ref (hT.k trs5 (by decide)) (by decide) (by decide) (by decide)) (by decide) (by decide)
  obtain ⟨sl1, esl1⟩ : ∃ z, kR κ rs5 1 = z := ⟨_, rfl⟩
  have tsl1 : zk σ0 sl1 3 := by rw [← esl1]; exact hT.kr (hT.ref (hT.k trs5 (by decide)) (by decide) (by decide) (by decide)) (by decide) (by decide)
  obtain ⟨rW, erW⟩ : ∃ z, kR κ mm 1 = z := ⟨_, rfl⟩
  have trW : zk σ0 rW 21 := by rw [← erW]; exact hT.kr (hT.ref (hT.k t_mm (by decide)) (by decide) (by decide) (by decide)) (by decide) (by decide)
  obtain ⟨rS, erS⟩ : ∃ z, kR κ mm 3 = z := ⟨_, rfl⟩
  have trS : zk σ0 rS 22 := by rw [← erS]; exact hT.kr (hT.ref (hT.k t_mm (by decide)) (by decide) (by decide) (by decide)) (by decide) (by decide)
  obtain ⟨hnw, hsl⟩ := hsr
  obtain ⟨hd1, ⟨hd2, hd3⟩, hd4, hd5⟩ := hdis
  have d_nt : nw ≠ tr := by rw [← enw, ← etr]; exact hd2
  have d_n0 : nw ≠ sl0 := by rw [← enw, ← esl0, ← ers5]; exact hd3 0 (by decide)
  have d_t0 : sl0 ≠ tr := by rw [← etr, ← esl0, ← ers5]; exact fun q => hd4 0 (by decide) q.symm
  have d_n1 : nw ≠ sl1 := by rw [← enw, ← esl1, ← ers5]; exact hd3 1 (by decide)
  have d_t1 : sl1 ≠ tr := by rw [← etr, ← esl1, ← ers5]; exact fun q => hd4 1 (by decide) q.symm
  have d_01 : sl0 ≠ sl1 := by rw [← esl0, ← esl1, ← ers5]; exact hd5
  have knw : zk σ nw 3 := hT.k tnw (by decide)
  have ksl0 : zk σ sl0 3 := hT.k tsl0 (by decide)
  have ksl1 : zk σ sl1 3 := hT.k tsl1 (by decide)
  refine lv_aload_n hx hb dL_law_515 rfl (lv_at hl 3 rfl) ?_
  refine lv_aload_n hx hb dL_law_516 rfl (lv_at hl 4 rfl) ?_
  refine lv_iload hx hb dL_law_517 (lv_at hl 0 rfl) ?_
  refine lv_iconst (v := 1) hx hb dL_law_519 (by decide) ?_
  refine lv_iadd hx hb dL_law_520 ?_
  refine g_add (by omega) (by omega) (fun t1 ht1 => ?_)
  refine va_sld hx hb hXs hbl hbA hT.2.2.2 (g_in (by omega) (by omega)) dL_law_521 ?_
  refine ti y1 (by rw [hy1]; exact congrArg xs (show t1.toNatClampNeg = ix i + 1 from by show t1.toInt.toNat = ix i + 1; unfold ix; omega)) ?_
  refine lv_aload_n hx hb dL_law_522 rfl (lv_at hl 4 rfl) ?_
  refine lv_iload hx hb dL_law_523 (lv_at hl 0 rfl) ?_
  refine lv_iconst (v := 2) hx hb dL_law_525 (by decide) ?_
  refine lv_iadd hx hb dL_law_526 ?_
  refine g_add (by omega) (by omega) (fun t2 ht2 => ?_)
  refine va_sld hx hb hXs hbl hbA hT.2.2.2 (g_in (by omega) (by omega)) dL_law_527 ?_
  refine ti y2 (by rw [hy2]; exact congrArg xs (show t2.toNatClampNeg = ix i + 2 from by show t2.toInt.toNat = ix i + 2; unfold ix; omega)) ?_
  refine lv_aload_n hx hb dL_law_528 rfl (lv_at hl 1 rfl) ?_
  have hTo := hT
  refine tHi (n := 4) (As := [.ref x, .int y1, .int y2, .ref out]) (rest := []) hx hb hml hown hg hT hK hX (L_step l κ σ x y1 y2 out (hT.k t_x (by decide)) (hT.k t_out (by decide)) hlt) sub_hfE_fA (mwHS k883 k884 k83 k885) ⟨by decide, by decide, by decide +kernel⟩ ⟨(Nat.le_of_ble_eq_true rfl), (Nat.le_of_ble_eq_true rfl)⟩ rfl hl.1 rfl (Nat.le_of_ble_eq_true rfl) dL_law_529 zx (fun r4 s3 H locs hφ hE hT => ?_)
  have R5 := hR.ext hE ⟨rfl, rfl, fun _ => rfl, fun _ => rfl, fun _ => rfl, fun _ => rfl⟩
  have a6 : (zI s3 tx 1).toInt = (zI σ tx 1).toInt := by rw [(hTo.k ttx (by decide)).eI hE (by decide) rfl]
  have j7 : zI s3 rB = zI σ rB := (show zI s3 rB = zI σ rB from funext fun k => (hTo.k trB (by decide)).eI hE (by decide) rfl)
  have j8 : zI s3 rT = zI σ rT := (show zI s3 rT = zI σ rT from funext fun k => (hTo.k trT (by decide)).eI hE (by decide) rfl)
  have j9 : zI s3 rI = zI σ rI := (show zI s3 rI = zI σ rI from funext fun k => (hTo.k trI (by decide)).eI hE (by decide) rfl)
  have j10 : zI s3 rK = zI σ rK := (show zI s3 rK = zI σ rK from funext fun k => (hTo.k trK (by decide)).eI hE (by decide) rfl)
  have j11 : zI s3 tx 2 = zI σ tx 2 := (hTo.k ttx (by decide)).eI hE (by decide) rfl
  have j12 : zI s3 tx 3 = zI σ tx 3 := (hTo.k ttx (by decide)).eI hE (by decide) rfl
  have j13 : zI s3 mm 15 = zI σ mm 15 := (hTo.k t_mm (by decide)).eI hE (by decide) rfl
  have j14 : zI s3 mm 16 = zI σ mm 16 := (hTo.k t_mm (by decide)).eI hE (by decide) rfl
  have n15 : zI s3 nw 7 = zI σ nw 7 ∧ zI s3 nw 8 = zI σ nw 8 ∧ zI s3 nw 9 = zI σ nw 9 := ⟨(hTo.k tnw (by decide)).eI hE (by decide) rfl, (hTo.k tnw (by decide)).eI hE (by decide) rfl, (hTo.k tnw (by decide)).eI hE (by decide) rfl⟩
  have n16 : zI s3 sl0 7 = zI σ sl0 7 ∧ zI s3 sl0 8 = zI σ sl0 8 ∧ zI s3 sl0 9 = zI σ sl0 9 := ⟨(hTo.k tsl0 (by decide)).eI hE (by decide) rfl, (hTo.k tsl0 (by decide)).eI hE (by decide) rfl, (hTo.k tsl0 (by decide)).eI hE (by decide) rfl⟩
  have n17 : zI s3 sl1 7 = zI σ sl1 7 ∧ zI s3 sl1 8 = zI σ sl1 8 ∧ zI s3 sl1 9 = zI σ sl1 9 := ⟨(hTo.k tsl1 (by decide)).eI hE (by decide) rfl, (hTo.k tsl1 (by decide)).eI hE (by decide) rfl, (hTo.k tsl1 (by decide)).eI hE (by decide) rfl⟩
  have n18 : ∀ j : Nat, j < 3 → zJ s3 rW j = zJ σ rW j := fun j hj => (hTo.k trW (by decide)).eJ hE (by decide) rfl
  have n19 : zJ s3 rS = zJ σ rS := (show zJ s3 rS = zJ σ rS from funext fun k => (hTo.k trS (by decide)).eJ hE (by decide) rfl)
  have a20 : (zI s3 mm 13).toInt = (zI σ mm 13).toInt := by rw [(hTo.k t_mm (by decide)).eI hE (by decide) rfl]
  refine lv_istore (lv' := [(5, .int r4), (4, .int i), (3, .ref out), (2, .ref mm), (1, .ref x), (0, .ref b)]) hx hb dL_law_532 hl (by decide) rfl (fun ls hl => ?_)
  refine lv_aload_n hx hb dL_law_534 rfl (lv_at hl 3 rfl) ?_
  refine lv_aload_n hx hb dL_law_535 rfl (lv_at hl 5 rfl) ?_
  refine lv_iload hx hb dL_law_536 (lv_at hl 1 rfl) ?_
  refine lv_iconst (v := 1) hx hb dL_law_538 (by decide) ?_
  refine lv_iadd hx hb dL_law_539 ?_
  refine g_add (by omega) (by omega) (fun t21 ht21 => ?_)
  refine va_sld hx hb hXs hbl hbA hT.2.2.2 (g_in (by omega) (by omega)) dL_law_540 ?_
  refine ti y1 (by rw [hy1]; exact congrArg xs (show t21.toNatClampNeg = ix i + 1 from by show t21.toInt.toNat = ix i + 1; unfold ix; omega)) ?_
  refine lv_aload_n hx hb dL_law_541 rfl (lv_at hl 5 rfl) ?_
  refine lv_iload hx hb dL_law_542 (lv_at hl 1 rfl) ?_
  refine lv_iconst (v := 2) hx hb dL_law_544 (by decide) ?_
  refine lv_iadd hx hb dL_law_545 ?_
  refine g_add (by omega) (by omega) (fun t22 ht22 => ?_)
  refine va_sld hx hb hXs hbl hbA hT.2.2.2 (g_in (by omega) (by omega)) dL_law_546 ?_
  refine ti y2 (by rw [hy2]; exact congrArg xs (show t22.toNatClampNeg = ix i + 2 from by show t22.toInt.toNat = ix i + 2; unfold ix; omega)) ?_
  have hTo := hT
  refine tVl (n := 2) (As := [.int y1, .int y2]) (rest := []) hx hb hml hown hg hT hK hX (X6_step l (kX κ) s3 mm y1 y2 (hT.k t_mm (by decide)) R5) sub_gR_fA (mwV k1453 k1454 k1455 k92 k1456) ⟨rfl, by decide, by decide, by decide +kernel⟩ ⟨(Nat.le_of_ble_eq_true rfl), (Nat.le_of_ble_eq_true rfl)⟩ (hT.o20 (hT.k t_mm (by decide))) rfl rfl hl.1 rfl (Nat.le_of_ble_eq_true rfl) dL_law_547 zx (fun r24 s23 H locs hφ hE hT => ?_)
  have R25 := R5.ext hE ⟨rfl, rfl, fun _ => rfl, fun _ => rfl, fun _ => rfl, fun _ => rfl⟩
  have a26 : (zI s23 tx 1).toInt = (zI s3 tx 1).toInt := by rw [(hTo.k ttx (by decide)).eI hE (by decide) rfl]
  have j27 : zI s23 rB = zI σ rB := ((show zI s23 rB = zI s3 rB from funext fun k => (hTo.k trB (by decide)).eI hE (by decide) rfl)).trans j7
  have j28 : zI s23 rT = zI σ rT := ((show zI s23 rT = zI s3 rT from funext fun k => (hTo.k trT (by decide)).eI hE (by decide) rfl)).trans j8
  have j29 : zI s23 rI = zI σ rI := ((show zI s23 rI = zI s3 rI from funext fun k => (hTo.k trI (by decide)).eI hE (by decide) rfl)).trans j9
  have j30 : zI s23 rK = zI σ rK := ((show zI s23 rK = zI s3 rK from funext fun k => (hTo.k trK (by decide)).eI hE (by decide) rfl)).trans j10
  have j31 : zI s23 tx 2 = zI σ tx 2 := ((hTo.k ttx (by decide)).eI hE (by decide) rfl).trans j11
  have j32 : zI s23 tx 3 = zI σ tx 3 := ((hTo.k ttx (by decide)).eI hE (by decide) rfl).trans j12
  have j33 : zI s23 mm 15 = zI σ mm 15 := ((hTo.k t_mm (by decide)).eI hE (by decide) rfl).trans j13
  have j34 : zI s23 mm 16 = zI σ mm 16 := ((hTo.k t_mm (by decide)).eI hE (by decide) rfl).trans j14
  have n35 : zI s23 nw 7 = zI s3 nw 7 ∧ zI s23 nw 8 = zI s3 nw 8 ∧ zI s23 nw 9 = zI s3 nw 9 := ⟨(hTo.k tnw (by decide)).eI hE (by decide) rfl, (hTo.k tnw (by decide)).eI hE (by decide) rfl, (hTo.k tnw (by decide)).eI hE (by decide) rfl⟩
  have n36 : zI s23 nw 7 = zI σ nw 7 ∧ zI s23 nw 8 = zI σ nw 8 ∧ zI s23 nw 9 = zI σ nw 9 := ⟨n35.1.trans n15.1, n35.2.1.trans n15.2.1, n35.2.2.trans n15.2.2⟩
  have n37 : zI s23 sl0 7 = zI s3 sl0 7 ∧ zI s23 sl0 8 = zI s3 sl0 8 ∧ zI s23 sl0 9 = zI s3 sl0 9 := ⟨(hTo.k tsl0 (by decide)).eI hE (by decide) rfl, (hTo.k tsl0 (by decide)).eI hE (by decide) rfl, (hTo.k tsl0 (by decide)).eI hE (by decide) rfl⟩
  have n38 : zI s23 sl0 7 = zI σ sl0 7 ∧ zI s23 sl0 8 = zI σ sl0 8 ∧ zI s23 sl0 9 = zI σ sl0 9 := ⟨n37.1.trans n16.1, n37.2.1.trans n16.2.1, n37.2.2.trans n16.2.2⟩
  have n39 : zI s23 sl1 7 = zI s3 sl1 7 ∧ zI s23 sl1 8 = zI s3 sl1 8 ∧ zI s23 sl1 9 = zI s3 sl1 9 := ⟨(hTo.k tsl1 (by decide)).eI hE (by decide) rfl, (hTo.k tsl1 (by decide)).eI hE (by decide) rfl, (hTo.k tsl1 (by decide)).eI hE (by decide) rfl⟩
  have n40 : zI s23 sl1 7 = zI σ sl1 7 ∧ zI s23 sl1 8 = zI σ sl1 8 ∧ zI s23 sl1 9 = zI σ sl1 9 := ⟨n39.1.trans n17.1, n39.2.1.trans n17.2.1, n39.2.2.trans n17.2.2⟩
  have n41 : ∀ j : Nat, j < 3 → zJ s23 rW j = zJ s3 rW j := fun j hj => (hTo.k trW (by decide)).eJ hE (by decide) rfl
  have n42 : ∀ j : Nat, j < 3 → zJ s23 rW j = zJ σ rW j := fun j hj => (n41 j hj).trans (n18 j hj)
  have n43 : zJ s23 rS = zJ σ rS := (show zJ s23 rS = zJ s3 rS from funext fun k => (hTo.k trS (by decide)).eJ hE (by decide) rfl).trans n19
  have a44 : (zI s23 mm 13).toInt = (zI s3 mm 13).toInt := by rw [(hTo.k t_mm (by decide)).eI hE (by decide) rfl]
  refine lv_lstore (lv' := [(6, .long r24), (5, .int r4), (4, .int i), (3, .ref out), (2, .ref mm), (1, .ref x), (0, .ref b)]) hx hb dL_law_550 hl (by decide) rfl (fun ls hl => ?_)
  refine lv_goto (tgt := 1404) hx hb dL_law_552 (by decide) ?_
  have sl0f : zI s23 rI 0 ≠ 0 → SLT κ s23 x mm 0 := fun hq => (hsl 0 (by decide) (fun q9 => hq (by rw [erI] at q9; rw [j29]; exact q9))).tr (by rw [ers5, esl0]; exact n38) (fun j hj => by rw [erS, n43])
  have sl1f : zI s23 rI 1 ≠ 0 → SLT κ s23 x mm 1 := fun hq => (hsl 1 (by decide) (fun q9 => hq (by rw [erI] at q9; rw [j29]; exact q9))).tr (by rw [ers5, esl1]; exact n40) (fun j hj => by rw [erS, n43])
  exact KK s23 _ _ _ hT R25 ⟨by rw [etx]; omega, ⟨by rw [etx, erB, erT, j27, j28]; exact tal_less hal (by omega), by rw [erT, j28]; exact tnn_less hnn (by omega)⟩, ⟨by rw [etx, j31, j33]; exact hco, by rw [etx, j32, j34]; exact hpo⟩, fun i hi => by rw [erI, erK, j29, j30]; exact hkp i hi⟩ (⟨hnw.tr (by rw [enw]; exact n36) (by rw [erW]; exact n42), fun i hi => (show i = 0 ∨ i = 1 by omega).elim (fun e9 => by rw [e9, erI]; exact sl0f) (fun e9 => by rw [e9, erI]; exact sl1f)⟩) (lv_sub hl [2, 3, 4, 5, 6] rfl)
set_option maxHeartbeats 4000000 in
set_option maxRecDepth 100000 in
theorem lc_10 (l : Launch) (κ : Kt) (σ0 : Gh) (x mm out b : Nat) (t_x : zk σ0 x 7) (t_mm : zk σ0 mm 20) (t_out : zk σ0 out 24) (ttx0 : zk σ0 (kR κ x 0) 6) (hdis : DIS κ x) (hlt : l.stackTraces = false) {p : Program} {e : Env} {s : State} {m : MethodId} {below : List Frame} {meth : Method} {c : Code} {L : Nat} {xs : Nat → Int32} {i : Int32} {Q9 : State → Prop} (hx : p.tables.exec = Jvm.exec) (hb : c.code = cL_law) (hml : c.maxLocals = 9) (hown : s.vm.findClass RL = some m.cls) (hg : ∀ w ∈ GW, w.before #[Value.ref b] s = true) (hK : va_K κ.1 vwCl (kTy κ) s) (hX : XY κ (tA σ0 s.heap.size) s s.heap) (hXs : va_X b L xs s s.heap) (hbl : b < s.heap.size) (hbA : ¬ tA σ0 s.heap.size b) (zx : zroomX κ s room_1 601024 7293034) (hi0 : 0 ≤ i.toInt) (hi1 : i.toInt + 6 ≤ L) (hL9 : L ≤ 3072) {σ : Gh} {H : Heap} {locs : List Loc} {ls : Array Slot} (hT : TS κ fA σ0 σ s H locs) (hR : RI κ σ mm) (hrel : LREL κ σ x mm) (hsr : SREL κ σ x mm) (hl : lv_has ls 9 [(4, .int i), (3, .ref out), (2, .ref mm), (1, .ref x), (0, .ref b)]) (KK : ∀ (σ1 : Gh) (H : Heap) (locs : List Loc) (ls : Array Slot), TS (kX κ) fA σ0 σ1 s H locs → RI (kX κ) σ1 mm → LREL κ σ1 x mm → SREL κ σ1 x mm → lv_has ls 9 [(4, .int i), (3, .ref out), (2, .ref mm), (1, .ref x), (0, .ref b)] → W p l e room_1 s m #[Value.ref b] below meth c H locs 601024 7293034 Q9 (F0 m 1404 ls [])) : W p l e room_1 s m #[Value.ref b] below meth c H locs 601024 7293034 Q9 (F0 m 555 ls []) := by
  obtain ⟨y1, hy1⟩ : ∃ z, z = xs (ix i + 1) := ⟨_, rfl⟩
  obtain ⟨y2, hy2⟩ : ∃ z, z = xs (ix i + 2) := ⟨_, rfl⟩
  obtain ⟨y3, hy3⟩ : ∃ z, z = xs (ix i + 3) := ⟨_, rfl⟩
  obtain ⟨y4, hy4⟩ : ∃ z, z = xs (ix i + 4) := ⟨_, rfl⟩
  obtain ⟨y5, hy5⟩ : ∃ z, z = xs (ix i + 5) := ⟨_, rfl⟩
  have n0 : (0 : Int32).toInt = 0 := by decide
  have n1 : (1 : Int32).toInt = 1 := by decide
  have n2 : (2 : Int32).toInt = 2 := by decide
  have n3 : (3 : Int32).toInt = 3 := by decide
  have n4 : (4 : Int32).toInt = 4 := by decide
  have n5 : (5 : Int32).toInt = 5 := by decide
  obtain ⟨tx, etx⟩ : ∃ z, kR κ x 0 = z := ⟨_, rfl⟩
  have ttx : zk σ0 tx 6 := by rw [← etx]; exact ttx0
  obtain ⟨rB, erB⟩ : ∃ z, kR κ tx 0 = z := ⟨_, rfl⟩
  have trB : zk σ0 rB 14 := by rw [← erB]; exact hT.kr (hT.ref (hT.k ttx (by decide)) (by decide) (by decide) (by decide)) (by decide) (by decide)
  obtain ⟨rT, erT⟩ : ∃ z, kR κ mm 12 = z := ⟨_, rfl⟩
  have trT : zk σ0 rT 23 := by rw [← erT]; exact hT.kr (hT.ref (hT.k t_mm (by decide)) (by decide) (by decide) (by decide)) (by decide) (by decide)
  obtain ⟨rI, erI⟩ : ∃ z, kR κ x 6 = z := ⟨_, rfl⟩
  have trI : zk σ0 rI 13 := by rw [← erI]; exact hT.kr (hT.ref (hT.k t_x (by decide)) (by decide) (by decide) (by decide)) (by decide) (by decide)
  obtain ⟨rK, erK⟩ : ∃ z, kR κ mm 4 = z := ⟨_, rfl⟩
  have trK : zk σ0 rK 29 := by rw [← erK]; exact hT.kr (hT.ref (hT.k t_mm (by decide)) (by decide) (by decide) (by decide)) (by decide) (by decide)
  obtain ⟨hlen, ⟨hal, hnn⟩, ⟨hco, hpo⟩, hkp⟩ := hrel
  rw [etx] at hlen hal hco hpo
  rw [erB, erT] at hal
  rw [erT] at hnn
  rw [erI, erK] at hkp
  have btx := (hT.P (hT.k ttx (by decide)) (by decide)).1
  have btxl := btx.1
  have btxh := btx.2
  obtain ⟨nw, enw⟩ : ∃ z, kR κ x 3 = z := ⟨_, rfl⟩
  have tnw : zk σ0 nw 3 := by rw [← enw]; exact hT.kr (hT.ref (hT.k t_x (by decide)) (by decide) (by decide) (by decide)) (by decide) (by decide)
  obtain ⟨tr, etr⟩ : ∃ z, kR κ x 4 = z := ⟨_, rfl⟩
  have ttr : zk σ0 tr 3 := by rw [← etr]; exact hT.kr (hT.ref (hT.k t_x (by decide)) (by decide) (by decide) (by decide)) (by decide) (by decide)
  obtain ⟨rs5, ers5⟩ : ∃ z, kR κ x 5 = z := ⟨_, rfl⟩
  have trs5 : zk σ0 rs5 12 := by rw [← ers5]; exact hT.kr (hT.ref (hT.k t_x (by decide)) (by decide) (by decide) (by decide)) (by decide) (by decide)
  obtain ⟨sl0, esl0⟩ : ∃ z, kR κ rs5 0 = z := ⟨_, rfl⟩
  have tsl0 : zk σ0 sl0 3 := by rw [← esl0]; exact hT.kr (hT.ref (hT.k trs5 (by decide)) (by decide) (by decide) (by decide)) (by decide) (by decide)
  obtain ⟨sl1, esl1⟩ : ∃ z, kR κ rs5 1 = z := ⟨_, rfl⟩
  have tsl1 : zk σ0 sl1 3 := by rw [← esl1]; exact hT.kr (hT.ref (hT.k trs5 (by decide)) (by decide) (by decide) (by decide)) (by decide) (by decide)
  obtain ⟨rW, erW⟩ : ∃ z, kR κ mm 1 = z := ⟨_, rfl⟩
  have trW : zk σ0 rW 21 := by rw [← erW]; exact hT.kr (hT.ref (hT.k t_mm (by decide)) (by decide) (by decide) (by decide)) (by decide) (by decide)
  obtain ⟨rS, erS⟩ : ∃ z, kR κ mm 3 = z := ⟨_, rfl⟩
  have trS : zk σ0 rS 22 := by rw [← erS]; exact hT.kr (hT.ref (hT.k t_mm (by decide)) (by decide) (by decide) (by decide)) (by decide) (by decide)
  obtain ⟨hnw, hsl⟩ := hsr
  obtain ⟨hd1, ⟨hd2, hd3⟩, hd4, hd5⟩ := hdis
  have d_nt : nw ≠ tr := by rw [← enw, ← etr]; exact hd2
  have d_n0 : nw ≠ sl0 := by rw [← enw, ← esl0, ← ers5]; exact hd3 0 (by decide)
  have d_t0 : sl0 ≠ tr := by rw [← etr, ← esl0, ← ers5]; exact fun q => hd4 0 (by decide) q.symm
  have d_n1 : nw ≠ sl1 := by rw [← enw, ← esl1, ← ers5]; exact hd3 1 (by decide)
  have d_t1 : sl1 ≠ tr := by rw [← etr, ← esl1, ← ers5]; exact fun q => hd4 1 (by decide) q.symm
  have d_01 : sl0 ≠ sl1 := by rw [← esl0, ← esl1, ← ers5]; exact hd5
  have knw : zk σ nw 3 := hT.k tnw (by decide)
  have ksl0 : zk σ sl0 3 := hT.k tsl0 (by decide)
  have ksl1 : zk σ sl1 3 := hT.k tsl1 (by decide)
  refine lv_aload_n hx hb dL_law_555 rfl (lv_at hl 3 rfl) ?_
  refine lv_aload_n hx hb dL_law_556 rfl (lv_at hl 4 rfl) ?_
  refine lv_iload hx hb dL_law_557 (lv_at hl 0 rfl) ?_
  refine lv_iconst (v := 1) hx hb dL_law_559 (by decide) ?_
  refine lv_iadd hx hb dL_law_560 ?_
  refine g_add (by omega) (by omega) (fun t1 ht1 => ?_)
  refine va_sld hx hb hXs hbl hbA hT.2.2.2 (g_in (by omega) (by omega)) dL_law_561 ?_
  refine ti y1 (by rw [hy1]; exact congrArg xs (show t1.toNatClampNeg = ix i + 1 from by show t1.toInt.toNat = ix i + 1; unfold ix; omega)) ?_
  refine lv_aload_n hx hb dL_law_562 rfl (lv_at hl 1 rfl) ?_
  have hTo := hT
  refine tHi (n := 3) (As := [.ref x, .int y1, .ref out]) (rest := []) hx hb hml hown hg hT hK hX (L_valueAt l κ σ x y1 out (hT.k t_x (by decide)) (hT.k t_out (by decide)) hlt) sub_hfW_fA (mwHS k890 k891 k83 k892) ⟨by decide, by decide, by decide +kernel⟩ ⟨(Nat.le_of_ble_eq_true rfl), (Nat.le_of_ble_eq_true rfl)⟩ rfl hl.1 rfl (Nat.le_of_ble_eq_true rfl) dL_law_563 zx (fun r3 s2 H locs hφ hE hT => ?_)
  have R4 := hR.ext hE ⟨rfl, rfl, fun _ => rfl, fun _ => rfl, fun _ => rfl, fun _ => rfl⟩
  have a5 : (zI s2 tx 1).toInt = (zI σ tx 1).toInt := by rw [(hTo.k ttx (by decide)).eI hE (by decide) rfl]
  have j6 : zI s2 rB = zI σ rB := (show zI s2 rB = zI σ rB from funext fun k => (hTo.k trB (by decide)).eI hE (by decide) rfl)
  have j7 : zI s2 rT = zI σ rT := (show zI s2 rT = zI σ rT from funext fun k => (hTo.k trT (by decide)).eI hE (by decide) rfl)
  have j8 : zI s2 rI = zI σ rI := (show zI s2 rI = zI σ rI from funext fun k => (hTo.k trI (by decide)).eI hE (by decide) rfl)
  have j9 : zI s2 rK = zI σ rK := (show zI s2 rK = zI σ rK from funext fun k => (hTo.k trK (by decide)).eI hE (by decide) rfl)
  have j10 : zI s2 tx 2 = zI σ tx 2 := (hTo.k ttx (by decide)).eI hE (by decide) rfl
  have j11 : zI s2 tx 3 = zI σ tx 3 := (hTo.k ttx (by decide)).eI hE (by decide) rfl
  have j12 : zI s2 mm 15 = zI σ mm 15 := (hTo.k t_mm (by decide)).eI hE (by decide) rfl
  have j13 : zI s2 mm 16 = zI σ mm 16 := (hTo.k t_mm (by decide)).eI hE (by decide) rfl
  have n14 : zI s2 nw 7 = zI σ nw 7 ∧ zI s2 nw 8 = zI σ nw 8 ∧ zI s2 nw 9 = zI σ nw 9 := ⟨(hTo.k tnw (by decide)).eI hE (by decide) rfl, (hTo.k tnw (by decide)).eI hE (by decide) rfl, (hTo.k tnw (by decide)).eI hE (by decide) rfl⟩
  have n15 : zI s2 sl0 7 = zI σ sl0 7 ∧ zI s2 sl0 8 = zI σ sl0 8 ∧ zI s2 sl0 9 = zI σ sl0 9 := ⟨(hTo.k tsl0 (by decide)).eI hE (by decide) rfl, (hTo.k tsl0 (by decide)).eI hE (by decide) rfl, (hTo.k tsl0 (by decide)).eI hE (by decide) rfl⟩
  have n16 : zI s2 sl1 7 = zI σ sl1 7 ∧ zI s2 sl1 8 = zI σ sl1 8 ∧ zI s2 sl1 9 = zI σ sl1 9 := ⟨(hTo.k tsl1 (by decide)).eI hE (by decide) rfl, (hTo.k tsl1 (by decide)).eI hE (by decide) rfl, (hTo.k tsl1 (by decide)).eI hE (by decide) rfl⟩
  have n17 : ∀ j : Nat, j < 3 → zJ s2 rW j = zJ σ rW j := fun j hj => (hTo.k trW (by decide)).eJ hE (by decide) rfl
  have n18 : zJ s2 rS = zJ σ rS := (show zJ s2 rS = zJ σ rS from funext fun k => (hTo.k trS (by decide)).eJ hE (by decide) rfl)
  have a19 : (zI s2 mm 13).toInt = (zI σ mm 13).toInt := by rw [(hTo.k t_mm (by decide)).eI hE (by decide) rfl]
  refine lv_istore (lv' := [(5, .int r3), (4, .int i), (3, .ref out), (2, .ref mm), (1, .ref x), (0, .ref b)]) hx hb dL_law_566 hl (by decide) rfl (fun ls hl => ?_)
  refine lv_aload_n hx hb dL_law_568 rfl (lv_at hl 3 rfl) ?_
  refine lv_aload_n hx hb dL_law_569 rfl (lv_at hl 5 rfl) ?_
  refine lv_iload hx hb dL_law_570 (lv_at hl 1 rfl) ?_
  refine lv_iconst (v := 1) hx hb dL_law_572 (by decide) ?_
  refine lv_iadd hx hb dL_law_573 ?_
  refine g_add (by omega) (by omega) (fun t20 ht20 => ?_)
  refine va_sld hx hb hXs hbl hbA hT.2.2.2 (g_in (by omega) (by omega)) dL_law_574 ?_
  refine ti y1 (by rw [hy1]; exact congrArg xs (show t20.toNatClampNeg = ix i + 1 from by show t20.toInt.toNat = ix i + 1; unfold ix; omega)) ?_
  have hTo := hT
  refine tVl (n := 1) (As := [.int y1]) (rest := []) hx hb hml hown hg hT hK hX (X6_valueAt l (kX κ) s2 mm y1 (hT.k t_mm (by decide)) R4) sub_gR_fA (mwV k1461 k1462 k1463 k92 k1464) ⟨rfl, by decide, by decide, by decide +kernel⟩ ⟨(Nat.le_of_ble_eq_true rfl), (Nat.le_of_ble_eq_true rfl)⟩ (hT.o20 (hT.k t_mm (by decide))) rfl rfl hl.1 rfl (Nat.le_of_ble_eq_true rfl) dL_law_575 zx (fun r22 s21 H locs hφ hE hT => ?_)
  have R23 := R4.ext hE ⟨rfl, rfl, fun _ => rfl, fun _ => rfl, fun _ => rfl, fun _ => rfl⟩
  have a24 : (zI s21 tx 1).toInt = (zI s2 tx 1).toInt := by rw [(hTo.k ttx (by decide)).eI hE (by decide) rfl]
  have j25 : zI s21 rB = zI σ rB := ((show zI s21 rB = zI s2 rB from funext fun k => (hTo.k trB (by decide)).eI hE (by decide) rfl)).trans j6
  have j26 : zI s21 rT = zI σ rT := ((show zI s21 rT = zI s2 rT from funext fun k => (hTo.k trT (by decide)).eI hE (by decide) rfl)).trans j7
  have j27 : zI s21 rI = zI σ rI := ((show zI s21 rI = zI s2 rI from funext fun k => (hTo.k trI (by decide)).eI hE (by decide) rfl)).trans j8
  have j28 : zI s21 rK = zI σ rK := ((show zI s21 rK = zI s2 rK from funext fun k => (hTo.k trK (by decide)).eI hE (by decide) rfl)).trans j9
  have j29 : zI s21 tx 2 = zI σ tx 2 := ((hTo.k ttx (by decide)).eI hE (by decide) rfl).trans j10
  have j30 : zI s21 tx 3 = zI σ tx 3 := ((hTo.k ttx (by decide)).eI hE (by decide) rfl).trans j11
  have j31 : zI s21 mm 15 = zI σ mm 15 := ((hTo.k t_mm (by decide)).eI hE (by decide) rfl).trans j12
  have j32 : zI s21 mm 16 = zI σ mm 16 := ((hTo.k t_mm (by decide)).eI hE (by decide) rfl).trans j13
  have n33 : zI s21 nw 7 = zI s2 nw 7 ∧ zI s21 nw 8 = zI s2 nw 8 ∧ zI s21 nw 9 = zI s2 nw 9 := ⟨(hTo.k tnw (by decide)).eI hE (by decide) rfl, (hTo.k tnw (by decide)).eI hE (by decide) rfl, (hTo.k tnw (by decide)).eI hE (by decide) rfl⟩
  have n34 : zI s21 nw 7 = zI σ nw 7 ∧ zI s21 nw 8 = zI σ nw 8 ∧ zI s21 nw 9 = zI σ nw 9 := ⟨n33.1.trans n14.1, n33.2.1.trans n14.2.1, n33.2.2.trans n14.2.2⟩
  have n35 : zI s21 sl0 7 = zI s2 sl0 7 ∧ zI s21 sl0 8 = zI s2 sl0 8 ∧ zI s21 sl0 9 = zI s2 sl0 9 := ⟨(hTo.k tsl0 (by decide)).eI hE (by decide) rfl, (hTo.k tsl0 (by decide)).eI hE (by decide) rfl, (hTo.k tsl0 (by decide)).eI hE (by decide) rfl⟩
  have n36 : zI s21 sl0 7 = zI σ sl0 7 ∧ zI s21 sl0 8 = zI σ sl0 8 ∧ zI s21 sl0 9 = zI σ sl0 9 := ⟨n35.1.trans n15.1, n35.2.1.trans n15.2.1, n35.2.2.trans n15.2.2⟩
  have n37 : zI s21 sl1 7 = zI s2 sl1 7 ∧ zI s21 sl1 8 = zI s2 sl1 8 ∧ zI s21 sl1 9 = zI s2 sl1 9 := ⟨(hTo.k tsl1 (by decide)).eI hE (by decide) rfl, (hTo.k tsl1 (by decide)).eI hE (by decide) rfl, (hTo.k tsl1 (by decide)).eI hE (by decide) rfl⟩
  have n38 : zI s21 sl1 7 = zI σ sl1 7 ∧ zI s21 sl1 8 = zI σ sl1 8 ∧ zI s21 sl1 9 = zI σ sl1 9 := ⟨n37.1.trans n16.1, n37.2.1.trans n16.2.1, n37.2.2.trans n16.2.2⟩
  have n39 : ∀ j : Nat, j < 3 → zJ s21 rW j = zJ s2 rW j := fun j hj => (hTo.k trW (by decide)).eJ hE (by decide) rfl
  have n40 : ∀ j : Nat, j < 3 → zJ s21 rW j = zJ σ rW j := fun j hj => (n39 j hj).trans (n17 j hj)
  have n41 : zJ s21 rS = zJ σ rS := (show zJ s21 rS = zJ s2 rS from funext fun k => (hTo.k trS (by decide)).eJ hE (by decide) rfl).trans n18
  have a42 : (zI s21 mm 13).toInt = (zI s2 mm 13).toInt := by rw [(hTo.k t_mm (by decide)).eI hE (by decide) rfl]
  refine lv_lstore (lv' := [(6, .long r22), (5, .int r3), (4, .int i), (3, .ref out), (2, .ref mm), (1, .ref x), (0, .ref b)]) hx hb dL_law_578 hl (by decide) rfl (fun ls hl => ?_)
  refine lv_goto (tgt := 1404) hx hb dL_law_580 (by decide) ?_
  have sl0f : zI s21 rI 0 ≠ 0 → SLT κ s21 x mm 0 := fun hq => (hsl 0 (by decide) (fun q9 => hq (by rw [erI] at q9; rw [j27]; exact q9))).tr (by rw [ers5, esl0]; exact n36) (fun j hj => by rw [erS, n41])
  have sl1f : zI s21 rI 1 ≠ 0 → SLT κ s21 x mm 1 := fun hq => (hsl 1 (by decide) (fun q9 => hq (by rw [erI] at q9; rw [j27]; exact q9))).tr (by rw [ers5, esl1]; exact n38) (fun j hj => by rw [erS, n41])
  exact KK s21 _ _ _ hT R23 ⟨by rw [etx]; omega, ⟨by rw [etx, erB, erT, j25, j26]; exact tal_less hal (by omega), by rw [erT, j26]; exact tnn_less hnn (by omega)⟩, ⟨by rw [etx, j29, j31]; exact hco, by rw [etx, j30, j32]; exact hpo⟩, fun i hi => by rw [erI, erK, j27, j28]; exact hkp i hi⟩ (⟨hnw.tr (by rw [enw]; exact n34) (by rw [erW]; exact n40), fun i hi => (show i = 0 ∨ i = 1 by omega).elim (fun e9 => by rw [e9, erI]; exact sl0f) (fun e9 => by rw [e9, erI]; exact sl1f)⟩) (lv_sub hl [2, 3, 4, 5, 6] rfl)
set_option maxHeartbeats 4000000 in
set_option maxRecDepth 100000 in
theorem lc_11 (l : Launch) (κ : Kt) (σ0 : Gh) (x mm out b : Nat) (t_x : zk σ0 x 7) (t_mm : zk σ0 mm 20) (t_out : zk σ0 out 24) (ttx0 : zk σ0 (kR κ x 0) 6) (hdis : DIS κ x) (hlt : l.stackTraces = false) {p : Program} {e : Env} {s : State} {m : MethodId} {below : List Frame} {meth : Method} {c : Code} {L : Nat} {xs : Nat → Int32} {i : Int32} {Q9 : State → Prop} (hx : p.tables.exec = Jvm.exec) (hb : c.code = cL_law) (hml : c.maxLocals = 9) (hown : s.vm.findClass RL = some m.cls) (hg : ∀ w ∈ GW, w.before #[Value.ref b] s = true) (hK : va_K κ.1 vwCl (kTy κ) s) (hX : XY κ (tA σ0 s.heap.size) s s.heap) (hXs : va_X b L xs s s.heap) (hbl : b < s.heap.size) (hbA : ¬ tA σ0 s.heap.size b) (zx : zroomX κ s room_1 601024 7293034) (hi0 : 0 ≤ i.toInt) (hi1 : i.toInt + 6 ≤ L) (hL9 : L ≤ 3072) {σ : Gh} {H : Heap} {locs : List Loc} {ls : Array Slot} (hT : TS κ fA σ0 σ s H locs) (hR : RI κ σ mm) (hrel : LREL κ σ x mm) (hsr : SREL κ σ x mm) (hl : lv_has ls 9 [(4, .int i), (3, .ref out), (2, .ref mm), (1, .ref x), (0, .ref b)]) (KK : ∀ (σ1 : Gh) (H : Heap) (locs : List Loc) (ls : Array Slot), TS (kX κ) fA σ0 σ1 s H locs → RI (kX κ) σ1 mm → LREL κ σ1 x mm → SREL κ σ1 x mm → lv_has ls 9 [(4, .int i), (3, .ref out), (2, .ref mm), (1, .ref x), (0, .ref b)] → W p l e room_1 s m #[Value.ref b] below meth c H locs 601024 7293034 Q9 (F0 m 1404 ls [])) : W p l e room_1 s m #[Value.ref b] below meth c H locs 601024 7293034 Q9 (F0 m 583 ls []) := by
  obtain ⟨y1, hy1⟩ : ∃ z, z = xs (ix i + 1) := ⟨_, rfl⟩
  obtain ⟨y2, hy2⟩ : ∃ z, z = xs (ix i + 2) := ⟨_, rfl⟩
  obtain ⟨y3, hy3⟩ : ∃ z, z = xs (ix i + 3) := ⟨_, rfl⟩
  obtain ⟨y4, hy4⟩ : ∃ z, z = xs (ix i + 4) := ⟨_, rfl⟩
  obtain ⟨y5, hy5⟩ : ∃ z, z = xs (ix i + 5) := ⟨_, rfl⟩
  have n0 : (0 : Int32).toInt = 0 := by decide
  have n1 : (1 : Int32).toInt = 1 := by decide
  have n2 : (2 : Int32).toInt = 2 := by decide
  have n3 : (3 : Int32).toInt = 3 := by decide
  have n4 : (4 : Int32).toInt = 4 := by decide
  have n5 : (5 : Int32).toInt = 5 := by decide
  obtain ⟨tx, etx⟩ : ∃ z, kR κ x 0 = z := ⟨_, rfl⟩
  have ttx : zk σ0 tx 6 := by rw [← etx]; exact ttx0
  obtain ⟨rB, erB⟩ : ∃ z, kR κ tx 0 = z := ⟨_, rfl⟩
  have trB : zk σ0 rB 14 := by rw [← erB]; exact hT.kr (hT.ref (hT.k ttx (by decide)) (by decide) (by decide) (by decide)) (by decide) (by decide)
  obtain ⟨rT, erT⟩ : ∃ z, kR κ mm 12 = z := ⟨_, rfl⟩
  have trT : zk σ0 rT 23 := by rw [← erT]; exact hT.kr (hT.ref (hT.k t_mm (by decide)) (by decide) (by decide) (by decide)) (by decide) (by decide)
  obtain ⟨rI, erI⟩ : ∃ z, kR κ x 6 = z := ⟨_, rfl⟩
  have trI : zk σ0 rI 13 := by rw [← erI]; exact hT.kr (hT.ref (hT.k t_x (by decide)) (by decide) (by decide) (by decide)) (by decide) (by decide)
  obtain ⟨rK, erK⟩ : ∃ z, kR κ mm 4 = z := ⟨_, rfl⟩
  have trK : zk σ0 rK 29 := by rw [← erK]; exact hT.kr (hT.ref (hT.k t_mm (by decide)) (by decide) (by decide) (by decide)) (by decide) (by decide)
  obtain ⟨hlen, ⟨hal, hnn⟩, ⟨hco, hpo⟩, hkp⟩ := hrel
  rw [etx] at hlen hal hco hpo
  rw [erB, erT] at hal
  rw [erT] at hnn
  rw [erI, erK] at hkp
  have btx := (hT.P (hT.k ttx (by decide)) (by decide)).1
  have btxl := btx.1
  have btxh := btx.2
  obtain ⟨nw, enw⟩ : ∃ z, kR κ x 3 = z := ⟨_, rfl⟩
  have tnw : zk σ0 nw 3 := by rw [← enw]; exact hT.kr (hT.ref (hT.k t_x (by decide)) (by decide) (by decide) (by decide)) (by decide) (by decide)
  obtain ⟨tr, etr⟩ : ∃ z, kR κ x 4 = z := ⟨_, rfl⟩
  have ttr : zk σ0 tr 3 := by rw [← etr]; exact hT.kr (hT.ref (hT.k t_x (by decide)) (by decide) (by decide) (by decide)) (by decide) (by decide)
  obtain ⟨rs5, ers5⟩ : ∃ z, kR κ x 5 = z := ⟨_, rfl⟩
  have trs5 : zk σ0 rs5 12 := by rw [← ers5]; exact hT.kr (hT.ref (hT.k t_x (by decide)) (by decide) (by decide) (by decide)) (by decide) (by decide)
  obtain ⟨sl0, esl0⟩ : ∃ z, kR κ rs5 0 = z := ⟨_, rfl⟩
  have tsl0 : zk σ0 sl0 3 := by rw [← esl0]; exact hT.kr (hT.ref (hT.k trs5 (by decide)) (by decide) (by decide) (by decide)) (by decide) (by decide)
  obtain ⟨sl1, esl1⟩ : ∃ z, kR κ rs5 1 = z := ⟨_, rfl⟩
  have tsl1 : zk σ0 sl1 3 := by rw [← esl1]; exact hT.kr (hT.ref (hT.k trs5 (by decide)) (by decide) (by decide) (by decide)) (by decide) (by decide)
  obtain ⟨rW, erW⟩ : ∃ z, kR κ mm 1 = z := ⟨_, rfl⟩
  have trW : zk σ0 rW 21 := by rw [← erW]; exact hT.kr (hT.ref (hT.k t_mm (by decide)) (by decide) (by decide) (by decide)) (by decide) (by decide)
  obtain ⟨rS, erS⟩ : ∃ z, kR κ mm 3 = z := ⟨_, rfl⟩
  have trS : zk σ0 rS 22 := by rw [← erS]; exact hT.kr (hT.ref (hT.k t_mm (by decide)) (by decide) (by decide) (by decide)) (by decide) (by decide)
  obtain ⟨hnw, hsl⟩ := hsr
  obtain ⟨hd1, ⟨hd2, hd3⟩, hd4, hd5⟩ := hdis
  have d_nt : nw ≠ tr := by rw [← enw, ← etr]; exact hd2
  have d_n0 : nw ≠ sl0 := by rw [← enw, ← esl0, ← ers5]; exact hd3 0 (by decide)
  have d_t0 : sl0 ≠ tr := by rw [← etr, ← esl0, ← ers5]; exact fun q => hd4 0 (by decide) q.symm
  have d_n1 : nw ≠ sl1 := by rw [← enw, ← esl1, ← ers5]; exact hd3 1 (by decide)
  have d_t1 : sl1 ≠ tr := by rw [← etr, ← esl1, ← ers5]; exact fun q => hd4 1 (by decide) q.symm
  have d_01 : sl0 ≠ sl1 := by rw [← esl0, ← esl1, ← ers5]; exact hd5
  have knw : zk σ nw 3 := hT.k tnw (by decide)
  have ksl0 : zk σ sl0 3 := hT.k tsl0 (by decide)
  have ksl1 : zk σ sl1 3 := hT.k tsl1 (by decide)
  refine lv_aload_n hx hb dL_law_583 rfl (lv_at hl 3 rfl) ?_
  have hTo := hT
  refine tVl (n := 0) (As := []) (rest := []) hx hb hml hown hg hT hK hX (X5_integral l κ σ x (hT.k t_x (by decide))) sub_fE_fA (mwV k431 k432 k433 k84 k434) ⟨rfl, by decide, by decide, by decide +kernel⟩ ⟨(Nat.le_of_ble_eq_true rfl), (Nat.le_of_ble_eq_true rfl)⟩ (hT.o7 (hT.k t_x (by decide))) rfl rfl hl.1 rfl (Nat.le_of_ble_eq_true rfl) dL_law_584 zx.dn (fun r2 s1 H locs hφ hE hT => ?_)
  have R3 := hR.ext hE ⟨rfl, rfl, fun _ => rfl, fun _ => rfl, fun _ => rfl, fun _ => rfl⟩
  have a4 : (zI s1 tx 1).toInt = (zI σ tx 1).toInt := by rw [(hTo.k ttx (by decide)).eI hE (by decide) rfl]
  have j5 : zI s1 rB = zI σ rB := (show zI s1 rB = zI σ rB from funext fun k => (hTo.k trB (by decide)).eI hE (by decide) rfl)
  have j6 : zI s1 rT = zI σ rT := (show zI s1 rT = zI σ rT from funext fun k => (hTo.k trT (by decide)).eI hE (by decide) rfl)
  have j7 : zI s1 rI = zI σ rI := (show zI s1 rI = zI σ rI from funext fun k => (hTo.k trI (by decide)).eI hE (by decide) rfl)
  have j8 : zI s1 rK = zI σ rK := (show zI s1 rK = zI σ rK from funext fun k => (hTo.k trK (by decide)).eI hE (by decide) rfl)
  have j9 : zI s1 tx 2 = zI σ tx 2 := (hTo.k ttx (by decide)).eI hE (by decide) rfl
  have j10 : zI s1 tx 3 = zI σ tx 3 := (hTo.k ttx (by decide)).eI hE (by decide) rfl
  have j11 : zI s1 mm 15 = zI σ mm 15 := (hTo.k t_mm (by decide)).eI hE (by decide) rfl
  have j12 : zI s1 mm 16 = zI σ mm 16 := (hTo.k t_mm (by decide)).eI hE (by decide) rfl
  have n13 : zI s1 nw 7 = zI σ nw 7 ∧ zI s1 nw 8 = zI σ nw 8 ∧ zI s1 nw 9 = zI σ nw 9 := ⟨(hTo.k tnw (by decide)).eI hE (by decide) rfl, (hTo.k tnw (by decide)).eI hE (by decide) rfl, (hTo.k tnw (by decide)).eI hE (by decide) rfl⟩
  have n14 : zI s1 sl0 7 = zI σ sl0 7 ∧ zI s1 sl0 8 = zI σ sl0 8 ∧ zI s1 sl0 9 = zI σ sl0 9 := ⟨(hTo.k tsl0 (by decide)).eI hE (by decide) rfl, (hTo.k tsl0 (by decide)).eI hE (by decide) rfl, (hTo.k tsl0 (by decide)).eI hE (by decide) rfl⟩
  have n15 : zI s1 sl1 7 = zI σ sl1 7 ∧ zI s1 sl1 8 = zI σ sl1 8 ∧ zI s1 sl1 9 = zI σ sl1 9 := ⟨(hTo.k tsl1 (by decide)).eI hE (by decide) rfl, (hTo.k tsl1 (by decide)).eI hE (by decide) rfl, (hTo.k tsl1 (by decide)).eI hE (by decide) rfl⟩
  have n16 : ∀ j : Nat, j < 3 → zJ s1 rW j = zJ σ rW j := fun j hj => (hTo.k trW (by decide)).eJ hE (by decide) rfl
  have n17 : zJ s1 rS = zJ σ rS := (show zJ s1 rS = zJ σ rS from funext fun k => (hTo.k trS (by decide)).eJ hE (by decide) rfl)
  have a18 : (zI s1 mm 13).toInt = (zI σ mm 13).toInt := by rw [(hTo.k t_mm (by decide)).eI hE (by decide) rfl]
  refine lv_pop2_2 hx hb dL_law_587 rfl ?_
  refine lv_aload_n hx hb dL_law_588 rfl (lv_at hl 2 rfl) ?_
  have hTo := hT
  refine tVl (n := 0) (As := []) (rest := []) hx hb hml hown hg hT hK hX (X6_integral l κ s1 mm (hT.k t_mm (by decide)) R3) sub_gR_fA (mwV k1468 k1469 k1470 k92 k1471) ⟨rfl, by decide, by decide, by decide +kernel⟩ ⟨(Nat.le_of_ble_eq_true rfl), (Nat.le_of_ble_eq_true rfl)⟩ (hT.o20 (hT.k t_mm (by decide))) rfl rfl hl.1 rfl (Nat.le_of_ble_eq_true rfl) dL_law_589 zx.dn (fun r20 s19 H locs hφ hE hT => ?_)
  have R21 := R3.ext hE ⟨rfl, rfl, fun _ => rfl, fun _ => rfl, fun _ => rfl, fun _ => rfl⟩
  have a22 : (zI s19 tx 1).toInt = (zI s1 tx 1).toInt := by rw [(hTo.k ttx (by decide)).eI hE (by decide) rfl]
  have j23 : zI s19 rB = zI σ rB := ((show zI s19 rB = zI s1 rB from funext fun k => (hTo.k trB (by decide)).eI hE (by decide) rfl)).trans j5
  have j24 : zI s19 rT = zI σ rT := ((show zI s19 rT = zI s1 rT from funext fun k => (hTo.k trT (by decide)).eI hE (by decide) rfl)).trans j6
  have j25 : zI s19 rI = zI σ rI := ((show zI s19 rI = zI s1 rI from funext fun k => (hTo.k trI (by decide)).eI hE (by decide) rfl)).trans j7
  have j26 : zI s19 rK = zI σ rK := ((show zI s19 rK = zI s1 rK from funext fun k => (hTo.k trK (by decide)).eI hE (by decide) rfl)).trans j8
  have j27 : zI s19 tx 2 = zI σ tx 2 := ((hTo.k ttx (by decide)).eI hE (by decide) rfl).trans j9
  have j28 : zI s19 tx 3 = zI σ tx 3 := ((hTo.k ttx (by decide)).eI hE (by decide) rfl).trans j10
  have j29 : zI s19 mm 15 = zI σ mm 15 := ((hTo.k t_mm (by decide)).eI hE (by decide) rfl).trans j11
  have j30 : zI s19 mm 16 = zI σ mm 16 := ((hTo.k t_mm (by decide)).eI hE (by decide) rfl).trans j12
  have n31 : zI s19 nw 7 = zI s1 nw 7 ∧ zI s19 nw 8 = zI s1 nw 8 ∧ zI s19 nw 9 = zI s1 nw 9 := ⟨(hTo.k tnw (by decide)).eI hE (by decide) rfl, (hTo.k tnw (by decide)).eI hE (by decide) rfl, (hTo.k tnw (by decide)).eI hE (by decide) rfl⟩
  have n32 : zI s19 nw 7 = zI σ nw 7 ∧ zI s19 nw 8 = zI σ nw 8 ∧ zI s19 nw 9 = zI σ nw 9 := ⟨n31.1.trans n13.1, n31.2.1.trans n13.2.1, n31.2.2.trans n13.2.2⟩
  have n33 : zI s19 sl0 7 = zI s1 sl0 7 ∧ zI s19 sl0 8 = zI s1 sl0 8 ∧ zI s19 sl0 9 = zI s1 sl0 9 := ⟨(hTo.k tsl0 (by decide)).eI hE (by decide) rfl, (hTo.k tsl0 (by decide)).eI hE (by decide) rfl, (hTo.k tsl0 (by decide)).eI hE (by decide) rfl⟩
  have n34 : zI s19 sl0 7 = zI σ sl0 7 ∧ zI s19 sl0 8 = zI σ sl0 8 ∧ zI s19 sl0 9 = zI σ sl0 9 := ⟨n33.1.trans n14.1, n33.2.1.trans n14.2.1, n33.2.2.trans n14.2.2⟩
  have n35 : zI s19 sl1 7 = zI s1 sl1 7 ∧ zI s19 sl1 8 = zI s1 sl1 8 ∧ zI s19 sl1 9 = zI s1 sl1 9 := ⟨(hTo.k tsl1 (by decide)).eI hE (by decide) rfl, (hTo.k tsl1 (by decide)).eI hE (by decide) rfl, (hTo.k tsl1 (by decide)).eI hE (by decide) rfl⟩
  have n36 : zI s19 sl1 7 = zI σ sl1 7 ∧ zI s19 sl1 8 = zI σ sl1 8 ∧ zI s19 sl1 9 = zI σ sl1 9 := ⟨n35.1.trans n15.1, n35.2.1.trans n15.2.1, n35.2.2.trans n15.2.2⟩
  have n37 : ∀ j : Nat, j < 3 → zJ s19 rW j = zJ s1 rW j := fun j hj => (hTo.k trW (by decide)).eJ hE (by decide) rfl
  have n38 : ∀ j : Nat, j < 3 → zJ s19 rW j = zJ σ rW j := fun j hj => (n37 j hj).trans (n16 j hj)
  have n39 : zJ s19 rS = zJ σ rS := (show zJ s19 rS = zJ s1 rS from funext fun k => (hTo.k trS (by decide)).eJ hE (by decide) rfl).trans n17
  have a40 : (zI s19 mm 13).toInt = (zI s1 mm 13).toInt := by rw [(hTo.k t_mm (by decide)).eI hE (by decide) rfl]
  refine lv_pop2_2 hx hb dL_law_592 rfl ?_
  refine lv_goto (tgt := 1404) hx hb dL_law_593 (by decide) ?_
  have sl0f : zI s19 rI 0 ≠ 0 → SLT κ s19 x mm 0 := fun hq => (hsl 0 (by decide) (fun q9 => hq (by rw [erI] at q9; rw [j25]; exact q9))).tr (by rw [ers5, esl0]; exact n34) (fun j hj => by rw [erS, n39])
  have sl1f : zI s19 rI 1 ≠ 0 → SLT κ s19 x mm 1 := fun hq => (hsl 1 (by decide) (fun q9 => hq (by rw [erI] at q9; rw [j25]; exact q9))).tr (by rw [ers5, esl1]; exact n36) (fun j hj => by rw [erS, n39])
  exact KK s19 _ _ _ hT.up R21 ⟨by rw [etx]; omega, ⟨by rw [etx, erB, erT, j23, j24]; exact tal_less hal (by omega), by rw [erT, j24]; exact tnn_less hnn (by omega)⟩, ⟨by rw [etx, j27, j29]; exact hco, by rw [etx, j28, j30]; exact hpo⟩, fun i hi => by rw [erI, erK, j25, j26]; exact hkp i hi⟩ (⟨hnw.tr (by rw [enw]; exact n32) (by rw [erW]; exact n38), fun i hi => (show i = 0 ∨ i = 1 by omega).elim (fun e9 => by rw [e9, erI]; exact sl0f) (fun e9 => by rw [e9, erI]; exact sl1f)⟩) (lv_sub hl [0, 1, 2, 3, 4] rfl)
set_option maxHeartbeats 4000000 in
set_option maxRecDepth 100000 in
theorem lc_12 (l : Launch) (κ : Kt) (σ0 : Gh) (x mm out b : Nat) (t_x : zk σ0 x 7) (t_mm : zk σ0 mm 20) (t_out : zk σ0 out 24) (ttx0 : zk σ0 (kR κ x 0) 6) (hdis : DIS κ x) (hlt : l.stackTraces = false) {p : Program} {e : Env} {s : State} {m : MethodId} {below : List Frame} {meth : Method} {c : Code} {L : Nat} {xs : Nat → Int32} {i : Int32} {Q9 : State → Prop} (hx : p.tables.exec = Jvm.exec) (hb : c.code = cL_law) (hml : c.maxLocals = 9) (hown : s.vm.findClass RL = some m.cls) (hg : ∀ w ∈ GW, w.before #[Value.ref b] s = true) (hK : va_K κ.1 vwCl (kTy κ) s) (hX : XY κ (tA σ0 s.heap.size) s s.heap) (hXs : va_X b L xs s s.heap) (hbl : b < s.heap.size) (hbA : ¬ tA σ0 s.heap.size b) (zx : zroomX κ s room_1 601024 7293034) (hi0 : 0 ≤ i.toInt) (hi1 : i.toInt + 6 ≤ L) (hL9 : L ≤ 3072) {σ : Gh} {H : Heap} {locs : List Loc} {ls : Array Slot} (hT : TS κ fA σ0 σ s H locs) (hR : RI κ σ mm) (hrel : LREL κ σ x mm) (hsr : SREL κ σ x mm) (hl : lv_has ls 9 [(4, .int i), (3, .ref out), (2, .ref mm), (1, .ref x), (0, .ref b)]) (KK : ∀ (σ1 : Gh) (H : Heap) (locs : List Loc) (ls : Array Slot), TS (kX κ) fA σ0 σ1 s H locs → RI (kX κ) σ1 mm → LREL κ σ1 x mm → SREL κ σ1 x mm → lv_has ls 9 [(4, .int i), (3, .ref out), (2, .ref mm), (1, .ref x), (0, .ref b)] → W p l e room_1 s m #[Value.ref b] below meth c H locs 601024 7293034 Q9 (F0 m 1404 ls [])) : W p l e room_1 s m #[Value.ref b] below meth c H locs 601024 7293034 Q9 (F0 m 596 ls []) := by
  obtain ⟨y1, hy1⟩ : ∃ z, z = xs (ix i + 1) := ⟨_, rfl⟩
  obtain ⟨y2, hy2⟩ : ∃ z, z = xs (ix i + 2) := ⟨_, rfl⟩
  obtain ⟨y3, hy3⟩ : ∃ z, z = xs (ix i + 3) := ⟨_, rfl⟩
  obtain ⟨y4, hy4⟩ : ∃ z, z = xs (ix i + 4) := ⟨_, rfl⟩
  obtain ⟨y5, hy5⟩ : ∃ z, z = xs (ix i + 5) := ⟨_, rfl⟩
  have n0 : (0 : Int32).toInt = 0 := by decide
  have n1 : (1 : Int32).toInt = 1 := by decide
  have n2 : (2 : Int32).toInt = 2 := by decide
  have n3 : (3 : Int32).toInt = 3 := by decide
  have n4 : (4 : Int32).toInt = 4 := by decide
  have n5 : (5 : Int32).toInt = 5 := by decide
  obtain ⟨tx, etx⟩ : ∃ z, kR κ x 0 = z := ⟨_, rfl⟩
  have ttx : zk σ0 tx 6 := by rw [← etx]; exact ttx0
  obtain ⟨rB, erB⟩ : ∃ z, kR κ tx 0 = z := ⟨_, rfl⟩
  have trB : zk σ0 rB 14 := by rw [← erB]; exact hT.kr (hT.ref (hT.k ttx (by decide)) (by decide) (by decide) (by decide)) (by decide) (by decide)
  obtain ⟨rT, erT⟩ : ∃ z, kR κ mm 12 = z := ⟨_, rfl⟩
  have trT : zk σ0 rT 23 := by rw [← erT]; exact hT.kr (hT.ref (hT.k t_mm (by decide)) (by decide) (by decide) (by decide)) (by decide) (by decide)
  obtain ⟨rI, erI⟩ : ∃ z, kR κ x 6 = z := ⟨_, rfl⟩
  have trI : zk σ0 rI 13 := by rw [← erI]; exact hT.kr (hT.ref (hT.k t_x (by decide)) (by decide) (by decide) (by decide)) (by decide) (by decide)
  obtain ⟨rK, erK⟩ : ∃ z, kR κ mm 4 = z := ⟨_, rfl⟩
  have trK : zk σ0 rK 29 := by rw [← erK]; exact hT.kr (hT.ref (hT.k t_mm (by decide)) (by decide) (by decide) (by decide)) (by decide) (by decide)
  obtain ⟨hlen, ⟨hal, hnn⟩, ⟨hco, hpo⟩, hkp⟩ := hrel
  rw [etx] at hlen hal hco hpo
  rw [erB, erT] at hal
  rw [erT] at hnn
  rw [erI, erK] at hkp
  have btx := (hT.P (hT.k ttx (by decide)) (by decide)).1
  have btxl := btx.1
  have btxh := btx.2
  obtain ⟨nw, enw⟩ : ∃ z, kR κ x 3 = z := ⟨_, rfl⟩
  have tnw : zk σ0 nw 3 := by rw [← enw]; exact hT.kr (hT.ref (hT.k t_x (by decide)) (by decide) (by decide) (by decide)) (by decide) (by decide)
  obtain ⟨tr, etr⟩ : ∃ z, kR κ x 4 = z := ⟨_, rfl⟩
  have ttr : zk σ0 tr 3 := by rw [← etr]; exact hT.kr (hT.ref (hT.k t_x (by decide)) (by decide) (by decide) (by decide)) (by decide) (by decide)
  obtain ⟨rs5, ers5⟩ : ∃ z, kR κ x 5 = z := ⟨_, rfl⟩
  have trs5 : zk σ0 rs5 12 := by rw [← ers5]; exact hT.kr (hT.ref (hT.k t_x (by decide)) (by decide) (by decide) (by decide)) (by decide) (by decide)
  obtain ⟨sl0, esl0⟩ : ∃ z, kR κ rs5 0 = z := ⟨_, rfl⟩
  have tsl0 : zk σ0 sl0 3 := by rw [← esl0]; exact hT.kr (hT.ref (hT.k trs5 (by decide)) (by decide) (by decide) (by decide)) (by decide) (by decide)
  obtain ⟨sl1, esl1⟩ : ∃ z, kR κ rs5 1 = z := ⟨_, rfl⟩
  have tsl1 : zk σ0 sl1 3 := by rw [← esl1]; exact hT.kr (hT.ref (hT.k trs5 (by decide)) (by decide) (by decide) (by decide)) (by decide) (by decide)
  obtain ⟨rW, erW⟩ : ∃ z, kR κ mm 1 = z := ⟨_, rfl⟩
  have trW : zk σ0 rW 21 := by rw [← erW]; exact hT.kr (hT.ref (hT.k t_mm (by decide)) (by decide) (by decide) (by decide)) (by decide) (by decide)
  obtain ⟨rS, erS⟩ : ∃ z, kR κ mm 3 = z := ⟨_, rfl⟩
  have trS : zk σ0 rS 22 := by rw [← erS]; exact hT.kr (hT.ref (hT.k t_mm (by decide)) (by decide) (by decide) (by decide)) (by decide) (by decide)
  obtain ⟨hnw, hsl⟩ := hsr
  obtain ⟨hd1, ⟨hd2, hd3⟩, hd4, hd5⟩ := hdis
  have d_nt : nw ≠ tr := by rw [← enw, ← etr]; exact hd2
  have d_n0 : nw ≠ sl0 := by rw [← enw, ← esl0, ← ers5]; exact hd3 0 (by decide)
  have d_t0 : sl0 ≠ tr := by rw [← etr, ← esl0, ← ers5]; exact fun q => hd4 0 (by decide) q.symm
  have d_n1 : nw ≠ sl1 := by rw [← enw, ← esl1, ← ers5]; exact hd3 1 (by decide)
  have d_t1 : sl1 ≠ tr := by rw [← etr, ← esl1, ← ers5]; exact fun q => hd4 1 (by decide) q.symm
  have d_01 : sl0 ≠ sl1 := by rw [← esl0, ← esl1, ← ers5]; exact hd5
  have knw : zk σ nw 3 := hT.k tnw (by decide)
  have ksl0 : zk σ sl0 3 := hT.k tsl0 (by decide)
  have ksl1 : zk σ sl1 3 := hT.k tsl1 (by decide)
  refine lv_aload_n hx hb dL_law_596 rfl (lv_at hl 3 rfl) ?_
  have hTo := hT
  refine tVl (n := 0) (As := []) (rest := []) hx hb hml hown hg hT hK hX (X5_drift l κ σ x (hT.k t_x (by decide))) sub_fW_fA (mwV k447 k448 k449 k84 k450) ⟨rfl, by decide, by decide, by decide +kernel⟩ ⟨(Nat.le_of_ble_eq_true rfl), (Nat.le_of_ble_eq_true rfl)⟩ (hT.o7 (hT.k t_x (by decide))) rfl rfl hl.1 rfl (Nat.le_of_ble_eq_true rfl) dL_law_597 zx.dn (fun r2 s1 H locs hφ hE hT => ?_)
  have R3 := hR.ext hE ⟨rfl, rfl, fun _ => rfl, fun _ => rfl, fun _ => rfl, fun _ => rfl⟩
  have a4 : (zI s1 tx 1).toInt = (zI σ tx 1).toInt := by rw [(hTo.k ttx (by decide)).eI hE (by decide) rfl]
  have j5 : zI s1 rB = zI σ rB := (show zI s1 rB = zI σ rB from funext fun k => (hTo.k trB (by decide)).eI hE (by decide) rfl)
  have j6 : zI s1 rT = zI σ rT := (show zI s1 rT = zI σ rT from funext fun k => (hTo.k trT (by decide)).eI hE (by decide) rfl)
  have j7 : zI s1 rI = zI σ rI := (show zI s1 rI = zI σ rI from funext fun k => (hTo.k trI (by decide)).eI hE (by decide) rfl)
  have j8 : zI s1 rK = zI σ rK := (show zI s1 rK = zI σ rK from funext fun k => (hTo.k trK (by decide)).eI hE (by decide) rfl)
  have j9 : zI s1 tx 2 = zI σ tx 2 := (hTo.k ttx (by decide)).eI hE (by decide) rfl
  have j10 : zI s1 tx 3 = zI σ tx 3 := (hTo.k ttx (by decide)).eI hE (by decide) rfl
  have j11 : zI s1 mm 15 = zI σ mm 15 := (hTo.k t_mm (by decide)).eI hE (by decide) rfl
  have j12 : zI s1 mm 16 = zI σ mm 16 := (hTo.k t_mm (by decide)).eI hE (by decide) rfl
  have n13 : zI s1 nw 7 = zI σ nw 7 ∧ zI s1 nw 8 = zI σ nw 8 ∧ zI s1 nw 9 = zI σ nw 9 := ⟨(hTo.k tnw (by decide)).eI hE (by decide) rfl, (hTo.k tnw (by decide)).eI hE (by decide) rfl, (hTo.k tnw (by decide)).eI hE (by decide) rfl⟩
  have n14 : zI s1 sl0 7 = zI σ sl0 7 ∧ zI s1 sl0 8 = zI σ sl0 8 ∧ zI s1 sl0 9 = zI σ sl0 9 := ⟨(hTo.k tsl0 (by decide)).eI hE (by decide) rfl, (hTo.k tsl0 (by decide)).eI hE (by decide) rfl, (hTo.k tsl0 (by decide)).eI hE (by decide) rfl⟩
  have n15 : zI s1 sl1 7 = zI σ sl1 7 ∧ zI s1 sl1 8 = zI σ sl1 8 ∧ zI s1 sl1 9 = zI σ sl1 9 := ⟨(hTo.k tsl1 (by decide)).eI hE (by decide) rfl, (hTo.k tsl1 (by decide)).eI hE (by decide) rfl, (hTo.k tsl1 (by decide)).eI hE (by decide) rfl⟩
  have n16 : ∀ j : Nat, j < 3 → zJ s1 rW j = zJ σ rW j := fun j hj => (hTo.k trW (by decide)).eJ hE (by decide) rfl
  have n17 : zJ s1 rS = zJ σ rS := (show zJ s1 rS = zJ σ rS from funext fun k => (hTo.k trS (by decide)).eJ hE (by decide) rfl)
  have a18 : (zI s1 mm 13).toInt = (zI σ mm 13).toInt := by rw [(hTo.k t_mm (by decide)).eI hE (by decide) rfl]
  refine lv_pop2_2 hx hb dL_law_600 rfl ?_
  refine lv_aload_n hx hb dL_law_601 rfl (lv_at hl 2 rfl) ?_
  have hTo := hT
  refine tVl (n := 0) (As := []) (rest := []) hx hb hml hown hg hT hK hX (X6_drift l κ s1 mm (hT.k t_mm (by decide)) R3) sub_gR_fA (mwV k1476 k1477 k1478 k92 k1479) ⟨rfl, by decide, by decide, by decide +kernel⟩ ⟨(Nat.le_of_ble_eq_true rfl), (Nat.le_of_ble_eq_true rfl)⟩ (hT.o20 (hT.k t_mm (by decide))) rfl rfl hl.1 rfl (Nat.le_of_ble_eq_true rfl) dL_law_602 zx.dn (fun r20 s19 H locs hφ hE hT => ?_)
  have R21 := R3.ext hE ⟨rfl, rfl, fun _ => rfl, fun _ => rfl, fun _ => rfl, fun _ => rfl⟩
  have a22 : (zI s19 tx 1).toInt = (zI s1 tx 1).toInt := by rw [(hTo.k ttx (by decide)).eI hE (by decide) rfl]
  have j23 : zI s19 rB = zI σ rB := ((show zI s19 rB = zI s1 rB from funext fun k => (hTo.k trB (by decide)).eI hE (by decide) rfl)).trans j5
  have j24 : zI s19 rT = zI σ rT := ((show zI s19 rT = zI s1 rT from funext fun k => (hTo.k trT (by decide)).eI hE (by decide) rfl)).trans j6
  have j25 : zI s19 rI = zI σ rI := ((show zI s19 rI = zI s1 rI from funext fun k => (hTo.k trI (by decide)).eI hE (by decide) rfl)).trans j7
  have j26 : zI s19 rK = zI σ rK := ((show zI s19 rK = zI s1 rK from funext fun k => (hTo.k trK (by decide)).eI hE (by decide) rfl)).trans j8
  have j27 : zI s19 tx 2 = zI σ tx 2 := ((hTo.k ttx (by decide)).eI hE (by decide) rfl).trans j9
  have j28 : zI s19 tx 3 = zI σ tx 3 := ((hTo.k ttx (by decide)).eI hE (by decide) rfl).trans j10
  have j29 : zI s19 mm 15 = zI σ mm 15 := ((hTo.k t_mm (by decide)).eI hE (by decide) rfl).trans j11
  have j30 : zI s19 mm 16 = zI σ mm 16 := ((hTo.k t_mm (by decide)).eI hE (by decide) rfl).trans j12
  have n31 : zI s19 nw 7 = zI s1 nw 7 ∧ zI s19 nw 8 = zI s1 nw 8 ∧ zI s19 nw 9 = zI s1 nw 9 := ⟨(hTo.k tnw (by decide)).eI hE (by decide) rfl, (hTo.k tnw (by decide)).eI hE (by decide) rfl, (hTo.k tnw (by decide)).eI hE (by decide) rfl⟩
  have n32 : zI s19 nw 7 = zI σ nw 7 ∧ zI s19 nw 8 = zI σ nw 8 ∧ zI s19 nw 9 = zI σ nw 9 := ⟨n31.1.trans n13.1, n31.2.1.trans n13.2.1, n31.2.2.trans n13.2.2⟩
  have n33 : zI s19 sl0 7 = zI s1 sl0 7 ∧ zI s19 sl0 8 = zI s1 sl0 8 ∧ zI s19 sl0 9 = zI s1 sl0 9 := ⟨(hTo.k tsl0 (by decide)).eI hE (by decide) rfl, (hTo.k tsl0 (by decide)).eI hE (by decide) rfl, (hTo.k tsl0 (by decide)).eI hE (by decide) rfl⟩
  have n34 : zI s19 sl0 7 = zI σ sl0 7 ∧ zI s19 sl0 8 = zI σ sl0 8 ∧ zI s19 sl0 9 = zI σ sl0 9 := ⟨n33.1.trans n14.1, n33.2.1.trans n14.2.1, n33.2.2.trans n14.2.2⟩
  have n35 : zI s19 sl1 7 = zI s1 sl1 7 ∧ zI s19 sl1 8 = zI s1 sl1 8 ∧ zI s19 sl1 9 = zI s1 sl1 9 := ⟨(hTo.k tsl1 (by decide)).eI hE (by decide) rfl, (hTo.k tsl1 (by decide)).eI hE (by decide) rfl, (hTo.k tsl1 (by decide)).eI hE (by decide) rfl⟩
  have n36 : zI s19 sl1 7 = zI σ sl1 7 ∧ zI s19 sl1 8 = zI σ sl1 8 ∧ zI s19 sl1 9 = zI σ sl1 9 := ⟨n35.1.trans n15.1, n35.2.1.trans n15.2.1, n35.2.2.trans n15.2.2⟩
  have n37 : ∀ j : Nat, j < 3 → zJ s19 rW j = zJ s1 rW j := fun j hj => (hTo.k trW (by decide)).eJ hE (by decide) rfl
  have n38 : ∀ j : Nat, j < 3 → zJ s19 rW j = zJ σ rW j := fun j hj => (n37 j hj).trans (n16 j hj)
  have n39 : zJ s19 rS = zJ σ rS := (show zJ s19 rS = zJ s1 rS from funext fun k => (hTo.k trS (by decide)).eJ hE (by decide) rfl).trans n17
  have a40 : (zI s19 mm 13).toInt = (zI s1 mm 13).toInt := by rw [(hTo.k t_mm (by decide)).eI hE (by decide) rfl]
  refine lv_pop2_2 hx hb dL_law_605 rfl ?_
  refine lv_goto (tgt := 1404) hx hb dL_law_606 (by decide) ?_
  have sl0f : zI s19 rI 0 ≠ 0 → SLT κ s19 x mm 0 := fun hq => (hsl 0 (by decide) (fun q9 => hq (by rw [erI] at q9; rw [j25]; exact q9))).tr (by rw [ers5, esl0]; exact n34) (fun j hj => by rw [erS, n39])
  have sl1f : zI s19 rI 1 ≠ 0 → SLT κ s19 x mm 1 := fun hq => (hsl 1 (by decide) (fun q9 => hq (by rw [erI] at q9; rw [j25]; exact q9))).tr (by rw [ers5, esl1]; exact n36) (fun j hj => by rw [erS, n39])
  exact KK s19 _ _ _ hT.up R21 ⟨by rw [etx]; omega, ⟨by rw [etx, erB, erT, j23, j24]; exact tal_less hal (by omega), by rw [erT, j24]; exact tnn_less hnn (by omega)⟩, ⟨by rw [etx, j27, j29]; exact hco, by rw [etx, j28, j30]; exact hpo⟩, fun i hi => by rw [erI, erK, j25, j26]; exact hkp i hi⟩ (⟨hnw.tr (by rw [enw]; exact n32) (by rw [erW]; exact n38), fun i hi => (show i = 0 ∨ i = 1 by omega).elim (fun e9 => by rw [e9, erI]; exact sl0f) (fun e9 => by rw [e9, erI]; exact sl1f)⟩) (lv_sub hl [0, 1, 2, 3, 4] rfl)
set_option maxHeartbeats 4000000 in
set_option maxRecDepth 100000 in
theorem lc_13 (l : Launch) (κ : Kt) (σ0 : Gh) (x mm out b : Nat) (t_x : zk σ0 x 7) (t_mm : zk σ0 mm 20) (t_out : zk σ0 out 24) (ttx0 : zk σ0 (kR κ x 0) 6) (hdis : DIS κ x) (hlt : l.stackTraces = false) {p : Program} {e : Env} {s : State} {m : MethodId} {below : List Frame} {meth : Method} {c : Code} {L : Nat} {xs : Nat → Int32} {i : Int32} {Q9 : State → Prop} (hx : p.tables.exec = Jvm.exec) (hb : c.code = cL_law) (hml : c.maxLocals = 9) (hown : s.vm.findClass RL = some m.cls) (hg : ∀ w ∈ GW, w.before #[Value.ref b] s = true) (hK : va_K κ.1 vwCl (kTy κ) s) (hX : XY κ (tA σ0 s.heap.size) s s.heap) (hXs : va_X b L xs s s.heap) (hbl : b < s.heap.size) (hbA : ¬ tA σ0 s.heap.size b) (zx : zroomX κ s room_1 601024 7293034) (hi0 : 0 ≤ i.toInt) (hi1 : i.toInt + 6 ≤ L) (hL9 : L ≤ 3072) {σ : Gh} {H : Heap} {locs : List Loc} {ls : Array Slot} (hT : TS κ fA σ0 σ s H locs) (hR : RI κ σ mm) (hrel : LREL κ σ x mm) (hsr : SREL κ σ x mm) (hl : lv_has ls 9 [(4, .int i), (3, .ref out), (2, .ref mm), (1, .ref x), (0, .ref b)]) (KK : ∀ (σ1 : Gh) (H : Heap) (locs : List Loc) (ls : Array Slot), TS (kX κ) fA σ0 σ1 s H locs → RI (kX κ) σ1 mm → LREL κ σ1 x mm → SREL κ σ1 x mm → lv_has ls 9 [(4, .int i), (3, .ref out), (2, .ref mm), (1, .ref x), (0, .ref b)] → W p l e room_1 s m #[Value.ref b] below meth c H locs 601024 7293034 Q9 (F0 m 1404 ls [])) : W p l e room_1 s m #[Value.ref b] below meth c H locs 601024 7293034 Q9 (F0 m 609 ls []) := by
  obtain ⟨y1, hy1⟩ : ∃ z, z = xs (ix i + 1) := ⟨_, rfl⟩
  obtain ⟨y2, hy2⟩ : ∃ z, z = xs (ix i + 2) := ⟨_, rfl⟩
  obtain ⟨y3, hy3⟩ : ∃ z, z = xs (ix i + 3) := ⟨_, rfl⟩
  obtain ⟨y4, hy4⟩ : ∃ z, z = xs (ix i + 4) := ⟨_, rfl⟩
  obtain ⟨y5, hy5⟩ : ∃ z, z = xs (ix i + 5) := ⟨_, rfl⟩
  have n0 : (0 : Int32).toInt = 0 := by decide
  have n1 : (1 : Int32).toInt = 1 := by decide
  have n2 : (2 : Int32).toInt = 2 := by decide
  have n3 : (3 : Int32).toInt = 3 := by decide
  have n4 : (4 : Int32).toInt = 4 := by decide
  have n5 : (5 : Int32).toInt = 5 := by decide
  obtain ⟨tx, etx⟩ : ∃ z, kR κ x 0 = z := ⟨_, rfl⟩
  have ttx : zk σ0 tx 6 := by rw [← etx]; exact ttx0
  obtain ⟨rB, erB⟩ : ∃ z, kR κ tx 0 = z := ⟨_, rfl⟩
  have trB : zk σ0 rB 14 := by rw [← erB]; exact hT.kr (hT.ref (hT.k ttx (by decide)) (by decide) (by decide) (by decide)) (by decide) (by decide)
  obtain ⟨rT, erT⟩ : ∃ z, kR κ mm 12 = z := ⟨_, rfl⟩
  have trT : zk σ0 rT 23 := by rw [← erT]; exact hT.kr (hT.ref (hT.k t_mm (by decide)) (by decide) (by decide) (by decide)) (by decide) (by decide)
  obtain ⟨rI, erI⟩ : ∃ z, kR κ x 6 = z := ⟨_, rfl⟩
  have trI : zk σ0 rI 13 := by rw [← erI]; exact hT.kr (hT.ref (hT.k t_x (by decide)) (by decide) (by decide) (by decide)) (by decide) (by decide)
  obtain ⟨rK, erK⟩ : ∃ z, kR κ mm 4 = z := ⟨_, rfl⟩
  have trK : zk σ0 rK 29 := by rw [← erK]; exact hT.kr (hT.ref (hT.k t_mm (by decide)) (by decide) (by decide) (by decide)) (by decide) (by decide)
  obtain ⟨hlen, ⟨hal, hnn⟩, ⟨hco, hpo⟩, hkp⟩ := hrel
  rw [etx] at hlen hal hco hpo
  rw [erB, erT] at hal
  rw [erT] at hnn
  rw [erI, erK] at hkp
  have btx := (hT.P (hT.k ttx (by decide)) (by decide)).1
  have btxl := btx.1
  have btxh := btx.2
  obtain ⟨nw, enw⟩ : ∃ z, kR κ x 3 = z := ⟨_, rfl⟩
  have tnw : zk σ0 nw 3 := by rw [← enw]; exact hT.kr (hT.ref (hT.k t_x (by decide)) (by decide) (by decide) (by decide)) (by decide) (by decide)
  obtain ⟨tr, etr⟩ : ∃ z, kR κ x 4 = z := ⟨_, rfl⟩
  have ttr : zk σ0 tr 3 := by rw [← etr]; exact hT.kr (hT.ref (hT.k t_x (by decide)) (by decide) (by decide) (by decide)) (by decide) (by decide)
  obtain ⟨rs5, ers5⟩ : ∃ z, kR κ x 5 = z := ⟨_, rfl⟩
  have trs5 : zk σ0 rs5 12 := by rw [← ers5]; exact hT.kr (hT.ref (hT.k t_x (by decide)) (by decide) (by decide) (by decide)) (by decide) (by decide)
  obtain ⟨sl0, esl0⟩ : ∃ z, kR κ rs5 0 = z := ⟨_, rfl⟩
  have tsl0 : zk σ0 sl0 3 := by rw [← esl0]; exact hT.kr (hT.ref (hT.k trs5 (by decide)) (by decide) (by decide) (by decide)) (by decide) (by decide)
  obtain ⟨sl1, esl1⟩ : ∃ z, kR κ rs5 1 = z := ⟨_, rfl⟩
  have tsl1 : zk σ0 sl1 3 := by rw [← esl1]; exact hT.kr (hT.ref (hT.k trs5 (by decide)) (by decide) (by decide) (by decide)) (by decide) (by decide)
  obtain ⟨rW, erW⟩ : ∃ z, kR κ mm 1 = z := ⟨_, rfl⟩
  have trW : zk σ0 rW 21 := by rw [← erW]; exact hT.kr (hT.ref (hT.k t_mm (by decide)) (by decide) (by decide) (by decide)) (by decide) (by decide)
  obtain ⟨rS, erS⟩ : ∃ z, kR κ mm 3 = z := ⟨_, rfl⟩
  have trS : zk σ0 rS 22 := by rw [← erS]; exact hT.kr (hT.ref (hT.k t_mm (by decide)) (by decide) (by decide) (by decide)) (by decide) (by decide)
  obtain ⟨hnw, hsl⟩ := hsr
  obtain ⟨hd1, ⟨hd2, hd3⟩, hd4, hd5⟩ := hdis
  have d_nt : nw ≠ tr := by rw [← enw, ← etr]; exact hd2
  have d_n0 : nw ≠ sl0 := by rw [← enw, ← esl0, ← ers5]; exact hd3 0 (by decide)
  have d_t0 : sl0 ≠ tr := by rw [← etr, ← esl0, ← ers5]; exact fun q => hd4 0 (by decide) q.symm
  have d_n1 : nw ≠ sl1 := by rw [← enw, ← esl1, ← ers5]; exact hd3 1 (by decide)
  have d_t1 : sl1 ≠ tr := by rw [← etr, ← esl1, ← ers5]; exact fun q => hd4 1 (by decide) q.symm
  have d_01 : sl0 ≠ sl1 := by rw [← esl0, ← esl1, ← ers5]; exact hd5
  have knw : zk σ nw 3 := hT.k tnw (by decide)
  have ksl0 : zk σ sl0 3 := hT.k tsl0 (by decide)
  have ksl1 : zk σ sl1 3 := hT.k tsl1 (by decide)
  refine lv_aload_n hx hb dL_law_609 rfl (lv_at hl 3 rfl) ?_
  refine lv_aload_n hx hb dL_law_610 rfl (lv_at hl 4 rfl) ?_
  refine lv_iload hx hb dL_law_611 (lv_at hl 0 rfl) ?_
  refine lv_iconst (v := 1) hx hb dL_law_613 (by decide) ?_
  refine lv_iadd hx hb dL_law_614 ?_
  refine g_add (by omega) (by omega) (fun t1 ht1 => ?_)
  refine va_sld hx hb hXs hbl hbA hT.2.2.2 (g_in (by omega) (by omega)) dL_law_615 ?_
  refine ti y1 (by rw [hy1]; exact congrArg xs (show t1.toNatClampNeg = ix i + 1 from by show t1.toInt.toNat = ix i + 1; unfold ix; omega)) ?_
  refine lv_aload_n hx hb dL_law_616 rfl (lv_at hl 1 rfl) ?_
  have hTo := hT
  refine tHi (n := 3) (As := [.ref x, .int y1, .ref out]) (rest := []) hx hb hml hown hg hT hK hX (L_mean l κ σ x y1 out (hT.k t_x (by decide)) (hT.k t_out (by decide)) hlt) sub_hfW_fA (mwHS k902 k903 k83 k904) ⟨by decide, by decide, by decide +kernel⟩ ⟨(Nat.le_of_ble_eq_true rfl), (Nat.le_of_ble_eq_true rfl)⟩ rfl hl.1 rfl (Nat.le_of_ble_eq_true rfl) dL_law_617 zx (fun r3 s2 H locs hφ hE hT => ?_)
  have R4 := hR.ext hE ⟨rfl, rfl, fun _ => rfl, fun _ => rfl, fun _ => rfl, fun _ => rfl⟩
  have a5 : (zI s2 tx 1).toInt = (zI σ tx 1).toInt := by rw [(hTo.k ttx (by decide)).eI hE (by decide) rfl]
  have j6 : zI s2 rB = zI σ rB := (show zI s2 rB = zI σ rB from funext fun k => (hTo.k trB (by decide)).eI hE (by decide) rfl)
  have j7 : zI s2 rT = zI σ rT := (show zI s2 rT = zI σ rT from funext fun k => (hTo.k trT (by decide)).eI hE (by decide) rfl)
  have j8 : zI s2 rI = zI σ rI := (show zI s2 rI = zI σ rI from funext fun k => (hTo.k trI (by decide)).eI hE (by decide) rfl)
  have j9 : zI s2 rK = zI σ rK := (show zI s2 rK = zI σ rK from funext fun k => (hTo.k trK (by decide)).eI hE (by decide) rfl)
  have j10 : zI s2 tx 2 = zI σ tx 2 := (hTo.k ttx (by decide)).eI hE (by decide) rfl
  have j11 : zI s2 tx 3 = zI σ tx 3 := (hTo.k ttx (by decide)).eI hE (by decide) rfl
  have j12 : zI s2 mm 15 = zI σ mm 15 := (hTo.k t_mm (by decide)).eI hE (by decide) rfl
  have j13 : zI s2 mm 16 = zI σ mm 16 := (hTo.k t_mm (by decide)).eI hE (by decide) rfl
  have n14 : zI s2 nw 7 = zI σ nw 7 ∧ zI s2 nw 8 = zI σ nw 8 ∧ zI s2 nw 9 = zI σ nw 9 := ⟨(hTo.k tnw (by decide)).eI hE (by decide) rfl, (hTo.k tnw (by decide)).eI hE (by decide) rfl, (hTo.k tnw (by decide)).eI hE (by decide) rfl⟩
  have n15 : zI s2 sl0 7 = zI σ sl0 7 ∧ zI s2 sl0 8 = zI σ sl0 8 ∧ zI s2 sl0 9 = zI σ sl0 9 := ⟨(hTo.k tsl0 (by decide)).eI hE (by decide) rfl, (hTo.k tsl0 (by decide)).eI hE (by decide) rfl, (hTo.k tsl0 (by decide)).eI hE (by decide) rfl⟩
  have n16 : zI s2 sl1 7 = zI σ sl1 7 ∧ zI s2 sl1 8 = zI σ sl1 8 ∧ zI s2 sl1 9 = zI σ sl1 9 := ⟨(hTo.k tsl1 (by decide)).eI hE (by decide) rfl, (hTo.k tsl1 (by decide)).eI hE (by decide) rfl, (hTo.k tsl1 (by decide)).eI hE (by decide) rfl⟩
  have n17 : ∀ j : Nat, j < 3 → zJ s2 rW j = zJ σ rW j := fun j hj => (hTo.k trW (by decide)).eJ hE (by decide) rfl
  have n18 : zJ s2 rS = zJ σ rS := (show zJ s2 rS = zJ σ rS from funext fun k => (hTo.k trS (by decide)).eJ hE (by decide) rfl)
  have a19 : (zI s2 mm 13).toInt = (zI σ mm 13).toInt := by rw [(hTo.k t_mm (by decide)).eI hE (by decide) rfl]
  refine lv_istore (lv' := [(5, .int r3), (4, .int i), (3, .ref out), (2, .ref mm), (1, .ref x), (0, .ref b)]) hx hb dL_law_620 hl (by decide) rfl (fun ls hl => ?_)
  refine lv_aload_n hx hb dL_law_622 rfl (lv_at hl 3 rfl) ?_
  refine lv_aload_n hx hb dL_law_623 rfl (lv_at hl 5 rfl) ?_
  refine lv_iload hx hb dL_law_624 (lv_at hl 1 rfl) ?_
  refine lv_iconst (v := 1) hx hb dL_law_626 (by decide) ?_
  refine lv_iadd hx hb dL_law_627 ?_
  refine g_add (by omega) (by omega) (fun t20 ht20 => ?_)
  refine va_sld hx hb hXs hbl hbA hT.2.2.2 (g_in (by omega) (by omega)) dL_law_628 ?_
  refine ti y1 (by rw [hy1]; exact congrArg xs (show t20.toNatClampNeg = ix i + 1 from by show t20.toInt.toNat = ix i + 1; unfold ix; omega)) ?_
  have hTo := hT
  refine tVl (n := 1) (As := [.int y1]) (rest := []) hx hb hml hown hg hT hK hX (X6_mean l (kX κ) s2 mm y1 (hT.k t_mm (by decide)) R4) sub_gR_fA (mwV k1480 k1481 k1482 k92 k1483) ⟨rfl, by decide, by decide, by decide +kernel⟩ ⟨(Nat.le_of_ble_eq_true rfl), (Nat.le_of_ble_eq_true rfl)⟩ (hT.o20 (hT.k t_mm (by decide))) rfl rfl hl.1 rfl (Nat.le_of_ble_eq_true rfl) dL_law_629 zx (fun r22 s21 H locs hφ hE hT => ?_)
  have R23 := R4.ext hE ⟨rfl, rfl, fun _ => rfl, fun _ => rfl, fun _ => rfl, fun _ => rfl⟩
  have a24 : (zI s21 tx 1).toInt = (zI s2 tx 1).toInt := by rw [(hTo.k ttx (by decide)).eI hE (by decide) rfl]
  have j25 : zI s21 rB = zI σ rB := ((show zI s21 rB = zI s2 rB from funext fun k => (hTo.k trB (by decide)).eI hE (by decide) rfl)).trans j6
  have j26 : zI s21 rT = zI σ rT := ((show zI s21 rT = zI s2 rT from funext fun k => (hTo.k trT (by decide)).eI hE (by decide) rfl)).trans j7
  have j27 : zI s21 rI = zI σ rI := ((show zI s21 rI = zI s2 rI from funext fun k => (hTo.k trI (by decide)).eI hE (by decide) rfl)).trans j8
  have j28 : zI s21 rK = zI σ rK := ((show zI s21 rK = zI s2 rK from funext fun k => (hTo.k trK (by decide)).eI hE (by decide) rfl)).trans j9
  have j29 : zI s21 tx 2 = zI σ tx 2 := ((hTo.k ttx (by decide)).eI hE (by decide) rfl).trans j10
  have j30 : zI s21 tx 3 = zI σ tx 3 := ((hTo.k ttx (by decide)).eI hE (by decide) rfl).trans j11
  have j31 : zI s21 mm 15 = zI σ mm 15 := ((hTo.k t_mm (by decide)).eI hE (by decide) rfl).trans j12
  have j32 : zI s21 mm 16 = zI σ mm 16 := ((hTo.k t_mm (by decide)).eI hE (by decide) rfl).trans j13
  have n33 : zI s21 nw 7 = zI s2 nw 7 ∧ zI s21 nw 8 = zI s2 nw 8 ∧ zI s21 nw 9 = zI s2 nw 9 := ⟨(hTo.k tnw (by decide)).eI hE (by decide) rfl, (hTo.k tnw (by decide)).eI hE (by decide) rfl, (hTo.k tnw (by decide)).eI hE (by decide) rfl⟩
  have n34 : zI s21 nw 7 = zI σ nw 7 ∧ zI s21 nw 8 = zI σ nw 8 ∧ zI s21 nw 9 = zI σ nw 9 := ⟨n33.1.trans n14.1, n33.2.1.trans n14.2.1, n33.2.2.trans n14.2.2⟩
  have n35 : zI s21 sl0 7 = zI s2 sl0 7 ∧ zI s21 sl0 8 = zI s2 sl0 8 ∧ zI s21 sl0 9 = zI s2 sl0 9 := ⟨(hTo.k tsl0 (by decide)).eI hE (by decide) rfl, (hTo.k tsl0 (by decide)).eI hE (by decide) rfl, (hTo.k tsl0 (by decide)).eI hE (by decide) rfl⟩
  have n36 : zI s21 sl0 7 = zI σ sl0 7 ∧ zI s21 sl0 8 = zI σ sl0 8 ∧ zI s21 sl0 9 = zI σ sl0 9 := ⟨n35.1.trans n15.1, n35.2.1.trans n15.2.1, n35.2.2.trans n15.2.2⟩
  have n37 : zI s21 sl1 7 = zI s2 sl1 7 ∧ zI s21 sl1 8 = zI s2 sl1 8 ∧ zI s21 sl1 9 = zI s2 sl1 9 := ⟨(hTo.k tsl1 (by decide)).eI hE (by decide) rfl, (hTo.k tsl1 (by decide)).eI hE (by decide) rfl, (hTo.k tsl1 (by decide)).eI hE (by decide) rfl⟩
  have n38 : zI s21 sl1 7 = zI σ sl1 7 ∧ zI s21 sl1 8 = zI σ sl1 8 ∧ zI s21 sl1 9 = zI σ sl1 9 := ⟨n37.1.trans n16.1, n37.2.1.trans n16.2.1, n37.2.2.trans n16.2.2⟩
  have n39 : ∀ j : Nat, j < 3 → zJ s21 rW j = zJ s2 rW j := fun j hj => (hTo.k trW (by decide)).eJ hE (by decide) rfl
  have n40 : ∀ j : Nat, j < 3 → zJ s21 rW j = zJ σ rW j := fun j hj => (n39 j hj).trans (n17 j hj)
  have n41 : zJ s21 rS = zJ σ rS := (show zJ s21 rS = zJ s2 rS from funext fun k => (hTo.k trS (by decide)).eJ hE (by decide) rfl).trans n18
  have a42 : (zI s21 mm 13).toInt = (zI s2 mm 13).toInt := by rw [(hTo.k t_mm (by decide)).eI hE (by decide) rfl]
  refine lv_lstore (lv' := [(6, .long r22), (5, .int r3), (4, .int i), (3, .ref out), (2, .ref mm), (1, .ref x), (0, .ref b)]) hx hb dL_law_632 hl (by decide) rfl (fun ls hl => ?_)
  refine lv_goto (tgt := 1404) hx hb dL_law_634 (by decide) ?_
  have sl0f : zI s21 rI 0 ≠ 0 → SLT κ s21 x mm 0 := fun hq => (hsl 0 (by decide) (fun q9 => hq (by rw [erI] at q9; rw [j27]; exact q9))).tr (by rw [ers5, esl0]; exact n36) (fun j hj => by rw [erS, n41])
  have sl1f : zI s21 rI 1 ≠ 0 → SLT κ s21 x mm 1 := fun hq => (hsl 1 (by decide) (fun q9 => hq (by rw [erI] at q9; rw [j27]; exact q9))).tr (by rw [ers5, esl1]; exact n38) (fun j hj => by rw [erS, n41])
  exact KK s21 _ _ _ hT R23 ⟨by rw [etx]; omega, ⟨by rw [etx, erB, erT, j25, j26]; exact tal_less hal (by omega), by rw [erT, j26]; exact tnn_less hnn (by omega)⟩, ⟨by rw [etx, j29, j31]; exact hco, by rw [etx, j30, j32]; exact hpo⟩, fun i hi => by rw [erI, erK, j27, j28]; exact hkp i hi⟩ (⟨hnw.tr (by rw [enw]; exact n34) (by rw [erW]; exact n40), fun i hi => (show i = 0 ∨ i = 1 by omega).elim (fun e9 => by rw [e9, erI]; exact sl0f) (fun e9 => by rw [e9, erI]; exact sl1f)⟩) (lv_sub hl [2, 3, 4, 5, 6] rfl)
set_option maxHeartbeats 4000000 in
set_option maxRecDepth 100000 in
theorem lc_14 (l : Launch) (κ : Kt) (σ0 : Gh) (x mm out b : Nat) (t_x : zk σ0 x 7) (t_mm : zk σ0 mm 20) (t_out : zk σ0 out 24) (ttx0 : zk σ0 (kR κ x 0) 6) (hdis : DIS κ x) (hlt : l.stackTraces = false) {p : Program} {e : Env} {s : State} {m : MethodId} {below : List Frame} {meth : Method} {c : Code} {L : Nat} {xs : Nat → Int32} {i : Int32} {Q9 : State → Prop} (hx : p.tables.exec = Jvm.exec) (hb : c.code = cL_law) (hml : c.maxLocals = 9) (hown : s.vm.findClass RL = some m.cls) (hg : ∀ w ∈ GW, w.before #[Value.ref b] s = true) (hK : va_K κ.1 vwCl (kTy κ) s) (hX : XY κ (tA σ0 s.heap.size) s s.heap) (hXs : va_X b L xs s s.heap) (hbl : b < s.heap.size) (hbA : ¬ tA σ0 s.heap.size b) (zx : zroomX κ s room_1 601024 7293034) (hi0 : 0 ≤ i.toInt) (hi1 : i.toInt + 6 ≤ L) (hL9 : L ≤ 3072) {d0 : Drawn} (hd0 : s.drawn.sameBut d0 lw_cs) {σ : Gh} {H : Heap} {locs : List Loc} {ls : Array Slot} (hT : TS κ fA σ0 σ s H locs) (hR : RI κ σ mm) (hrel : LREL κ σ x mm) (hsr : SREL κ σ x mm) (hl : lv_has ls 9 [(4, .int i), (3, .ref out), (2, .ref mm), (1, .ref x), (0, .ref b)]) (KK : ∀ (d1 : Drawn), s.drawn.sameBut d1 lw_cs → ∀ (σ1 : Gh) (H : Heap) (locs : List Loc) (ls : Array Slot), TS (kX κ) fA σ0 σ1 s H locs → RI (kX κ) σ1 mm → LREL κ σ1 x mm → SREL κ σ1 x mm → lv_has ls 9 [(4, .int i), (3, .ref out), (2, .ref mm), (1, .ref x), (0, .ref b)] → W p l e room_1 (s.setDrawn d1) m #[Value.ref b] below meth c H locs 601024 7293034 Q9 (F0 m 1404 ls [])) : W p l e room_1 (s.setDrawn d0) m #[Value.ref b] below meth c H locs 601024 7293034 Q9 (F0 m 637 ls []) := by
  obtain ⟨y1, hy1⟩ : ∃ z, z = xs (ix i + 1) := ⟨_, rfl⟩
  obtain ⟨y2, hy2⟩ : ∃ z, z = xs (ix i + 2) := ⟨_, rfl⟩
  obtain ⟨y3, hy3⟩ : ∃ z, z = xs (ix i + 3) := ⟨_, rfl⟩
  obtain ⟨y4, hy4⟩ : ∃ z, z = xs (ix i + 4) := ⟨_, rfl⟩
  obtain ⟨y5, hy5⟩ : ∃ z, z = xs (ix i + 5) := ⟨_, rfl⟩
  have n0 : (0 : Int32).toInt = 0 := by decide
  have n1 : (1 : Int32).toInt = 1 := by decide
  have n2 : (2 : Int32).toInt = 2 := by decide
  have n3 : (3 : Int32).toInt = 3 := by decide
  have n4 : (4 : Int32).toInt = 4 := by decide
  have n5 : (5 : Int32).toInt = 5 := by decide
  obtain ⟨tx, etx⟩ : ∃ z, kR κ x 0 = z := ⟨_, rfl⟩
  have ttx : zk σ0 tx 6 := by rw [← etx]; exact ttx0
  obtain ⟨rB, erB⟩ : ∃ z, kR κ tx 0 = z := ⟨_, rfl⟩
  have trB : zk σ0 rB 14 := by rw [← erB]; exact hT.kr (hT.ref (hT.k ttx (by decide)) (by decide) (by decide) (by decide)) (by decide) (by decide)
  obtain ⟨rT, erT⟩ : ∃ z, kR κ mm 12 = z := ⟨_, rfl⟩
  have trT : zk σ0 rT 23 := by rw [← erT]; exact hT.kr (hT.ref (hT.k t_mm (by decide)) (by decide) (by decide) (by decide)) (by decide) (by decide)
  obtain ⟨rI, erI⟩ : ∃ z, kR κ x 6 = z := ⟨_, rfl⟩
  have trI : zk σ0 rI 13 := by rw [← erI]; exact hT.kr (hT.ref (hT.k t_x (by decide)) (by decide) (by decide) (by decide)) (by decide) (by decide)
  obtain ⟨rK, erK⟩ : ∃ z, kR κ mm 4 = z := ⟨_, rfl⟩
  have trK : zk σ0 rK 29 := by rw [← erK]; exact hT.kr (hT.ref (hT.k t_mm (by decide)) (by decide) (by decide) (by decide)) (by decide) (by decide)
  obtain ⟨hlen, ⟨hal, hnn⟩, ⟨hco, hpo⟩, hkp⟩ := hrel
  rw [etx] at hlen hal hco hpo
  rw [erB, erT] at hal
  rw [erT] at hnn
  rw [erI, erK] at hkp
  have btx := (hT.P (hT.k ttx (by decide)) (by decide)).1
  have btxl := btx.1
  have btxh := btx.2
  obtain ⟨nw, enw⟩ : ∃ z, kR κ x 3 = z := ⟨_, rfl⟩
  have tnw : zk σ0 nw 3 := by rw [← enw]; exact hT.kr (hT.ref (hT.k t_x (by decide)) (by decide) (by decide) (by decide)) (by decide) (by decide)
  obtain ⟨tr, etr⟩ : ∃ z, kR κ x 4 = z := ⟨_, rfl⟩
  have ttr : zk σ0 tr 3 := by rw [← etr]; exact hT.kr (hT.ref (hT.k t_x (by decide)) (by decide) (by decide) (by decide)) (by decide) (by decide)
  obtain ⟨rs5, ers5⟩ : ∃ z, kR κ x 5 = z := ⟨_, rfl⟩
  have trs5 : zk σ0 rs5 12 := by rw [← ers5]; exact hT.kr (hT.ref (hT.k t_x (by decide)) (by decide) (by decide) (by decide)) (by decide) (by decide)
  obtain ⟨sl0, esl0⟩ : ∃ z, kR κ rs5 0 = z := ⟨_, rfl⟩
  have tsl0 : zk σ0 sl0 3 := by rw [← esl0]; exact hT.kr (hT.ref (hT.k trs5 (by decide)) (by decide) (by decide) (by decide)) (by decide) (by decide)
  obtain ⟨sl1, esl1⟩ : ∃ z, kR κ rs5 1 = z := ⟨_, rfl⟩
  have tsl1 : zk σ0 sl1 3 := by rw [← esl1]; exact hT.kr (hT.ref (hT.k trs5 (by decide)) (by decide) (by decide) (by decide)) (by decide) (by decide)
  obtain ⟨rW, erW⟩ : ∃ z, kR κ mm 1 = z := ⟨_, rfl⟩
  have trW : zk σ0 rW 21 := by rw [← erW]; exact hT.kr (hT.ref (hT.k t_mm (by decide)) (by decide) (by decide) (by decide)) (by decide) (by decide)
  obtain ⟨rS, erS⟩ : ∃ z, kR κ mm 3 = z := ⟨_, rfl⟩
  have trS : zk σ0 rS 22 := by rw [← erS]; exact hT.kr (hT.ref (hT.k t_mm (by decide)) (by decide) (by decide) (by decide)) (by decide) (by decide)
  obtain ⟨hnw, hsl⟩ := hsr
  obtain ⟨hd1, ⟨hd2, hd3⟩, hd4, hd5⟩ := hdis
  have d_nt : nw ≠ tr := by rw [← enw, ← etr]; exact hd2
  have d_n0 : nw ≠ sl0 := by rw [← enw, ← esl0, ← ers5]; exact hd3 0 (by decide)
  have d_t0 : sl0 ≠ tr := by rw [← etr, ← esl0, ← ers5]; exact fun q => hd4 0 (by decide) q.symm
  have d_n1 : nw ≠ sl1 := by rw [← enw, ← esl1, ← ers5]; exact hd3 1 (by decide)
  have d_t1 : sl1 ≠ tr := by rw [← etr, ← esl1, ← ers5]; exact fun q => hd4 1 (by decide) q.symm
  have d_01 : sl0 ≠ sl1 := by rw [← esl0, ← esl1, ← ers5]; exact hd5
  have knw : zk σ nw 3 := hT.k tnw (by decide)
  have ksl0 : zk σ sl0 3 := hT.k tsl0 (by decide)
  have ksl1 : zk σ sl1 3 := hT.k tsl1 (by decide)
  refine lv_aload_n hx hb dL_law_637 rfl (lv_at hl 3 rfl) ?_
  have hTo := hT
  refine tVdD (n := 0) (As := []) (rest := []) hd0 hx hb hml hown (dr_words hg d0) hT hK hX (X5_plainMean l κ σ x (hT.k t_x (by decide))) sub_fW_fA (mwV k463 k464 k465 k84 k466) ⟨rfl, by decide, by decide, by decide +kernel⟩ ⟨(Nat.le_of_ble_eq_true rfl), (Nat.le_of_ble_eq_true rfl)⟩ (hT.o7 (hT.k t_x (by decide))) rfl rfl hl.1 rfl (Nat.le_of_ble_eq_true rfl) dL_law_638 zx.dn (fun r2 s1 H locs d1 hd1 hφ hE hT => ?_)
  have hg1 := dr_words hg d1
  have R3 := hR.ext hE ⟨rfl, rfl, fun _ => rfl, fun _ => rfl, fun _ => rfl, fun _ => rfl⟩
  have a4 : (zI s1 tx 1).toInt = (zI σ tx 1).toInt := by rw [(hTo.k ttx (by decide)).eI hE (by decide) rfl]
  have j5 : zI s1 rB = zI σ rB := (show zI s1 rB = zI σ rB from funext fun k => (hTo.k trB (by decide)).eI hE (by decide) rfl)
  have j6 : zI s1 rT = zI σ rT := (show zI s1 rT = zI σ rT from funext fun k => (hTo.k trT (by decide)).eI hE (by decide) rfl)
  have j7 : zI s1 rI = zI σ rI := (show zI s1 rI = zI σ rI from funext fun k => (hTo.k trI (by decide)).eI hE (by decide) rfl)
  have j8 : zI s1 rK = zI σ rK := (show zI s1 rK = zI σ rK from funext fun k => (hTo.k trK (by decide)).eI hE (by decide) rfl)
  have j9 : zI s1 tx 2 = zI σ tx 2 := (hTo.k ttx (by decide)).eI hE (by decide) rfl
  have j10 : zI s1 tx 3 = zI σ tx 3 := (hTo.k ttx (by decide)).eI hE (by decide) rfl
  have j11 : zI s1 mm 15 = zI σ mm 15 := (hTo.k t_mm (by decide)).eI hE (by decide) rfl
  have j12 : zI s1 mm 16 = zI σ mm 16 := (hTo.k t_mm (by decide)).eI hE (by decide) rfl
  have n13 : zI s1 nw 7 = zI σ nw 7 ∧ zI s1 nw 8 = zI σ nw 8 ∧ zI s1 nw 9 = zI σ nw 9 := ⟨(hTo.k tnw (by decide)).eI hE (by decide) rfl, (hTo.k tnw (by decide)).eI hE (by decide) rfl, (hTo.k tnw (by decide)).eI hE (by decide) rfl⟩
  have n14 : zI s1 sl0 7 = zI σ sl0 7 ∧ zI s1 sl0 8 = zI σ sl0 8 ∧ zI s1 sl0 9 = zI σ sl0 9 := ⟨(hTo.k tsl0 (by decide)).eI hE (by decide) rfl, (hTo.k tsl0 (by decide)).eI hE (by decide) rfl, (hTo.k tsl0 (by decide)).eI hE (by decide) rfl⟩
  have n15 : zI s1 sl1 7 = zI σ sl1 7 ∧ zI s1 sl1 8 = zI σ sl1 8 ∧ zI s1 sl1 9 = zI σ sl1 9 := ⟨(hTo.k tsl1 (by decide)).eI hE (by decide) rfl, (hTo.k tsl1 (by decide)).eI hE (by decide) rfl, (hTo.k tsl1 (by decide)).eI hE (by decide) rfl⟩
  have n16 : ∀ j : Nat, j < 3 → zJ s1 rW j = zJ σ rW j := fun j hj => (hTo.k trW (by decide)).eJ hE (by decide) rfl
  have n17 : zJ s1 rS = zJ σ rS := (show zJ s1 rS = zJ σ rS from funext fun k => (hTo.k trS (by decide)).eJ hE (by decide) rfl)
  have a18 : (zI s1 mm 13).toInt = (zI σ mm 13).toInt := by rw [(hTo.k t_mm (by decide)).eI hE (by decide) rfl]
  refine lv_dstore (lv' := [(5, .double r2), (4, .int i), (3, .ref out), (2, .ref mm), (1, .ref x), (0, .ref b)]) hx hb dL_law_641 hl (by decide) rfl (fun ls hl => ?_)
  refine lv_aload_n hx hb dL_law_643 rfl (lv_at hl 3 rfl) ?_
  have hTo := hT
  refine tVd (s := s.setDrawn d1) (n := 0) (As := []) (rest := []) hx hb hml hown hg1 hT hK hX (X6_plainMean l κ s1 mm (hT.k t_mm (by decide)) R3) sub_gR_fA (mwV k1490 k1491 k1492 k92 k1493) ⟨rfl, by decide, by decide, by decide +kernel⟩ ⟨(Nat.le_of_ble_eq_true rfl), (Nat.le_of_ble_eq_true rfl)⟩ (hT.o20 (hT.k t_mm (by decide))) rfl rfl hl.1 rfl (Nat.le_of_ble_eq_true rfl) dL_law_644 zx.dn (fun r20 s19 H locs hφ hE hT => ?_)
  have R21 := R3.ext hE ⟨rfl, rfl, fun _ => rfl, fun _ => rfl, fun _ => rfl, fun _ => rfl⟩
  have a22 : (zI s19 tx 1).toInt = (zI s1 tx 1).toInt := by rw [(hTo.k ttx (by decide)).eI hE (by decide) rfl]
  have j23 : zI s19 rB = zI σ rB := ((show zI s19 rB = zI s1 rB from funext fun k => (hTo.k trB (by decide)).eI hE (by decide) rfl)).trans j5
  have j24 : zI s19 rT = zI σ rT := ((show zI s19 rT = zI s1 rT from funext fun k => (hTo.k trT (by decide)).eI hE (by decide) rfl)).trans j6
  have j25 : zI s19 rI = zI σ rI := ((show zI s19 rI = zI s1 rI from funext fun k => (hTo.k trI (by decide)).eI hE (by decide) rfl)).trans j7
  have j26 : zI s19 rK = zI σ rK := ((show zI s19 rK = zI s1 rK from funext fun k => (hTo.k trK (by decide)).eI hE (by decide) rfl)).trans j8
  have j27 : zI s19 tx 2 = zI σ tx 2 := ((hTo.k ttx (by decide)).eI hE (by decide) rfl).trans j9
  have j28 : zI s19 tx 3 = zI σ tx 3 := ((hTo.k ttx (by decide)).eI hE (by decide) rfl).trans j10
  have j29 : zI s19 mm 15 = zI σ mm 15 := ((hTo.k t_mm (by decide)).eI hE (by decide) rfl).trans j11
  have j30 : zI s19 mm 16 = zI σ mm 16 := ((hTo.k t_mm (by decide)).eI hE (by decide) rfl).trans j12
  have n31 : zI s19 nw 7 = zI s1 nw 7 ∧ zI s19 nw 8 = zI s1 nw 8 ∧ zI s19 nw 9 = zI s1 nw 9 := ⟨(hTo.k tnw (by decide)).eI hE (by decide) rfl, (hTo.k tnw (by decide)).eI hE (by decide) rfl, (hTo.k tnw (by decide)).eI hE (by decide) rfl⟩
  have n32 : zI s19 nw 7 = zI σ nw 7 ∧ zI s19 nw 8 = zI σ nw 8 ∧ zI s19 nw 9 = zI σ nw 9 := ⟨n31.1.trans n13.1, n31.2.1.trans n13.2.1, n31.2.2.trans n13.2.2⟩
  have n33 : zI s19 sl0 7 = zI s1 sl0 7 ∧ zI s19 sl0 8 = zI s1 sl0 8 ∧ zI s19 sl0 9 = zI s1 sl0 9 := ⟨(hTo.k tsl0 (by decide)).eI hE (by decide) rfl, (hTo.k tsl0 (by decide)).eI hE (by decide) rfl, (hTo.k tsl0 (by decide)).eI hE (by decide) rfl⟩
  have n34 : zI s19 sl0 7 = zI σ sl0 7 ∧ zI s19 sl0 8 = zI σ sl0 8 ∧ zI s19 sl0 9 = zI σ sl0 9 := ⟨n33.1.trans n14.1, n33.2.1.trans n14.2.1, n33.2.2.trans n14.2.2⟩
  have n35 : zI s19 sl1 7 = zI s1 sl1 7 ∧ zI s19 sl1 8 = zI s1 sl1 8 ∧ zI s19 sl1 9 = zI s1 sl1 9 := ⟨(hTo.k tsl1 (by decide)).eI hE (by decide) rfl, (hTo.k tsl1 (by decide)).eI hE (by decide) rfl, (hTo.k tsl1 (by decide)).eI hE (by decide) rfl⟩
  have n36 : zI s19 sl1 7 = zI σ sl1 7 ∧ zI s19 sl1 8 = zI σ sl1 8 ∧ zI s19 sl1 9 = zI σ sl1 9 := ⟨n35.1.trans n15.1, n35.2.1.trans n15.2.1, n35.2.2.trans n15.2.2⟩
  have n37 : ∀ j : Nat, j < 3 → zJ s19 rW j = zJ s1 rW j := fun j hj => (hTo.k trW (by decide)).eJ hE (by decide) rfl
  have n38 : ∀ j : Nat, j < 3 → zJ s19 rW j = zJ σ rW j := fun j hj => (n37 j hj).trans (n16 j hj)
  have n39 : zJ s19 rS = zJ σ rS := (show zJ s19 rS = zJ s1 rS from funext fun k => (hTo.k trS (by decide)).eJ hE (by decide) rfl).trans n17
  have a40 : (zI s19 mm 13).toInt = (zI s1 mm 13).toInt := by rw [(hTo.k t_mm (by decide)).eI hE (by decide) rfl]
  refine lv_dstore (lv' := [(7, .double r20), (5, .double r2), (4, .int i), (3, .ref out), (2, .ref mm), (1, .ref x), (0, .ref b)]) hx hb dL_law_647 hl (by decide) rfl (fun ls hl => ?_)
  refine lv_goto (tgt := 1404) hx hb dL_law_649 (by decide) ?_
  have sl0f : zI s19 rI 0 ≠ 0 → SLT κ s19 x mm 0 := fun hq => (hsl 0 (by decide) (fun q9 => hq (by rw [erI] at q9; rw [j25]; exact q9))).tr (by rw [ers5, esl0]; exact n34) (fun j hj => by rw [erS, n39])
  have sl1f : zI s19 rI 1 ≠ 0 → SLT κ s19 x mm 1 := fun hq => (hsl 1 (by decide) (fun q9 => hq (by rw [erI] at q9; rw [j25]; exact q9))).tr (by rw [ers5, esl1]; exact n36) (fun j hj => by rw [erS, n39])
  exact KK d1 hd1 s19 _ _ _ hT.up R21 ⟨by rw [etx]; omega, ⟨by rw [etx, erB, erT, j23, j24]; exact tal_less hal (by omega), by rw [erT, j24]; exact tnn_less hnn (by omega)⟩, ⟨by rw [etx, j27, j29]; exact hco, by rw [etx, j28, j30]; exact hpo⟩, fun i hi => by rw [erI, erK, j25, j26]; exact hkp i hi⟩ (⟨hnw.tr (by rw [enw]; exact n32) (by rw [erW]; exact n38), fun i hi => (show i = 0 ∨ i = 1 by omega).elim (fun e9 => by rw [e9, erI]; exact sl0f) (fun e9 => by rw [e9, erI]; exact sl1f)⟩) (lv_sub hl [2, 3, 4, 5, 6] rfl)
set_option maxHeartbeats 4000000 in
set_option maxRecDepth 100000 in
theorem lc_15 (l : Launch) (κ : Kt) (σ0 : Gh) (x mm out b : Nat) (t_x : zk σ0 x 7) (t_mm : zk σ0 mm 20) (t_out : zk σ0 out 24) (ttx0 : zk σ0 (kR κ x 0) 6) (hdis : DIS κ x) (hlt : l.stackTraces = false) {p : Program} {e : Env} {s : State} {m : MethodId} {below : List Frame} {meth : Method} {c : Code} {L : Nat} {xs : Nat → Int32} {i : Int32} {Q9 : State → Prop} (hx : p.tables.exec = Jvm.exec) (hb : c.code = cL_law) (hml : c.maxLocals = 9) (hown : s.vm.findClass RL = some m.cls) (hg : ∀ w ∈ GW, w.before #[Value.ref b] s = true) (hK : va_K κ.1 vwCl (kTy κ) s) (hX : XY κ (tA σ0 s.heap.size) s s.heap) (hXs : va_X b L xs s s.heap) (hbl : b < s.heap.size) (hbA : ¬ tA σ0 s.heap.size b) (zx : zroomX κ s room_1 601024 7293034) (hi0 : 0 ≤ i.toInt) (hi1 : i.toInt + 6 ≤ L) (hL9 : L ≤ 3072) {σ : Gh} {H : Heap} {locs : List Loc} {ls : Array Slot} (hT : TS κ fA σ0 σ s H locs) (hR : RI κ σ mm) (hrel : LREL κ σ x mm) (hsr : SREL κ σ x mm) (hl : lv_has ls 9 [(4, .int i), (3, .ref out), (2, .ref mm), (1, .ref x), (0, .ref b)]) (KK : ∀ (σ1 : Gh) (H : Heap) (locs : List Loc) (ls : Array Slot), TS (kX κ) fA σ0 σ1 s H locs → RI (kX κ) σ1 mm → LREL κ σ1 x mm → SREL κ σ1 x mm → lv_has ls 9 [(4, .int i), (3, .ref out), (2, .ref mm), (1, .ref x), (0, .ref b)] → W p l e room_1 s m #[Value.ref b] below meth c H locs 601024 7293034 Q9 (F0 m 1404 ls [])) : W p l e room_1 s m #[Value.ref b] below meth c H locs 601024 7293034 Q9 (F0 m 652 ls []) := by
  obtain ⟨y1, hy1⟩ : ∃ z, z = xs (ix i + 1) := ⟨_, rfl⟩
  obtain ⟨y2, hy2⟩ : ∃ z, z = xs (ix i + 2) := ⟨_, rfl⟩
  obtain ⟨y3, hy3⟩ : ∃ z, z = xs (ix i + 3) := ⟨_, rfl⟩
  obtain ⟨y4, hy4⟩ : ∃ z, z = xs (ix i + 4) := ⟨_, rfl⟩
  obtain ⟨y5, hy5⟩ : ∃ z, z = xs (ix i + 5) := ⟨_, rfl⟩
  have n0 : (0 : Int32).toInt = 0 := by decide
  have n1 : (1 : Int32).toInt = 1 := by decide
  have n2 : (2 : Int32).toInt = 2 := by decide
  have n3 : (3 : Int32).toInt = 3 := by decide
  have n4 : (4 : Int32).toInt = 4 := by decide
  have n5 : (5 : Int32).toInt = 5 := by decide
  obtain ⟨tx, etx⟩ : ∃ z, kR κ x 0 = z := ⟨_, rfl⟩
  have ttx : zk σ0 tx 6 := by rw [← etx]; exact ttx0
  obtain ⟨rB, erB⟩ : ∃ z, kR κ tx 0 = z := ⟨_, rfl⟩
  have trB : zk σ0 rB 14 := by rw [← erB]; exact hT.kr (hT.ref (hT.k ttx (by decide)) (by decide) (by decide) (by decide)) (by decide) (by decide)
  obtain ⟨rT, erT⟩ : ∃ z, kR κ mm 12 = z := ⟨_, rfl⟩
  have trT : zk σ0 rT 23 := by rw [← erT]; exact hT.kr (hT.ref (hT.k t_mm (by decide)) (by decide) (by decide) (by decide)) (by decide) (by decide)
  obtain ⟨rI, erI⟩ : ∃ z, kR κ x 6 = z := ⟨_, rfl⟩
  have trI : zk σ0 rI 13 := by rw [← erI]; exact hT.kr (hT.ref (hT.k t_x (by decide)) (by decide) (by decide) (by decide)) (by decide) (by decide)
  obtain ⟨rK, erK⟩ : ∃ z, kR κ mm 4 = z := ⟨_, rfl⟩
  have trK : zk σ0 rK 29 := by rw [← erK]; exact hT.kr (hT.ref (hT.k t_mm (by decide)) (by decide) (by decide) (by decide)) (by decide) (by decide)
  obtain ⟨hlen, ⟨hal, hnn⟩, ⟨hco, hpo⟩, hkp⟩ := hrel
  rw [etx] at hlen hal hco hpo
  rw [erB, erT] at hal
  rw [erT] at hnn
  rw [erI, erK] at hkp
  have btx := (hT.P (hT.k ttx (by decide)) (by decide)).1
  have btxl := btx.1
  have btxh := btx.2
  obtain ⟨nw, enw⟩ : ∃ z, kR κ x 3 = z := ⟨_, rfl⟩
  have tnw : zk σ0 nw 3 := by rw [← enw]; exact hT.kr (hT.ref (hT.k t_x (by decide)) (by decide) (by decide) (by decide)) (by decide) (by decide)
  obtain ⟨tr, etr⟩ : ∃ z, kR κ x 4 = z := ⟨_, rfl⟩
  have ttr : zk σ0 tr 3 := by rw [← etr]; exact hT.kr (hT.ref (hT.k t_x (by decide)) (by decide) (by decide) (by decide)) (by decide) (by decide)
  obtain ⟨rs5, ers5⟩ : ∃ z, kR κ x 5 = z := ⟨_, rfl⟩
  have trs5 : zk σ0 rs5 12 := by rw [← ers5]; exact hT.kr (hT.ref (hT.k t_x (by decide)) (by decide) (by decide) (by decide)) (by decide) (by decide)
  obtain ⟨sl0, esl0⟩ : ∃ z, kR κ rs5 0 = z := ⟨_, rfl⟩
  have tsl0 : zk σ0 sl0 3 := by rw [← esl0]; exact hT.kr (hT.ref (hT.k trs5 (by decide)) (by decide) (by decide) (by decide)) (by decide) (by decide)
  obtain ⟨sl1, esl1⟩ : ∃ z, kR κ rs5 1 = z := ⟨_, rfl⟩
  have tsl1 : zk σ0 sl1 3 := by rw [← esl1]; exact hT.kr (hT.ref (hT.k trs5 (by decide)) (by decide) (by decide) (by decide)) (by decide) (by decide)
  obtain ⟨rW, erW⟩ : ∃ z, kR κ mm 1 = z := ⟨_, rfl⟩
  have trW : zk σ0 rW 21 := by rw [← erW]; exact hT.kr (hT.ref (hT.k t_mm (by decide)) (by decide) (by decide) (by decide)) (by decide) (by decide)
  obtain ⟨rS, erS⟩ : ∃ z, kR κ mm 3 = z := ⟨_, rfl⟩
  have trS : zk σ0 rS 22 := by rw [← erS]; exact hT.kr (hT.ref (hT.k t_mm (by decide)) (by decide) (by decide) (by decide)) (by decide) (by decide)
  obtain ⟨hnw, hsl⟩ := hsr
  obtain ⟨hd1, ⟨hd2, hd3⟩, hd4, hd5⟩ := hdis
  have d_nt : nw ≠ tr := by rw [← enw, ← etr]; exact hd2
  have d_n0 : nw ≠ sl0 := by rw [← enw, ← esl0, ← ers5]; exact hd3 0 (by decide)
  have d_t0 : sl0 ≠ tr := by rw [← etr, ← esl0, ← ers5]; exact fun q => hd4 0 (by decide) q.symm
  have d_n1 : nw ≠ sl1 := by rw [← enw, ← esl1, ← ers5]; exact hd3 1 (by decide)
  have d_t1 : sl1 ≠ tr := by rw [← etr, ← esl1, ← ers5]; exact fun q => hd4 1 (by decide) q.symm
  have d_01 : sl0 ≠ sl1 := by rw [← esl0, ← esl1, ← ers5]; exact hd5
  have knw : zk σ nw 3 := hT.k tnw (by decide)
  have ksl0 : zk σ sl0 3 := hT.k tsl0 (by decide)
  have ksl1 : zk σ sl1 3 := hT.k tsl1 (by decide)
  refine lv_aload_n hx hb dL_law_652 rfl (lv_at hl 3 rfl) ?_
  have hTo := hT
  refine tVl (n := 0) (As := []) (rest := []) hx hb hml hown hg hT hK hX (X5_energy l κ σ x (hT.k t_x (by decide))) sub_fE_fA (mwV k492 k493 k494 k84 k495) ⟨rfl, by decide, by decide, by decide +kernel⟩ ⟨(Nat.le_of_ble_eq_true rfl), (Nat.le_of_ble_eq_true rfl)⟩ (hT.o7 (hT.k t_x (by decide))) rfl rfl hl.1 rfl (Nat.le_of_ble_eq_true rfl) dL_law_653 zx.dn (fun r2 s1 H locs hφ hE hT => ?_)
  have R3 := hR.ext hE ⟨rfl, rfl, fun _ => rfl, fun _ => rfl, fun _ => rfl, fun _ => rfl⟩
  have a4 : (zI s1 tx 1).toInt = (zI σ tx 1).toInt := by rw [(hTo.k ttx (by decide)).eI hE (by decide) rfl]
  have j5 : zI s1 rB = zI σ rB := (show zI s1 rB = zI σ rB from funext fun k => (hTo.k trB (by decide)).eI hE (by decide) rfl)
  have j6 : zI s1 rT = zI σ rT := (show zI s1 rT = zI σ rT from funext fun k => (hTo.k trT (by decide)).eI hE (by decide) rfl)
  have j7 : zI s1 rI = zI σ rI := (show zI s1 rI = zI σ rI from funext fun k => (hTo.k trI (by decide)).eI hE (by decide) rfl)
  have j8 : zI s1 rK = zI σ rK := (show zI s1 rK = zI σ rK from funext fun k => (hTo.k trK (by decide)).eI hE (by decide) rfl)
  have j9 : zI s1 tx 2 = zI σ tx 2 := (hTo.k ttx (by decide)).eI hE (by decide) rfl
  have j10 : zI s1 tx 3 = zI σ tx 3 := (hTo.k ttx (by decide)).eI hE (by decide) rfl
  have j11 : zI s1 mm 15 = zI σ mm 15 := (hTo.k t_mm (by decide)).eI hE (by decide) rfl
  have j12 : zI s1 mm 16 = zI σ mm 16 := (hTo.k t_mm (by decide)).eI hE (by decide) rfl
  have n13 : zI s1 nw 7 = zI σ nw 7 ∧ zI s1 nw 8 = zI σ nw 8 ∧ zI s1 nw 9 = zI σ nw 9 := ⟨(hTo.k tnw (by decide)).eI hE (by decide) rfl, (hTo.k tnw (by decide)).eI hE (by decide) rfl, (hTo.k tnw (by decide)).eI hE (by decide) rfl⟩
  have n14 : zI s1 sl0 7 = zI σ sl0 7 ∧ zI s1 sl0 8 = zI σ sl0 8 ∧ zI s1 sl0 9 = zI σ sl0 9 := ⟨(hTo.k tsl0 (by decide)).eI hE (by decide) rfl, (hTo.k tsl0 (by decide)).eI hE (by decide) rfl, (hTo.k tsl0 (by decide)).eI hE (by decide) rfl⟩
  have n15 : zI s1 sl1 7 = zI σ sl1 7 ∧ zI s1 sl1 8 = zI σ sl1 8 ∧ zI s1 sl1 9 = zI σ sl1 9 := ⟨(hTo.k tsl1 (by decide)).eI hE (by decide) rfl, (hTo.k tsl1 (by decide)).eI hE (by decide) rfl, (hTo.k tsl1 (by decide)).eI hE (by decide) rfl⟩
  have n16 : ∀ j : Nat, j < 3 → zJ s1 rW j = zJ σ rW j := fun j hj => (hTo.k trW (by decide)).eJ hE (by decide) rfl
  have n17 : zJ s1 rS = zJ σ rS := (show zJ s1 rS = zJ σ rS from funext fun k => (hTo.k trS (by decide)).eJ hE (by decide) rfl)
  have a18 : (zI s1 mm 13).toInt = (zI σ mm 13).toInt := by rw [(hTo.k t_mm (by decide)).eI hE (by decide) rfl]
  refine lv_pop2_2 hx hb dL_law_656 rfl ?_
  refine lv_aload_n hx hb dL_law_657 rfl (lv_at hl 2 rfl) ?_
  have hTo := hT
  refine tVl (n := 0) (As := []) (rest := []) hx hb hml hown hg hT hK hX (X6_energy l κ s1 mm (hT.k t_mm (by decide)) R3) sub_gR_fA (mwV k1494 k1495 k1496 k92 k1497) ⟨rfl, by decide, by decide, by decide +kernel⟩ ⟨(Nat.le_of_ble_eq_true rfl), (Nat.le_of_ble_eq_true rfl)⟩ (hT.o20 (hT.k t_mm (by decide))) rfl rfl hl.1 rfl (Nat.le_of_ble_eq_true rfl) dL_law_658 zx.dn (fun r20 s19 H locs hφ hE hT => ?_)
  have R21 := R3.ext hE ⟨rfl, rfl, fun _ => rfl, fun _ => rfl, fun _ => rfl, fun _ => rfl⟩
  have a22 : (zI s19 tx 1).toInt = (zI s1 tx 1).toInt := by rw [(hTo.k ttx (by decide)).eI hE (by decide) rfl]
  have j23 : zI s19 rB = zI σ rB := ((show zI s19 rB = zI s1 rB from funext fun k => (hTo.k trB (by decide)).eI hE (by decide) rfl)).trans j5
  have j24 : zI s19 rT = zI σ rT := ((show zI s19 rT = zI s1 rT from funext fun k => (hTo.k trT (by decide)).eI hE (by decide) rfl)).trans j6
  have j25 : zI s19 rI = zI σ rI := ((show zI s19 rI = zI s1 rI from funext fun k => (hTo.k trI (by decide)).eI hE (by decide) rfl)).trans j7
  have j26 : zI s19 rK = zI σ rK := ((show zI s19 rK = zI s1 rK from funext fun k => (hTo.k trK (by decide)).eI hE (by decide) rfl)).trans j8
  have j27 : zI s19 tx 2 = zI σ tx 2 := ((hTo.k ttx (by decide)).eI hE (by decide) rfl).trans j9
  have j28 : zI s19 tx 3 = zI σ tx 3 := ((hTo.k ttx (by decide)).eI hE (by decide) rfl).trans j10
  have j29 : zI s19 mm 15 = zI σ mm 15 := ((hTo.k t_mm (by decide)).eI hE (by decide) rfl).trans j11
  have j30 : zI s19 mm 16 = zI σ mm 16 := ((hTo.k t_mm (by decide)).eI hE (by decide) rfl).trans j12
  have n31 : zI s19 nw 7 = zI s1 nw 7 ∧ zI s19 nw 8 = zI s1 nw 8 ∧ zI s19 nw 9 = zI s1 nw 9 := ⟨(hTo.k tnw (by decide)).eI hE (by decide) rfl, (hTo.k tnw (by decide)).eI hE (by decide) rfl, (hTo.k tnw (by decide)).eI hE (by decide) rfl⟩
  have n32 : zI s19 nw 7 = zI σ nw 7 ∧ zI s19 nw 8 = zI σ nw 8 ∧ zI s19 nw 9 = zI σ nw 9 := ⟨n31.1.trans n13.1, n31.2.1.trans n13.2.1, n31.2.2.trans n13.2.2⟩
  have n33 : zI s19 sl0 7 = zI s1 sl0 7 ∧ zI s19 sl0 8 = zI s1 sl0 8 ∧ zI s19 sl0 9 = zI s1 sl0 9 := ⟨(hTo.k tsl0 (by decide)).eI hE (by decide) rfl, (hTo.k tsl0 (by decide)).eI hE (by decide) rfl, (hTo.k tsl0 (by decide)).eI hE (by decide) rfl⟩
  have n34 : zI s19 sl0 7 = zI σ sl0 7 ∧ zI s19 sl0 8 = zI σ sl0 8 ∧ zI s19 sl0 9 = zI σ sl0 9 := ⟨n33.1.trans n14.1, n33.2.1.trans n14.2.1, n33.2.2.trans n14.2.2⟩
  have n35 : zI s19 sl1 7 = zI s1 sl1 7 ∧ zI s19 sl1 8 = zI s1 sl1 8 ∧ zI s19 sl1 9 = zI s1 sl1 9 := ⟨(hTo.k tsl1 (by decide)).eI hE (by decide) rfl, (hTo.k tsl1 (by decide)).eI hE (by decide) rfl, (hTo.k tsl1 (by decide)).eI hE (by decide) rfl⟩
  have n36 : zI s19 sl1 7 = zI σ sl1 7 ∧ zI s19 sl1 8 = zI σ sl1 8 ∧ zI s19 sl1 9 = zI σ sl1 9 := ⟨n35.1.trans n15.1, n35.2.1.trans n15.2.1, n35.2.2.trans n15.2.2⟩
  have n37 : ∀ j : Nat, j < 3 → zJ s19 rW j = zJ s1 rW j := fun j hj => (hTo.k trW (by decide)).eJ hE (by decide) rfl
  have n38 : ∀ j : Nat, j < 3 → zJ s19 rW j = zJ σ rW j := fun j hj => (n37 j hj).trans (n16 j hj)
  have n39 : zJ s19 rS = zJ σ rS := (show zJ s19 rS = zJ s1 rS from funext fun k => (hTo.k trS (by decide)).eJ hE (by decide) rfl).trans n17
  have a40 : (zI s19 mm 13).toInt = (zI s1 mm 13).toInt := by rw [(hTo.k t_mm (by decide)).eI hE (by decide) rfl]
  refine lv_pop2_2 hx hb dL_law_661 rfl ?_
  refine lv_goto (tgt := 1404) hx hb dL_law_662 (by decide) ?_
  have sl0f : zI s19 rI 0 ≠ 0 → SLT κ s19 x mm 0 := fun hq => (hsl 0 (by decide) (fun q9 => hq (by rw [erI] at q9; rw [j25]; exact q9))).tr (by rw [ers5, esl0]; exact n34) (fun j hj => by rw [erS, n39])
  have sl1f : zI s19 rI 1 ≠ 0 → SLT κ s19 x mm 1 := fun hq => (hsl 1 (by decide) (fun q9 => hq (by rw [erI] at q9; rw [j25]; exact q9))).tr (by rw [ers5, esl1]; exact n36) (fun j hj => by rw [erS, n39])
  exact KK s19 _ _ _ hT.up R21 ⟨by rw [etx]; omega, ⟨by rw [etx, erB, erT, j23, j24]; exact tal_less hal (by omega), by rw [erT, j24]; exact tnn_less hnn (by omega)⟩, ⟨by rw [etx, j27, j29]; exact hco, by rw [etx, j28, j30]; exact hpo⟩, fun i hi => by rw [erI, erK, j25, j26]; exact hkp i hi⟩ (⟨hnw.tr (by rw [enw]; exact n32) (by rw [erW]; exact n38), fun i hi => (show i = 0 ∨ i = 1 by omega).elim (fun e9 => by rw [e9, erI]; exact sl0f) (fun e9 => by rw [e9, erI]; exact sl1f)⟩) (lv_sub hl [0, 1, 2, 3, 4] rfl)
set_option maxHeartbeats 4000000 in
set_option maxRecDepth 100000 in
theorem lc_16 (l : Launch) (κ : Kt) (σ0 : Gh) (x mm out b : Nat) (t_x : zk σ0 x 7) (t_mm : zk σ0 mm 20) (t_out : zk σ0 out 24) (ttx0 : zk σ0 (kR κ x 0) 6) (hdis : DIS κ x) (hlt : l.stackTraces = false) {p : Program} {e : Env} {s : State} {m : MethodId} {below : List Frame} {meth : Method} {c : Code} {L : Nat} {xs : Nat → Int32} {i : Int32} {Q9 : State → Prop} (hx : p.tables.exec = Jvm.exec) (hb : c.code = cL_law) (hml : c.maxLocals = 9) (hown : s.vm.findClass RL = some m.cls) (hg : ∀ w ∈ GW, w.before #[Value.ref b] s = true) (hK : va_K κ.1 vwCl (kTy κ) s) (hX : XY κ (tA σ0 s.heap.size) s s.heap) (hXs : va_X b L xs s s.heap) (hbl : b < s.heap.size) (hbA : ¬ tA σ0 s.heap.size b) (zx : zroomX κ s room_1 601024 7293034) (hi0 : 0 ≤ i.toInt) (hi1 : i.toInt + 6 ≤ L) (hL9 : L ≤ 3072) {σ : Gh} {H : Heap} {locs : List Loc} {ls : Array Slot} (hT : TS κ fA σ0 σ s H locs) (hR : RI κ σ mm) (hrel : LREL κ σ x mm) (hsr : SREL κ σ x mm) (hl : lv_has ls 9 [(4, .int i), (3, .ref out), (2, .ref mm), (1, .ref x), (0, .ref b)]) (KK : ∀ (σ1 : Gh) (H : Heap) (locs : List Loc) (ls : Array Slot), TS (kX κ) fA σ0 σ1 s H locs → RI (kX κ) σ1 mm → LREL κ σ1 x mm → SREL κ σ1 x mm → lv_has ls 9 [(4, .int i), (3, .ref out), (2, .ref mm), (1, .ref x), (0, .ref b)] → W p l e room_1 s m #[Value.ref b] below meth c H locs 601024 7293034 Q9 (F0 m 1404 ls [])) : W p l e room_1 s m #[Value.ref b] below meth c H locs 601024 7293034 Q9 (F0 m 665 ls []) := by
  obtain ⟨y1, hy1⟩ : ∃ z, z = xs (ix i + 1) := ⟨_, rfl⟩
  obtain ⟨y2, hy2⟩ : ∃ z, z = xs (ix i + 2) := ⟨_, rfl⟩
  obtain ⟨y3, hy3⟩ : ∃ z, z = xs (ix i + 3) := ⟨_, rfl⟩
  obtain ⟨y4, hy4⟩ : ∃ z, z = xs (ix i + 4) := ⟨_, rfl⟩
  obtain ⟨y5, hy5⟩ : ∃ z, z = xs (ix i + 5) := ⟨_, rfl⟩
  have n0 : (0 : Int32).toInt = 0 := by decide
  have n1 : (1 : Int32).toInt = 1 := by decide
  have n2 : (2 : Int32).toInt = 2 := by decide
  have n3 : (3 : Int32).toInt = 3 := by decide
  have n4 : (4 : Int32).toInt = 4 := by decide
  have n5 : (5 : Int32).toInt = 5 := by decide
  obtain ⟨tx, etx⟩ : ∃ z, kR κ x 0 = z := ⟨_, rfl⟩
  have ttx : zk σ0 tx 6 := by rw [← etx]; exact ttx0
  obtain ⟨rB, erB⟩ : ∃ z, kR κ tx 0 = z := ⟨_, rfl⟩
  have trB : zk σ0 rB 14 := by rw [← erB]; exact hT.kr (hT.ref (hT.k ttx (by decide)) (by decide) (by decide) (by decide)) (by decide) (by decide)
  obtain ⟨rT, erT⟩ : ∃ z, kR κ mm 12 = z := ⟨_, rfl⟩
  have trT : zk σ0 rT 23 := by rw [← erT]; exact hT.kr (hT.ref (hT.k t_mm (by decide)) (by decide) (by decide) (by decide)) (by decide) (by decide)
  obtain ⟨rI, erI⟩ : ∃ z, kR κ x 6 = z := ⟨_, rfl⟩
  have trI : zk σ0 rI 13 := by rw [← erI]; exact hT.kr (hT.ref (hT.k t_x (by decide)) (by decide) (by decide) (by decide)) (by decide) (by decide)
  obtain ⟨rK, erK⟩ : ∃ z, kR κ mm 4 = z := ⟨_, rfl⟩
  have trK : zk σ0 rK 29 := by rw [← erK]; exact hT.kr (hT.ref (hT.k t_mm (by decide)) (by decide) (by decide) (by decide)) (by decide) (by decide)
  obtain ⟨hlen, ⟨hal, hnn⟩, ⟨hco, hpo⟩, hkp⟩ := hrel
  rw [etx] at hlen hal hco hpo
  rw [erB, erT] at hal
  rw [erT] at hnn
  rw [erI, erK] at hkp
  have btx := (hT.P (hT.k ttx (by decide)) (by decide)).1
  have btxl := btx.1
  have btxh := btx.2
  obtain ⟨nw, enw⟩ : ∃ z, kR κ x 3 = z := ⟨_, rfl⟩
  have tnw : zk σ0 nw 3 := by rw [← enw]; exact hT.kr (hT.ref (hT.k t_x (by decide)) (by decide) (by decide) (by decide)) (by decide) (by decide)
  obtain ⟨tr, etr⟩ : ∃ z, kR κ x 4 = z := ⟨_, rfl⟩
  have ttr : zk σ0 tr 3 := by rw [← etr]; exact hT.kr (hT.ref (hT.k t_x (by decide)) (by decide) (by decide) (by decide)) (by decide) (by decide)
  obtain ⟨rs5, ers5⟩ : ∃ z, kR κ x 5 = z := ⟨_, rfl⟩
  have trs5 : zk σ0 rs5 12 := by rw [← ers5]; exact hT.kr (hT.ref (hT.k t_x (by decide)) (by decide) (by decide) (by decide)) (by decide) (by decide)
  obtain ⟨sl0, esl0⟩ : ∃ z, kR κ rs5 0 = z := ⟨_, rfl⟩
  have tsl0 : zk σ0 sl0 3 := by rw [← esl0]; exact hT.kr (hT.ref (hT.k trs5 (by decide)) (by decide) (by decide) (by decide)) (by decide) (by decide)
  obtain ⟨sl1, esl1⟩ : ∃ z, kR κ rs5 1 = z := ⟨_, rfl⟩
  have tsl1 : zk σ0 sl1 3 := by rw [← esl1]; exact hT.kr (hT.ref (hT.k trs5 (by decide)) (by decide) (by decide) (by decide)) (by decide) (by decide)
  obtain ⟨rW, erW⟩ : ∃ z, kR κ mm 1 = z := ⟨_, rfl⟩
  have trW : zk σ0 rW 21 := by rw [← erW]; exact hT.kr (hT.ref (hT.k t_mm (by decide)) (by decide) (by decide) (by decide)) (by decide) (by decide)
  obtain ⟨rS, erS⟩ : ∃ z, kR κ mm 3 = z := ⟨_, rfl⟩
  have trS : zk σ0 rS 22 := by rw [← erS]; exact hT.kr (hT.ref (hT.k t_mm (by decide)) (by decide) (by decide) (by decide)) (by decide) (by decide)
  obtain ⟨hnw, hsl⟩ := hsr
  obtain ⟨hd1, ⟨hd2, hd3⟩, hd4, hd5⟩ := hdis
  have d_nt : nw ≠ tr := by rw [← enw, ← etr]; exact hd2
  have d_n0 : nw ≠ sl0 := by rw [← enw, ← esl0, ← ers5]; exact hd3 0 (by decide)
  have d_t0 : sl0 ≠ tr := by rw [← etr, ← esl0, ← ers5]; exact fun q => hd4 0 (by decide) q.symm
  have d_n1 : nw ≠ sl1 := by rw [← enw, ← esl1, ← ers5]; exact hd3 1 (by decide)
  have d_t1 : sl1 ≠ tr := by rw [← etr, ← esl1, ← ers5]; exact fun q => hd4 1 (by decide) q.symm
  have d_01 : sl0 ≠ sl1 := by rw [← esl0, ← esl1, ← ers5]; exact hd5
  have knw : zk σ nw 3 := hT.k tnw (by decide)
  have ksl0 : zk σ sl0 3 := hT.k tsl0 (by decide)
  have ksl1 : zk σ sl1 3 := hT.k tsl1 (by decide)
  refine lv_aload_n hx hb dL_law_665 rfl (lv_at hl 3 rfl) ?_
  have hTo := hT
  refine tVi (n := 0) (As := []) (rest := []) hx hb hml hown hg hT hK hX (X5_bits l κ σ x (hT.k t_x (by decide))) sub_fE_fA (mwV k501 k502 k503 k84 k504) ⟨rfl, by decide, by decide, by decide +kernel⟩ ⟨(Nat.le_of_ble_eq_true rfl), (Nat.le_of_ble_eq_true rfl)⟩ (hT.o7 (hT.k t_x (by decide))) rfl rfl hl.1 rfl (Nat.le_of_ble_eq_true rfl) dL_law_666 zx.dn (fun r2 s1 H locs hφ hE hT => ?_)
  have R3 := hR.ext hE ⟨rfl, rfl, fun _ => rfl, fun _ => rfl, fun _ => rfl, fun _ => rfl⟩
  have a4 : (zI s1 tx 1).toInt = (zI σ tx 1).toInt := by rw [(hTo.k ttx (by decide)).eI hE (by decide) rfl]
  have j5 : zI s1 rB = zI σ rB := (show zI s1 rB = zI σ rB from funext fun k => (hTo.k trB (by decide)).eI hE (by decide) rfl)
  have j6 : zI s1 rT = zI σ rT := (show zI s1 rT = zI σ rT from funext fun k => (hTo.k trT (by decide)).eI hE (by decide) rfl)
  have j7 : zI s1 rI = zI σ rI := (show zI s1 rI = zI σ rI from funext fun k => (hTo.k trI (by decide)).eI hE (by decide) rfl)
  have j8 : zI s1 rK = zI σ rK := (show zI s1 rK = zI σ rK from funext fun k => (hTo.k trK (by decide)).eI hE (by decide) rfl)
  have j9 : zI s1 tx 2 = zI σ tx 2 := (hTo.k ttx (by decide)).eI hE (by decide) rfl
  have j10 : zI s1 tx 3 = zI σ tx 3 := (hTo.k ttx (by decide)).eI hE (by decide) rfl
  have j11 : zI s1 mm 15 = zI σ mm 15 := (hTo.k t_mm (by decide)).eI hE (by decide) rfl
  have j12 : zI s1 mm 16 = zI σ mm 16 := (hTo.k t_mm (by decide)).eI hE (by decide) rfl
  have n13 : zI s1 nw 7 = zI σ nw 7 ∧ zI s1 nw 8 = zI σ nw 8 ∧ zI s1 nw 9 = zI σ nw 9 := ⟨(hTo.k tnw (by decide)).eI hE (by decide) rfl, (hTo.k tnw (by decide)).eI hE (by decide) rfl, (hTo.k tnw (by decide)).eI hE (by decide) rfl⟩
  have n14 : zI s1 sl0 7 = zI σ sl0 7 ∧ zI s1 sl0 8 = zI σ sl0 8 ∧ zI s1 sl0 9 = zI σ sl0 9 := ⟨(hTo.k tsl0 (by decide)).eI hE (by decide) rfl, (hTo.k tsl0 (by decide)).eI hE (by decide) rfl, (hTo.k tsl0 (by decide)).eI hE (by decide) rfl⟩
  have n15 : zI s1 sl1 7 = zI σ sl1 7 ∧ zI s1 sl1 8 = zI σ sl1 8 ∧ zI s1 sl1 9 = zI σ sl1 9 := ⟨(hTo.k tsl1 (by decide)).eI hE (by decide) rfl, (hTo.k tsl1 (by decide)).eI hE (by decide) rfl, (hTo.k tsl1 (by decide)).eI hE (by decide) rfl⟩
  have n16 : ∀ j : Nat, j < 3 → zJ s1 rW j = zJ σ rW j := fun j hj => (hTo.k trW (by decide)).eJ hE (by decide) rfl
  have n17 : zJ s1 rS = zJ σ rS := (show zJ s1 rS = zJ σ rS from funext fun k => (hTo.k trS (by decide)).eJ hE (by decide) rfl)
  have a18 : (zI s1 mm 13).toInt = (zI σ mm 13).toInt := by rw [(hTo.k t_mm (by decide)).eI hE (by decide) rfl]
  refine lv_pop hx hb dL_law_669 rfl ?_
  refine lv_aload_n hx hb dL_law_670 rfl (lv_at hl 2 rfl) ?_
  have hTo := hT
  refine tVi (n := 0) (As := []) (rest := []) hx hb hml hown hg hT hK hX (X6_bits l κ s1 mm (hT.k t_mm (by decide)) R3) sub_gR_fA (mwV k1498 k1499 k1500 k92 k1501) ⟨rfl, by decide, by decide, by decide +kernel⟩ ⟨(Nat.le_of_ble_eq_true rfl), (Nat.le_of_ble_eq_true rfl)⟩ (hT.o20 (hT.k t_mm (by decide))) rfl rfl hl.1 rfl (Nat.le_of_ble_eq_true rfl) dL_law_671 zx.dn (fun r20 s19 H locs hφ hE hT => ?_)
  have R21 := R3.ext hE ⟨rfl, rfl, fun _ => rfl, fun _ => rfl, fun _ => rfl, fun _ => rfl⟩
  have a22 : (zI s19 tx 1).toInt = (zI s1 tx 1).toInt := by rw [(hTo.k ttx (by decide)).eI hE (by decide) rfl]
  have j23 : zI s19 rB = zI σ rB := ((show zI s19 rB = zI s1 rB from funext fun k => (hTo.k trB (by decide)).eI hE (by decide) rfl)).trans j5
  have j24 : zI s19 rT = zI σ rT := ((show zI s19 rT = zI s1 rT from funext fun k => (hTo.k trT (by decide)).eI hE (by decide) rfl)).trans j6
  have j25 : zI s19 rI = zI σ rI := ((show zI s19 rI = zI s1 rI from funext fun k => (hTo.k trI (by decide)).eI hE (by decide) rfl)).trans j7
  have j26 : zI s19 rK = zI σ rK := ((show zI s19 rK = zI s1 rK from funext fun k => (hTo.k trK (by decide)).eI hE (by decide) rfl)).trans j8
  have j27 : zI s19 tx 2 = zI σ tx 2 := ((hTo.k ttx (by decide)).eI hE (by decide) rfl).trans j9
  have j28 : zI s19 tx 3 = zI σ tx 3 := ((hTo.k ttx (by decide)).eI hE (by decide) rfl).trans j10
  have j29 : zI s19 mm 15 = zI σ mm 15 := ((hTo.k t_mm (by decide)).eI hE (by decide) rfl).trans j11
  have j30 : zI s19 mm 16 = zI σ mm 16 := ((hTo.k t_mm (by decide)).eI hE (by decide) rfl).trans j12
  have n31 : zI s19 nw 7 = zI s1 nw 7 ∧ zI s19 nw 8 = zI s1 nw 8 ∧ zI s19 nw 9 = zI s1 nw 9 := ⟨(hTo.k tnw (by decide)).eI hE (by decide) rfl, (hTo.k tnw (by decide)).eI hE (by decide) rfl, (hTo.k tnw (by decide)).eI hE (by decide) rfl⟩
  have n32 : zI s19 nw 7 = zI σ nw 7 ∧ zI s19 nw 8 = zI σ nw 8 ∧ zI s19 nw 9 = zI σ nw 9 := ⟨n31.1.trans n13.1, n31.2.1.trans n13.2.1, n31.2.2.trans n13.2.2⟩
  have n33 : zI s19 sl0 7 = zI s1 sl0 7 ∧ zI s19 sl0 8 = zI s1 sl0 8 ∧ zI s19 sl0 9 = zI s1 sl0 9 := ⟨(hTo.k tsl0 (by decide)).eI hE (by decide) rfl, (hTo.k tsl0 (by decide)).eI hE (by decide) rfl, (hTo.k tsl0 (by decide)).eI hE (by decide) rfl⟩
  have n34 : zI s19 sl0 7 = zI σ sl0 7 ∧ zI s19 sl0 8 = zI σ sl0 8 ∧ zI s19 sl0 9 = zI σ sl0 9 := ⟨n33.1.trans n14.1, n33.2.1.trans n14.2.1, n33.2.2.trans n14.2.2⟩
  have n35 : zI s19 sl1 7 = zI s1 sl1 7 ∧ zI s19 sl1 8 = zI s1 sl1 8 ∧ zI s19 sl1 9 = zI s1 sl1 9 := ⟨(hTo.k tsl1 (by decide)).eI hE (by decide) rfl, (hTo.k tsl1 (by decide)).eI hE (by decide) rfl, (hTo.k tsl1 (by decide)).eI hE (by decide) rfl⟩
  have n36 : zI s19 sl1 7 = zI σ sl1 7 ∧ zI s19 sl1 8 = zI σ sl1 8 ∧ zI s19 sl1 9 = zI σ sl1 9 := ⟨n35.1.trans n15.1, n35.2.1.trans n15.2.1, n35.2.2.trans n15.2.2⟩
  have n37 : ∀ j : Nat, j < 3 → zJ s19 rW j = zJ s1 rW j := fun j hj => (hTo.k trW (by decide)).eJ hE (by decide) rfl
  have n38 : ∀ j : Nat, j < 3 → zJ s19 rW j = zJ σ rW j := fun j hj => (n37 j hj).trans (n16 j hj)
  have n39 : zJ s19 rS = zJ σ rS := (show zJ s19 rS = zJ s1 rS from funext fun k => (hTo.k trS (by decide)).eJ hE (by decide) rfl).trans n17
  have a40 : (zI s19 mm 13).toInt = (zI s1 mm 13).toInt := by rw [(hTo.k t_mm (by decide)).eI hE (by decide) rfl]
  refine lv_pop hx hb dL_law_674 rfl ?_
  refine lv_goto (tgt := 1404) hx hb dL_law_675 (by decide) ?_
  have sl0f : zI s19 rI 0 ≠ 0 → SLT κ s19 x mm 0 := fun hq => (hsl 0 (by decide) (fun q9 => hq (by rw [erI] at q9; rw [j25]; exact q9))).tr (by rw [ers5, esl0]; exact n34) (fun j hj => by rw [erS, n39])
  have sl1f : zI s19 rI 1 ≠ 0 → SLT κ s19 x mm 1 := fun hq => (hsl 1 (by decide) (fun q9 => hq (by rw [erI] at q9; rw [j25]; exact q9))).tr (by rw [ers5, esl1]; exact n36) (fun j hj => by rw [erS, n39])
  exact KK s19 _ _ _ hT.up R21 ⟨by rw [etx]; omega, ⟨by rw [etx, erB, erT, j23, j24]; exact tal_less hal (by omega), by rw [erT, j24]; exact tnn_less hnn (by omega)⟩, ⟨by rw [etx, j27, j29]; exact hco, by rw [etx, j28, j30]; exact hpo⟩, fun i hi => by rw [erI, erK, j25, j26]; exact hkp i hi⟩ (⟨hnw.tr (by rw [enw]; exact n32) (by rw [erW]; exact n38), fun i hi => (show i = 0 ∨ i = 1 by omega).elim (fun e9 => by rw [e9, erI]; exact sl0f) (fun e9 => by rw [e9, erI]; exact sl1f)⟩) (lv_sub hl [0, 1, 2, 3, 4] rfl)
set_option maxHeartbeats 4000000 in
set_option maxRecDepth 100000 in
theorem lc_17 (l : Launch) (κ : Kt) (σ0 : Gh) (x mm out b : Nat) (t_x : zk σ0 x 7) (t_mm : zk σ0 mm 20) (t_out : zk σ0 out 24) (ttx0 : zk σ0 (kR κ x 0) 6) (hdis : DIS κ x) (hlt : l.stackTraces = false) {p : Program} {e : Env} {s : State} {m : MethodId} {below : List Frame} {meth : Method} {c : Code} {L : Nat} {xs : Nat → Int32} {i : Int32} {Q9 : State → Prop} (hx : p.tables.exec = Jvm.exec) (hb : c.code = cL_law) (hml : c.maxLocals = 9) (hown : s.vm.findClass RL = some m.cls) (hg : ∀ w ∈ GW, w.before #[Value.ref b] s = true) (hK : va_K κ.1 vwCl (kTy κ) s) (hX : XY κ (tA σ0 s.heap.size) s s.heap) (hXs : va_X b L xs s s.heap) (hbl : b < s.heap.size) (hbA : ¬ tA σ0 s.heap.size b) (zx : zroomX κ s room_1 601024 7293034) (hi0 : 0 ≤ i.toInt) (hi1 : i.toInt + 6 ≤ L) (hL9 : L ≤ 3072) {σ : Gh} {H : Heap} {locs : List Loc} {ls : Array Slot} (hT : TS κ fA σ0 σ s H locs) (hR : RI κ σ mm) (hrel : LREL κ σ x mm) (hsr : SREL κ σ x mm) (hl : lv_has ls 9 [(4, .int i), (3, .ref out), (2, .ref mm), (1, .ref x), (0, .ref b)]) (KK : ∀ (σ1 : Gh) (H : Heap) (locs : List Loc) (ls : Array Slot), TS (kX κ) fA σ0 σ1 s H locs → RI (kX κ) σ1 mm → LREL κ σ1 x mm → SREL κ σ1 x mm → lv_has ls 9 [(4, .int i), (3, .ref out), (2, .ref mm), (1, .ref x), (0, .ref b)] → W p l e room_1 s m #[Value.ref b] below meth c H locs 601024 7293034 Q9 (F0 m 1404 ls [])) : W p l e room_1 s m #[Value.ref b] below meth c H locs 601024 7293034 Q9 (F0 m 678 ls []) := by
  obtain ⟨y1, hy1⟩ : ∃ z, z = xs (ix i + 1) := ⟨_, rfl⟩
  obtain ⟨y2, hy2⟩ : ∃ z, z = xs (ix i + 2) := ⟨_, rfl⟩
  obtain ⟨y3, hy3⟩ : ∃ z, z = xs (ix i + 3) := ⟨_, rfl⟩
  obtain ⟨y4, hy4⟩ : ∃ z, z = xs (ix i + 4) := ⟨_, rfl⟩
  obtain ⟨y5, hy5⟩ : ∃ z, z = xs (ix i + 5) := ⟨_, rfl⟩
  have n0 : (0 : Int32).toInt = 0 := by decide
  have n1 : (1 : Int32).toInt = 1 := by decide
  have n2 : (2 : Int32).toInt = 2 := by decide
  have n3 : (3 : Int32).toInt = 3 := by decide
  have n4 : (4 : Int32).toInt = 4 := by decide
  have n5 : (5 : Int32).toInt = 5 := by decide
  obtain ⟨tx, etx⟩ : ∃ z, kR κ x 0 = z := ⟨_, rfl⟩
  have ttx : zk σ0 tx 6 := by rw [← etx]; exact ttx0
  obtain ⟨rB, erB⟩ : ∃ z, kR κ tx 0 = z := ⟨_, rfl⟩
  have trB : zk σ0 rB 14 := by rw [← erB]; exact hT.kr (hT.ref (hT.k ttx (by decide)) (by decide) (by decide) (by decide)) (by decide) (by decide)
  obtain ⟨rT, erT⟩ : ∃ z, kR κ mm 12 = z := ⟨_, rfl⟩
  have trT : zk σ0 rT 23 := by rw [← erT]; exact hT.kr (hT.ref (hT.k t_mm (by decide)) (by decide) (by decide) (by decide)) (by decide) (by decide)
  obtain ⟨rI, erI⟩ : ∃ z, kR κ x 6 = z := ⟨_, rfl⟩
  have trI : zk σ0 rI 13 := by rw [← erI]; exact hT.kr (hT.ref (hT.k t_x (by decide)) (by decide) (by decide) (by decide)) (by decide) (by decide)
  obtain ⟨rK, erK⟩ : ∃ z, kR κ mm 4 = z := ⟨_, rfl⟩
  have trK : zk σ0 rK 29 := by rw [← erK]; exact hT.kr (hT.ref (hT.k t_mm (by decide)) (by decide) (by decide) (by decide)) (by decide) (by decide)
  obtain ⟨hlen, ⟨hal, hnn⟩, ⟨hco, hpo⟩, hkp⟩ := hrel
  rw [etx] at hlen hal hco hpo
  rw [erB, erT] at hal
  rw [erT] at hnn
  rw [erI, erK] at hkp
  have btx := (hT.P (hT.k ttx (by decide)) (by decide)).1
  have btxl := btx.1
  have btxh := btx.2
  obtain ⟨nw, enw⟩ : ∃ z, kR κ x 3 = z := ⟨_, rfl⟩
  have tnw : zk σ0 nw 3 := by rw [← enw]; exact hT.kr (hT.ref (hT.k t_x (by decide)) (by decide) (by decide) (by decide)) (by decide) (by decide)
  obtain ⟨tr, etr⟩ : ∃ z, kR κ x 4 = z := ⟨_, rfl⟩
  have ttr : zk σ0 tr 3 := by rw [← etr]; exact hT.kr (hT.ref (hT.k t_x (by decide)) (by decide) (by decide) (by decide)) (by decide) (by decide)
  obtain ⟨rs5, ers5⟩ : ∃ z, kR κ x 5 = z := ⟨_, rfl⟩
  have trs5 : zk σ0 rs5 12 := by rw [← ers5]; exact hT.kr (hT.ref (hT.k t_x (by decide)) (by decide) (by decide) (by decide)) (by decide) (by decide)
  obtain ⟨sl0, esl0⟩ : ∃ z, kR κ rs5 0 = z := ⟨_, rfl⟩
  have tsl0 : zk σ0 sl0 3 := by rw [← esl0]; exact hT.kr (hT.ref (hT.k trs5 (by decide)) (by decide) (by decide) (by decide)) (by decide) (by decide)
  obtain ⟨sl1, esl1⟩ : ∃ z, kR κ rs5 1 = z := ⟨_, rfl⟩
  have tsl1 : zk σ0 sl1 3 := by rw [← esl1]; exact hT.kr (hT.ref (hT.k trs5 (by decide)) (by decide) (by decide) (by decide)) (by decide) (by decide)
  obtain ⟨rW, erW⟩ : ∃ z, kR κ mm 1 = z := ⟨_, rfl⟩
  have trW : zk σ0 rW 21 := by rw [← erW]; exact hT.kr (hT.ref (hT.k t_mm (by decide)) (by decide) (by decide) (by decide)) (by decide) (by decide)
  obtain ⟨rS, erS⟩ : ∃ z, kR κ mm 3 = z := ⟨_, rfl⟩
  have trS : zk σ0 rS 22 := by rw [← erS]; exact hT.kr (hT.ref (hT.k t_mm (by decide)) (by decide) (by decide) (by decide)) (by decide) (by decide)
  obtain ⟨hnw, hsl⟩ := hsr
  obtain ⟨hd1, ⟨hd2, hd3⟩, hd4, hd5⟩ := hdis
  have d_nt : nw ≠ tr := by rw [← enw, ← etr]; exact hd2
  have d_n0 : nw ≠ sl0 := by rw [← enw, ← esl0, ← ers5]; exact hd3 0 (by decide)
  have d_t0 : sl0 ≠ tr := by rw [← etr, ← esl0, ← ers5]; exact fun q => hd4 0 (by decide) q.symm
  have d_n1 : nw ≠ sl1 := by rw [← enw, ← esl1, ← ers5]; exact hd3 1 (by decide)
  have d_t1 : sl1 ≠ tr := by rw [← etr, ← esl1, ← ers5]; exact fun q => hd4 1 (by decide) q.symm
  have d_01 : sl0 ≠ sl1 := by rw [← esl0, ← esl1, ← ers5]; exact hd5
  have knw : zk σ nw 3 := hT.k tnw (by decide)
  have ksl0 : zk σ sl0 3 := hT.k tsl0 (by decide)
  have ksl1 : zk σ sl1 3 := hT.k tsl1 (by decide)
  refine lv_aload_n hx hb dL_law_678 rfl (lv_at hl 3 rfl) ?_
  refine lv_aload_n hx hb dL_law_679 rfl (lv_at hl 4 rfl) ?_
  refine lv_iload hx hb dL_law_680 (lv_at hl 0 rfl) ?_
  refine lv_iconst (v := 1) hx hb dL_law_682 (by decide) ?_
  refine lv_iadd hx hb dL_law_683 ?_
  refine g_add (by omega) (by omega) (fun t1 ht1 => ?_)
  refine va_sld hx hb hXs hbl hbA hT.2.2.2 (g_in (by omega) (by omega)) dL_law_684 ?_
  refine ti y1 (by rw [hy1]; exact congrArg xs (show t1.toNatClampNeg = ix i + 1 from by show t1.toInt.toNat = ix i + 1; unfold ix; omega)) ?_
  refine lv_aload_n hx hb dL_law_685 rfl (lv_at hl 1 rfl) ?_
  have hTo := hT
  refine tHi (n := 3) (As := [.ref x, .int y1, .ref out]) (rest := []) hx hb hml hown hg hT hK hX (L_largest l κ σ x y1 out (hT.k t_x (by decide)) (hT.k t_out (by decide)) hlt) sub_hfE_fA (mwHS k927 k928 k83 k929) ⟨by decide, by decide, by decide +kernel⟩ ⟨(Nat.le_of_ble_eq_true rfl), (Nat.le_of_ble_eq_true rfl)⟩ rfl hl.1 rfl (Nat.le_of_ble_eq_true rfl) dL_law_686 zx (fun r3 s2 H locs hφ hE hT => ?_)
  have R4 := hR.ext hE ⟨rfl, rfl, fun _ => rfl, fun _ => rfl, fun _ => rfl, fun _ => rfl⟩
  have a5 : (zI s2 tx 1).toInt = (zI σ tx 1).toInt := by rw [(hTo.k ttx (by decide)).eI hE (by decide) rfl]
  have j6 : zI s2 rB = zI σ rB := (show zI s2 rB = zI σ rB from funext fun k => (hTo.k trB (by decide)).eI hE (by decide) rfl)
  have j7 : zI s2 rT = zI σ rT := (show zI s2 rT = zI σ rT from funext fun k => (hTo.k trT (by decide)).eI hE (by decide) rfl)
  have j8 : zI s2 rI = zI σ rI := (show zI s2 rI = zI σ rI from funext fun k => (hTo.k trI (by decide)).eI hE (by decide) rfl)
  have j9 : zI s2 rK = zI σ rK := (show zI s2 rK = zI σ rK from funext fun k => (hTo.k trK (by decide)).eI hE (by decide) rfl)
  have j10 : zI s2 tx 2 = zI σ tx 2 := (hTo.k ttx (by decide)).eI hE (by decide) rfl
  have j11 : zI s2 tx 3 = zI σ tx 3 := (hTo.k ttx (by decide)).eI hE (by decide) rfl
  have j12 : zI s2 mm 15 = zI σ mm 15 := (hTo.k t_mm (by decide)).eI hE (by decide) rfl
  have j13 : zI s2 mm 16 = zI σ mm 16 := (hTo.k t_mm (by decide)).eI hE (by decide) rfl
  have n14 : zI s2 nw 7 = zI σ nw 7 ∧ zI s2 nw 8 = zI σ nw 8 ∧ zI s2 nw 9 = zI σ nw 9 := ⟨(hTo.k tnw (by decide)).eI hE (by decide) rfl, (hTo.k tnw (by decide)).eI hE (by decide) rfl, (hTo.k tnw (by decide)).eI hE (by decide) rfl⟩
  have n15 : zI s2 sl0 7 = zI σ sl0 7 ∧ zI s2 sl0 8 = zI σ sl0 8 ∧ zI s2 sl0 9 = zI σ sl0 9 := ⟨(hTo.k tsl0 (by decide)).eI hE (by decide) rfl, (hTo.k tsl0 (by decide)).eI hE (by decide) rfl, (hTo.k tsl0 (by decide)).eI hE (by decide) rfl⟩
  have n16 : zI s2 sl1 7 = zI σ sl1 7 ∧ zI s2 sl1 8 = zI σ sl1 8 ∧ zI s2 sl1 9 = zI σ sl1 9 := ⟨(hTo.k tsl1 (by decide)).eI hE (by decide) rfl, (hTo.k tsl1 (by decide)).eI hE (by decide) rfl, (hTo.k tsl1 (by decide)).eI hE (by decide) rfl⟩
  have n17 : ∀ j : Nat, j < 3 → zJ s2 rW j = zJ σ rW j := fun j hj => (hTo.k trW (by decide)).eJ hE (by decide) rfl
  have n18 : zJ s2 rS = zJ σ rS := (show zJ s2 rS = zJ σ rS from funext fun k => (hTo.k trS (by decide)).eJ hE (by decide) rfl)
  have a19 : (zI s2 mm 13).toInt = (zI σ mm 13).toInt := by rw [(hTo.k t_mm (by decide)).eI hE (by decide) rfl]
  refine lv_istore (lv' := [(5, .int r3), (4, .int i), (3, .ref out), (2, .ref mm), (1, .ref x), (0, .ref b)]) hx hb dL_law_689 hl (by decide) rfl (fun ls hl => ?_)
  refine lv_aload_n hx hb dL_law_691 rfl (lv_at hl 3 rfl) ?_
  refine lv_aload_n hx hb dL_law_692 rfl (lv_at hl 5 rfl) ?_
  refine lv_iload hx hb dL_law_693 (lv_at hl 1 rfl) ?_
  refine lv_iconst (v := 1) hx hb dL_law_695 (by decide) ?_
  refine lv_iadd hx hb dL_law_696 ?_
  refine g_add (by omega) (by omega) (fun t20 ht20 => ?_)
  refine va_sld hx hb hXs hbl hbA hT.2.2.2 (g_in (by omega) (by omega)) dL_law_697 ?_
  refine ti y1 (by rw [hy1]; exact congrArg xs (show t20.toNatClampNeg = ix i + 1 from by show t20.toInt.toNat = ix i + 1; unfold ix; omega)) ?_
  have hTo := hT
  refine tVi (n := 1) (As := [.int y1]) (rest := []) hx hb hml hown hg hT hK hX (X6_largest l (kX κ) s2 mm y1 (hT.k t_mm (by decide)) R4) sub_gR_fA (mwV k1507 k1508 k1509 k92 k1510) ⟨rfl, by decide, by decide, by decide +kernel⟩ ⟨(Nat.le_of_ble_eq_true rfl), (Nat.le_of_ble_eq_true rfl)⟩ (hT.o20 (hT.k t_mm (by decide))) rfl rfl hl.1 rfl (Nat.le_of_ble_eq_true rfl) dL_law_698 zx (fun r22 s21 H locs hφ hE hT => ?_)
  have R23 := R4.ext hE ⟨rfl, rfl, fun _ => rfl, fun _ => rfl, fun _ => rfl, fun _ => rfl⟩
  have a24 : (zI s21 tx 1).toInt = (zI s2 tx 1).toInt := by rw [(hTo.k ttx (by decide)).eI hE (by decide) rfl]
  have j25 : zI s21 rB = zI σ rB := ((show zI s21 rB = zI s2 rB from funext fun k => (hTo.k trB (by decide)).eI hE (by decide) rfl)).trans j6
  have j26 : zI s21 rT = zI σ rT := ((show zI s21 rT = zI s2 rT from funext fun k => (hTo.k trT (by decide)).eI hE (by decide) rfl)).trans j7
  have j27 : zI s21 rI = zI σ rI := ((show zI s21 rI = zI s2 rI from funext fun k => (hTo.k trI (by decide)).eI hE (by decide) rfl)).trans j8
  have j28 : zI s21 rK = zI σ rK := ((show zI s21 rK = zI s2 rK from funext fun k => (hTo.k trK (by decide)).eI hE (by decide) rfl)).trans j9
  have j29 : zI s21 tx 2 = zI σ tx 2 := ((hTo.k ttx (by decide)).eI hE (by decide) rfl).trans j10
  have j30 : zI s21 tx 3 = zI σ tx 3 := ((hTo.k ttx (by decide)).eI hE (by decide) rfl).trans j11
  have j31 : zI s21 mm 15 = zI σ mm 15 := ((hTo.k t_mm (by decide)).eI hE (by decide) rfl).trans j12
  have j32 : zI s21 mm 16 = zI σ mm 16 := ((hTo.k t_mm (by decide)).eI hE (by decide) rfl).trans j13
  have n33 : zI s21 nw 7 = zI s2 nw 7 ∧ zI s21 nw 8 = zI s2 nw 8 ∧ zI s21 nw 9 = zI s2 nw 9 := ⟨(hTo.k tnw (by decide)).eI hE (by decide) rfl, (hTo.k tnw (by decide)).eI hE (by decide) rfl, (hTo.k tnw (by decide)).eI hE (by decide) rfl⟩
  have n34 : zI s21 nw 7 = zI σ nw 7 ∧ zI s21 nw 8 = zI σ nw 8 ∧ zI s21 nw 9 = zI σ nw 9 := ⟨n33.1.trans n14.1, n33.2.1.trans n14.2.1, n33.2.2.trans n14.2.2⟩
  have n35 : zI s21 sl0 7 = zI s2 sl0 7 ∧ zI s21 sl0 8 = zI s2 sl0 8 ∧ zI s21 sl0 9 = zI s2 sl0 9 := ⟨(hTo.k tsl0 (by decide)).eI hE (by decide) rfl, (hTo.k tsl0 (by decide)).eI hE (by decide) rfl, (hTo.k tsl0 (by decide)).eI hE (by decide) rfl⟩
  have n36 : zI s21 sl0 7 = zI σ sl0 7 ∧ zI s21 sl0 8 = zI σ sl0 8 ∧ zI s21 sl0 9 = zI σ sl0 9 := ⟨n35.1.trans n15.1, n35.2.1.trans n15.2.1, n35.2.2.trans n15.2.2⟩
  have n37 : zI s21 sl1 7 = zI s2 sl1 7 ∧ zI s21 sl1 8 = zI s2 sl1 8 ∧ zI s21 sl1 9 = zI s2 sl1 9 := ⟨(hTo.k tsl1 (by decide)).eI hE (by decide) rfl, (hTo.k tsl1 (by decide)).eI hE (by decide) rfl, (hTo.k tsl1 (by decide)).eI hE (by decide) rfl⟩
  have n38 : zI s21 sl1 7 = zI σ sl1 7 ∧ zI s21 sl1 8 = zI σ sl1 8 ∧ zI s21 sl1 9 = zI σ sl1 9 := ⟨n37.1.trans n16.1, n37.2.1.trans n16.2.1, n37.2.2.trans n16.2.2⟩
  have n39 : ∀ j : Nat, j < 3 → zJ s21 rW j = zJ s2 rW j := fun j hj => (hTo.k trW (by decide)).eJ hE (by decide) rfl
  have n40 : ∀ j : Nat, j < 3 → zJ s21 rW j = zJ σ rW j := fun j hj => (n39 j hj).trans (n17 j hj)
  have n41 : zJ s21 rS = zJ σ rS := (show zJ s21 rS = zJ s2 rS from funext fun k => (hTo.k trS (by decide)).eJ hE (by decide) rfl).trans n18
  have a42 : (zI s21 mm 13).toInt = (zI s2 mm 13).toInt := by rw [(hTo.k t_mm (by decide)).eI hE (by decide) rfl]
  refine lv_istore (lv' := [(6, .int r22), (5, .int r3), (4, .int i), (3, .ref out), (2, .ref mm), (1, .ref x), (0, .ref b)]) hx hb dL_law_701 hl (by decide) rfl (fun ls hl => ?_)
  refine lv_goto (tgt := 1404) hx hb dL_law_703 (by decide) ?_
  have sl0f : zI s21 rI 0 ≠ 0 → SLT κ s21 x mm 0 := fun hq => (hsl 0 (by decide) (fun q9 => hq (by rw [erI] at q9; rw [j27]; exact q9))).tr (by rw [ers5, esl0]; exact n36) (fun j hj => by rw [erS, n41])
  have sl1f : zI s21 rI 1 ≠ 0 → SLT κ s21 x mm 1 := fun hq => (hsl 1 (by decide) (fun q9 => hq (by rw [erI] at q9; rw [j27]; exact q9))).tr (by rw [ers5, esl1]; exact n38) (fun j hj => by rw [erS, n41])
  exact KK s21 _ _ _ hT R23 ⟨by rw [etx]; omega, ⟨by rw [etx, erB, erT, j25, j26]; exact tal_less hal (by omega), by rw [erT, j26]; exact tnn_less hnn (by omega)⟩, ⟨by rw [etx, j29, j31]; exact hco, by rw [etx, j30, j32]; exact hpo⟩, fun i hi => by rw [erI, erK, j27, j28]; exact hkp i hi⟩ (⟨hnw.tr (by rw [enw]; exact n34) (by rw [erW]; exact n40), fun i hi => (show i = 0 ∨ i = 1 by omega).elim (fun e9 => by rw [e9, erI]; exact sl0f) (fun e9 => by rw [e9, erI]; exact sl1f)⟩) (lv_sub hl [2, 3, 4, 5, 6] rfl)
set_option maxHeartbeats 4000000 in
set_option maxRecDepth 100000 in
theorem lc_18 (l : Launch) (κ : Kt) (σ0 : Gh) (x mm out b : Nat) (t_x : zk σ0 x 7) (t_mm : zk σ0 mm 20) (t_out : zk σ0 out 24) (ttx0 : zk σ0 (kR κ x 0) 6) (hdis : DIS κ x) (hlt : l.stackTraces = false) {p : Program} {e : Env} {s : State} {m : MethodId} {below : List Frame} {meth : Method} {c : Code} {L : Nat} {xs : Nat → Int32} {i : Int32} {Q9 : State → Prop} (hx : p.tables.exec = Jvm.exec) (hb : c.code = cL_law) (hml : c.maxLocals = 9) (hown : s.vm.findClass RL = some m.cls) (hg : ∀ w ∈ GW, w.before #[Value.ref b] s = true) (hK : va_K κ.1 vwCl (kTy κ) s) (hX : XY κ (tA σ0 s.heap.size) s s.heap) (hXs : va_X b L xs s s.heap) (hbl : b < s.heap.size) (hbA : ¬ tA σ0 s.heap.size b) (zx : zroomX κ s room_1 601024 7293034) (hi0 : 0 ≤ i.toInt) (hi1 : i.toInt + 6 ≤ L) (hL9 : L ≤ 3072) {σ : Gh} {H : Heap} {locs : List Loc} {ls : Array Slot} (hT : TS κ fA σ0 σ s H locs) (hR : RI κ σ mm) (hrel : LREL κ σ x mm) (hsr : SREL κ σ x mm) (hl : lv_has ls 9 [(4, .int i), (3, .ref out), (2, .ref mm), (1, .ref x), (0, .ref b)]) (KK : ∀ (σ1 : Gh) (H : Heap) (locs : List Loc) (ls : Array Slot), TS (kX κ) fA σ0 σ1 s H locs → RI (kX κ) σ1 mm → LREL κ σ1 x mm → SREL κ σ1 x mm → lv_has ls 9 [(4, .int i), (3, .ref out), (2, .ref mm), (1, .ref x), (0, .ref b)] → W p l e room_1 s m #[Value.ref b] below meth c H locs 601024 7293034 Q9 (F0 m 1404 ls [])) : W p l e room_1 s m #[Value.ref b] below meth c H locs 601024 7293034 Q9 (F0 m 706 ls []) := by
  obtain ⟨y1, hy1⟩ : ∃ z, z = xs (ix i + 1) := ⟨_, rfl⟩
  obtain ⟨y2, hy2⟩ : ∃ z, z = xs (ix i + 2) := ⟨_, rfl⟩
  obtain ⟨y3, hy3⟩ : ∃ z, z = xs (ix i + 3) := ⟨_, rfl⟩
  obtain ⟨y4, hy4⟩ : ∃ z, z = xs (ix i + 4) := ⟨_, rfl⟩
  obtain ⟨y5, hy5⟩ : ∃ z, z = xs (ix i + 5) := ⟨_, rfl⟩
  have n0 : (0 : Int32).toInt = 0 := by decide
  have n1 : (1 : Int32).toInt = 1 := by decide
  have n2 : (2 : Int32).toInt = 2 := by decide
  have n3 : (3 : Int32).toInt = 3 := by decide
  have n4 : (4 : Int32).toInt = 4 := by decide
  have n5 : (5 : Int32).toInt = 5 := by decide
  obtain ⟨tx, etx⟩ : ∃ z, kR κ x 0 = z := ⟨_, rfl⟩
  have ttx : zk σ0 tx 6 := by rw [← etx]; exact ttx0
  obtain ⟨rB, erB⟩ : ∃ z, kR κ tx 0 = z := ⟨_, rfl⟩
  have trB : zk σ0 rB 14 := by rw [← erB]; exact hT.kr (hT.ref (hT.k ttx (by decide)) (by decide) (by decide) (by decide)) (by decide) (by decide)
  obtain ⟨rT, erT⟩ : ∃ z, kR κ mm 12 = z := ⟨_, rfl⟩
  have trT : zk σ0 rT 23 := by rw [← erT]; exact hT.kr (hT.ref (hT.k t_mm (by decide)) (by decide) (by decide) (by decide)) (by decide) (by decide)
  obtain ⟨rI, erI⟩ : ∃ z, kR κ x 6 = z := ⟨_, rfl⟩
  have trI : zk σ0 rI 13 := by rw [← erI]; exact hT.kr (hT.ref (hT.k t_x (by decide)) (by decide) (by decide) (by decide)) (by decide) (by decide)
  obtain ⟨rK, erK⟩ : ∃ z, kR κ mm 4 = z := ⟨_, rfl⟩
  have trK : zk σ0 rK 29 := by rw [← erK]; exact hT.kr (hT.ref (hT.k t_mm (by decide)) (by decide) (by decide) (by decide)) (by decide) (by decide)
  obtain ⟨hlen, ⟨hal, hnn⟩, ⟨hco, hpo⟩, hkp⟩ := hrel
  rw [etx] at hlen hal hco hpo
  rw [erB, erT] at hal
  rw [erT] at hnn
  rw [erI, erK] at hkp
  have btx := (hT.P (hT.k ttx (by decide)) (by decide)).1
  have btxl := btx.1
  have btxh := btx.2
  obtain ⟨nw, enw⟩ : ∃ z, kR κ x 3 = z := ⟨_, rfl⟩
  have tnw : zk σ0 nw 3 := by rw [← enw]; exact hT.kr (hT.ref (hT.k t_x (by decide)) (by decide) (by decide) (by decide)) (by decide) (by decide)
  obtain ⟨tr, etr⟩ : ∃ z, kR κ x 4 = z := ⟨_, rfl⟩
  have ttr : zk σ0 tr 3 := by rw [← etr]; exact hT.kr (hT.ref (hT.k t_x (by decide)) (by decide) (by decide) (by decide)) (by decide) (by decide)
  obtain ⟨rs5, ers5⟩ : ∃ z, kR κ x 5 = z := ⟨_, rfl⟩
  have trs5 : zk σ0 rs5 12 := by rw [← ers5]; exact hT.kr (hT.ref (hT.k t_x (by decide)) (by decide) (by decide) (by decide)) (by decide) (by decide)
  obtain ⟨sl0, esl0⟩ : ∃ z, kR κ rs5 0 = z := ⟨_, rfl⟩
  have tsl0 : zk σ0 sl0 3 := by rw [← esl0]; exact hT.kr (hT.ref (hT.k trs5 (by decide)) (by decide) (by decide) (by decide)) (by decide) (by decide)
  obtain ⟨sl1, esl1⟩ : ∃ z, kR κ rs5 1 = z := ⟨_, rfl⟩
  have tsl1 : zk σ0 sl1 3 := by rw [← esl1]; exact hT.kr (hT.ref (hT.k trs5 (by decide)) (by decide) (by decide) (by decide)) (by decide) (by decide)
  obtain ⟨rW, erW⟩ : ∃ z, kR κ mm 1 = z := ⟨_, rfl⟩
  have trW : zk σ0 rW 21 := by rw [← erW]; exact hT.kr (hT.ref (hT.k t_mm (by decide)) (by decide) (by decide) (by decide)) (by decide) (by decide)
  obtain ⟨rS, erS⟩ : ∃ z, kR κ mm 3 = z := ⟨_, rfl⟩
  have trS : zk σ0 rS 22 := by rw [← erS]; exact hT.kr (hT.ref (hT.k t_mm (by decide)) (by decide) (by decide) (by decide)) (by decide) (by decide)
  obtain ⟨hnw, hsl⟩ := hsr
  obtain ⟨hd1, ⟨hd2, hd3⟩, hd4, hd5⟩ := hdis
  have d_nt : nw ≠ tr := by rw [← enw, ← etr]; exact hd2
  have d_n0 : nw ≠ sl0 := by rw [← enw, ← esl0, ← ers5]; exact hd3 0 (by decide)
  have d_t0 : sl0 ≠ tr := by rw [← etr, ← esl0, ← ers5]; exact fun q => hd4 0 (by decide) q.symm
  have d_n1 : nw ≠ sl1 := by rw [← enw, ← esl1, ← ers5]; exact hd3 1 (by decide)
  have d_t1 : sl1 ≠ tr := by rw [← etr, ← esl1, ← ers5]; exact fun q => hd4 1 (by decide) q.symm
  have d_01 : sl0 ≠ sl1 := by rw [← esl0, ← esl1, ← ers5]; exact hd5
  have knw : zk σ nw 3 := hT.k tnw (by decide)
  have ksl0 : zk σ sl0 3 := hT.k tsl0 (by decide)
  have ksl1 : zk σ sl1 3 := hT.k tsl1 (by decide)
  refine lv_aload_n hx hb dL_law_706 rfl (lv_at hl 3 rfl) ?_
  refine lv_aload_n hx hb dL_law_707 rfl (lv_at hl 1 rfl) ?_
  have hTo := hT
  refine tHi (n := 2) (As := [.ref x, .ref out]) (rest := []) hx hb hml hown hg hT hK hX (L_next l κ σ x out (hT.k t_x (by decide)) (hT.k t_out (by decide)) hlt) sub_hfW_fA (mwHS k942 k943 k83 k944) ⟨by decide, by decide, by decide +kernel⟩ ⟨(Nat.le_of_ble_eq_true rfl), (Nat.le_of_ble_eq_true rfl)⟩ rfl hl.1 rfl (Nat.le_of_ble_eq_true rfl) dL_law_708 zx (fun r2 s1 H locs hφ hE hT => ?_)
  have R3 := hR.ext hE ⟨rfl, rfl, fun _ => rfl, fun _ => rfl, fun _ => rfl, fun _ => rfl⟩
  have a4 : (zI s1 tx 1).toInt = (zI σ tx 1).toInt := by rw [(hTo.k ttx (by decide)).eI hE (by decide) rfl]
  have j5 : zI s1 rB = zI σ rB := (show zI s1 rB = zI σ rB from funext fun k => (hTo.k trB (by decide)).eI hE (by decide) rfl)
  have j6 : zI s1 rT = zI σ rT := (show zI s1 rT = zI σ rT from funext fun k => (hTo.k trT (by decide)).eI hE (by decide) rfl)
  have j7 : zI s1 rI = zI σ rI := (show zI s1 rI = zI σ rI from funext fun k => (hTo.k trI (by decide)).eI hE (by decide) rfl)
  have j8 : zI s1 rK = zI σ rK := (show zI s1 rK = zI σ rK from funext fun k => (hTo.k trK (by decide)).eI hE (by decide) rfl)
  have j9 : zI s1 tx 2 = zI σ tx 2 := (hTo.k ttx (by decide)).eI hE (by decide) rfl
  have j10 : zI s1 tx 3 = zI σ tx 3 := (hTo.k ttx (by decide)).eI hE (by decide) rfl
  have j11 : zI s1 mm 15 = zI σ mm 15 := (hTo.k t_mm (by decide)).eI hE (by decide) rfl
  have j12 : zI s1 mm 16 = zI σ mm 16 := (hTo.k t_mm (by decide)).eI hE (by decide) rfl
  have n13 : zI s1 nw 7 = zI σ nw 7 ∧ zI s1 nw 8 = zI σ nw 8 ∧ zI s1 nw 9 = zI σ nw 9 := ⟨(hTo.k tnw (by decide)).eI hE (by decide) rfl, (hTo.k tnw (by decide)).eI hE (by decide) rfl, (hTo.k tnw (by decide)).eI hE (by decide) rfl⟩
  have n14 : zI s1 sl0 7 = zI σ sl0 7 ∧ zI s1 sl0 8 = zI σ sl0 8 ∧ zI s1 sl0 9 = zI σ sl0 9 := ⟨(hTo.k tsl0 (by decide)).eI hE (by decide) rfl, (hTo.k tsl0 (by decide)).eI hE (by decide) rfl, (hTo.k tsl0 (by decide)).eI hE (by decide) rfl⟩
  have n15 : zI s1 sl1 7 = zI σ sl1 7 ∧ zI s1 sl1 8 = zI σ sl1 8 ∧ zI s1 sl1 9 = zI σ sl1 9 := ⟨(hTo.k tsl1 (by decide)).eI hE (by decide) rfl, (hTo.k tsl1 (by decide)).eI hE (by decide) rfl, (hTo.k tsl1 (by decide)).eI hE (by decide) rfl⟩
  have n16 : ∀ j : Nat, j < 3 → zJ s1 rW j = zJ σ rW j := fun j hj => (hTo.k trW (by decide)).eJ hE (by decide) rfl
  have n17 : zJ s1 rS = zJ σ rS := (show zJ s1 rS = zJ σ rS from funext fun k => (hTo.k trS (by decide)).eJ hE (by decide) rfl)
  have a18 : (zI s1 mm 13).toInt = (zI σ mm 13).toInt := by rw [(hTo.k t_mm (by decide)).eI hE (by decide) rfl]
  refine lv_istore (lv' := [(5, .int r2), (4, .int i), (3, .ref out), (2, .ref mm), (1, .ref x), (0, .ref b)]) hx hb dL_law_711 hl (by decide) rfl (fun ls hl => ?_)
  refine lv_aload_n hx hb dL_law_713 rfl (lv_at hl 3 rfl) ?_
  have hTo := hT
  refine tVi (n := 0) (As := []) (rest := []) hx hb hml hown hg hT hK hX (X6_next l (kX κ) s1 mm (hT.k t_mm (by decide)) R3) sub_gR_fA (mwV k1515 k1516 k1517 k92 k1518) ⟨rfl, by decide, by decide, by decide +kernel⟩ ⟨(Nat.le_of_ble_eq_true rfl), (Nat.le_of_ble_eq_true rfl)⟩ (hT.o20 (hT.k t_mm (by decide))) rfl rfl hl.1 rfl (Nat.le_of_ble_eq_true rfl) dL_law_714 zx (fun r20 s19 H locs hφ hE hT => ?_)
  have R21 := R3.ext hE ⟨rfl, rfl, fun _ => rfl, fun _ => rfl, fun _ => rfl, fun _ => rfl⟩
  have a22 : (zI s19 tx 1).toInt = (zI s1 tx 1).toInt := by rw [(hTo.k ttx (by decide)).eI hE (by decide) rfl]
  have j23 : zI s19 rB = zI σ rB := ((show zI s19 rB = zI s1 rB from funext fun k => (hTo.k trB (by decide)).eI hE (by decide) rfl)).trans j5
  have j24 : zI s19 rT = zI σ rT := ((show zI s19 rT = zI s1 rT from funext fun k => (hTo.k trT (by decide)).eI hE (by decide) rfl)).trans j6
  have j25 : zI s19 rI = zI σ rI := ((show zI s19 rI = zI s1 rI from funext fun k => (hTo.k trI (by decide)).eI hE (by decide) rfl)).trans j7
  have j26 : zI s19 rK = zI σ rK := ((show zI s19 rK = zI s1 rK from funext fun k => (hTo.k trK (by decide)).eI hE (by decide) rfl)).trans j8
  have j27 : zI s19 tx 2 = zI σ tx 2 := ((hTo.k ttx (by decide)).eI hE (by decide) rfl).trans j9
  have j28 : zI s19 tx 3 = zI σ tx 3 := ((hTo.k ttx (by decide)).eI hE (by decide) rfl).trans j10
  have j29 : zI s19 mm 15 = zI σ mm 15 := ((hTo.k t_mm (by decide)).eI hE (by decide) rfl).trans j11
  have j30 : zI s19 mm 16 = zI σ mm 16 := ((hTo.k t_mm (by decide)).eI hE (by decide) rfl).trans j12
  have n31 : zI s19 nw 7 = zI s1 nw 7 ∧ zI s19 nw 8 = zI s1 nw 8 ∧ zI s19 nw 9 = zI s1 nw 9 := ⟨(hTo.k tnw (by decide)).eI hE (by decide) rfl, (hTo.k tnw (by decide)).eI hE (by decide) rfl, (hTo.k tnw (by decide)).eI hE (by decide) rfl⟩
  have n32 : zI s19 nw 7 = zI σ nw 7 ∧ zI s19 nw 8 = zI σ nw 8 ∧ zI s19 nw 9 = zI σ nw 9 := ⟨n31.1.trans n13.1, n31.2.1.trans n13.2.1, n31.2.2.trans n13.2.2⟩
  have n33 : zI s19 sl0 7 = zI s1 sl0 7 ∧ zI s19 sl0 8 = zI s1 sl0 8 ∧ zI s19 sl0 9 = zI s1 sl0 9 := ⟨(hTo.k tsl0 (by decide)).eI hE (by decide) rfl, (hTo.k tsl0 (by decide)).eI hE (by decide) rfl, (hTo.k tsl0 (by decide)).eI hE (by decide) rfl⟩
  have n34 : zI s19 sl0 7 = zI σ sl0 7 ∧ zI s19 sl0 8 = zI σ sl0 8 ∧ zI s19 sl0 9 = zI σ sl0 9 := ⟨n33.1.trans n14.1, n33.2.1.trans n14.2.1, n33.2.2.trans n14.2.2⟩
  have n35 : zI s19 sl1 7 = zI s1 sl1 7 ∧ zI s19 sl1 8 = zI s1 sl1 8 ∧ zI s19 sl1 9 = zI s1 sl1 9 := ⟨(hTo.k tsl1 (by decide)).eI hE (by decide) rfl, (hTo.k tsl1 (by decide)).eI hE (by decide) rfl, (hTo.k tsl1 (by decide)).eI hE (by decide) rfl⟩
  have n36 : zI s19 sl1 7 = zI σ sl1 7 ∧ zI s19 sl1 8 = zI σ sl1 8 ∧ zI s19 sl1 9 = zI σ sl1 9 := ⟨n35.1.trans n15.1, n35.2.1.trans n15.2.1, n35.2.2.trans n15.2.2⟩
  have n37 : ∀ j : Nat, j < 3 → zJ s19 rW j = zJ s1 rW j := fun j hj => (hTo.k trW (by decide)).eJ hE (by decide) rfl
  have n38 : ∀ j : Nat, j < 3 → zJ s19 rW j = zJ σ rW j := fun j hj => (n37 j hj).trans (n16 j hj)
  have n39 : zJ s19 rS = zJ σ rS := (show zJ s19 rS = zJ s1 rS from funext fun k => (hTo.k trS (by decide)).eJ hE (by decide) rfl).trans n17
  have a40 : (zI s19 mm 13).toInt = (zI s1 mm 13).toInt := by rw [(hTo.k t_mm (by decide)).eI hE (by decide) rfl]
  refine lv_istore (lv' := [(6, .int r20), (5, .int r2), (4, .int i), (3, .ref out), (2, .ref mm), (1, .ref x), (0, .ref b)]) hx hb dL_law_717 hl (by decide) rfl (fun ls hl => ?_)
  refine lv_goto (tgt := 1404) hx hb dL_law_719 (by decide) ?_
  have sl0f : zI s19 rI 0 ≠ 0 → SLT κ s19 x mm 0 := fun hq => (hsl 0 (by decide) (fun q9 => hq (by rw [erI] at q9; rw [j25]; exact q9))).tr (by rw [ers5, esl0]; exact n34) (fun j hj => by rw [erS, n39])
  have sl1f : zI s19 rI 1 ≠ 0 → SLT κ s19 x mm 1 := fun hq => (hsl 1 (by decide) (fun q9 => hq (by rw [erI] at q9; rw [j25]; exact q9))).tr (by rw [ers5, esl1]; exact n36) (fun j hj => by rw [erS, n39])
  exact KK s19 _ _ _ hT R21 ⟨by rw [etx]; omega, ⟨by rw [etx, erB, erT, j23, j24]; exact tal_less hal (by omega), by rw [erT, j24]; exact tnn_less hnn (by omega)⟩, ⟨by rw [etx, j27, j29]; exact hco, by rw [etx, j28, j30]; exact hpo⟩, fun i hi => by rw [erI, erK, j25, j26]; exact hkp i hi⟩ (⟨hnw.tr (by rw [enw]; exact n32) (by rw [erW]; exact n38), fun i hi => (show i = 0 ∨ i = 1 by omega).elim (fun e9 => by rw [e9, erI]; exact sl0f) (fun e9 => by rw [e9, erI]; exact sl1f)⟩) (lv_sub hl [2, 3, 4, 5, 6] rfl)
set_option maxHeartbeats 4000000 in
set_option maxRecDepth 100000 in
theorem lc_19 (l : Launch) (κ : Kt) (σ0 : Gh) (x mm out b : Nat) (t_x : zk σ0 x 7) (t_mm : zk σ0 mm 20) (t_out : zk σ0 out 24) (ttx0 : zk σ0 (kR κ x 0) 6) (hdis : DIS κ x) (hlt : l.stackTraces = false) {p : Program} {e : Env} {s : State} {m : MethodId} {below : List Frame} {meth : Method} {c : Code} {L : Nat} {xs : Nat → Int32} {i : Int32} {Q9 : State → Prop} (hx : p.tables.exec = Jvm.exec) (hb : c.code = cL_law) (hml : c.maxLocals = 9) (hown : s.vm.findClass RL = some m.cls) (hg : ∀ w ∈ GW, w.before #[Value.ref b] s = true) (hK : va_K κ.1 vwCl (kTy κ) s) (hX : XY κ (tA σ0 s.heap.size) s s.heap) (hXs : va_X b L xs s s.heap) (hbl : b < s.heap.size) (hbA : ¬ tA σ0 s.heap.size b) (zx : zroomX κ s room_1 601024 7293034) (hi0 : 0 ≤ i.toInt) (hi1 : i.toInt + 6 ≤ L) (hL9 : L ≤ 3072) {σ : Gh} {H : Heap} {locs : List Loc} {ls : Array Slot} (hT : TS κ fA σ0 σ s H locs) (hR : RI κ σ mm) (hrel : LREL κ σ x mm) (hsr : SREL κ σ x mm) (hl : lv_has ls 9 [(4, .int i), (3, .ref out), (2, .ref mm), (1, .ref x), (0, .ref b)]) (KK : ∀ (σ1 : Gh) (H : Heap) (locs : List Loc) (ls : Array Slot), TS (kX κ) fA σ0 σ1 s H locs → RI (kX κ) σ1 mm → LREL κ σ1 x mm → SREL κ σ1 x mm → lv_has ls 9 [(4, .int i), (3, .ref out), (2, .ref mm), (1, .ref x), (0, .ref b)] → W p l e room_1 s m #[Value.ref b] below meth c H locs 601024 7293034 Q9 (F0 m 1404 ls [])) : W p l e room_1 s m #[Value.ref b] below meth c H locs 601024 7293034 Q9 (F0 m 722 ls []) := by
  obtain ⟨y1, hy1⟩ : ∃ z, z = xs (ix i + 1) := ⟨_, rfl⟩
  obtain ⟨y2, hy2⟩ : ∃ z, z = xs (ix i + 2) := ⟨_, rfl⟩
  obtain ⟨y3, hy3⟩ : ∃ z, z = xs (ix i + 3) := ⟨_, rfl⟩
  obtain ⟨y4, hy4⟩ : ∃ z, z = xs (ix i + 4) := ⟨_, rfl⟩
  obtain ⟨y5, hy5⟩ : ∃ z, z = xs (ix i + 5) := ⟨_, rfl⟩
  have n0 : (0 : Int32).toInt = 0 := by decide
  have n1 : (1 : Int32).toInt = 1 := by decide
  have n2 : (2 : Int32).toInt = 2 := by decide
  have n3 : (3 : Int32).toInt = 3 := by decide
  have n4 : (4 : Int32).toInt = 4 := by decide
  have n5 : (5 : Int32).toInt = 5 := by decide
  obtain ⟨tx, etx⟩ : ∃ z, kR κ x 0 = z := ⟨_, rfl⟩
  have ttx : zk σ0 tx 6 := by rw [← etx]; exact ttx0
  obtain ⟨rB, erB⟩ : ∃ z, kR κ tx 0 = z := ⟨_, rfl⟩
  have trB : zk σ0 rB 14 := by rw [← erB]; exact hT.kr (hT.ref (hT.k ttx (by decide)) (by decide) (by decide) (by decide)) (by decide) (by decide)
  obtain ⟨rT, erT⟩ : ∃ z, kR κ mm 12 = z := ⟨_, rfl⟩
  have trT : zk σ0 rT 23 := by rw [← erT]; exact hT.kr (hT.ref (hT.k t_mm (by decide)) (by decide) (by decide) (by decide)) (by decide) (by decide)
  obtain ⟨rI, erI⟩ : ∃ z, kR κ x 6 = z := ⟨_, rfl⟩
  have trI : zk σ0 rI 13 := by rw [← erI]; exact hT.kr (hT.ref (hT.k t_x (by decide)) (by decide) (by decide) (by decide)) (by decide) (by decide)
  obtain ⟨rK, erK⟩ : ∃ z, kR κ mm 4 = z := ⟨_, rfl⟩
  have trK : zk σ0 rK 29 := by rw [← erK]; exact hT.kr (hT.ref (hT.k t_mm (by decide)) (by decide) (by decide) (by decide)) (by decide) (by decide)
  obtain ⟨hlen, ⟨hal, hnn⟩, ⟨hco, hpo⟩, hkp⟩ := hrel
  rw [etx] at hlen hal hco hpo
  rw [erB, erT] at hal
  rw [erT] at hnn
  rw [erI, erK] at hkp
  have btx := (hT.P (hT.k ttx (by decide)) (by decide)).1
  have btxl := btx.1
  have btxh := btx.2
  obtain ⟨nw, enw⟩ : ∃ z, kR κ x 3 = z := ⟨_, rfl⟩
  have tnw : zk σ0 nw 3 := by rw [← enw]; exact hT.kr (hT.ref (hT.k t_x (by decide)) (by decide) (by decide) (by decide)) (by decide) (by decide)
  obtain ⟨tr, etr⟩ : ∃ z, kR κ x 4 = z := ⟨_, rfl⟩
  have ttr : zk σ0 tr 3 := by rw [← etr]; exact hT.kr (hT.ref (hT.k t_x (by decide)) (by decide) (by decide) (by decide)) (by decide) (by decide)
  obtain ⟨rs5, ers5⟩ : ∃ z, kR κ x 5 = z := ⟨_, rfl⟩
  have trs5 : zk σ0 rs5 12 := by rw [← ers5]; exact hT.kr (hT.ref (hT.k t_x (by decide)) (by decide) (by decide) (by decide)) (by decide) (by decide)
  obtain ⟨sl0, esl0⟩ : ∃ z, kR κ rs5 0 = z := ⟨_, rfl⟩
  have tsl0 : zk σ0 sl0 3 := by rw [← esl0]; exact hT.kr (hT.ref (hT.k trs5 (by decide)) (by decide) (by decide) (by decide)) (by decide) (by decide)
  obtain ⟨sl1, esl1⟩ : ∃ z, kR κ rs5 1 = z := ⟨_, rfl⟩
  have tsl1 : zk σ0 sl1 3 := by rw [← esl1]; exact hT.kr (hT.ref (hT.k trs5 (by decide)) (by decide) (by decide) (by decide)) (by decide) (by decide)
  obtain ⟨rW, erW⟩ : ∃ z, kR κ mm 1 = z := ⟨_, rfl⟩
  have trW : zk σ0 rW 21 := by rw [← erW]; exact hT.kr (hT.ref (hT.k t_mm (by decide)) (by decide) (by decide) (by decide)) (by decide) (by decide)
  obtain ⟨rS, erS⟩ : ∃ z, kR κ mm 3 = z := ⟨_, rfl⟩
  have trS : zk σ0 rS 22 := by rw [← erS]; exact hT.kr (hT.ref (hT.k t_mm (by decide)) (by decide) (by decide) (by decide)) (by decide) (by decide)
  obtain ⟨hnw, hsl⟩ := hsr
  obtain ⟨hd1, ⟨hd2, hd3⟩, hd4, hd5⟩ := hdis
  have d_nt : nw ≠ tr := by rw [← enw, ← etr]; exact hd2
  have d_n0 : nw ≠ sl0 := by rw [← enw, ← esl0, ← ers5]; exact hd3 0 (by decide)
  have d_t0 : sl0 ≠ tr := by rw [← etr, ← esl0, ← ers5]; exact fun q => hd4 0 (by decide) q.symm
  have d_n1 : nw ≠ sl1 := by rw [← enw, ← esl1, ← ers5]; exact hd3 1 (by decide)
  have d_t1 : sl1 ≠ tr := by rw [← etr, ← esl1, ← ers5]; exact fun q => hd4 1 (by decide) q.symm
  have d_01 : sl0 ≠ sl1 := by rw [← esl0, ← esl1, ← ers5]; exact hd5
  have knw : zk σ nw 3 := hT.k tnw (by decide)
  have ksl0 : zk σ sl0 3 := hT.k tsl0 (by decide)
  have ksl1 : zk σ sl1 3 := hT.k tsl1 (by decide)
  have hw7 : (zI σ nw 7).toInt = (zJ σ rW 0).toInt := by rw [← enw, ← erW]; exact hnw.1
  have hb7 := Int32.le_toInt (zI σ nw 7)
  have hc7 := Int32.toInt_lt (zI σ nw 7)
  have hw8 : (zI σ nw 8).toInt = (zJ σ rW 1).toInt := by rw [← enw, ← erW]; exact hnw.2.1
  have hb8 := Int32.le_toInt (zI σ nw 8)
  have hc8 := Int32.toInt_lt (zI σ nw 8)
  have hw9 : (zI σ nw 9).toInt = (zJ σ rW 2).toInt := by rw [← enw, ← erW]; exact hnw.2.2
  have hb9 := Int32.le_toInt (zI σ nw 9)
  have hc9 := Int32.toInt_lt (zI σ nw 9)
  refine lv_aload_n hx hb dL_law_722 rfl (lv_at hl 3 rfl) ?_
  refine lv_aload_n hx hb dL_law_723 rfl (lv_at hl 4 rfl) ?_
  refine lv_iload hx hb dL_law_724 (lv_at hl 0 rfl) ?_
  refine lv_iconst (v := 1) hx hb dL_law_726 (by decide) ?_
  refine lv_iadd hx hb dL_law_727 ?_
  refine g_add (by omega) (by omega) (fun t1 ht1 => ?_)
  refine va_sld hx hb hXs hbl hbA hT.2.2.2 (g_in (by omega) (by omega)) dL_law_728 ?_
  refine ti y1 (by rw [hy1]; exact congrArg xs (show t1.toNatClampNeg = ix i + 1 from by show t1.toInt.toNat = ix i + 1; unfold ix; omega)) ?_
  refine lv_aload_n hx hb dL_law_729 rfl (lv_at hl 1 rfl) ?_
  have hTo := hT
  refine tHi (n := 3) (As := [.ref x, .int y1, .ref out]) (rest := []) hx hb hml hown hg hT hK hX (L_setSplit l κ σ x y1 out (hT.k t_x (by decide)) (hT.k t_out (by decide)) hlt) sub_hfSet_fA (mwHS k967 k968 k83 k969) ⟨by decide, by decide, by decide +kernel⟩ ⟨(Nat.le_of_ble_eq_true rfl), (Nat.le_of_ble_eq_true rfl)⟩ rfl hl.1 rfl (Nat.le_of_ble_eq_true rfl) dL_law_730 zx (fun r3 s2 H locs hφ hE hT => ?_)
  have f4 := hφ
  have R5 := hR.ext hE ⟨rfl, rfl, fun _ => rfl, fun _ => rfl, fun _ => rfl, fun _ => rfl⟩
  have a6 : (zI s2 tx 1).toInt = (zI σ tx 1).toInt := by rw [(hTo.k ttx (by decide)).eI hE (by decide) rfl]
  have j7 : zI s2 rB = zI σ rB := (show zI s2 rB = zI σ rB from funext fun k => (hTo.k trB (by decide)).eI hE (by decide) rfl)
  have j8 : zI s2 rT = zI σ rT := (show zI s2 rT = zI σ rT from funext fun k => (hTo.k trT (by decide)).eI hE (by decide) rfl)
  have j9 : zI s2 rI = zI σ rI := (show zI s2 rI = zI σ rI from funext fun k => (hTo.k trI (by decide)).eI hE (by decide) rfl)
  have j10 : zI s2 rK = zI σ rK := (show zI s2 rK = zI σ rK from funext fun k => (hTo.k trK (by decide)).eI hE (by decide) rfl)
  have j11 : zI s2 tx 2 = zI σ tx 2 := (hTo.k ttx (by decide)).eI hE (by decide) rfl
  have j12 : zI s2 tx 3 = zI σ tx 3 := (hTo.k ttx (by decide)).eI hE (by decide) rfl
  have j13 : zI s2 mm 15 = zI σ mm 15 := (hTo.k t_mm (by decide)).eI hE (by decide) rfl
  have j14 : zI s2 mm 16 = zI σ mm 16 := (hTo.k t_mm (by decide)).eI hE (by decide) rfl
  have n15 : ∀ j : Nat, j < 3 → zJ s2 rW j = zJ σ rW j := fun j hj => (hTo.k trW (by decide)).eJ hE (by decide) rfl
  have n16 : zJ s2 rS = zJ σ rS := (show zJ s2 rS = zJ σ rS from funext fun k => (hTo.k trS (by decide)).eJ hE (by decide) rfl)
  rw [enw] at f4
  have nz0 : zI s2 sl0 7 = zI σ sl0 7 ∧ zI s2 sl0 8 = zI σ sl0 8 ∧ zI s2 sl0 9 = zI σ sl0 9 := f4.elim (fun q9 => q9.2.2.2.2.2.2.2 sl0 (fun e9 => d_n0 e9.symm) ksl0) (fun q9 => q9.2.2 sl0 ksl0)
  have nz1 : zI s2 sl1 7 = zI σ sl1 7 ∧ zI s2 sl1 8 = zI σ sl1 8 ∧ zI s2 sl1 9 = zI σ sl1 9 := f4.elim (fun q9 => q9.2.2.2.2.2.2.2 sl1 (fun e9 => d_n1 e9.symm) ksl1) (fun q9 => q9.2.2 sl1 ksl1)
  have as1 : (0 ≤ y1.toInt ∧ y1.toInt ≤ 2 ∧ (zI s2 nw 7).toInt = y1.toInt ∧ (zI s2 nw 8).toInt = (zI σ nw 8).toInt ∧ (zI s2 nw 9).toInt = (zI σ nw 9).toInt) ∨ ((y1.toInt < 0 ∨ 2 < y1.toInt) ∧ (zI s2 nw 7).toInt = (zI σ nw 7).toInt ∧ (zI s2 nw 8).toInt = (zI σ nw 8).toInt ∧ (zI s2 nw 9).toInt = (zI σ nw 9).toInt) := f4.elim (fun q9 => Or.inl ⟨q9.2.1, q9.2.2.1, congrArg Int32.toInt q9.2.2.2.2.1, congrArg Int32.toInt q9.2.2.2.2.2.1, congrArg Int32.toInt q9.2.2.2.2.2.2.1⟩) (fun q9 => Or.inr ⟨q9.2.1, congrArg Int32.toInt (q9.2.2 nw knw).1, congrArg Int32.toInt (q9.2.2 nw knw).2.1, congrArg Int32.toInt (q9.2.2 nw knw).2.2⟩)
  have ao1 : (r3.toInt = 0 ∧ 0 ≤ y1.toInt ∧ y1.toInt ≤ 2 ∧ (zJ s2 out 0).toInt = (zI σ nw 7).toInt) ∨ (r3.toInt = 1 ∧ (y1.toInt < 0 ∨ 2 < y1.toInt)) := f4.elim (fun q9 => Or.inl ⟨q9.1, q9.2.1, q9.2.2.1, q9.2.2.2.1⟩) (fun q9 => Or.inr ⟨q9.1, q9.2.1⟩)
  have a17 : (zI s2 mm 13).toInt = (zI σ mm 13).toInt := by rw [(hTo.k t_mm (by decide)).eI hE (by decide) rfl]
  refine lv_istore (lv' := [(5, .int r3), (4, .int i), (3, .ref out), (2, .ref mm), (1, .ref x), (0, .ref b)]) hx hb dL_law_733 hl (by decide) rfl (fun ls hl => ?_)
  refine lv_aload_n hx hb dL_law_735 rfl (lv_at hl 3 rfl) ?_
  refine lv_aload_n hx hb dL_law_736 rfl (lv_at hl 5 rfl) ?_
  refine lv_iload hx hb dL_law_737 (lv_at hl 1 rfl) ?_
  refine lv_iconst (v := 1) hx hb dL_law_739 (by decide) ?_
  refine lv_iadd hx hb dL_law_740 ?_
  refine g_add (by omega) (by omega) (fun t18 ht18 => ?_)
  refine va_sld hx hb hXs hbl hbA hT.2.2.2 (g_in (by omega) (by omega)) dL_law_741 ?_
  refine ti y1 (by rw [hy1]; exact congrArg xs (show t18.toNatClampNeg = ix i + 1 from by show t18.toInt.toNat = ix i + 1; unfold ix; omega)) ?_
  have hTo := hT
  refine tVi (n := 1) (As := [.int y1]) (rest := []) hx hb hml hown hg hT hK hX (X6_setSplit l (kX κ) s2 mm y1 (hT.k t_mm (by decide)) R5 (by rw [show kR (kX κ) mm 1 = rW from erW, n15 0 (by decide)]; omega) (by rw [show kR (kX κ) mm 1 = rW from erW, n15 0 (by decide)]; omega)) sub_gXs_fA (mwV k1543 k1544 k1545 k92 k1546) ⟨rfl, by decide, by decide, by decide +kernel⟩ ⟨(Nat.le_of_ble_eq_true rfl), (Nat.le_of_ble_eq_true rfl)⟩ (hT.o20 (hT.k t_mm (by decide))) rfl rfl hl.1 rfl (Nat.le_of_ble_eq_true rfl) dL_law_742 zx (fun r20 s19 H locs hφ hE hT => ?_)
  obtain ⟨f21, f22, f23, f24⟩ := hφ
  have a25 : (zI s19 tx 1).toInt = (zI s2 tx 1).toInt := by rw [(hTo.k ttx (by decide)).eI hE (by decide) rfl]
  have j26 : zI s19 rB = zI σ rB := ((show zI s19 rB = zI s2 rB from funext fun k => (hTo.k trB (by decide)).eI hE (by decide) rfl)).trans j7
  have j27 : zI s19 rT = zI σ rT := ((show zI s19 rT = zI s2 rT from funext fun k => (hTo.k trT (by decide)).eI hE (by decide) rfl)).trans j8
  have j28 : zI s19 rI = zI σ rI := ((show zI s19 rI = zI s2 rI from funext fun k => (hTo.k trI (by decide)).eI hE (by decide) rfl)).trans j9
  have j29 : zI s19 rK = zI σ rK := ((show zI s19 rK = zI s2 rK from funext fun k => (hTo.k trK (by decide)).eI hE (by decide) rfl)).trans j10
  have j30 : zI s19 tx 2 = zI σ tx 2 := ((hTo.k ttx (by decide)).eI hE (by decide) rfl).trans j11
  have j31 : zI s19 tx 3 = zI σ tx 3 := ((hTo.k ttx (by decide)).eI hE (by decide) rfl).trans j12
  have j32 : zI s19 mm 15 = zI σ mm 15 := ((hTo.k t_mm (by decide)).eI hE (by decide) rfl).trans j13
  have j33 : zI s19 mm 16 = zI σ mm 16 := ((hTo.k t_mm (by decide)).eI hE (by decide) rfl).trans j14
  have n34 : zI s19 nw 7 = zI s2 nw 7 ∧ zI s19 nw 8 = zI s2 nw 8 ∧ zI s19 nw 9 = zI s2 nw 9 := ⟨(hTo.k tnw (by decide)).eI hE (by decide) rfl, (hTo.k tnw (by decide)).eI hE (by decide) rfl, (hTo.k tnw (by decide)).eI hE (by decide) rfl⟩
  have n35 : zI s19 sl0 7 = zI s2 sl0 7 ∧ zI s19 sl0 8 = zI s2 sl0 8 ∧ zI s19 sl0 9 = zI s2 sl0 9 := ⟨(hTo.k tsl0 (by decide)).eI hE (by decide) rfl, (hTo.k tsl0 (by decide)).eI hE (by decide) rfl, (hTo.k tsl0 (by decide)).eI hE (by decide) rfl⟩
  have n36 : zI s19 sl0 7 = zI σ sl0 7 ∧ zI s19 sl0 8 = zI σ sl0 8 ∧ zI s19 sl0 9 = zI σ sl0 9 := ⟨n35.1.trans nz0.1, n35.2.1.trans nz0.2.1, n35.2.2.trans nz0.2.2⟩
  have n37 : zI s19 sl1 7 = zI s2 sl1 7 ∧ zI s19 sl1 8 = zI s2 sl1 8 ∧ zI s19 sl1 9 = zI s2 sl1 9 := ⟨(hTo.k tsl1 (by decide)).eI hE (by decide) rfl, (hTo.k tsl1 (by decide)).eI hE (by decide) rfl, (hTo.k tsl1 (by decide)).eI hE (by decide) rfl⟩
  have n38 : zI s19 sl1 7 = zI σ sl1 7 ∧ zI s19 sl1 8 = zI σ sl1 8 ∧ zI s19 sl1 9 = zI σ sl1 9 := ⟨n37.1.trans nz1.1, n37.2.1.trans nz1.2.1, n37.2.2.trans nz1.2.2⟩
  have n39 : zJ s19 rS = zJ σ rS := (show zJ s19 rS = zJ s2 rS from funext fun k => (hTo.k trS (by decide)).eJ hE (by decide) rfl).trans n16
  have a40 : (zJ s19 out 0).toInt = (zJ s2 out 0).toInt := by rw [(hTo.k t_out (by decide)).eJ hE (by decide) rfl]
  rw [show kR (kX κ) mm 1 = rW from erW] at f22
  rw [show kR (kX κ) mm 1 = rW from erW] at f23
  rw [show kR (kX κ) mm 1 = rW from erW] at f24
  have sz0 : (zJ s2 rW 0).toInt = (zJ σ rW 0).toInt := congrArg Int64.toInt (n15 0 (by decide))
  have sz1 : (zJ s2 rW 1).toInt = (zJ σ rW 1).toInt := congrArg Int64.toInt (n15 1 (by decide))
  have sz2 : (zJ s2 rW 2).toInt = (zJ σ rW 2).toInt := congrArg Int64.toInt (n15 2 (by decide))
  have as2 : (0 ≤ y1.toInt ∧ y1.toInt ≤ 2 ∧ (zI s19 mm 0).toInt = 0 ∧ (zJ s19 rW 0).toInt = y1.toInt) ∨ ((y1.toInt < 0 ∨ 2 < y1.toInt) ∧ (zI s19 mm 0).toInt = 1 ∧ (zJ s19 rW 0).toInt = (zJ s2 rW 0).toInt) := f22.elim (fun q9 => Or.inl q9) (fun q9 => Or.inr ⟨q9.1, q9.2.1, congrArg Int64.toInt q9.2.2⟩)
  have at1 : (zJ s19 rW 1).toInt = (zJ s2 rW 1).toInt := congrArg Int64.toInt (f23 1 (by decide))
  have at2 : (zJ s19 rW 2).toInt = (zJ s2 rW 2).toInt := congrArg Int64.toInt (f23 2 (by decide))
  have a41 : (zI s19 mm 13).toInt = (zI s2 mm 13).toInt := by rw [(hTo.k t_mm (by decide)).eI hE (by decide) rfl]
  refine lv_istore (lv' := [(6, .int r20), (5, .int r3), (4, .int i), (3, .ref out), (2, .ref mm), (1, .ref x), (0, .ref b)]) hx hb dL_law_745 hl (by decide) rfl (fun ls hl => ?_)
  refine lv_goto (tgt := 1404) hx hb dL_law_747 (by decide) ?_
  have sl0f : zI s19 rI 0 ≠ 0 → SLT κ s19 x mm 0 := fun hq => (hsl 0 (by decide) (fun q9 => hq (by rw [erI] at q9; rw [j28]; exact q9))).tr (by rw [ers5, esl0]; exact n36) (fun j hj => by rw [erS, n39])
  have sl1f : zI s19 rI 1 ≠ 0 → SLT κ s19 x mm 1 := fun hq => (hsl 1 (by decide) (fun q9 => hq (by rw [erI] at q9; rw [j28]; exact q9))).tr (by rw [ers5, esl1]; exact n38) (fun j hj => by rw [erS, n39])
  have v7 := congrArg Int32.toInt n34.1
  have v8 := congrArg Int32.toInt n34.2.1
  have v9 := congrArg Int32.toInt n34.2.2
  exact KK s19 _ _ _ hT f21 ⟨by rw [etx]; omega, ⟨by rw [etx, erB, erT, j26, j27]; exact tal_less hal (by omega), by rw [erT, j27]; exact tnn_less hnn (by omega)⟩, ⟨by rw [etx, j30, j32]; exact hco, by rw [etx, j31, j33]; exact hpo⟩, fun i hi => by rw [erI, erK, j28, j29]; exact hkp i hi⟩ (⟨⟨by rw [enw, erW]; omega, by rw [enw, erW]; omega, by rw [enw, erW]; omega⟩, fun i hi => (show i = 0 ∨ i = 1 by omega).elim (fun e9 => by rw [e9, erI]; exact sl0f) (fun e9 => by rw [e9, erI]; exact sl1f)⟩) (lv_sub hl [2, 3, 4, 5, 6] rfl)
set_option maxHeartbeats 4000000 in
set_option maxRecDepth 100000 in
theorem lc_20 (l : Launch) (κ : Kt) (σ0 : Gh) (x mm out b : Nat) (t_x : zk σ0 x 7) (t_mm : zk σ0 mm 20) (t_out : zk σ0 out 24) (ttx0 : zk σ0 (kR κ x 0) 6) (hdis : DIS κ x) (hlt : l.stackTraces = false) {p : Program} {e : Env} {s : State} {m : MethodId} {below : List Frame} {meth : Method} {c : Code} {L : Nat} {xs : Nat → Int32} {i : Int32} {Q9 : State → Prop} (hx : p.tables.exec = Jvm.exec) (hb : c.code = cL_law) (hml : c.maxLocals = 9) (hown : s.vm.findClass RL = some m.cls) (hg : ∀ w ∈ GW, w.before #[Value.ref b] s = true) (hK : va_K κ.1 vwCl (kTy κ) s) (hX : XY κ (tA σ0 s.heap.size) s s.heap) (hXs : va_X b L xs s s.heap) (hbl : b < s.heap.size) (hbA : ¬ tA σ0 s.heap.size b) (zx : zroomX κ s room_1 601024 7293034) (hi0 : 0 ≤ i.toInt) (hi1 : i.toInt + 6 ≤ L) (hL9 : L ≤ 3072) {σ : Gh} {H : Heap} {locs : List Loc} {ls : Array Slot} (hT : TS κ fA σ0 σ s H locs) (hR : RI κ σ mm) (hrel : LREL κ σ x mm) (hsr : SREL κ σ x mm) (hl : lv_has ls 9 [(4, .int i), (3, .ref out), (2, .ref mm), (1, .ref x), (0, .ref b)]) (KK : ∀ (σ1 : Gh) (H : Heap) (locs : List Loc) (ls : Array Slot), TS (kX κ) fA σ0 σ1 s H locs → RI (kX κ) σ1 mm → LREL κ σ1 x mm → SREL κ σ1 x mm → lv_has ls 9 [(4, .int i), (3, .ref out), (2, .ref mm), (1, .ref x), (0, .ref b)] → W p l e room_1 s m #[Value.ref b] below meth c H locs 601024 7293034 Q9 (F0 m 1404 ls [])) : W p l e room_1 s m #[Value.ref b] below meth c H locs 601024 7293034 Q9 (F0 m 750 ls []) := by
  obtain ⟨y1, hy1⟩ : ∃ z, z = xs (ix i + 1) := ⟨_, rfl⟩
  obtain ⟨y2, hy2⟩ : ∃ z, z = xs (ix i + 2) := ⟨_, rfl⟩
  obtain ⟨y3, hy3⟩ : ∃ z, z = xs (ix i + 3) := ⟨_, rfl⟩
  obtain ⟨y4, hy4⟩ : ∃ z, z = xs (ix i + 4) := ⟨_, rfl⟩
  obtain ⟨y5, hy5⟩ : ∃ z, z = xs (ix i + 5) := ⟨_, rfl⟩
  have n0 : (0 : Int32).toInt = 0 := by decide
  have n1 : (1 : Int32).toInt = 1 := by decide
  have n2 : (2 : Int32).toInt = 2 := by decide
  have n3 : (3 : Int32).toInt = 3 := by decide
  have n4 : (4 : Int32).toInt = 4 := by decide
  have n5 : (5 : Int32).toInt = 5 := by decide
  obtain ⟨tx, etx⟩ : ∃ z, kR κ x 0 = z := ⟨_, rfl⟩
  have ttx : zk σ0 tx 6 := by rw [← etx]; exact ttx0
  obtain ⟨rB, erB⟩ : ∃ z, kR κ tx 0 = z := ⟨_, rfl⟩
  have trB : zk σ0 rB 14 := by rw [← erB]; exact hT.kr (hT.ref (hT.k ttx (by decide)) (by decide) (by decide) (by decide)) (by decide) (by decide)
  obtain ⟨rT, erT⟩ : ∃ z, kR κ mm 12 = z := ⟨_, rfl⟩
  have trT : zk σ0 rT 23 := by rw [← erT]; exact hT.kr (hT.ref (hT.k t_mm (by decide)) (by decide) (by decide) (by decide)) (by decide) (by decide)
  obtain ⟨rI, erI⟩ : ∃ z, kR κ x 6 = z := ⟨_, rfl⟩
  have trI : zk σ0 rI 13 := by rw [← erI]; exact hT.kr (hT.ref (hT.k t_x (by decide)) (by decide) (by decide) (by decide)) (by decide) (by decide)
  obtain ⟨rK, erK⟩ : ∃ z, kR κ mm 4 = z := ⟨_, rfl⟩
  have trK : zk σ0 rK 29 := by rw [← erK]; exact hT.kr (hT.ref (hT.k t_mm (by decide)) (by decide) (by decide) (by decide)) (by decide) (by decide)
  obtain ⟨hlen, ⟨hal, hnn⟩, ⟨hco, hpo⟩, hkp⟩ := hrel
  rw [etx] at hlen hal hco hpo
  rw [erB, erT] at hal
  rw [erT] at hnn
  rw [erI, erK] at hkp
  have btx := (hT.P (hT.k ttx (by decide)) (by decide)).1
  have btxl := btx.1
  have btxh := btx.2
  obtain ⟨nw, enw⟩ : ∃ z, kR κ x 3 = z := ⟨_, rfl⟩
  have tnw : zk σ0 nw 3 := by rw [← enw]; exact hT.kr (hT.ref (hT.k t_x (by decide)) (by decide) (by decide) (by decide)) (by decide) (by decide)
  obtain ⟨tr, etr⟩ : ∃ z, kR κ x 4 = z := ⟨_, rfl⟩
  have ttr : zk σ0 tr 3 := by rw [← etr]; exact hT.kr (hT.ref (hT.k t_x (by decide)) (by decide) (by decide) (by decide)) (by decide) (by decide)
  obtain ⟨rs5, ers5⟩ : ∃ z, kR κ x 5 = z := ⟨_, rfl⟩
  have trs5 : zk σ0 rs5 12 := by rw [← ers5]; exact hT.kr (hT.ref (hT.k t_x (by decide)) (by decide) (by decide) (by decide)) (by decide) (by decide)
  obtain ⟨sl0, esl0⟩ : ∃ z, kR κ rs5 0 = z := ⟨_, rfl⟩
  have tsl0 : zk σ0 sl0 3 := by rw [← esl0]; exact hT.kr (hT.ref (hT.k trs5 (by decide)) (by decide) (by decide) (by decide)) (by decide) (by decide)
  obtain ⟨sl1, esl1⟩ : ∃ z, kR κ rs5 1 = z := ⟨_, rfl⟩
  have tsl1 : zk σ0 sl1 3 := by rw [← esl1]; exact hT.kr (hT.ref (hT.k trs5 (by decide)) (by decide) (by decide) (by decide)) (by decide) (by decide)
  obtain ⟨rW, erW⟩ : ∃ z, kR κ mm 1 = z := ⟨_, rfl⟩
  have trW : zk σ0 rW 21 := by rw [← erW]; exact hT.kr (hT.ref (hT.k t_mm (by decide)) (by decide) (by decide) (by decide)) (by decide) (by decide)
  obtain ⟨rS, erS⟩ : ∃ z, kR κ mm 3 = z := ⟨_, rfl⟩
  have trS : zk σ0 rS 22 := by rw [← erS]; exact hT.kr (hT.ref (hT.k t_mm (by decide)) (by decide) (by decide) (by decide)) (by decide) (by decide)
  obtain ⟨hnw, hsl⟩ := hsr
  obtain ⟨hd1, ⟨hd2, hd3⟩, hd4, hd5⟩ := hdis
  have d_nt : nw ≠ tr := by rw [← enw, ← etr]; exact hd2
  have d_n0 : nw ≠ sl0 := by rw [← enw, ← esl0, ← ers5]; exact hd3 0 (by decide)
  have d_t0 : sl0 ≠ tr := by rw [← etr, ← esl0, ← ers5]; exact fun q => hd4 0 (by decide) q.symm
  have d_n1 : nw ≠ sl1 := by rw [← enw, ← esl1, ← ers5]; exact hd3 1 (by decide)
  have d_t1 : sl1 ≠ tr := by rw [← etr, ← esl1, ← ers5]; exact fun q => hd4 1 (by decide) q.symm
  have d_01 : sl0 ≠ sl1 := by rw [← esl0, ← esl1, ← ers5]; exact hd5
  have knw : zk σ nw 3 := hT.k tnw (by decide)
  have ksl0 : zk σ sl0 3 := hT.k tsl0 (by decide)
  have ksl1 : zk σ sl1 3 := hT.k tsl1 (by decide)
  have hw7 : (zI σ nw 7).toInt = (zJ σ rW 0).toInt := by rw [← enw, ← erW]; exact hnw.1
  have hb7 := Int32.le_toInt (zI σ nw 7)
  have hc7 := Int32.toInt_lt (zI σ nw 7)
  have hw8 : (zI σ nw 8).toInt = (zJ σ rW 1).toInt := by rw [← enw, ← erW]; exact hnw.2.1
  have hb8 := Int32.le_toInt (zI σ nw 8)
  have hc8 := Int32.toInt_lt (zI σ nw 8)
  have hw9 : (zI σ nw 9).toInt = (zJ σ rW 2).toInt := by rw [← enw, ← erW]; exact hnw.2.2
  have hb9 := Int32.le_toInt (zI σ nw 9)
  have hc9 := Int32.toInt_lt (zI σ nw 9)
  refine lv_aload_n hx hb dL_law_750 rfl (lv_at hl 3 rfl) ?_
  refine lv_aload_n hx hb dL_law_751 rfl (lv_at hl 4 rfl) ?_
  refine lv_iload hx hb dL_law_752 (lv_at hl 0 rfl) ?_
  refine lv_iconst (v := 1) hx hb dL_law_754 (by decide) ?_
  refine lv_iadd hx hb dL_law_755 ?_
  refine g_add (by omega) (by omega) (fun t1 ht1 => ?_)
  refine va_sld hx hb hXs hbl hbA hT.2.2.2 (g_in (by omega) (by omega)) dL_law_756 ?_
  refine ti y1 (by rw [hy1]; exact congrArg xs (show t1.toNatClampNeg = ix i + 1 from by show t1.toInt.toNat = ix i + 1; unfold ix; omega)) ?_
  refine lv_aload_n hx hb dL_law_757 rfl (lv_at hl 1 rfl) ?_
  have hTo := hT
  refine tHi (n := 3) (As := [.ref x, .int y1, .ref out]) (rest := []) hx hb hml hown hg hT hK hX (L_setPredict l κ σ x y1 out (hT.k t_x (by decide)) (hT.k t_out (by decide)) hlt) sub_hfSet_fA (mwHS k974 k975 k83 k976) ⟨by decide, by decide, by decide +kernel⟩ ⟨(Nat.le_of_ble_eq_true rfl), (Nat.le_of_ble_eq_true rfl)⟩ rfl hl.1 rfl (Nat.le_of_ble_eq_true rfl) dL_law_758 zx (fun r3 s2 H locs hφ hE hT => ?_)
  have f4 := hφ
  have R5 := hR.ext hE ⟨rfl, rfl, fun _ => rfl, fun _ => rfl, fun _ => rfl, fun _ => rfl⟩
  have a6 : (zI s2 tx 1).toInt = (zI σ tx 1).toInt := by rw [(hTo.k ttx (by decide)).eI hE (by decide) rfl]
  have j7 : zI s2 rB = zI σ rB := (show zI s2 rB = zI σ rB from funext fun k => (hTo.k trB (by decide)).eI hE (by decide) rfl)
  have j8 : zI s2 rT = zI σ rT := (show zI s2 rT = zI σ rT from funext fun k => (hTo.k trT (by decide)).eI hE (by decide) rfl)
  have j9 : zI s2 rI = zI σ rI := (show zI s2 rI = zI σ rI from funext fun k => (hTo.k trI (by decide)).eI hE (by decide) rfl)
  have j10 : zI s2 rK = zI σ rK := (show zI s2 rK = zI σ rK from funext fun k => (hTo.k trK (by decide)).eI hE (by decide) rfl)
  have j11 : zI s2 tx 2 = zI σ tx 2 := (hTo.k ttx (by decide)).eI hE (by decide) rfl
  have j12 : zI s2 tx 3 = zI σ tx 3 := (hTo.k ttx (by decide)).eI hE (by decide) rfl
  have j13 : zI s2 mm 15 = zI σ mm 15 := (hTo.k t_mm (by decide)).eI hE (by decide) rfl
  have j14 : zI s2 mm 16 = zI σ mm 16 := (hTo.k t_mm (by decide)).eI hE (by decide) rfl
  have n15 : ∀ j : Nat, j < 3 → zJ s2 rW j = zJ σ rW j := fun j hj => (hTo.k trW (by decide)).eJ hE (by decide) rfl
  have n16 : zJ s2 rS = zJ σ rS := (show zJ s2 rS = zJ σ rS from funext fun k => (hTo.k trS (by decide)).eJ hE (by decide) rfl)
  rw [enw] at f4
  have nz0 : zI s2 sl0 7 = zI σ sl0 7 ∧ zI s2 sl0 8 = zI σ sl0 8 ∧ zI s2 sl0 9 = zI σ sl0 9 := f4.elim (fun q9 => q9.2.2.2.2.2.2.2 sl0 (fun e9 => d_n0 e9.symm) ksl0) (fun q9 => q9.2.2 sl0 ksl0)
  have nz1 : zI s2 sl1 7 = zI σ sl1 7 ∧ zI s2 sl1 8 = zI σ sl1 8 ∧ zI s2 sl1 9 = zI σ sl1 9 := f4.elim (fun q9 => q9.2.2.2.2.2.2.2 sl1 (fun e9 => d_n1 e9.symm) ksl1) (fun q9 => q9.2.2 sl1 ksl1)
  have as1 : (0 ≤ y1.toInt ∧ y1.toInt ≤ 2 ∧ (zI s2 nw 8).toInt = y1.toInt ∧ (zI s2 nw 7).toInt = (zI σ nw 7).toInt ∧ (zI s2 nw 9).toInt = (zI σ nw 9).toInt) ∨ ((y1.toInt < 0 ∨ 2 < y1.toInt) ∧ (zI s2 nw 8).toInt = (zI σ nw 8).toInt ∧ (zI s2 nw 7).toInt = (zI σ nw 7).toInt ∧ (zI s2 nw 9).toInt = (zI σ nw 9).toInt) := f4.elim (fun q9 => Or.inl ⟨q9.2.1, q9.2.2.1, congrArg Int32.toInt q9.2.2.2.2.1, congrArg Int32.toInt q9.2.2.2.2.2.1, congrArg Int32.toInt q9.2.2.2.2.2.2.1⟩) (fun q9 => Or.inr ⟨q9.2.1, congrArg Int32.toInt (q9.2.2 nw knw).2.1, congrArg Int32.toInt (q9.2.2 nw knw).1, congrArg Int32.toInt (q9.2.2 nw knw).2.2⟩)
  have ao1 : (r3.toInt = 0 ∧ 0 ≤ y1.toInt ∧ y1.toInt ≤ 2 ∧ (zJ s2 out 0).toInt = (zI σ nw 8).toInt) ∨ (r3.toInt = 1 ∧ (y1.toInt < 0 ∨ 2 < y1.toInt)) := f4.elim (fun q9 => Or.inl ⟨q9.1, q9.2.1, q9.2.2.1, q9.2.2.2.1⟩) (fun q9 => Or.inr ⟨q9.1, q9.2.1⟩)
  have a17 : (zI s2 mm 13).toInt = (zI σ mm 13).toInt := by rw [(hTo.k t_mm (by decide)).eI hE (by decide) rfl]
  refine lv_istore (lv' := [(5, .int r3), (4, .int i), (3, .ref out), (2, .ref mm), (1, .ref x), (0, .ref b)]) hx hb dL_law_761 hl (by decide) rfl (fun ls hl => ?_)
  refine lv_aload_n hx hb dL_law_763 rfl (lv_at hl 3 rfl) ?_
  refine lv_aload_n hx hb dL_law_764 rfl (lv_at hl 5 rfl) ?_
  refine lv_iload hx hb dL_law_765 (lv_at hl 1 rfl) ?_
  refine lv_iconst (v := 1) hx hb dL_law_767 (by decide) ?_
  refine lv_iadd hx hb dL_law_768 ?_
  refine g_add (by omega) (by omega) (fun t18 ht18 => ?_)
  refine va_sld hx hb hXs hbl hbA hT.2.2.2 (g_in (by omega) (by omega)) dL_law_769 ?_
  refine ti y1 (by rw [hy1]; exact congrArg xs (show t18.toNatClampNeg = ix i + 1 from by show t18.toInt.toNat = ix i + 1; unfold ix; omega)) ?_
  have hTo := hT
  refine tVi (n := 1) (As := [.int y1]) (rest := []) hx hb hml hown hg hT hK hX (X6_setPredict l (kX κ) s2 mm y1 (hT.k t_mm (by decide)) R5 (by rw [show kR (kX κ) mm 1 = rW from erW, n15 1 (by decide)]; omega) (by rw [show kR (kX κ) mm 1 = rW from erW, n15 1 (by decide)]; omega)) sub_gXs_fA (mwV k1551 k1552 k1553 k92 k1554) ⟨rfl, by decide, by decide, by decide +kernel⟩ ⟨(Nat.le_of_ble_eq_true rfl), (Nat.le_of_ble_eq_true rfl)⟩ (hT.o20 (hT.k t_mm (by decide))) rfl rfl hl.1 rfl (Nat.le_of_ble_eq_true rfl) dL_law_770 zx (fun r20 s19 H locs hφ hE hT => ?_)
  obtain ⟨f21, f22, f23, f24⟩ := hφ
  have a25 : (zI s19 tx 1).toInt = (zI s2 tx 1).toInt := by rw [(hTo.k ttx (by decide)).eI hE (by decide) rfl]
  have j26 : zI s19 rB = zI σ rB := ((show zI s19 rB = zI s2 rB from funext fun k => (hTo.k trB (by decide)).eI hE (by decide) rfl)).trans j7
  have j27 : zI s19 rT = zI σ rT := ((show zI s19 rT = zI s2 rT from funext fun k => (hTo.k trT (by decide)).eI hE (by decide) rfl)).trans j8
  have j28 : zI s19 rI = zI σ rI := ((show zI s19 rI = zI s2 rI from funext fun k => (hTo.k trI (by decide)).eI hE (by decide) rfl)).trans j9
  have j29 : zI s19 rK = zI σ rK := ((show zI s19 rK = zI s2 rK from funext fun k => (hTo.k trK (by decide)).eI hE (by decide) rfl)).trans j10
  have j30 : zI s19 tx 2 = zI σ tx 2 := ((hTo.k ttx (by decide)).eI hE (by decide) rfl).trans j11
  have j31 : zI s19 tx 3 = zI σ tx 3 := ((hTo.k ttx (by decide)).eI hE (by decide) rfl).trans j12
  have j32 : zI s19 mm 15 = zI σ mm 15 := ((hTo.k t_mm (by decide)).eI hE (by decide) rfl).trans j13
  have j33 : zI s19 mm 16 = zI σ mm 16 := ((hTo.k t_mm (by decide)).eI hE (by decide) rfl).trans j14
  have n34 : zI s19 nw 7 = zI s2 nw 7 ∧ zI s19 nw 8 = zI s2 nw 8 ∧ zI s19 nw 9 = zI s2 nw 9 := ⟨(hTo.k tnw (by decide)).eI hE (by decide) rfl, (hTo.k tnw (by decide)).eI hE (by decide) rfl, (hTo.k tnw (by decide)).eI hE (by decide) rfl⟩
  have n35 : zI s19 sl0 7 = zI s2 sl0 7 ∧ zI s19 sl0 8 = zI s2 sl0 8 ∧ zI s19 sl0 9 = zI s2 sl0 9 := ⟨(hTo.k tsl0 (by decide)).eI hE (by decide) rfl, (hTo.k tsl0 (by decide)).eI hE (by decide) rfl, (hTo.k tsl0 (by decide)).eI hE (by decide) rfl⟩
  have n36 : zI s19 sl0 7 = zI σ sl0 7 ∧ zI s19 sl0 8 = zI σ sl0 8 ∧ zI s19 sl0 9 = zI σ sl0 9 := ⟨n35.1.trans nz0.1, n35.2.1.trans nz0.2.1, n35.2.2.trans nz0.2.2⟩
  have n37 : zI s19 sl1 7 = zI s2 sl1 7 ∧ zI s19 sl1 8 = zI s2 sl1 8 ∧ zI s19 sl1 9 = zI s2 sl1 9 := ⟨(hTo.k tsl1 (by decide)).eI hE (by decide) rfl, (hTo.k tsl1 (by decide)).eI hE (by decide) rfl, (hTo.k tsl1 (by decide)).eI hE (by decide) rfl⟩
  have n38 : zI s19 sl1 7 = zI σ sl1 7 ∧ zI s19 sl1 8 = zI σ sl1 8 ∧ zI s19 sl1 9 = zI σ sl1 9 := ⟨n37.1.trans nz1.1, n37.2.1.trans nz1.2.1, n37.2.2.trans nz1.2.2⟩
  have n39 : zJ s19 rS = zJ σ rS := (show zJ s19 rS = zJ s2 rS from funext fun k => (hTo.k trS (by decide)).eJ hE (by decide) rfl).trans n16
  have a40 : (zJ s19 out 0).toInt = (zJ s2 out 0).toInt := by rw [(hTo.k t_out (by decide)).eJ hE (by decide) rfl]
  rw [show kR (kX κ) mm 1 = rW from erW] at f22
  rw [show kR (kX κ) mm 1 = rW from erW] at f23
  rw [show kR (kX κ) mm 1 = rW from erW] at f24
  have sz0 : (zJ s2 rW 0).toInt = (zJ σ rW 0).toInt := congrArg Int64.toInt (n15 0 (by decide))
  have sz1 : (zJ s2 rW 1).toInt = (zJ σ rW 1).toInt := congrArg Int64.toInt (n15 1 (by decide))
  have sz2 : (zJ s2 rW 2).toInt = (zJ σ rW 2).toInt := congrArg Int64.toInt (n15 2 (by decide))
  have as2 : (0 ≤ y1.toInt ∧ y1.toInt ≤ 2 ∧ (zI s19 mm 0).toInt = 0 ∧ (zJ s19 rW 1).toInt = y1.toInt) ∨ ((y1.toInt < 0 ∨ 2 < y1.toInt) ∧ (zI s19 mm 0).toInt = 1 ∧ (zJ s19 rW 1).toInt = (zJ s2 rW 1).toInt) := f22.elim (fun q9 => Or.inl q9) (fun q9 => Or.inr ⟨q9.1, q9.2.1, congrArg Int64.toInt q9.2.2⟩)
  have at0 : (zJ s19 rW 0).toInt = (zJ s2 rW 0).toInt := congrArg Int64.toInt (f23 0 (by decide))
  have at2 : (zJ s19 rW 2).toInt = (zJ s2 rW 2).toInt := congrArg Int64.toInt (f23 2 (by decide))
  have a41 : (zI s19 mm 13).toInt = (zI s2 mm 13).toInt := by rw [(hTo.k t_mm (by decide)).eI hE (by decide) rfl]
  refine lv_istore (lv' := [(6, .int r20), (5, .int r3), (4, .int i), (3, .ref out), (2, .ref mm), (1, .ref x), (0, .ref b)]) hx hb dL_law_773 hl (by decide) rfl (fun ls hl => ?_)
  refine lv_goto (tgt := 1404) hx hb dL_law_775 (by decide) ?_
  have sl0f : zI s19 rI 0 ≠ 0 → SLT κ s19 x mm 0 := fun hq => (hsl 0 (by decide) (fun q9 => hq (by rw [erI] at q9; rw [j28]; exact q9))).tr (by rw [ers5, esl0]; exact n36) (fun j hj => by rw [erS, n39])
  have sl1f : zI s19 rI 1 ≠ 0 → SLT κ s19 x mm 1 := fun hq => (hsl 1 (by decide) (fun q9 => hq (by rw [erI] at q9; rw [j28]; exact q9))).tr (by rw [ers5, esl1]; exact n38) (fun j hj => by rw [erS, n39])
  have v7 := congrArg Int32.toInt n34.1
  have v8 := congrArg Int32.toInt n34.2.1
  have v9 := congrArg Int32.toInt n34.2.2
  exact KK s19 _ _ _ hT f21 ⟨by rw [etx]; omega, ⟨by rw [etx, erB, erT, j26, j27]; exact tal_less hal (by omega), by rw [erT, j27]; exact tnn_less hnn (by omega)⟩, ⟨by rw [etx, j30, j32]; exact hco, by rw [etx, j31, j33]; exact hpo⟩, fun i hi => by rw [erI, erK, j28, j29]; exact hkp i hi⟩ (⟨⟨by rw [enw, erW]; omega, by rw [enw, erW]; omega, by rw [enw, erW]; omega⟩, fun i hi => (show i = 0 ∨ i = 1 by omega).elim (fun e9 => by rw [e9, erI]; exact sl0f) (fun e9 => by rw [e9, erI]; exact sl1f)⟩) (lv_sub hl [2, 3, 4, 5, 6] rfl)
set_option maxHeartbeats 4000000 in
set_option maxRecDepth 100000 in
theorem lc_21 (l : Launch) (κ : Kt) (σ0 : Gh) (x mm out b : Nat) (t_x : zk σ0 x 7) (t_mm : zk σ0 mm 20) (t_out : zk σ0 out 24) (ttx0 : zk σ0 (kR κ x 0) 6) (hdis : DIS κ x) (hlt : l.stackTraces = false) {p : Program} {e : Env} {s : State} {m : MethodId} {below : List Frame} {meth : Method} {c : Code} {L : Nat} {xs : Nat → Int32} {i : Int32} {Q9 : State → Prop} (hx : p.tables.exec = Jvm.exec) (hb : c.code = cL_law) (hml : c.maxLocals = 9) (hown : s.vm.findClass RL = some m.cls) (hg : ∀ w ∈ GW, w.before #[Value.ref b] s = true) (hK : va_K κ.1 vwCl (kTy κ) s) (hX : XY κ (tA σ0 s.heap.size) s s.heap) (hXs : va_X b L xs s s.heap) (hbl : b < s.heap.size) (hbA : ¬ tA σ0 s.heap.size b) (zx : zroomX κ s room_1 601024 7293034) (hi0 : 0 ≤ i.toInt) (hi1 : i.toInt + 6 ≤ L) (hL9 : L ≤ 3072) {σ : Gh} {H : Heap} {locs : List Loc} {ls : Array Slot} (hT : TS κ fA σ0 σ s H locs) (hR : RI κ σ mm) (hrel : LREL κ σ x mm) (hsr : SREL κ σ x mm) (hl : lv_has ls 9 [(4, .int i), (3, .ref out), (2, .ref mm), (1, .ref x), (0, .ref b)]) (KK : ∀ (σ1 : Gh) (H : Heap) (locs : List Loc) (ls : Array Slot), TS (kX κ) fA σ0 σ1 s H locs → RI (kX κ) σ1 mm → LREL κ σ1 x mm → SREL κ σ1 x mm → lv_has ls 9 [(4, .int i), (3, .ref out), (2, .ref mm), (1, .ref x), (0, .ref b)] → W p l e room_1 s m #[Value.ref b] below meth c H locs 601024 7293034 Q9 (F0 m 1404 ls [])) : W p l e room_1 s m #[Value.ref b] below meth c H locs 601024 7293034 Q9 (F0 m 778 ls []) := by
  obtain ⟨y1, hy1⟩ : ∃ z, z = xs (ix i + 1) := ⟨_, rfl⟩
  obtain ⟨y2, hy2⟩ : ∃ z, z = xs (ix i + 2) := ⟨_, rfl⟩
  obtain ⟨y3, hy3⟩ : ∃ z, z = xs (ix i + 3) := ⟨_, rfl⟩
  obtain ⟨y4, hy4⟩ : ∃ z, z = xs (ix i + 4) := ⟨_, rfl⟩
  obtain ⟨y5, hy5⟩ : ∃ z, z = xs (ix i + 5) := ⟨_, rfl⟩
  have n0 : (0 : Int32).toInt = 0 := by decide
  have n1 : (1 : Int32).toInt = 1 := by decide
  have n2 : (2 : Int32).toInt = 2 := by decide
  have n3 : (3 : Int32).toInt = 3 := by decide
  have n4 : (4 : Int32).toInt = 4 := by decide
  have n5 : (5 : Int32).toInt = 5 := by decide
  obtain ⟨tx, etx⟩ : ∃ z, kR κ x 0 = z := ⟨_, rfl⟩
  have ttx : zk σ0 tx 6 := by rw [← etx]; exact ttx0
  obtain ⟨rB, erB⟩ : ∃ z, kR κ tx 0 = z := ⟨_, rfl⟩
  have trB : zk σ0 rB 14 := by rw [← erB]; exact hT.kr (hT.ref (hT.k ttx (by decide)) (by decide) (by decide) (by decide)) (by decide) (by decide)
  obtain ⟨rT, erT⟩ : ∃ z, kR κ mm 12 = z := ⟨_, rfl⟩
  have trT : zk σ0 rT 23 := by rw [← erT]; exact hT.kr (hT.ref (hT.k t_mm (by decide)) (by decide) (by decide) (by decide)) (by decide) (by decide)
  obtain ⟨rI, erI⟩ : ∃ z, kR κ x 6 = z := ⟨_, rfl⟩
  have trI : zk σ0 rI 13 := by rw [← erI]; exact hT.kr (hT.ref (hT.k t_x (by decide)) (by decide) (by decide) (by decide)) (by decide) (by decide)
  obtain ⟨rK, erK⟩ : ∃ z, kR κ mm 4 = z := ⟨_, rfl⟩
  have trK : zk σ0 rK 29 := by rw [← erK]; exact hT.kr (hT.ref (hT.k t_mm (by decide)) (by decide) (by decide) (by decide)) (by decide) (by decide)
  obtain ⟨hlen, ⟨hal, hnn⟩, ⟨hco, hpo⟩, hkp⟩ := hrel
  rw [etx] at hlen hal hco hpo
  rw [erB, erT] at hal
  rw [erT] at hnn
  rw [erI, erK] at hkp
  have btx := (hT.P (hT.k ttx (by decide)) (by decide)).1
  have btxl := btx.1
  have btxh := btx.2
  obtain ⟨nw, enw⟩ : ∃ z, kR κ x 3 = z := ⟨_, rfl⟩
  have tnw : zk σ0 nw 3 := by rw [← enw]; exact hT.kr (hT.ref (hT.k t_x (by decide)) (by decide) (by decide) (by decide)) (by decide) (by decide)
  obtain ⟨tr, etr⟩ : ∃ z, kR κ x 4 = z := ⟨_, rfl⟩
  have ttr : zk σ0 tr 3 := by rw [← etr]; exact hT.kr (hT.ref (hT.k t_x (by decide)) (by decide) (by decide) (by decide)) (by decide) (by decide)
  obtain ⟨rs5, ers5⟩ : ∃ z, kR κ x 5 = z := ⟨_, rfl⟩
  have trs5 : zk σ0 rs5 12 := by rw [← ers5]; exact hT.kr (hT.ref (hT.k t_x (by decide)) (by decide) (by decide) (by decide)) (by decide) (by decide)
  obtain ⟨sl0, esl0⟩ : ∃ z, kR κ rs5 0 = z := ⟨_, rfl⟩
  have tsl0 : zk σ0 sl0 3 := by rw [← esl0]; exact hT.kr (hT.ref (hT.k trs5 (by decide)) (by decide) (by decide) (by decide)) (by decide) (by decide)
  obtain ⟨sl1, esl1⟩ : ∃ z, kR κ rs5 1 = z := ⟨_, rfl⟩
  have tsl1 : zk σ0 sl1 3 := by rw [← esl1]; exact hT.kr (hT.ref (hT.k trs5 (by decide)) (by decide) (by decide) (by decide)) (by decide) (by decide)
  obtain ⟨rW, erW⟩ : ∃ z, kR κ mm 1 = z := ⟨_, rfl⟩
  have trW : zk σ0 rW 21 := by rw [← erW]; exact hT.kr (hT.ref (hT.k t_mm (by decide)) (by decide) (by decide) (by decide)) (by decide) (by decide)
  obtain ⟨rS, erS⟩ : ∃ z, kR κ mm 3 = z := ⟨_, rfl⟩
  have trS : zk σ0 rS 22 := by rw [← erS]; exact hT.kr (hT.ref (hT.k t_mm (by decide)) (by decide) (by decide) (by decide)) (by decide) (by decide)
  obtain ⟨hnw, hsl⟩ := hsr
  obtain ⟨hd1, ⟨hd2, hd3⟩, hd4, hd5⟩ := hdis
  have d_nt : nw ≠ tr := by rw [← enw, ← etr]; exact hd2
  have d_n0 : nw ≠ sl0 := by rw [← enw, ← esl0, ← ers5]; exact hd3 0 (by decide)
  have d_t0 : sl0 ≠ tr := by rw [← etr, ← esl0, ← ers5]; exact fun q => hd4 0 (by decide) q.symm
  have d_n1 : nw ≠ sl1 := by rw [← enw, ← esl1, ← ers5]; exact hd3 1 (by decide)
  have d_t1 : sl1 ≠ tr := by rw [← etr, ← esl1, ← ers5]; exact fun q => hd4 1 (by decide) q.symm
  have d_01 : sl0 ≠ sl1 := by rw [← esl0, ← esl1, ← ers5]; exact hd5
  have knw : zk σ nw 3 := hT.k tnw (by decide)
  have ksl0 : zk σ sl0 3 := hT.k tsl0 (by decide)
  have ksl1 : zk σ sl1 3 := hT.k tsl1 (by decide)
  have hw7 : (zI σ nw 7).toInt = (zJ σ rW 0).toInt := by rw [← enw, ← erW]; exact hnw.1
  have hb7 := Int32.le_toInt (zI σ nw 7)
  have hc7 := Int32.toInt_lt (zI σ nw 7)
  have hw8 : (zI σ nw 8).toInt = (zJ σ rW 1).toInt := by rw [← enw, ← erW]; exact hnw.2.1
  have hb8 := Int32.le_toInt (zI σ nw 8)
  have hc8 := Int32.toInt_lt (zI σ nw 8)
  have hw9 : (zI σ nw 9).toInt = (zJ σ rW 2).toInt := by rw [← enw, ← erW]; exact hnw.2.2
  have hb9 := Int32.le_toInt (zI σ nw 9)
  have hc9 := Int32.toInt_lt (zI σ nw 9)
  refine lv_aload_n hx hb dL_law_778 rfl (lv_at hl 3 rfl) ?_
  refine lv_aload_n hx hb dL_law_779 rfl (lv_at hl 4 rfl) ?_
  refine lv_iload hx hb dL_law_780 (lv_at hl 0 rfl) ?_
  refine lv_iconst (v := 1) hx hb dL_law_782 (by decide) ?_
  refine lv_iadd hx hb dL_law_783 ?_
  refine g_add (by omega) (by omega) (fun t1 ht1 => ?_)
  refine va_sld hx hb hXs hbl hbA hT.2.2.2 (g_in (by omega) (by omega)) dL_law_784 ?_
  refine ti y1 (by rw [hy1]; exact congrArg xs (show t1.toNatClampNeg = ix i + 1 from by show t1.toInt.toNat = ix i + 1; unfold ix; omega)) ?_
  refine lv_if_eq (tgt := 792) hx hb dL_law_785 (by decide) (fun c9 => ?_) (fun c9 => ?_)
  · have c7 := gi_eq c9
    refine lv_iconst (v := 0) hx hb dL_law_792 (by decide) ?_
    have hTo := hT
    refine tVi (n := 1) (As := [.int 0]) (rest := []) hx hb hml hown hg hT hK hX (X5t_setUpdate l κ σ x 0 (hT.k t_x (by decide)) isB0) sub_fSet_fA (mwV k510 k511 k512 k84 k513) ⟨rfl, by decide, by decide, by decide +kernel⟩ ⟨(Nat.le_of_ble_eq_true rfl), (Nat.le_of_ble_eq_true rfl)⟩ (hT.o7 (hT.k t_x (by decide))) rfl rfl hl.1 rfl (Nat.le_of_ble_eq_true rfl) dL_law_793 zx.dn (fun r3 s2 H locs hφ hE hT => ?_)
    obtain ⟨f4, f5, f6, f7, f8, f9⟩ := hφ
    have R10 := hR.ext hE ⟨rfl, rfl, fun _ => rfl, fun _ => rfl, fun _ => rfl, fun _ => rfl⟩
    have a11 : (zI s2 tx 1).toInt = (zI σ tx 1).toInt := by rw [(hTo.k ttx (by decide)).eI hE (by decide) rfl]
    have j12 : zI s2 rB = zI σ rB := (show zI s2 rB = zI σ rB from funext fun k => (hTo.k trB (by decide)).eI hE (by decide) rfl)
    have j13 : zI s2 rT = zI σ rT := (show zI s2 rT = zI σ rT from funext fun k => (hTo.k trT (by decide)).eI hE (by decide) rfl)
    have j14 : zI s2 rI = zI σ rI := (show zI s2 rI = zI σ rI from funext fun k => (hTo.k trI (by decide)).eI hE (by decide) rfl)
    have j15 : zI s2 rK = zI σ rK := (show zI s2 rK = zI σ rK from funext fun k => (hTo.k trK (by decide)).eI hE (by decide) rfl)
    have j16 : zI s2 tx 2 = zI σ tx 2 := (hTo.k ttx (by decide)).eI hE (by decide) rfl
    have j17 : zI s2 tx 3 = zI σ tx 3 := (hTo.k ttx (by decide)).eI hE (by decide) rfl
    have j18 : zI s2 mm 15 = zI σ mm 15 := (hTo.k t_mm (by decide)).eI hE (by decide) rfl
    have j19 : zI s2 mm 16 = zI σ mm 16 := (hTo.k t_mm (by decide)).eI hE (by decide) rfl
    have f89 := f8
    try rw [etr] at f89
    try rw [enw] at f89
    have n20 : zI s2 sl0 7 = zI σ sl0 7 ∧ zI s2 sl0 8 = zI σ sl0 8 ∧ zI s2 sl0 9 = zI σ sl0 9 := f89 sl0 (fun q => d_n0 q.symm) (hTo.k tsl0 (by decide))
    have n21 : zI s2 sl1 7 = zI σ sl1 7 ∧ zI s2 sl1 8 = zI σ sl1 8 ∧ zI s2 sl1 9 = zI σ sl1 9 := f89 sl1 (fun q => d_n1 q.symm) (hTo.k tsl1 (by decide))
    have n22 : ∀ j : Nat, j < 3 → zJ s2 rW j = zJ σ rW j := fun j hj => (hTo.k trW (by decide)).eJ hE (by decide) rfl
    have n23 : zJ s2 rS = zJ σ rS := (show zJ s2 rS = zJ σ rS from funext fun k => (hTo.k trS (by decide)).eJ hE (by decide) rfl)
    rw [enw] at f4
    rw [enw] at f5
    rw [enw] at f6
    rw [enw] at f7
    have as0 : r3.toInt = (zI σ nw 9).toInt := congrArg Int32.toInt f4
    have as9 := congrArg Int32.toInt f5
    have as7 := congrArg Int32.toInt f6
    have as8 := congrArg Int32.toInt f7
    have asb := isB_t f9
    have a24 : (zI s2 mm 13).toInt = (zI σ mm 13).toInt := by rw [(hTo.k t_mm (by decide)).eI hE (by decide) rfl]
    refine lv_aload_n hx hb dL_law_796 rfl (lv_at hl 2 rfl) ?_
    refine lv_aload_n hx hb dL_law_797 rfl (lv_at hl 4 rfl) ?_
    refine lv_iload hx hb dL_law_798 (lv_at hl 0 rfl) ?_
    refine lv_iconst (v := 1) hx hb dL_law_800 (by decide) ?_
    refine lv_iadd hx hb dL_law_801 ?_
    refine g_add (by omega) (by omega) (fun t25 ht25 => ?_)
    refine va_sld hx hb hXs hbl hbA hT.2.2.2 (g_in (by omega) (by omega)) dL_law_802 ?_
    refine ti y1 (by rw [hy1]; exact congrArg xs (show t25.toNatClampNeg = ix i + 1 from by show t25.toInt.toNat = ix i + 1; unfold ix; omega)) ?_
    refine lv_if_eq (tgt := 810) hx hb dL_law_803 (by decide) (fun c9 => ?_) (fun c9 => ?_)
    · have c7 := gi_eq c9
      refine lv_iconst (v := 0) hx hb dL_law_810 (by decide) ?_
      have hTo := hT
      refine tVi (n := 1) (As := [.int 0]) (rest := [.int r3]) hx hb hml hown hg hT hK hX (X6_setUpdate l κ s2 mm 0 (hT.k t_mm (by decide)) isB0 R10 (by rw [show kR κ mm 1 = rW from erW, n22 2 (by decide)]; omega) (by rw [show kR κ mm 1 = rW from erW, n22 2 (by decide)]; omega)) sub_gXs_fA (mwV k1555 k1556 k1557 k92 k1558) ⟨rfl, by decide, by decide, by decide +kernel⟩ ⟨(Nat.le_of_ble_eq_true rfl), (Nat.le_of_ble_eq_true rfl)⟩ (hT.o20 (hT.k t_mm (by decide))) rfl rfl hl.1 rfl (Nat.le_of_ble_eq_true rfl) dL_law_811 zx.dn (fun r27 s26 H locs hφ hE hT => ?_)
      obtain ⟨f28, f29, f30, f31, f32, f33⟩ := hφ
      have a34 : (zI s26 tx 1).toInt = (zI s2 tx 1).toInt := by rw [(hTo.k ttx (by decide)).eI hE (by decide) rfl]
      have j35 : zI s26 rB = zI σ rB := ((show zI s26 rB = zI s2 rB from funext fun k => (hTo.k trB (by decide)).eI hE (by decide) rfl)).trans j12
      have j36 : zI s26 rT = zI σ rT := ((show zI s26 rT = zI s2 rT from funext fun k => (hTo.k trT (by decide)).eI hE (by decide) rfl)).trans j13
      have j37 : zI s26 rI = zI σ rI := ((show zI s26 rI = zI s2 rI from funext fun k => (hTo.k trI (by decide)).eI hE (by decide) rfl)).trans j14
      have j38 : zI s26 rK = zI σ rK := ((show zI s26 rK = zI s2 rK from funext fun k => (hTo.k trK (by decide)).eI hE (by decide) rfl)).trans j15
      have j39 : zI s26 tx 2 = zI σ tx 2 := ((hTo.k ttx (by decide)).eI hE (by decide) rfl).trans j16
      have j40 : zI s26 tx 3 = zI σ tx 3 := ((hTo.k ttx (by decide)).eI hE (by decide) rfl).trans j17
      have j41 : zI s26 mm 15 = zI σ mm 15 := ((hTo.k t_mm (by decide)).eI hE (by decide) rfl).trans j18
      have j42 : zI s26 mm 16 = zI σ mm 16 := ((hTo.k t_mm (by decide)).eI hE (by decide) rfl).trans j19
      have n43 : zI s26 nw 7 = zI s2 nw 7 ∧ zI s26 nw 8 = zI s2 nw 8 ∧ zI s26 nw 9 = zI s2 nw 9 := ⟨(hTo.k tnw (by decide)).eI hE (by decide) rfl, (hTo.k tnw (by decide)).eI hE (by decide) rfl, (hTo.k tnw (by decide)).eI hE (by decide) rfl⟩
      have n44 : zI s26 sl0 7 = zI s2 sl0 7 ∧ zI s26 sl0 8 = zI s2 sl0 8 ∧ zI s26 sl0 9 = zI s2 sl0 9 := ⟨(hTo.k tsl0 (by decide)).eI hE (by decide) rfl, (hTo.k tsl0 (by decide)).eI hE (by decide) rfl, (hTo.k tsl0 (by decide)).eI hE (by decide) rfl⟩
      have n45 : zI s26 sl0 7 = zI σ sl0 7 ∧ zI s26 sl0 8 = zI σ sl0 8 ∧ zI s26 sl0 9 = zI σ sl0 9 := ⟨n44.1.trans n20.1, n44.2.1.trans n20.2.1, n44.2.2.trans n20.2.2⟩
      have n46 : zI s26 sl1 7 = zI s2 sl1 7 ∧ zI s26 sl1 8 = zI s2 sl1 8 ∧ zI s26 sl1 9 = zI s2 sl1 9 := ⟨(hTo.k tsl1 (by decide)).eI hE (by decide) rfl, (hTo.k tsl1 (by decide)).eI hE (by decide) rfl, (hTo.k tsl1 (by decide)).eI hE (by decide) rfl⟩
      have n47 : zI s26 sl1 7 = zI σ sl1 7 ∧ zI s26 sl1 8 = zI σ sl1 8 ∧ zI s26 sl1 9 = zI σ sl1 9 := ⟨n46.1.trans n21.1, n46.2.1.trans n21.2.1, n46.2.2.trans n21.2.2⟩
      have n48 : zJ s26 rS = zJ σ rS := (show zJ s26 rS = zJ s2 rS from funext fun k => (hTo.k trS (by decide)).eJ hE (by decide) rfl).trans n23
      rw [show kR κ mm 1 = rW from erW] at f30
      rw [show kR κ mm 1 = rW from erW] at f31
      rw [show kR κ mm 1 = rW from erW] at f32
      have sz0 : (zJ s2 rW 0).toInt = (zJ σ rW 0).toInt := congrArg Int64.toInt (n22 0 (by decide))
      have sz1 : (zJ s2 rW 1).toInt = (zJ σ rW 1).toInt := congrArg Int64.toInt (n22 1 (by decide))
      have sz2 : (zJ s2 rW 2).toInt = (zJ σ rW 2).toInt := congrArg Int64.toInt (n22 2 (by decide))
      have at0 : (zJ s26 rW 0).toInt = (zJ s2 rW 0).toInt := congrArg Int64.toInt (f31 0 (by decide))
      have at1 : (zJ s26 rW 1).toInt = (zJ s2 rW 1).toInt := congrArg Int64.toInt (f31 1 (by decide))
      have a49 : (zI s26 mm 13).toInt = (zI s2 mm 13).toInt := by rw [(hTo.k t_mm (by decide)).eI hE (by decide) rfl]
      refine lv_icmp_eq (tgt := 1404) hx hb dL_law_814 (by decide) (fun c9 => ?_) (fun c9 => ?_)
      · have c8 := gi_eq c9
        have sl0f : zI s26 rI 0 ≠ 0 → SLT κ s26 x mm 0 := fun hq => (hsl 0 (by decide) (fun q9 => hq (by rw [erI] at q9; rw [j37]; exact q9))).tr (by rw [ers5, esl0]; exact n45) (fun j hj => by rw [erS, n48])
        have sl1f : zI s26 rI 1 ≠ 0 → SLT κ s26 x mm 1 := fun hq => (hsl 1 (by decide) (fun q9 => hq (by rw [erI] at q9; rw [j37]; exact q9))).tr (by rw [ers5, esl1]; exact n47) (fun j hj => by rw [erS, n48])
        have v7 := congrArg Int32.toInt n43.1
        have v8 := congrArg Int32.toInt n43.2.1
        have v9 := congrArg Int32.toInt n43.2.2
        exact KK s26 _ _ _ hT.up f28 ⟨by rw [etx]; omega, ⟨by rw [etx, erB, erT, j35, j36]; exact tal_less hal (by omega), by rw [erT, j36]; exact tnn_less hnn (by omega)⟩, ⟨by rw [etx, j39, j41]; exact hco, by rw [etx, j40, j42]; exact hpo⟩, fun i hi => by rw [erI, erK, j37, j38]; exact hkp i hi⟩ (⟨⟨by rw [enw, erW]; omega, by rw [enw, erW]; omega, by rw [enw, erW]; omega⟩, fun i hi => (show i = 0 ∨ i = 1 by omega).elim (fun e9 => by rw [e9, erI]; exact sl0f) (fun e9 => by rw [e9, erI]; exact sl1f)⟩) (lv_sub hl [0, 1, 2, 3, 4] rfl)
      · exfalso; have c8 := gi_ne c9; omega
    · have c7 := gi_ne c9
      refine lv_iconst (v := 1) hx hb dL_law_806 (by decide) ?_
      refine lv_goto (tgt := 811) hx hb dL_law_807 (by decide) ?_
      have hTo := hT
      refine tVi (n := 1) (As := [.int 1]) (rest := [.int r3]) hx hb hml hown hg hT hK hX (X6_setUpdate l κ s2 mm 1 (hT.k t_mm (by decide)) isB1 R10 (by rw [show kR κ mm 1 = rW from erW, n22 2 (by decide)]; omega) (by rw [show kR κ mm 1 = rW from erW, n22 2 (by decide)]; omega)) sub_gXs_fA (mwV k1555 k1556 k1557 k92 k1558) ⟨rfl, by decide, by decide, by decide +kernel⟩ ⟨(Nat.le_of_ble_eq_true rfl), (Nat.le_of_ble_eq_true rfl)⟩ (hT.o20 (hT.k t_mm (by decide))) rfl rfl hl.1 rfl (Nat.le_of_ble_eq_true rfl) dL_law_811 zx.dn (fun r51 s50 H locs hφ hE hT => ?_)
      obtain ⟨f52, f53, f54, f55, f56, f57⟩ := hφ
      have a58 : (zI s50 tx 1).toInt = (zI s2 tx 1).toInt := by rw [(hTo.k ttx (by decide)).eI hE (by decide) rfl]
      have j59 : zI s50 rB = zI σ rB := ((show zI s50 rB = zI s2 rB from funext fun k => (hTo.k trB (by decide)).eI hE (by decide) rfl)).trans j12
      have j60 : zI s50 rT = zI σ rT := ((show zI s50 rT = zI s2 rT from funext fun k => (hTo.k trT (by decide)).eI hE (by decide) rfl)).trans j13
      have j61 : zI s50 rI = zI σ rI := ((show zI s50 rI = zI s2 rI from funext fun k => (hTo.k trI (by decide)).eI hE (by decide) rfl)).trans j14
      have j62 : zI s50 rK = zI σ rK := ((show zI s50 rK = zI s2 rK from funext fun k => (hTo.k trK (by decide)).eI hE (by decide) rfl)).trans j15
      have j63 : zI s50 tx 2 = zI σ tx 2 := ((hTo.k ttx (by decide)).eI hE (by decide) rfl).trans j16
      have j64 : zI s50 tx 3 = zI σ tx 3 := ((hTo.k ttx (by decide)).eI hE (by decide) rfl).trans j17
      have j65 : zI s50 mm 15 = zI σ mm 15 := ((hTo.k t_mm (by decide)).eI hE (by decide) rfl).trans j18
      have j66 : zI s50 mm 16 = zI σ mm 16 := ((hTo.k t_mm (by decide)).eI hE (by decide) rfl).trans j19
      have n67 : zI s50 nw 7 = zI s2 nw 7 ∧ zI s50 nw 8 = zI s2 nw 8 ∧ zI s50 nw 9 = zI s2 nw 9 := ⟨(hTo.k tnw (by decide)).eI hE (by decide) rfl, (hTo.k tnw (by decide)).eI hE (by decide) rfl, (hTo.k tnw (by decide)).eI hE (by decide) rfl⟩
      have n68 : zI s50 sl0 7 = zI s2 sl0 7 ∧ zI s50 sl0 8 = zI s2 sl0 8 ∧ zI s50 sl0 9 = zI s2 sl0 9 := ⟨(hTo.k tsl0 (by decide)).eI hE (by decide) rfl, (hTo.k tsl0 (by decide)).eI hE (by decide) rfl, (hTo.k tsl0 (by decide)).eI hE (by decide) rfl⟩
      have n69 : zI s50 sl0 7 = zI σ sl0 7 ∧ zI s50 sl0 8 = zI σ sl0 8 ∧ zI s50 sl0 9 = zI σ sl0 9 := ⟨n68.1.trans n20.1, n68.2.1.trans n20.2.1, n68.2.2.trans n20.2.2⟩
      have n70 : zI s50 sl1 7 = zI s2 sl1 7 ∧ zI s50 sl1 8 = zI s2 sl1 8 ∧ zI s50 sl1 9 = zI s2 sl1 9 := ⟨(hTo.k tsl1 (by decide)).eI hE (by decide) rfl, (hTo.k tsl1 (by decide)).eI hE (by decide) rfl, (hTo.k tsl1 (by decide)).eI hE (by decide) rfl⟩
      have n71 : zI s50 sl1 7 = zI σ sl1 7 ∧ zI s50 sl1 8 = zI σ sl1 8 ∧ zI s50 sl1 9 = zI σ sl1 9 := ⟨n70.1.trans n21.1, n70.2.1.trans n21.2.1, n70.2.2.trans n21.2.2⟩
      have n72 : zJ s50 rS = zJ σ rS := (show zJ s50 rS = zJ s2 rS from funext fun k => (hTo.k trS (by decide)).eJ hE (by decide) rfl).trans n23
      rw [show kR κ mm 1 = rW from erW] at f54
      rw [show kR κ mm 1 = rW from erW] at f55
      rw [show kR κ mm 1 = rW from erW] at f56
      have sz0 : (zJ s2 rW 0).toInt = (zJ σ rW 0).toInt := congrArg Int64.toInt (n22 0 (by decide))
      have sz1 : (zJ s2 rW 1).toInt = (zJ σ rW 1).toInt := congrArg Int64.toInt (n22 1 (by decide))
      have sz2 : (zJ s2 rW 2).toInt = (zJ σ rW 2).toInt := congrArg Int64.toInt (n22 2 (by decide))
      have at0 : (zJ s50 rW 0).toInt = (zJ s2 rW 0).toInt := congrArg Int64.toInt (f55 0 (by decide))
      have at1 : (zJ s50 rW 1).toInt = (zJ s2 rW 1).toInt := congrArg Int64.toInt (f55 1 (by decide))
      have a73 : (zI s50 mm 13).toInt = (zI s2 mm 13).toInt := by rw [(hTo.k t_mm (by decide)).eI hE (by decide) rfl]
      refine lv_icmp_eq (tgt := 1404) hx hb dL_law_814 (by decide) (fun c9 => ?_) (fun c9 => ?_)
      · have c8 := gi_eq c9
        have sl0f : zI s50 rI 0 ≠ 0 → SLT κ s50 x mm 0 := fun hq => (hsl 0 (by decide) (fun q9 => hq (by rw [erI] at q9; rw [j61]; exact q9))).tr (by rw [ers5, esl0]; exact n69) (fun j hj => by rw [erS, n72])
        have sl1f : zI s50 rI 1 ≠ 0 → SLT κ s50 x mm 1 := fun hq => (hsl 1 (by decide) (fun q9 => hq (by rw [erI] at q9; rw [j61]; exact q9))).tr (by rw [ers5, esl1]; exact n71) (fun j hj => by rw [erS, n72])
        have v7 := congrArg Int32.toInt n67.1
        have v8 := congrArg Int32.toInt n67.2.1
        have v9 := congrArg Int32.toInt n67.2.2
        exact KK s50 _ _ _ hT.up f52 ⟨by rw [etx]; omega, ⟨by rw [etx, erB, erT, j59, j60]; exact tal_less hal (by omega), by rw [erT, j60]; exact tnn_less hnn (by omega)⟩, ⟨by rw [etx, j63, j65]; exact hco, by rw [etx, j64, j66]; exact hpo⟩, fun i hi => by rw [erI, erK, j61, j62]; exact hkp i hi⟩ (⟨⟨by rw [enw, erW]; omega, by rw [enw, erW]; omega, by rw [enw, erW]; omega⟩, fun i hi => (show i = 0 ∨ i = 1 by omega).elim (fun e9 => by rw [e9, erI]; exact sl0f) (fun e9 => by rw [e9, erI]; exact sl1f)⟩) (lv_sub hl [0, 1, 2, 3, 4] rfl)
      · exfalso; have c8 := gi_ne c9; omega
  · have c7 := gi_ne c9
    refine lv_iconst (v := 1) hx hb dL_law_788 (by decide) ?_
    refine lv_goto (tgt := 793) hx hb dL_law_789 (by decide) ?_
    have hTo := hT
    refine tVi (n := 1) (As := [.int 1]) (rest := []) hx hb hml hown hg hT hK hX (X5t_setUpdate l κ σ x 1 (hT.k t_x (by decide)) isB1) sub_fSet_fA (mwV k510 k511 k512 k84 k513) ⟨rfl, by decide, by decide, by decide +kernel⟩ ⟨(Nat.le_of_ble_eq_true rfl), (Nat.le_of_ble_eq_true rfl)⟩ (hT.o7 (hT.k t_x (by decide))) rfl rfl hl.1 rfl (Nat.le_of_ble_eq_true rfl) dL_law_793 zx.dn (fun r75 s74 H locs hφ hE hT => ?_)
    obtain ⟨f76, f77, f78, f79, f80, f81⟩ := hφ
    have R82 := hR.ext hE ⟨rfl, rfl, fun _ => rfl, fun _ => rfl, fun _ => rfl, fun _ => rfl⟩
    have a83 : (zI s74 tx 1).toInt = (zI σ tx 1).toInt := by rw [(hTo.k ttx (by decide)).eI hE (by decide) rfl]
    have j84 : zI s74 rB = zI σ rB := (show zI s74 rB = zI σ rB from funext fun k => (hTo.k trB (by decide)).eI hE (by decide) rfl)
    have j85 : zI s74 rT = zI σ rT := (show zI s74 rT = zI σ rT from funext fun k => (hTo.k trT (by decide)).eI hE (by decide) rfl)
    have j86 : zI s74 rI = zI σ rI := (show zI s74 rI = zI σ rI from funext fun k => (hTo.k trI (by decide)).eI hE (by decide) rfl)
    have j87 : zI s74 rK = zI σ rK := (show zI s74 rK = zI σ rK from funext fun k => (hTo.k trK (by decide)).eI hE (by decide) rfl)
    have j88 : zI s74 tx 2 = zI σ tx 2 := (hTo.k ttx (by decide)).eI hE (by decide) rfl
    have j89 : zI s74 tx 3 = zI σ tx 3 := (hTo.k ttx (by decide)).eI hE (by decide) rfl
    have j90 : zI s74 mm 15 = zI σ mm 15 := (hTo.k t_mm (by decide)).eI hE (by decide) rfl
    have j91 : zI s74 mm 16 = zI σ mm 16 := (hTo.k t_mm (by decide)).eI hE (by decide) rfl
    have f809 := f80
    try rw [etr] at f809
    try rw [enw] at f809
    have n92 : zI s74 sl0 7 = zI σ sl0 7 ∧ zI s74 sl0 8 = zI σ sl0 8 ∧ zI s74 sl0 9 = zI σ sl0 9 := f809 sl0 (fun q => d_n0 q.symm) (hTo.k tsl0 (by decide))
    have n93 : zI s74 sl1 7 = zI σ sl1 7 ∧ zI s74 sl1 8 = zI σ sl1 8 ∧ zI s74 sl1 9 = zI σ sl1 9 := f809 sl1 (fun q => d_n1 q.symm) (hTo.k tsl1 (by decide))
    have n94 : ∀ j : Nat, j < 3 → zJ s74 rW j = zJ σ rW j := fun j hj => (hTo.k trW (by decide)).eJ hE (by decide) rfl
    have n95 : zJ s74 rS = zJ σ rS := (show zJ s74 rS = zJ σ rS from funext fun k => (hTo.k trS (by decide)).eJ hE (by decide) rfl)
    rw [enw] at f76
    rw [enw] at f77
    rw [enw] at f78
    rw [enw] at f79
    have as0 : r75.toInt = (zI σ nw 9).toInt := congrArg Int32.toInt f76
    have as9 := congrArg Int32.toInt f77
    have as7 := congrArg Int32.toInt f78
    have as8 := congrArg Int32.toInt f79
    have asb := isB_t f81
    have a96 : (zI s74 mm 13).toInt = (zI σ mm 13).toInt := by rw [(hTo.k t_mm (by decide)).eI hE (by decide) rfl]
    refine lv_aload_n hx hb dL_law_796 rfl (lv_at hl 2 rfl) ?_
    refine lv_aload_n hx hb dL_law_797 rfl (lv_at hl 4 rfl) ?_
    refine lv_iload hx hb dL_law_798 (lv_at hl 0 rfl) ?_
    refine lv_iconst (v := 1) hx hb dL_law_800 (by decide) ?_
    refine lv_iadd hx hb dL_law_801 ?_
    refine g_add (by omega) (by omega) (fun t97 ht97 => ?_)
    refine va_sld hx hb hXs hbl hbA hT.2.2.2 (g_in (by omega) (by omega)) dL_law_802 ?_
    refine ti y1 (by rw [hy1]; exact congrArg xs (show t97.toNatClampNeg = ix i + 1 from by show t97.toInt.toNat = ix i + 1; unfold ix; omega)) ?_
    refine lv_if_eq (tgt := 810) hx hb dL_law_803 (by decide) (fun c9 => ?_) (fun c9 => ?_)
    · have c7 := gi_eq c9
      refine lv_iconst (v := 0) hx hb dL_law_810 (by decide) ?_
      have hTo := hT
      refine tVi (n := 1) (As := [.int 0]) (rest := [.int r75]) hx hb hml hown hg hT hK hX (X6_setUpdate l κ s74 mm 0 (hT.k t_mm (by decide)) isB0 R82 (by rw [show kR κ mm 1 = rW from erW, n94 2 (by decide)]; omega) (by rw [show kR κ mm 1 = rW from erW, n94 2 (by decide)]; omega)) sub_gXs_fA (mwV k1555 k1556 k1557 k92 k1558) ⟨rfl, by decide, by decide, by decide +kernel⟩ ⟨(Nat.le_of_ble_eq_true rfl), (Nat.le_of_ble_eq_true rfl)⟩ (hT.o20 (hT.k t_mm (by decide))) rfl rfl hl.1 rfl (Nat.le_of_ble_eq_true rfl) dL_law_811 zx.dn (fun r99 s98 H locs hφ hE hT => ?_)
      obtain ⟨f100, f101, f102, f103, f104, f105⟩ := hφ
      have a106 : (zI s98 tx 1).toInt = (zI s74 tx 1).toInt := by rw [(hTo.k ttx (by decide)).eI hE (by decide) rfl]
      have j107 : zI s98 rB = zI σ rB := ((show zI s98 rB = zI s74 rB from funext fun k => (hTo.k trB (by decide)).eI hE (by decide) rfl)).trans j84
      have j108 : zI s98 rT = zI σ rT := ((show zI s98 rT = zI s74 rT from funext fun k => (hTo.k trT (by decide)).eI hE (by decide) rfl)).trans j85
      have j109 : zI s98 rI = zI σ rI := ((show zI s98 rI = zI s74 rI from funext fun k => (hTo.k trI (by decide)).eI hE (by decide) rfl)).trans j86
      have j110 : zI s98 rK = zI σ rK := ((show zI s98 rK = zI s74 rK from funext fun k => (hTo.k trK (by decide)).eI hE (by decide) rfl)).trans j87
      have j111 : zI s98 tx 2 = zI σ tx 2 := ((hTo.k ttx (by decide)).eI hE (by decide) rfl).trans j88
      have j112 : zI s98 tx 3 = zI σ tx 3 := ((hTo.k ttx (by decide)).eI hE (by decide) rfl).trans j89
      have j113 : zI s98 mm 15 = zI σ mm 15 := ((hTo.k t_mm (by decide)).eI hE (by decide) rfl).trans j90
      have j114 : zI s98 mm 16 = zI σ mm 16 := ((hTo.k t_mm (by decide)).eI hE (by decide) rfl).trans j91
      have n115 : zI s98 nw 7 = zI s74 nw 7 ∧ zI s98 nw 8 = zI s74 nw 8 ∧ zI s98 nw 9 = zI s74 nw 9 := ⟨(hTo.k tnw (by decide)).eI hE (by decide) rfl, (hTo.k tnw (by decide)).eI hE (by decide) rfl, (hTo.k tnw (by decide)).eI hE (by decide) rfl⟩
      have n116 : zI s98 sl0 7 = zI s74 sl0 7 ∧ zI s98 sl0 8 = zI s74 sl0 8 ∧ zI s98 sl0 9 = zI s74 sl0 9 := ⟨(hTo.k tsl0 (by decide)).eI hE (by decide) rfl, (hTo.k tsl0 (by decide)).eI hE (by decide) rfl, (hTo.k tsl0 (by decide)).eI hE (by decide) rfl⟩
      have n117 : zI s98 sl0 7 = zI σ sl0 7 ∧ zI s98 sl0 8 = zI σ sl0 8 ∧ zI s98 sl0 9 = zI σ sl0 9 := ⟨n116.1.trans n92.1, n116.2.1.trans n92.2.1, n116.2.2.trans n92.2.2⟩
      have n118 : zI s98 sl1 7 = zI s74 sl1 7 ∧ zI s98 sl1 8 = zI s74 sl1 8 ∧ zI s98 sl1 9 = zI s74 sl1 9 := ⟨(hTo.k tsl1 (by decide)).eI hE (by decide) rfl, (hTo.k tsl1 (by decide)).eI hE (by decide) rfl, (hTo.k tsl1 (by decide)).eI hE (by decide) rfl⟩
      have n119 : zI s98 sl1 7 = zI σ sl1 7 ∧ zI s98 sl1 8 = zI σ sl1 8 ∧ zI s98 sl1 9 = zI σ sl1 9 := ⟨n118.1.trans n93.1, n118.2.1.trans n93.2.1, n118.2.2.trans n93.2.2⟩
      have n120 : zJ s98 rS = zJ σ rS := (show zJ s98 rS = zJ s74 rS from funext fun k => (hTo.k trS (by decide)).eJ hE (by decide) rfl).trans n95
      rw [show kR κ mm 1 = rW from erW] at f102
      rw [show kR κ mm 1 = rW from erW] at f103
      rw [show kR κ mm 1 = rW from erW] at f104
      have sz0 : (zJ s74 rW 0).toInt = (zJ σ rW 0).toInt := congrArg Int64.toInt (n94 0 (by decide))
      have sz1 : (zJ s74 rW 1).toInt = (zJ σ rW 1).toInt := congrArg Int64.toInt (n94 1 (by decide))
      have sz2 : (zJ s74 rW 2).toInt = (zJ σ rW 2).toInt := congrArg Int64.toInt (n94 2 (by decide))
      have at0 : (zJ s98 rW 0).toInt = (zJ s74 rW 0).toInt := congrArg Int64.toInt (f103 0 (by decide))
      have at1 : (zJ s98 rW 1).toInt = (zJ s74 rW 1).toInt := congrArg Int64.toInt (f103 1 (by decide))
      have a121 : (zI s98 mm 13).toInt = (zI s74 mm 13).toInt := by rw [(hTo.k t_mm (by decide)).eI hE (by decide) rfl]
      refine lv_icmp_eq (tgt := 1404) hx hb dL_law_814 (by decide) (fun c9 => ?_) (fun c9 => ?_)
      · have c8 := gi_eq c9
        have sl0f : zI s98 rI 0 ≠ 0 → SLT κ s98 x mm 0 := fun hq => (hsl 0 (by decide) (fun q9 => hq (by rw [erI] at q9; rw [j109]; exact q9))).tr (by rw [ers5, esl0]; exact n117) (fun j hj => by rw [erS, n120])
        have sl1f : zI s98 rI 1 ≠ 0 → SLT κ s98 x mm 1 := fun hq => (hsl 1 (by decide) (fun q9 => hq (by rw [erI] at q9; rw [j109]; exact q9))).tr (by rw [ers5, esl1]; exact n119) (fun j hj => by rw [erS, n120])
        have v7 := congrArg Int32.toInt n115.1
        have v8 := congrArg Int32.toInt n115.2.1
        have v9 := congrArg Int32.toInt n115.2.2
        exact KK s98 _ _ _ hT.up f100 ⟨by rw [etx]; omega, ⟨by rw [etx, erB, erT, j107, j108]; exact tal_less hal (by omega), by rw [erT, j108]; exact tnn_less hnn (by omega)⟩, ⟨by rw [etx, j111, j113]; exact hco, by rw [etx, j112, j114]; exact hpo⟩, fun i hi => by rw [erI, erK, j109, j110]; exact hkp i hi⟩ (⟨⟨by rw [enw, erW]; omega, by rw [enw, erW]; omega, by rw [enw, erW]; omega⟩, fun i hi => (show i = 0 ∨ i = 1 by omega).elim (fun e9 => by rw [e9, erI]; exact sl0f) (fun e9 => by rw [e9, erI]; exact sl1f)⟩) (lv_sub hl [0, 1, 2, 3, 4] rfl)
      · exfalso; have c8 := gi_ne c9; omega
    · have c7 := gi_ne c9
      refine lv_iconst (v := 1) hx hb dL_law_806 (by decide) ?_
      refine lv_goto (tgt := 811) hx hb dL_law_807 (by decide) ?_
      have hTo := hT
      refine tVi (n := 1) (As := [.int 1]) (rest := [.int r75]) hx hb hml hown hg hT hK hX (X6_setUpdate l κ s74 mm 1 (hT.k t_mm (by decide)) isB1 R82 (by rw [show kR κ mm 1 = rW from erW, n94 2 (by decide)]; omega) (by rw [show kR κ mm 1 = rW from erW, n94 2 (by decide)]; omega)) sub_gXs_fA (mwV k1555 k1556 k1557 k92 k1558) ⟨rfl, by decide, by decide, by decide +kernel⟩ ⟨(Nat.le_of_ble_eq_true rfl), (Nat.le_of_ble_eq_true rfl)⟩ (hT.o20 (hT.k t_mm (by decide))) rfl rfl hl.1 rfl (Nat.le_of_ble_eq_true rfl) dL_law_811 zx.dn (fun r123 s122 H locs hφ hE hT => ?_)
      obtain ⟨f124, f125, f126, f127, f128, f129⟩ := hφ
      have a130 : (zI s122 tx 1).toInt = (zI s74 tx 1).toInt := by rw [(hTo.k ttx (by decide)).eI hE (by decide) rfl]
      have j131 : zI s122 rB = zI σ rB := ((show zI s122 rB = zI s74 rB from funext fun k => (hTo.k trB (by decide)).eI hE (by decide) rfl)).trans j84
      have j132 : zI s122 rT = zI σ rT := ((show zI s122 rT = zI s74 rT from funext fun k => (hTo.k trT (by decide)).eI hE (by decide) rfl)).trans j85
      have j133 : zI s122 rI = zI σ rI := ((show zI s122 rI = zI s74 rI from funext fun k => (hTo.k trI (by decide)).eI hE (by decide) rfl)).trans j86
      have j134 : zI s122 rK = zI σ rK := ((show zI s122 rK = zI s74 rK from funext fun k => (hTo.k trK (by decide)).eI hE (by decide) rfl)).trans j87
      have j135 : zI s122 tx 2 = zI σ tx 2 := ((hTo.k ttx (by decide)).eI hE (by decide) rfl).trans j88
      have j136 : zI s122 tx 3 = zI σ tx 3 := ((hTo.k ttx (by decide)).eI hE (by decide) rfl).trans j89
      have j137 : zI s122 mm 15 = zI σ mm 15 := ((hTo.k t_mm (by decide)).eI hE (by decide) rfl).trans j90
      have j138 : zI s122 mm 16 = zI σ mm 16 := ((hTo.k t_mm (by decide)).eI hE (by decide) rfl).trans j91
      have n139 : zI s122 nw 7 = zI s74 nw 7 ∧ zI s122 nw 8 = zI s74 nw 8 ∧ zI s122 nw 9 = zI s74 nw 9 := ⟨(hTo.k tnw (by decide)).eI hE (by decide) rfl, (hTo.k tnw (by decide)).eI hE (by decide) rfl, (hTo.k tnw (by decide)).eI hE (by decide) rfl⟩
      have n140 : zI s122 sl0 7 = zI s74 sl0 7 ∧ zI s122 sl0 8 = zI s74 sl0 8 ∧ zI s122 sl0 9 = zI s74 sl0 9 := ⟨(hTo.k tsl0 (by decide)).eI hE (by decide) rfl, (hTo.k tsl0 (by decide)).eI hE (by decide) rfl, (hTo.k tsl0 (by decide)).eI hE (by decide) rfl⟩
      have n141 : zI s122 sl0 7 = zI σ sl0 7 ∧ zI s122 sl0 8 = zI σ sl0 8 ∧ zI s122 sl0 9 = zI σ sl0 9 := ⟨n140.1.trans n92.1, n140.2.1.trans n92.2.1, n140.2.2.trans n92.2.2⟩
      have n142 : zI s122 sl1 7 = zI s74 sl1 7 ∧ zI s122 sl1 8 = zI s74 sl1 8 ∧ zI s122 sl1 9 = zI s74 sl1 9 := ⟨(hTo.k tsl1 (by decide)).eI hE (by decide) rfl, (hTo.k tsl1 (by decide)).eI hE (by decide) rfl, (hTo.k tsl1 (by decide)).eI hE (by decide) rfl⟩
      have n143 : zI s122 sl1 7 = zI σ sl1 7 ∧ zI s122 sl1 8 = zI σ sl1 8 ∧ zI s122 sl1 9 = zI σ sl1 9 := ⟨n142.1.trans n93.1, n142.2.1.trans n93.2.1, n142.2.2.trans n93.2.2⟩
      have n144 : zJ s122 rS = zJ σ rS := (show zJ s122 rS = zJ s74 rS from funext fun k => (hTo.k trS (by decide)).eJ hE (by decide) rfl).trans n95
      rw [show kR κ mm 1 = rW from erW] at f126
      rw [show kR κ mm 1 = rW from erW] at f127
      rw [show kR κ mm 1 = rW from erW] at f128
      have sz0 : (zJ s74 rW 0).toInt = (zJ σ rW 0).toInt := congrArg Int64.toInt (n94 0 (by decide))
      have sz1 : (zJ s74 rW 1).toInt = (zJ σ rW 1).toInt := congrArg Int64.toInt (n94 1 (by decide))
      have sz2 : (zJ s74 rW 2).toInt = (zJ σ rW 2).toInt := congrArg Int64.toInt (n94 2 (by decide))
      have at0 : (zJ s122 rW 0).toInt = (zJ s74 rW 0).toInt := congrArg Int64.toInt (f127 0 (by decide))
      have at1 : (zJ s122 rW 1).toInt = (zJ s74 rW 1).toInt := congrArg Int64.toInt (f127 1 (by decide))
      have a145 : (zI s122 mm 13).toInt = (zI s74 mm 13).toInt := by rw [(hTo.k t_mm (by decide)).eI hE (by decide) rfl]
      refine lv_icmp_eq (tgt := 1404) hx hb dL_law_814 (by decide) (fun c9 => ?_) (fun c9 => ?_)
      · have c8 := gi_eq c9
        have sl0f : zI s122 rI 0 ≠ 0 → SLT κ s122 x mm 0 := fun hq => (hsl 0 (by decide) (fun q9 => hq (by rw [erI] at q9; rw [j133]; exact q9))).tr (by rw [ers5, esl0]; exact n141) (fun j hj => by rw [erS, n144])
        have sl1f : zI s122 rI 1 ≠ 0 → SLT κ s122 x mm 1 := fun hq => (hsl 1 (by decide) (fun q9 => hq (by rw [erI] at q9; rw [j133]; exact q9))).tr (by rw [ers5, esl1]; exact n143) (fun j hj => by rw [erS, n144])
        have v7 := congrArg Int32.toInt n139.1
        have v8 := congrArg Int32.toInt n139.2.1
        have v9 := congrArg Int32.toInt n139.2.2
        exact KK s122 _ _ _ hT.up f124 ⟨by rw [etx]; omega, ⟨by rw [etx, erB, erT, j131, j132]; exact tal_less hal (by omega), by rw [erT, j132]; exact tnn_less hnn (by omega)⟩, ⟨by rw [etx, j135, j137]; exact hco, by rw [etx, j136, j138]; exact hpo⟩, fun i hi => by rw [erI, erK, j133, j134]; exact hkp i hi⟩ (⟨⟨by rw [enw, erW]; omega, by rw [enw, erW]; omega, by rw [enw, erW]; omega⟩, fun i hi => (show i = 0 ∨ i = 1 by omega).elim (fun e9 => by rw [e9, erI]; exact sl0f) (fun e9 => by rw [e9, erI]; exact sl1f)⟩) (lv_sub hl [0, 1, 2, 3, 4] rfl)
      · exfalso; have c8 := gi_ne c9; omega
