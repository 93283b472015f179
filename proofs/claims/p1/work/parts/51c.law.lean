theorem wm_1306 : Cond.codeWith yL_trust cL_trust 5 (some .int) [(0, 10, 13, 22), (0, 10, 17, 13)] ∈ kWS := kws_at 1306 (by decide +kernel) (by decide +kernel)
theorem wm_1304 : Cond.methodLink RL 192 yL_trust ∈ kWS := kws_at 1304 (by decide +kernel) (by decide +kernel)
theorem wm_1305 : Cond.static yL_trust ∈ kWS := kws_at 1305 (by decide +kernel) (by decide +kernel)
theorem lk_SRL_192 : kLS RL 192 yL_trust (Cond.codeWith yL_trust cL_trust 5 (some .int) [(0, 10, 13, 22), (0, 10, 17, 13)]) 4 := ⟨wm_1304, wm_1305, wm_0, wm_1306, ⟨by decide +kernel, by decide +kernel, by decide +kernel⟩⟩
theorem wm_1911 : Cond.code yX12_trust cX12_trust 3 (some .int) ∈ kWS := kws_at 1911 (by decide +kernel) (by decide +kernel)
theorem wm_1908 : Cond.methodLink RL 194 yX12_trust ∈ kWS := kws_at 1908 (by decide +kernel) (by decide +kernel)
theorem wm_1910 : Cond.selects RX12 yX12_trust yX12_trust ∈ kWS := kws_at 1910 (by decide +kernel) (by decide +kernel)
theorem wm_1909 : Cond.instanceMethod yX12_trust ∈ kWS := kws_at 1909 (by decide +kernel) (by decide +kernel)
theorem lk_VRL_194 : kLV RL 194 yX12_trust (Cond.code yX12_trust cX12_trust 3 (some .int)) 2 := ⟨wm_1908, wm_1909, wm_1910, wm_12, wm_1911, ⟨by decide +kernel, by decide +kernel, by decide +kernel⟩⟩
theorem wm_1317 : Cond.codeWith yL_answer cL_answer 7 (some .int) [(0, 21, 24, 22), (0, 21, 28, 13)] ∈ kWS := kws_at 1317 (by decide +kernel) (by decide +kernel)
theorem wm_1315 : Cond.methodLink RL 195 yL_answer ∈ kWS := kws_at 1315 (by decide +kernel) (by decide +kernel)
theorem wm_1316 : Cond.static yL_answer ∈ kWS := kws_at 1316 (by decide +kernel) (by decide +kernel)
theorem lk_SRL_195 : kLS RL 195 yL_answer (Cond.codeWith yL_answer cL_answer 7 (some .int) [(0, 21, 24, 22), (0, 21, 28, 13)]) 6 := ⟨wm_1315, wm_1316, wm_0, wm_1317, ⟨by decide +kernel, by decide +kernel, by decide +kernel⟩⟩
theorem wm_1919 : Cond.code yX12_answer cX12_answer 5 (some .boolean) ∈ kWS := kws_at 1919 (by decide +kernel) (by decide +kernel)
theorem wm_1916 : Cond.methodLink RL 197 yX12_answer ∈ kWS := kws_at 1916 (by decide +kernel) (by decide +kernel)
theorem wm_1918 : Cond.selects RX12 yX12_answer yX12_answer ∈ kWS := kws_at 1918 (by decide +kernel) (by decide +kernel)
theorem wm_1917 : Cond.instanceMethod yX12_answer ∈ kWS := kws_at 1917 (by decide +kernel) (by decide +kernel)
theorem lk_VRL_197 : kLV RL 197 yX12_answer (Cond.code yX12_answer cX12_answer 5 (some .boolean)) 4 := ⟨wm_1916, wm_1917, wm_1918, wm_12, wm_1919, ⟨by decide +kernel, by decide +kernel, by decide +kernel⟩⟩
theorem wm_1324 : Cond.codeWith yL_can cL_can 4 (some .int) [(0, 16, 19, 13)] ∈ kWS := kws_at 1324 (by decide +kernel) (by decide +kernel)
theorem wm_1322 : Cond.methodLink RL 198 yL_can ∈ kWS := kws_at 1322 (by decide +kernel) (by decide +kernel)
theorem wm_1323 : Cond.static yL_can ∈ kWS := kws_at 1323 (by decide +kernel) (by decide +kernel)
theorem lk_SRL_198 : kLS RL 198 yL_can (Cond.codeWith yL_can cL_can 4 (some .int) [(0, 16, 19, 13)]) 3 := ⟨wm_1322, wm_1323, wm_0, wm_1324, ⟨by decide +kernel, by decide +kernel, by decide +kernel⟩⟩
theorem wm_1923 : Cond.code yX12_can cX12_can 2 (some .boolean) ∈ kWS := kws_at 1923 (by decide +kernel) (by decide +kernel)
theorem wm_1920 : Cond.methodLink RL 200 yX12_can ∈ kWS := kws_at 1920 (by decide +kernel) (by decide +kernel)
theorem wm_1922 : Cond.selects RX12 yX12_can yX12_can ∈ kWS := kws_at 1922 (by decide +kernel) (by decide +kernel)
theorem wm_1921 : Cond.instanceMethod yX12_can ∈ kWS := kws_at 1921 (by decide +kernel) (by decide +kernel)
theorem lk_VRL_200 : kLV RL 200 yX12_can (Cond.code yX12_can cX12_can 2 (some .boolean)) 1 := ⟨wm_1920, wm_1921, wm_1922, wm_12, wm_1923, ⟨by decide +kernel, by decide +kernel, by decide +kernel⟩⟩
theorem wm_1335 : Cond.codeWith yL_step cL_step 5 (some .int) [(0, 10, 13, 13)] ∈ kWS := kws_at 1335 (by decide +kernel) (by decide +kernel)
theorem wm_1333 : Cond.methodLink RL 201 yL_step ∈ kWS := kws_at 1333 (by decide +kernel) (by decide +kernel)
theorem wm_1334 : Cond.static yL_step ∈ kWS := kws_at 1334 (by decide +kernel) (by decide +kernel)
theorem lk_SRL_201 : kLS RL 201 yL_step (Cond.codeWith yL_step cL_step 5 (some .int) [(0, 10, 13, 13)]) 4 := ⟨wm_1333, wm_1334, wm_0, wm_1335, ⟨by decide +kernel, by decide +kernel, by decide +kernel⟩⟩
theorem wm_1958 : Cond.code yX12_step cX12_step 6 (some .int) ∈ kWS := kws_at 1958 (by decide +kernel) (by decide +kernel)
theorem wm_1955 : Cond.methodLink RL 203 yX12_step ∈ kWS := kws_at 1955 (by decide +kernel) (by decide +kernel)
theorem wm_1957 : Cond.selects RX12 yX12_step yX12_step ∈ kWS := kws_at 1957 (by decide +kernel) (by decide +kernel)
theorem wm_1956 : Cond.instanceMethod yX12_step ∈ kWS := kws_at 1956 (by decide +kernel) (by decide +kernel)
theorem lk_VRL_203 : kLV RL 203 yX12_step (Cond.code yX12_step cX12_step 6 (some .int)) 2 := ⟨wm_1955, wm_1956, wm_1957, wm_12, wm_1958, ⟨by decide +kernel, by decide +kernel, by decide +kernel⟩⟩
theorem wm_1346 : Cond.codeWith yL_round cL_round 5 (some .int) [(0, 10, 13, 13)] ∈ kWS := kws_at 1346 (by decide +kernel) (by decide +kernel)
theorem wm_1344 : Cond.methodLink RL 204 yL_round ∈ kWS := kws_at 1344 (by decide +kernel) (by decide +kernel)
theorem wm_1345 : Cond.static yL_round ∈ kWS := kws_at 1345 (by decide +kernel) (by decide +kernel)
theorem lk_SRL_204 : kLS RL 204 yL_round (Cond.codeWith yL_round cL_round 5 (some .int) [(0, 10, 13, 13)]) 4 := ⟨wm_1344, wm_1345, wm_0, wm_1346, ⟨by decide +kernel, by decide +kernel, by decide +kernel⟩⟩
theorem wm_1962 : Cond.code yX12_round cX12_round 7 (some .int) ∈ kWS := kws_at 1962 (by decide +kernel) (by decide +kernel)
theorem wm_1959 : Cond.methodLink RL 206 yX12_round ∈ kWS := kws_at 1959 (by decide +kernel) (by decide +kernel)
theorem wm_1961 : Cond.selects RX12 yX12_round yX12_round ∈ kWS := kws_at 1961 (by decide +kernel) (by decide +kernel)
theorem wm_1960 : Cond.instanceMethod yX12_round ∈ kWS := kws_at 1960 (by decide +kernel) (by decide +kernel)
theorem lk_VRL_206 : kLV RL 206 yX12_round (Cond.code yX12_round cX12_round 7 (some .int)) 2 := ⟨wm_1959, wm_1960, wm_1961, wm_12, wm_1962, ⟨by decide +kernel, by decide +kernel, by decide +kernel⟩⟩
theorem wm_1357 : Cond.codeWith yL_density cL_density 4 (some .int) [(0, 9, 12, 13)] ∈ kWS := kws_at 1357 (by decide +kernel) (by decide +kernel)
theorem wm_1355 : Cond.methodLink RL 207 yL_density ∈ kWS := kws_at 1355 (by decide +kernel) (by decide +kernel)
theorem wm_1356 : Cond.static yL_density ∈ kWS := kws_at 1356 (by decide +kernel) (by decide +kernel)
theorem lk_SRL_207 : kLS RL 207 yL_density (Cond.codeWith yL_density cL_density 4 (some .int) [(0, 9, 12, 13)]) 3 := ⟨wm_1355, wm_1356, wm_0, wm_1357, ⟨by decide +kernel, by decide +kernel, by decide +kernel⟩⟩
theorem wm_1970 : Cond.code yX12_density cX12_density 4 (some .int) ∈ kWS := kws_at 1970 (by decide +kernel) (by decide +kernel)
theorem wm_1967 : Cond.methodLink RL 209 yX12_density ∈ kWS := kws_at 1967 (by decide +kernel) (by decide +kernel)
theorem wm_1969 : Cond.selects RX12 yX12_density yX12_density ∈ kWS := kws_at 1969 (by decide +kernel) (by decide +kernel)
theorem wm_1968 : Cond.instanceMethod yX12_density ∈ kWS := kws_at 1968 (by decide +kernel) (by decide +kernel)
theorem lk_VRL_209 : kLV RL 209 yX12_density (Cond.code yX12_density cX12_density 4 (some .int)) 1 := ⟨wm_1967, wm_1968, wm_1969, wm_12, wm_1970, ⟨by decide +kernel, by decide +kernel, by decide +kernel⟩⟩
theorem wm_1364 : Cond.codeWith yL_stay cL_stay 4 (some .int) [(0, 9, 12, 22)] ∈ kWS := kws_at 1364 (by decide +kernel) (by decide +kernel)
theorem wm_1362 : Cond.methodLink RL 210 yL_stay ∈ kWS := kws_at 1362 (by decide +kernel) (by decide +kernel)
theorem wm_1363 : Cond.static yL_stay ∈ kWS := kws_at 1363 (by decide +kernel) (by decide +kernel)
theorem lk_SRL_210 : kLS RL 210 yL_stay (Cond.codeWith yL_stay cL_stay 4 (some .int) [(0, 9, 12, 22)]) 3 := ⟨wm_1362, wm_1363, wm_0, wm_1364, ⟨by decide +kernel, by decide +kernel, by decide +kernel⟩⟩
theorem wm_1974 : Cond.code yX12_stay cX12_stay 2 (some .int) ∈ kWS := kws_at 1974 (by decide +kernel) (by decide +kernel)
theorem wm_1971 : Cond.methodLink RL 212 yX12_stay ∈ kWS := kws_at 1971 (by decide +kernel) (by decide +kernel)
theorem wm_1973 : Cond.selects RX12 yX12_stay yX12_stay ∈ kWS := kws_at 1973 (by decide +kernel) (by decide +kernel)
theorem wm_1972 : Cond.instanceMethod yX12_stay ∈ kWS := kws_at 1972 (by decide +kernel) (by decide +kernel)
theorem lk_VRL_212 : kLV RL 212 yX12_stay (Cond.code yX12_stay cX12_stay 2 (some .int)) 1 := ⟨wm_1971, wm_1972, wm_1973, wm_12, wm_1974, ⟨by decide +kernel, by decide +kernel, by decide +kernel⟩⟩
theorem wm_1393 : Cond.codeWith yL_beds cL_beds 6 (some .int) [(0, 12, 15, 22), (0, 12, 19, 13)] ∈ kWS := kws_at 1393 (by decide +kernel) (by decide +kernel)
theorem wm_1391 : Cond.methodLink RL 213 yL_beds ∈ kWS := kws_at 1391 (by decide +kernel) (by decide +kernel)
theorem wm_1392 : Cond.static yL_beds ∈ kWS := kws_at 1392 (by decide +kernel) (by decide +kernel)
theorem lk_SRL_213 : kLS RL 213 yL_beds (Cond.codeWith yL_beds cL_beds 6 (some .int) [(0, 12, 15, 22), (0, 12, 19, 13)]) 5 := ⟨wm_1391, wm_1392, wm_0, wm_1393, ⟨by decide +kernel, by decide +kernel, by decide +kernel⟩⟩
theorem wm_1990 : Cond.code yX12_beds cX12_beds 10 (some .int) ∈ kWS := kws_at 1990 (by decide +kernel) (by decide +kernel)
theorem wm_1987 : Cond.methodLink RL 215 yX12_beds ∈ kWS := kws_at 1987 (by decide +kernel) (by decide +kernel)
theorem wm_1989 : Cond.selects RX12 yX12_beds yX12_beds ∈ kWS := kws_at 1989 (by decide +kernel) (by decide +kernel)
theorem wm_1988 : Cond.instanceMethod yX12_beds ∈ kWS := kws_at 1988 (by decide +kernel) (by decide +kernel)
theorem lk_VRL_215 : kLV RL 215 yX12_beds (Cond.code yX12_beds cX12_beds 10 (some .int)) 3 := ⟨wm_1987, wm_1988, wm_1989, wm_12, wm_1990, ⟨by decide +kernel, by decide +kernel, by decide +kernel⟩⟩
theorem wm_1400 : Cond.codeWith yL_two cL_two 4 (some .int) [(0, 9, 12, 13)] ∈ kWS := kws_at 1400 (by decide +kernel) (by decide +kernel)
theorem wm_1398 : Cond.methodLink RL 216 yL_two ∈ kWS := kws_at 1398 (by decide +kernel) (by decide +kernel)
theorem wm_1399 : Cond.static yL_two ∈ kWS := kws_at 1399 (by decide +kernel) (by decide +kernel)
theorem lk_SRL_216 : kLS RL 216 yL_two (Cond.codeWith yL_two cL_two 4 (some .int) [(0, 9, 12, 13)]) 3 := ⟨wm_1398, wm_1399, wm_0, wm_1400, ⟨by decide +kernel, by decide +kernel, by decide +kernel⟩⟩
theorem wm_1994 : Cond.code yX12_two cX12_two 4 (some .int) ∈ kWS := kws_at 1994 (by decide +kernel) (by decide +kernel)
theorem wm_1991 : Cond.methodLink RL 218 yX12_two ∈ kWS := kws_at 1991 (by decide +kernel) (by decide +kernel)
theorem wm_1993 : Cond.selects RX12 yX12_two yX12_two ∈ kWS := kws_at 1993 (by decide +kernel) (by decide +kernel)
theorem wm_1992 : Cond.instanceMethod yX12_two ∈ kWS := kws_at 1992 (by decide +kernel) (by decide +kernel)
theorem lk_VRL_218 : kLV RL 218 yX12_two (Cond.code yX12_two cX12_two 4 (some .int)) 1 := ⟨wm_1991, wm_1992, wm_1993, wm_12, wm_1994, ⟨by decide +kernel, by decide +kernel, by decide +kernel⟩⟩
theorem wm_1411 : Cond.codeWith yL_alike cL_alike 5 (some .int) [(0, 10, 13, 13)] ∈ kWS := kws_at 1411 (by decide +kernel) (by decide +kernel)
theorem wm_1409 : Cond.methodLink RL 219 yL_alike ∈ kWS := kws_at 1409 (by decide +kernel) (by decide +kernel)
theorem wm_1410 : Cond.static yL_alike ∈ kWS := kws_at 1410 (by decide +kernel) (by decide +kernel)
theorem lk_SRL_219 : kLS RL 219 yL_alike (Cond.codeWith yL_alike cL_alike 5 (some .int) [(0, 10, 13, 13)]) 4 := ⟨wm_1409, wm_1410, wm_0, wm_1411, ⟨by decide +kernel, by decide +kernel, by decide +kernel⟩⟩
theorem wm_1998 : Cond.code yX12_alike cX12_alike 3 (some .int) ∈ kWS := kws_at 1998 (by decide +kernel) (by decide +kernel)
theorem wm_1995 : Cond.methodLink RL 221 yX12_alike ∈ kWS := kws_at 1995 (by decide +kernel) (by decide +kernel)
theorem wm_1997 : Cond.selects RX12 yX12_alike yX12_alike ∈ kWS := kws_at 1997 (by decide +kernel) (by decide +kernel)
theorem wm_1996 : Cond.instanceMethod yX12_alike ∈ kWS := kws_at 1996 (by decide +kernel) (by decide +kernel)
theorem lk_VRL_221 : kLV RL 221 yX12_alike (Cond.code yX12_alike cX12_alike 3 (some .int)) 2 := ⟨wm_1995, wm_1996, wm_1997, wm_12, wm_1998, ⟨by decide +kernel, by decide +kernel, by decide +kernel⟩⟩
theorem dL_law_1399 : decode cL_law 1399 = .ok (.aload_n 1, 1) := by decide +kernel
theorem dL_law_1400 : decode cL_law 1400 = .ok (.aload_n 0, 1) := by decide +kernel
theorem dL_law_1401 : decode cL_law 1401 = .ok (.iload 4, 2) := by decide +kernel
theorem dL_law_1403 : decode cL_law 1403 = .ok (.iconst 1, 1) := by decide +kernel
theorem dL_law_1404 : decode cL_law 1404 = .ok (.iadd, 1) := by decide +kernel
theorem dL_law_1405 : decode cL_law 1405 = .ok (.iaload, 1) := by decide +kernel
theorem dL_law_1406 : decode cL_law 1406 = .ok (.aload_n 0, 1) := by decide +kernel
theorem dL_law_1407 : decode cL_law 1407 = .ok (.iload 4, 2) := by decide +kernel
theorem dL_law_1409 : decode cL_law 1409 = .ok (.iconst 2, 1) := by decide +kernel
theorem dL_law_1410 : decode cL_law 1410 = .ok (.iadd, 1) := by decide +kernel
theorem dL_law_1411 : decode cL_law 1411 = .ok (.iaload, 1) := by decide +kernel
theorem dL_law_1412 : decode cL_law 1412 = .ok (.aload_n 3, 1) := by decide +kernel
theorem dL_law_1413 : decode cL_law 1413 = .ok (.invokestatic 192, 3) := by decide +kernel
theorem dL_law_1416 : decode cL_law 1416 = .ok (.istore 5, 2) := by decide +kernel
theorem dL_law_1418 : decode cL_law 1418 = .ok (.aload_n 2, 1) := by decide +kernel
theorem dL_law_1419 : decode cL_law 1419 = .ok (.aload_n 0, 1) := by decide +kernel
theorem dL_law_1420 : decode cL_law 1420 = .ok (.iload 4, 2) := by decide +kernel
theorem dL_law_1422 : decode cL_law 1422 = .ok (.iconst 1, 1) := by decide +kernel
theorem dL_law_1423 : decode cL_law 1423 = .ok (.iadd, 1) := by decide +kernel
theorem dL_law_1424 : decode cL_law 1424 = .ok (.iaload, 1) := by decide +kernel
theorem dL_law_1425 : decode cL_law 1425 = .ok (.aload_n 0, 1) := by decide +kernel
theorem dL_law_1426 : decode cL_law 1426 = .ok (.iload 4, 2) := by decide +kernel
theorem dL_law_1428 : decode cL_law 1428 = .ok (.iconst 2, 1) := by decide +kernel
theorem dL_law_1429 : decode cL_law 1429 = .ok (.iadd, 1) := by decide +kernel
theorem dL_law_1430 : decode cL_law 1430 = .ok (.iaload, 1) := by decide +kernel
theorem dL_law_1431 : decode cL_law 1431 = .ok (.invokevirtual 194, 3) := by decide +kernel
theorem dL_law_1434 : decode cL_law 1434 = .ok (.istore 6, 2) := by decide +kernel
theorem dL_law_1436 : decode cL_law 1436 = .ok (.aload_n 2, 1) := by decide +kernel
theorem dL_law_1437 : decode cL_law 1437 = .ok (.invokevirtual 127, 3) := by decide +kernel
theorem dL_law_1440 : decode cL_law 1440 = .ok (.iload 5, 2) := by decide +kernel
theorem dL_law_1442 : decode cL_law 1442 = .ok (.if_icmp .eq 5, 3) := by decide +kernel
theorem dL_law_1447 : decode cL_law 1447 = .ok (.iload 5, 2) := by decide +kernel
theorem dL_law_1449 : decode cL_law 1449 = .ok (.ifCond .ne 15, 3) := by decide +kernel
theorem dL_law_1464 : decode cL_law 1464 = .ok (.goto 954, 3) := by decide +kernel
theorem dL_law_1467 : decode cL_law 1467 = .ok (.aload_n 1, 1) := by decide +kernel
theorem dL_law_1468 : decode cL_law 1468 = .ok (.aload_n 0, 1) := by decide +kernel
theorem dL_law_1469 : decode cL_law 1469 = .ok (.iload 4, 2) := by decide +kernel
theorem dL_law_1471 : decode cL_law 1471 = .ok (.iconst 1, 1) := by decide +kernel
theorem dL_law_1472 : decode cL_law 1472 = .ok (.iadd, 1) := by decide +kernel
theorem dL_law_1473 : decode cL_law 1473 = .ok (.iaload, 1) := by decide +kernel
theorem dL_law_1474 : decode cL_law 1474 = .ok (.aload_n 0, 1) := by decide +kernel
theorem dL_law_1475 : decode cL_law 1475 = .ok (.iload 4, 2) := by decide +kernel
theorem dL_law_1477 : decode cL_law 1477 = .ok (.iconst 2, 1) := by decide +kernel
theorem dL_law_1478 : decode cL_law 1478 = .ok (.iadd, 1) := by decide +kernel
theorem dL_law_1479 : decode cL_law 1479 = .ok (.iaload, 1) := by decide +kernel
theorem dL_law_1480 : decode cL_law 1480 = .ok (.aload_n 0, 1) := by decide +kernel
theorem dL_law_1481 : decode cL_law 1481 = .ok (.iload 4, 2) := by decide +kernel
theorem dL_law_1483 : decode cL_law 1483 = .ok (.iconst 3, 1) := by decide +kernel
theorem dL_law_1484 : decode cL_law 1484 = .ok (.iadd, 1) := by decide +kernel
theorem dL_law_1485 : decode cL_law 1485 = .ok (.iaload, 1) := by decide +kernel
theorem dL_law_1486 : decode cL_law 1486 = .ok (.aload_n 0, 1) := by decide +kernel
theorem dL_law_1487 : decode cL_law 1487 = .ok (.iload 4, 2) := by decide +kernel
theorem dL_law_1489 : decode cL_law 1489 = .ok (.iconst 4, 1) := by decide +kernel
theorem dL_law_1490 : decode cL_law 1490 = .ok (.iadd, 1) := by decide +kernel
theorem dL_law_1491 : decode cL_law 1491 = .ok (.iaload, 1) := by decide +kernel
theorem dL_law_1492 : decode cL_law 1492 = .ok (.aload_n 3, 1) := by decide +kernel
theorem dL_law_1493 : decode cL_law 1493 = .ok (.invokestatic 195, 3) := by decide +kernel
theorem dL_law_1496 : decode cL_law 1496 = .ok (.istore 5, 2) := by decide +kernel
theorem dL_law_1498 : decode cL_law 1498 = .ok (.aload_n 2, 1) := by decide +kernel
theorem dL_law_1499 : decode cL_law 1499 = .ok (.aload_n 0, 1) := by decide +kernel
theorem dL_law_1500 : decode cL_law 1500 = .ok (.iload 4, 2) := by decide +kernel
theorem dL_law_1502 : decode cL_law 1502 = .ok (.iconst 1, 1) := by decide +kernel
theorem dL_law_1503 : decode cL_law 1503 = .ok (.iadd, 1) := by decide +kernel
theorem dL_law_1504 : decode cL_law 1504 = .ok (.iaload, 1) := by decide +kernel
theorem dL_law_1505 : decode cL_law 1505 = .ok (.aload_n 0, 1) := by decide +kernel
theorem dL_law_1506 : decode cL_law 1506 = .ok (.iload 4, 2) := by decide +kernel
theorem dL_law_1508 : decode cL_law 1508 = .ok (.iconst 2, 1) := by decide +kernel
theorem dL_law_1509 : decode cL_law 1509 = .ok (.iadd, 1) := by decide +kernel
theorem dL_law_1510 : decode cL_law 1510 = .ok (.iaload, 1) := by decide +kernel
theorem dL_law_1511 : decode cL_law 1511 = .ok (.aload_n 0, 1) := by decide +kernel
theorem dL_law_1512 : decode cL_law 1512 = .ok (.iload 4, 2) := by decide +kernel
theorem dL_law_1514 : decode cL_law 1514 = .ok (.iconst 3, 1) := by decide +kernel
theorem dL_law_1515 : decode cL_law 1515 = .ok (.iadd, 1) := by decide +kernel
theorem dL_law_1516 : decode cL_law 1516 = .ok (.iaload, 1) := by decide +kernel
theorem dL_law_1517 : decode cL_law 1517 = .ok (.aload_n 0, 1) := by decide +kernel
theorem dL_law_1518 : decode cL_law 1518 = .ok (.iload 4, 2) := by decide +kernel
theorem dL_law_1520 : decode cL_law 1520 = .ok (.iconst 4, 1) := by decide +kernel
theorem dL_law_1521 : decode cL_law 1521 = .ok (.iadd, 1) := by decide +kernel
theorem dL_law_1522 : decode cL_law 1522 = .ok (.iaload, 1) := by decide +kernel
theorem dL_law_1523 : decode cL_law 1523 = .ok (.invokevirtual 197, 3) := by decide +kernel
theorem dL_law_1526 : decode cL_law 1526 = .ok (.istore 6, 2) := by decide +kernel
theorem dL_law_1528 : decode cL_law 1528 = .ok (.aload_n 2, 1) := by decide +kernel
theorem dL_law_1529 : decode cL_law 1529 = .ok (.invokevirtual 127, 3) := by decide +kernel
theorem dL_law_1532 : decode cL_law 1532 = .ok (.iload 5, 2) := by decide +kernel
theorem dL_law_1534 : decode cL_law 1534 = .ok (.if_icmp .eq 5, 3) := by decide +kernel
theorem dL_law_1539 : decode cL_law 1539 = .ok (.iload 5, 2) := by decide +kernel
theorem dL_law_1541 : decode cL_law 1541 = .ok (.ifCond .ne 22, 3) := by decide +kernel
theorem dL_law_1563 : decode cL_law 1563 = .ok (.goto 855, 3) := by decide +kernel
theorem dL_law_1566 : decode cL_law 1566 = .ok (.aload_n 1, 1) := by decide +kernel
theorem dL_law_1567 : decode cL_law 1567 = .ok (.aload_n 0, 1) := by decide +kernel
theorem dL_law_1568 : decode cL_law 1568 = .ok (.iload 4, 2) := by decide +kernel
theorem dL_law_1570 : decode cL_law 1570 = .ok (.iconst 1, 1) := by decide +kernel
theorem dL_law_1571 : decode cL_law 1571 = .ok (.iadd, 1) := by decide +kernel
theorem dL_law_1572 : decode cL_law 1572 = .ok (.iaload, 1) := by decide +kernel
theorem dL_law_1573 : decode cL_law 1573 = .ok (.aload_n 3, 1) := by decide +kernel
theorem dL_law_1574 : decode cL_law 1574 = .ok (.invokestatic 198, 3) := by decide +kernel
theorem dL_law_1577 : decode cL_law 1577 = .ok (.istore 5, 2) := by decide +kernel
theorem dL_law_1579 : decode cL_law 1579 = .ok (.aload_n 2, 1) := by decide +kernel
theorem dL_law_1580 : decode cL_law 1580 = .ok (.aload_n 0, 1) := by decide +kernel
theorem dL_law_1581 : decode cL_law 1581 = .ok (.iload 4, 2) := by decide +kernel
theorem dL_law_1583 : decode cL_law 1583 = .ok (.iconst 1, 1) := by decide +kernel
theorem dL_law_1584 : decode cL_law 1584 = .ok (.iadd, 1) := by decide +kernel
theorem dL_law_1585 : decode cL_law 1585 = .ok (.iaload, 1) := by decide +kernel
theorem dL_law_1586 : decode cL_law 1586 = .ok (.invokevirtual 200, 3) := by decide +kernel
theorem dL_law_1589 : decode cL_law 1589 = .ok (.istore 6, 2) := by decide +kernel
theorem dL_law_1591 : decode cL_law 1591 = .ok (.aload_n 2, 1) := by decide +kernel
theorem dL_law_1592 : decode cL_law 1592 = .ok (.invokevirtual 127, 3) := by decide +kernel
theorem dL_law_1595 : decode cL_law 1595 = .ok (.iload 5, 2) := by decide +kernel
theorem dL_law_1597 : decode cL_law 1597 = .ok (.if_icmp .eq 5, 3) := by decide +kernel
theorem dL_law_1602 : decode cL_law 1602 = .ok (.iload 5, 2) := by decide +kernel
theorem dL_law_1604 : decode cL_law 1604 = .ok (.ifCond .ne 22, 3) := by decide +kernel
theorem dL_law_1626 : decode cL_law 1626 = .ok (.goto 792, 3) := by decide +kernel
theorem dL_law_1629 : decode cL_law 1629 = .ok (.aload_n 1, 1) := by decide +kernel
theorem dL_law_1630 : decode cL_law 1630 = .ok (.aload_n 0, 1) := by decide +kernel
theorem dL_law_1631 : decode cL_law 1631 = .ok (.iload 4, 2) := by decide +kernel
theorem dL_law_1633 : decode cL_law 1633 = .ok (.iconst 1, 1) := by decide +kernel
theorem dL_law_1634 : decode cL_law 1634 = .ok (.iadd, 1) := by decide +kernel
theorem dL_law_1635 : decode cL_law 1635 = .ok (.iaload, 1) := by decide +kernel
theorem dL_law_1636 : decode cL_law 1636 = .ok (.aload_n 0, 1) := by decide +kernel
theorem dL_law_1637 : decode cL_law 1637 = .ok (.iload 4, 2) := by decide +kernel
theorem dL_law_1639 : decode cL_law 1639 = .ok (.iconst 2, 1) := by decide +kernel
theorem dL_law_1640 : decode cL_law 1640 = .ok (.iadd, 1) := by decide +kernel
theorem dL_law_1641 : decode cL_law 1641 = .ok (.iaload, 1) := by decide +kernel
theorem dL_law_1642 : decode cL_law 1642 = .ok (.aload_n 3, 1) := by decide +kernel
theorem dL_law_1643 : decode cL_law 1643 = .ok (.invokestatic 201, 3) := by decide +kernel
theorem dL_law_1646 : decode cL_law 1646 = .ok (.istore 5, 2) := by decide +kernel
theorem dL_law_1648 : decode cL_law 1648 = .ok (.aload_n 2, 1) := by decide +kernel
theorem dL_law_1649 : decode cL_law 1649 = .ok (.aload_n 0, 1) := by decide +kernel
theorem dL_law_1650 : decode cL_law 1650 = .ok (.iload 4, 2) := by decide +kernel
theorem dL_law_1652 : decode cL_law 1652 = .ok (.iconst 1, 1) := by decide +kernel
theorem dL_law_1653 : decode cL_law 1653 = .ok (.iadd, 1) := by decide +kernel
theorem dL_law_1654 : decode cL_law 1654 = .ok (.iaload, 1) := by decide +kernel
theorem dL_law_1655 : decode cL_law 1655 = .ok (.aload_n 0, 1) := by decide +kernel
theorem dL_law_1656 : decode cL_law 1656 = .ok (.iload 4, 2) := by decide +kernel
theorem dL_law_1658 : decode cL_law 1658 = .ok (.iconst 2, 1) := by decide +kernel
theorem dL_law_1659 : decode cL_law 1659 = .ok (.iadd, 1) := by decide +kernel
theorem dL_law_1660 : decode cL_law 1660 = .ok (.iaload, 1) := by decide +kernel
theorem dL_law_1661 : decode cL_law 1661 = .ok (.invokevirtual 203, 3) := by decide +kernel
theorem dL_law_1664 : decode cL_law 1664 = .ok (.istore 6, 2) := by decide +kernel
theorem dL_law_1666 : decode cL_law 1666 = .ok (.aload_n 2, 1) := by decide +kernel
theorem dL_law_1667 : decode cL_law 1667 = .ok (.invokevirtual 127, 3) := by decide +kernel
theorem dL_law_1670 : decode cL_law 1670 = .ok (.iload 5, 2) := by decide +kernel
theorem dL_law_1672 : decode cL_law 1672 = .ok (.if_icmp .eq 5, 3) := by decide +kernel
theorem dL_law_1677 : decode cL_law 1677 = .ok (.iload 5, 2) := by decide +kernel
theorem dL_law_1679 : decode cL_law 1679 = .ok (.ifCond .ne 15, 3) := by decide +kernel
theorem dL_law_1694 : decode cL_law 1694 = .ok (.goto 724, 3) := by decide +kernel
theorem dL_law_1697 : decode cL_law 1697 = .ok (.aload_n 1, 1) := by decide +kernel
theorem dL_law_1698 : decode cL_law 1698 = .ok (.aload_n 0, 1) := by decide +kernel
theorem dL_law_1699 : decode cL_law 1699 = .ok (.iload 4, 2) := by decide +kernel
theorem dL_law_1701 : decode cL_law 1701 = .ok (.iconst 1, 1) := by decide +kernel
theorem dL_law_1702 : decode cL_law 1702 = .ok (.iadd, 1) := by decide +kernel
theorem dL_law_1703 : decode cL_law 1703 = .ok (.iaload, 1) := by decide +kernel
theorem dL_law_1704 : decode cL_law 1704 = .ok (.aload_n 0, 1) := by decide +kernel
theorem dL_law_1705 : decode cL_law 1705 = .ok (.iload 4, 2) := by decide +kernel
theorem dL_law_1707 : decode cL_law 1707 = .ok (.iconst 2, 1) := by decide +kernel
theorem dL_law_1708 : decode cL_law 1708 = .ok (.iadd, 1) := by decide +kernel
theorem dL_law_1709 : decode cL_law 1709 = .ok (.iaload, 1) := by decide +kernel
theorem dL_law_1710 : decode cL_law 1710 = .ok (.aload_n 3, 1) := by decide +kernel
theorem dL_law_1711 : decode cL_law 1711 = .ok (.invokestatic 204, 3) := by decide +kernel
theorem dL_law_1714 : decode cL_law 1714 = .ok (.istore 5, 2) := by decide +kernel
theorem dL_law_1716 : decode cL_law 1716 = .ok (.aload_n 2, 1) := by decide +kernel
theorem dL_law_1717 : decode cL_law 1717 = .ok (.aload_n 0, 1) := by decide +kernel
theorem dL_law_1718 : decode cL_law 1718 = .ok (.iload 4, 2) := by decide +kernel
theorem dL_law_1720 : decode cL_law 1720 = .ok (.iconst 1, 1) := by decide +kernel
theorem dL_law_1721 : decode cL_law 1721 = .ok (.iadd, 1) := by decide +kernel
theorem dL_law_1722 : decode cL_law 1722 = .ok (.iaload, 1) := by decide +kernel
theorem dL_law_1723 : decode cL_law 1723 = .ok (.aload_n 0, 1) := by decide +kernel
theorem dL_law_1724 : decode cL_law 1724 = .ok (.iload 4, 2) := by decide +kernel
theorem dL_law_1726 : decode cL_law 1726 = .ok (.iconst 2, 1) := by decide +kernel
theorem dL_law_1727 : decode cL_law 1727 = .ok (.iadd, 1) := by decide +kernel
theorem dL_law_1728 : decode cL_law 1728 = .ok (.iaload, 1) := by decide +kernel
theorem dL_law_1729 : decode cL_law 1729 = .ok (.invokevirtual 206, 3) := by decide +kernel
theorem dL_law_1732 : decode cL_law 1732 = .ok (.istore 6, 2) := by decide +kernel
theorem dL_law_1734 : decode cL_law 1734 = .ok (.aload_n 2, 1) := by decide +kernel
theorem dL_law_1735 : decode cL_law 1735 = .ok (.invokevirtual 127, 3) := by decide +kernel
theorem dL_law_1738 : decode cL_law 1738 = .ok (.iload 5, 2) := by decide +kernel
theorem dL_law_1740 : decode cL_law 1740 = .ok (.if_icmp .eq 5, 3) := by decide +kernel
theorem dL_law_1745 : decode cL_law 1745 = .ok (.iload 5, 2) := by decide +kernel
theorem dL_law_1747 : decode cL_law 1747 = .ok (.ifCond .ne 15, 3) := by decide +kernel
theorem dL_law_1762 : decode cL_law 1762 = .ok (.goto 656, 3) := by decide +kernel
theorem dL_law_1765 : decode cL_law 1765 = .ok (.aload_n 1, 1) := by decide +kernel
theorem dL_law_1766 : decode cL_law 1766 = .ok (.aload_n 0, 1) := by decide +kernel
theorem dL_law_1767 : decode cL_law 1767 = .ok (.iload 4, 2) := by decide +kernel
theorem dL_law_1769 : decode cL_law 1769 = .ok (.iconst 1, 1) := by decide +kernel
theorem dL_law_1770 : decode cL_law 1770 = .ok (.iadd, 1) := by decide +kernel
theorem dL_law_1771 : decode cL_law 1771 = .ok (.iaload, 1) := by decide +kernel
theorem dL_law_1772 : decode cL_law 1772 = .ok (.aload_n 3, 1) := by decide +kernel
theorem dL_law_1773 : decode cL_law 1773 = .ok (.invokestatic 207, 3) := by decide +kernel
theorem dL_law_1776 : decode cL_law 1776 = .ok (.istore 5, 2) := by decide +kernel
theorem dL_law_1778 : decode cL_law 1778 = .ok (.aload_n 2, 1) := by decide +kernel
theorem dL_law_1779 : decode cL_law 1779 = .ok (.aload_n 0, 1) := by decide +kernel
theorem dL_law_1780 : decode cL_law 1780 = .ok (.iload 4, 2) := by decide +kernel
theorem dL_law_1782 : decode cL_law 1782 = .ok (.iconst 1, 1) := by decide +kernel
theorem dL_law_1783 : decode cL_law 1783 = .ok (.iadd, 1) := by decide +kernel
theorem dL_law_1784 : decode cL_law 1784 = .ok (.iaload, 1) := by decide +kernel
theorem dL_law_1785 : decode cL_law 1785 = .ok (.invokevirtual 209, 3) := by decide +kernel
theorem dL_law_1788 : decode cL_law 1788 = .ok (.istore 6, 2) := by decide +kernel
theorem dL_law_1790 : decode cL_law 1790 = .ok (.aload_n 2, 1) := by decide +kernel
theorem dL_law_1791 : decode cL_law 1791 = .ok (.invokevirtual 127, 3) := by decide +kernel
theorem dL_law_1794 : decode cL_law 1794 = .ok (.iload 5, 2) := by decide +kernel
theorem dL_law_1796 : decode cL_law 1796 = .ok (.if_icmp .eq 5, 3) := by decide +kernel
theorem dL_law_1801 : decode cL_law 1801 = .ok (.iload 5, 2) := by decide +kernel
theorem dL_law_1803 : decode cL_law 1803 = .ok (.ifCond .ne 15, 3) := by decide +kernel
theorem dL_law_1818 : decode cL_law 1818 = .ok (.goto 600, 3) := by decide +kernel
theorem dL_law_1821 : decode cL_law 1821 = .ok (.aload_n 1, 1) := by decide +kernel
theorem dL_law_1822 : decode cL_law 1822 = .ok (.aload_n 0, 1) := by decide +kernel
theorem dL_law_1823 : decode cL_law 1823 = .ok (.iload 4, 2) := by decide +kernel
theorem dL_law_1825 : decode cL_law 1825 = .ok (.iconst 1, 1) := by decide +kernel
theorem dL_law_1826 : decode cL_law 1826 = .ok (.iadd, 1) := by decide +kernel
theorem dL_law_1827 : decode cL_law 1827 = .ok (.iaload, 1) := by decide +kernel
theorem dL_law_1828 : decode cL_law 1828 = .ok (.aload_n 3, 1) := by decide +kernel
theorem dL_law_1829 : decode cL_law 1829 = .ok (.invokestatic 210, 3) := by decide +kernel
theorem dL_law_1832 : decode cL_law 1832 = .ok (.istore 5, 2) := by decide +kernel
theorem dL_law_1834 : decode cL_law 1834 = .ok (.aload_n 2, 1) := by decide +kernel
theorem dL_law_1835 : decode cL_law 1835 = .ok (.aload_n 0, 1) := by decide +kernel
theorem dL_law_1836 : decode cL_law 1836 = .ok (.iload 4, 2) := by decide +kernel
theorem dL_law_1838 : decode cL_law 1838 = .ok (.iconst 1, 1) := by decide +kernel
theorem dL_law_1839 : decode cL_law 1839 = .ok (.iadd, 1) := by decide +kernel
theorem dL_law_1840 : decode cL_law 1840 = .ok (.iaload, 1) := by decide +kernel
theorem dL_law_1841 : decode cL_law 1841 = .ok (.invokevirtual 212, 3) := by decide +kernel
theorem dL_law_1844 : decode cL_law 1844 = .ok (.istore 6, 2) := by decide +kernel
theorem dL_law_1846 : decode cL_law 1846 = .ok (.aload_n 2, 1) := by decide +kernel
theorem dL_law_1847 : decode cL_law 1847 = .ok (.invokevirtual 127, 3) := by decide +kernel
theorem dL_law_1850 : decode cL_law 1850 = .ok (.iload 5, 2) := by decide +kernel
theorem dL_law_1852 : decode cL_law 1852 = .ok (.if_icmp .eq 5, 3) := by decide +kernel
theorem dL_law_1857 : decode cL_law 1857 = .ok (.iload 5, 2) := by decide +kernel
theorem dL_law_1859 : decode cL_law 1859 = .ok (.ifCond .ne 15, 3) := by decide +kernel
theorem dL_law_1874 : decode cL_law 1874 = .ok (.goto 544, 3) := by decide +kernel
theorem dL_law_1877 : decode cL_law 1877 = .ok (.aload_n 1, 1) := by decide +kernel
theorem dL_law_1878 : decode cL_law 1878 = .ok (.aload_n 0, 1) := by decide +kernel
theorem dL_law_1879 : decode cL_law 1879 = .ok (.iload 4, 2) := by decide +kernel
theorem dL_law_1881 : decode cL_law 1881 = .ok (.iconst 1, 1) := by decide +kernel
theorem dL_law_1882 : decode cL_law 1882 = .ok (.iadd, 1) := by decide +kernel
theorem dL_law_1883 : decode cL_law 1883 = .ok (.iaload, 1) := by decide +kernel
theorem dL_law_1884 : decode cL_law 1884 = .ok (.aload_n 0, 1) := by decide +kernel
theorem dL_law_1885 : decode cL_law 1885 = .ok (.iload 4, 2) := by decide +kernel
theorem dL_law_1887 : decode cL_law 1887 = .ok (.iconst 2, 1) := by decide +kernel
theorem dL_law_1888 : decode cL_law 1888 = .ok (.iadd, 1) := by decide +kernel
theorem dL_law_1889 : decode cL_law 1889 = .ok (.iaload, 1) := by decide +kernel
theorem dL_law_1890 : decode cL_law 1890 = .ok (.aload_n 0, 1) := by decide +kernel
theorem dL_law_1891 : decode cL_law 1891 = .ok (.iload 4, 2) := by decide +kernel
theorem dL_law_1893 : decode cL_law 1893 = .ok (.iconst 3, 1) := by decide +kernel
theorem dL_law_1894 : decode cL_law 1894 = .ok (.iadd, 1) := by decide +kernel
theorem dL_law_1895 : decode cL_law 1895 = .ok (.iaload, 1) := by decide +kernel
theorem dL_law_1896 : decode cL_law 1896 = .ok (.aload_n 3, 1) := by decide +kernel
theorem dL_law_1897 : decode cL_law 1897 = .ok (.invokestatic 213, 3) := by decide +kernel
theorem dL_law_1900 : decode cL_law 1900 = .ok (.istore 5, 2) := by decide +kernel
theorem dL_law_1902 : decode cL_law 1902 = .ok (.aload_n 2, 1) := by decide +kernel
theorem dL_law_1903 : decode cL_law 1903 = .ok (.aload_n 0, 1) := by decide +kernel
theorem dL_law_1904 : decode cL_law 1904 = .ok (.iload 4, 2) := by decide +kernel
theorem dL_law_1906 : decode cL_law 1906 = .ok (.iconst 1, 1) := by decide +kernel
theorem dL_law_1907 : decode cL_law 1907 = .ok (.iadd, 1) := by decide +kernel
theorem dL_law_1908 : decode cL_law 1908 = .ok (.iaload, 1) := by decide +kernel
theorem dL_law_1909 : decode cL_law 1909 = .ok (.aload_n 0, 1) := by decide +kernel
theorem dL_law_1910 : decode cL_law 1910 = .ok (.iload 4, 2) := by decide +kernel
theorem dL_law_1912 : decode cL_law 1912 = .ok (.iconst 2, 1) := by decide +kernel
theorem dL_law_1913 : decode cL_law 1913 = .ok (.iadd, 1) := by decide +kernel
theorem dL_law_1914 : decode cL_law 1914 = .ok (.iaload, 1) := by decide +kernel
theorem dL_law_1915 : decode cL_law 1915 = .ok (.aload_n 0, 1) := by decide +kernel
theorem dL_law_1916 : decode cL_law 1916 = .ok (.iload 4, 2) := by decide +kernel
theorem dL_law_1918 : decode cL_law 1918 = .ok (.iconst 3, 1) := by decide +kernel
theorem dL_law_1919 : decode cL_law 1919 = .ok (.iadd, 1) := by decide +kernel
theorem dL_law_1920 : decode cL_law 1920 = .ok (.iaload, 1) := by decide +kernel
theorem dL_law_1921 : decode cL_law 1921 = .ok (.invokevirtual 215, 3) := by decide +kernel
theorem dL_law_1924 : decode cL_law 1924 = .ok (.istore 6, 2) := by decide +kernel
theorem dL_law_1926 : decode cL_law 1926 = .ok (.aload_n 2, 1) := by decide +kernel
theorem dL_law_1927 : decode cL_law 1927 = .ok (.invokevirtual 127, 3) := by decide +kernel
theorem dL_law_1930 : decode cL_law 1930 = .ok (.iload 5, 2) := by decide +kernel
theorem dL_law_1932 : decode cL_law 1932 = .ok (.if_icmp .eq 5, 3) := by decide +kernel
theorem dL_law_1937 : decode cL_law 1937 = .ok (.iload 5, 2) := by decide +kernel
theorem dL_law_1939 : decode cL_law 1939 = .ok (.ifCond .ne 15, 3) := by decide +kernel
theorem dL_law_1954 : decode cL_law 1954 = .ok (.goto 464, 3) := by decide +kernel
theorem dL_law_1957 : decode cL_law 1957 = .ok (.aload_n 1, 1) := by decide +kernel
theorem dL_law_1958 : decode cL_law 1958 = .ok (.aload_n 0, 1) := by decide +kernel
theorem dL_law_1959 : decode cL_law 1959 = .ok (.iload 4, 2) := by decide +kernel
theorem dL_law_1961 : decode cL_law 1961 = .ok (.iconst 1, 1) := by decide +kernel
theorem dL_law_1962 : decode cL_law 1962 = .ok (.iadd, 1) := by decide +kernel
theorem dL_law_1963 : decode cL_law 1963 = .ok (.iaload, 1) := by decide +kernel
theorem dL_law_1964 : decode cL_law 1964 = .ok (.aload_n 3, 1) := by decide +kernel
theorem dL_law_1965 : decode cL_law 1965 = .ok (.invokestatic 216, 3) := by decide +kernel
theorem dL_law_1968 : decode cL_law 1968 = .ok (.istore 5, 2) := by decide +kernel
theorem dL_law_1970 : decode cL_law 1970 = .ok (.aload_n 2, 1) := by decide +kernel
theorem dL_law_1971 : decode cL_law 1971 = .ok (.aload_n 0, 1) := by decide +kernel
theorem dL_law_1972 : decode cL_law 1972 = .ok (.iload 4, 2) := by decide +kernel
theorem dL_law_1974 : decode cL_law 1974 = .ok (.iconst 1, 1) := by decide +kernel
theorem dL_law_1975 : decode cL_law 1975 = .ok (.iadd, 1) := by decide +kernel
theorem dL_law_1976 : decode cL_law 1976 = .ok (.iaload, 1) := by decide +kernel
theorem dL_law_1977 : decode cL_law 1977 = .ok (.invokevirtual 218, 3) := by decide +kernel
theorem dL_law_1980 : decode cL_law 1980 = .ok (.istore 6, 2) := by decide +kernel
theorem dL_law_1982 : decode cL_law 1982 = .ok (.aload_n 2, 1) := by decide +kernel
theorem dL_law_1983 : decode cL_law 1983 = .ok (.invokevirtual 127, 3) := by decide +kernel
theorem dL_law_1986 : decode cL_law 1986 = .ok (.iload 5, 2) := by decide +kernel
theorem dL_law_1988 : decode cL_law 1988 = .ok (.if_icmp .eq 5, 3) := by decide +kernel
theorem dL_law_1993 : decode cL_law 1993 = .ok (.iload 5, 2) := by decide +kernel
theorem dL_law_1995 : decode cL_law 1995 = .ok (.ifCond .ne 15, 3) := by decide +kernel
theorem dL_law_2010 : decode cL_law 2010 = .ok (.goto 408, 3) := by decide +kernel
theorem dL_law_2013 : decode cL_law 2013 = .ok (.aload_n 1, 1) := by decide +kernel
theorem dL_law_2014 : decode cL_law 2014 = .ok (.aload_n 0, 1) := by decide +kernel
theorem dL_law_2015 : decode cL_law 2015 = .ok (.iload 4, 2) := by decide +kernel
theorem dL_law_2017 : decode cL_law 2017 = .ok (.iconst 1, 1) := by decide +kernel
theorem dL_law_2018 : decode cL_law 2018 = .ok (.iadd, 1) := by decide +kernel
theorem dL_law_2019 : decode cL_law 2019 = .ok (.iaload, 1) := by decide +kernel
theorem dL_law_2020 : decode cL_law 2020 = .ok (.aload_n 0, 1) := by decide +kernel
theorem dL_law_2021 : decode cL_law 2021 = .ok (.iload 4, 2) := by decide +kernel
theorem dL_law_2023 : decode cL_law 2023 = .ok (.iconst 2, 1) := by decide +kernel
theorem dL_law_2024 : decode cL_law 2024 = .ok (.iadd, 1) := by decide +kernel
theorem dL_law_2025 : decode cL_law 2025 = .ok (.iaload, 1) := by decide +kernel
theorem dL_law_2026 : decode cL_law 2026 = .ok (.aload_n 3, 1) := by decide +kernel
theorem dL_law_2027 : decode cL_law 2027 = .ok (.invokestatic 219, 3) := by decide +kernel
theorem dL_law_2030 : decode cL_law 2030 = .ok (.istore 5, 2) := by decide +kernel
theorem dL_law_2032 : decode cL_law 2032 = .ok (.aload_n 2, 1) := by decide +kernel
theorem dL_law_2033 : decode cL_law 2033 = .ok (.aload_n 0, 1) := by decide +kernel
theorem dL_law_2034 : decode cL_law 2034 = .ok (.iload 4, 2) := by decide +kernel
theorem dL_law_2036 : decode cL_law 2036 = .ok (.iconst 1, 1) := by decide +kernel
theorem dL_law_2037 : decode cL_law 2037 = .ok (.iadd, 1) := by decide +kernel
theorem dL_law_2038 : decode cL_law 2038 = .ok (.iaload, 1) := by decide +kernel
theorem dL_law_2039 : decode cL_law 2039 = .ok (.aload_n 0, 1) := by decide +kernel
theorem dL_law_2040 : decode cL_law 2040 = .ok (.iload 4, 2) := by decide +kernel
theorem dL_law_2042 : decode cL_law 2042 = .ok (.iconst 2, 1) := by decide +kernel
theorem dL_law_2043 : decode cL_law 2043 = .ok (.iadd, 1) := by decide +kernel
theorem dL_law_2044 : decode cL_law 2044 = .ok (.iaload, 1) := by decide +kernel
theorem dL_law_2045 : decode cL_law 2045 = .ok (.invokevirtual 221, 3) := by decide +kernel
theorem dL_law_2048 : decode cL_law 2048 = .ok (.istore 6, 2) := by decide +kernel
theorem dL_law_2050 : decode cL_law 2050 = .ok (.aload_n 2, 1) := by decide +kernel
theorem dL_law_2051 : decode cL_law 2051 = .ok (.invokevirtual 127, 3) := by decide +kernel
theorem dL_law_2054 : decode cL_law 2054 = .ok (.iload 5, 2) := by decide +kernel
theorem dL_law_2056 : decode cL_law 2056 = .ok (.if_icmp .eq 5, 3) := by decide +kernel
theorem dL_law_2061 : decode cL_law 2061 = .ok (.iload 5, 2) := by decide +kernel
theorem dL_law_2063 : decode cL_law 2063 = .ok (.ifCond .ne 15, 3) := by decide +kernel
theorem dL_law_2066 : decode cL_law 2066 = .ok (.aload_n 3, 1) := by decide +kernel
theorem dL_law_2067 : decode cL_law 2067 = .ok (.iconst 0, 1) := by decide +kernel
theorem dL_law_2068 : decode cL_law 2068 = .ok (.laload, 1) := by decide +kernel
theorem dL_law_2069 : decode cL_law 2069 = .ok (.iload 6, 2) := by decide +kernel
theorem dL_law_2071 : decode cL_law 2071 = .ok (.i2l, 1) := by decide +kernel
theorem dL_law_2072 : decode cL_law 2072 = .ok (.lcmp, 1) := by decide +kernel
theorem dL_law_2073 : decode cL_law 2073 = .ok (.ifCond .eq 5, 3) := by decide +kernel
theorem dL_law_2078 : decode cL_law 2078 = .ok (.goto 340, 3) := by decide +kernel
set_option maxHeartbeats 4000000 in
set_option maxRecDepth 100000 in
/-- the law: trust -/
theorem law_case_20 {p : Program} {l : Launch} {e : Env} {s : State} {m : MethodId} {below : List Frame} {meth : Method} {c : Code} {D : va_G} {cy : Nat → ClassId} {sa : Nat → Nat} {b : Nat} {xs : Nat → Int32} (hl0 : l.stackTraces = false) (E : kE yL_law cL_law 7 (some .boolean) #[Value.ref b] p s m meth c) (hX : va_X b 6 xs s s.heap) (hbl : b < s.heap.size) (hG : kG D cy sa (fun q => s.heap.size ≤ q) s) (u v : Nat → Nat) (o : Nat) (H : Heap) (locs : List Loc) (hP : va_P D vwCl [((u 0), .inr (12, [.ref (u 1), .int 0, .int (-1), .ref (u 2), .ref (u 3), .ref (u 4), .ref (u 5), .ref (u 6), .ref (u 7), .ref (u 8), .int 0, .ref (u 9), .ref (u 10), .ref (u 11), .ref (u 12), .ref (u 13), .ref (u 14)])), ((u 3), .inr (4, [.ref (u 15), .ref (u 16), .ref (u 17), .ref (u 18), .ref (u 19), .ref (u 20), .ref (u 21), .ref (u 22), .ref (u 23), .ref (u 24), .ref (u 25), .ref (u 26), .int 0, .int 0, .int 0, .int 0, .int 0])), ((v 0), .inr (13, [.int 0, .int 0, .int 0, .int (-1), .int 0, .int 0, .int 0, .int 0, .ref (v 1), .ref (v 2), .ref (v 3), .ref (v 4), .ref (v 5), .ref (v 6), .ref (v 7), .ref (v 8), .ref (v 9), .int 0, .int 0, .int 0, .int 0, .int 0, .int 0, .int 0, .int 0, .int 0, .ref (v 10), .ref (v 11), .ref (v 12), .ref (v 13), .int 0, .ref (v 14), .ref (v 15), .ref (v 16), .ref (v 17), .ref (v 18), .int 0, .int 0, .int 0, .ref (v 19), .ref (v 20), .ref (v 21), .ref (v 22), .ref (v 23), .int 0, .int 0, .int 0, .int 0])), ((v 5), .inl (cy 0, 5, .inl (fun _ => 0))), (o, .inl (cy 6, 1, .inr (.inl (fun _ => 0))))] H) (hD : va_D (fun q => s.heap.size ≤ q) [((u 0), .inr (12, [.ref (u 1), .int 0, .int (-1), .ref (u 2), .ref (u 3), .ref (u 4), .ref (u 5), .ref (u 6), .ref (u 7), .ref (u 8), .int 0, .ref (u 9), .ref (u 10), .ref (u 11), .ref (u 12), .ref (u 13), .ref (u 14)])), ((u 3), .inr (4, [.ref (u 15), .ref (u 16), .ref (u 17), .ref (u 18), .ref (u 19), .ref (u 20), .ref (u 21), .ref (u 22), .ref (u 23), .ref (u 24), .ref (u 25), .ref (u 26), .int 0, .int 0, .int 0, .int 0, .int 0])), ((v 0), .inr (13, [.int 0, .int 0, .int 0, .int (-1), .int 0, .int 0, .int 0, .int 0, .ref (v 1), .ref (v 2), .ref (v 3), .ref (v 4), .ref (v 5), .ref (v 6), .ref (v 7), .ref (v 8), .ref (v 9), .int 0, .int 0, .int 0, .int 0, .int 0, .int 0, .int 0, .int 0, .int 0, .ref (v 10), .ref (v 11), .ref (v 12), .ref (v 13), .int 0, .ref (v 14), .ref (v 15), .ref (v 16), .ref (v 17), .ref (v 18), .int 0, .int 0, .int 0, .ref (v 19), .ref (v 20), .ref (v 21), .ref (v 22), .ref (v 23), .int 0, .int 0, .int 0, .int 0])), ((v 5), .inl (cy 0, 5, .inl (fun _ => 0))), (o, .inl (cy 6, 1, .inr (.inl (fun _ => 0))))]) (hS : va_S (fun q => s.heap.size ≤ q) s.heap H locs) (ls : Array Slot) (hl : lv_has ls 7 [(0, .ref b), (1, .ref (u 0)), (2, .ref (v 0)), (3, .ref o), (4, .int 0)]) : W p l e room_1 s m #[Value.ref b] below meth c H locs 179 322202 (lw_Z below #[Value.ref b] s) (F0 m 1399 ls []) := by
  obtain ⟨A, hAe⟩ : ∃ A : Nat → Prop, A = fun q => s.heap.size ≤ q := ⟨_, rfl⟩
  rw [← hAe] at hG hD hS
  have hA : ∀ q, s.heap.size ≤ q → A q := fun q h => by rw [hAe]; exact h
  have hAs : ∀ q, A q → s.heap.size ≤ q := fun q h => by rw [hAe] at h; exact h
  have hbA : ¬ A b := by rw [hAe]; exact Nat.not_le.mpr hbl
  obtain ⟨hx, hb, hml, hown, hts, hr, hlk, hnm⟩ := id E
  have hown : s.vm.findClass RL = some m.cls := hown
  refine lv_aload_n hx hb dL_law_1399 rfl (lv_at hl 1 rfl) ?_
  refine lv_aload_n hx hb dL_law_1400 rfl (lv_at hl 0 rfl) ?_
  refine lv_iload hx hb dL_law_1401 (lv_at hl 4 rfl) ?_
  refine lv_iconst (v := 1) hx hb dL_law_1403 (by decide) ?_
  refine lv_iadd hx hb dL_law_1404 ?_
  refine lv_topi (fun x1 ex1 => ?_)
  obtain rfl : x1 = 1 := ex1.trans (by decide)
  refine va_sld hx hb hX hbl hbA hS (by unfold vp_in; decide) dL_law_1405 ?_
  refine lv_topi (fun x2 ex2 => ?_)
  obtain rfl : x2 = xs 1 := ex2.trans rfl
  refine lv_aload_n hx hb dL_law_1406 rfl (lv_at hl 0 rfl) ?_
  refine lv_iload hx hb dL_law_1407 (lv_at hl 4 rfl) ?_
  refine lv_iconst (v := 2) hx hb dL_law_1409 (by decide) ?_
  refine lv_iadd hx hb dL_law_1410 ?_
  refine lv_topi (fun x3 ex3 => ?_)
  obtain rfl : x3 = 2 := ex3.trans (by decide)
  refine va_sld hx hb hX hbl hbA hS (by unfold vp_in; decide) dL_law_1411 ?_
  refine lv_topi (fun x4 ex4 => ?_)
  obtain rfl : x4 = xs 2 := ex4.trans rfl
  refine lv_aload_n hx hb dL_law_1412 rfl (lv_at hl 3 rfl) ?_
  refine x_cali [2, 3] (⟨hP, hD, hG, hS, hA, rfl, rfl⟩ : kAt D cy sa A s H _ _ [((u 0), .inr (12, [.ref (u 1), .int 0, .int (-1), .ref (u 2), .ref (u 3), .ref (u 4), .ref (u 5), .ref (u 6), .ref (u 7), .ref (u 8), .int 0, .ref (u 9), .ref (u 10), .ref (u 11), .ref (u 12), .ref (u 13), .ref (u 14)])), ((u 3), .inr (4, [.ref (u 15), .ref (u 16), .ref (u 17), .ref (u 18), .ref (u 19), .ref (u 20), .ref (u 21), .ref (u 22), .ref (u 23), .ref (u 24), .ref (u 25), .ref (u 26), .int 0, .int 0, .int 0, .int 0, .int 0])), (o, .inl (cy 6, 1, .inr (.inl (fun _ => 0))))] [0, 1, 4]) (wr := [((v 0), .inr (13, [.int 0, .int 0, .int 0, .int (-1), .int 0, .int 0, .int 0, .int 0, .ref (v 1), .ref (v 2), .ref (v 3), .ref (v 4), .ref (v 5), .ref (v 6), .ref (v 7), .ref (v 8), .ref (v 9), .int 0, .int 0, .int 0, .int 0, .int 0, .int 0, .int 0, .int 0, .int 0, .ref (v 10), .ref (v 11), .ref (v 12), .ref (v 13), .int 0, .ref (v 14), .ref (v 15), .ref (v 16), .ref (v 17), .ref (v 18), .int 0, .int 0, .int 0, .ref (v 19), .ref (v 20), .ref (v 21), .ref (v 22), .ref (v 23), .int 0, .int 0, .int 0, .int 0])), ((v 5), .inl (cy 0, 5, .inl (fun _ => 0)))]) rfl rfl (by decide) (x_runW (As := [.ref (u 0), .int (xs 1), .int (xs 2), .ref o]) (rest := []) E lk_SRL_192 (w_trust l hl0 D cy sa u o (xs 1) (xs 2) H.size) (⟨hP, hD, hG, hS, hA, rfl, rfl⟩ : kAt D cy sa A s H _ _ [((u 0), .inr (12, [.ref (u 1), .int 0, .int (-1), .ref (u 2), .ref (u 3), .ref (u 4), .ref (u 5), .ref (u 6), .ref (u 7), .ref (u 8), .int 0, .ref (u 9), .ref (u 10), .ref (u 11), .ref (u 12), .ref (u 13), .ref (u 14)])), ((u 3), .inr (4, [.ref (u 15), .ref (u 16), .ref (u 17), .ref (u 18), .ref (u 19), .ref (u 20), .ref (u 21), .ref (u 22), .ref (u 23), .ref (u 24), .ref (u 25), .ref (u 26), .int 0, .int 0, .int 0, .int 0, .int 0])), (o, .inl (cy 6, 1, .inr (.inl (fun _ => 0))))] [0, 1, 4]) hl.1 rfl rfl ⟨rfl, rfl, ⟨Nat.le_of_ble_eq_true rfl, Nat.le_of_ble_eq_true rfl⟩, ⟨Nat.le_of_ble_eq_true rfl, Nat.le_of_ble_eq_true rfl⟩, Nat.le_of_ble_eq_true rfl⟩ dL_law_1413) (fun ce q9 u6 H locs hwu6 hP hD hS h1 h2 h3 => ?_) (fun r5 u6 H locs hwu6 hP hD hS => ?_)
  · have hP : va_P D vwCl [((v 0), .inr (13, [.int 0, .int 0, .int 0, .int (-1), .int 0, .int 0, .int 0, .int 0, .ref (v 1), .ref (v 2), .ref (v 3), .ref (v 4), .ref (v 5), .ref (v 6), .ref (v 7), .ref (v 8), .ref (v 9), .int 0, .int 0, .int 0, .int 0, .int 0, .int 0, .int 0, .int 0, .int 0, .ref (v 10), .ref (v 11), .ref (v 12), .ref (v 13), .int 0, .ref (v 14), .ref (v 15), .ref (v 16), .ref (v 17), .ref (v 18), .int 0, .int 0, .int 0, .ref (v 19), .ref (v 20), .ref (v 21), .ref (v 22), .ref (v 23), .int 0, .int 0, .int 0, .int 0])), ((v 5), .inl (cy 0, 5, .inl (fun _ => 0)))] H := hP
    have hD : va_D A [((v 0), .inr (13, [.int 0, .int 0, .int 0, .int (-1), .int 0, .int 0, .int 0, .int 0, .ref (v 1), .ref (v 2), .ref (v 3), .ref (v 4), .ref (v 5), .ref (v 6), .ref (v 7), .ref (v 8), .ref (v 9), .int 0, .int 0, .int 0, .int 0, .int 0, .int 0, .int 0, .int 0, .int 0, .ref (v 10), .ref (v 11), .ref (v 12), .ref (v 13), .int 0, .ref (v 14), .ref (v 15), .ref (v 16), .ref (v 17), .ref (v 18), .int 0, .int 0, .int 0, .ref (v 19), .ref (v 20), .ref (v 21), .ref (v 22), .ref (v 23), .int 0, .int 0, .int 0, .int 0])), ((v 5), .inl (cy 0, 5, .inl (fun _ => 0)))] := hD
    exact (hwu6).elim
  · have hP : va_P D vwCl [((v 0), .inr (13, [.int 0, .int 0, .int 0, .int (-1), .int 0, .int 0, .int 0, .int 0, .ref (v 1), .ref (v 2), .ref (v 3), .ref (v 4), .ref (v 5), .ref (v 6), .ref (v 7), .ref (v 8), .ref (v 9), .int 0, .int 0, .int 0, .int 0, .int 0, .int 0, .int 0, .int 0, .int 0, .ref (v 10), .ref (v 11), .ref (v 12), .ref (v 13), .int 0, .ref (v 14), .ref (v 15), .ref (v 16), .ref (v 17), .ref (v 18), .int 0, .int 0, .int 0, .ref (v 19), .ref (v 20), .ref (v 21), .ref (v 22), .ref (v 23), .int 0, .int 0, .int 0, .int 0])), ((v 5), .inl (cy 0, 5, .inl (fun _ => 0))), (o, .inl (cy 6, 1, .inr (.inl u6)))] H := hP
    have hD : va_D A [((v 0), .inr (13, [.int 0, .int 0, .int 0, .int (-1), .int 0, .int 0, .int 0, .int 0, .ref (v 1), .ref (v 2), .ref (v 3), .ref (v 4), .ref (v 5), .ref (v 6), .ref (v 7), .ref (v 8), .ref (v 9), .int 0, .int 0, .int 0, .int 0, .int 0, .int 0, .int 0, .int 0, .int 0, .ref (v 10), .ref (v 11), .ref (v 12), .ref (v 13), .int 0, .ref (v 14), .ref (v 15), .ref (v 16), .ref (v 17), .ref (v 18), .int 0, .int 0, .int 0, .ref (v 19), .ref (v 20), .ref (v 21), .ref (v 22), .ref (v 23), .int 0, .int 0, .int 0, .int 0])), ((v 5), .inl (cy 0, 5, .inl (fun _ => 0))), (o, .inl (cy 6, 1, .inr (.inl u6)))] := hD
    refine lv_istore (lv' := [(5, .int r5), (0, .ref b), (1, .ref (u 0)), (2, .ref (v 0)), (3, .ref o), (4, .int 0)]) hx hb dL_law_1416 hl (by decide) rfl (fun ls hl => ?_)
    refine lv_aload_n hx hb dL_law_1418 rfl (lv_at hl 3 rfl) ?_
    refine lv_aload_n hx hb dL_law_1419 rfl (lv_at hl 1 rfl) ?_
    refine lv_iload hx hb dL_law_1420 (lv_at hl 5 rfl) ?_
    refine lv_iconst (v := 1) hx hb dL_law_1422 (by decide) ?_
    refine lv_iadd hx hb dL_law_1423 ?_
    refine lv_topi (fun x7 ex7 => ?_)
    obtain rfl : x7 = 1 := ex7.trans (by decide)
    refine va_sld hx hb hX hbl hbA hS (by unfold vp_in; decide) dL_law_1424 ?_
    refine lv_topi (fun x8 ex8 => ?_)
    obtain rfl : x8 = xs 1 := ex8.trans rfl
    refine lv_aload_n hx hb dL_law_1425 rfl (lv_at hl 1 rfl) ?_
    refine lv_iload hx hb dL_law_1426 (lv_at hl 5 rfl) ?_
    refine lv_iconst (v := 2) hx hb dL_law_1428 (by decide) ?_
    refine lv_iadd hx hb dL_law_1429 ?_
    refine lv_topi (fun x9 ex9 => ?_)
    obtain rfl : x9 = 2 := ex9.trans (by decide)
    refine va_sld hx hb hX hbl hbA hS (by unfold vp_in; decide) dL_law_1430 ?_
    refine lv_topi (fun x10 ex10 => ?_)
    obtain rfl : x10 = xs 2 := ex10.trans rfl
    refine k_cali [2] (⟨hP, hD, hG, hS, hA, rfl, rfl⟩ : kAt D cy sa A s H _ _ [((v 0), .inr (13, [.int 0, .int 0, .int 0, .int (-1), .int 0, .int 0, .int 0, .int 0, .ref (v 1), .ref (v 2), .ref (v 3), .ref (v 4), .ref (v 5), .ref (v 6), .ref (v 7), .ref (v 8), .ref (v 9), .int 0, .int 0, .int 0, .int 0, .int 0, .int 0, .int 0, .int 0, .int 0, .ref (v 10), .ref (v 11), .ref (v 12), .ref (v 13), .int 0, .ref (v 14), .ref (v 15), .ref (v 16), .ref (v 17), .ref (v 18), .int 0, .int 0, .int 0, .ref (v 19), .ref (v 20), .ref (v 21), .ref (v 22), .ref (v 23), .int 0, .int 0, .int 0, .int 0])), ((v 5), .inl (cy 0, 5, .inl (fun _ => 0)))] [0, 1]) (wr := [(o, .inl (cy 6, 1, .inr (.inl u6)))]) rfl rfl (by decide) (k_runV 13 0 (As := [.int (xs 1), .int (xs 2)]) (rest := []) E lk_VRL_194 rfl rfl rfl (m_trust_ l hl0 D cy sa v (xs 1) (xs 2) H.size) (⟨hP, hD, hG, hS, hA, rfl, rfl⟩ : kAt D cy sa A s H _ _ [((v 0), .inr (13, [.int 0, .int 0, .int 0, .int (-1), .int 0, .int 0, .int 0, .int 0, .ref (v 1), .ref (v 2), .ref (v 3), .ref (v 4), .ref (v 5), .ref (v 6), .ref (v 7), .ref (v 8), .ref (v 9), .int 0, .int 0, .int 0, .int 0, .int 0, .int 0, .int 0, .int 0, .int 0, .ref (v 10), .ref (v 11), .ref (v 12), .ref (v 13), .int 0, .ref (v 14), .ref (v 15), .ref (v 16), .ref (v 17), .ref (v 18), .int 0, .int 0, .int 0, .ref (v 19), .ref (v 20), .ref (v 21), .ref (v 22), .ref (v 23), .int 0, .int 0, .int 0, .int 0])), ((v 5), .inl (cy 0, 5, .inl (fun _ => 0)))] [0, 1]) hl.1 rfl rfl ⟨rfl, rfl, ⟨Nat.le_of_ble_eq_true rfl, Nat.le_of_ble_eq_true rfl⟩, ⟨Nat.le_of_ble_eq_true rfl, Nat.le_of_ble_eq_true rfl⟩, Nat.le_of_ble_eq_true rfl⟩ dL_law_1431) (fun r11 u12 H locs hwu12 hP hD hS => ?_)
    have hP : va_P D vwCl [(o, .inl (cy 6, 1, .inr (.inl u6))), ((v 0), .inr (13, .int u12.1 :: u12.2))] H := hP
    have hD : va_D A [(o, .inl (cy 6, 1, .inr (.inl u6))), ((v 0), .inr (13, .int u12.1 :: u12.2))] := hD
    refine lv_istore (lv' := [(6, .int r11), (5, .int r5), (0, .ref b), (1, .ref (u 0)), (2, .ref (v 0)), (3, .ref o), (4, .int 0)]) hx hb dL_law_1434 hl (by decide) rfl (fun ls hl => ?_)
    refine lv_aload_n hx hb dL_law_1436 rfl (lv_at hl 4 rfl) ?_
    refine k_cali [0] (⟨hP, hD, hG, hS, hA, rfl, rfl⟩ : kAt D cy sa A s H _ _ [((v 0), .inr (13, .int u12.1 :: u12.2))] [1]) (wr := [(o, .inl (cy 6, 1, .inr (.inl u6)))]) rfl rfl (by decide) (k_runV 13 1 (As := []) (rest := []) E lk_VRL_127 rfl rfl rfl (m_thrown l hl0 D cy sa v u12.1 u12.2 H.size) (⟨hP, hD, hG, hS, hA, rfl, rfl⟩ : kAt D cy sa A s H _ _ [((v 0), .inr (13, .int u12.1 :: u12.2))] [1]) hl.1 rfl rfl ⟨rfl, rfl, ⟨Nat.le_of_ble_eq_true rfl, Nat.le_of_ble_eq_true rfl⟩, ⟨Nat.le_of_ble_eq_true rfl, Nat.le_of_ble_eq_true rfl⟩, Nat.le_of_ble_eq_true rfl⟩ dL_law_1437) (fun r13 u14 H locs hwu14 hP hD hS => ?_)
    have hP : va_P D vwCl [(o, .inl (cy 6, 1, .inr (.inl u6)))] H := hP
    have hD : va_D A [(o, .inl (cy 6, 1, .inr (.inl u6)))] := hD
    rcases hwu6 with ⟨rfl, x9, hx9, hf9⟩ | ⟨rfl, hpx⟩
    · exact hx9.elim
    · obtain rfl : r13 = 1 := hwu14.trans (hwu12.2 id)
      refine lv_iload hx hb dL_law_1440 (lv_at hl 1 rfl) ?_
      refine lv_icmp_eq (tgt := 1447) hx hb dL_law_1442 (by decide) (fun _ => ?_) (fun h => absurd (by decide) h)
      refine lv_iload hx hb dL_law_1447 (lv_at hl 1 rfl) ?_
      refine lv_if_ne (tgt := 1464) hx hb dL_law_1449 (by decide) (fun _ => ?_) (fun h => absurd h (by decide))
      refine lv_goto (tgt := 2418) hx hb dL_law_1464 (by decide) ?_
      refine lv_iinc (v := 6) (lv' := [(4, .int 6), (6, .int r11), (5, .int 1), (0, .ref b), (1, .ref (u 0)), (2, .ref (v 0)), (3, .ref o)]) hx hb dL_law_2418 hl (k := 6) rfl (by decide) (by decide) rfl (fun ls hl => ?_)
      refine lv_goto (tgt := 23) hx hb dL_law_2421 (by decide) ?_
      exact law_exit E hX hbl hbA hAs hS (i := 6) (by decide) (lv_at hl 3 rfl) (lv_at hl 0 rfl) (by decide) (by decide)

set_option maxHeartbeats 4000000 in
set_option maxRecDepth 100000 in
/-- the law: answer -/
theorem law_case_21 {p : Program} {l : Launch} {e : Env} {s : State} {m : MethodId} {below : List Frame} {meth : Method} {c : Code} {D : va_G} {cy : Nat → ClassId} {sa : Nat → Nat} {b : Nat} {xs : Nat → Int32} (hl0 : l.stackTraces = false) (E : kE yL_law cL_law 7 (some .boolean) #[Value.ref b] p s m meth c) (hX : va_X b 6 xs s s.heap) (hbl : b < s.heap.size) (hG : kG D cy sa (fun q => s.heap.size ≤ q) s) (u v : Nat → Nat) (o : Nat) (H : Heap) (locs : List Loc) (hP : va_P D vwCl [((u 0), .inr (12, [.ref (u 1), .int 0, .int (-1), .ref (u 2), .ref (u 3), .ref (u 4), .ref (u 5), .ref (u 6), .ref (u 7), .ref (u 8), .int 0, .ref (u 9), .ref (u 10), .ref (u 11), .ref (u 12), .ref (u 13), .ref (u 14)])), ((u 3), .inr (4, [.ref (u 15), .ref (u 16), .ref (u 17), .ref (u 18), .ref (u 19), .ref (u 20), .ref (u 21), .ref (u 22), .ref (u 23), .ref (u 24), .ref (u 25), .ref (u 26), .int 0, .int 0, .int 0, .int 0, .int 0])), ((v 0), .inr (13, [.int 0, .int 0, .int 0, .int (-1), .int 0, .int 0, .int 0, .int 0, .ref (v 1), .ref (v 2), .ref (v 3), .ref (v 4), .ref (v 5), .ref (v 6), .ref (v 7), .ref (v 8), .ref (v 9), .int 0, .int 0, .int 0, .int 0, .int 0, .int 0, .int 0, .int 0, .int 0, .ref (v 10), .ref (v 11), .ref (v 12), .ref (v 13), .int 0, .ref (v 14), .ref (v 15), .ref (v 16), .ref (v 17), .ref (v 18), .int 0, .int 0, .int 0, .ref (v 19), .ref (v 20), .ref (v 21), .ref (v 22), .ref (v 23), .int 0, .int 0, .int 0, .int 0])), ((v 5), .inl (cy 0, 5, .inl (fun _ => 0))), (o, .inl (cy 6, 1, .inr (.inl (fun _ => 0))))] H) (hD : va_D (fun q => s.heap.size ≤ q) [((u 0), .inr (12, [.ref (u 1), .int 0, .int (-1), .ref (u 2), .ref (u 3), .ref (u 4), .ref (u 5), .ref (u 6), .ref (u 7), .ref (u 8), .int 0, .ref (u 9), .ref (u 10), .ref (u 11), .ref (u 12), .ref (u 13), .ref (u 14)])), ((u 3), .inr (4, [.ref (u 15), .ref (u 16), .ref (u 17), .ref (u 18), .ref (u 19), .ref (u 20), .ref (u 21), .ref (u 22), .ref (u 23), .ref (u 24), .ref (u 25), .ref (u 26), .int 0, .int 0, .int 0, .int 0, .int 0])), ((v 0), .inr (13, [.int 0, .int 0, .int 0, .int (-1), .int 0, .int 0, .int 0, .int 0, .ref (v 1), .ref (v 2), .ref (v 3), .ref (v 4), .ref (v 5), .ref (v 6), .ref (v 7), .ref (v 8), .ref (v 9), .int 0, .int 0, .int 0, .int 0, .int 0, .int 0, .int 0, .int 0, .int 0, .ref (v 10), .ref (v 11), .ref (v 12), .ref (v 13), .int 0, .ref (v 14), .ref (v 15), .ref (v 16), .ref (v 17), .ref (v 18), .int 0, .int 0, .int 0, .ref (v 19), .ref (v 20), .ref (v 21), .ref (v 22), .ref (v 23), .int 0, .int 0, .int 0, .int 0])), ((v 5), .inl (cy 0, 5, .inl (fun _ => 0))), (o, .inl (cy 6, 1, .inr (.inl (fun _ => 0))))]) (hS : va_S (fun q => s.heap.size ≤ q) s.heap H locs) (ls : Array Slot) (hl : lv_has ls 7 [(0, .ref b), (1, .ref (u 0)), (2, .ref (v 0)), (3, .ref o), (4, .int 0)]) : W p l e room_1 s m #[Value.ref b] below meth c H locs 179 322202 (lw_Z below #[Value.ref b] s) (F0 m 1467 ls []) := by
  obtain ⟨A, hAe⟩ : ∃ A : Nat → Prop, A = fun q => s.heap.size ≤ q := ⟨_, rfl⟩
  rw [← hAe] at hG hD hS
  have hA : ∀ q, s.heap.size ≤ q → A q := fun q h => by rw [hAe]; exact h
  have hAs : ∀ q, A q → s.heap.size ≤ q := fun q h => by rw [hAe] at h; exact h
  have hbA : ¬ A b := by rw [hAe]; exact Nat.not_le.mpr hbl
  obtain ⟨hx, hb, hml, hown, hts, hr, hlk, hnm⟩ := id E
  have hown : s.vm.findClass RL = some m.cls := hown
  refine lv_aload_n hx hb dL_law_1467 rfl (lv_at hl 1 rfl) ?_
  refine lv_aload_n hx hb dL_law_1468 rfl (lv_at hl 0 rfl) ?_
  refine lv_iload hx hb dL_law_1469 (lv_at hl 4 rfl) ?_
  refine lv_iconst (v := 1) hx hb dL_law_1471 (by decide) ?_
  refine lv_iadd hx hb dL_law_1472 ?_
  refine lv_topi (fun x1 ex1 => ?_)
  obtain rfl : x1 = 1 := ex1.trans (by decide)
  refine va_sld hx hb hX hbl hbA hS (by unfold vp_in; decide) dL_law_1473 ?_
  refine lv_topi (fun x2 ex2 => ?_)
  obtain rfl : x2 = xs 1 := ex2.trans rfl
  refine lv_aload_n hx hb dL_law_1474 rfl (lv_at hl 0 rfl) ?_
  refine lv_iload hx hb dL_law_1475 (lv_at hl 4 rfl) ?_
  refine lv_iconst (v := 2) hx hb dL_law_1477 (by decide) ?_
  refine lv_iadd hx hb dL_law_1478 ?_
  refine lv_topi (fun x3 ex3 => ?_)
  obtain rfl : x3 = 2 := ex3.trans (by decide)
  refine va_sld hx hb hX hbl hbA hS (by unfold vp_in; decide) dL_law_1479 ?_
  refine lv_topi (fun x4 ex4 => ?_)
  obtain rfl : x4 = xs 2 := ex4.trans rfl
  refine lv_aload_n hx hb dL_law_1480 rfl (lv_at hl 0 rfl) ?_
  refine lv_iload hx hb dL_law_1481 (lv_at hl 4 rfl) ?_
  refine lv_iconst (v := 3) hx hb dL_law_1483 (by decide) ?_
  refine lv_iadd hx hb dL_law_1484 ?_
  refine lv_topi (fun x5 ex5 => ?_)
  obtain rfl : x5 = 3 := ex5.trans (by decide)
  refine va_sld hx hb hX hbl hbA hS (by unfold vp_in; decide) dL_law_1485 ?_
  refine lv_topi (fun x6 ex6 => ?_)
  obtain rfl : x6 = xs 3 := ex6.trans rfl
  refine lv_aload_n hx hb dL_law_1486 rfl (lv_at hl 0 rfl) ?_
  refine lv_iload hx hb dL_law_1487 (lv_at hl 4 rfl) ?_
  refine lv_iconst (v := 4) hx hb dL_law_1489 (by decide) ?_
  refine lv_iadd hx hb dL_law_1490 ?_
  refine lv_topi (fun x7 ex7 => ?_)
  obtain rfl : x7 = 4 := ex7.trans (by decide)
  refine va_sld hx hb hX hbl hbA hS (by unfold vp_in; decide) dL_law_1491 ?_
  refine lv_topi (fun x8 ex8 => ?_)
  obtain rfl : x8 = xs 4 := ex8.trans rfl
  refine lv_aload_n hx hb dL_law_1492 rfl (lv_at hl 3 rfl) ?_
  refine x_cali [2, 3] (⟨hP, hD, hG, hS, hA, rfl, rfl⟩ : kAt D cy sa A s H _ _ [((u 0), .inr (12, [.ref (u 1), .int 0, .int (-1), .ref (u 2), .ref (u 3), .ref (u 4), .ref (u 5), .ref (u 6), .ref (u 7), .ref (u 8), .int 0, .ref (u 9), .ref (u 10), .ref (u 11), .ref (u 12), .ref (u 13), .ref (u 14)])), ((u 3), .inr (4, [.ref (u 15), .ref (u 16), .ref (u 17), .ref (u 18), .ref (u 19), .ref (u 20), .ref (u 21), .ref (u 22), .ref (u 23), .ref (u 24), .ref (u 25), .ref (u 26), .int 0, .int 0, .int 0, .int 0, .int 0])), (o, .inl (cy 6, 1, .inr (.inl (fun _ => 0))))] [0, 1, 4]) (wr := [((v 0), .inr (13, [.int 0, .int 0, .int 0, .int (-1), .int 0, .int 0, .int 0, .int 0, .ref (v 1), .ref (v 2), .ref (v 3), .ref (v 4), .ref (v 5), .ref (v 6), .ref (v 7), .ref (v 8), .ref (v 9), .int 0, .int 0, .int 0, .int 0, .int 0, .int 0, .int 0, .int 0, .int 0, .ref (v 10), .ref (v 11), .ref (v 12), .ref (v 13), .int 0, .ref (v 14), .ref (v 15), .ref (v 16), .ref (v 17), .ref (v 18), .int 0, .int 0, .int 0, .ref (v 19), .ref (v 20), .ref (v 21), .ref (v 22), .ref (v 23), .int 0, .int 0, .int 0, .int 0])), ((v 5), .inl (cy 0, 5, .inl (fun _ => 0)))]) rfl rfl (by decide) (x_runW (As := [.ref (u 0), .int (xs 1), .int (xs 2), .int (xs 3), .int (xs 4), .ref o]) (rest := []) E lk_SRL_195 (w_answer l hl0 D cy sa u o (xs 1) (xs 2) (xs 3) (xs 4) H.size) (⟨hP, hD, hG, hS, hA, rfl, rfl⟩ : kAt D cy sa A s H _ _ [((u 0), .inr (12, [.ref (u 1), .int 0, .int (-1), .ref (u 2), .ref (u 3), .ref (u 4), .ref (u 5), .ref (u 6), .ref (u 7), .ref (u 8), .int 0, .ref (u 9), .ref (u 10), .ref (u 11), .ref (u 12), .ref (u 13), .ref (u 14)])), ((u 3), .inr (4, [.ref (u 15), .ref (u 16), .ref (u 17), .ref (u 18), .ref (u 19), .ref (u 20), .ref (u 21), .ref (u 22), .ref (u 23), .ref (u 24), .ref (u 25), .ref (u 26), .int 0, .int 0, .int 0, .int 0, .int 0])), (o, .inl (cy 6, 1, .inr (.inl (fun _ => 0))))] [0, 1, 4]) hl.1 rfl rfl ⟨rfl, rfl, ⟨Nat.le_of_ble_eq_true rfl, Nat.le_of_ble_eq_true rfl⟩, ⟨Nat.le_of_ble_eq_true rfl, Nat.le_of_ble_eq_true rfl⟩, Nat.le_of_ble_eq_true rfl⟩ dL_law_1493) (fun ce q9 u10 H locs hwu10 hP hD hS h1 h2 h3 => ?_) (fun r9 u10 H locs hwu10 hP hD hS => ?_)
  · have hP : va_P D vwCl [((v 0), .inr (13, [.int 0, .int 0, .int 0, .int (-1), .int 0, .int 0, .int 0, .int 0, .ref (v 1), .ref (v 2), .ref (v 3), .ref (v 4), .ref (v 5), .ref (v 6), .ref (v 7), .ref (v 8), .ref (v 9), .int 0, .int 0, .int 0, .int 0, .int 0, .int 0, .int 0, .int 0, .int 0, .ref (v 10), .ref (v 11), .ref (v 12), .ref (v 13), .int 0, .ref (v 14), .ref (v 15), .ref (v 16), .ref (v 17), .ref (v 18), .int 0, .int 0, .int 0, .ref (v 19), .ref (v 20), .ref (v 21), .ref (v 22), .ref (v 23), .int 0, .int 0, .int 0, .int 0])), ((v 5), .inl (cy 0, 5, .inl (fun _ => 0)))] H := hP
    have hD : va_D A [((v 0), .inr (13, [.int 0, .int 0, .int 0, .int (-1), .int 0, .int 0, .int 0, .int 0, .ref (v 1), .ref (v 2), .ref (v 3), .ref (v 4), .ref (v 5), .ref (v 6), .ref (v 7), .ref (v 8), .ref (v 9), .int 0, .int 0, .int 0, .int 0, .int 0, .int 0, .int 0, .int 0, .int 0, .ref (v 10), .ref (v 11), .ref (v 12), .ref (v 13), .int 0, .ref (v 14), .ref (v 15), .ref (v 16), .ref (v 17), .ref (v 18), .int 0, .int 0, .int 0, .ref (v 19), .ref (v 20), .ref (v 21), .ref (v 22), .ref (v 23), .int 0, .int 0, .int 0, .int 0])), ((v 5), .inl (cy 0, 5, .inl (fun _ => 0)))] := hD
    exact (hwu10).elim
  · have hP : va_P D vwCl [((v 0), .inr (13, [.int 0, .int 0, .int 0, .int (-1), .int 0, .int 0, .int 0, .int 0, .ref (v 1), .ref (v 2), .ref (v 3), .ref (v 4), .ref (v 5), .ref (v 6), .ref (v 7), .ref (v 8), .ref (v 9), .int 0, .int 0, .int 0, .int 0, .int 0, .int 0, .int 0, .int 0, .int 0, .ref (v 10), .ref (v 11), .ref (v 12), .ref (v 13), .int 0, .ref (v 14), .ref (v 15), .ref (v 16), .ref (v 17), .ref (v 18), .int 0, .int 0, .int 0, .ref (v 19), .ref (v 20), .ref (v 21), .ref (v 22), .ref (v 23), .int 0, .int 0, .int 0, .int 0])), ((v 5), .inl (cy 0, 5, .inl (fun _ => 0))), (o, .inl (cy 6, 1, .inr (.inl u10)))] H := hP
    have hD : va_D A [((v 0), .inr (13, [.int 0, .int 0, .int 0, .int (-1), .int 0, .int 0, .int 0, .int 0, .ref (v 1), .ref (v 2), .ref (v 3), .ref (v 4), .ref (v 5), .ref (v 6), .ref (v 7), .ref (v 8), .ref (v 9), .int 0, .int 0, .int 0, .int 0, .int 0, .int 0, .int 0, .int 0, .int 0, .ref (v 10), .ref (v 11), .ref (v 12), .ref (v 13), .int 0, .ref (v 14), .ref (v 15), .ref (v 16), .ref (v 17), .ref (v 18), .int 0, .int 0, .int 0, .ref (v 19), .ref (v 20), .ref (v 21), .ref (v 22), .ref (v 23), .int 0, .int 0, .int 0, .int 0])), ((v 5), .inl (cy 0, 5, .inl (fun _ => 0))), (o, .inl (cy 6, 1, .inr (.inl u10)))] := hD
    refine lv_istore (lv' := [(5, .int r9), (0, .ref b), (1, .ref (u 0)), (2, .ref (v 0)), (3, .ref o), (4, .int 0)]) hx hb dL_law_1496 hl (by decide) rfl (fun ls hl => ?_)
    refine lv_aload_n hx hb dL_law_1498 rfl (lv_at hl 3 rfl) ?_
    refine lv_aload_n hx hb dL_law_1499 rfl (lv_at hl 1 rfl) ?_
    refine lv_iload hx hb dL_law_1500 (lv_at hl 5 rfl) ?_
    refine lv_iconst (v := 1) hx hb dL_law_1502 (by decide) ?_
    refine lv_iadd hx hb dL_law_1503 ?_
    refine lv_topi (fun x11 ex11 => ?_)
    obtain rfl : x11 = 1 := ex11.trans (by decide)
    refine va_sld hx hb hX hbl hbA hS (by unfold vp_in; decide) dL_law_1504 ?_
    refine lv_topi (fun x12 ex12 => ?_)
    obtain rfl : x12 = xs 1 := ex12.trans rfl
    refine lv_aload_n hx hb dL_law_1505 rfl (lv_at hl 1 rfl) ?_
    refine lv_iload hx hb dL_law_1506 (lv_at hl 5 rfl) ?_
    refine lv_iconst (v := 2) hx hb dL_law_1508 (by decide) ?_
    refine lv_iadd hx hb dL_law_1509 ?_
    refine lv_topi (fun x13 ex13 => ?_)
    obtain rfl : x13 = 2 := ex13.trans (by decide)
    refine va_sld hx hb hX hbl hbA hS (by unfold vp_in; decide) dL_law_1510 ?_
    refine lv_topi (fun x14 ex14 => ?_)
    obtain rfl : x14 = xs 2 := ex14.trans rfl
    refine lv_aload_n hx hb dL_law_1511 rfl (lv_at hl 1 rfl) ?_
    refine lv_iload hx hb dL_law_1512 (lv_at hl 5 rfl) ?_
    refine lv_iconst (v := 3) hx hb dL_law_1514 (by decide) ?_
    refine lv_iadd hx hb dL_law_1515 ?_
    refine lv_topi (fun x15 ex15 => ?_)
    obtain rfl : x15 = 3 := ex15.trans (by decide)
    refine va_sld hx hb hX hbl hbA hS (by unfold vp_in; decide) dL_law_1516 ?_
    refine lv_topi (fun x16 ex16 => ?_)
    obtain rfl : x16 = xs 3 := ex16.trans rfl
    refine lv_aload_n hx hb dL_law_1517 rfl (lv_at hl 1 rfl) ?_
    refine lv_iload hx hb dL_law_1518 (lv_at hl 5 rfl) ?_
    refine lv_iconst (v := 4) hx hb dL_law_1520 (by decide) ?_
    refine lv_iadd hx hb dL_law_1521 ?_
    refine lv_topi (fun x17 ex17 => ?_)
    obtain rfl : x17 = 4 := ex17.trans (by decide)
    refine va_sld hx hb hX hbl hbA hS (by unfold vp_in; decide) dL_law_1522 ?_
    refine lv_topi (fun x18 ex18 => ?_)
    obtain rfl : x18 = xs 4 := ex18.trans rfl
    refine k_cali [2] (⟨hP, hD, hG, hS, hA, rfl, rfl⟩ : kAt D cy sa A s H _ _ [((v 0), .inr (13, [.int 0, .int 0, .int 0, .int (-1), .int 0, .int 0, .int 0, .int 0, .ref (v 1), .ref (v 2), .ref (v 3), .ref (v 4), .ref (v 5), .ref (v 6), .ref (v 7), .ref (v 8), .ref (v 9), .int 0, .int 0, .int 0, .int 0, .int 0, .int 0, .int 0, .int 0, .int 0, .ref (v 10), .ref (v 11), .ref (v 12), .ref (v 13), .int 0, .ref (v 14), .ref (v 15), .ref (v 16), .ref (v 17), .ref (v 18), .int 0, .int 0, .int 0, .ref (v 19), .ref (v 20), .ref (v 21), .ref (v 22), .ref (v 23), .int 0, .int 0, .int 0, .int 0])), ((v 5), .inl (cy 0, 5, .inl (fun _ => 0)))] [0, 1]) (wr := [(o, .inl (cy 6, 1, .inr (.inl u10)))]) rfl rfl (by decide) (k_runV 13 0 (As := [.int (xs 1), .int (xs 2), .int (xs 3), .int (xs 4)]) (rest := []) E lk_VRL_197 rfl rfl rfl (m_answer_ l hl0 D cy sa v (xs 1) (xs 2) (xs 3) (xs 4) H.size) (⟨hP, hD, hG, hS, hA, rfl, rfl⟩ : kAt D cy sa A s H _ _ [((v 0), .inr (13, [.int 0, .int 0, .int 0, .int (-1), .int 0, .int 0, .int 0, .int 0, .ref (v 1), .ref (v 2), .ref (v 3), .ref (v 4), .ref (v 5), .ref (v 6), .ref (v 7), .ref (v 8), .ref (v 9), .int 0, .int 0, .int 0, .int 0, .int 0, .int 0, .int 0, .int 0, .int 0, .ref (v 10), .ref (v 11), .ref (v 12), .ref (v 13), .int 0, .ref (v 14), .ref (v 15), .ref (v 16), .ref (v 17), .ref (v 18), .int 0, .int 0, .int 0, .ref (v 19), .ref (v 20), .ref (v 21), .ref (v 22), .ref (v 23), .int 0, .int 0, .int 0, .int 0])), ((v 5), .inl (cy 0, 5, .inl (fun _ => 0)))] [0, 1]) hl.1 rfl rfl ⟨rfl, rfl, ⟨Nat.le_of_ble_eq_true rfl, Nat.le_of_ble_eq_true rfl⟩, ⟨Nat.le_of_ble_eq_true rfl, Nat.le_of_ble_eq_true rfl⟩, Nat.le_of_ble_eq_true rfl⟩ dL_law_1523) (fun r19 u20 H locs hwu20 hP hD hS => ?_)
    have hP : va_P D vwCl [(o, .inl (cy 6, 1, .inr (.inl u10))), ((v 0), .inr (13, .int u20.1 :: u20.2))] H := hP
    have hD : va_D A [(o, .inl (cy 6, 1, .inr (.inl u10))), ((v 0), .inr (13, .int u20.1 :: u20.2))] := hD
    refine lv_istore (lv' := [(6, .int r19), (5, .int r9), (0, .ref b), (1, .ref (u 0)), (2, .ref (v 0)), (3, .ref o), (4, .int 0)]) hx hb dL_law_1526 hl (by decide) rfl (fun ls hl => ?_)
    refine lv_aload_n hx hb dL_law_1528 rfl (lv_at hl 4 rfl) ?_
    refine k_cali [0] (⟨hP, hD, hG, hS, hA, rfl, rfl⟩ : kAt D cy sa A s H _ _ [((v 0), .inr (13, .int u20.1 :: u20.2))] [1]) (wr := [(o, .inl (cy 6, 1, .inr (.inl u10)))]) rfl rfl (by decide) (k_runV 13 1 (As := []) (rest := []) E lk_VRL_127 rfl rfl rfl (m_thrown l hl0 D cy sa v u20.1 u20.2 H.size) (⟨hP, hD, hG, hS, hA, rfl, rfl⟩ : kAt D cy sa A s H _ _ [((v 0), .inr (13, .int u20.1 :: u20.2))] [1]) hl.1 rfl rfl ⟨rfl, rfl, ⟨Nat.le_of_ble_eq_true rfl, Nat.le_of_ble_eq_true rfl⟩, ⟨Nat.le_of_ble_eq_true rfl, Nat.le_of_ble_eq_true rfl⟩, Nat.le_of_ble_eq_true rfl⟩ dL_law_1529) (fun r21 u22 H locs hwu22 hP hD hS => ?_)
    have hP : va_P D vwCl [(o, .inl (cy 6, 1, .inr (.inl u10)))] H := hP
    have hD : va_D A [(o, .inl (cy 6, 1, .inr (.inl u10)))] := hD
    rcases hwu10 with ⟨rfl, x9, hx9, hf9⟩ | ⟨rfl, hpx⟩
    · exact hx9.elim
    · obtain rfl : r21 = 1 := hwu22.trans (hwu20.2 id)
      refine lv_iload hx hb dL_law_1532 (lv_at hl 1 rfl) ?_
      refine lv_icmp_eq (tgt := 1539) hx hb dL_law_1534 (by decide) (fun _ => ?_) (fun h => absurd (by decide) h)
      refine lv_iload hx hb dL_law_1539 (lv_at hl 1 rfl) ?_
      refine lv_if_ne (tgt := 1563) hx hb dL_law_1541 (by decide) (fun _ => ?_) (fun h => absurd h (by decide))
      refine lv_goto (tgt := 2418) hx hb dL_law_1563 (by decide) ?_
      refine lv_iinc (v := 6) (lv' := [(4, .int 6), (6, .int r19), (5, .int 1), (0, .ref b), (1, .ref (u 0)), (2, .ref (v 0)), (3, .ref o)]) hx hb dL_law_2418 hl (k := 6) rfl (by decide) (by decide) rfl (fun ls hl => ?_)
      refine lv_goto (tgt := 23) hx hb dL_law_2421 (by decide) ?_
      exact law_exit E hX hbl hbA hAs hS (i := 6) (by decide) (lv_at hl 3 rfl) (lv_at hl 0 rfl) (by decide) (by decide)

set_option maxHeartbeats 4000000 in
set_option maxRecDepth 100000 in
/-- the law: can -/
theorem law_case_22 {p : Program} {l : Launch} {e : Env} {s : State} {m : MethodId} {below : List Frame} {meth : Method} {c : Code} {D : va_G} {cy : Nat → ClassId} {sa : Nat → Nat} {b : Nat} {xs : Nat → Int32} (hl0 : l.stackTraces = false) (E : kE yL_law cL_law 7 (some .boolean) #[Value.ref b] p s m meth c) (hX : va_X b 6 xs s s.heap) (hbl : b < s.heap.size) (hG : kG D cy sa (fun q => s.heap.size ≤ q) s) (u v : Nat → Nat) (o : Nat) (H : Heap) (locs : List Loc) (hP : va_P D vwCl [((u 0), .inr (12, [.ref (u 1), .int 0, .int (-1), .ref (u 2), .ref (u 3), .ref (u 4), .ref (u 5), .ref (u 6), .ref (u 7), .ref (u 8), .int 0, .ref (u 9), .ref (u 10), .ref (u 11), .ref (u 12), .ref (u 13), .ref (u 14)])), ((u 3), .inr (4, [.ref (u 15), .ref (u 16), .ref (u 17), .ref (u 18), .ref (u 19), .ref (u 20), .ref (u 21), .ref (u 22), .ref (u 23), .ref (u 24), .ref (u 25), .ref (u 26), .int 0, .int 0, .int 0, .int 0, .int 0])), ((v 0), .inr (13, [.int 0, .int 0, .int 0, .int (-1), .int 0, .int 0, .int 0, .int 0, .ref (v 1), .ref (v 2), .ref (v 3), .ref (v 4), .ref (v 5), .ref (v 6), .ref (v 7), .ref (v 8), .ref (v 9), .int 0, .int 0, .int 0, .int 0, .int 0, .int 0, .int 0, .int 0, .int 0, .ref (v 10), .ref (v 11), .ref (v 12), .ref (v 13), .int 0, .ref (v 14), .ref (v 15), .ref (v 16), .ref (v 17), .ref (v 18), .int 0, .int 0, .int 0, .ref (v 19), .ref (v 20), .ref (v 21), .ref (v 22), .ref (v 23), .int 0, .int 0, .int 0, .int 0])), ((v 5), .inl (cy 0, 5, .inl (fun _ => 0))), (o, .inl (cy 6, 1, .inr (.inl (fun _ => 0))))] H) (hD : va_D (fun q => s.heap.size ≤ q) [((u 0), .inr (12, [.ref (u 1), .int 0, .int (-1), .ref (u 2), .ref (u 3), .ref (u 4), .ref (u 5), .ref (u 6), .ref (u 7), .ref (u 8), .int 0, .ref (u 9), .ref (u 10), .ref (u 11), .ref (u 12), .ref (u 13), .ref (u 14)])), ((u 3), .inr (4, [.ref (u 15), .ref (u 16), .ref (u 17), .ref (u 18), .ref (u 19), .ref (u 20), .ref (u 21), .ref (u 22), .ref (u 23), .ref (u 24), .ref (u 25), .ref (u 26), .int 0, .int 0, .int 0, .int 0, .int 0])), ((v 0), .inr (13, [.int 0, .int 0, .int 0, .int (-1), .int 0, .int 0, .int 0, .int 0, .ref (v 1), .ref (v 2), .ref (v 3), .ref (v 4), .ref (v 5), .ref (v 6), .ref (v 7), .ref (v 8), .ref (v 9), .int 0, .int 0, .int 0, .int 0, .int 0, .int 0, .int 0, .int 0, .int 0, .ref (v 10), .ref (v 11), .ref (v 12), .ref (v 13), .int 0, .ref (v 14), .ref (v 15), .ref (v 16), .ref (v 17), .ref (v 18), .int 0, .int 0, .int 0, .ref (v 19), .ref (v 20), .ref (v 21), .ref (v 22), .ref (v 23), .int 0, .int 0, .int 0, .int 0])), ((v 5), .inl (cy 0, 5, .inl (fun _ => 0))), (o, .inl (cy 6, 1, .inr (.inl (fun _ => 0))))]) (hS : va_S (fun q => s.heap.size ≤ q) s.heap H locs) (ls : Array Slot) (hl : lv_has ls 7 [(0, .ref b), (1, .ref (u 0)), (2, .ref (v 0)), (3, .ref o), (4, .int 0)]) : W p l e room_1 s m #[Value.ref b] below meth c H locs 179 322202 (lw_Z below #[Value.ref b] s) (F0 m 1566 ls []) := by
  obtain ⟨A, hAe⟩ : ∃ A : Nat → Prop, A = fun q => s.heap.size ≤ q := ⟨_, rfl⟩
  rw [← hAe] at hG hD hS
  have hA : ∀ q, s.heap.size ≤ q → A q := fun q h => by rw [hAe]; exact h
  have hAs : ∀ q, A q → s.heap.size ≤ q := fun q h => by rw [hAe] at h; exact h
  have hbA : ¬ A b := by rw [hAe]; exact Nat.not_le.mpr hbl
  obtain ⟨hx, hb, hml, hown, hts, hr, hlk, hnm⟩ := id E
  have hown : s.vm.findClass RL = some m.cls := hown
  refine lv_aload_n hx hb dL_law_1566 rfl (lv_at hl 1 rfl) ?_
  refine lv_aload_n hx hb dL_law_1567 rfl (lv_at hl 0 rfl) ?_
  refine lv_iload hx hb dL_law_1568 (lv_at hl 4 rfl) ?_
  refine lv_iconst (v := 1) hx hb dL_law_1570 (by decide) ?_
  refine lv_iadd hx hb dL_law_1571 ?_
  refine lv_topi (fun x1 ex1 => ?_)
  obtain rfl : x1 = 1 := ex1.trans (by decide)
  refine va_sld hx hb hX hbl hbA hS (by unfold vp_in; decide) dL_law_1572 ?_
  refine lv_topi (fun x2 ex2 => ?_)
  obtain rfl : x2 = xs 1 := ex2.trans rfl
  refine lv_aload_n hx hb dL_law_1573 rfl (lv_at hl 3 rfl) ?_
  refine x_cali [2, 3] (⟨hP, hD, hG, hS, hA, rfl, rfl⟩ : kAt D cy sa A s H _ _ [((u 0), .inr (12, [.ref (u 1), .int 0, .int (-1), .ref (u 2), .ref (u 3), .ref (u 4), .ref (u 5), .ref (u 6), .ref (u 7), .ref (u 8), .int 0, .ref (u 9), .ref (u 10), .ref (u 11), .ref (u 12), .ref (u 13), .ref (u 14)])), ((u 3), .inr (4, [.ref (u 15), .ref (u 16), .ref (u 17), .ref (u 18), .ref (u 19), .ref (u 20), .ref (u 21), .ref (u 22), .ref (u 23), .ref (u 24), .ref (u 25), .ref (u 26), .int 0, .int 0, .int 0, .int 0, .int 0])), (o, .inl (cy 6, 1, .inr (.inl (fun _ => 0))))] [0, 1, 4]) (wr := [((v 0), .inr (13, [.int 0, .int 0, .int 0, .int (-1), .int 0, .int 0, .int 0, .int 0, .ref (v 1), .ref (v 2), .ref (v 3), .ref (v 4), .ref (v 5), .ref (v 6), .ref (v 7), .ref (v 8), .ref (v 9), .int 0, .int 0, .int 0, .int 0, .int 0, .int 0, .int 0, .int 0, .int 0, .ref (v 10), .ref (v 11), .ref (v 12), .ref (v 13), .int 0, .ref (v 14), .ref (v 15), .ref (v 16), .ref (v 17), .ref (v 18), .int 0, .int 0, .int 0, .ref (v 19), .ref (v 20), .ref (v 21), .ref (v 22), .ref (v 23), .int 0, .int 0, .int 0, .int 0])), ((v 5), .inl (cy 0, 5, .inl (fun _ => 0)))]) rfl rfl (by decide) (x_runW (As := [.ref (u 0), .int (xs 1), .ref o]) (rest := []) E lk_SRL_198 (w_can l hl0 D cy sa u o (xs 1) H.size) (⟨hP, hD, hG, hS, hA, rfl, rfl⟩ : kAt D cy sa A s H _ _ [((u 0), .inr (12, [.ref (u 1), .int 0, .int (-1), .ref (u 2), .ref (u 3), .ref (u 4), .ref (u 5), .ref (u 6), .ref (u 7), .ref (u 8), .int 0, .ref (u 9), .ref (u 10), .ref (u 11), .ref (u 12), .ref (u 13), .ref (u 14)])), ((u 3), .inr (4, [.ref (u 15), .ref (u 16), .ref (u 17), .ref (u 18), .ref (u 19), .ref (u 20), .ref (u 21), .ref (u 22), .ref (u 23), .ref (u 24), .ref (u 25), .ref (u 26), .int 0, .int 0, .int 0, .int 0, .int 0])), (o, .inl (cy 6, 1, .inr (.inl (fun _ => 0))))] [0, 1, 4]) hl.1 rfl rfl ⟨rfl, rfl, ⟨Nat.le_of_ble_eq_true rfl, Nat.le_of_ble_eq_true rfl⟩, ⟨Nat.le_of_ble_eq_true rfl, Nat.le_of_ble_eq_true rfl⟩, Nat.le_of_ble_eq_true rfl⟩ dL_law_1574) (fun ce q9 u4 H locs hwu4 hP hD hS h1 h2 h3 => ?_) (fun r3 u4 H locs hwu4 hP hD hS => ?_)
  · have hP : va_P D vwCl [((v 0), .inr (13, [.int 0, .int 0, .int 0, .int (-1), .int 0, .int 0, .int 0, .int 0, .ref (v 1), .ref (v 2), .ref (v 3), .ref (v 4), .ref (v 5), .ref (v 6), .ref (v 7), .ref (v 8), .ref (v 9), .int 0, .int 0, .int 0, .int 0, .int 0, .int 0, .int 0, .int 0, .int 0, .ref (v 10), .ref (v 11), .ref (v 12), .ref (v 13), .int 0, .ref (v 14), .ref (v 15), .ref (v 16), .ref (v 17), .ref (v 18), .int 0, .int 0, .int 0, .ref (v 19), .ref (v 20), .ref (v 21), .ref (v 22), .ref (v 23), .int 0, .int 0, .int 0, .int 0])), ((v 5), .inl (cy 0, 5, .inl (fun _ => 0)))] H := hP
    have hD : va_D A [((v 0), .inr (13, [.int 0, .int 0, .int 0, .int (-1), .int 0, .int 0, .int 0, .int 0, .ref (v 1), .ref (v 2), .ref (v 3), .ref (v 4), .ref (v 5), .ref (v 6), .ref (v 7), .ref (v 8), .ref (v 9), .int 0, .int 0, .int 0, .int 0, .int 0, .int 0, .int 0, .int 0, .int 0, .ref (v 10), .ref (v 11), .ref (v 12), .ref (v 13), .int 0, .ref (v 14), .ref (v 15), .ref (v 16), .ref (v 17), .ref (v 18), .int 0, .int 0, .int 0, .ref (v 19), .ref (v 20), .ref (v 21), .ref (v 22), .ref (v 23), .int 0, .int 0, .int 0, .int 0])), ((v 5), .inl (cy 0, 5, .inl (fun _ => 0)))] := hD
    exact (hwu4).elim
  · have hP : va_P D vwCl [((v 0), .inr (13, [.int 0, .int 0, .int 0, .int (-1), .int 0, .int 0, .int 0, .int 0, .ref (v 1), .ref (v 2), .ref (v 3), .ref (v 4), .ref (v 5), .ref (v 6), .ref (v 7), .ref (v 8), .ref (v 9), .int 0, .int 0, .int 0, .int 0, .int 0, .int 0, .int 0, .int 0, .int 0, .ref (v 10), .ref (v 11), .ref (v 12), .ref (v 13), .int 0, .ref (v 14), .ref (v 15), .ref (v 16), .ref (v 17), .ref (v 18), .int 0, .int 0, .int 0, .ref (v 19), .ref (v 20), .ref (v 21), .ref (v 22), .ref (v 23), .int 0, .int 0, .int 0, .int 0])), ((v 5), .inl (cy 0, 5, .inl (fun _ => 0))), (o, .inl (cy 6, 1, .inr (.inl u4)))] H := hP
    have hD : va_D A [((v 0), .inr (13, [.int 0, .int 0, .int 0, .int (-1), .int 0, .int 0, .int 0, .int 0, .ref (v 1), .ref (v 2), .ref (v 3), .ref (v 4), .ref (v 5), .ref (v 6), .ref (v 7), .ref (v 8), .ref (v 9), .int 0, .int 0, .int 0, .int 0, .int 0, .int 0, .int 0, .int 0, .int 0, .ref (v 10), .ref (v 11), .ref (v 12), .ref (v 13), .int 0, .ref (v 14), .ref (v 15), .ref (v 16), .ref (v 17), .ref (v 18), .int 0, .int 0, .int 0, .ref (v 19), .ref (v 20), .ref (v 21), .ref (v 22), .ref (v 23), .int 0, .int 0, .int 0, .int 0])), ((v 5), .inl (cy 0, 5, .inl (fun _ => 0))), (o, .inl (cy 6, 1, .inr (.inl u4)))] := hD
    refine lv_istore (lv' := [(5, .int r3), (0, .ref b), (1, .ref (u 0)), (2, .ref (v 0)), (3, .ref o), (4, .int 0)]) hx hb dL_law_1577 hl (by decide) rfl (fun ls hl => ?_)
    refine lv_aload_n hx hb dL_law_1579 rfl (lv_at hl 3 rfl) ?_
    refine lv_aload_n hx hb dL_law_1580 rfl (lv_at hl 1 rfl) ?_
    refine lv_iload hx hb dL_law_1581 (lv_at hl 5 rfl) ?_
    refine lv_iconst (v := 1) hx hb dL_law_1583 (by decide) ?_
    refine lv_iadd hx hb dL_law_1584 ?_
    refine lv_topi (fun x5 ex5 => ?_)
    obtain rfl : x5 = 1 := ex5.trans (by decide)
    refine va_sld hx hb hX hbl hbA hS (by unfold vp_in; decide) dL_law_1585 ?_
    refine lv_topi (fun x6 ex6 => ?_)
    obtain rfl : x6 = xs 1 := ex6.trans rfl
    refine k_cali [2] (⟨hP, hD, hG, hS, hA, rfl, rfl⟩ : kAt D cy sa A s H _ _ [((v 0), .inr (13, [.int 0, .int 0, .int 0, .int (-1), .int 0, .int 0, .int 0, .int 0, .ref (v 1), .ref (v 2), .ref (v 3), .ref (v 4), .ref (v 5), .ref (v 6), .ref (v 7), .ref (v 8), .ref (v 9), .int 0, .int 0, .int 0, .int 0, .int 0, .int 0, .int 0, .int 0, .int 0, .ref (v 10), .ref (v 11), .ref (v 12), .ref (v 13), .int 0, .ref (v 14), .ref (v 15), .ref (v 16), .ref (v 17), .ref (v 18), .int 0, .int 0, .int 0, .ref (v 19), .ref (v 20), .ref (v 21), .ref (v 22), .ref (v 23), .int 0, .int 0, .int 0, .int 0])), ((v 5), .inl (cy 0, 5, .inl (fun _ => 0)))] [0, 1]) (wr := [(o, .inl (cy 6, 1, .inr (.inl u4)))]) rfl rfl (by decide) (k_runV 13 0 (As := [.int (xs 1)]) (rest := []) E lk_VRL_200 rfl rfl rfl (m_can_ l hl0 D cy sa v (xs 1) H.size) (⟨hP, hD, hG, hS, hA, rfl, rfl⟩ : kAt D cy sa A s H _ _ [((v 0), .inr (13, [.int 0, .int 0, .int 0, .int (-1), .int 0, .int 0, .int 0, .int 0, .ref (v 1), .ref (v 2), .ref (v 3), .ref (v 4), .ref (v 5), .ref (v 6), .ref (v 7), .ref (v 8), .ref (v 9), .int 0, .int 0, .int 0, .int 0, .int 0, .int 0, .int 0, .int 0, .int 0, .ref (v 10), .ref (v 11), .ref (v 12), .ref (v 13), .int 0, .ref (v 14), .ref (v 15), .ref (v 16), .ref (v 17), .ref (v 18), .int 0, .int 0, .int 0, .ref (v 19), .ref (v 20), .ref (v 21), .ref (v 22), .ref (v 23), .int 0, .int 0, .int 0, .int 0])), ((v 5), .inl (cy 0, 5, .inl (fun _ => 0)))] [0, 1]) hl.1 rfl rfl ⟨rfl, rfl, ⟨Nat.le_of_ble_eq_true rfl, Nat.le_of_ble_eq_true rfl⟩, ⟨Nat.le_of_ble_eq_true rfl, Nat.le_of_ble_eq_true rfl⟩, Nat.le_of_ble_eq_true rfl⟩ dL_law_1586) (fun r7 u8 H locs hwu8 hP hD hS => ?_)
    have hP : va_P D vwCl [(o, .inl (cy 6, 1, .inr (.inl u4))), ((v 0), .inr (13, .int u8.1 :: u8.2))] H := hP
    have hD : va_D A [(o, .inl (cy 6, 1, .inr (.inl u4))), ((v 0), .inr (13, .int u8.1 :: u8.2))] := hD
    refine lv_istore (lv' := [(6, .int r7), (5, .int r3), (0, .ref b), (1, .ref (u 0)), (2, .ref (v 0)), (3, .ref o), (4, .int 0)]) hx hb dL_law_1589 hl (by decide) rfl (fun ls hl => ?_)
    refine lv_aload_n hx hb dL_law_1591 rfl (lv_at hl 4 rfl) ?_
    refine k_cali [0] (⟨hP, hD, hG, hS, hA, rfl, rfl⟩ : kAt D cy sa A s H _ _ [((v 0), .inr (13, .int u8.1 :: u8.2))] [1]) (wr := [(o, .inl (cy 6, 1, .inr (.inl u4)))]) rfl rfl (by decide) (k_runV 13 1 (As := []) (rest := []) E lk_VRL_127 rfl rfl rfl (m_thrown l hl0 D cy sa v u8.1 u8.2 H.size) (⟨hP, hD, hG, hS, hA, rfl, rfl⟩ : kAt D cy sa A s H _ _ [((v 0), .inr (13, .int u8.1 :: u8.2))] [1]) hl.1 rfl rfl ⟨rfl, rfl, ⟨Nat.le_of_ble_eq_true rfl, Nat.le_of_ble_eq_true rfl⟩, ⟨Nat.le_of_ble_eq_true rfl, Nat.le_of_ble_eq_true rfl⟩, Nat.le_of_ble_eq_true rfl⟩ dL_law_1592) (fun r9 u10 H locs hwu10 hP hD hS => ?_)
    have hP : va_P D vwCl [(o, .inl (cy 6, 1, .inr (.inl u4)))] H := hP
    have hD : va_D A [(o, .inl (cy 6, 1, .inr (.inl u4)))] := hD
    rcases hwu4 with ⟨rfl, x9, hx9, hf9⟩ | ⟨rfl, hpx⟩
    · exact hx9.elim
    · obtain rfl : r9 = 1 := hwu10.trans (hwu8.2 id)
      refine lv_iload hx hb dL_law_1595 (lv_at hl 1 rfl) ?_
      refine lv_icmp_eq (tgt := 1602) hx hb dL_law_1597 (by decide) (fun _ => ?_) (fun h => absurd (by decide) h)
      refine lv_iload hx hb dL_law_1602 (lv_at hl 1 rfl) ?_
      refine lv_if_ne (tgt := 1626) hx hb dL_law_1604 (by decide) (fun _ => ?_) (fun h => absurd h (by decide))
      refine lv_goto (tgt := 2418) hx hb dL_law_1626 (by decide) ?_
      refine lv_iinc (v := 6) (lv' := [(4, .int 6), (6, .int r7), (5, .int 1), (0, .ref b), (1, .ref (u 0)), (2, .ref (v 0)), (3, .ref o)]) hx hb dL_law_2418 hl (k := 6) rfl (by decide) (by decide) rfl (fun ls hl => ?_)
      refine lv_goto (tgt := 23) hx hb dL_law_2421 (by decide) ?_
      exact law_exit E hX hbl hbA hAs hS (i := 6) (by decide) (lv_at hl 3 rfl) (lv_at hl 0 rfl) (by decide) (by decide)

set_option maxHeartbeats 4000000 in
set_option maxRecDepth 100000 in
/-- the law: step -/
theorem law_case_23 {p : Program} {l : Launch} {e : Env} {s : State} {m : MethodId} {below : List Frame} {meth : Method} {c : Code} {D : va_G} {cy : Nat → ClassId} {sa : Nat → Nat} {b : Nat} {xs : Nat → Int32} (hl0 : l.stackTraces = false) (E : kE yL_law cL_law 7 (some .boolean) #[Value.ref b] p s m meth c) (hX : va_X b 6 xs s s.heap) (hbl : b < s.heap.size) (hG : kG D cy sa (fun q => s.heap.size ≤ q) s) (u v : Nat → Nat) (o : Nat) (H : Heap) (locs : List Loc) (hP : va_P D vwCl [((u 0), .inr (12, [.ref (u 1), .int 0, .int (-1), .ref (u 2), .ref (u 3), .ref (u 4), .ref (u 5), .ref (u 6), .ref (u 7), .ref (u 8), .int 0, .ref (u 9), .ref (u 10), .ref (u 11), .ref (u 12), .ref (u 13), .ref (u 14)])), ((u 3), .inr (4, [.ref (u 15), .ref (u 16), .ref (u 17), .ref (u 18), .ref (u 19), .ref (u 20), .ref (u 21), .ref (u 22), .ref (u 23), .ref (u 24), .ref (u 25), .ref (u 26), .int 0, .int 0, .int 0, .int 0, .int 0])), ((v 0), .inr (13, [.int 0, .int 0, .int 0, .int (-1), .int 0, .int 0, .int 0, .int 0, .ref (v 1), .ref (v 2), .ref (v 3), .ref (v 4), .ref (v 5), .ref (v 6), .ref (v 7), .ref (v 8), .ref (v 9), .int 0, .int 0, .int 0, .int 0, .int 0, .int 0, .int 0, .int 0, .int 0, .ref (v 10), .ref (v 11), .ref (v 12), .ref (v 13), .int 0, .ref (v 14), .ref (v 15), .ref (v 16), .ref (v 17), .ref (v 18), .int 0, .int 0, .int 0, .ref (v 19), .ref (v 20), .ref (v 21), .ref (v 22), .ref (v 23), .int 0, .int 0, .int 0, .int 0])), ((v 5), .inl (cy 0, 5, .inl (fun _ => 0))), (o, .inl (cy 6, 1, .inr (.inl (fun _ => 0))))] H) (hD : va_D (fun q => s.heap.size ≤ q) [((u 0), .inr (12, [.ref (u 1), .int 0, .int (-1), .ref (u 2), .ref (u 3), .ref (u 4), .ref (u 5), .ref (u 6), .ref (u 7), .ref (u 8), .int 0, .ref (u 9), .ref (u 10), .ref (u 11), .ref (u 12), .ref (u 13), .ref (u 14)])), ((u 3), .inr (4, [.ref (u 15), .ref (u 16), .ref (u 17), .ref (u 18), .ref (u 19), .ref (u 20), .ref (u 21), .ref (u 22), .ref (u 23), .ref (u 24), .ref (u 25), .ref (u 26), .int 0, .int 0, .int 0, .int 0, .int 0])), ((v 0), .inr (13, [.int 0, .int 0, .int 0, .int (-1), .int 0, .int 0, .int 0, .int 0, .ref (v 1), .ref (v 2), .ref (v 3), .ref (v 4), .ref (v 5), .ref (v 6), .ref (v 7), .ref (v 8), .ref (v 9), .int 0, .int 0, .int 0, .int 0, .int 0, .int 0, .int 0, .int 0, .int 0, .ref (v 10), .ref (v 11), .ref (v 12), .ref (v 13), .int 0, .ref (v 14), .ref (v 15), .ref (v 16), .ref (v 17), .ref (v 18), .int 0, .int 0, .int 0, .ref (v 19), .ref (v 20), .ref (v 21), .ref (v 22), .ref (v 23), .int 0, .int 0, .int 0, .int 0])), ((v 5), .inl (cy 0, 5, .inl (fun _ => 0))), (o, .inl (cy 6, 1, .inr (.inl (fun _ => 0))))]) (hS : va_S (fun q => s.heap.size ≤ q) s.heap H locs) (ls : Array Slot) (hl : lv_has ls 7 [(0, .ref b), (1, .ref (u 0)), (2, .ref (v 0)), (3, .ref o), (4, .int 0)]) : W p l e room_1 s m #[Value.ref b] below meth c H locs 179 322202 (lw_Z below #[Value.ref b] s) (F0 m 1629 ls []) := by
  obtain ⟨A, hAe⟩ : ∃ A : Nat → Prop, A = fun q => s.heap.size ≤ q := ⟨_, rfl⟩
  rw [← hAe] at hG hD hS
  have hA : ∀ q, s.heap.size ≤ q → A q := fun q h => by rw [hAe]; exact h
  have hAs : ∀ q, A q → s.heap.size ≤ q := fun q h => by rw [hAe] at h; exact h
  have hbA : ¬ A b := by rw [hAe]; exact Nat.not_le.mpr hbl
  obtain ⟨hx, hb, hml, hown, hts, hr, hlk, hnm⟩ := id E
  have hown : s.vm.findClass RL = some m.cls := hown
  refine lv_aload_n hx hb dL_law_1629 rfl (lv_at hl 1 rfl) ?_
  refine lv_aload_n hx hb dL_law_1630 rfl (lv_at hl 0 rfl) ?_
  refine lv_iload hx hb dL_law_1631 (lv_at hl 4 rfl) ?_
  refine lv_iconst (v := 1) hx hb dL_law_1633 (by decide) ?_
  refine lv_iadd hx hb dL_law_1634 ?_
  refine lv_topi (fun x1 ex1 => ?_)
  obtain rfl : x1 = 1 := ex1.trans (by decide)
  refine va_sld hx hb hX hbl hbA hS (by unfold vp_in; decide) dL_law_1635 ?_
  refine lv_topi (fun x2 ex2 => ?_)
  obtain rfl : x2 = xs 1 := ex2.trans rfl
  refine lv_aload_n hx hb dL_law_1636 rfl (lv_at hl 0 rfl) ?_
  refine lv_iload hx hb dL_law_1637 (lv_at hl 4 rfl) ?_
  refine lv_iconst (v := 2) hx hb dL_law_1639 (by decide) ?_
  refine lv_iadd hx hb dL_law_1640 ?_
  refine lv_topi (fun x3 ex3 => ?_)
  obtain rfl : x3 = 2 := ex3.trans (by decide)
  refine va_sld hx hb hX hbl hbA hS (by unfold vp_in; decide) dL_law_1641 ?_
  refine lv_topi (fun x4 ex4 => ?_)
  obtain rfl : x4 = xs 2 := ex4.trans rfl
  refine lv_aload_n hx hb dL_law_1642 rfl (lv_at hl 3 rfl) ?_
  refine x_cali [2, 3] (⟨hP, hD, hG, hS, hA, rfl, rfl⟩ : kAt D cy sa A s H _ _ [((u 0), .inr (12, [.ref (u 1), .int 0, .int (-1), .ref (u 2), .ref (u 3), .ref (u 4), .ref (u 5), .ref (u 6), .ref (u 7), .ref (u 8), .int 0, .ref (u 9), .ref (u 10), .ref (u 11), .ref (u 12), .ref (u 13), .ref (u 14)])), ((u 3), .inr (4, [.ref (u 15), .ref (u 16), .ref (u 17), .ref (u 18), .ref (u 19), .ref (u 20), .ref (u 21), .ref (u 22), .ref (u 23), .ref (u 24), .ref (u 25), .ref (u 26), .int 0, .int 0, .int 0, .int 0, .int 0])), (o, .inl (cy 6, 1, .inr (.inl (fun _ => 0))))] [0, 1, 4]) (wr := [((v 0), .inr (13, [.int 0, .int 0, .int 0, .int (-1), .int 0, .int 0, .int 0, .int 0, .ref (v 1), .ref (v 2), .ref (v 3), .ref (v 4), .ref (v 5), .ref (v 6), .ref (v 7), .ref (v 8), .ref (v 9), .int 0, .int 0, .int 0, .int 0, .int 0, .int 0, .int 0, .int 0, .int 0, .ref (v 10), .ref (v 11), .ref (v 12), .ref (v 13), .int 0, .ref (v 14), .ref (v 15), .ref (v 16), .ref (v 17), .ref (v 18), .int 0, .int 0, .int 0, .ref (v 19), .ref (v 20), .ref (v 21), .ref (v 22), .ref (v 23), .int 0, .int 0, .int 0, .int 0])), ((v 5), .inl (cy 0, 5, .inl (fun _ => 0)))]) rfl rfl (by decide) (x_runW (As := [.ref (u 0), .int (xs 1), .int (xs 2), .ref o]) (rest := []) E lk_SRL_201 (w_step l hl0 D cy sa u o (xs 1) (xs 2) H.size) (⟨hP, hD, hG, hS, hA, rfl, rfl⟩ : kAt D cy sa A s H _ _ [((u 0), .inr (12, [.ref (u 1), .int 0, .int (-1), .ref (u 2), .ref (u 3), .ref (u 4), .ref (u 5), .ref (u 6), .ref (u 7), .ref (u 8), .int 0, .ref (u 9), .ref (u 10), .ref (u 11), .ref (u 12), .ref (u 13), .ref (u 14)])), ((u 3), .inr (4, [.ref (u 15), .ref (u 16), .ref (u 17), .ref (u 18), .ref (u 19), .ref (u 20), .ref (u 21), .ref (u 22), .ref (u 23), .ref (u 24), .ref (u 25), .ref (u 26), .int 0, .int 0, .int 0, .int 0, .int 0])), (o, .inl (cy 6, 1, .inr (.inl (fun _ => 0))))] [0, 1, 4]) hl.1 rfl rfl ⟨rfl, rfl, ⟨Nat.le_of_ble_eq_true rfl, Nat.le_of_ble_eq_true rfl⟩, ⟨Nat.le_of_ble_eq_true rfl, Nat.le_of_ble_eq_true rfl⟩, Nat.le_of_ble_eq_true rfl⟩ dL_law_1643) (fun ce q9 u6 H locs hwu6 hP hD hS h1 h2 h3 => ?_) (fun r5 u6 H locs hwu6 hP hD hS => ?_)
  · have hP : va_P D vwCl [((v 0), .inr (13, [.int 0, .int 0, .int 0, .int (-1), .int 0, .int 0, .int 0, .int 0, .ref (v 1), .ref (v 2), .ref (v 3), .ref (v 4), .ref (v 5), .ref (v 6), .ref (v 7), .ref (v 8), .ref (v 9), .int 0, .int 0, .int 0, .int 0, .int 0, .int 0, .int 0, .int 0, .int 0, .ref (v 10), .ref (v 11), .ref (v 12), .ref (v 13), .int 0, .ref (v 14), .ref (v 15), .ref (v 16), .ref (v 17), .ref (v 18), .int 0, .int 0, .int 0, .ref (v 19), .ref (v 20), .ref (v 21), .ref (v 22), .ref (v 23), .int 0, .int 0, .int 0, .int 0])), ((v 5), .inl (cy 0, 5, .inl (fun _ => 0)))] H := hP
    have hD : va_D A [((v 0), .inr (13, [.int 0, .int 0, .int 0, .int (-1), .int 0, .int 0, .int 0, .int 0, .ref (v 1), .ref (v 2), .ref (v 3), .ref (v 4), .ref (v 5), .ref (v 6), .ref (v 7), .ref (v 8), .ref (v 9), .int 0, .int 0, .int 0, .int 0, .int 0, .int 0, .int 0, .int 0, .int 0, .ref (v 10), .ref (v 11), .ref (v 12), .ref (v 13), .int 0, .ref (v 14), .ref (v 15), .ref (v 16), .ref (v 17), .ref (v 18), .int 0, .int 0, .int 0, .ref (v 19), .ref (v 20), .ref (v 21), .ref (v 22), .ref (v 23), .int 0, .int 0, .int 0, .int 0])), ((v 5), .inl (cy 0, 5, .inl (fun _ => 0)))] := hD
    exact (hwu6).elim
  · have hP : va_P D vwCl [((v 0), .inr (13, [.int 0, .int 0, .int 0, .int (-1), .int 0, .int 0, .int 0, .int 0, .ref (v 1), .ref (v 2), .ref (v 3), .ref (v 4), .ref (v 5), .ref (v 6), .ref (v 7), .ref (v 8), .ref (v 9), .int 0, .int 0, .int 0, .int 0, .int 0, .int 0, .int 0, .int 0, .int 0, .ref (v 10), .ref (v 11), .ref (v 12), .ref (v 13), .int 0, .ref (v 14), .ref (v 15), .ref (v 16), .ref (v 17), .ref (v 18), .int 0, .int 0, .int 0, .ref (v 19), .ref (v 20), .ref (v 21), .ref (v 22), .ref (v 23), .int 0, .int 0, .int 0, .int 0])), ((v 5), .inl (cy 0, 5, .inl (fun _ => 0))), (o, .inl (cy 6, 1, .inr (.inl u6)))] H := hP
    have hD : va_D A [((v 0), .inr (13, [.int 0, .int 0, .int 0, .int (-1), .int 0, .int 0, .int 0, .int 0, .ref (v 1), .ref (v 2), .ref (v 3), .ref (v 4), .ref (v 5), .ref (v 6), .ref (v 7), .ref (v 8), .ref (v 9), .int 0, .int 0, .int 0, .int 0, .int 0, .int 0, .int 0, .int 0, .int 0, .ref (v 10), .ref (v 11), .ref (v 12), .ref (v 13), .int 0, .ref (v 14), .ref (v 15), .ref (v 16), .ref (v 17), .ref (v 18), .int 0, .int 0, .int 0, .ref (v 19), .ref (v 20), .ref (v 21), .ref (v 22), .ref (v 23), .int 0, .int 0, .int 0, .int 0])), ((v 5), .inl (cy 0, 5, .inl (fun _ => 0))), (o, .inl (cy 6, 1, .inr (.inl u6)))] := hD
    refine lv_istore (lv' := [(5, .int r5), (0, .ref b), (1, .ref (u 0)), (2, .ref (v 0)), (3, .ref o), (4, .int 0)]) hx hb dL_law_1646 hl (by decide) rfl (fun ls hl => ?_)
    refine lv_aload_n hx hb dL_law_1648 rfl (lv_at hl 3 rfl) ?_
    refine lv_aload_n hx hb dL_law_1649 rfl (lv_at hl 1 rfl) ?_
    refine lv_iload hx hb dL_law_1650 (lv_at hl 5 rfl) ?_
    refine lv_iconst (v := 1) hx hb dL_law_1652 (by decide) ?_
    refine lv_iadd hx hb dL_law_1653 ?_
    refine lv_topi (fun x7 ex7 => ?_)
    obtain rfl : x7 = 1 := ex7.trans (by decide)
    refine va_sld hx hb hX hbl hbA hS (by unfold vp_in; decide) dL_law_1654 ?_
    refine lv_topi (fun x8 ex8 => ?_)
    obtain rfl : x8 = xs 1 := ex8.trans rfl
    refine lv_aload_n hx hb dL_law_1655 rfl (lv_at hl 1 rfl) ?_
    refine lv_iload hx hb dL_law_1656 (lv_at hl 5 rfl) ?_
    refine lv_iconst (v := 2) hx hb dL_law_1658 (by decide) ?_
    refine lv_iadd hx hb dL_law_1659 ?_
    refine lv_topi (fun x9 ex9 => ?_)
    obtain rfl : x9 = 2 := ex9.trans (by decide)
    refine va_sld hx hb hX hbl hbA hS (by unfold vp_in; decide) dL_law_1660 ?_
    refine lv_topi (fun x10 ex10 => ?_)
    obtain rfl : x10 = xs 2 := ex10.trans rfl
    refine k_cali [2] (⟨hP, hD, hG, hS, hA, rfl, rfl⟩ : kAt D cy sa A s H _ _ [((v 0), .inr (13, [.int 0, .int 0, .int 0, .int (-1), .int 0, .int 0, .int 0, .int 0, .ref (v 1), .ref (v 2), .ref (v 3), .ref (v 4), .ref (v 5), .ref (v 6), .ref (v 7), .ref (v 8), .ref (v 9), .int 0, .int 0, .int 0, .int 0, .int 0, .int 0, .int 0, .int 0, .int 0, .ref (v 10), .ref (v 11), .ref (v 12), .ref (v 13), .int 0, .ref (v 14), .ref (v 15), .ref (v 16), .ref (v 17), .ref (v 18), .int 0, .int 0, .int 0, .ref (v 19), .ref (v 20), .ref (v 21), .ref (v 22), .ref (v 23), .int 0, .int 0, .int 0, .int 0])), ((v 5), .inl (cy 0, 5, .inl (fun _ => 0)))] [0, 1]) (wr := [(o, .inl (cy 6, 1, .inr (.inl u6)))]) rfl rfl (by decide) (k_runV 13 0 (As := [.int (xs 1), .int (xs 2)]) (rest := []) E lk_VRL_203 rfl rfl rfl (m_step_ l hl0 D cy sa v (xs 1) (xs 2) H.size) (⟨hP, hD, hG, hS, hA, rfl, rfl⟩ : kAt D cy sa A s H _ _ [((v 0), .inr (13, [.int 0, .int 0, .int 0, .int (-1), .int 0, .int 0, .int 0, .int 0, .ref (v 1), .ref (v 2), .ref (v 3), .ref (v 4), .ref (v 5), .ref (v 6), .ref (v 7), .ref (v 8), .ref (v 9), .int 0, .int 0, .int 0, .int 0, .int 0, .int 0, .int 0, .int 0, .int 0, .ref (v 10), .ref (v 11), .ref (v 12), .ref (v 13), .int 0, .ref (v 14), .ref (v 15), .ref (v 16), .ref (v 17), .ref (v 18), .int 0, .int 0, .int 0, .ref (v 19), .ref (v 20), .ref (v 21), .ref (v 22), .ref (v 23), .int 0, .int 0, .int 0, .int 0])), ((v 5), .inl (cy 0, 5, .inl (fun _ => 0)))] [0, 1]) hl.1 rfl rfl ⟨rfl, rfl, ⟨Nat.le_of_ble_eq_true rfl, Nat.le_of_ble_eq_true rfl⟩, ⟨Nat.le_of_ble_eq_true rfl, Nat.le_of_ble_eq_true rfl⟩, Nat.le_of_ble_eq_true rfl⟩ dL_law_1661) (fun r11 u12 H locs hwu12 hP hD hS => ?_)
    have hP : va_P D vwCl [(o, .inl (cy 6, 1, .inr (.inl u6))), ((v 0), .inr (13, .int u12.1 :: u12.2))] H := hP
    have hD : va_D A [(o, .inl (cy 6, 1, .inr (.inl u6))), ((v 0), .inr (13, .int u12.1 :: u12.2))] := hD
    refine lv_istore (lv' := [(6, .int r11), (5, .int r5), (0, .ref b), (1, .ref (u 0)), (2, .ref (v 0)), (3, .ref o), (4, .int 0)]) hx hb dL_law_1664 hl (by decide) rfl (fun ls hl => ?_)
    refine lv_aload_n hx hb dL_law_1666 rfl (lv_at hl 4 rfl) ?_
    refine k_cali [0] (⟨hP, hD, hG, hS, hA, rfl, rfl⟩ : kAt D cy sa A s H _ _ [((v 0), .inr (13, .int u12.1 :: u12.2))] [1]) (wr := [(o, .inl (cy 6, 1, .inr (.inl u6)))]) rfl rfl (by decide) (k_runV 13 1 (As := []) (rest := []) E lk_VRL_127 rfl rfl rfl (m_thrown l hl0 D cy sa v u12.1 u12.2 H.size) (⟨hP, hD, hG, hS, hA, rfl, rfl⟩ : kAt D cy sa A s H _ _ [((v 0), .inr (13, .int u12.1 :: u12.2))] [1]) hl.1 rfl rfl ⟨rfl, rfl, ⟨Nat.le_of_ble_eq_true rfl, Nat.le_of_ble_eq_true rfl⟩, ⟨Nat.le_of_ble_eq_true rfl, Nat.le_of_ble_eq_true rfl⟩, Nat.le_of_ble_eq_true rfl⟩ dL_law_1667) (fun r13 u14 H locs hwu14 hP hD hS => ?_)
    have hP : va_P D vwCl [(o, .inl (cy 6, 1, .inr (.inl u6)))] H := hP
    have hD : va_D A [(o, .inl (cy 6, 1, .inr (.inl u6)))] := hD
    rcases hwu6 with ⟨rfl, x9, hx9, hf9⟩ | ⟨rfl, hpx⟩
    · exact hx9.elim
    · obtain rfl : r13 = 1 := hwu14.trans (hwu12.2 id)
      refine lv_iload hx hb dL_law_1670 (lv_at hl 1 rfl) ?_
      refine lv_icmp_eq (tgt := 1677) hx hb dL_law_1672 (by decide) (fun _ => ?_) (fun h => absurd (by decide) h)
      refine lv_iload hx hb dL_law_1677 (lv_at hl 1 rfl) ?_
      refine lv_if_ne (tgt := 1694) hx hb dL_law_1679 (by decide) (fun _ => ?_) (fun h => absurd h (by decide))
      refine lv_goto (tgt := 2418) hx hb dL_law_1694 (by decide) ?_
      refine lv_iinc (v := 6) (lv' := [(4, .int 6), (6, .int r11), (5, .int 1), (0, .ref b), (1, .ref (u 0)), (2, .ref (v 0)), (3, .ref o)]) hx hb dL_law_2418 hl (k := 6) rfl (by decide) (by decide) rfl (fun ls hl => ?_)
      refine lv_goto (tgt := 23) hx hb dL_law_2421 (by decide) ?_
      exact law_exit E hX hbl hbA hAs hS (i := 6) (by decide) (lv_at hl 3 rfl) (lv_at hl 0 rfl) (by decide) (by decide)

set_option maxHeartbeats 4000000 in
set_option maxRecDepth 100000 in
/-- the law: round -/
theorem law_case_24 {p : Program} {l : Launch} {e : Env} {s : State} {m : MethodId} {below : List Frame} {meth : Method} {c : Code} {D : va_G} {cy : Nat → ClassId} {sa : Nat → Nat} {b : Nat} {xs : Nat → Int32} (hl0 : l.stackTraces = false) (E : kE yL_law cL_law 7 (some .boolean) #[Value.ref b] p s m meth c) (hX : va_X b 6 xs s s.heap) (hbl : b < s.heap.size) (hG : kG D cy sa (fun q => s.heap.size ≤ q) s) (u v : Nat → Nat) (o : Nat) (H : Heap) (locs : List Loc) (hP : va_P D vwCl [((u 0), .inr (12, [.ref (u 1), .int 0, .int (-1), .ref (u 2), .ref (u 3), .ref (u 4), .ref (u 5), .ref (u 6), .ref (u 7), .ref (u 8), .int 0, .ref (u 9), .ref (u 10), .ref (u 11), .ref (u 12), .ref (u 13), .ref (u 14)])), ((u 3), .inr (4, [.ref (u 15), .ref (u 16), .ref (u 17), .ref (u 18), .ref (u 19), .ref (u 20), .ref (u 21), .ref (u 22), .ref (u 23), .ref (u 24), .ref (u 25), .ref (u 26), .int 0, .int 0, .int 0, .int 0, .int 0])), ((v 0), .inr (13, [.int 0, .int 0, .int 0, .int (-1), .int 0, .int 0, .int 0, .int 0, .ref (v 1), .ref (v 2), .ref (v 3), .ref (v 4), .ref (v 5), .ref (v 6), .ref (v 7), .ref (v 8), .ref (v 9), .int 0, .int 0, .int 0, .int 0, .int 0, .int 0, .int 0, .int 0, .int 0, .ref (v 10), .ref (v 11), .ref (v 12), .ref (v 13), .int 0, .ref (v 14), .ref (v 15), .ref (v 16), .ref (v 17), .ref (v 18), .int 0, .int 0, .int 0, .ref (v 19), .ref (v 20), .ref (v 21), .ref (v 22), .ref (v 23), .int 0, .int 0, .int 0, .int 0])), ((v 5), .inl (cy 0, 5, .inl (fun _ => 0))), (o, .inl (cy 6, 1, .inr (.inl (fun _ => 0))))] H) (hD : va_D (fun q => s.heap.size ≤ q) [((u 0), .inr (12, [.ref (u 1), .int 0, .int (-1), .ref (u 2), .ref (u 3), .ref (u 4), .ref (u 5), .ref (u 6), .ref (u 7), .ref (u 8), .int 0, .ref (u 9), .ref (u 10), .ref (u 11), .ref (u 12), .ref (u 13), .ref (u 14)])), ((u 3), .inr (4, [.ref (u 15), .ref (u 16), .ref (u 17), .ref (u 18), .ref (u 19), .ref (u 20), .ref (u 21), .ref (u 22), .ref (u 23), .ref (u 24), .ref (u 25), .ref (u 26), .int 0, .int 0, .int 0, .int 0, .int 0])), ((v 0), .inr (13, [.int 0, .int 0, .int 0, .int (-1), .int 0, .int 0, .int 0, .int 0, .ref (v 1), .ref (v 2), .ref (v 3), .ref (v 4), .ref (v 5), .ref (v 6), .ref (v 7), .ref (v 8), .ref (v 9), .int 0, .int 0, .int 0, .int 0, .int 0, .int 0, .int 0, .int 0, .int 0, .ref (v 10), .ref (v 11), .ref (v 12), .ref (v 13), .int 0, .ref (v 14), .ref (v 15), .ref (v 16), .ref (v 17), .ref (v 18), .int 0, .int 0, .int 0, .ref (v 19), .ref (v 20), .ref (v 21), .ref (v 22), .ref (v 23), .int 0, .int 0, .int 0, .int 0])), ((v 5), .inl (cy 0, 5, .inl (fun _ => 0))), (o, .inl (cy 6, 1, .inr (.inl (fun _ => 0))))]) (hS : va_S (fun q => s.heap.size ≤ q) s.heap H locs) (ls : Array Slot) (hl : lv_has ls 7 [(0, .ref b), (1, .ref (u 0)), (2, .ref (v 0)), (3, .ref o), (4, .int 0)]) : W p l e room_1 s m #[Value.ref b] below meth c H locs 179 322202 (lw_Z below #[Value.ref b] s) (F0 m 1697 ls []) := by
  obtain ⟨A, hAe⟩ : ∃ A : Nat → Prop, A = fun q => s.heap.size ≤ q := ⟨_, rfl⟩
  rw [← hAe] at hG hD hS
  have hA : ∀ q, s.heap.size ≤ q → A q := fun q h => by rw [hAe]; exact h
  have hAs : ∀ q, A q → s.heap.size ≤ q := fun q h => by rw [hAe] at h; exact h
  have hbA : ¬ A b := by rw [hAe]; exact Nat.not_le.mpr hbl
  obtain ⟨hx, hb, hml, hown, hts, hr, hlk, hnm⟩ := id E
  have hown : s.vm.findClass RL = some m.cls := hown
  refine lv_aload_n hx hb dL_law_1697 rfl (lv_at hl 1 rfl) ?_
  refine lv_aload_n hx hb dL_law_1698 rfl (lv_at hl 0 rfl) ?_
  refine lv_iload hx hb dL_law_1699 (lv_at hl 4 rfl) ?_
  refine lv_iconst (v := 1) hx hb dL_law_1701 (by decide) ?_
  refine lv_iadd hx hb dL_law_1702 ?_
  refine lv_topi (fun x1 ex1 => ?_)
  obtain rfl : x1 = 1 := ex1.trans (by decide)
  refine va_sld hx hb hX hbl hbA hS (by unfold vp_in; decide) dL_law_1703 ?_
  refine lv_topi (fun x2 ex2 => ?_)
  obtain rfl : x2 = xs 1 := ex2.trans rfl
  refine lv_aload_n hx hb dL_law_1704 rfl (lv_at hl 0 rfl) ?_
  refine lv_iload hx hb dL_law_1705 (lv_at hl 4 rfl) ?_
  refine lv_iconst (v := 2) hx hb dL_law_1707 (by decide) ?_
  refine lv_iadd hx hb dL_law_1708 ?_
  refine lv_topi (fun x3 ex3 => ?_)
  obtain rfl : x3 = 2 := ex3.trans (by decide)
  refine va_sld hx hb hX hbl hbA hS (by unfold vp_in; decide) dL_law_1709 ?_
  refine lv_topi (fun x4 ex4 => ?_)
  obtain rfl : x4 = xs 2 := ex4.trans rfl
  refine lv_aload_n hx hb dL_law_1710 rfl (lv_at hl 3 rfl) ?_
  refine x_cali [2, 3] (⟨hP, hD, hG, hS, hA, rfl, rfl⟩ : kAt D cy sa A s H _ _ [((u 0), .inr (12, [.ref (u 1), .int 0, .int (-1), .ref (u 2), .ref (u 3), .ref (u 4), .ref (u 5), .ref (u 6), .ref (u 7), .ref (u 8), .int 0, .ref (u 9), .ref (u 10), .ref (u 11), .ref (u 12), .ref (u 13), .ref (u 14)])), ((u 3), .inr (4, [.ref (u 15), .ref (u 16), .ref (u 17), .ref (u 18), .ref (u 19), .ref (u 20), .ref (u 21), .ref (u 22), .ref (u 23), .ref (u 24), .ref (u 25), .ref (u 26), .int 0, .int 0, .int 0, .int 0, .int 0])), (o, .inl (cy 6, 1, .inr (.inl (fun _ => 0))))] [0, 1, 4]) (wr := [((v 0), .inr (13, [.int 0, .int 0, .int 0, .int (-1), .int 0, .int 0, .int 0, .int 0, .ref (v 1), .ref (v 2), .ref (v 3), .ref (v 4), .ref (v 5), .ref (v 6), .ref (v 7), .ref (v 8), .ref (v 9), .int 0, .int 0, .int 0, .int 0, .int 0, .int 0, .int 0, .int 0, .int 0, .ref (v 10), .ref (v 11), .ref (v 12), .ref (v 13), .int 0, .ref (v 14), .ref (v 15), .ref (v 16), .ref (v 17), .ref (v 18), .int 0, .int 0, .int 0, .ref (v 19), .ref (v 20), .ref (v 21), .ref (v 22), .ref (v 23), .int 0, .int 0, .int 0, .int 0])), ((v 5), .inl (cy 0, 5, .inl (fun _ => 0)))]) rfl rfl (by decide) (x_runW (As := [.ref (u 0), .int (xs 1), .int (xs 2), .ref o]) (rest := []) E lk_SRL_204 (w_round l hl0 D cy sa u o (xs 1) (xs 2) H.size) (⟨hP, hD, hG, hS, hA, rfl, rfl⟩ : kAt D cy sa A s H _ _ [((u 0), .inr (12, [.ref (u 1), .int 0, .int (-1), .ref (u 2), .ref (u 3), .ref (u 4), .ref (u 5), .ref (u 6), .ref (u 7), .ref (u 8), .int 0, .ref (u 9), .ref (u 10), .ref (u 11), .ref (u 12), .ref (u 13), .ref (u 14)])), ((u 3), .inr (4, [.ref (u 15), .ref (u 16), .ref (u 17), .ref (u 18), .ref (u 19), .ref (u 20), .ref (u 21), .ref (u 22), .ref (u 23), .ref (u 24), .ref (u 25), .ref (u 26), .int 0, .int 0, .int 0, .int 0, .int 0])), (o, .inl (cy 6, 1, .inr (.inl (fun _ => 0))))] [0, 1, 4]) hl.1 rfl rfl ⟨rfl, rfl, ⟨Nat.le_of_ble_eq_true rfl, Nat.le_of_ble_eq_true rfl⟩, ⟨Nat.le_of_ble_eq_true rfl, Nat.le_of_ble_eq_true rfl⟩, Nat.le_of_ble_eq_true rfl⟩ dL_law_1711) (fun ce q9 u6 H locs hwu6 hP hD hS h1 h2 h3 => ?_) (fun r5 u6 H locs hwu6 hP hD hS => ?_)
  · have hP : va_P D vwCl [((v 0), .inr (13, [.int 0, .int 0, .int 0, .int (-1), .int 0, .int 0, .int 0, .int 0, .ref (v 1), .ref (v 2), .ref (v 3), .ref (v 4), .ref (v 5), .ref (v 6), .ref (v 7), .ref (v 8), .ref (v 9), .int 0, .int 0, .int 0, .int 0, .int 0, .int 0, .int 0, .int 0, .int 0, .ref (v 10), .ref (v 11), .ref (v 12), .ref (v 13), .int 0, .ref (v 14), .ref (v 15), .ref (v 16), .ref (v 17), .ref (v 18), .int 0, .int 0, .int 0, .ref (v 19), .ref (v 20), .ref (v 21), .ref (v 22), .ref (v 23), .int 0, .int 0, .int 0, .int 0])), ((v 5), .inl (cy 0, 5, .inl (fun _ => 0)))] H := hP
    have hD : va_D A [((v 0), .inr (13, [.int 0, .int 0, .int 0, .int (-1), .int 0, .int 0, .int 0, .int 0, .ref (v 1), .ref (v 2), .ref (v 3), .ref (v 4), .ref (v 5), .ref (v 6), .ref (v 7), .ref (v 8), .ref (v 9), .int 0, .int 0, .int 0, .int 0, .int 0, .int 0, .int 0, .int 0, .int 0, .ref (v 10), .ref (v 11), .ref (v 12), .ref (v 13), .int 0, .ref (v 14), .ref (v 15), .ref (v 16), .ref (v 17), .ref (v 18), .int 0, .int 0, .int 0, .ref (v 19), .ref (v 20), .ref (v 21), .ref (v 22), .ref (v 23), .int 0, .int 0, .int 0, .int 0])), ((v 5), .inl (cy 0, 5, .inl (fun _ => 0)))] := hD
    exact (hwu6).elim
  · have hP : va_P D vwCl [((v 0), .inr (13, [.int 0, .int 0, .int 0, .int (-1), .int 0, .int 0, .int 0, .int 0, .ref (v 1), .ref (v 2), .ref (v 3), .ref (v 4), .ref (v 5), .ref (v 6), .ref (v 7), .ref (v 8), .ref (v 9), .int 0, .int 0, .int 0, .int 0, .int 0, .int 0, .int 0, .int 0, .int 0, .ref (v 10), .ref (v 11), .ref (v 12), .ref (v 13), .int 0, .ref (v 14), .ref (v 15), .ref (v 16), .ref (v 17), .ref (v 18), .int 0, .int 0, .int 0, .ref (v 19), .ref (v 20), .ref (v 21), .ref (v 22), .ref (v 23), .int 0, .int 0, .int 0, .int 0])), ((v 5), .inl (cy 0, 5, .inl (fun _ => 0))), (o, .inl (cy 6, 1, .inr (.inl u6)))] H := hP
    have hD : va_D A [((v 0), .inr (13, [.int 0, .int 0, .int 0, .int (-1), .int 0, .int 0, .int 0, .int 0, .ref (v 1), .ref (v 2), .ref (v 3), .ref (v 4), .ref (v 5), .ref (v 6), .ref (v 7), .ref (v 8), .ref (v 9), .int 0, .int 0, .int 0, .int 0, .int 0, .int 0, .int 0, .int 0, .int 0, .ref (v 10), .ref (v 11), .ref (v 12), .ref (v 13), .int 0, .ref (v 14), .ref (v 15), .ref (v 16), .ref (v 17), .ref (v 18), .int 0, .int 0, .int 0, .ref (v 19), .ref (v 20), .ref (v 21), .ref (v 22), .ref (v 23), .int 0, .int 0, .int 0, .int 0])), ((v 5), .inl (cy 0, 5, .inl (fun _ => 0))), (o, .inl (cy 6, 1, .inr (.inl u6)))] := hD
    refine lv_istore (lv' := [(5, .int r5), (0, .ref b), (1, .ref (u 0)), (2, .ref (v 0)), (3, .ref o), (4, .int 0)]) hx hb dL_law_1714 hl (by decide) rfl (fun ls hl => ?_)
    refine lv_aload_n hx hb dL_law_1716 rfl (lv_at hl 3 rfl) ?_
    refine lv_aload_n hx hb dL_law_1717 rfl (lv_at hl 1 rfl) ?_
    refine lv_iload hx hb dL_law_1718 (lv_at hl 5 rfl) ?_
    refine lv_iconst (v := 1) hx hb dL_law_1720 (by decide) ?_
    refine lv_iadd hx hb dL_law_1721 ?_
    refine lv_topi (fun x7 ex7 => ?_)
    obtain rfl : x7 = 1 := ex7.trans (by decide)
    refine va_sld hx hb hX hbl hbA hS (by unfold vp_in; decide) dL_law_1722 ?_
    refine lv_topi (fun x8 ex8 => ?_)
    obtain rfl : x8 = xs 1 := ex8.trans rfl
    refine lv_aload_n hx hb dL_law_1723 rfl (lv_at hl 1 rfl) ?_
    refine lv_iload hx hb dL_law_1724 (lv_at hl 5 rfl) ?_
    refine lv_iconst (v := 2) hx hb dL_law_1726 (by decide) ?_
    refine lv_iadd hx hb dL_law_1727 ?_
    refine lv_topi (fun x9 ex9 => ?_)
    obtain rfl : x9 = 2 := ex9.trans (by decide)
    refine va_sld hx hb hX hbl hbA hS (by unfold vp_in; decide) dL_law_1728 ?_
    refine lv_topi (fun x10 ex10 => ?_)
    obtain rfl : x10 = xs 2 := ex10.trans rfl
    refine k_cali [2] (⟨hP, hD, hG, hS, hA, rfl, rfl⟩ : kAt D cy sa A s H _ _ [((v 0), .inr (13, [.int 0, .int 0, .int 0, .int (-1), .int 0, .int 0, .int 0, .int 0, .ref (v 1), .ref (v 2), .ref (v 3), .ref (v 4), .ref (v 5), .ref (v 6), .ref (v 7), .ref (v 8), .ref (v 9), .int 0, .int 0, .int 0, .int 0, .int 0, .int 0, .int 0, .int 0, .int 0, .ref (v 10), .ref (v 11), .ref (v 12), .ref (v 13), .int 0, .ref (v 14), .ref (v 15), .ref (v 16), .ref (v 17), .ref (v 18), .int 0, .int 0, .int 0, .ref (v 19), .ref (v 20), .ref (v 21), .ref (v 22), .ref (v 23), .int 0, .int 0, .int 0, .int 0])), ((v 5), .inl (cy 0, 5, .inl (fun _ => 0)))] [0, 1]) (wr := [(o, .inl (cy 6, 1, .inr (.inl u6)))]) rfl rfl (by decide) (k_runV 13 0 (As := [.int (xs 1), .int (xs 2)]) (rest := []) E lk_VRL_206 rfl rfl rfl (m_round_ l hl0 D cy sa v (xs 1) (xs 2) H.size) (⟨hP, hD, hG, hS, hA, rfl, rfl⟩ : kAt D cy sa A s H _ _ [((v 0), .inr (13, [.int 0, .int 0, .int 0, .int (-1), .int 0, .int 0, .int 0, .int 0, .ref (v 1), .ref (v 2), .ref (v 3), .ref (v 4), .ref (v 5), .ref (v 6), .ref (v 7), .ref (v 8), .ref (v 9), .int 0, .int 0, .int 0, .int 0, .int 0, .int 0, .int 0, .int 0, .int 0, .ref (v 10), .ref (v 11), .ref (v 12), .ref (v 13), .int 0, .ref (v 14), .ref (v 15), .ref (v 16), .ref (v 17), .ref (v 18), .int 0, .int 0, .int 0, .ref (v 19), .ref (v 20), .ref (v 21), .ref (v 22), .ref (v 23), .int 0, .int 0, .int 0, .int 0])), ((v 5), .inl (cy 0, 5, .inl (fun _ => 0)))] [0, 1]) hl.1 rfl rfl ⟨rfl, rfl, ⟨Nat.le_of_ble_eq_true rfl, Nat.le_of_ble_eq_true rfl⟩, ⟨Nat.le_of_ble_eq_true rfl, Nat.le_of_ble_eq_true rfl⟩, Nat.le_of_ble_eq_true rfl⟩ dL_law_1729) (fun r11 u12 H locs hwu12 hP hD hS => ?_)
    have hP : va_P D vwCl [(o, .inl (cy 6, 1, .inr (.inl u6))), ((v 0), .inr (13, .int u12.1 :: u12.2))] H := hP
    have hD : va_D A [(o, .inl (cy 6, 1, .inr (.inl u6))), ((v 0), .inr (13, .int u12.1 :: u12.2))] := hD
    refine lv_istore (lv' := [(6, .int r11), (5, .int r5), (0, .ref b), (1, .ref (u 0)), (2, .ref (v 0)), (3, .ref o), (4, .int 0)]) hx hb dL_law_1732 hl (by decide) rfl (fun ls hl => ?_)
    refine lv_aload_n hx hb dL_law_1734 rfl (lv_at hl 4 rfl) ?_
    refine k_cali [0] (⟨hP, hD, hG, hS, hA, rfl, rfl⟩ : kAt D cy sa A s H _ _ [((v 0), .inr (13, .int u12.1 :: u12.2))] [1]) (wr := [(o, .inl (cy 6, 1, .inr (.inl u6)))]) rfl rfl (by decide) (k_runV 13 1 (As := []) (rest := []) E lk_VRL_127 rfl rfl rfl (m_thrown l hl0 D cy sa v u12.1 u12.2 H.size) (⟨hP, hD, hG, hS, hA, rfl, rfl⟩ : kAt D cy sa A s H _ _ [((v 0), .inr (13, .int u12.1 :: u12.2))] [1]) hl.1 rfl rfl ⟨rfl, rfl, ⟨Nat.le_of_ble_eq_true rfl, Nat.le_of_ble_eq_true rfl⟩, ⟨Nat.le_of_ble_eq_true rfl, Nat.le_of_ble_eq_true rfl⟩, Nat.le_of_ble_eq_true rfl⟩ dL_law_1735) (fun r13 u14 H locs hwu14 hP hD hS => ?_)
    have hP : va_P D vwCl [(o, .inl (cy 6, 1, .inr (.inl u6)))] H := hP
    have hD : va_D A [(o, .inl (cy 6, 1, .inr (.inl u6)))] := hD
    rcases hwu6 with ⟨rfl, x9, hx9, hf9⟩ | ⟨rfl, hpx⟩
    · exact hx9.elim
    · obtain rfl : r13 = 1 := hwu14.trans (hwu12.2 id)
      refine lv_iload hx hb dL_law_1738 (lv_at hl 1 rfl) ?_
      refine lv_icmp_eq (tgt := 1745) hx hb dL_law_1740 (by decide) (fun _ => ?_) (fun h => absurd (by decide) h)
      refine lv_iload hx hb dL_law_1745 (lv_at hl 1 rfl) ?_
      refine lv_if_ne (tgt := 1762) hx hb dL_law_1747 (by decide) (fun _ => ?_) (fun h => absurd h (by decide))
      refine lv_goto (tgt := 2418) hx hb dL_law_1762 (by decide) ?_
      refine lv_iinc (v := 6) (lv' := [(4, .int 6), (6, .int r11), (5, .int 1), (0, .ref b), (1, .ref (u 0)), (2, .ref (v 0)), (3, .ref o)]) hx hb dL_law_2418 hl (k := 6) rfl (by decide) (by decide) rfl (fun ls hl => ?_)
      refine lv_goto (tgt := 23) hx hb dL_law_2421 (by decide) ?_
      exact law_exit E hX hbl hbA hAs hS (i := 6) (by decide) (lv_at hl 3 rfl) (lv_at hl 0 rfl) (by decide) (by decide)

set_option maxHeartbeats 4000000 in
set_option maxRecDepth 100000 in
/-- the law: density -/
theorem law_case_25 {p : Program} {l : Launch} {e : Env} {s : State} {m : MethodId} {below : List Frame} {meth : Method} {c : Code} {D : va_G} {cy : Nat → ClassId} {sa : Nat → Nat} {b : Nat} {xs : Nat → Int32} (hl0 : l.stackTraces = false) (E : kE yL_law cL_law 7 (some .boolean) #[Value.ref b] p s m meth c) (hX : va_X b 6 xs s s.heap) (hbl : b < s.heap.size) (hG : kG D cy sa (fun q => s.heap.size ≤ q) s) (u v : Nat → Nat) (o : Nat) (H : Heap) (locs : List Loc) (hP : va_P D vwCl [((u 0), .inr (12, [.ref (u 1), .int 0, .int (-1), .ref (u 2), .ref (u 3), .ref (u 4), .ref (u 5), .ref (u 6), .ref (u 7), .ref (u 8), .int 0, .ref (u 9), .ref (u 10), .ref (u 11), .ref (u 12), .ref (u 13), .ref (u 14)])), ((u 3), .inr (4, [.ref (u 15), .ref (u 16), .ref (u 17), .ref (u 18), .ref (u 19), .ref (u 20), .ref (u 21), .ref (u 22), .ref (u 23), .ref (u 24), .ref (u 25), .ref (u 26), .int 0, .int 0, .int 0, .int 0, .int 0])), ((v 0), .inr (13, [.int 0, .int 0, .int 0, .int (-1), .int 0, .int 0, .int 0, .int 0, .ref (v 1), .ref (v 2), .ref (v 3), .ref (v 4), .ref (v 5), .ref (v 6), .ref (v 7), .ref (v 8), .ref (v 9), .int 0, .int 0, .int 0, .int 0, .int 0, .int 0, .int 0, .int 0, .int 0, .ref (v 10), .ref (v 11), .ref (v 12), .ref (v 13), .int 0, .ref (v 14), .ref (v 15), .ref (v 16), .ref (v 17), .ref (v 18), .int 0, .int 0, .int 0, .ref (v 19), .ref (v 20), .ref (v 21), .ref (v 22), .ref (v 23), .int 0, .int 0, .int 0, .int 0])), ((v 5), .inl (cy 0, 5, .inl (fun _ => 0))), (o, .inl (cy 6, 1, .inr (.inl (fun _ => 0))))] H) (hD : va_D (fun q => s.heap.size ≤ q) [((u 0), .inr (12, [.ref (u 1), .int 0, .int (-1), .ref (u 2), .ref (u 3), .ref (u 4), .ref (u 5), .ref (u 6), .ref (u 7), .ref (u 8), .int 0, .ref (u 9), .ref (u 10), .ref (u 11), .ref (u 12), .ref (u 13), .ref (u 14)])), ((u 3), .inr (4, [.ref (u 15), .ref (u 16), .ref (u 17), .ref (u 18), .ref (u 19), .ref (u 20), .ref (u 21), .ref (u 22), .ref (u 23), .ref (u 24), .ref (u 25), .ref (u 26), .int 0, .int 0, .int 0, .int 0, .int 0])), ((v 0), .inr (13, [.int 0, .int 0, .int 0, .int (-1), .int 0, .int 0, .int 0, .int 0, .ref (v 1), .ref (v 2), .ref (v 3), .ref (v 4), .ref (v 5), .ref (v 6), .ref (v 7), .ref (v 8), .ref (v 9), .int 0, .int 0, .int 0, .int 0, .int 0, .int 0, .int 0, .int 0, .int 0, .ref (v 10), .ref (v 11), .ref (v 12), .ref (v 13), .int 0, .ref (v 14), .ref (v 15), .ref (v 16), .ref (v 17), .ref (v 18), .int 0, .int 0, .int 0, .ref (v 19), .ref (v 20), .ref (v 21), .ref (v 22), .ref (v 23), .int 0, .int 0, .int 0, .int 0])), ((v 5), .inl (cy 0, 5, .inl (fun _ => 0))), (o, .inl (cy 6, 1, .inr (.inl (fun _ => 0))))]) (hS : va_S (fun q => s.heap.size ≤ q) s.heap H locs) (ls : Array Slot) (hl : lv_has ls 7 [(0, .ref b), (1, .ref (u 0)), (2, .ref (v 0)), (3, .ref o), (4, .int 0)]) : W p l e room_1 s m #[Value.ref b] below meth c H locs 179 322202 (lw_Z below #[Value.ref b] s) (F0 m 1765 ls []) := by
  obtain ⟨A, hAe⟩ : ∃ A : Nat → Prop, A = fun q => s.heap.size ≤ q := ⟨_, rfl⟩
  rw [← hAe] at hG hD hS
  have hA : ∀ q, s.heap.size ≤ q → A q := fun q h => by rw [hAe]; exact h
  have hAs : ∀ q, A q → s.heap.size ≤ q := fun q h => by rw [hAe] at h; exact h
  have hbA : ¬ A b := by rw [hAe]; exact Nat.not_le.mpr hbl
  obtain ⟨hx, hb, hml, hown, hts, hr, hlk, hnm⟩ := id E
  have hown : s.vm.findClass RL = some m.cls := hown
  refine lv_aload_n hx hb dL_law_1765 rfl (lv_at hl 1 rfl) ?_
  refine lv_aload_n hx hb dL_law_1766 rfl (lv_at hl 0 rfl) ?_
  refine lv_iload hx hb dL_law_1767 (lv_at hl 4 rfl) ?_
  refine lv_iconst (v := 1) hx hb dL_law_1769 (by decide) ?_
  refine lv_iadd hx hb dL_law_1770 ?_
  refine lv_topi (fun x1 ex1 => ?_)
  obtain rfl : x1 = 1 := ex1.trans (by decide)
  refine va_sld hx hb hX hbl hbA hS (by unfold vp_in; decide) dL_law_1771 ?_
  refine lv_topi (fun x2 ex2 => ?_)
  obtain rfl : x2 = xs 1 := ex2.trans rfl
  refine lv_aload_n hx hb dL_law_1772 rfl (lv_at hl 3 rfl) ?_
  refine x_cali [2, 3] (⟨hP, hD, hG, hS, hA, rfl, rfl⟩ : kAt D cy sa A s H _ _ [((u 0), .inr (12, [.ref (u 1), .int 0, .int (-1), .ref (u 2), .ref (u 3), .ref (u 4), .ref (u 5), .ref (u 6), .ref (u 7), .ref (u 8), .int 0, .ref (u 9), .ref (u 10), .ref (u 11), .ref (u 12), .ref (u 13), .ref (u 14)])), ((u 3), .inr (4, [.ref (u 15), .ref (u 16), .ref (u 17), .ref (u 18), .ref (u 19), .ref (u 20), .ref (u 21), .ref (u 22), .ref (u 23), .ref (u 24), .ref (u 25), .ref (u 26), .int 0, .int 0, .int 0, .int 0, .int 0])), (o, .inl (cy 6, 1, .inr (.inl (fun _ => 0))))] [0, 1, 4]) (wr := [((v 0), .inr (13, [.int 0, .int 0, .int 0, .int (-1), .int 0, .int 0, .int 0, .int 0, .ref (v 1), .ref (v 2), .ref (v 3), .ref (v 4), .ref (v 5), .ref (v 6), .ref (v 7), .ref (v 8), .ref (v 9), .int 0, .int 0, .int 0, .int 0, .int 0, .int 0, .int 0, .int 0, .int 0, .ref (v 10), .ref (v 11), .ref (v 12), .ref (v 13), .int 0, .ref (v 14), .ref (v 15), .ref (v 16), .ref (v 17), .ref (v 18), .int 0, .int 0, .int 0, .ref (v 19), .ref (v 20), .ref (v 21), .ref (v 22), .ref (v 23), .int 0, .int 0, .int 0, .int 0])), ((v 5), .inl (cy 0, 5, .inl (fun _ => 0)))]) rfl rfl (by decide) (x_runW (As := [.ref (u 0), .int (xs 1), .ref o]) (rest := []) E lk_SRL_207 (w_density l hl0 D cy sa u o (xs 1) H.size) (⟨hP, hD, hG, hS, hA, rfl, rfl⟩ : kAt D cy sa A s H _ _ [((u 0), .inr (12, [.ref (u 1), .int 0, .int (-1), .ref (u 2), .ref (u 3), .ref (u 4), .ref (u 5), .ref (u 6), .ref (u 7), .ref (u 8), .int 0, .ref (u 9), .ref (u 10), .ref (u 11), .ref (u 12), .ref (u 13), .ref (u 14)])), ((u 3), .inr (4, [.ref (u 15), .ref (u 16), .ref (u 17), .ref (u 18), .ref (u 19), .ref (u 20), .ref (u 21), .ref (u 22), .ref (u 23), .ref (u 24), .ref (u 25), .ref (u 26), .int 0, .int 0, .int 0, .int 0, .int 0])), (o, .inl (cy 6, 1, .inr (.inl (fun _ => 0))))] [0, 1, 4]) hl.1 rfl rfl ⟨rfl, rfl, ⟨Nat.le_of_ble_eq_true rfl, Nat.le_of_ble_eq_true rfl⟩, ⟨Nat.le_of_ble_eq_true rfl, Nat.le_of_ble_eq_true rfl⟩, Nat.le_of_ble_eq_true rfl⟩ dL_law_1773) (fun ce q9 u4 H locs hwu4 hP hD hS h1 h2 h3 => ?_) (fun r3 u4 H locs hwu4 hP hD hS => ?_)
  · have hP : va_P D vwCl [((v 0), .inr (13, [.int 0, .int 0, .int 0, .int (-1), .int 0, .int 0, .int 0, .int 0, .ref (v 1), .ref (v 2), .ref (v 3), .ref (v 4), .ref (v 5), .ref (v 6), .ref (v 7), .ref (v 8), .ref (v 9), .int 0, .int 0, .int 0, .int 0, .int 0, .int 0, .int 0, .int 0, .int 0, .ref (v 10), .ref (v 11), .ref (v 12), .ref (v 13), .int 0, .ref (v 14), .ref (v 15), .ref (v 16), .ref (v 17), .ref (v 18), .int 0, .int 0, .int 0, .ref (v 19), .ref (v 20), .ref (v 21), .ref (v 22), .ref (v 23), .int 0, .int 0, .int 0, .int 0])), ((v 5), .inl (cy 0, 5, .inl (fun _ => 0)))] H := hP
    have hD : va_D A [((v 0), .inr (13, [.int 0, .int 0, .int 0, .int (-1), .int 0, .int 0, .int 0, .int 0, .ref (v 1), .ref (v 2), .ref (v 3), .ref (v 4), .ref (v 5), .ref (v 6), .ref (v 7), .ref (v 8), .ref (v 9), .int 0, .int 0, .int 0, .int 0, .int 0, .int 0, .int 0, .int 0, .int 0, .ref (v 10), .ref (v 11), .ref (v 12), .ref (v 13), .int 0, .ref (v 14), .ref (v 15), .ref (v 16), .ref (v 17), .ref (v 18), .int 0, .int 0, .int 0, .ref (v 19), .ref (v 20), .ref (v 21), .ref (v 22), .ref (v 23), .int 0, .int 0, .int 0, .int 0])), ((v 5), .inl (cy 0, 5, .inl (fun _ => 0)))] := hD
    exact (hwu4).elim
  · have hP : va_P D vwCl [((v 0), .inr (13, [.int 0, .int 0, .int 0, .int (-1), .int 0, .int 0, .int 0, .int 0, .ref (v 1), .ref (v 2), .ref (v 3), .ref (v 4), .ref (v 5), .ref (v 6), .ref (v 7), .ref (v 8), .ref (v 9), .int 0, .int 0, .int 0, .int 0, .int 0, .int 0, .int 0, .int 0, .int 0, .ref (v 10), .ref (v 11), .ref (v 12), .ref (v 13), .int 0, .ref (v 14), .ref (v 15), .ref (v 16), .ref (v 17), .ref (v 18), .int 0, .int 0, .int 0, .ref (v 19), .ref (v 20), .ref (v 21), .ref (v 22), .ref (v 23), .int 0, .int 0, .int 0, .int 0])), ((v 5), .inl (cy 0, 5, .inl (fun _ => 0))), (o, .inl (cy 6, 1, .inr (.inl u4)))] H := hP
    have hD : va_D A [((v 0), .inr (13, [.int 0, .int 0, .int 0, .int (-1), .int 0, .int 0, .int 0, .int 0, .ref (v 1), .ref (v 2), .ref (v 3), .ref (v 4), .ref (v 5), .ref (v 6), .ref (v 7), .ref (v 8), .ref (v 9), .int 0, .int 0, .int 0, .int 0, .int 0, .int 0, .int 0, .int 0, .int 0, .ref (v 10), .ref (v 11), .ref (v 12), .ref (v 13), .int 0, .ref (v 14), .ref (v 15), .ref (v 16), .ref (v 17), .ref (v 18), .int 0, .int 0, .int 0, .ref (v 19), .ref (v 20), .ref (v 21), .ref (v 22), .ref (v 23), .int 0, .int 0, .int 0, .int 0])), ((v 5), .inl (cy 0, 5, .inl (fun _ => 0))), (o, .inl (cy 6, 1, .inr (.inl u4)))] := hD
    refine lv_istore (lv' := [(5, .int r3), (0, .ref b), (1, .ref (u 0)), (2, .ref (v 0)), (3, .ref o), (4, .int 0)]) hx hb dL_law_1776 hl (by decide) rfl (fun ls hl => ?_)
    refine lv_aload_n hx hb dL_law_1778 rfl (lv_at hl 3 rfl) ?_
    refine lv_aload_n hx hb dL_law_1779 rfl (lv_at hl 1 rfl) ?_
    refine lv_iload hx hb dL_law_1780 (lv_at hl 5 rfl) ?_
    refine lv_iconst (v := 1) hx hb dL_law_1782 (by decide) ?_
    refine lv_iadd hx hb dL_law_1783 ?_
    refine lv_topi (fun x5 ex5 => ?_)
    obtain rfl : x5 = 1 := ex5.trans (by decide)
    refine va_sld hx hb hX hbl hbA hS (by unfold vp_in; decide) dL_law_1784 ?_
    refine lv_topi (fun x6 ex6 => ?_)
    obtain rfl : x6 = xs 1 := ex6.trans rfl
    refine k_cali [2] (⟨hP, hD, hG, hS, hA, rfl, rfl⟩ : kAt D cy sa A s H _ _ [((v 0), .inr (13, [.int 0, .int 0, .int 0, .int (-1), .int 0, .int 0, .int 0, .int 0, .ref (v 1), .ref (v 2), .ref (v 3), .ref (v 4), .ref (v 5), .ref (v 6), .ref (v 7), .ref (v 8), .ref (v 9), .int 0, .int 0, .int 0, .int 0, .int 0, .int 0, .int 0, .int 0, .int 0, .ref (v 10), .ref (v 11), .ref (v 12), .ref (v 13), .int 0, .ref (v 14), .ref (v 15), .ref (v 16), .ref (v 17), .ref (v 18), .int 0, .int 0, .int 0, .ref (v 19), .ref (v 20), .ref (v 21), .ref (v 22), .ref (v 23), .int 0, .int 0, .int 0, .int 0])), ((v 5), .inl (cy 0, 5, .inl (fun _ => 0)))] [0, 1]) (wr := [(o, .inl (cy 6, 1, .inr (.inl u4)))]) rfl rfl (by decide) (k_runV 13 0 (As := [.int (xs 1)]) (rest := []) E lk_VRL_209 rfl rfl rfl (m_density_ l hl0 D cy sa v (xs 1) H.size) (⟨hP, hD, hG, hS, hA, rfl, rfl⟩ : kAt D cy sa A s H _ _ [((v 0), .inr (13, [.int 0, .int 0, .int 0, .int (-1), .int 0, .int 0, .int 0, .int 0, .ref (v 1), .ref (v 2), .ref (v 3), .ref (v 4), .ref (v 5), .ref (v 6), .ref (v 7), .ref (v 8), .ref (v 9), .int 0, .int 0, .int 0, .int 0, .int 0, .int 0, .int 0, .int 0, .int 0, .ref (v 10), .ref (v 11), .ref (v 12), .ref (v 13), .int 0, .ref (v 14), .ref (v 15), .ref (v 16), .ref (v 17), .ref (v 18), .int 0, .int 0, .int 0, .ref (v 19), .ref (v 20), .ref (v 21), .ref (v 22), .ref (v 23), .int 0, .int 0, .int 0, .int 0])), ((v 5), .inl (cy 0, 5, .inl (fun _ => 0)))] [0, 1]) hl.1 rfl rfl ⟨rfl, rfl, ⟨Nat.le_of_ble_eq_true rfl, Nat.le_of_ble_eq_true rfl⟩, ⟨Nat.le_of_ble_eq_true rfl, Nat.le_of_ble_eq_true rfl⟩, Nat.le_of_ble_eq_true rfl⟩ dL_law_1785) (fun r7 u8 H locs hwu8 hP hD hS => ?_)
    have hP : va_P D vwCl [(o, .inl (cy 6, 1, .inr (.inl u4))), ((v 0), .inr (13, .int u8.1 :: u8.2))] H := hP
    have hD : va_D A [(o, .inl (cy 6, 1, .inr (.inl u4))), ((v 0), .inr (13, .int u8.1 :: u8.2))] := hD
    refine lv_istore (lv' := [(6, .int r7), (5, .int r3), (0, .ref b), (1, .ref (u 0)), (2, .ref (v 0)), (3, .ref o), (4, .int 0)]) hx hb dL_law_1788 hl (by decide) rfl (fun ls hl => ?_)
    refine lv_aload_n hx hb dL_law_1790 rfl (lv_at hl 4 rfl) ?_
    refine k_cali [0] (⟨hP, hD, hG, hS, hA, rfl, rfl⟩ : kAt D cy sa A s H _ _ [((v 0), .inr (13, .int u8.1 :: u8.2))] [1]) (wr := [(o, .inl (cy 6, 1, .inr (.inl u4)))]) rfl rfl (by decide) (k_runV 13 1 (As := []) (rest := []) E lk_VRL_127 rfl rfl rfl (m_thrown l hl0 D cy sa v u8.1 u8.2 H.size) (⟨hP, hD, hG, hS, hA, rfl, rfl⟩ : kAt D cy sa A s H _ _ [((v 0), .inr (13, .int u8.1 :: u8.2))] [1]) hl.1 rfl rfl ⟨rfl, rfl, ⟨Nat.le_of_ble_eq_true rfl, Nat.le_of_ble_eq_true rfl⟩, ⟨Nat.le_of_ble_eq_true rfl, Nat.le_of_ble_eq_true rfl⟩, Nat.le_of_ble_eq_true rfl⟩ dL_law_1791) (fun r9 u10 H locs hwu10 hP hD hS => ?_)
    have hP : va_P D vwCl [(o, .inl (cy 6, 1, .inr (.inl u4)))] H := hP
    have hD : va_D A [(o, .inl (cy 6, 1, .inr (.inl u4)))] := hD
    rcases hwu4 with ⟨rfl, x9, hx9, hf9⟩ | ⟨rfl, hpx⟩
    · exact hx9.elim
    · obtain rfl : r9 = 1 := hwu10.trans (hwu8.2 id)
      refine lv_iload hx hb dL_law_1794 (lv_at hl 1 rfl) ?_
      refine lv_icmp_eq (tgt := 1801) hx hb dL_law_1796 (by decide) (fun _ => ?_) (fun h => absurd (by decide) h)
      refine lv_iload hx hb dL_law_1801 (lv_at hl 1 rfl) ?_
      refine lv_if_ne (tgt := 1818) hx hb dL_law_1803 (by decide) (fun _ => ?_) (fun h => absurd h (by decide))
      refine lv_goto (tgt := 2418) hx hb dL_law_1818 (by decide) ?_
      refine lv_iinc (v := 6) (lv' := [(4, .int 6), (6, .int r7), (5, .int 1), (0, .ref b), (1, .ref (u 0)), (2, .ref (v 0)), (3, .ref o)]) hx hb dL_law_2418 hl (k := 6) rfl (by decide) (by decide) rfl (fun ls hl => ?_)
      refine lv_goto (tgt := 23) hx hb dL_law_2421 (by decide) ?_
      exact law_exit E hX hbl hbA hAs hS (i := 6) (by decide) (lv_at hl 3 rfl) (lv_at hl 0 rfl) (by decide) (by decide)

set_option maxHeartbeats 4000000 in
set_option maxRecDepth 100000 in
/-- the law: stay -/
theorem law_case_26 {p : Program} {l : Launch} {e : Env} {s : State} {m : MethodId} {below : List Frame} {meth : Method} {c : Code} {D : va_G} {cy : Nat → ClassId} {sa : Nat → Nat} {b : Nat} {xs : Nat → Int32} (hl0 : l.stackTraces = false) (E : kE yL_law cL_law 7 (some .boolean) #[Value.ref b] p s m meth c) (hX : va_X b 6 xs s s.heap) (hbl : b < s.heap.size) (hG : kG D cy sa (fun q => s.heap.size ≤ q) s) (u v : Nat → Nat) (o : Nat) (H : Heap) (locs : List Loc) (hP : va_P D vwCl [((u 0), .inr (12, [.ref (u 1), .int 0, .int (-1), .ref (u 2), .ref (u 3), .ref (u 4), .ref (u 5), .ref (u 6), .ref (u 7), .ref (u 8), .int 0, .ref (u 9), .ref (u 10), .ref (u 11), .ref (u 12), .ref (u 13), .ref (u 14)])), ((u 3), .inr (4, [.ref (u 15), .ref (u 16), .ref (u 17), .ref (u 18), .ref (u 19), .ref (u 20), .ref (u 21), .ref (u 22), .ref (u 23), .ref (u 24), .ref (u 25), .ref (u 26), .int 0, .int 0, .int 0, .int 0, .int 0])), ((v 0), .inr (13, [.int 0, .int 0, .int 0, .int (-1), .int 0, .int 0, .int 0, .int 0, .ref (v 1), .ref (v 2), .ref (v 3), .ref (v 4), .ref (v 5), .ref (v 6), .ref (v 7), .ref (v 8), .ref (v 9), .int 0, .int 0, .int 0, .int 0, .int 0, .int 0, .int 0, .int 0, .int 0, .ref (v 10), .ref (v 11), .ref (v 12), .ref (v 13), .int 0, .ref (v 14), .ref (v 15), .ref (v 16), .ref (v 17), .ref (v 18), .int 0, .int 0, .int 0, .ref (v 19), .ref (v 20), .ref (v 21), .ref (v 22), .ref (v 23), .int 0, .int 0, .int 0, .int 0])), ((v 5), .inl (cy 0, 5, .inl (fun _ => 0))), (o, .inl (cy 6, 1, .inr (.inl (fun _ => 0))))] H) (hD : va_D (fun q => s.heap.size ≤ q) [((u 0), .inr (12, [.ref (u 1), .int 0, .int (-1), .ref (u 2), .ref (u 3), .ref (u 4), .ref (u 5), .ref (u 6), .ref (u 7), .ref (u 8), .int 0, .ref (u 9), .ref (u 10), .ref (u 11), .ref (u 12), .ref (u 13), .ref (u 14)])), ((u 3), .inr (4, [.ref (u 15), .ref (u 16), .ref (u 17), .ref (u 18), .ref (u 19), .ref (u 20), .ref (u 21), .ref (u 22), .ref (u 23), .ref (u 24), .ref (u 25), .ref (u 26), .int 0, .int 0, .int 0, .int 0, .int 0])), ((v 0), .inr (13, [.int 0, .int 0, .int 0, .int (-1), .int 0, .int 0, .int 0, .int 0, .ref (v 1), .ref (v 2), .ref (v 3), .ref (v 4), .ref (v 5), .ref (v 6), .ref (v 7), .ref (v 8), .ref (v 9), .int 0, .int 0, .int 0, .int 0, .int 0, .int 0, .int 0, .int 0, .int 0, .ref (v 10), .ref (v 11), .ref (v 12), .ref (v 13), .int 0, .ref (v 14), .ref (v 15), .ref (v 16), .ref (v 17), .ref (v 18), .int 0, .int 0, .int 0, .ref (v 19), .ref (v 20), .ref (v 21), .ref (v 22), .ref (v 23), .int 0, .int 0, .int 0, .int 0])), ((v 5), .inl (cy 0, 5, .inl (fun _ => 0))), (o, .inl (cy 6, 1, .inr (.inl (fun _ => 0))))]) (hS : va_S (fun q => s.heap.size ≤ q) s.heap H locs) (ls : Array Slot) (hl : lv_has ls 7 [(0, .ref b), (1, .ref (u 0)), (2, .ref (v 0)), (3, .ref o), (4, .int 0)]) : W p l e room_1 s m #[Value.ref b] below meth c H locs 179 322202 (lw_Z below #[Value.ref b] s) (F0 m 1821 ls []) := by
  obtain ⟨A, hAe⟩ : ∃ A : Nat → Prop, A = fun q => s.heap.size ≤ q := ⟨_, rfl⟩
  rw [← hAe] at hG hD hS
  have hA : ∀ q, s.heap.size ≤ q → A q := fun q h => by rw [hAe]; exact h
  have hAs : ∀ q, A q → s.heap.size ≤ q := fun q h => by rw [hAe] at h; exact h
  have hbA : ¬ A b := by rw [hAe]; exact Nat.not_le.mpr hbl
  obtain ⟨hx, hb, hml, hown, hts, hr, hlk, hnm⟩ := id E
  have hown : s.vm.findClass RL = some m.cls := hown
  refine lv_aload_n hx hb dL_law_1821 rfl (lv_at hl 1 rfl) ?_
  refine lv_aload_n hx hb dL_law_1822 rfl (lv_at hl 0 rfl) ?_
  refine lv_iload hx hb dL_law_1823 (lv_at hl 4 rfl) ?_
  refine lv_iconst (v := 1) hx hb dL_law_1825 (by decide) ?_
  refine lv_iadd hx hb dL_law_1826 ?_
  refine lv_topi (fun x1 ex1 => ?_)
  obtain rfl : x1 = 1 := ex1.trans (by decide)
  refine va_sld hx hb hX hbl hbA hS (by unfold vp_in; decide) dL_law_1827 ?_
  refine lv_topi (fun x2 ex2 => ?_)
  obtain rfl : x2 = xs 1 := ex2.trans rfl
  refine lv_aload_n hx hb dL_law_1828 rfl (lv_at hl 3 rfl) ?_
  refine x_cali [2, 3] (⟨hP, hD, hG, hS, hA, rfl, rfl⟩ : kAt D cy sa A s H _ _ [((u 0), .inr (12, [.ref (u 1), .int 0, .int (-1), .ref (u 2), .ref (u 3), .ref (u 4), .ref (u 5), .ref (u 6), .ref (u 7), .ref (u 8), .int 0, .ref (u 9), .ref (u 10), .ref (u 11), .ref (u 12), .ref (u 13), .ref (u 14)])), ((u 3), .inr (4, [.ref (u 15), .ref (u 16), .ref (u 17), .ref (u 18), .ref (u 19), .ref (u 20), .ref (u 21), .ref (u 22), .ref (u 23), .ref (u 24), .ref (u 25), .ref (u 26), .int 0, .int 0, .int 0, .int 0, .int 0])), (o, .inl (cy 6, 1, .inr (.inl (fun _ => 0))))] [0, 1, 4]) (wr := [((v 0), .inr (13, [.int 0, .int 0, .int 0, .int (-1), .int 0, .int 0, .int 0, .int 0, .ref (v 1), .ref (v 2), .ref (v 3), .ref (v 4), .ref (v 5), .ref (v 6), .ref (v 7), .ref (v 8), .ref (v 9), .int 0, .int 0, .int 0, .int 0, .int 0, .int 0, .int 0, .int 0, .int 0, .ref (v 10), .ref (v 11), .ref (v 12), .ref (v 13), .int 0, .ref (v 14), .ref (v 15), .ref (v 16), .ref (v 17), .ref (v 18), .int 0, .int 0, .int 0, .ref (v 19), .ref (v 20), .ref (v 21), .ref (v 22), .ref (v 23), .int 0, .int 0, .int 0, .int 0])), ((v 5), .inl (cy 0, 5, .inl (fun _ => 0)))]) rfl rfl (by decide) (x_runW (As := [.ref (u 0), .int (xs 1), .ref o]) (rest := []) E lk_SRL_210 (w_stay l hl0 D cy sa u o (xs 1) H.size) (⟨hP, hD, hG, hS, hA, rfl, rfl⟩ : kAt D cy sa A s H _ _ [((u 0), .inr (12, [.ref (u 1), .int 0, .int (-1), .ref (u 2), .ref (u 3), .ref (u 4), .ref (u 5), .ref (u 6), .ref (u 7), .ref (u 8), .int 0, .ref (u 9), .ref (u 10), .ref (u 11), .ref (u 12), .ref (u 13), .ref (u 14)])), ((u 3), .inr (4, [.ref (u 15), .ref (u 16), .ref (u 17), .ref (u 18), .ref (u 19), .ref (u 20), .ref (u 21), .ref (u 22), .ref (u 23), .ref (u 24), .ref (u 25), .ref (u 26), .int 0, .int 0, .int 0, .int 0, .int 0])), (o, .inl (cy 6, 1, .inr (.inl (fun _ => 0))))] [0, 1, 4]) hl.1 rfl rfl ⟨rfl, rfl, ⟨Nat.le_of_ble_eq_true rfl, Nat.le_of_ble_eq_true rfl⟩, ⟨Nat.le_of_ble_eq_true rfl, Nat.le_of_ble_eq_true rfl⟩, Nat.le_of_ble_eq_true rfl⟩ dL_law_1829) (fun ce q9 u4 H locs hwu4 hP hD hS h1 h2 h3 => ?_) (fun r3 u4 H locs hwu4 hP hD hS => ?_)
  · have hP : va_P D vwCl [((v 0), .inr (13, [.int 0, .int 0, .int 0, .int (-1), .int 0, .int 0, .int 0, .int 0, .ref (v 1), .ref (v 2), .ref (v 3), .ref (v 4), .ref (v 5), .ref (v 6), .ref (v 7), .ref (v 8), .ref (v 9), .int 0, .int 0, .int 0, .int 0, .int 0, .int 0, .int 0, .int 0, .int 0, .ref (v 10), .ref (v 11), .ref (v 12), .ref (v 13), .int 0, .ref (v 14), .ref (v 15), .ref (v 16), .ref (v 17), .ref (v 18), .int 0, .int 0, .int 0, .ref (v 19), .ref (v 20), .ref (v 21), .ref (v 22), .ref (v 23), .int 0, .int 0, .int 0, .int 0])), ((v 5), .inl (cy 0, 5, .inl (fun _ => 0)))] H := hP
    have hD : va_D A [((v 0), .inr (13, [.int 0, .int 0, .int 0, .int (-1), .int 0, .int 0, .int 0, .int 0, .ref (v 1), .ref (v 2), .ref (v 3), .ref (v 4), .ref (v 5), .ref (v 6), .ref (v 7), .ref (v 8), .ref (v 9), .int 0, .int 0, .int 0, .int 0, .int 0, .int 0, .int 0, .int 0, .int 0, .ref (v 10), .ref (v 11), .ref (v 12), .ref (v 13), .int 0, .ref (v 14), .ref (v 15), .ref (v 16), .ref (v 17), .ref (v 18), .int 0, .int 0, .int 0, .ref (v 19), .ref (v 20), .ref (v 21), .ref (v 22), .ref (v 23), .int 0, .int 0, .int 0, .int 0])), ((v 5), .inl (cy 0, 5, .inl (fun _ => 0)))] := hD
    exact (hwu4).elim
  · have hP : va_P D vwCl [((v 0), .inr (13, [.int 0, .int 0, .int 0, .int (-1), .int 0, .int 0, .int 0, .int 0, .ref (v 1), .ref (v 2), .ref (v 3), .ref (v 4), .ref (v 5), .ref (v 6), .ref (v 7), .ref (v 8), .ref (v 9), .int 0, .int 0, .int 0, .int 0, .int 0, .int 0, .int 0, .int 0, .int 0, .ref (v 10), .ref (v 11), .ref (v 12), .ref (v 13), .int 0, .ref (v 14), .ref (v 15), .ref (v 16), .ref (v 17), .ref (v 18), .int 0, .int 0, .int 0, .ref (v 19), .ref (v 20), .ref (v 21), .ref (v 22), .ref (v 23), .int 0, .int 0, .int 0, .int 0])), ((v 5), .inl (cy 0, 5, .inl (fun _ => 0))), (o, .inl (cy 6, 1, .inr (.inl u4)))] H := hP
    have hD : va_D A [((v 0), .inr (13, [.int 0, .int 0, .int 0, .int (-1), .int 0, .int 0, .int 0, .int 0, .ref (v 1), .ref (v 2), .ref (v 3), .ref (v 4), .ref (v 5), .ref (v 6), .ref (v 7), .ref (v 8), .ref (v 9), .int 0, .int 0, .int 0, .int 0, .int 0, .int 0, .int 0, .int 0, .int 0, .ref (v 10), .ref (v 11), .ref (v 12), .ref (v 13), .int 0, .ref (v 14), .ref (v 15), .ref (v 16), .ref (v 17), .ref (v 18), .int 0, .int 0, .int 0, .ref (v 19), .ref (v 20), .ref (v 21), .ref (v 22), .ref (v 23), .int 0, .int 0, .int 0, .int 0])), ((v 5), .inl (cy 0, 5, .inl (fun _ => 0))), (o, .inl (cy 6, 1, .inr (.inl u4)))] := hD
    refine lv_istore (lv' := [(5, .int r3), (0, .ref b), (1, .ref (u 0)), (2, .ref (v 0)), (3, .ref o), (4, .int 0)]) hx hb dL_law_1832 hl (by decide) rfl (fun ls hl => ?_)
    refine lv_aload_n hx hb dL_law_1834 rfl (lv_at hl 3 rfl) ?_
    refine lv_aload_n hx hb dL_law_1835 rfl (lv_at hl 1 rfl) ?_
    refine lv_iload hx hb dL_law_1836 (lv_at hl 5 rfl) ?_
    refine lv_iconst (v := 1) hx hb dL_law_1838 (by decide) ?_
    refine lv_iadd hx hb dL_law_1839 ?_
    refine lv_topi (fun x5 ex5 => ?_)
    obtain rfl : x5 = 1 := ex5.trans (by decide)
    refine va_sld hx hb hX hbl hbA hS (by unfold vp_in; decide) dL_law_1840 ?_
    refine lv_topi (fun x6 ex6 => ?_)
    obtain rfl : x6 = xs 1 := ex6.trans rfl
    refine k_cali [2] (⟨hP, hD, hG, hS, hA, rfl, rfl⟩ : kAt D cy sa A s H _ _ [((v 0), .inr (13, [.int 0, .int 0, .int 0, .int (-1), .int 0, .int 0, .int 0, .int 0, .ref (v 1), .ref (v 2), .ref (v 3), .ref (v 4), .ref (v 5), .ref (v 6), .ref (v 7), .ref (v 8), .ref (v 9), .int 0, .int 0, .int 0, .int 0, .int 0, .int 0, .int 0, .int 0, .int 0, .ref (v 10), .ref (v 11), .ref (v 12), .ref (v 13), .int 0, .ref (v 14), .ref (v 15), .ref (v 16), .ref (v 17), .ref (v 18), .int 0, .int 0, .int 0, .ref (v 19), .ref (v 20), .ref (v 21), .ref (v 22), .ref (v 23), .int 0, .int 0, .int 0, .int 0])), ((v 5), .inl (cy 0, 5, .inl (fun _ => 0)))] [0, 1]) (wr := [(o, .inl (cy 6, 1, .inr (.inl u4)))]) rfl rfl (by decide) (k_runV 13 0 (As := [.int (xs 1)]) (rest := []) E lk_VRL_212 rfl rfl rfl (m_stay_ l hl0 D cy sa v (xs 1) H.size) (⟨hP, hD, hG, hS, hA, rfl, rfl⟩ : kAt D cy sa A s H _ _ [((v 0), .inr (13, [.int 0, .int 0, .int 0, .int (-1), .int 0, .int 0, .int 0, .int 0, .ref (v 1), .ref (v 2), .ref (v 3), .ref (v 4), .ref (v 5), .ref (v 6), .ref (v 7), .ref (v 8), .ref (v 9), .int 0, .int 0, .int 0, .int 0, .int 0, .int 0, .int 0, .int 0, .int 0, .ref (v 10), .ref (v 11), .ref (v 12), .ref (v 13), .int 0, .ref (v 14), .ref (v 15), .ref (v 16), .ref (v 17), .ref (v 18), .int 0, .int 0, .int 0, .ref (v 19), .ref (v 20), .ref (v 21), .ref (v 22), .ref (v 23), .int 0, .int 0, .int 0, .int 0])), ((v 5), .inl (cy 0, 5, .inl (fun _ => 0)))] [0, 1]) hl.1 rfl rfl ⟨rfl, rfl, ⟨Nat.le_of_ble_eq_true rfl, Nat.le_of_ble_eq_true rfl⟩, ⟨Nat.le_of_ble_eq_true rfl, Nat.le_of_ble_eq_true rfl⟩, Nat.le_of_ble_eq_true rfl⟩ dL_law_1841) (fun r7 u8 H locs hwu8 hP hD hS => ?_)
    have hP : va_P D vwCl [(o, .inl (cy 6, 1, .inr (.inl u4))), ((v 0), .inr (13, .int u8.1 :: u8.2))] H := hP
    have hD : va_D A [(o, .inl (cy 6, 1, .inr (.inl u4))), ((v 0), .inr (13, .int u8.1 :: u8.2))] := hD
    refine lv_istore (lv' := [(6, .int r7), (5, .int r3), (0, .ref b), (1, .ref (u 0)), (2, .ref (v 0)), (3, .ref o), (4, .int 0)]) hx hb dL_law_1844 hl (by decide) rfl (fun ls hl => ?_)
    refine lv_aload_n hx hb dL_law_1846 rfl (lv_at hl 4 rfl) ?_
    refine k_cali [0] (⟨hP, hD, hG, hS, hA, rfl, rfl⟩ : kAt D cy sa A s H _ _ [((v 0), .inr (13, .int u8.1 :: u8.2))] [1]) (wr := [(o, .inl (cy 6, 1, .inr (.inl u4)))]) rfl rfl (by decide) (k_runV 13 1 (As := []) (rest := []) E lk_VRL_127 rfl rfl rfl (m_thrown l hl0 D cy sa v u8.1 u8.2 H.size) (⟨hP, hD, hG, hS, hA, rfl, rfl⟩ : kAt D cy sa A s H _ _ [((v 0), .inr (13, .int u8.1 :: u8.2))] [1]) hl.1 rfl rfl ⟨rfl, rfl, ⟨Nat.le_of_ble_eq_true rfl, Nat.le_of_ble_eq_true rfl⟩, ⟨Nat.le_of_ble_eq_true rfl, Nat.le_of_ble_eq_true rfl⟩, Nat.le_of_ble_eq_true rfl⟩ dL_law_1847) (fun r9 u10 H locs hwu10 hP hD hS => ?_)
    have hP : va_P D vwCl [(o, .inl (cy 6, 1, .inr (.inl u4)))] H := hP
    have hD : va_D A [(o, .inl (cy 6, 1, .inr (.inl u4)))] := hD
    rcases hwu4 with ⟨rfl, x9, hx9, hf9⟩ | ⟨rfl, hpx⟩
    · exact hx9.elim
    · obtain rfl : r9 = 1 := hwu10.trans (hwu8.2 id)
      refine lv_iload hx hb dL_law_1850 (lv_at hl 1 rfl) ?_
      refine lv_icmp_eq (tgt := 1857) hx hb dL_law_1852 (by decide) (fun _ => ?_) (fun h => absurd (by decide) h)
      refine lv_iload hx hb dL_law_1857 (lv_at hl 1 rfl) ?_
      refine lv_if_ne (tgt := 1874) hx hb dL_law_1859 (by decide) (fun _ => ?_) (fun h => absurd h (by decide))
      refine lv_goto (tgt := 2418) hx hb dL_law_1874 (by decide) ?_
      refine lv_iinc (v := 6) (lv' := [(4, .int 6), (6, .int r7), (5, .int 1), (0, .ref b), (1, .ref (u 0)), (2, .ref (v 0)), (3, .ref o)]) hx hb dL_law_2418 hl (k := 6) rfl (by decide) (by decide) rfl (fun ls hl => ?_)
      refine lv_goto (tgt := 23) hx hb dL_law_2421 (by decide) ?_
      exact law_exit E hX hbl hbA hAs hS (i := 6) (by decide) (lv_at hl 3 rfl) (lv_at hl 0 rfl) (by decide) (by decide)

set_option maxHeartbeats 4000000 in
set_option maxRecDepth 100000 in
/-- the law: beds -/
theorem law_case_27 {p : Program} {l : Launch} {e : Env} {s : State} {m : MethodId} {below : List Frame} {meth : Method} {c : Code} {D : va_G} {cy : Nat → ClassId} {sa : Nat → Nat} {b : Nat} {xs : Nat → Int32} (hl0 : l.stackTraces = false) (E : kE yL_law cL_law 7 (some .boolean) #[Value.ref b] p s m meth c) (hX : va_X b 6 xs s s.heap) (hbl : b < s.heap.size) (hG : kG D cy sa (fun q => s.heap.size ≤ q) s) (u v : Nat → Nat) (o : Nat) (H : Heap) (locs : List Loc) (hP : va_P D vwCl [((u 0), .inr (12, [.ref (u 1), .int 0, .int (-1), .ref (u 2), .ref (u 3), .ref (u 4), .ref (u 5), .ref (u 6), .ref (u 7), .ref (u 8), .int 0, .ref (u 9), .ref (u 10), .ref (u 11), .ref (u 12), .ref (u 13), .ref (u 14)])), ((u 3), .inr (4, [.ref (u 15), .ref (u 16), .ref (u 17), .ref (u 18), .ref (u 19), .ref (u 20), .ref (u 21), .ref (u 22), .ref (u 23), .ref (u 24), .ref (u 25), .ref (u 26), .int 0, .int 0, .int 0, .int 0, .int 0])), ((v 0), .inr (13, [.int 0, .int 0, .int 0, .int (-1), .int 0, .int 0, .int 0, .int 0, .ref (v 1), .ref (v 2), .ref (v 3), .ref (v 4), .ref (v 5), .ref (v 6), .ref (v 7), .ref (v 8), .ref (v 9), .int 0, .int 0, .int 0, .int 0, .int 0, .int 0, .int 0, .int 0, .int 0, .ref (v 10), .ref (v 11), .ref (v 12), .ref (v 13), .int 0, .ref (v 14), .ref (v 15), .ref (v 16), .ref (v 17), .ref (v 18), .int 0, .int 0, .int 0, .ref (v 19), .ref (v 20), .ref (v 21), .ref (v 22), .ref (v 23), .int 0, .int 0, .int 0, .int 0])), ((v 5), .inl (cy 0, 5, .inl (fun _ => 0))), (o, .inl (cy 6, 1, .inr (.inl (fun _ => 0))))] H) (hD : va_D (fun q => s.heap.size ≤ q) [((u 0), .inr (12, [.ref (u 1), .int 0, .int (-1), .ref (u 2), .ref (u 3), .ref (u 4), .ref (u 5), .ref (u 6), .ref (u 7), .ref (u 8), .int 0, .ref (u 9), .ref (u 10), .ref (u 11), .ref (u 12), .ref (u 13), .ref (u 14)])), ((u 3), .inr (4, [.ref (u 15), .ref (u 16), .ref (u 17), .ref (u 18), .ref (u 19), .ref (u 20), .ref (u 21), .ref (u 22), .ref (u 23), .ref (u 24), .ref (u 25), .ref (u 26), .int 0, .int 0, .int 0, .int 0, .int 0])), ((v 0), .inr (13, [.int 0, .int 0, .int 0, .int (-1), .int 0, .int 0, .int 0, .int 0, .ref (v 1), .ref (v 2), .ref (v 3), .ref (v 4), .ref (v 5), .ref (v 6), .ref (v 7), .ref (v 8), .ref (v 9), .int 0, .int 0, .int 0, .int 0, .int 0, .int 0, .int 0, .int 0, .int 0, .ref (v 10), .ref (v 11), .ref (v 12), .ref (v 13), .int 0, .ref (v 14), .ref (v 15), .ref (v 16), .ref (v 17), .ref (v 18), .int 0, .int 0, .int 0, .ref (v 19), .ref (v 20), .ref (v 21), .ref (v 22), .ref (v 23), .int 0, .int 0, .int 0, .int 0])), ((v 5), .inl (cy 0, 5, .inl (fun _ => 0))), (o, .inl (cy 6, 1, .inr (.inl (fun _ => 0))))]) (hS : va_S (fun q => s.heap.size ≤ q) s.heap H locs) (ls : Array Slot) (hl : lv_has ls 7 [(0, .ref b), (1, .ref (u 0)), (2, .ref (v 0)), (3, .ref o), (4, .int 0)]) : W p l e room_1 s m #[Value.ref b] below meth c H locs 179 322202 (lw_Z below #[Value.ref b] s) (F0 m 1877 ls []) := by
  obtain ⟨A, hAe⟩ : ∃ A : Nat → Prop, A = fun q => s.heap.size ≤ q := ⟨_, rfl⟩
  rw [← hAe] at hG hD hS
  have hA : ∀ q, s.heap.size ≤ q → A q := fun q h => by rw [hAe]; exact h
  have hAs : ∀ q, A q → s.heap.size ≤ q := fun q h => by rw [hAe] at h; exact h
  have hbA : ¬ A b := by rw [hAe]; exact Nat.not_le.mpr hbl
  obtain ⟨hx, hb, hml, hown, hts, hr, hlk, hnm⟩ := id E
  have hown : s.vm.findClass RL = some m.cls := hown
  refine lv_aload_n hx hb dL_law_1877 rfl (lv_at hl 1 rfl) ?_
  refine lv_aload_n hx hb dL_law_1878 rfl (lv_at hl 0 rfl) ?_
  refine lv_iload hx hb dL_law_1879 (lv_at hl 4 rfl) ?_
  refine lv_iconst (v := 1) hx hb dL_law_1881 (by decide) ?_
  refine lv_iadd hx hb dL_law_1882 ?_
  refine lv_topi (fun x1 ex1 => ?_)
  obtain rfl : x1 = 1 := ex1.trans (by decide)
  refine va_sld hx hb hX hbl hbA hS (by unfold vp_in; decide) dL_law_1883 ?_
  refine lv_topi (fun x2 ex2 => ?_)
  obtain rfl : x2 = xs 1 := ex2.trans rfl
  refine lv_aload_n hx hb dL_law_1884 rfl (lv_at hl 0 rfl) ?_
  refine lv_iload hx hb dL_law_1885 (lv_at hl 4 rfl) ?_
  refine lv_iconst (v := 2) hx hb dL_law_1887 (by decide) ?_
  refine lv_iadd hx hb dL_law_1888 ?_
  refine lv_topi (fun x3 ex3 => ?_)
  obtain rfl : x3 = 2 := ex3.trans (by decide)
  refine va_sld hx hb hX hbl hbA hS (by unfold vp_in; decide) dL_law_1889 ?_
  refine lv_topi (fun x4 ex4 => ?_)
  obtain rfl : x4 = xs 2 := ex4.trans rfl
  refine lv_aload_n hx hb dL_law_1890 rfl (lv_at hl 0 rfl) ?_
  refine lv_iload hx hb dL_law_1891 (lv_at hl 4 rfl) ?_
  refine lv_iconst (v := 3) hx hb dL_law_1893 (by decide) ?_
  refine lv_iadd hx hb dL_law_1894 ?_
  refine lv_topi (fun x5 ex5 => ?_)
  obtain rfl : x5 = 3 := ex5.trans (by decide)
  refine va_sld hx hb hX hbl hbA hS (by unfold vp_in; decide) dL_law_1895 ?_
  refine lv_topi (fun x6 ex6 => ?_)
  obtain rfl : x6 = xs 3 := ex6.trans rfl
  refine lv_aload_n hx hb dL_law_1896 rfl (lv_at hl 3 rfl) ?_
  refine x_cali [2, 3] (⟨hP, hD, hG, hS, hA, rfl, rfl⟩ : kAt D cy sa A s H _ _ [((u 0), .inr (12, [.ref (u 1), .int 0, .int (-1), .ref (u 2), .ref (u 3), .ref (u 4), .ref (u 5), .ref (u 6), .ref (u 7), .ref (u 8), .int 0, .ref (u 9), .ref (u 10), .ref (u 11), .ref (u 12), .ref (u 13), .ref (u 14)])), ((u 3), .inr (4, [.ref (u 15), .ref (u 16), .ref (u 17), .ref (u 18), .ref (u 19), .ref (u 20), .ref (u 21), .ref (u 22), .ref (u 23), .ref (u 24), .ref (u 25), .ref (u 26), .int 0, .int 0, .int 0, .int 0, .int 0])), (o, .inl (cy 6, 1, .inr (.inl (fun _ => 0))))] [0, 1, 4]) (wr := [((v 0), .inr (13, [.int 0, .int 0, .int 0, .int (-1), .int 0, .int 0, .int 0, .int 0, .ref (v 1), .ref (v 2), .ref (v 3), .ref (v 4), .ref (v 5), .ref (v 6), .ref (v 7), .ref (v 8), .ref (v 9), .int 0, .int 0, .int 0, .int 0, .int 0, .int 0, .int 0, .int 0, .int 0, .ref (v 10), .ref (v 11), .ref (v 12), .ref (v 13), .int 0, .ref (v 14), .ref (v 15), .ref (v 16), .ref (v 17), .ref (v 18), .int 0, .int 0, .int 0, .ref (v 19), .ref (v 20), .ref (v 21), .ref (v 22), .ref (v 23), .int 0, .int 0, .int 0, .int 0])), ((v 5), .inl (cy 0, 5, .inl (fun _ => 0)))]) rfl rfl (by decide) (x_runW (As := [.ref (u 0), .int (xs 1), .int (xs 2), .int (xs 3), .ref o]) (rest := []) E lk_SRL_213 (w_beds l hl0 D cy sa u o (xs 1) (xs 2) (xs 3) H.size) (⟨hP, hD, hG, hS, hA, rfl, rfl⟩ : kAt D cy sa A s H _ _ [((u 0), .inr (12, [.ref (u 1), .int 0, .int (-1), .ref (u 2), .ref (u 3), .ref (u 4), .ref (u 5), .ref (u 6), .ref (u 7), .ref (u 8), .int 0, .ref (u 9), .ref (u 10), .ref (u 11), .ref (u 12), .ref (u 13), .ref (u 14)])), ((u 3), .inr (4, [.ref (u 15), .ref (u 16), .ref (u 17), .ref (u 18), .ref (u 19), .ref (u 20), .ref (u 21), .ref (u 22), .ref (u 23), .ref (u 24), .ref (u 25), .ref (u 26), .int 0, .int 0, .int 0, .int 0, .int 0])), (o, .inl (cy 6, 1, .inr (.inl (fun _ => 0))))] [0, 1, 4]) hl.1 rfl rfl ⟨rfl, rfl, ⟨Nat.le_of_ble_eq_true rfl, Nat.le_of_ble_eq_true rfl⟩, ⟨Nat.le_of_ble_eq_true rfl, Nat.le_of_ble_eq_true rfl⟩, Nat.le_of_ble_eq_true rfl⟩ dL_law_1897) (fun ce q9 u8 H locs hwu8 hP hD hS h1 h2 h3 => ?_) (fun r7 u8 H locs hwu8 hP hD hS => ?_)
  · have hP : va_P D vwCl [((v 0), .inr (13, [.int 0, .int 0, .int 0, .int (-1), .int 0, .int 0, .int 0, .int 0, .ref (v 1), .ref (v 2), .ref (v 3), .ref (v 4), .ref (v 5), .ref (v 6), .ref (v 7), .ref (v 8), .ref (v 9), .int 0, .int 0, .int 0, .int 0, .int 0, .int 0, .int 0, .int 0, .int 0, .ref (v 10), .ref (v 11), .ref (v 12), .ref (v 13), .int 0, .ref (v 14), .ref (v 15), .ref (v 16), .ref (v 17), .ref (v 18), .int 0, .int 0, .int 0, .ref (v 19), .ref (v 20), .ref (v 21), .ref (v 22), .ref (v 23), .int 0, .int 0, .int 0, .int 0])), ((v 5), .inl (cy 0, 5, .inl (fun _ => 0)))] H := hP
    have hD : va_D A [((v 0), .inr (13, [.int 0, .int 0, .int 0, .int (-1), .int 0, .int 0, .int 0, .int 0, .ref (v 1), .ref (v 2), .ref (v 3), .ref (v 4), .ref (v 5), .ref (v 6), .ref (v 7), .ref (v 8), .ref (v 9), .int 0, .int 0, .int 0, .int 0, .int 0, .int 0, .int 0, .int 0, .int 0, .ref (v 10), .ref (v 11), .ref (v 12), .ref (v 13), .int 0, .ref (v 14), .ref (v 15), .ref (v 16), .ref (v 17), .ref (v 18), .int 0, .int 0, .int 0, .ref (v 19), .ref (v 20), .ref (v 21), .ref (v 22), .ref (v 23), .int 0, .int 0, .int 0, .int 0])), ((v 5), .inl (cy 0, 5, .inl (fun _ => 0)))] := hD
    exact (hwu8).elim
  · have hP : va_P D vwCl [((v 0), .inr (13, [.int 0, .int 0, .int 0, .int (-1), .int 0, .int 0, .int 0, .int 0, .ref (v 1), .ref (v 2), .ref (v 3), .ref (v 4), .ref (v 5), .ref (v 6), .ref (v 7), .ref (v 8), .ref (v 9), .int 0, .int 0, .int 0, .int 0, .int 0, .int 0, .int 0, .int 0, .int 0, .ref (v 10), .ref (v 11), .ref (v 12), .ref (v 13), .int 0, .ref (v 14), .ref (v 15), .ref (v 16), .ref (v 17), .ref (v 18), .int 0, .int 0, .int 0, .ref (v 19), .ref (v 20), .ref (v 21), .ref (v 22), .ref (v 23), .int 0, .int 0, .int 0, .int 0])), ((v 5), .inl (cy 0, 5, .inl (fun _ => 0))), (o, .inl (cy 6, 1, .inr (.inl u8)))] H := hP
    have hD : va_D A [((v 0), .inr (13, [.int 0, .int 0, .int 0, .int (-1), .int 0, .int 0, .int 0, .int 0, .ref (v 1), .ref (v 2), .ref (v 3), .ref (v 4), .ref (v 5), .ref (v 6), .ref (v 7), .ref (v 8), .ref (v 9), .int 0, .int 0, .int 0, .int 0, .int 0, .int 0, .int 0, .int 0, .int 0, .ref (v 10), .ref (v 11), .ref (v 12), .ref (v 13), .int 0, .ref (v 14), .ref (v 15), .ref (v 16), .ref (v 17), .ref (v 18), .int 0, .int 0, .int 0, .ref (v 19), .ref (v 20), .ref (v 21), .ref (v 22), .ref (v 23), .int 0, .int 0, .int 0, .int 0])), ((v 5), .inl (cy 0, 5, .inl (fun _ => 0))), (o, .inl (cy 6, 1, .inr (.inl u8)))] := hD
    refine lv_istore (lv' := [(5, .int r7), (0, .ref b), (1, .ref (u 0)), (2, .ref (v 0)), (3, .ref o), (4, .int 0)]) hx hb dL_law_1900 hl (by decide) rfl (fun ls hl => ?_)
    refine lv_aload_n hx hb dL_law_1902 rfl (lv_at hl 3 rfl) ?_
    refine lv_aload_n hx hb dL_law_1903 rfl (lv_at hl 1 rfl) ?_
    refine lv_iload hx hb dL_law_1904 (lv_at hl 5 rfl) ?_
    refine lv_iconst (v := 1) hx hb dL_law_1906 (by decide) ?_
    refine lv_iadd hx hb dL_law_1907 ?_
    refine lv_topi (fun x9 ex9 => ?_)
    obtain rfl : x9 = 1 := ex9.trans (by decide)
    refine va_sld hx hb hX hbl hbA hS (by unfold vp_in; decide) dL_law_1908 ?_
    refine lv_topi (fun x10 ex10 => ?_)
    obtain rfl : x10 = xs 1 := ex10.trans rfl
    refine lv_aload_n hx hb dL_law_1909 rfl (lv_at hl 1 rfl) ?_
    refine lv_iload hx hb dL_law_1910 (lv_at hl 5 rfl) ?_
    refine lv_iconst (v := 2) hx hb dL_law_1912 (by decide) ?_
    refine lv_iadd hx hb dL_law_1913 ?_
    refine lv_topi (fun x11 ex11 => ?_)
    obtain rfl : x11 = 2 := ex11.trans (by decide)
    refine va_sld hx hb hX hbl hbA hS (by unfold vp_in; decide) dL_law_1914 ?_
    refine lv_topi (fun x12 ex12 => ?_)
    obtain rfl : x12 = xs 2 := ex12.trans rfl
    refine lv_aload_n hx hb dL_law_1915 rfl (lv_at hl 1 rfl) ?_
    refine lv_iload hx hb dL_law_1916 (lv_at hl 5 rfl) ?_
    refine lv_iconst (v := 3) hx hb dL_law_1918 (by decide) ?_
    refine lv_iadd hx hb dL_law_1919 ?_
    refine lv_topi (fun x13 ex13 => ?_)
    obtain rfl : x13 = 3 := ex13.trans (by decide)
    refine va_sld hx hb hX hbl hbA hS (by unfold vp_in; decide) dL_law_1920 ?_
    refine lv_topi (fun x14 ex14 => ?_)
    obtain rfl : x14 = xs 3 := ex14.trans rfl
    refine k_cali [2] (⟨hP, hD, hG, hS, hA, rfl, rfl⟩ : kAt D cy sa A s H _ _ [((v 0), .inr (13, [.int 0, .int 0, .int 0, .int (-1), .int 0, .int 0, .int 0, .int 0, .ref (v 1), .ref (v 2), .ref (v 3), .ref (v 4), .ref (v 5), .ref (v 6), .ref (v 7), .ref (v 8), .ref (v 9), .int 0, .int 0, .int 0, .int 0, .int 0, .int 0, .int 0, .int 0, .int 0, .ref (v 10), .ref (v 11), .ref (v 12), .ref (v 13), .int 0, .ref (v 14), .ref (v 15), .ref (v 16), .ref (v 17), .ref (v 18), .int 0, .int 0, .int 0, .ref (v 19), .ref (v 20), .ref (v 21), .ref (v 22), .ref (v 23), .int 0, .int 0, .int 0, .int 0])), ((v 5), .inl (cy 0, 5, .inl (fun _ => 0)))] [0, 1]) (wr := [(o, .inl (cy 6, 1, .inr (.inl u8)))]) rfl rfl (by decide) (k_runV 13 0 (As := [.int (xs 1), .int (xs 2), .int (xs 3)]) (rest := []) E lk_VRL_215 rfl rfl rfl (m_beds_ l hl0 D cy sa v (xs 1) (xs 2) (xs 3) H.size) (⟨hP, hD, hG, hS, hA, rfl, rfl⟩ : kAt D cy sa A s H _ _ [((v 0), .inr (13, [.int 0, .int 0, .int 0, .int (-1), .int 0, .int 0, .int 0, .int 0, .ref (v 1), .ref (v 2), .ref (v 3), .ref (v 4), .ref (v 5), .ref (v 6), .ref (v 7), .ref (v 8), .ref (v 9), .int 0, .int 0, .int 0, .int 0, .int 0, .int 0, .int 0, .int 0, .int 0, .ref (v 10), .ref (v 11), .ref (v 12), .ref (v 13), .int 0, .ref (v 14), .ref (v 15), .ref (v 16), .ref (v 17), .ref (v 18), .int 0, .int 0, .int 0, .ref (v 19), .ref (v 20), .ref (v 21), .ref (v 22), .ref (v 23), .int 0, .int 0, .int 0, .int 0])), ((v 5), .inl (cy 0, 5, .inl (fun _ => 0)))] [0, 1]) hl.1 rfl rfl ⟨rfl, rfl, ⟨Nat.le_of_ble_eq_true rfl, Nat.le_of_ble_eq_true rfl⟩, ⟨Nat.le_of_ble_eq_true rfl, Nat.le_of_ble_eq_true rfl⟩, Nat.le_of_ble_eq_true rfl⟩ dL_law_1921) (fun r15 u16 H locs hwu16 hP hD hS => ?_)
    have hP : va_P D vwCl [(o, .inl (cy 6, 1, .inr (.inl u8))), ((v 0), .inr (13, .int u16.1 :: u16.2))] H := hP
    have hD : va_D A [(o, .inl (cy 6, 1, .inr (.inl u8))), ((v 0), .inr (13, .int u16.1 :: u16.2))] := hD
    refine lv_istore (lv' := [(6, .int r15), (5, .int r7), (0, .ref b), (1, .ref (u 0)), (2, .ref (v 0)), (3, .ref o), (4, .int 0)]) hx hb dL_law_1924 hl (by decide) rfl (fun ls hl => ?_)
    refine lv_aload_n hx hb dL_law_1926 rfl (lv_at hl 4 rfl) ?_
    refine k_cali [0] (⟨hP, hD, hG, hS, hA, rfl, rfl⟩ : kAt D cy sa A s H _ _ [((v 0), .inr (13, .int u16.1 :: u16.2))] [1]) (wr := [(o, .inl (cy 6, 1, .inr (.inl u8)))]) rfl rfl (by decide) (k_runV 13 1 (As := []) (rest := []) E lk_VRL_127 rfl rfl rfl (m_thrown l hl0 D cy sa v u16.1 u16.2 H.size) (⟨hP, hD, hG, hS, hA, rfl, rfl⟩ : kAt D cy sa A s H _ _ [((v 0), .inr (13, .int u16.1 :: u16.2))] [1]) hl.1 rfl rfl ⟨rfl, rfl, ⟨Nat.le_of_ble_eq_true rfl, Nat.le_of_ble_eq_true rfl⟩, ⟨Nat.le_of_ble_eq_true rfl, Nat.le_of_ble_eq_true rfl⟩, Nat.le_of_ble_eq_true rfl⟩ dL_law_1927) (fun r17 u18 H locs hwu18 hP hD hS => ?_)
    have hP : va_P D vwCl [(o, .inl (cy 6, 1, .inr (.inl u8)))] H := hP
    have hD : va_D A [(o, .inl (cy 6, 1, .inr (.inl u8)))] := hD
    rcases hwu8 with ⟨rfl, x9, hx9, hf9⟩ | ⟨rfl, hpx⟩
    · exact hx9.elim
    · obtain rfl : r17 = 1 := hwu18.trans (hwu16.2 id)
      refine lv_iload hx hb dL_law_1930 (lv_at hl 1 rfl) ?_
      refine lv_icmp_eq (tgt := 1937) hx hb dL_law_1932 (by decide) (fun _ => ?_) (fun h => absurd (by decide) h)
      refine lv_iload hx hb dL_law_1937 (lv_at hl 1 rfl) ?_
      refine lv_if_ne (tgt := 1954) hx hb dL_law_1939 (by decide) (fun _ => ?_) (fun h => absurd h (by decide))
      refine lv_goto (tgt := 2418) hx hb dL_law_1954 (by decide) ?_
      refine lv_iinc (v := 6) (lv' := [(4, .int 6), (6, .int r15), (5, .int 1), (0, .ref b), (1, .ref (u 0)), (2, .ref (v 0)), (3, .ref o)]) hx hb dL_law_2418 hl (k := 6) rfl (by decide) (by decide) rfl (fun ls hl => ?_)
      refine lv_goto (tgt := 23) hx hb dL_law_2421 (by decide) ?_
      exact law_exit E hX hbl hbA hAs hS (i := 6) (by decide) (lv_at hl 3 rfl) (lv_at hl 0 rfl) (by decide) (by decide)

set_option maxHeartbeats 4000000 in
set_option maxRecDepth 100000 in
/-- the law: two -/
theorem law_case_28 {p : Program} {l : Launch} {e : Env} {s : State} {m : MethodId} {below : List Frame} {meth : Method} {c : Code} {D : va_G} {cy : Nat → ClassId} {sa : Nat → Nat} {b : Nat} {xs : Nat → Int32} (hl0 : l.stackTraces = false) (E : kE yL_law cL_law 7 (some .boolean) #[Value.ref b] p s m meth c) (hX : va_X b 6 xs s s.heap) (hbl : b < s.heap.size) (hG : kG D cy sa (fun q => s.heap.size ≤ q) s) (u v : Nat → Nat) (o : Nat) (H : Heap) (locs : List Loc) (hP : va_P D vwCl [((u 0), .inr (12, [.ref (u 1), .int 0, .int (-1), .ref (u 2), .ref (u 3), .ref (u 4), .ref (u 5), .ref (u 6), .ref (u 7), .ref (u 8), .int 0, .ref (u 9), .ref (u 10), .ref (u 11), .ref (u 12), .ref (u 13), .ref (u 14)])), ((u 3), .inr (4, [.ref (u 15), .ref (u 16), .ref (u 17), .ref (u 18), .ref (u 19), .ref (u 20), .ref (u 21), .ref (u 22), .ref (u 23), .ref (u 24), .ref (u 25), .ref (u 26), .int 0, .int 0, .int 0, .int 0, .int 0])), ((v 0), .inr (13, [.int 0, .int 0, .int 0, .int (-1), .int 0, .int 0, .int 0, .int 0, .ref (v 1), .ref (v 2), .ref (v 3), .ref (v 4), .ref (v 5), .ref (v 6), .ref (v 7), .ref (v 8), .ref (v 9), .int 0, .int 0, .int 0, .int 0, .int 0, .int 0, .int 0, .int 0, .int 0, .ref (v 10), .ref (v 11), .ref (v 12), .ref (v 13), .int 0, .ref (v 14), .ref (v 15), .ref (v 16), .ref (v 17), .ref (v 18), .int 0, .int 0, .int 0, .ref (v 19), .ref (v 20), .ref (v 21), .ref (v 22), .ref (v 23), .int 0, .int 0, .int 0, .int 0])), ((v 5), .inl (cy 0, 5, .inl (fun _ => 0))), (o, .inl (cy 6, 1, .inr (.inl (fun _ => 0))))] H) (hD : va_D (fun q => s.heap.size ≤ q) [((u 0), .inr (12, [.ref (u 1), .int 0, .int (-1), .ref (u 2), .ref (u 3), .ref (u 4), .ref (u 5), .ref (u 6), .ref (u 7), .ref (u 8), .int 0, .ref (u 9), .ref (u 10), .ref (u 11), .ref (u 12), .ref (u 13), .ref (u 14)])), ((u 3), .inr (4, [.ref (u 15), .ref (u 16), .ref (u 17), .ref (u 18), .ref (u 19), .ref (u 20), .ref (u 21), .ref (u 22), .ref (u 23), .ref (u 24), .ref (u 25), .ref (u 26), .int 0, .int 0, .int 0, .int 0, .int 0])), ((v 0), .inr (13, [.int 0, .int 0, .int 0, .int (-1), .int 0, .int 0, .int 0, .int 0, .ref (v 1), .ref (v 2), .ref (v 3), .ref (v 4), .ref (v 5), .ref (v 6), .ref (v 7), .ref (v 8), .ref (v 9), .int 0, .int 0, .int 0, .int 0, .int 0, .int 0, .int 0, .int 0, .int 0, .ref (v 10), .ref (v 11), .ref (v 12), .ref (v 13), .int 0, .ref (v 14), .ref (v 15), .ref (v 16), .ref (v 17), .ref (v 18), .int 0, .int 0, .int 0, .ref (v 19), .ref (v 20), .ref (v 21), .ref (v 22), .ref (v 23), .int 0, .int 0, .int 0, .int 0])), ((v 5), .inl (cy 0, 5, .inl (fun _ => 0))), (o, .inl (cy 6, 1, .inr (.inl (fun _ => 0))))]) (hS : va_S (fun q => s.heap.size ≤ q) s.heap H locs) (ls : Array Slot) (hl : lv_has ls 7 [(0, .ref b), (1, .ref (u 0)), (2, .ref (v 0)), (3, .ref o), (4, .int 0)]) : W p l e room_1 s m #[Value.ref b] below meth c H locs 179 322202 (lw_Z below #[Value.ref b] s) (F0 m 1957 ls []) := by
  obtain ⟨A, hAe⟩ : ∃ A : Nat → Prop, A = fun q => s.heap.size ≤ q := ⟨_, rfl⟩
  rw [← hAe] at hG hD hS
  have hA : ∀ q, s.heap.size ≤ q → A q := fun q h => by rw [hAe]; exact h
  have hAs : ∀ q, A q → s.heap.size ≤ q := fun q h => by rw [hAe] at h; exact h
  have hbA : ¬ A b := by rw [hAe]; exact Nat.not_le.mpr hbl
  obtain ⟨hx, hb, hml, hown, hts, hr, hlk, hnm⟩ := id E
  have hown : s.vm.findClass RL = some m.cls := hown
  refine lv_aload_n hx hb dL_law_1957 rfl (lv_at hl 1 rfl) ?_
  refine lv_aload_n hx hb dL_law_1958 rfl (lv_at hl 0 rfl) ?_
  refine lv_iload hx hb dL_law_1959 (lv_at hl 4 rfl) ?_
  refine lv_iconst (v := 1) hx hb dL_law_1961 (by decide) ?_
  refine lv_iadd hx hb dL_law_1962 ?_
  refine lv_topi (fun x1 ex1 => ?_)
  obtain rfl : x1 = 1 := ex1.trans (by decide)
  refine va_sld hx hb hX hbl hbA hS (by unfold vp_in; decide) dL_law_1963 ?_
  refine lv_topi (fun x2 ex2 => ?_)
  obtain rfl : x2 = xs 1 := ex2.trans rfl
  refine lv_aload_n hx hb dL_law_1964 rfl (lv_at hl 3 rfl) ?_
  refine x_cali [2, 3] (⟨hP, hD, hG, hS, hA, rfl, rfl⟩ : kAt D cy sa A s H _ _ [((u 0), .inr (12, [.ref (u 1), .int 0, .int (-1), .ref (u 2), .ref (u 3), .ref (u 4), .ref (u 5), .ref (u 6), .ref (u 7), .ref (u 8), .int 0, .ref (u 9), .ref (u 10), .ref (u 11), .ref (u 12), .ref (u 13), .ref (u 14)])), ((u 3), .inr (4, [.ref (u 15), .ref (u 16), .ref (u 17), .ref (u 18), .ref (u 19), .ref (u 20), .ref (u 21), .ref (u 22), .ref (u 23), .ref (u 24), .ref (u 25), .ref (u 26), .int 0, .int 0, .int 0, .int 0, .int 0])), (o, .inl (cy 6, 1, .inr (.inl (fun _ => 0))))] [0, 1, 4]) (wr := [((v 0), .inr (13, [.int 0, .int 0, .int 0, .int (-1), .int 0, .int 0, .int 0, .int 0, .ref (v 1), .ref (v 2), .ref (v 3), .ref (v 4), .ref (v 5), .ref (v 6), .ref (v 7), .ref (v 8), .ref (v 9), .int 0, .int 0, .int 0, .int 0, .int 0, .int 0, .int 0, .int 0, .int 0, .ref (v 10), .ref (v 11), .ref (v 12), .ref (v 13), .int 0, .ref (v 14), .ref (v 15), .ref (v 16), .ref (v 17), .ref (v 18), .int 0, .int 0, .int 0, .ref (v 19), .ref (v 20), .ref (v 21), .ref (v 22), .ref (v 23), .int 0, .int 0, .int 0, .int 0])), ((v 5), .inl (cy 0, 5, .inl (fun _ => 0)))]) rfl rfl (by decide) (x_runW (As := [.ref (u 0), .int (xs 1), .ref o]) (rest := []) E lk_SRL_216 (w_two l hl0 D cy sa u o (xs 1) H.size) (⟨hP, hD, hG, hS, hA, rfl, rfl⟩ : kAt D cy sa A s H _ _ [((u 0), .inr (12, [.ref (u 1), .int 0, .int (-1), .ref (u 2), .ref (u 3), .ref (u 4), .ref (u 5), .ref (u 6), .ref (u 7), .ref (u 8), .int 0, .ref (u 9), .ref (u 10), .ref (u 11), .ref (u 12), .ref (u 13), .ref (u 14)])), ((u 3), .inr (4, [.ref (u 15), .ref (u 16), .ref (u 17), .ref (u 18), .ref (u 19), .ref (u 20), .ref (u 21), .ref (u 22), .ref (u 23), .ref (u 24), .ref (u 25), .ref (u 26), .int 0, .int 0, .int 0, .int 0, .int 0])), (o, .inl (cy 6, 1, .inr (.inl (fun _ => 0))))] [0, 1, 4]) hl.1 rfl rfl ⟨rfl, rfl, ⟨Nat.le_of_ble_eq_true rfl, Nat.le_of_ble_eq_true rfl⟩, ⟨Nat.le_of_ble_eq_true rfl, Nat.le_of_ble_eq_true rfl⟩, Nat.le_of_ble_eq_true rfl⟩ dL_law_1965) (fun ce q9 u4 H locs hwu4 hP hD hS h1 h2 h3 => ?_) (fun r3 u4 H locs hwu4 hP hD hS => ?_)
  · have hP : va_P D vwCl [((v 0), .inr (13, [.int 0, .int 0, .int 0, .int (-1), .int 0, .int 0, .int 0, .int 0, .ref (v 1), .ref (v 2), .ref (v 3), .ref (v 4), .ref (v 5), .ref (v 6), .ref (v 7), .ref (v 8), .ref (v 9), .int 0, .int 0, .int 0, .int 0, .int 0, .int 0, .int 0, .int 0, .int 0, .ref (v 10), .ref (v 11), .ref (v 12), .ref (v 13), .int 0, .ref (v 14), .ref (v 15), .ref (v 16), .ref (v 17), .ref (v 18), .int 0, .int 0, .int 0, .ref (v 19), .ref (v 20), .ref (v 21), .ref (v 22), .ref (v 23), .int 0, .int 0, .int 0, .int 0])), ((v 5), .inl (cy 0, 5, .inl (fun _ => 0)))] H := hP
    have hD : va_D A [((v 0), .inr (13, [.int 0, .int 0, .int 0, .int (-1), .int 0, .int 0, .int 0, .int 0, .ref (v 1), .ref (v 2), .ref (v 3), .ref (v 4), .ref (v 5), .ref (v 6), .ref (v 7), .ref (v 8), .ref (v 9), .int 0, .int 0, .int 0, .int 0, .int 0, .int 0, .int 0, .int 0, .int 0, .ref (v 10), .ref (v 11), .ref (v 12), .ref (v 13), .int 0, .ref (v 14), .ref (v 15), .ref (v 16), .ref (v 17), .ref (v 18), .int 0, .int 0, .int 0, .ref (v 19), .ref (v 20), .ref (v 21), .ref (v 22), .ref (v 23), .int 0, .int 0, .int 0, .int 0])), ((v 5), .inl (cy 0, 5, .inl (fun _ => 0)))] := hD
    exact (hwu4).elim
  · have hP : va_P D vwCl [((v 0), .inr (13, [.int 0, .int 0, .int 0, .int (-1), .int 0, .int 0, .int 0, .int 0, .ref (v 1), .ref (v 2), .ref (v 3), .ref (v 4), .ref (v 5), .ref (v 6), .ref (v 7), .ref (v 8), .ref (v 9), .int 0, .int 0, .int 0, .int 0, .int 0, .int 0, .int 0, .int 0, .int 0, .ref (v 10), .ref (v 11), .ref (v 12), .ref (v 13), .int 0, .ref (v 14), .ref (v 15), .ref (v 16), .ref (v 17), .ref (v 18), .int 0, .int 0, .int 0, .ref (v 19), .ref (v 20), .ref (v 21), .ref (v 22), .ref (v 23), .int 0, .int 0, .int 0, .int 0])), ((v 5), .inl (cy 0, 5, .inl (fun _ => 0))), (o, .inl (cy 6, 1, .inr (.inl u4)))] H := hP
    have hD : va_D A [((v 0), .inr (13, [.int 0, .int 0, .int 0, .int (-1), .int 0, .int 0, .int 0, .int 0, .ref (v 1), .ref (v 2), .ref (v 3), .ref (v 4), .ref (v 5), .ref (v 6), .ref (v 7), .ref (v 8), .ref (v 9), .int 0, .int 0, .int 0, .int 0, .int 0, .int 0, .int 0, .int 0, .int 0, .ref (v 10), .ref (v 11), .ref (v 12), .ref (v 13), .int 0, .ref (v 14), .ref (v 15), .ref (v 16), .ref (v 17), .ref (v 18), .int 0, .int 0, .int 0, .ref (v 19), .ref (v 20), .ref (v 21), .ref (v 22), .ref (v 23), .int 0, .int 0, .int 0, .int 0])), ((v 5), .inl (cy 0, 5, .inl (fun _ => 0))), (o, .inl (cy 6, 1, .inr (.inl u4)))] := hD
    refine lv_istore (lv' := [(5, .int r3), (0, .ref b), (1, .ref (u 0)), (2, .ref (v 0)), (3, .ref o), (4, .int 0)]) hx hb dL_law_1968 hl (by decide) rfl (fun ls hl => ?_)
    refine lv_aload_n hx hb dL_law_1970 rfl (lv_at hl 3 rfl) ?_
    refine lv_aload_n hx hb dL_law_1971 rfl (lv_at hl 1 rfl) ?_
    refine lv_iload hx hb dL_law_1972 (lv_at hl 5 rfl) ?_
    refine lv_iconst (v := 1) hx hb dL_law_1974 (by decide) ?_
    refine lv_iadd hx hb dL_law_1975 ?_
    refine lv_topi (fun x5 ex5 => ?_)
    obtain rfl : x5 = 1 := ex5.trans (by decide)
    refine va_sld hx hb hX hbl hbA hS (by unfold vp_in; decide) dL_law_1976 ?_
    refine lv_topi (fun x6 ex6 => ?_)
    obtain rfl : x6 = xs 1 := ex6.trans rfl
    refine k_cali [2] (⟨hP, hD, hG, hS, hA, rfl, rfl⟩ : kAt D cy sa A s H _ _ [((v 0), .inr (13, [.int 0, .int 0, .int 0, .int (-1), .int 0, .int 0, .int 0, .int 0, .ref (v 1), .ref (v 2), .ref (v 3), .ref (v 4), .ref (v 5), .ref (v 6), .ref (v 7), .ref (v 8), .ref (v 9), .int 0, .int 0, .int 0, .int 0, .int 0, .int 0, .int 0, .int 0, .int 0, .ref (v 10), .ref (v 11), .ref (v 12), .ref (v 13), .int 0, .ref (v 14), .ref (v 15), .ref (v 16), .ref (v 17), .ref (v 18), .int 0, .int 0, .int 0, .ref (v 19), .ref (v 20), .ref (v 21), .ref (v 22), .ref (v 23), .int 0, .int 0, .int 0, .int 0])), ((v 5), .inl (cy 0, 5, .inl (fun _ => 0)))] [0, 1]) (wr := [(o, .inl (cy 6, 1, .inr (.inl u4)))]) rfl rfl (by decide) (k_runV 13 0 (As := [.int (xs 1)]) (rest := []) E lk_VRL_218 rfl rfl rfl (m_two_ l hl0 D cy sa v (xs 1) H.size) (⟨hP, hD, hG, hS, hA, rfl, rfl⟩ : kAt D cy sa A s H _ _ [((v 0), .inr (13, [.int 0, .int 0, .int 0, .int (-1), .int 0, .int 0, .int 0, .int 0, .ref (v 1), .ref (v 2), .ref (v 3), .ref (v 4), .ref (v 5), .ref (v 6), .ref (v 7), .ref (v 8), .ref (v 9), .int 0, .int 0, .int 0, .int 0, .int 0, .int 0, .int 0, .int 0, .int 0, .ref (v 10), .ref (v 11), .ref (v 12), .ref (v 13), .int 0, .ref (v 14), .ref (v 15), .ref (v 16), .ref (v 17), .ref (v 18), .int 0, .int 0, .int 0, .ref (v 19), .ref (v 20), .ref (v 21), .ref (v 22), .ref (v 23), .int 0, .int 0, .int 0, .int 0])), ((v 5), .inl (cy 0, 5, .inl (fun _ => 0)))] [0, 1]) hl.1 rfl rfl ⟨rfl, rfl, ⟨Nat.le_of_ble_eq_true rfl, Nat.le_of_ble_eq_true rfl⟩, ⟨Nat.le_of_ble_eq_true rfl, Nat.le_of_ble_eq_true rfl⟩, Nat.le_of_ble_eq_true rfl⟩ dL_law_1977) (fun r7 u8 H locs hwu8 hP hD hS => ?_)
    have hP : va_P D vwCl [(o, .inl (cy 6, 1, .inr (.inl u4))), ((v 0), .inr (13, .int u8.1 :: u8.2))] H := hP
    have hD : va_D A [(o, .inl (cy 6, 1, .inr (.inl u4))), ((v 0), .inr (13, .int u8.1 :: u8.2))] := hD
    refine lv_istore (lv' := [(6, .int r7), (5, .int r3), (0, .ref b), (1, .ref (u 0)), (2, .ref (v 0)), (3, .ref o), (4, .int 0)]) hx hb dL_law_1980 hl (by decide) rfl (fun ls hl => ?_)
    refine lv_aload_n hx hb dL_law_1982 rfl (lv_at hl 4 rfl) ?_
    refine k_cali [0] (⟨hP, hD, hG, hS, hA, rfl, rfl⟩ : kAt D cy sa A s H _ _ [((v 0), .inr (13, .int u8.1 :: u8.2))] [1]) (wr := [(o, .inl (cy 6, 1, .inr (.inl u4)))]) rfl rfl (by decide) (k_runV 13 1 (As := []) (rest := []) E lk_VRL_127 rfl rfl rfl (m_thrown l hl0 D cy sa v u8.1 u8.2 H.size) (⟨hP, hD, hG, hS, hA, rfl, rfl⟩ : kAt D cy sa A s H _ _ [((v 0), .inr (13, .int u8.1 :: u8.2))] [1]) hl.1 rfl rfl ⟨rfl, rfl, ⟨Nat.le_of_ble_eq_true rfl, Nat.le_of_ble_eq_true rfl⟩, ⟨Nat.le_of_ble_eq_true rfl, Nat.le_of_ble_eq_true rfl⟩, Nat.le_of_ble_eq_true rfl⟩ dL_law_1983) (fun r9 u10 H locs hwu10 hP hD hS => ?_)
    have hP : va_P D vwCl [(o, .inl (cy 6, 1, .inr (.inl u4)))] H := hP
    have hD : va_D A [(o, .inl (cy 6, 1, .inr (.inl u4)))] := hD
    rcases hwu4 with ⟨rfl, x9, hx9, hf9⟩ | ⟨rfl, hpx⟩
    · exact hx9.elim
    · obtain rfl : r9 = 1 := hwu10.trans (hwu8.2 id)
      refine lv_iload hx hb dL_law_1986 (lv_at hl 1 rfl) ?_
      refine lv_icmp_eq (tgt := 1993) hx hb dL_law_1988 (by decide) (fun _ => ?_) (fun h => absurd (by decide) h)
      refine lv_iload hx hb dL_law_1993 (lv_at hl 1 rfl) ?_
      refine lv_if_ne (tgt := 2010) hx hb dL_law_1995 (by decide) (fun _ => ?_) (fun h => absurd h (by decide))
      refine lv_goto (tgt := 2418) hx hb dL_law_2010 (by decide) ?_
      refine lv_iinc (v := 6) (lv' := [(4, .int 6), (6, .int r7), (5, .int 1), (0, .ref b), (1, .ref (u 0)), (2, .ref (v 0)), (3, .ref o)]) hx hb dL_law_2418 hl (k := 6) rfl (by decide) (by decide) rfl (fun ls hl => ?_)
      refine lv_goto (tgt := 23) hx hb dL_law_2421 (by decide) ?_
      exact law_exit E hX hbl hbA hAs hS (i := 6) (by decide) (lv_at hl 3 rfl) (lv_at hl 0 rfl) (by decide) (by decide)

set_option maxHeartbeats 4000000 in
set_option maxRecDepth 100000 in
/-- the law: alike -/
theorem law_case_29 {p : Program} {l : Launch} {e : Env} {s : State} {m : MethodId} {below : List Frame} {meth : Method} {c : Code} {D : va_G} {cy : Nat → ClassId} {sa : Nat → Nat} {b : Nat} {xs : Nat → Int32} (hl0 : l.stackTraces = false) (E : kE yL_law cL_law 7 (some .boolean) #[Value.ref b] p s m meth c) (hX : va_X b 6 xs s s.heap) (hbl : b < s.heap.size) (hG : kG D cy sa (fun q => s.heap.size ≤ q) s) (u v : Nat → Nat) (o : Nat) (H : Heap) (locs : List Loc) (hP : va_P D vwCl [((u 0), .inr (12, [.ref (u 1), .int 0, .int (-1), .ref (u 2), .ref (u 3), .ref (u 4), .ref (u 5), .ref (u 6), .ref (u 7), .ref (u 8), .int 0, .ref (u 9), .ref (u 10), .ref (u 11), .ref (u 12), .ref (u 13), .ref (u 14)])), ((v 0), .inr (13, [.int 0, .int 0, .int 0, .int (-1), .int 0, .int 0, .int 0, .int 0, .ref (v 1), .ref (v 2), .ref (v 3), .ref (v 4), .ref (v 5), .ref (v 6), .ref (v 7), .ref (v 8), .ref (v 9), .int 0, .int 0, .int 0, .int 0, .int 0, .int 0, .int 0, .int 0, .int 0, .ref (v 10), .ref (v 11), .ref (v 12), .ref (v 13), .int 0, .ref (v 14), .ref (v 15), .ref (v 16), .ref (v 17), .ref (v 18), .int 0, .int 0, .int 0, .ref (v 19), .ref (v 20), .ref (v 21), .ref (v 22), .ref (v 23), .int 0, .int 0, .int 0, .int 0])), (o, .inl (cy 6, 1, .inr (.inl (fun _ => 0))))] H) (hD : va_D (fun q => s.heap.size ≤ q) [((u 0), .inr (12, [.ref (u 1), .int 0, .int (-1), .ref (u 2), .ref (u 3), .ref (u 4), .ref (u 5), .ref (u 6), .ref (u 7), .ref (u 8), .int 0, .ref (u 9), .ref (u 10), .ref (u 11), .ref (u 12), .ref (u 13), .ref (u 14)])), ((v 0), .inr (13, [.int 0, .int 0, .int 0, .int (-1), .int 0, .int 0, .int 0, .int 0, .ref (v 1), .ref (v 2), .ref (v 3), .ref (v 4), .ref (v 5), .ref (v 6), .ref (v 7), .ref (v 8), .ref (v 9), .int 0, .int 0, .int 0, .int 0, .int 0, .int 0, .int 0, .int 0, .int 0, .ref (v 10), .ref (v 11), .ref (v 12), .ref (v 13), .int 0, .ref (v 14), .ref (v 15), .ref (v 16), .ref (v 17), .ref (v 18), .int 0, .int 0, .int 0, .ref (v 19), .ref (v 20), .ref (v 21), .ref (v 22), .ref (v 23), .int 0, .int 0, .int 0, .int 0])), (o, .inl (cy 6, 1, .inr (.inl (fun _ => 0))))]) (hS : va_S (fun q => s.heap.size ≤ q) s.heap H locs) (ls : Array Slot) (hl : lv_has ls 7 [(0, .ref b), (1, .ref (u 0)), (2, .ref (v 0)), (3, .ref o), (4, .int 0)]) : W p l e room_1 s m #[Value.ref b] below meth c H locs 179 322202 (lw_Z below #[Value.ref b] s) (F0 m 2013 ls []) := by
  obtain ⟨A, hAe⟩ : ∃ A : Nat → Prop, A = fun q => s.heap.size ≤ q := ⟨_, rfl⟩
  rw [← hAe] at hG hD hS
  have hA : ∀ q, s.heap.size ≤ q → A q := fun q h => by rw [hAe]; exact h
  have hAs : ∀ q, A q → s.heap.size ≤ q := fun q h => by rw [hAe] at h; exact h
  have hbA : ¬ A b := by rw [hAe]; exact Nat.not_le.mpr hbl
  obtain ⟨hx, hb, hml, hown, hts, hr, hlk, hnm⟩ := id E
  have hown : s.vm.findClass RL = some m.cls := hown
  refine lv_aload_n hx hb dL_law_2013 rfl (lv_at hl 1 rfl) ?_
  refine lv_aload_n hx hb dL_law_2014 rfl (lv_at hl 0 rfl) ?_
  refine lv_iload hx hb dL_law_2015 (lv_at hl 4 rfl) ?_
  refine lv_iconst (v := 1) hx hb dL_law_2017 (by decide) ?_
  refine lv_iadd hx hb dL_law_2018 ?_
  refine lv_topi (fun x1 ex1 => ?_)
  obtain rfl : x1 = 1 := ex1.trans (by decide)
  refine va_sld hx hb hX hbl hbA hS (by unfold vp_in; decide) dL_law_2019 ?_
  refine lv_topi (fun x2 ex2 => ?_)
  obtain rfl : x2 = xs 1 := ex2.trans rfl
  refine lv_aload_n hx hb dL_law_2020 rfl (lv_at hl 0 rfl) ?_
  refine lv_iload hx hb dL_law_2021 (lv_at hl 4 rfl) ?_
  refine lv_iconst (v := 2) hx hb dL_law_2023 (by decide) ?_
  refine lv_iadd hx hb dL_law_2024 ?_
  refine lv_topi (fun x3 ex3 => ?_)
  obtain rfl : x3 = 2 := ex3.trans (by decide)
  refine va_sld hx hb hX hbl hbA hS (by unfold vp_in; decide) dL_law_2025 ?_
  refine lv_topi (fun x4 ex4 => ?_)
  obtain rfl : x4 = xs 2 := ex4.trans rfl
  refine lv_aload_n hx hb dL_law_2026 rfl (lv_at hl 3 rfl) ?_
  refine x_cali [1] (⟨hP, hD, hG, hS, hA, rfl, rfl⟩ : kAt D cy sa A s H _ _ [((u 0), .inr (12, [.ref (u 1), .int 0, .int (-1), .ref (u 2), .ref (u 3), .ref (u 4), .ref (u 5), .ref (u 6), .ref (u 7), .ref (u 8), .int 0, .ref (u 9), .ref (u 10), .ref (u 11), .ref (u 12), .ref (u 13), .ref (u 14)])), (o, .inl (cy 6, 1, .inr (.inl (fun _ => 0))))] [0, 2]) (wr := [((v 0), .inr (13, [.int 0, .int 0, .int 0, .int (-1), .int 0, .int 0, .int 0, .int 0, .ref (v 1), .ref (v 2), .ref (v 3), .ref (v 4), .ref (v 5), .ref (v 6), .ref (v 7), .ref (v 8), .ref (v 9), .int 0, .int 0, .int 0, .int 0, .int 0, .int 0, .int 0, .int 0, .int 0, .ref (v 10), .ref (v 11), .ref (v 12), .ref (v 13), .int 0, .ref (v 14), .ref (v 15), .ref (v 16), .ref (v 17), .ref (v 18), .int 0, .int 0, .int 0, .ref (v 19), .ref (v 20), .ref (v 21), .ref (v 22), .ref (v 23), .int 0, .int 0, .int 0, .int 0]))]) rfl rfl (by decide) (x_runW (As := [.ref (u 0), .int (xs 1), .int (xs 2), .ref o]) (rest := []) E lk_SRL_219 (w_alike l hl0 D cy sa u o (xs 1) (xs 2) H.size) (⟨hP, hD, hG, hS, hA, rfl, rfl⟩ : kAt D cy sa A s H _ _ [((u 0), .inr (12, [.ref (u 1), .int 0, .int (-1), .ref (u 2), .ref (u 3), .ref (u 4), .ref (u 5), .ref (u 6), .ref (u 7), .ref (u 8), .int 0, .ref (u 9), .ref (u 10), .ref (u 11), .ref (u 12), .ref (u 13), .ref (u 14)])), (o, .inl (cy 6, 1, .inr (.inl (fun _ => 0))))] [0, 2]) hl.1 rfl rfl ⟨rfl, rfl, ⟨Nat.le_of_ble_eq_true rfl, Nat.le_of_ble_eq_true rfl⟩, ⟨Nat.le_of_ble_eq_true rfl, Nat.le_of_ble_eq_true rfl⟩, Nat.le_of_ble_eq_true rfl⟩ dL_law_2027) (fun ce q9 u6 H locs hwu6 hP hD hS h1 h2 h3 => ?_) (fun r5 u6 H locs hwu6 hP hD hS => ?_)
  · have hP : va_P D vwCl [((v 0), .inr (13, [.int 0, .int 0, .int 0, .int (-1), .int 0, .int 0, .int 0, .int 0, .ref (v 1), .ref (v 2), .ref (v 3), .ref (v 4), .ref (v 5), .ref (v 6), .ref (v 7), .ref (v 8), .ref (v 9), .int 0, .int 0, .int 0, .int 0, .int 0, .int 0, .int 0, .int 0, .int 0, .ref (v 10), .ref (v 11), .ref (v 12), .ref (v 13), .int 0, .ref (v 14), .ref (v 15), .ref (v 16), .ref (v 17), .ref (v 18), .int 0, .int 0, .int 0, .ref (v 19), .ref (v 20), .ref (v 21), .ref (v 22), .ref (v 23), .int 0, .int 0, .int 0, .int 0]))] H := hP
    have hD : va_D A [((v 0), .inr (13, [.int 0, .int 0, .int 0, .int (-1), .int 0, .int 0, .int 0, .int 0, .ref (v 1), .ref (v 2), .ref (v 3), .ref (v 4), .ref (v 5), .ref (v 6), .ref (v 7), .ref (v 8), .ref (v 9), .int 0, .int 0, .int 0, .int 0, .int 0, .int 0, .int 0, .int 0, .int 0, .ref (v 10), .ref (v 11), .ref (v 12), .ref (v 13), .int 0, .ref (v 14), .ref (v 15), .ref (v 16), .ref (v 17), .ref (v 18), .int 0, .int 0, .int 0, .ref (v 19), .ref (v 20), .ref (v 21), .ref (v 22), .ref (v 23), .int 0, .int 0, .int 0, .int 0]))] := hD
    exact (hwu6).elim
  · have hP : va_P D vwCl [((v 0), .inr (13, [.int 0, .int 0, .int 0, .int (-1), .int 0, .int 0, .int 0, .int 0, .ref (v 1), .ref (v 2), .ref (v 3), .ref (v 4), .ref (v 5), .ref (v 6), .ref (v 7), .ref (v 8), .ref (v 9), .int 0, .int 0, .int 0, .int 0, .int 0, .int 0, .int 0, .int 0, .int 0, .ref (v 10), .ref (v 11), .ref (v 12), .ref (v 13), .int 0, .ref (v 14), .ref (v 15), .ref (v 16), .ref (v 17), .ref (v 18), .int 0, .int 0, .int 0, .ref (v 19), .ref (v 20), .ref (v 21), .ref (v 22), .ref (v 23), .int 0, .int 0, .int 0, .int 0])), (o, .inl (cy 6, 1, .inr (.inl u6)))] H := hP
    have hD : va_D A [((v 0), .inr (13, [.int 0, .int 0, .int 0, .int (-1), .int 0, .int 0, .int 0, .int 0, .ref (v 1), .ref (v 2), .ref (v 3), .ref (v 4), .ref (v 5), .ref (v 6), .ref (v 7), .ref (v 8), .ref (v 9), .int 0, .int 0, .int 0, .int 0, .int 0, .int 0, .int 0, .int 0, .int 0, .ref (v 10), .ref (v 11), .ref (v 12), .ref (v 13), .int 0, .ref (v 14), .ref (v 15), .ref (v 16), .ref (v 17), .ref (v 18), .int 0, .int 0, .int 0, .ref (v 19), .ref (v 20), .ref (v 21), .ref (v 22), .ref (v 23), .int 0, .int 0, .int 0, .int 0])), (o, .inl (cy 6, 1, .inr (.inl u6)))] := hD
    refine lv_istore (lv' := [(5, .int r5), (0, .ref b), (1, .ref (u 0)), (2, .ref (v 0)), (3, .ref o), (4, .int 0)]) hx hb dL_law_2030 hl (by decide) rfl (fun ls hl => ?_)
    refine lv_aload_n hx hb dL_law_2032 rfl (lv_at hl 3 rfl) ?_
    refine lv_aload_n hx hb dL_law_2033 rfl (lv_at hl 1 rfl) ?_
    refine lv_iload hx hb dL_law_2034 (lv_at hl 5 rfl) ?_
    refine lv_iconst (v := 1) hx hb dL_law_2036 (by decide) ?_
    refine lv_iadd hx hb dL_law_2037 ?_
    refine lv_topi (fun x7 ex7 => ?_)
    obtain rfl : x7 = 1 := ex7.trans (by decide)
    refine va_sld hx hb hX hbl hbA hS (by unfold vp_in; decide) dL_law_2038 ?_
    refine lv_topi (fun x8 ex8 => ?_)
    obtain rfl : x8 = xs 1 := ex8.trans rfl
    refine lv_aload_n hx hb dL_law_2039 rfl (lv_at hl 1 rfl) ?_
    refine lv_iload hx hb dL_law_2040 (lv_at hl 5 rfl) ?_
    refine lv_iconst (v := 2) hx hb dL_law_2042 (by decide) ?_
    refine lv_iadd hx hb dL_law_2043 ?_
    refine lv_topi (fun x9 ex9 => ?_)
    obtain rfl : x9 = 2 := ex9.trans (by decide)
    refine va_sld hx hb hX hbl hbA hS (by unfold vp_in; decide) dL_law_2044 ?_
    refine lv_topi (fun x10 ex10 => ?_)
    obtain rfl : x10 = xs 2 := ex10.trans rfl
    refine k_cali [1] (⟨hP, hD, hG, hS, hA, rfl, rfl⟩ : kAt D cy sa A s H _ _ [((v 0), .inr (13, [.int 0, .int 0, .int 0, .int (-1), .int 0, .int 0, .int 0, .int 0, .ref (v 1), .ref (v 2), .ref (v 3), .ref (v 4), .ref (v 5), .ref (v 6), .ref (v 7), .ref (v 8), .ref (v 9), .int 0, .int 0, .int 0, .int 0, .int 0, .int 0, .int 0, .int 0, .int 0, .ref (v 10), .ref (v 11), .ref (v 12), .ref (v 13), .int 0, .ref (v 14), .ref (v 15), .ref (v 16), .ref (v 17), .ref (v 18), .int 0, .int 0, .int 0, .ref (v 19), .ref (v 20), .ref (v 21), .ref (v 22), .ref (v 23), .int 0, .int 0, .int 0, .int 0]))] [0]) (wr := [(o, .inl (cy 6, 1, .inr (.inl u6)))]) rfl rfl (by decide) (k_runV 13 0 (As := [.int (xs 1), .int (xs 2)]) (rest := []) E lk_VRL_221 rfl rfl rfl (m_alike_ l hl0 D cy sa v (xs 1) (xs 2) H.size) (⟨hP, hD, hG, hS, hA, rfl, rfl⟩ : kAt D cy sa A s H _ _ [((v 0), .inr (13, [.int 0, .int 0, .int 0, .int (-1), .int 0, .int 0, .int 0, .int 0, .ref (v 1), .ref (v 2), .ref (v 3), .ref (v 4), .ref (v 5), .ref (v 6), .ref (v 7), .ref (v 8), .ref (v 9), .int 0, .int 0, .int 0, .int 0, .int 0, .int 0, .int 0, .int 0, .int 0, .ref (v 10), .ref (v 11), .ref (v 12), .ref (v 13), .int 0, .ref (v 14), .ref (v 15), .ref (v 16), .ref (v 17), .ref (v 18), .int 0, .int 0, .int 0, .ref (v 19), .ref (v 20), .ref (v 21), .ref (v 22), .ref (v 23), .int 0, .int 0, .int 0, .int 0]))] [0]) hl.1 rfl rfl ⟨rfl, rfl, ⟨Nat.le_of_ble_eq_true rfl, Nat.le_of_ble_eq_true rfl⟩, ⟨Nat.le_of_ble_eq_true rfl, Nat.le_of_ble_eq_true rfl⟩, Nat.le_of_ble_eq_true rfl⟩ dL_law_2045) (fun r11 u12 H locs hwu12 hP hD hS => ?_)
    have hP : va_P D vwCl [(o, .inl (cy 6, 1, .inr (.inl u6))), ((v 0), .inr (13, .int u12.1 :: u12.2))] H := hP
    have hD : va_D A [(o, .inl (cy 6, 1, .inr (.inl u6))), ((v 0), .inr (13, .int u12.1 :: u12.2))] := hD
    refine lv_istore (lv' := [(6, .int r11), (5, .int r5), (0, .ref b), (1, .ref (u 0)), (2, .ref (v 0)), (3, .ref o), (4, .int 0)]) hx hb dL_law_2048 hl (by decide) rfl (fun ls hl => ?_)
    refine lv_aload_n hx hb dL_law_2050 rfl (lv_at hl 4 rfl) ?_
    refine k_cali [0] (⟨hP, hD, hG, hS, hA, rfl, rfl⟩ : kAt D cy sa A s H _ _ [((v 0), .inr (13, .int u12.1 :: u12.2))] [1]) (wr := [(o, .inl (cy 6, 1, .inr (.inl u6)))]) rfl rfl (by decide) (k_runV 13 1 (As := []) (rest := []) E lk_VRL_127 rfl rfl rfl (m_thrown l hl0 D cy sa v u12.1 u12.2 H.size) (⟨hP, hD, hG, hS, hA, rfl, rfl⟩ : kAt D cy sa A s H _ _ [((v 0), .inr (13, .int u12.1 :: u12.2))] [1]) hl.1 rfl rfl ⟨rfl, rfl, ⟨Nat.le_of_ble_eq_true rfl, Nat.le_of_ble_eq_true rfl⟩, ⟨Nat.le_of_ble_eq_true rfl, Nat.le_of_ble_eq_true rfl⟩, Nat.le_of_ble_eq_true rfl⟩ dL_law_2051) (fun r13 u14 H locs hwu14 hP hD hS => ?_)
    have hP : va_P D vwCl [(o, .inl (cy 6, 1, .inr (.inl u6)))] H := hP
    have hD : va_D A [(o, .inl (cy 6, 1, .inr (.inl u6)))] := hD
    rcases hwu6 with ⟨rfl, x9, hx9, hf9⟩ | ⟨rfl, hpx⟩
    · obtain ⟨ht9, hr9⟩ := hwu12.1 (⟨hx9.1, hx9.2.1⟩)
      obtain rfl : r13 = 0 := hwu14.trans ht9
      have heq : x9 = r11 := by rw [hx9.2.2, hr9]; exact k_mx _
      refine lv_iload hx hb dL_law_2054 (lv_at hl 1 rfl) ?_
      refine lv_icmp_eq (tgt := 2061) hx hb dL_law_2056 (by decide) (fun _ => ?_) (fun h => absurd (by decide) h)
      refine lv_iload hx hb dL_law_2061 (lv_at hl 1 rfl) ?_
      refine lv_if_ne (tgt := 2078) hx hb dL_law_2063 (by decide) (fun h => absurd (by decide) h) (fun _ => ?_)
      refine lv_aload_n hx hb dL_law_2066 rfl (lv_at hl 5 rfl) ?_
      refine lv_iconst (v := 0) hx hb dL_law_2067 (by decide) ?_
      refine va_lald hx hb hG.1 hP 0 6 rfl rfl (by unfold vp_in; decide) dL_law_2068 ?_
      refine W.eq (g2 := F0 m 2069 ls [.long (u6 0)]) rfl ?_
      refine lv_iload hx hb dL_law_2069 (lv_at hl 0 rfl) ?_
      refine lv_i2l (v := (r11 : Int32).toInt64) hx hb dL_law_2071 rfl ?_
      refine W.lcmp hx hb dL_law_2072 ?_
      refine lv_topi (fun x15 ex15 => ?_)
      obtain rfl : x15 = 0 := ex15.trans (by rw [hf9, heq]; exact k_cmp _)
      refine lv_if_eq (tgt := 2078) hx hb dL_law_2073 (by decide) (fun _ => ?_) (fun h => absurd (by decide) h)
      refine lv_goto (tgt := 2418) hx hb dL_law_2078 (by decide) ?_
      refine lv_iinc (v := 6) (lv' := [(4, .int 6), (6, .int r11), (5, .int 0), (0, .ref b), (1, .ref (u 0)), (2, .ref (v 0)), (3, .ref o)]) hx hb dL_law_2418 hl (k := 6) rfl (by decide) (by decide) rfl (fun ls hl => ?_)
      refine lv_goto (tgt := 23) hx hb dL_law_2421 (by decide) ?_
      exact law_exit E hX hbl hbA hAs hS (i := 6) (by decide) (lv_at hl 3 rfl) (lv_at hl 0 rfl) (by decide) (by decide)
    · obtain rfl : r13 = 1 := hwu14.trans (hwu12.2 (fun h => absurd h hpx))
      refine lv_iload hx hb dL_law_2054 (lv_at hl 1 rfl) ?_
      refine lv_icmp_eq (tgt := 2061) hx hb dL_law_2056 (by decide) (fun _ => ?_) (fun h => absurd (by decide) h)
      refine lv_iload hx hb dL_law_2061 (lv_at hl 1 rfl) ?_
      refine lv_if_ne (tgt := 2078) hx hb dL_law_2063 (by decide) (fun _ => ?_) (fun h => absurd h (by decide))
      refine lv_goto (tgt := 2418) hx hb dL_law_2078 (by decide) ?_
      refine lv_iinc (v := 6) (lv' := [(4, .int 6), (6, .int r11), (5, .int 1), (0, .ref b), (1, .ref (u 0)), (2, .ref (v 0)), (3, .ref o)]) hx hb dL_law_2418 hl (k := 6) rfl (by decide) (by decide) rfl (fun ls hl => ?_)
      refine lv_goto (tgt := 23) hx hb dL_law_2421 (by decide) ?_
      exact law_exit E hX hbl hbA hAs hS (i := 6) (by decide) (lv_at hl 3 rfl) (lv_at hl 0 rfl) (by decide) (by decide)
