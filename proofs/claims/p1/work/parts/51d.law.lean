theorem wm_1418 : Cond.codeWith yL_spot cL_spot 5 (some .int) [(0, 10, 13, 13)] ∈ kWS := kws_at 1418 (by decide +kernel) (by decide +kernel)
theorem wm_1416 : Cond.methodLink RL 222 yL_spot ∈ kWS := kws_at 1416 (by decide +kernel) (by decide +kernel)
theorem wm_1417 : Cond.static yL_spot ∈ kWS := kws_at 1417 (by decide +kernel) (by decide +kernel)
theorem lk_SRL_222 : kLS RL 222 yL_spot (Cond.codeWith yL_spot cL_spot 5 (some .int) [(0, 10, 13, 13)]) 4 := ⟨wm_1416, wm_1417, wm_0, wm_1418, ⟨by decide +kernel, by decide +kernel, by decide +kernel⟩⟩
theorem wm_2002 : Cond.code yX12_spot cX12_spot 3 (some .int) ∈ kWS := kws_at 2002 (by decide +kernel) (by decide +kernel)
theorem wm_1999 : Cond.methodLink RL 224 yX12_spot ∈ kWS := kws_at 1999 (by decide +kernel) (by decide +kernel)
theorem wm_2001 : Cond.selects RX12 yX12_spot yX12_spot ∈ kWS := kws_at 2001 (by decide +kernel) (by decide +kernel)
theorem wm_2000 : Cond.instanceMethod yX12_spot ∈ kWS := kws_at 2000 (by decide +kernel) (by decide +kernel)
theorem lk_VRL_224 : kLV RL 224 yX12_spot (Cond.code yX12_spot cX12_spot 3 (some .int)) 2 := ⟨wm_1999, wm_2000, wm_2001, wm_12, wm_2002, ⟨by decide +kernel, by decide +kernel, by decide +kernel⟩⟩
theorem wm_1429 : Cond.codeWith yL_placed cL_placed 4 (some .int) [(0, 9, 12, 13)] ∈ kWS := kws_at 1429 (by decide +kernel) (by decide +kernel)
theorem wm_1427 : Cond.methodLink RL 225 yL_placed ∈ kWS := kws_at 1427 (by decide +kernel) (by decide +kernel)
theorem wm_1428 : Cond.static yL_placed ∈ kWS := kws_at 1428 (by decide +kernel) (by decide +kernel)
theorem lk_SRL_225 : kLS RL 225 yL_placed (Cond.codeWith yL_placed cL_placed 4 (some .int) [(0, 9, 12, 13)]) 3 := ⟨wm_1427, wm_1428, wm_0, wm_1429, ⟨by decide +kernel, by decide +kernel, by decide +kernel⟩⟩
theorem wm_2006 : Cond.code yX12_placed cX12_placed 7 (some .int) ∈ kWS := kws_at 2006 (by decide +kernel) (by decide +kernel)
theorem wm_2003 : Cond.methodLink RL 227 yX12_placed ∈ kWS := kws_at 2003 (by decide +kernel) (by decide +kernel)
theorem wm_2005 : Cond.selects RX12 yX12_placed yX12_placed ∈ kWS := kws_at 2005 (by decide +kernel) (by decide +kernel)
theorem wm_2004 : Cond.instanceMethod yX12_placed ∈ kWS := kws_at 2004 (by decide +kernel) (by decide +kernel)
theorem lk_VRL_227 : kLV RL 227 yX12_placed (Cond.code yX12_placed cX12_placed 7 (some .int)) 1 := ⟨wm_2003, wm_2004, wm_2005, wm_12, wm_2006, ⟨by decide +kernel, by decide +kernel, by decide +kernel⟩⟩
theorem wm_1457 : Cond.codeWith yL_back cL_back 6 (some .int) [(0, 12, 15, 13)] ∈ kWS := kws_at 1457 (by decide +kernel) (by decide +kernel)
theorem wm_1455 : Cond.methodLink RL 228 yL_back ∈ kWS := kws_at 1455 (by decide +kernel) (by decide +kernel)
theorem wm_1456 : Cond.static yL_back ∈ kWS := kws_at 1456 (by decide +kernel) (by decide +kernel)
theorem lk_SRL_228 : kLS RL 228 yL_back (Cond.codeWith yL_back cL_back 6 (some .int) [(0, 12, 15, 13)]) 5 := ⟨wm_1455, wm_1456, wm_0, wm_1457, ⟨by decide +kernel, by decide +kernel, by decide +kernel⟩⟩
theorem wm_2018 : Cond.code yX12_back cX12_back 5 (some .int) ∈ kWS := kws_at 2018 (by decide +kernel) (by decide +kernel)
theorem wm_2015 : Cond.methodLink RL 230 yX12_back ∈ kWS := kws_at 2015 (by decide +kernel) (by decide +kernel)
theorem wm_2017 : Cond.selects RX12 yX12_back yX12_back ∈ kWS := kws_at 2017 (by decide +kernel) (by decide +kernel)
theorem wm_2016 : Cond.instanceMethod yX12_back ∈ kWS := kws_at 2016 (by decide +kernel) (by decide +kernel)
theorem lk_VRL_230 : kLV RL 230 yX12_back (Cond.code yX12_back cX12_back 5 (some .int)) 3 := ⟨wm_2015, wm_2016, wm_2017, wm_12, wm_2018, ⟨by decide +kernel, by decide +kernel, by decide +kernel⟩⟩
theorem wm_491 : Cond.code yX11_safe cX11_safe 4 (some .int) ∈ kWS := kws_at 491 (by decide +kernel) (by decide +kernel)
theorem wm_488 : Cond.methodLink RL 231 yX11_safe ∈ kWS := kws_at 488 (by decide +kernel) (by decide +kernel)
theorem wm_490 : Cond.selects RX11 yX11_safe yX11_safe ∈ kWS := kws_at 490 (by decide +kernel) (by decide +kernel)
theorem wm_489 : Cond.instanceMethod yX11_safe ∈ kWS := kws_at 489 (by decide +kernel) (by decide +kernel)
theorem lk_VRL_231 : kLV RL 231 yX11_safe (Cond.code yX11_safe cX11_safe 4 (some .int)) 0 := ⟨wm_488, wm_489, wm_490, wm_1, wm_491, ⟨by decide +kernel, by decide +kernel, by decide +kernel⟩⟩
theorem wm_2037 : Cond.code yX12_safe cX12_safe 5 (some .int) ∈ kWS := kws_at 2037 (by decide +kernel) (by decide +kernel)
theorem wm_2034 : Cond.methodLink RL 234 yX12_safe ∈ kWS := kws_at 2034 (by decide +kernel) (by decide +kernel)
theorem wm_2036 : Cond.selects RX12 yX12_safe yX12_safe ∈ kWS := kws_at 2036 (by decide +kernel) (by decide +kernel)
theorem wm_2035 : Cond.instanceMethod yX12_safe ∈ kWS := kws_at 2035 (by decide +kernel) (by decide +kernel)
theorem lk_VRL_234 : kLV RL 234 yX12_safe (Cond.code yX12_safe cX12_safe 5 (some .int)) 0 := ⟨wm_2034, wm_2035, wm_2036, wm_12, wm_2037, ⟨by decide +kernel, by decide +kernel, by decide +kernel⟩⟩
theorem wm_1497 : Cond.codeWith yL_gone cL_gone 4 (some .int) [(0, 9, 12, 13)] ∈ kWS := kws_at 1497 (by decide +kernel) (by decide +kernel)
theorem wm_1495 : Cond.methodLink RL 235 yL_gone ∈ kWS := kws_at 1495 (by decide +kernel) (by decide +kernel)
theorem wm_1496 : Cond.static yL_gone ∈ kWS := kws_at 1496 (by decide +kernel) (by decide +kernel)
theorem lk_SRL_235 : kLS RL 235 yL_gone (Cond.codeWith yL_gone cL_gone 4 (some .int) [(0, 9, 12, 13)]) 3 := ⟨wm_1495, wm_1496, wm_0, wm_1497, ⟨by decide +kernel, by decide +kernel, by decide +kernel⟩⟩
theorem wm_2041 : Cond.code yX12_gone cX12_gone 4 (some .int) ∈ kWS := kws_at 2041 (by decide +kernel) (by decide +kernel)
theorem wm_2038 : Cond.methodLink RL 237 yX12_gone ∈ kWS := kws_at 2038 (by decide +kernel) (by decide +kernel)
theorem wm_2040 : Cond.selects RX12 yX12_gone yX12_gone ∈ kWS := kws_at 2040 (by decide +kernel) (by decide +kernel)
theorem wm_2039 : Cond.instanceMethod yX12_gone ∈ kWS := kws_at 2039 (by decide +kernel) (by decide +kernel)
theorem lk_VRL_237 : kLV RL 237 yX12_gone (Cond.code yX12_gone cX12_gone 4 (some .int)) 1 := ⟨wm_2038, wm_2039, wm_2040, wm_12, wm_2041, ⟨by decide +kernel, by decide +kernel, by decide +kernel⟩⟩
theorem wm_884 : Cond.code yX11_over cX11_over 6 (some .int) ∈ kWS := kws_at 884 (by decide +kernel) (by decide +kernel)
theorem wm_881 : Cond.methodLink RL 238 yX11_over ∈ kWS := kws_at 881 (by decide +kernel) (by decide +kernel)
theorem wm_883 : Cond.selects RX11 yX11_over yX11_over ∈ kWS := kws_at 883 (by decide +kernel) (by decide +kernel)
theorem wm_882 : Cond.instanceMethod yX11_over ∈ kWS := kws_at 882 (by decide +kernel) (by decide +kernel)
theorem lk_VRL_238 : kLV RL 238 yX11_over (Cond.code yX11_over cX11_over 6 (some .int)) 0 := ⟨wm_881, wm_882, wm_883, wm_1, wm_884, ⟨by decide +kernel, by decide +kernel, by decide +kernel⟩⟩
theorem wm_2045 : Cond.code yX12_over cX12_over 6 (some .int) ∈ kWS := kws_at 2045 (by decide +kernel) (by decide +kernel)
theorem wm_2042 : Cond.methodLink RL 241 yX12_over ∈ kWS := kws_at 2042 (by decide +kernel) (by decide +kernel)
theorem wm_2044 : Cond.selects RX12 yX12_over yX12_over ∈ kWS := kws_at 2044 (by decide +kernel) (by decide +kernel)
theorem wm_2043 : Cond.instanceMethod yX12_over ∈ kWS := kws_at 2043 (by decide +kernel) (by decide +kernel)
theorem lk_VRL_241 : kLV RL 241 yX12_over (Cond.code yX12_over cX12_over 6 (some .int)) 0 := ⟨wm_2042, wm_2043, wm_2044, wm_12, wm_2045, ⟨by decide +kernel, by decide +kernel, by decide +kernel⟩⟩
theorem wm_894 : Cond.code yX11_image cX11_image 1 (some .int) ∈ kWS := kws_at 894 (by decide +kernel) (by decide +kernel)
theorem wm_891 : Cond.methodLink RL 242 yX11_image ∈ kWS := kws_at 891 (by decide +kernel) (by decide +kernel)
theorem wm_893 : Cond.selects RX11 yX11_image yX11_image ∈ kWS := kws_at 893 (by decide +kernel) (by decide +kernel)
theorem wm_892 : Cond.instanceMethod yX11_image ∈ kWS := kws_at 892 (by decide +kernel) (by decide +kernel)
theorem lk_VRL_242 : kLV RL 242 yX11_image (Cond.code yX11_image cX11_image 1 (some .int)) 0 := ⟨wm_891, wm_892, wm_893, wm_1, wm_894, ⟨by decide +kernel, by decide +kernel, by decide +kernel⟩⟩
theorem wm_2049 : Cond.code yX12_image cX12_image 1 (some .int) ∈ kWS := kws_at 2049 (by decide +kernel) (by decide +kernel)
theorem wm_2046 : Cond.methodLink RL 245 yX12_image ∈ kWS := kws_at 2046 (by decide +kernel) (by decide +kernel)
theorem wm_2048 : Cond.selects RX12 yX12_image yX12_image ∈ kWS := kws_at 2048 (by decide +kernel) (by decide +kernel)
theorem wm_2047 : Cond.instanceMethod yX12_image ∈ kWS := kws_at 2047 (by decide +kernel) (by decide +kernel)
theorem lk_VRL_245 : kLV RL 245 yX12_image (Cond.code yX12_image cX12_image 1 (some .int)) 0 := ⟨wm_2046, wm_2047, wm_2048, wm_12, wm_2049, ⟨by decide +kernel, by decide +kernel, by decide +kernel⟩⟩
theorem wm_908 : Cond.code yX11_restore cX11_restore 1 (some .int) ∈ kWS := kws_at 908 (by decide +kernel) (by decide +kernel)
theorem wm_905 : Cond.methodLink RL 246 yX11_restore ∈ kWS := kws_at 905 (by decide +kernel) (by decide +kernel)
theorem wm_907 : Cond.selects RX11 yX11_restore yX11_restore ∈ kWS := kws_at 907 (by decide +kernel) (by decide +kernel)
theorem wm_906 : Cond.instanceMethod yX11_restore ∈ kWS := kws_at 906 (by decide +kernel) (by decide +kernel)
theorem lk_VRL_246 : kLV RL 246 yX11_restore (Cond.code yX11_restore cX11_restore 1 (some .int)) 0 := ⟨wm_905, wm_906, wm_907, wm_1, wm_908, ⟨by decide +kernel, by decide +kernel, by decide +kernel⟩⟩
theorem wm_2057 : Cond.code yX12_restore cX12_restore 1 (some .int) ∈ kWS := kws_at 2057 (by decide +kernel) (by decide +kernel)
theorem wm_2054 : Cond.methodLink RL 249 yX12_restore ∈ kWS := kws_at 2054 (by decide +kernel) (by decide +kernel)
theorem wm_2056 : Cond.selects RX12 yX12_restore yX12_restore ∈ kWS := kws_at 2056 (by decide +kernel) (by decide +kernel)
theorem wm_2055 : Cond.instanceMethod yX12_restore ∈ kWS := kws_at 2055 (by decide +kernel) (by decide +kernel)
theorem lk_VRL_249 : kLV RL 249 yX12_restore (Cond.code yX12_restore cX12_restore 1 (some .int)) 0 := ⟨wm_2054, wm_2055, wm_2056, wm_12, wm_2057, ⟨by decide +kernel, by decide +kernel, by decide +kernel⟩⟩
theorem wm_912 : Cond.code yX11_count cX11_count 2 (some .int) ∈ kWS := kws_at 912 (by decide +kernel) (by decide +kernel)
theorem wm_909 : Cond.methodLink RL 250 yX11_count ∈ kWS := kws_at 909 (by decide +kernel) (by decide +kernel)
theorem wm_911 : Cond.selects RX11 yX11_count yX11_count ∈ kWS := kws_at 911 (by decide +kernel) (by decide +kernel)
theorem wm_910 : Cond.instanceMethod yX11_count ∈ kWS := kws_at 910 (by decide +kernel) (by decide +kernel)
theorem lk_VRL_250 : kLV RL 250 yX11_count (Cond.code yX11_count cX11_count 2 (some .int)) 1 := ⟨wm_909, wm_910, wm_911, wm_1, wm_912, ⟨by decide +kernel, by decide +kernel, by decide +kernel⟩⟩
theorem wm_2061 : Cond.code yX12_count cX12_count 4 (some .int) ∈ kWS := kws_at 2061 (by decide +kernel) (by decide +kernel)
theorem wm_2058 : Cond.methodLink RL 253 yX12_count ∈ kWS := kws_at 2058 (by decide +kernel) (by decide +kernel)
theorem wm_2060 : Cond.selects RX12 yX12_count yX12_count ∈ kWS := kws_at 2060 (by decide +kernel) (by decide +kernel)
theorem wm_2059 : Cond.instanceMethod yX12_count ∈ kWS := kws_at 2059 (by decide +kernel) (by decide +kernel)
theorem lk_VRL_253 : kLV RL 253 yX12_count (Cond.code yX12_count cX12_count 4 (some .int)) 1 := ⟨wm_2058, wm_2059, wm_2060, wm_12, wm_2061, ⟨by decide +kernel, by decide +kernel, by decide +kernel⟩⟩
theorem dL_law_2081 : decode cL_law 2081 = .ok (.aload_n 1, 1) := by decide +kernel
theorem dL_law_2082 : decode cL_law 2082 = .ok (.aload_n 0, 1) := by decide +kernel
theorem dL_law_2083 : decode cL_law 2083 = .ok (.iload 4, 2) := by decide +kernel
theorem dL_law_2085 : decode cL_law 2085 = .ok (.iconst 1, 1) := by decide +kernel
theorem dL_law_2086 : decode cL_law 2086 = .ok (.iadd, 1) := by decide +kernel
theorem dL_law_2087 : decode cL_law 2087 = .ok (.iaload, 1) := by decide +kernel
theorem dL_law_2088 : decode cL_law 2088 = .ok (.aload_n 0, 1) := by decide +kernel
theorem dL_law_2089 : decode cL_law 2089 = .ok (.iload 4, 2) := by decide +kernel
theorem dL_law_2091 : decode cL_law 2091 = .ok (.iconst 2, 1) := by decide +kernel
theorem dL_law_2092 : decode cL_law 2092 = .ok (.iadd, 1) := by decide +kernel
theorem dL_law_2093 : decode cL_law 2093 = .ok (.iaload, 1) := by decide +kernel
theorem dL_law_2094 : decode cL_law 2094 = .ok (.aload_n 3, 1) := by decide +kernel
theorem dL_law_2095 : decode cL_law 2095 = .ok (.invokestatic 222, 3) := by decide +kernel
theorem dL_law_2098 : decode cL_law 2098 = .ok (.istore 5, 2) := by decide +kernel
theorem dL_law_2100 : decode cL_law 2100 = .ok (.aload_n 2, 1) := by decide +kernel
theorem dL_law_2101 : decode cL_law 2101 = .ok (.aload_n 0, 1) := by decide +kernel
theorem dL_law_2102 : decode cL_law 2102 = .ok (.iload 4, 2) := by decide +kernel
theorem dL_law_2104 : decode cL_law 2104 = .ok (.iconst 1, 1) := by decide +kernel
theorem dL_law_2105 : decode cL_law 2105 = .ok (.iadd, 1) := by decide +kernel
theorem dL_law_2106 : decode cL_law 2106 = .ok (.iaload, 1) := by decide +kernel
theorem dL_law_2107 : decode cL_law 2107 = .ok (.aload_n 0, 1) := by decide +kernel
theorem dL_law_2108 : decode cL_law 2108 = .ok (.iload 4, 2) := by decide +kernel
theorem dL_law_2110 : decode cL_law 2110 = .ok (.iconst 2, 1) := by decide +kernel
theorem dL_law_2111 : decode cL_law 2111 = .ok (.iadd, 1) := by decide +kernel
theorem dL_law_2112 : decode cL_law 2112 = .ok (.iaload, 1) := by decide +kernel
theorem dL_law_2113 : decode cL_law 2113 = .ok (.invokevirtual 224, 3) := by decide +kernel
theorem dL_law_2116 : decode cL_law 2116 = .ok (.istore 6, 2) := by decide +kernel
theorem dL_law_2118 : decode cL_law 2118 = .ok (.aload_n 2, 1) := by decide +kernel
theorem dL_law_2119 : decode cL_law 2119 = .ok (.invokevirtual 127, 3) := by decide +kernel
theorem dL_law_2122 : decode cL_law 2122 = .ok (.iload 5, 2) := by decide +kernel
theorem dL_law_2124 : decode cL_law 2124 = .ok (.if_icmp .eq 5, 3) := by decide +kernel
theorem dL_law_2129 : decode cL_law 2129 = .ok (.iload 5, 2) := by decide +kernel
theorem dL_law_2131 : decode cL_law 2131 = .ok (.ifCond .ne 15, 3) := by decide +kernel
theorem dL_law_2134 : decode cL_law 2134 = .ok (.aload_n 3, 1) := by decide +kernel
theorem dL_law_2135 : decode cL_law 2135 = .ok (.iconst 0, 1) := by decide +kernel
theorem dL_law_2136 : decode cL_law 2136 = .ok (.laload, 1) := by decide +kernel
theorem dL_law_2137 : decode cL_law 2137 = .ok (.iload 6, 2) := by decide +kernel
theorem dL_law_2139 : decode cL_law 2139 = .ok (.i2l, 1) := by decide +kernel
theorem dL_law_2140 : decode cL_law 2140 = .ok (.lcmp, 1) := by decide +kernel
theorem dL_law_2141 : decode cL_law 2141 = .ok (.ifCond .eq 5, 3) := by decide +kernel
theorem dL_law_2146 : decode cL_law 2146 = .ok (.goto 272, 3) := by decide +kernel
theorem dL_law_2149 : decode cL_law 2149 = .ok (.aload_n 1, 1) := by decide +kernel
theorem dL_law_2150 : decode cL_law 2150 = .ok (.aload_n 0, 1) := by decide +kernel
theorem dL_law_2151 : decode cL_law 2151 = .ok (.iload 4, 2) := by decide +kernel
theorem dL_law_2153 : decode cL_law 2153 = .ok (.iconst 1, 1) := by decide +kernel
theorem dL_law_2154 : decode cL_law 2154 = .ok (.iadd, 1) := by decide +kernel
theorem dL_law_2155 : decode cL_law 2155 = .ok (.iaload, 1) := by decide +kernel
theorem dL_law_2156 : decode cL_law 2156 = .ok (.aload_n 3, 1) := by decide +kernel
theorem dL_law_2157 : decode cL_law 2157 = .ok (.invokestatic 225, 3) := by decide +kernel
theorem dL_law_2160 : decode cL_law 2160 = .ok (.istore 5, 2) := by decide +kernel
theorem dL_law_2162 : decode cL_law 2162 = .ok (.aload_n 2, 1) := by decide +kernel
theorem dL_law_2163 : decode cL_law 2163 = .ok (.aload_n 0, 1) := by decide +kernel
theorem dL_law_2164 : decode cL_law 2164 = .ok (.iload 4, 2) := by decide +kernel
theorem dL_law_2166 : decode cL_law 2166 = .ok (.iconst 1, 1) := by decide +kernel
theorem dL_law_2167 : decode cL_law 2167 = .ok (.iadd, 1) := by decide +kernel
theorem dL_law_2168 : decode cL_law 2168 = .ok (.iaload, 1) := by decide +kernel
theorem dL_law_2169 : decode cL_law 2169 = .ok (.invokevirtual 227, 3) := by decide +kernel
theorem dL_law_2172 : decode cL_law 2172 = .ok (.istore 6, 2) := by decide +kernel
theorem dL_law_2174 : decode cL_law 2174 = .ok (.aload_n 2, 1) := by decide +kernel
theorem dL_law_2175 : decode cL_law 2175 = .ok (.invokevirtual 127, 3) := by decide +kernel
theorem dL_law_2178 : decode cL_law 2178 = .ok (.iload 5, 2) := by decide +kernel
theorem dL_law_2180 : decode cL_law 2180 = .ok (.if_icmp .eq 5, 3) := by decide +kernel
theorem dL_law_2185 : decode cL_law 2185 = .ok (.iload 5, 2) := by decide +kernel
theorem dL_law_2187 : decode cL_law 2187 = .ok (.ifCond .ne 15, 3) := by decide +kernel
theorem dL_law_2190 : decode cL_law 2190 = .ok (.aload_n 3, 1) := by decide +kernel
theorem dL_law_2191 : decode cL_law 2191 = .ok (.iconst 0, 1) := by decide +kernel
theorem dL_law_2192 : decode cL_law 2192 = .ok (.laload, 1) := by decide +kernel
theorem dL_law_2193 : decode cL_law 2193 = .ok (.iload 6, 2) := by decide +kernel
theorem dL_law_2195 : decode cL_law 2195 = .ok (.i2l, 1) := by decide +kernel
theorem dL_law_2196 : decode cL_law 2196 = .ok (.lcmp, 1) := by decide +kernel
theorem dL_law_2197 : decode cL_law 2197 = .ok (.ifCond .eq 5, 3) := by decide +kernel
theorem dL_law_2202 : decode cL_law 2202 = .ok (.goto 216, 3) := by decide +kernel
theorem dL_law_2205 : decode cL_law 2205 = .ok (.aload_n 1, 1) := by decide +kernel
theorem dL_law_2206 : decode cL_law 2206 = .ok (.aload_n 0, 1) := by decide +kernel
theorem dL_law_2207 : decode cL_law 2207 = .ok (.iload 4, 2) := by decide +kernel
theorem dL_law_2209 : decode cL_law 2209 = .ok (.iconst 1, 1) := by decide +kernel
theorem dL_law_2210 : decode cL_law 2210 = .ok (.iadd, 1) := by decide +kernel
theorem dL_law_2211 : decode cL_law 2211 = .ok (.iaload, 1) := by decide +kernel
theorem dL_law_2212 : decode cL_law 2212 = .ok (.aload_n 0, 1) := by decide +kernel
theorem dL_law_2213 : decode cL_law 2213 = .ok (.iload 4, 2) := by decide +kernel
theorem dL_law_2215 : decode cL_law 2215 = .ok (.iconst 2, 1) := by decide +kernel
theorem dL_law_2216 : decode cL_law 2216 = .ok (.iadd, 1) := by decide +kernel
theorem dL_law_2217 : decode cL_law 2217 = .ok (.iaload, 1) := by decide +kernel
theorem dL_law_2218 : decode cL_law 2218 = .ok (.aload_n 0, 1) := by decide +kernel
theorem dL_law_2219 : decode cL_law 2219 = .ok (.iload 4, 2) := by decide +kernel
theorem dL_law_2221 : decode cL_law 2221 = .ok (.iconst 3, 1) := by decide +kernel
theorem dL_law_2222 : decode cL_law 2222 = .ok (.iadd, 1) := by decide +kernel
theorem dL_law_2223 : decode cL_law 2223 = .ok (.iaload, 1) := by decide +kernel
theorem dL_law_2224 : decode cL_law 2224 = .ok (.aload_n 3, 1) := by decide +kernel
theorem dL_law_2225 : decode cL_law 2225 = .ok (.invokestatic 228, 3) := by decide +kernel
theorem dL_law_2228 : decode cL_law 2228 = .ok (.istore 5, 2) := by decide +kernel
theorem dL_law_2230 : decode cL_law 2230 = .ok (.aload_n 2, 1) := by decide +kernel
theorem dL_law_2231 : decode cL_law 2231 = .ok (.aload_n 0, 1) := by decide +kernel
theorem dL_law_2232 : decode cL_law 2232 = .ok (.iload 4, 2) := by decide +kernel
theorem dL_law_2234 : decode cL_law 2234 = .ok (.iconst 1, 1) := by decide +kernel
theorem dL_law_2235 : decode cL_law 2235 = .ok (.iadd, 1) := by decide +kernel
theorem dL_law_2236 : decode cL_law 2236 = .ok (.iaload, 1) := by decide +kernel
theorem dL_law_2237 : decode cL_law 2237 = .ok (.aload_n 0, 1) := by decide +kernel
theorem dL_law_2238 : decode cL_law 2238 = .ok (.iload 4, 2) := by decide +kernel
theorem dL_law_2240 : decode cL_law 2240 = .ok (.iconst 2, 1) := by decide +kernel
theorem dL_law_2241 : decode cL_law 2241 = .ok (.iadd, 1) := by decide +kernel
theorem dL_law_2242 : decode cL_law 2242 = .ok (.iaload, 1) := by decide +kernel
theorem dL_law_2243 : decode cL_law 2243 = .ok (.aload_n 0, 1) := by decide +kernel
theorem dL_law_2244 : decode cL_law 2244 = .ok (.iload 4, 2) := by decide +kernel
theorem dL_law_2246 : decode cL_law 2246 = .ok (.iconst 3, 1) := by decide +kernel
theorem dL_law_2247 : decode cL_law 2247 = .ok (.iadd, 1) := by decide +kernel
theorem dL_law_2248 : decode cL_law 2248 = .ok (.iaload, 1) := by decide +kernel
theorem dL_law_2249 : decode cL_law 2249 = .ok (.invokevirtual 230, 3) := by decide +kernel
theorem dL_law_2252 : decode cL_law 2252 = .ok (.istore 6, 2) := by decide +kernel
theorem dL_law_2254 : decode cL_law 2254 = .ok (.aload_n 2, 1) := by decide +kernel
theorem dL_law_2255 : decode cL_law 2255 = .ok (.invokevirtual 127, 3) := by decide +kernel
theorem dL_law_2258 : decode cL_law 2258 = .ok (.iload 5, 2) := by decide +kernel
theorem dL_law_2260 : decode cL_law 2260 = .ok (.if_icmp .eq 5, 3) := by decide +kernel
theorem dL_law_2265 : decode cL_law 2265 = .ok (.iload 5, 2) := by decide +kernel
theorem dL_law_2267 : decode cL_law 2267 = .ok (.ifCond .ne 15, 3) := by decide +kernel
theorem dL_law_2282 : decode cL_law 2282 = .ok (.goto 136, 3) := by decide +kernel
theorem dL_law_2285 : decode cL_law 2285 = .ok (.aload_n 1, 1) := by decide +kernel
theorem dL_law_2286 : decode cL_law 2286 = .ok (.invokevirtual 231, 3) := by decide +kernel
theorem dL_law_2289 : decode cL_law 2289 = .ok (.aload_n 2, 1) := by decide +kernel
theorem dL_law_2290 : decode cL_law 2290 = .ok (.invokevirtual 234, 3) := by decide +kernel
theorem dL_law_2293 : decode cL_law 2293 = .ok (.if_icmp .eq 125, 3) := by decide +kernel
theorem dL_law_2298 : decode cL_law 2298 = .ok (.aload_n 1, 1) := by decide +kernel
theorem dL_law_2299 : decode cL_law 2299 = .ok (.aload_n 0, 1) := by decide +kernel
theorem dL_law_2300 : decode cL_law 2300 = .ok (.iload 4, 2) := by decide +kernel
theorem dL_law_2302 : decode cL_law 2302 = .ok (.iconst 1, 1) := by decide +kernel
theorem dL_law_2303 : decode cL_law 2303 = .ok (.iadd, 1) := by decide +kernel
theorem dL_law_2304 : decode cL_law 2304 = .ok (.iaload, 1) := by decide +kernel
theorem dL_law_2305 : decode cL_law 2305 = .ok (.aload_n 3, 1) := by decide +kernel
theorem dL_law_2306 : decode cL_law 2306 = .ok (.invokestatic 235, 3) := by decide +kernel
theorem dL_law_2309 : decode cL_law 2309 = .ok (.istore 5, 2) := by decide +kernel
theorem dL_law_2311 : decode cL_law 2311 = .ok (.aload_n 2, 1) := by decide +kernel
theorem dL_law_2312 : decode cL_law 2312 = .ok (.aload_n 0, 1) := by decide +kernel
theorem dL_law_2313 : decode cL_law 2313 = .ok (.iload 4, 2) := by decide +kernel
theorem dL_law_2315 : decode cL_law 2315 = .ok (.iconst 1, 1) := by decide +kernel
theorem dL_law_2316 : decode cL_law 2316 = .ok (.iadd, 1) := by decide +kernel
theorem dL_law_2317 : decode cL_law 2317 = .ok (.iaload, 1) := by decide +kernel
theorem dL_law_2318 : decode cL_law 2318 = .ok (.invokevirtual 237, 3) := by decide +kernel
theorem dL_law_2321 : decode cL_law 2321 = .ok (.istore 6, 2) := by decide +kernel
theorem dL_law_2323 : decode cL_law 2323 = .ok (.aload_n 2, 1) := by decide +kernel
theorem dL_law_2324 : decode cL_law 2324 = .ok (.invokevirtual 127, 3) := by decide +kernel
theorem dL_law_2327 : decode cL_law 2327 = .ok (.iload 5, 2) := by decide +kernel
theorem dL_law_2329 : decode cL_law 2329 = .ok (.if_icmp .eq 5, 3) := by decide +kernel
theorem dL_law_2334 : decode cL_law 2334 = .ok (.iload 5, 2) := by decide +kernel
theorem dL_law_2336 : decode cL_law 2336 = .ok (.ifCond .ne 15, 3) := by decide +kernel
theorem dL_law_2339 : decode cL_law 2339 = .ok (.aload_n 3, 1) := by decide +kernel
theorem dL_law_2340 : decode cL_law 2340 = .ok (.iconst 0, 1) := by decide +kernel
theorem dL_law_2341 : decode cL_law 2341 = .ok (.laload, 1) := by decide +kernel
theorem dL_law_2342 : decode cL_law 2342 = .ok (.iload 6, 2) := by decide +kernel
theorem dL_law_2344 : decode cL_law 2344 = .ok (.i2l, 1) := by decide +kernel
theorem dL_law_2345 : decode cL_law 2345 = .ok (.lcmp, 1) := by decide +kernel
theorem dL_law_2346 : decode cL_law 2346 = .ok (.ifCond .eq 5, 3) := by decide +kernel
theorem dL_law_2351 : decode cL_law 2351 = .ok (.goto 67, 3) := by decide +kernel
theorem dL_law_2354 : decode cL_law 2354 = .ok (.aload_n 1, 1) := by decide +kernel
theorem dL_law_2355 : decode cL_law 2355 = .ok (.invokevirtual 238, 3) := by decide +kernel
theorem dL_law_2358 : decode cL_law 2358 = .ok (.aload_n 2, 1) := by decide +kernel
theorem dL_law_2359 : decode cL_law 2359 = .ok (.invokevirtual 241, 3) := by decide +kernel
theorem dL_law_2362 : decode cL_law 2362 = .ok (.if_icmp .eq 56, 3) := by decide +kernel
theorem dL_law_2367 : decode cL_law 2367 = .ok (.aload_n 1, 1) := by decide +kernel
theorem dL_law_2368 : decode cL_law 2368 = .ok (.invokevirtual 242, 3) := by decide +kernel
theorem dL_law_2371 : decode cL_law 2371 = .ok (.aload_n 2, 1) := by decide +kernel
theorem dL_law_2372 : decode cL_law 2372 = .ok (.invokevirtual 245, 3) := by decide +kernel
theorem dL_law_2375 : decode cL_law 2375 = .ok (.if_icmp .eq 43, 3) := by decide +kernel
theorem dL_law_2380 : decode cL_law 2380 = .ok (.aload_n 1, 1) := by decide +kernel
theorem dL_law_2381 : decode cL_law 2381 = .ok (.invokevirtual 246, 3) := by decide +kernel
theorem dL_law_2384 : decode cL_law 2384 = .ok (.aload_n 2, 1) := by decide +kernel
theorem dL_law_2385 : decode cL_law 2385 = .ok (.invokevirtual 249, 3) := by decide +kernel
theorem dL_law_2388 : decode cL_law 2388 = .ok (.if_icmp .eq 30, 3) := by decide +kernel
theorem dL_law_2393 : decode cL_law 2393 = .ok (.aload_n 1, 1) := by decide +kernel
theorem dL_law_2394 : decode cL_law 2394 = .ok (.aload_n 0, 1) := by decide +kernel
theorem dL_law_2395 : decode cL_law 2395 = .ok (.iload 4, 2) := by decide +kernel
theorem dL_law_2397 : decode cL_law 2397 = .ok (.iconst 1, 1) := by decide +kernel
theorem dL_law_2398 : decode cL_law 2398 = .ok (.iadd, 1) := by decide +kernel
theorem dL_law_2399 : decode cL_law 2399 = .ok (.iaload, 1) := by decide +kernel
theorem dL_law_2400 : decode cL_law 2400 = .ok (.invokevirtual 250, 3) := by decide +kernel
theorem dL_law_2403 : decode cL_law 2403 = .ok (.aload_n 2, 1) := by decide +kernel
theorem dL_law_2404 : decode cL_law 2404 = .ok (.aload_n 0, 1) := by decide +kernel
theorem dL_law_2405 : decode cL_law 2405 = .ok (.iload 4, 2) := by decide +kernel
theorem dL_law_2407 : decode cL_law 2407 = .ok (.iconst 1, 1) := by decide +kernel
theorem dL_law_2408 : decode cL_law 2408 = .ok (.iadd, 1) := by decide +kernel
theorem dL_law_2409 : decode cL_law 2409 = .ok (.iaload, 1) := by decide +kernel
theorem dL_law_2410 : decode cL_law 2410 = .ok (.invokevirtual 253, 3) := by decide +kernel
theorem dL_law_2413 : decode cL_law 2413 = .ok (.if_icmp .eq 5, 3) := by decide +kernel
set_option maxHeartbeats 4000000 in
set_option maxRecDepth 100000 in
/-- the law: spot -/
theorem law_case_30 {p : Program} {l : Launch} {e : Env} {s : State} {m : MethodId} {below : List Frame} {meth : Method} {c : Code} {D : va_G} {cy : Nat → ClassId} {sa : Nat → Nat} {b : Nat} {xs : Nat → Int32} (hl0 : l.stackTraces = false) (E : kE yL_law cL_law 7 (some .boolean) #[Value.ref b] p s m meth c) (hX : va_X b 6 xs s s.heap) (hbl : b < s.heap.size) (hG : kG D cy sa (fun q => s.heap.size ≤ q) s) (u v : Nat → Nat) (o : Nat) (H : Heap) (locs : List Loc) (hP : va_P D vwCl [((u 0), .inr (12, [.ref (u 1), .int 0, .int (-1), .ref (u 2), .ref (u 3), .ref (u 4), .ref (u 5), .ref (u 6), .ref (u 7), .ref (u 8), .int 0, .ref (u 9), .ref (u 10), .ref (u 11), .ref (u 12), .ref (u 13), .ref (u 14)])), ((u 6), .inr (8, [.ref (u 41), .ref (u 42), .int 0, .ref (u 43), .ref (u 44), .int 0, .ref (u 45)])), ((u 43), .inl (cy 0, 6, .inl (fun _ => 0))), ((u 44), .inl (cy 0, 6, .inl (fun _ => 0))), ((v 0), .inr (13, [.int 0, .int 0, .int 0, .int (-1), .int 0, .int 0, .int 0, .int 0, .ref (v 1), .ref (v 2), .ref (v 3), .ref (v 4), .ref (v 5), .ref (v 6), .ref (v 7), .ref (v 8), .ref (v 9), .int 0, .int 0, .int 0, .int 0, .int 0, .int 0, .int 0, .int 0, .int 0, .ref (v 10), .ref (v 11), .ref (v 12), .ref (v 13), .int 0, .ref (v 14), .ref (v 15), .ref (v 16), .ref (v 17), .ref (v 18), .int 0, .int 0, .int 0, .ref (v 19), .ref (v 20), .ref (v 21), .ref (v 22), .ref (v 23), .int 0, .int 0, .int 0, .int 0])), ((v 11), .inl (cy 5, 6, .inr (.inr (.inr (.inr (fun i => if i < 6 then some ((v 11) + 1 + i) else none)))))), (((v 11) + 1 + 0), .inl (cy 0, 2, .inl (fun _ => 0))), (o, .inl (cy 6, 1, .inr (.inl (fun _ => 0))))] H) (hD : va_D (fun q => s.heap.size ≤ q) [((u 0), .inr (12, [.ref (u 1), .int 0, .int (-1), .ref (u 2), .ref (u 3), .ref (u 4), .ref (u 5), .ref (u 6), .ref (u 7), .ref (u 8), .int 0, .ref (u 9), .ref (u 10), .ref (u 11), .ref (u 12), .ref (u 13), .ref (u 14)])), ((u 6), .inr (8, [.ref (u 41), .ref (u 42), .int 0, .ref (u 43), .ref (u 44), .int 0, .ref (u 45)])), ((u 43), .inl (cy 0, 6, .inl (fun _ => 0))), ((u 44), .inl (cy 0, 6, .inl (fun _ => 0))), ((v 0), .inr (13, [.int 0, .int 0, .int 0, .int (-1), .int 0, .int 0, .int 0, .int 0, .ref (v 1), .ref (v 2), .ref (v 3), .ref (v 4), .ref (v 5), .ref (v 6), .ref (v 7), .ref (v 8), .ref (v 9), .int 0, .int 0, .int 0, .int 0, .int 0, .int 0, .int 0, .int 0, .int 0, .ref (v 10), .ref (v 11), .ref (v 12), .ref (v 13), .int 0, .ref (v 14), .ref (v 15), .ref (v 16), .ref (v 17), .ref (v 18), .int 0, .int 0, .int 0, .ref (v 19), .ref (v 20), .ref (v 21), .ref (v 22), .ref (v 23), .int 0, .int 0, .int 0, .int 0])), ((v 11), .inl (cy 5, 6, .inr (.inr (.inr (.inr (fun i => if i < 6 then some ((v 11) + 1 + i) else none)))))), (((v 11) + 1 + 0), .inl (cy 0, 2, .inl (fun _ => 0))), (o, .inl (cy 6, 1, .inr (.inl (fun _ => 0))))]) (hS : va_S (fun q => s.heap.size ≤ q) s.heap H locs) (ls : Array Slot) (hl : lv_has ls 7 [(0, .ref b), (1, .ref (u 0)), (2, .ref (v 0)), (3, .ref o), (4, .int 0)]) : W p l e room_1 s m #[Value.ref b] below meth c H locs 179 322202 (lw_Z below #[Value.ref b] s) (F0 m 2081 ls []) := by
  obtain ⟨A, hAe⟩ : ∃ A : Nat → Prop, A = fun q => s.heap.size ≤ q := ⟨_, rfl⟩
  rw [← hAe] at hG hD hS
  have hA : ∀ q, s.heap.size ≤ q → A q := fun q h => by rw [hAe]; exact h
  have hAs : ∀ q, A q → s.heap.size ≤ q := fun q h => by rw [hAe] at h; exact h
  have hbA : ¬ A b := by rw [hAe]; exact Nat.not_le.mpr hbl
  obtain ⟨hx, hb, hml, hown, hts, hr, hlk, hnm⟩ := id E
  have hown : s.vm.findClass RL = some m.cls := hown
  refine lv_aload_n hx hb dL_law_2081 rfl (lv_at hl 1 rfl) ?_
  refine lv_aload_n hx hb dL_law_2082 rfl (lv_at hl 0 rfl) ?_
  refine lv_iload hx hb dL_law_2083 (lv_at hl 4 rfl) ?_
  refine lv_iconst (v := 1) hx hb dL_law_2085 (by decide) ?_
  refine lv_iadd hx hb dL_law_2086 ?_
  refine lv_topi (fun x1 ex1 => ?_)
  obtain rfl : x1 = 1 := ex1.trans (by decide)
  refine va_sld hx hb hX hbl hbA hS (by unfold vp_in; decide) dL_law_2087 ?_
  refine lv_topi (fun x2 ex2 => ?_)
  obtain rfl : x2 = xs 1 := ex2.trans rfl
  refine lv_aload_n hx hb dL_law_2088 rfl (lv_at hl 0 rfl) ?_
  refine lv_iload hx hb dL_law_2089 (lv_at hl 4 rfl) ?_
  refine lv_iconst (v := 2) hx hb dL_law_2091 (by decide) ?_
  refine lv_iadd hx hb dL_law_2092 ?_
  refine lv_topi (fun x3 ex3 => ?_)
  obtain rfl : x3 = 2 := ex3.trans (by decide)
  refine va_sld hx hb hX hbl hbA hS (by unfold vp_in; decide) dL_law_2093 ?_
  refine lv_topi (fun x4 ex4 => ?_)
  obtain rfl : x4 = xs 2 := ex4.trans rfl
  refine lv_aload_n hx hb dL_law_2094 rfl (lv_at hl 3 rfl) ?_
  refine x_cali [4, 5, 6] (⟨hP, hD, hG, hS, hA, rfl, rfl⟩ : kAt D cy sa A s H _ _ [((u 0), .inr (12, [.ref (u 1), .int 0, .int (-1), .ref (u 2), .ref (u 3), .ref (u 4), .ref (u 5), .ref (u 6), .ref (u 7), .ref (u 8), .int 0, .ref (u 9), .ref (u 10), .ref (u 11), .ref (u 12), .ref (u 13), .ref (u 14)])), ((u 6), .inr (8, [.ref (u 41), .ref (u 42), .int 0, .ref (u 43), .ref (u 44), .int 0, .ref (u 45)])), ((u 43), .inl (cy 0, 6, .inl (fun _ => 0))), ((u 44), .inl (cy 0, 6, .inl (fun _ => 0))), (o, .inl (cy 6, 1, .inr (.inl (fun _ => 0))))] [0, 1, 2, 3, 7]) (wr := [((v 0), .inr (13, [.int 0, .int 0, .int 0, .int (-1), .int 0, .int 0, .int 0, .int 0, .ref (v 1), .ref (v 2), .ref (v 3), .ref (v 4), .ref (v 5), .ref (v 6), .ref (v 7), .ref (v 8), .ref (v 9), .int 0, .int 0, .int 0, .int 0, .int 0, .int 0, .int 0, .int 0, .int 0, .ref (v 10), .ref (v 11), .ref (v 12), .ref (v 13), .int 0, .ref (v 14), .ref (v 15), .ref (v 16), .ref (v 17), .ref (v 18), .int 0, .int 0, .int 0, .ref (v 19), .ref (v 20), .ref (v 21), .ref (v 22), .ref (v 23), .int 0, .int 0, .int 0, .int 0])), ((v 11), .inl (cy 5, 6, .inr (.inr (.inr (.inr (fun i => if i < 6 then some ((v 11) + 1 + i) else none)))))), (((v 11) + 1 + 0), .inl (cy 0, 2, .inl (fun _ => 0)))]) rfl rfl (by decide) (x_runW (As := [.ref (u 0), .int (xs 1), .int (xs 2), .ref o]) (rest := []) E lk_SRL_222 (w_spot l hl0 D cy sa u o (xs 1) (xs 2) H.size) (⟨hP, hD, hG, hS, hA, rfl, rfl⟩ : kAt D cy sa A s H _ _ [((u 0), .inr (12, [.ref (u 1), .int 0, .int (-1), .ref (u 2), .ref (u 3), .ref (u 4), .ref (u 5), .ref (u 6), .ref (u 7), .ref (u 8), .int 0, .ref (u 9), .ref (u 10), .ref (u 11), .ref (u 12), .ref (u 13), .ref (u 14)])), ((u 6), .inr (8, [.ref (u 41), .ref (u 42), .int 0, .ref (u 43), .ref (u 44), .int 0, .ref (u 45)])), ((u 43), .inl (cy 0, 6, .inl (fun _ => 0))), ((u 44), .inl (cy 0, 6, .inl (fun _ => 0))), (o, .inl (cy 6, 1, .inr (.inl (fun _ => 0))))] [0, 1, 2, 3, 7]) hl.1 rfl rfl ⟨rfl, rfl, ⟨Nat.le_of_ble_eq_true rfl, Nat.le_of_ble_eq_true rfl⟩, ⟨Nat.le_of_ble_eq_true rfl, Nat.le_of_ble_eq_true rfl⟩, Nat.le_of_ble_eq_true rfl⟩ dL_law_2095) (fun ce q9 u6 H locs hwu6 hP hD hS h1 h2 h3 => ?_) (fun r5 u6 H locs hwu6 hP hD hS => ?_)
  · have hP : va_P D vwCl [((v 0), .inr (13, [.int 0, .int 0, .int 0, .int (-1), .int 0, .int 0, .int 0, .int 0, .ref (v 1), .ref (v 2), .ref (v 3), .ref (v 4), .ref (v 5), .ref (v 6), .ref (v 7), .ref (v 8), .ref (v 9), .int 0, .int 0, .int 0, .int 0, .int 0, .int 0, .int 0, .int 0, .int 0, .ref (v 10), .ref (v 11), .ref (v 12), .ref (v 13), .int 0, .ref (v 14), .ref (v 15), .ref (v 16), .ref (v 17), .ref (v 18), .int 0, .int 0, .int 0, .ref (v 19), .ref (v 20), .ref (v 21), .ref (v 22), .ref (v 23), .int 0, .int 0, .int 0, .int 0])), ((v 11), .inl (cy 5, 6, .inr (.inr (.inr (.inr (fun i => if i < 6 then some ((v 11) + 1 + i) else none)))))), (((v 11) + 1 + 0), .inl (cy 0, 2, .inl (fun _ => 0)))] H := hP
    have hD : va_D A [((v 0), .inr (13, [.int 0, .int 0, .int 0, .int (-1), .int 0, .int 0, .int 0, .int 0, .ref (v 1), .ref (v 2), .ref (v 3), .ref (v 4), .ref (v 5), .ref (v 6), .ref (v 7), .ref (v 8), .ref (v 9), .int 0, .int 0, .int 0, .int 0, .int 0, .int 0, .int 0, .int 0, .int 0, .ref (v 10), .ref (v 11), .ref (v 12), .ref (v 13), .int 0, .ref (v 14), .ref (v 15), .ref (v 16), .ref (v 17), .ref (v 18), .int 0, .int 0, .int 0, .ref (v 19), .ref (v 20), .ref (v 21), .ref (v 22), .ref (v 23), .int 0, .int 0, .int 0, .int 0])), ((v 11), .inl (cy 5, 6, .inr (.inr (.inr (.inr (fun i => if i < 6 then some ((v 11) + 1 + i) else none)))))), (((v 11) + 1 + 0), .inl (cy 0, 2, .inl (fun _ => 0)))] := hD
    exact (hwu6).elim
  · have hP : va_P D vwCl [((v 0), .inr (13, [.int 0, .int 0, .int 0, .int (-1), .int 0, .int 0, .int 0, .int 0, .ref (v 1), .ref (v 2), .ref (v 3), .ref (v 4), .ref (v 5), .ref (v 6), .ref (v 7), .ref (v 8), .ref (v 9), .int 0, .int 0, .int 0, .int 0, .int 0, .int 0, .int 0, .int 0, .int 0, .ref (v 10), .ref (v 11), .ref (v 12), .ref (v 13), .int 0, .ref (v 14), .ref (v 15), .ref (v 16), .ref (v 17), .ref (v 18), .int 0, .int 0, .int 0, .ref (v 19), .ref (v 20), .ref (v 21), .ref (v 22), .ref (v 23), .int 0, .int 0, .int 0, .int 0])), ((v 11), .inl (cy 5, 6, .inr (.inr (.inr (.inr (fun i => if i < 6 then some ((v 11) + 1 + i) else none)))))), (((v 11) + 1 + 0), .inl (cy 0, 2, .inl (fun _ => 0))), (o, .inl (cy 6, 1, .inr (.inl u6)))] H := hP
    have hD : va_D A [((v 0), .inr (13, [.int 0, .int 0, .int 0, .int (-1), .int 0, .int 0, .int 0, .int 0, .ref (v 1), .ref (v 2), .ref (v 3), .ref (v 4), .ref (v 5), .ref (v 6), .ref (v 7), .ref (v 8), .ref (v 9), .int 0, .int 0, .int 0, .int 0, .int 0, .int 0, .int 0, .int 0, .int 0, .ref (v 10), .ref (v 11), .ref (v 12), .ref (v 13), .int 0, .ref (v 14), .ref (v 15), .ref (v 16), .ref (v 17), .ref (v 18), .int 0, .int 0, .int 0, .ref (v 19), .ref (v 20), .ref (v 21), .ref (v 22), .ref (v 23), .int 0, .int 0, .int 0, .int 0])), ((v 11), .inl (cy 5, 6, .inr (.inr (.inr (.inr (fun i => if i < 6 then some ((v 11) + 1 + i) else none)))))), (((v 11) + 1 + 0), .inl (cy 0, 2, .inl (fun _ => 0))), (o, .inl (cy 6, 1, .inr (.inl u6)))] := hD
    refine lv_istore (lv' := [(5, .int r5), (0, .ref b), (1, .ref (u 0)), (2, .ref (v 0)), (3, .ref o), (4, .int 0)]) hx hb dL_law_2098 hl (by decide) rfl (fun ls hl => ?_)
    refine lv_aload_n hx hb dL_law_2100 rfl (lv_at hl 3 rfl) ?_
    refine lv_aload_n hx hb dL_law_2101 rfl (lv_at hl 1 rfl) ?_
    refine lv_iload hx hb dL_law_2102 (lv_at hl 5 rfl) ?_
    refine lv_iconst (v := 1) hx hb dL_law_2104 (by decide) ?_
    refine lv_iadd hx hb dL_law_2105 ?_
    refine lv_topi (fun x7 ex7 => ?_)
    obtain rfl : x7 = 1 := ex7.trans (by decide)
    refine va_sld hx hb hX hbl hbA hS (by unfold vp_in; decide) dL_law_2106 ?_
    refine lv_topi (fun x8 ex8 => ?_)
    obtain rfl : x8 = xs 1 := ex8.trans rfl
    refine lv_aload_n hx hb dL_law_2107 rfl (lv_at hl 1 rfl) ?_
    refine lv_iload hx hb dL_law_2108 (lv_at hl 5 rfl) ?_
    refine lv_iconst (v := 2) hx hb dL_law_2110 (by decide) ?_
    refine lv_iadd hx hb dL_law_2111 ?_
    refine lv_topi (fun x9 ex9 => ?_)
    obtain rfl : x9 = 2 := ex9.trans (by decide)
    refine va_sld hx hb hX hbl hbA hS (by unfold vp_in; decide) dL_law_2112 ?_
    refine lv_topi (fun x10 ex10 => ?_)
    obtain rfl : x10 = xs 2 := ex10.trans rfl
    refine k_cali [3] (⟨hP, hD, hG, hS, hA, rfl, rfl⟩ : kAt D cy sa A s H _ _ [((v 0), .inr (13, [.int 0, .int 0, .int 0, .int (-1), .int 0, .int 0, .int 0, .int 0, .ref (v 1), .ref (v 2), .ref (v 3), .ref (v 4), .ref (v 5), .ref (v 6), .ref (v 7), .ref (v 8), .ref (v 9), .int 0, .int 0, .int 0, .int 0, .int 0, .int 0, .int 0, .int 0, .int 0, .ref (v 10), .ref (v 11), .ref (v 12), .ref (v 13), .int 0, .ref (v 14), .ref (v 15), .ref (v 16), .ref (v 17), .ref (v 18), .int 0, .int 0, .int 0, .ref (v 19), .ref (v 20), .ref (v 21), .ref (v 22), .ref (v 23), .int 0, .int 0, .int 0, .int 0])), ((v 11), .inl (cy 5, 6, .inr (.inr (.inr (.inr (fun i => if i < 6 then some ((v 11) + 1 + i) else none)))))), (((v 11) + 1 + 0), .inl (cy 0, 2, .inl (fun _ => 0)))] [0, 1, 2]) (wr := [(o, .inl (cy 6, 1, .inr (.inl u6)))]) rfl rfl (by decide) (k_runV 13 0 (As := [.int (xs 1), .int (xs 2)]) (rest := []) E lk_VRL_224 rfl rfl rfl (m_spot_ l hl0 D cy sa v (xs 1) (xs 2) H.size) (⟨hP, hD, hG, hS, hA, rfl, rfl⟩ : kAt D cy sa A s H _ _ [((v 0), .inr (13, [.int 0, .int 0, .int 0, .int (-1), .int 0, .int 0, .int 0, .int 0, .ref (v 1), .ref (v 2), .ref (v 3), .ref (v 4), .ref (v 5), .ref (v 6), .ref (v 7), .ref (v 8), .ref (v 9), .int 0, .int 0, .int 0, .int 0, .int 0, .int 0, .int 0, .int 0, .int 0, .ref (v 10), .ref (v 11), .ref (v 12), .ref (v 13), .int 0, .ref (v 14), .ref (v 15), .ref (v 16), .ref (v 17), .ref (v 18), .int 0, .int 0, .int 0, .ref (v 19), .ref (v 20), .ref (v 21), .ref (v 22), .ref (v 23), .int 0, .int 0, .int 0, .int 0])), ((v 11), .inl (cy 5, 6, .inr (.inr (.inr (.inr (fun i => if i < 6 then some ((v 11) + 1 + i) else none)))))), (((v 11) + 1 + 0), .inl (cy 0, 2, .inl (fun _ => 0)))] [0, 1, 2]) hl.1 rfl rfl ⟨rfl, rfl, ⟨Nat.le_of_ble_eq_true rfl, Nat.le_of_ble_eq_true rfl⟩, ⟨Nat.le_of_ble_eq_true rfl, Nat.le_of_ble_eq_true rfl⟩, Nat.le_of_ble_eq_true rfl⟩ dL_law_2113) (fun r11 u12 H locs hwu12 hP hD hS => ?_)
    have hP : va_P D vwCl [(o, .inl (cy 6, 1, .inr (.inl u6))), ((v 0), .inr (13, .int u12.1 :: u12.2))] H := hP
    have hD : va_D A [(o, .inl (cy 6, 1, .inr (.inl u6))), ((v 0), .inr (13, .int u12.1 :: u12.2))] := hD
    refine lv_istore (lv' := [(6, .int r11), (5, .int r5), (0, .ref b), (1, .ref (u 0)), (2, .ref (v 0)), (3, .ref o), (4, .int 0)]) hx hb dL_law_2116 hl (by decide) rfl (fun ls hl => ?_)
    refine lv_aload_n hx hb dL_law_2118 rfl (lv_at hl 4 rfl) ?_
    refine k_cali [0] (⟨hP, hD, hG, hS, hA, rfl, rfl⟩ : kAt D cy sa A s H _ _ [((v 0), .inr (13, .int u12.1 :: u12.2))] [1]) (wr := [(o, .inl (cy 6, 1, .inr (.inl u6)))]) rfl rfl (by decide) (k_runV 13 1 (As := []) (rest := []) E lk_VRL_127 rfl rfl rfl (m_thrown l hl0 D cy sa v u12.1 u12.2 H.size) (⟨hP, hD, hG, hS, hA, rfl, rfl⟩ : kAt D cy sa A s H _ _ [((v 0), .inr (13, .int u12.1 :: u12.2))] [1]) hl.1 rfl rfl ⟨rfl, rfl, ⟨Nat.le_of_ble_eq_true rfl, Nat.le_of_ble_eq_true rfl⟩, ⟨Nat.le_of_ble_eq_true rfl, Nat.le_of_ble_eq_true rfl⟩, Nat.le_of_ble_eq_true rfl⟩ dL_law_2119) (fun r13 u14 H locs hwu14 hP hD hS => ?_)
    have hP : va_P D vwCl [(o, .inl (cy 6, 1, .inr (.inl u6)))] H := hP
    have hD : va_D A [(o, .inl (cy 6, 1, .inr (.inl u6)))] := hD
    rcases hwu6 with ⟨rfl, x9, hx9, hf9⟩ | ⟨rfl, hpx⟩
    · obtain ⟨ht9, hr9⟩ := hwu12.1 (hx9.1)
      obtain rfl : r13 = 0 := hwu14.trans ht9
      have heq : x9 = r11 := hx9.2.trans hr9.symm
      refine lv_iload hx hb dL_law_2122 (lv_at hl 1 rfl) ?_
      refine lv_icmp_eq (tgt := 2129) hx hb dL_law_2124 (by decide) (fun _ => ?_) (fun h => absurd (by decide) h)
      refine lv_iload hx hb dL_law_2129 (lv_at hl 1 rfl) ?_
      refine lv_if_ne (tgt := 2146) hx hb dL_law_2131 (by decide) (fun h => absurd (by decide) h) (fun _ => ?_)
      refine lv_aload_n hx hb dL_law_2134 rfl (lv_at hl 5 rfl) ?_
      refine lv_iconst (v := 0) hx hb dL_law_2135 (by decide) ?_
      refine va_lald hx hb hG.1 hP 0 6 rfl rfl (by unfold vp_in; decide) dL_law_2136 ?_
      refine W.eq (g2 := F0 m 2137 ls [.long (u6 0)]) rfl ?_
      refine lv_iload hx hb dL_law_2137 (lv_at hl 0 rfl) ?_
      refine lv_i2l (v := (r11 : Int32).toInt64) hx hb dL_law_2139 rfl ?_
      refine W.lcmp hx hb dL_law_2140 ?_
      refine lv_topi (fun x15 ex15 => ?_)
      obtain rfl : x15 = 0 := ex15.trans (by rw [hf9, heq]; exact k_cmp _)
      refine lv_if_eq (tgt := 2146) hx hb dL_law_2141 (by decide) (fun _ => ?_) (fun h => absurd (by decide) h)
      refine lv_goto (tgt := 2418) hx hb dL_law_2146 (by decide) ?_
      refine lv_iinc (v := 6) (lv' := [(4, .int 6), (6, .int r11), (5, .int 0), (0, .ref b), (1, .ref (u 0)), (2, .ref (v 0)), (3, .ref o)]) hx hb dL_law_2418 hl (k := 6) rfl (by decide) (by decide) rfl (fun ls hl => ?_)
      refine lv_goto (tgt := 23) hx hb dL_law_2421 (by decide) ?_
      exact law_exit E hX hbl hbA hAs hS (i := 6) (by decide) (lv_at hl 3 rfl) (lv_at hl 0 rfl) (by decide) (by decide)
    · obtain rfl : r13 = 1 := hwu14.trans (hwu12.2 (fun h => absurd h hpx))
      refine lv_iload hx hb dL_law_2122 (lv_at hl 1 rfl) ?_
      refine lv_icmp_eq (tgt := 2129) hx hb dL_law_2124 (by decide) (fun _ => ?_) (fun h => absurd (by decide) h)
      refine lv_iload hx hb dL_law_2129 (lv_at hl 1 rfl) ?_
      refine lv_if_ne (tgt := 2146) hx hb dL_law_2131 (by decide) (fun _ => ?_) (fun h => absurd h (by decide))
      refine lv_goto (tgt := 2418) hx hb dL_law_2146 (by decide) ?_
      refine lv_iinc (v := 6) (lv' := [(4, .int 6), (6, .int r11), (5, .int 1), (0, .ref b), (1, .ref (u 0)), (2, .ref (v 0)), (3, .ref o)]) hx hb dL_law_2418 hl (k := 6) rfl (by decide) (by decide) rfl (fun ls hl => ?_)
      refine lv_goto (tgt := 23) hx hb dL_law_2421 (by decide) ?_
      exact law_exit E hX hbl hbA hAs hS (i := 6) (by decide) (lv_at hl 3 rfl) (lv_at hl 0 rfl) (by decide) (by decide)

set_option maxHeartbeats 4000000 in
set_option maxRecDepth 100000 in
/-- the law: placed -/
theorem law_case_31 {p : Program} {l : Launch} {e : Env} {s : State} {m : MethodId} {below : List Frame} {meth : Method} {c : Code} {D : va_G} {cy : Nat → ClassId} {sa : Nat → Nat} {b : Nat} {xs : Nat → Int32} (hl0 : l.stackTraces = false) (E : kE yL_law cL_law 7 (some .boolean) #[Value.ref b] p s m meth c) (hX : va_X b 6 xs s s.heap) (hbl : b < s.heap.size) (hG : kG D cy sa (fun q => s.heap.size ≤ q) s) (u v : Nat → Nat) (o : Nat) (H : Heap) (locs : List Loc) (hP : va_P D vwCl [((u 0), .inr (12, [.ref (u 1), .int 0, .int (-1), .ref (u 2), .ref (u 3), .ref (u 4), .ref (u 5), .ref (u 6), .ref (u 7), .ref (u 8), .int 0, .ref (u 9), .ref (u 10), .ref (u 11), .ref (u 12), .ref (u 13), .ref (u 14)])), ((u 6), .inr (8, [.ref (u 41), .ref (u 42), .int 0, .ref (u 43), .ref (u 44), .int 0, .ref (u 45)])), ((u 3), .inr (4, [.ref (u 15), .ref (u 16), .ref (u 17), .ref (u 18), .ref (u 19), .ref (u 20), .ref (u 21), .ref (u 22), .ref (u 23), .ref (u 24), .ref (u 25), .ref (u 26), .int 0, .int 0, .int 0, .int 0, .int 0])), ((v 0), .inr (13, [.int 0, .int 0, .int 0, .int (-1), .int 0, .int 0, .int 0, .int 0, .ref (v 1), .ref (v 2), .ref (v 3), .ref (v 4), .ref (v 5), .ref (v 6), .ref (v 7), .ref (v 8), .ref (v 9), .int 0, .int 0, .int 0, .int 0, .int 0, .int 0, .int 0, .int 0, .int 0, .ref (v 10), .ref (v 11), .ref (v 12), .ref (v 13), .int 0, .ref (v 14), .ref (v 15), .ref (v 16), .ref (v 17), .ref (v 18), .int 0, .int 0, .int 0, .ref (v 19), .ref (v 20), .ref (v 21), .ref (v 22), .ref (v 23), .int 0, .int 0, .int 0, .int 0])), (o, .inl (cy 6, 1, .inr (.inl (fun _ => 0))))] H) (hD : va_D (fun q => s.heap.size ≤ q) [((u 0), .inr (12, [.ref (u 1), .int 0, .int (-1), .ref (u 2), .ref (u 3), .ref (u 4), .ref (u 5), .ref (u 6), .ref (u 7), .ref (u 8), .int 0, .ref (u 9), .ref (u 10), .ref (u 11), .ref (u 12), .ref (u 13), .ref (u 14)])), ((u 6), .inr (8, [.ref (u 41), .ref (u 42), .int 0, .ref (u 43), .ref (u 44), .int 0, .ref (u 45)])), ((u 3), .inr (4, [.ref (u 15), .ref (u 16), .ref (u 17), .ref (u 18), .ref (u 19), .ref (u 20), .ref (u 21), .ref (u 22), .ref (u 23), .ref (u 24), .ref (u 25), .ref (u 26), .int 0, .int 0, .int 0, .int 0, .int 0])), ((v 0), .inr (13, [.int 0, .int 0, .int 0, .int (-1), .int 0, .int 0, .int 0, .int 0, .ref (v 1), .ref (v 2), .ref (v 3), .ref (v 4), .ref (v 5), .ref (v 6), .ref (v 7), .ref (v 8), .ref (v 9), .int 0, .int 0, .int 0, .int 0, .int 0, .int 0, .int 0, .int 0, .int 0, .ref (v 10), .ref (v 11), .ref (v 12), .ref (v 13), .int 0, .ref (v 14), .ref (v 15), .ref (v 16), .ref (v 17), .ref (v 18), .int 0, .int 0, .int 0, .ref (v 19), .ref (v 20), .ref (v 21), .ref (v 22), .ref (v 23), .int 0, .int 0, .int 0, .int 0])), (o, .inl (cy 6, 1, .inr (.inl (fun _ => 0))))]) (hS : va_S (fun q => s.heap.size ≤ q) s.heap H locs) (ls : Array Slot) (hl : lv_has ls 7 [(0, .ref b), (1, .ref (u 0)), (2, .ref (v 0)), (3, .ref o), (4, .int 0)]) : W p l e room_1 s m #[Value.ref b] below meth c H locs 179 322202 (lw_Z below #[Value.ref b] s) (F0 m 2149 ls []) := by
  obtain ⟨A, hAe⟩ : ∃ A : Nat → Prop, A = fun q => s.heap.size ≤ q := ⟨_, rfl⟩
  rw [← hAe] at hG hD hS
  have hA : ∀ q, s.heap.size ≤ q → A q := fun q h => by rw [hAe]; exact h
  have hAs : ∀ q, A q → s.heap.size ≤ q := fun q h => by rw [hAe] at h; exact h
  have hbA : ¬ A b := by rw [hAe]; exact Nat.not_le.mpr hbl
  obtain ⟨hx, hb, hml, hown, hts, hr, hlk, hnm⟩ := id E
  have hown : s.vm.findClass RL = some m.cls := hown
  refine lv_aload_n hx hb dL_law_2149 rfl (lv_at hl 1 rfl) ?_
  refine lv_aload_n hx hb dL_law_2150 rfl (lv_at hl 0 rfl) ?_
  refine lv_iload hx hb dL_law_2151 (lv_at hl 4 rfl) ?_
  refine lv_iconst (v := 1) hx hb dL_law_2153 (by decide) ?_
  refine lv_iadd hx hb dL_law_2154 ?_
  refine lv_topi (fun x1 ex1 => ?_)
  obtain rfl : x1 = 1 := ex1.trans (by decide)
  refine va_sld hx hb hX hbl hbA hS (by unfold vp_in; decide) dL_law_2155 ?_
  refine lv_topi (fun x2 ex2 => ?_)
  obtain rfl : x2 = xs 1 := ex2.trans rfl
  refine lv_aload_n hx hb dL_law_2156 rfl (lv_at hl 3 rfl) ?_
  refine x_cali [3] (⟨hP, hD, hG, hS, hA, rfl, rfl⟩ : kAt D cy sa A s H _ _ [((u 0), .inr (12, [.ref (u 1), .int 0, .int (-1), .ref (u 2), .ref (u 3), .ref (u 4), .ref (u 5), .ref (u 6), .ref (u 7), .ref (u 8), .int 0, .ref (u 9), .ref (u 10), .ref (u 11), .ref (u 12), .ref (u 13), .ref (u 14)])), ((u 6), .inr (8, [.ref (u 41), .ref (u 42), .int 0, .ref (u 43), .ref (u 44), .int 0, .ref (u 45)])), ((u 3), .inr (4, [.ref (u 15), .ref (u 16), .ref (u 17), .ref (u 18), .ref (u 19), .ref (u 20), .ref (u 21), .ref (u 22), .ref (u 23), .ref (u 24), .ref (u 25), .ref (u 26), .int 0, .int 0, .int 0, .int 0, .int 0])), (o, .inl (cy 6, 1, .inr (.inl (fun _ => 0))))] [0, 1, 2, 4]) (wr := [((v 0), .inr (13, [.int 0, .int 0, .int 0, .int (-1), .int 0, .int 0, .int 0, .int 0, .ref (v 1), .ref (v 2), .ref (v 3), .ref (v 4), .ref (v 5), .ref (v 6), .ref (v 7), .ref (v 8), .ref (v 9), .int 0, .int 0, .int 0, .int 0, .int 0, .int 0, .int 0, .int 0, .int 0, .ref (v 10), .ref (v 11), .ref (v 12), .ref (v 13), .int 0, .ref (v 14), .ref (v 15), .ref (v 16), .ref (v 17), .ref (v 18), .int 0, .int 0, .int 0, .ref (v 19), .ref (v 20), .ref (v 21), .ref (v 22), .ref (v 23), .int 0, .int 0, .int 0, .int 0]))]) rfl rfl (by decide) (x_runW (As := [.ref (u 0), .int (xs 1), .ref o]) (rest := []) E lk_SRL_225 (w_placed l hl0 D cy sa u o (xs 1) H.size) (⟨hP, hD, hG, hS, hA, rfl, rfl⟩ : kAt D cy sa A s H _ _ [((u 0), .inr (12, [.ref (u 1), .int 0, .int (-1), .ref (u 2), .ref (u 3), .ref (u 4), .ref (u 5), .ref (u 6), .ref (u 7), .ref (u 8), .int 0, .ref (u 9), .ref (u 10), .ref (u 11), .ref (u 12), .ref (u 13), .ref (u 14)])), ((u 6), .inr (8, [.ref (u 41), .ref (u 42), .int 0, .ref (u 43), .ref (u 44), .int 0, .ref (u 45)])), ((u 3), .inr (4, [.ref (u 15), .ref (u 16), .ref (u 17), .ref (u 18), .ref (u 19), .ref (u 20), .ref (u 21), .ref (u 22), .ref (u 23), .ref (u 24), .ref (u 25), .ref (u 26), .int 0, .int 0, .int 0, .int 0, .int 0])), (o, .inl (cy 6, 1, .inr (.inl (fun _ => 0))))] [0, 1, 2, 4]) hl.1 rfl rfl ⟨rfl, rfl, ⟨Nat.le_of_ble_eq_true rfl, Nat.le_of_ble_eq_true rfl⟩, ⟨Nat.le_of_ble_eq_true rfl, Nat.le_of_ble_eq_true rfl⟩, Nat.le_of_ble_eq_true rfl⟩ dL_law_2157) (fun ce q9 u4 H locs hwu4 hP hD hS h1 h2 h3 => ?_) (fun r3 u4 H locs hwu4 hP hD hS => ?_)
  · have hP : va_P D vwCl [((v 0), .inr (13, [.int 0, .int 0, .int 0, .int (-1), .int 0, .int 0, .int 0, .int 0, .ref (v 1), .ref (v 2), .ref (v 3), .ref (v 4), .ref (v 5), .ref (v 6), .ref (v 7), .ref (v 8), .ref (v 9), .int 0, .int 0, .int 0, .int 0, .int 0, .int 0, .int 0, .int 0, .int 0, .ref (v 10), .ref (v 11), .ref (v 12), .ref (v 13), .int 0, .ref (v 14), .ref (v 15), .ref (v 16), .ref (v 17), .ref (v 18), .int 0, .int 0, .int 0, .ref (v 19), .ref (v 20), .ref (v 21), .ref (v 22), .ref (v 23), .int 0, .int 0, .int 0, .int 0]))] H := hP
    have hD : va_D A [((v 0), .inr (13, [.int 0, .int 0, .int 0, .int (-1), .int 0, .int 0, .int 0, .int 0, .ref (v 1), .ref (v 2), .ref (v 3), .ref (v 4), .ref (v 5), .ref (v 6), .ref (v 7), .ref (v 8), .ref (v 9), .int 0, .int 0, .int 0, .int 0, .int 0, .int 0, .int 0, .int 0, .int 0, .ref (v 10), .ref (v 11), .ref (v 12), .ref (v 13), .int 0, .ref (v 14), .ref (v 15), .ref (v 16), .ref (v 17), .ref (v 18), .int 0, .int 0, .int 0, .ref (v 19), .ref (v 20), .ref (v 21), .ref (v 22), .ref (v 23), .int 0, .int 0, .int 0, .int 0]))] := hD
    exact (hwu4).elim
  · have hP : va_P D vwCl [((v 0), .inr (13, [.int 0, .int 0, .int 0, .int (-1), .int 0, .int 0, .int 0, .int 0, .ref (v 1), .ref (v 2), .ref (v 3), .ref (v 4), .ref (v 5), .ref (v 6), .ref (v 7), .ref (v 8), .ref (v 9), .int 0, .int 0, .int 0, .int 0, .int 0, .int 0, .int 0, .int 0, .int 0, .ref (v 10), .ref (v 11), .ref (v 12), .ref (v 13), .int 0, .ref (v 14), .ref (v 15), .ref (v 16), .ref (v 17), .ref (v 18), .int 0, .int 0, .int 0, .ref (v 19), .ref (v 20), .ref (v 21), .ref (v 22), .ref (v 23), .int 0, .int 0, .int 0, .int 0])), (o, .inl (cy 6, 1, .inr (.inl u4)))] H := hP
    have hD : va_D A [((v 0), .inr (13, [.int 0, .int 0, .int 0, .int (-1), .int 0, .int 0, .int 0, .int 0, .ref (v 1), .ref (v 2), .ref (v 3), .ref (v 4), .ref (v 5), .ref (v 6), .ref (v 7), .ref (v 8), .ref (v 9), .int 0, .int 0, .int 0, .int 0, .int 0, .int 0, .int 0, .int 0, .int 0, .ref (v 10), .ref (v 11), .ref (v 12), .ref (v 13), .int 0, .ref (v 14), .ref (v 15), .ref (v 16), .ref (v 17), .ref (v 18), .int 0, .int 0, .int 0, .ref (v 19), .ref (v 20), .ref (v 21), .ref (v 22), .ref (v 23), .int 0, .int 0, .int 0, .int 0])), (o, .inl (cy 6, 1, .inr (.inl u4)))] := hD
    refine lv_istore (lv' := [(5, .int r3), (0, .ref b), (1, .ref (u 0)), (2, .ref (v 0)), (3, .ref o), (4, .int 0)]) hx hb dL_law_2160 hl (by decide) rfl (fun ls hl => ?_)
    refine lv_aload_n hx hb dL_law_2162 rfl (lv_at hl 3 rfl) ?_
    refine lv_aload_n hx hb dL_law_2163 rfl (lv_at hl 1 rfl) ?_
    refine lv_iload hx hb dL_law_2164 (lv_at hl 5 rfl) ?_
    refine lv_iconst (v := 1) hx hb dL_law_2166 (by decide) ?_
    refine lv_iadd hx hb dL_law_2167 ?_
    refine lv_topi (fun x5 ex5 => ?_)
    obtain rfl : x5 = 1 := ex5.trans (by decide)
    refine va_sld hx hb hX hbl hbA hS (by unfold vp_in; decide) dL_law_2168 ?_
    refine lv_topi (fun x6 ex6 => ?_)
    obtain rfl : x6 = xs 1 := ex6.trans rfl
    refine k_cali [1] (⟨hP, hD, hG, hS, hA, rfl, rfl⟩ : kAt D cy sa A s H _ _ [((v 0), .inr (13, [.int 0, .int 0, .int 0, .int (-1), .int 0, .int 0, .int 0, .int 0, .ref (v 1), .ref (v 2), .ref (v 3), .ref (v 4), .ref (v 5), .ref (v 6), .ref (v 7), .ref (v 8), .ref (v 9), .int 0, .int 0, .int 0, .int 0, .int 0, .int 0, .int 0, .int 0, .int 0, .ref (v 10), .ref (v 11), .ref (v 12), .ref (v 13), .int 0, .ref (v 14), .ref (v 15), .ref (v 16), .ref (v 17), .ref (v 18), .int 0, .int 0, .int 0, .ref (v 19), .ref (v 20), .ref (v 21), .ref (v 22), .ref (v 23), .int 0, .int 0, .int 0, .int 0]))] [0]) (wr := [(o, .inl (cy 6, 1, .inr (.inl u4)))]) rfl rfl (by decide) (k_runV 13 0 (As := [.int (xs 1)]) (rest := []) E lk_VRL_227 rfl rfl rfl (m_placed_ l hl0 D cy sa v (xs 1) H.size) (⟨hP, hD, hG, hS, hA, rfl, rfl⟩ : kAt D cy sa A s H _ _ [((v 0), .inr (13, [.int 0, .int 0, .int 0, .int (-1), .int 0, .int 0, .int 0, .int 0, .ref (v 1), .ref (v 2), .ref (v 3), .ref (v 4), .ref (v 5), .ref (v 6), .ref (v 7), .ref (v 8), .ref (v 9), .int 0, .int 0, .int 0, .int 0, .int 0, .int 0, .int 0, .int 0, .int 0, .ref (v 10), .ref (v 11), .ref (v 12), .ref (v 13), .int 0, .ref (v 14), .ref (v 15), .ref (v 16), .ref (v 17), .ref (v 18), .int 0, .int 0, .int 0, .ref (v 19), .ref (v 20), .ref (v 21), .ref (v 22), .ref (v 23), .int 0, .int 0, .int 0, .int 0]))] [0]) hl.1 rfl rfl ⟨rfl, rfl, ⟨Nat.le_of_ble_eq_true rfl, Nat.le_of_ble_eq_true rfl⟩, ⟨Nat.le_of_ble_eq_true rfl, Nat.le_of_ble_eq_true rfl⟩, Nat.le_of_ble_eq_true rfl⟩ dL_law_2169) (fun r7 u8 H locs hwu8 hP hD hS => ?_)
    have hP : va_P D vwCl [(o, .inl (cy 6, 1, .inr (.inl u4))), ((v 0), .inr (13, .int u8.1 :: u8.2))] H := hP
    have hD : va_D A [(o, .inl (cy 6, 1, .inr (.inl u4))), ((v 0), .inr (13, .int u8.1 :: u8.2))] := hD
    refine lv_istore (lv' := [(6, .int r7), (5, .int r3), (0, .ref b), (1, .ref (u 0)), (2, .ref (v 0)), (3, .ref o), (4, .int 0)]) hx hb dL_law_2172 hl (by decide) rfl (fun ls hl => ?_)
    refine lv_aload_n hx hb dL_law_2174 rfl (lv_at hl 4 rfl) ?_
    refine k_cali [0] (⟨hP, hD, hG, hS, hA, rfl, rfl⟩ : kAt D cy sa A s H _ _ [((v 0), .inr (13, .int u8.1 :: u8.2))] [1]) (wr := [(o, .inl (cy 6, 1, .inr (.inl u4)))]) rfl rfl (by decide) (k_runV 13 1 (As := []) (rest := []) E lk_VRL_127 rfl rfl rfl (m_thrown l hl0 D cy sa v u8.1 u8.2 H.size) (⟨hP, hD, hG, hS, hA, rfl, rfl⟩ : kAt D cy sa A s H _ _ [((v 0), .inr (13, .int u8.1 :: u8.2))] [1]) hl.1 rfl rfl ⟨rfl, rfl, ⟨Nat.le_of_ble_eq_true rfl, Nat.le_of_ble_eq_true rfl⟩, ⟨Nat.le_of_ble_eq_true rfl, Nat.le_of_ble_eq_true rfl⟩, Nat.le_of_ble_eq_true rfl⟩ dL_law_2175) (fun r9 u10 H locs hwu10 hP hD hS => ?_)
    have hP : va_P D vwCl [(o, .inl (cy 6, 1, .inr (.inl u4)))] H := hP
    have hD : va_D A [(o, .inl (cy 6, 1, .inr (.inl u4)))] := hD
    rcases hwu4 with ⟨rfl, x9, hx9, hf9⟩ | ⟨rfl, hpx⟩
    · obtain ⟨ht9, hr9⟩ := hwu8.1 (hx9.1)
      obtain rfl : r9 = 0 := hwu10.trans ht9
      have heq : x9 = r7 := hx9.2.trans hr9.symm
      refine lv_iload hx hb dL_law_2178 (lv_at hl 1 rfl) ?_
      refine lv_icmp_eq (tgt := 2185) hx hb dL_law_2180 (by decide) (fun _ => ?_) (fun h => absurd (by decide) h)
      refine lv_iload hx hb dL_law_2185 (lv_at hl 1 rfl) ?_
      refine lv_if_ne (tgt := 2202) hx hb dL_law_2187 (by decide) (fun h => absurd (by decide) h) (fun _ => ?_)
      refine lv_aload_n hx hb dL_law_2190 rfl (lv_at hl 5 rfl) ?_
      refine lv_iconst (v := 0) hx hb dL_law_2191 (by decide) ?_
      refine va_lald hx hb hG.1 hP 0 6 rfl rfl (by unfold vp_in; decide) dL_law_2192 ?_
      refine W.eq (g2 := F0 m 2193 ls [.long (u4 0)]) rfl ?_
      refine lv_iload hx hb dL_law_2193 (lv_at hl 0 rfl) ?_
      refine lv_i2l (v := (r7 : Int32).toInt64) hx hb dL_law_2195 rfl ?_
      refine W.lcmp hx hb dL_law_2196 ?_
      refine lv_topi (fun x11 ex11 => ?_)
      obtain rfl : x11 = 0 := ex11.trans (by rw [hf9, heq]; exact k_cmp _)
      refine lv_if_eq (tgt := 2202) hx hb dL_law_2197 (by decide) (fun _ => ?_) (fun h => absurd (by decide) h)
      refine lv_goto (tgt := 2418) hx hb dL_law_2202 (by decide) ?_
      refine lv_iinc (v := 6) (lv' := [(4, .int 6), (6, .int r7), (5, .int 0), (0, .ref b), (1, .ref (u 0)), (2, .ref (v 0)), (3, .ref o)]) hx hb dL_law_2418 hl (k := 6) rfl (by decide) (by decide) rfl (fun ls hl => ?_)
      refine lv_goto (tgt := 23) hx hb dL_law_2421 (by decide) ?_
      exact law_exit E hX hbl hbA hAs hS (i := 6) (by decide) (lv_at hl 3 rfl) (lv_at hl 0 rfl) (by decide) (by decide)
    · obtain rfl : r9 = 1 := hwu10.trans (hwu8.2 (fun h => absurd h hpx))
      refine lv_iload hx hb dL_law_2178 (lv_at hl 1 rfl) ?_
      refine lv_icmp_eq (tgt := 2185) hx hb dL_law_2180 (by decide) (fun _ => ?_) (fun h => absurd (by decide) h)
      refine lv_iload hx hb dL_law_2185 (lv_at hl 1 rfl) ?_
      refine lv_if_ne (tgt := 2202) hx hb dL_law_2187 (by decide) (fun _ => ?_) (fun h => absurd h (by decide))
      refine lv_goto (tgt := 2418) hx hb dL_law_2202 (by decide) ?_
      refine lv_iinc (v := 6) (lv' := [(4, .int 6), (6, .int r7), (5, .int 1), (0, .ref b), (1, .ref (u 0)), (2, .ref (v 0)), (3, .ref o)]) hx hb dL_law_2418 hl (k := 6) rfl (by decide) (by decide) rfl (fun ls hl => ?_)
      refine lv_goto (tgt := 23) hx hb dL_law_2421 (by decide) ?_
      exact law_exit E hX hbl hbA hAs hS (i := 6) (by decide) (lv_at hl 3 rfl) (lv_at hl 0 rfl) (by decide) (by decide)

set_option maxHeartbeats 4000000 in
set_option maxRecDepth 100000 in
/-- the law: back -/
theorem law_case_32 {p : Program} {l : Launch} {e : Env} {s : State} {m : MethodId} {below : List Frame} {meth : Method} {c : Code} {D : va_G} {cy : Nat → ClassId} {sa : Nat → Nat} {b : Nat} {xs : Nat → Int32} (hl0 : l.stackTraces = false) (E : kE yL_law cL_law 7 (some .boolean) #[Value.ref b] p s m meth c) (hX : va_X b 6 xs s s.heap) (hbl : b < s.heap.size) (hG : kG D cy sa (fun q => s.heap.size ≤ q) s) (u v : Nat → Nat) (o : Nat) (H : Heap) (locs : List Loc) (hP : va_P D vwCl [((u 0), .inr (12, [.ref (u 1), .int 0, .int (-1), .ref (u 2), .ref (u 3), .ref (u 4), .ref (u 5), .ref (u 6), .ref (u 7), .ref (u 8), .int 0, .ref (u 9), .ref (u 10), .ref (u 11), .ref (u 12), .ref (u 13), .ref (u 14)])), ((u 3), .inr (4, [.ref (u 15), .ref (u 16), .ref (u 17), .ref (u 18), .ref (u 19), .ref (u 20), .ref (u 21), .ref (u 22), .ref (u 23), .ref (u 24), .ref (u 25), .ref (u 26), .int 0, .int 0, .int 0, .int 0, .int 0])), ((v 0), .inr (13, [.int 0, .int 0, .int 0, .int (-1), .int 0, .int 0, .int 0, .int 0, .ref (v 1), .ref (v 2), .ref (v 3), .ref (v 4), .ref (v 5), .ref (v 6), .ref (v 7), .ref (v 8), .ref (v 9), .int 0, .int 0, .int 0, .int 0, .int 0, .int 0, .int 0, .int 0, .int 0, .ref (v 10), .ref (v 11), .ref (v 12), .ref (v 13), .int 0, .ref (v 14), .ref (v 15), .ref (v 16), .ref (v 17), .ref (v 18), .int 0, .int 0, .int 0, .ref (v 19), .ref (v 20), .ref (v 21), .ref (v 22), .ref (v 23), .int 0, .int 0, .int 0, .int 0])), ((v 5), .inl (cy 0, 5, .inl (fun _ => 0))), (o, .inl (cy 6, 1, .inr (.inl (fun _ => 0))))] H) (hD : va_D (fun q => s.heap.size ≤ q) [((u 0), .inr (12, [.ref (u 1), .int 0, .int (-1), .ref (u 2), .ref (u 3), .ref (u 4), .ref (u 5), .ref (u 6), .ref (u 7), .ref (u 8), .int 0, .ref (u 9), .ref (u 10), .ref (u 11), .ref (u 12), .ref (u 13), .ref (u 14)])), ((u 3), .inr (4, [.ref (u 15), .ref (u 16), .ref (u 17), .ref (u 18), .ref (u 19), .ref (u 20), .ref (u 21), .ref (u 22), .ref (u 23), .ref (u 24), .ref (u 25), .ref (u 26), .int 0, .int 0, .int 0, .int 0, .int 0])), ((v 0), .inr (13, [.int 0, .int 0, .int 0, .int (-1), .int 0, .int 0, .int 0, .int 0, .ref (v 1), .ref (v 2), .ref (v 3), .ref (v 4), .ref (v 5), .ref (v 6), .ref (v 7), .ref (v 8), .ref (v 9), .int 0, .int 0, .int 0, .int 0, .int 0, .int 0, .int 0, .int 0, .int 0, .ref (v 10), .ref (v 11), .ref (v 12), .ref (v 13), .int 0, .ref (v 14), .ref (v 15), .ref (v 16), .ref (v 17), .ref (v 18), .int 0, .int 0, .int 0, .ref (v 19), .ref (v 20), .ref (v 21), .ref (v 22), .ref (v 23), .int 0, .int 0, .int 0, .int 0])), ((v 5), .inl (cy 0, 5, .inl (fun _ => 0))), (o, .inl (cy 6, 1, .inr (.inl (fun _ => 0))))]) (hS : va_S (fun q => s.heap.size ≤ q) s.heap H locs) (ls : Array Slot) (hl : lv_has ls 7 [(0, .ref b), (1, .ref (u 0)), (2, .ref (v 0)), (3, .ref o), (4, .int 0)]) : W p l e room_1 s m #[Value.ref b] below meth c H locs 179 322202 (lw_Z below #[Value.ref b] s) (F0 m 2205 ls []) := by
  obtain ⟨A, hAe⟩ : ∃ A : Nat → Prop, A = fun q => s.heap.size ≤ q := ⟨_, rfl⟩
  rw [← hAe] at hG hD hS
  have hA : ∀ q, s.heap.size ≤ q → A q := fun q h => by rw [hAe]; exact h
  have hAs : ∀ q, A q → s.heap.size ≤ q := fun q h => by rw [hAe] at h; exact h
  have hbA : ¬ A b := by rw [hAe]; exact Nat.not_le.mpr hbl
  obtain ⟨hx, hb, hml, hown, hts, hr, hlk, hnm⟩ := id E
  have hown : s.vm.findClass RL = some m.cls := hown
  refine lv_aload_n hx hb dL_law_2205 rfl (lv_at hl 1 rfl) ?_
  refine lv_aload_n hx hb dL_law_2206 rfl (lv_at hl 0 rfl) ?_
  refine lv_iload hx hb dL_law_2207 (lv_at hl 4 rfl) ?_
  refine lv_iconst (v := 1) hx hb dL_law_2209 (by decide) ?_
  refine lv_iadd hx hb dL_law_2210 ?_
  refine lv_topi (fun x1 ex1 => ?_)
  obtain rfl : x1 = 1 := ex1.trans (by decide)
  refine va_sld hx hb hX hbl hbA hS (by unfold vp_in; decide) dL_law_2211 ?_
  refine lv_topi (fun x2 ex2 => ?_)
  obtain rfl : x2 = xs 1 := ex2.trans rfl
  refine lv_aload_n hx hb dL_law_2212 rfl (lv_at hl 0 rfl) ?_
  refine lv_iload hx hb dL_law_2213 (lv_at hl 4 rfl) ?_
  refine lv_iconst (v := 2) hx hb dL_law_2215 (by decide) ?_
  refine lv_iadd hx hb dL_law_2216 ?_
  refine lv_topi (fun x3 ex3 => ?_)
  obtain rfl : x3 = 2 := ex3.trans (by decide)
  refine va_sld hx hb hX hbl hbA hS (by unfold vp_in; decide) dL_law_2217 ?_
  refine lv_topi (fun x4 ex4 => ?_)
  obtain rfl : x4 = xs 2 := ex4.trans rfl
  refine lv_aload_n hx hb dL_law_2218 rfl (lv_at hl 0 rfl) ?_
  refine lv_iload hx hb dL_law_2219 (lv_at hl 4 rfl) ?_
  refine lv_iconst (v := 3) hx hb dL_law_2221 (by decide) ?_
  refine lv_iadd hx hb dL_law_2222 ?_
  refine lv_topi (fun x5 ex5 => ?_)
  obtain rfl : x5 = 3 := ex5.trans (by decide)
  refine va_sld hx hb hX hbl hbA hS (by unfold vp_in; decide) dL_law_2223 ?_
  refine lv_topi (fun x6 ex6 => ?_)
  obtain rfl : x6 = xs 3 := ex6.trans rfl
  refine lv_aload_n hx hb dL_law_2224 rfl (lv_at hl 3 rfl) ?_
  refine x_cali [2, 3] (⟨hP, hD, hG, hS, hA, rfl, rfl⟩ : kAt D cy sa A s H _ _ [((u 0), .inr (12, [.ref (u 1), .int 0, .int (-1), .ref (u 2), .ref (u 3), .ref (u 4), .ref (u 5), .ref (u 6), .ref (u 7), .ref (u 8), .int 0, .ref (u 9), .ref (u 10), .ref (u 11), .ref (u 12), .ref (u 13), .ref (u 14)])), ((u 3), .inr (4, [.ref (u 15), .ref (u 16), .ref (u 17), .ref (u 18), .ref (u 19), .ref (u 20), .ref (u 21), .ref (u 22), .ref (u 23), .ref (u 24), .ref (u 25), .ref (u 26), .int 0, .int 0, .int 0, .int 0, .int 0])), (o, .inl (cy 6, 1, .inr (.inl (fun _ => 0))))] [0, 1, 4]) (wr := [((v 0), .inr (13, [.int 0, .int 0, .int 0, .int (-1), .int 0, .int 0, .int 0, .int 0, .ref (v 1), .ref (v 2), .ref (v 3), .ref (v 4), .ref (v 5), .ref (v 6), .ref (v 7), .ref (v 8), .ref (v 9), .int 0, .int 0, .int 0, .int 0, .int 0, .int 0, .int 0, .int 0, .int 0, .ref (v 10), .ref (v 11), .ref (v 12), .ref (v 13), .int 0, .ref (v 14), .ref (v 15), .ref (v 16), .ref (v 17), .ref (v 18), .int 0, .int 0, .int 0, .ref (v 19), .ref (v 20), .ref (v 21), .ref (v 22), .ref (v 23), .int 0, .int 0, .int 0, .int 0])), ((v 5), .inl (cy 0, 5, .inl (fun _ => 0)))]) rfl rfl (by decide) (x_runW (As := [.ref (u 0), .int (xs 1), .int (xs 2), .int (xs 3), .ref o]) (rest := []) E lk_SRL_228 (w_back l hl0 D cy sa u o (xs 1) (xs 2) (xs 3) H.size) (⟨hP, hD, hG, hS, hA, rfl, rfl⟩ : kAt D cy sa A s H _ _ [((u 0), .inr (12, [.ref (u 1), .int 0, .int (-1), .ref (u 2), .ref (u 3), .ref (u 4), .ref (u 5), .ref (u 6), .ref (u 7), .ref (u 8), .int 0, .ref (u 9), .ref (u 10), .ref (u 11), .ref (u 12), .ref (u 13), .ref (u 14)])), ((u 3), .inr (4, [.ref (u 15), .ref (u 16), .ref (u 17), .ref (u 18), .ref (u 19), .ref (u 20), .ref (u 21), .ref (u 22), .ref (u 23), .ref (u 24), .ref (u 25), .ref (u 26), .int 0, .int 0, .int 0, .int 0, .int 0])), (o, .inl (cy 6, 1, .inr (.inl (fun _ => 0))))] [0, 1, 4]) hl.1 rfl rfl ⟨rfl, rfl, ⟨Nat.le_of_ble_eq_true rfl, Nat.le_of_ble_eq_true rfl⟩, ⟨Nat.le_of_ble_eq_true rfl, Nat.le_of_ble_eq_true rfl⟩, Nat.le_of_ble_eq_true rfl⟩ dL_law_2225) (fun ce q9 u8 H locs hwu8 hP hD hS h1 h2 h3 => ?_) (fun r7 u8 H locs hwu8 hP hD hS => ?_)
  · have hP : va_P D vwCl [((v 0), .inr (13, [.int 0, .int 0, .int 0, .int (-1), .int 0, .int 0, .int 0, .int 0, .ref (v 1), .ref (v 2), .ref (v 3), .ref (v 4), .ref (v 5), .ref (v 6), .ref (v 7), .ref (v 8), .ref (v 9), .int 0, .int 0, .int 0, .int 0, .int 0, .int 0, .int 0, .int 0, .int 0, .ref (v 10), .ref (v 11), .ref (v 12), .ref (v 13), .int 0, .ref (v 14), .ref (v 15), .ref (v 16), .ref (v 17), .ref (v 18), .int 0, .int 0, .int 0, .ref (v 19), .ref (v 20), .ref (v 21), .ref (v 22), .ref (v 23), .int 0, .int 0, .int 0, .int 0])), ((v 5), .inl (cy 0, 5, .inl (fun _ => 0)))] H := hP
    have hD : va_D A [((v 0), .inr (13, [.int 0, .int 0, .int 0, .int (-1), .int 0, .int 0, .int 0, .int 0, .ref (v 1), .ref (v 2), .ref (v 3), .ref (v 4), .ref (v 5), .ref (v 6), .ref (v 7), .ref (v 8), .ref (v 9), .int 0, .int 0, .int 0, .int 0, .int 0, .int 0, .int 0, .int 0, .int 0, .ref (v 10), .ref (v 11), .ref (v 12), .ref (v 13), .int 0, .ref (v 14), .ref (v 15), .ref (v 16), .ref (v 17), .ref (v 18), .int 0, .int 0, .int 0, .ref (v 19), .ref (v 20), .ref (v 21), .ref (v 22), .ref (v 23), .int 0, .int 0, .int 0, .int 0])), ((v 5), .inl (cy 0, 5, .inl (fun _ => 0)))] := hD
    exact (hwu8).elim
  · have hP : va_P D vwCl [((v 0), .inr (13, [.int 0, .int 0, .int 0, .int (-1), .int 0, .int 0, .int 0, .int 0, .ref (v 1), .ref (v 2), .ref (v 3), .ref (v 4), .ref (v 5), .ref (v 6), .ref (v 7), .ref (v 8), .ref (v 9), .int 0, .int 0, .int 0, .int 0, .int 0, .int 0, .int 0, .int 0, .int 0, .ref (v 10), .ref (v 11), .ref (v 12), .ref (v 13), .int 0, .ref (v 14), .ref (v 15), .ref (v 16), .ref (v 17), .ref (v 18), .int 0, .int 0, .int 0, .ref (v 19), .ref (v 20), .ref (v 21), .ref (v 22), .ref (v 23), .int 0, .int 0, .int 0, .int 0])), ((v 5), .inl (cy 0, 5, .inl (fun _ => 0))), (o, .inl (cy 6, 1, .inr (.inl u8)))] H := hP
    have hD : va_D A [((v 0), .inr (13, [.int 0, .int 0, .int 0, .int (-1), .int 0, .int 0, .int 0, .int 0, .ref (v 1), .ref (v 2), .ref (v 3), .ref (v 4), .ref (v 5), .ref (v 6), .ref (v 7), .ref (v 8), .ref (v 9), .int 0, .int 0, .int 0, .int 0, .int 0, .int 0, .int 0, .int 0, .int 0, .ref (v 10), .ref (v 11), .ref (v 12), .ref (v 13), .int 0, .ref (v 14), .ref (v 15), .ref (v 16), .ref (v 17), .ref (v 18), .int 0, .int 0, .int 0, .ref (v 19), .ref (v 20), .ref (v 21), .ref (v 22), .ref (v 23), .int 0, .int 0, .int 0, .int 0])), ((v 5), .inl (cy 0, 5, .inl (fun _ => 0))), (o, .inl (cy 6, 1, .inr (.inl u8)))] := hD
    refine lv_istore (lv' := [(5, .int r7), (0, .ref b), (1, .ref (u 0)), (2, .ref (v 0)), (3, .ref o), (4, .int 0)]) hx hb dL_law_2228 hl (by decide) rfl (fun ls hl => ?_)
    refine lv_aload_n hx hb dL_law_2230 rfl (lv_at hl 3 rfl) ?_
    refine lv_aload_n hx hb dL_law_2231 rfl (lv_at hl 1 rfl) ?_
    refine lv_iload hx hb dL_law_2232 (lv_at hl 5 rfl) ?_
    refine lv_iconst (v := 1) hx hb dL_law_2234 (by decide) ?_
    refine lv_iadd hx hb dL_law_2235 ?_
    refine lv_topi (fun x9 ex9 => ?_)
    obtain rfl : x9 = 1 := ex9.trans (by decide)
    refine va_sld hx hb hX hbl hbA hS (by unfold vp_in; decide) dL_law_2236 ?_
    refine lv_topi (fun x10 ex10 => ?_)
    obtain rfl : x10 = xs 1 := ex10.trans rfl
    refine lv_aload_n hx hb dL_law_2237 rfl (lv_at hl 1 rfl) ?_
    refine lv_iload hx hb dL_law_2238 (lv_at hl 5 rfl) ?_
    refine lv_iconst (v := 2) hx hb dL_law_2240 (by decide) ?_
    refine lv_iadd hx hb dL_law_2241 ?_
    refine lv_topi (fun x11 ex11 => ?_)
    obtain rfl : x11 = 2 := ex11.trans (by decide)
    refine va_sld hx hb hX hbl hbA hS (by unfold vp_in; decide) dL_law_2242 ?_
    refine lv_topi (fun x12 ex12 => ?_)
    obtain rfl : x12 = xs 2 := ex12.trans rfl
    refine lv_aload_n hx hb dL_law_2243 rfl (lv_at hl 1 rfl) ?_
    refine lv_iload hx hb dL_law_2244 (lv_at hl 5 rfl) ?_
    refine lv_iconst (v := 3) hx hb dL_law_2246 (by decide) ?_
    refine lv_iadd hx hb dL_law_2247 ?_
    refine lv_topi (fun x13 ex13 => ?_)
    obtain rfl : x13 = 3 := ex13.trans (by decide)
    refine va_sld hx hb hX hbl hbA hS (by unfold vp_in; decide) dL_law_2248 ?_
    refine lv_topi (fun x14 ex14 => ?_)
    obtain rfl : x14 = xs 3 := ex14.trans rfl
    refine k_cali [2] (⟨hP, hD, hG, hS, hA, rfl, rfl⟩ : kAt D cy sa A s H _ _ [((v 0), .inr (13, [.int 0, .int 0, .int 0, .int (-1), .int 0, .int 0, .int 0, .int 0, .ref (v 1), .ref (v 2), .ref (v 3), .ref (v 4), .ref (v 5), .ref (v 6), .ref (v 7), .ref (v 8), .ref (v 9), .int 0, .int 0, .int 0, .int 0, .int 0, .int 0, .int 0, .int 0, .int 0, .ref (v 10), .ref (v 11), .ref (v 12), .ref (v 13), .int 0, .ref (v 14), .ref (v 15), .ref (v 16), .ref (v 17), .ref (v 18), .int 0, .int 0, .int 0, .ref (v 19), .ref (v 20), .ref (v 21), .ref (v 22), .ref (v 23), .int 0, .int 0, .int 0, .int 0])), ((v 5), .inl (cy 0, 5, .inl (fun _ => 0)))] [0, 1]) (wr := [(o, .inl (cy 6, 1, .inr (.inl u8)))]) rfl rfl (by decide) (k_runV 13 0 (As := [.int (xs 1), .int (xs 2), .int (xs 3)]) (rest := []) E lk_VRL_230 rfl rfl rfl (m_back_ l hl0 D cy sa v (xs 1) (xs 2) (xs 3) H.size) (⟨hP, hD, hG, hS, hA, rfl, rfl⟩ : kAt D cy sa A s H _ _ [((v 0), .inr (13, [.int 0, .int 0, .int 0, .int (-1), .int 0, .int 0, .int 0, .int 0, .ref (v 1), .ref (v 2), .ref (v 3), .ref (v 4), .ref (v 5), .ref (v 6), .ref (v 7), .ref (v 8), .ref (v 9), .int 0, .int 0, .int 0, .int 0, .int 0, .int 0, .int 0, .int 0, .int 0, .ref (v 10), .ref (v 11), .ref (v 12), .ref (v 13), .int 0, .ref (v 14), .ref (v 15), .ref (v 16), .ref (v 17), .ref (v 18), .int 0, .int 0, .int 0, .ref (v 19), .ref (v 20), .ref (v 21), .ref (v 22), .ref (v 23), .int 0, .int 0, .int 0, .int 0])), ((v 5), .inl (cy 0, 5, .inl (fun _ => 0)))] [0, 1]) hl.1 rfl rfl ⟨rfl, rfl, ⟨Nat.le_of_ble_eq_true rfl, Nat.le_of_ble_eq_true rfl⟩, ⟨Nat.le_of_ble_eq_true rfl, Nat.le_of_ble_eq_true rfl⟩, Nat.le_of_ble_eq_true rfl⟩ dL_law_2249) (fun r15 u16 H locs hwu16 hP hD hS => ?_)
    have hP : va_P D vwCl [(o, .inl (cy 6, 1, .inr (.inl u8))), ((v 0), .inr (13, .int u16.1 :: u16.2))] H := hP
    have hD : va_D A [(o, .inl (cy 6, 1, .inr (.inl u8))), ((v 0), .inr (13, .int u16.1 :: u16.2))] := hD
    refine lv_istore (lv' := [(6, .int r15), (5, .int r7), (0, .ref b), (1, .ref (u 0)), (2, .ref (v 0)), (3, .ref o), (4, .int 0)]) hx hb dL_law_2252 hl (by decide) rfl (fun ls hl => ?_)
    refine lv_aload_n hx hb dL_law_2254 rfl (lv_at hl 4 rfl) ?_
    refine k_cali [0] (⟨hP, hD, hG, hS, hA, rfl, rfl⟩ : kAt D cy sa A s H _ _ [((v 0), .inr (13, .int u16.1 :: u16.2))] [1]) (wr := [(o, .inl (cy 6, 1, .inr (.inl u8)))]) rfl rfl (by decide) (k_runV 13 1 (As := []) (rest := []) E lk_VRL_127 rfl rfl rfl (m_thrown l hl0 D cy sa v u16.1 u16.2 H.size) (⟨hP, hD, hG, hS, hA, rfl, rfl⟩ : kAt D cy sa A s H _ _ [((v 0), .inr (13, .int u16.1 :: u16.2))] [1]) hl.1 rfl rfl ⟨rfl, rfl, ⟨Nat.le_of_ble_eq_true rfl, Nat.le_of_ble_eq_true rfl⟩, ⟨Nat.le_of_ble_eq_true rfl, Nat.le_of_ble_eq_true rfl⟩, Nat.le_of_ble_eq_true rfl⟩ dL_law_2255) (fun r17 u18 H locs hwu18 hP hD hS => ?_)
    have hP : va_P D vwCl [(o, .inl (cy 6, 1, .inr (.inl u8)))] H := hP
    have hD : va_D A [(o, .inl (cy 6, 1, .inr (.inl u8)))] := hD
    rcases hwu8 with ⟨rfl, x9, hx9, hf9⟩ | ⟨rfl, hpx⟩
    · exact hx9.elim
    · obtain rfl : r17 = 1 := hwu18.trans (hwu16.2 id)
      refine lv_iload hx hb dL_law_2258 (lv_at hl 1 rfl) ?_
      refine lv_icmp_eq (tgt := 2265) hx hb dL_law_2260 (by decide) (fun _ => ?_) (fun h => absurd (by decide) h)
      refine lv_iload hx hb dL_law_2265 (lv_at hl 1 rfl) ?_
      refine lv_if_ne (tgt := 2282) hx hb dL_law_2267 (by decide) (fun _ => ?_) (fun h => absurd h (by decide))
      refine lv_goto (tgt := 2418) hx hb dL_law_2282 (by decide) ?_
      refine lv_iinc (v := 6) (lv' := [(4, .int 6), (6, .int r15), (5, .int 1), (0, .ref b), (1, .ref (u 0)), (2, .ref (v 0)), (3, .ref o)]) hx hb dL_law_2418 hl (k := 6) rfl (by decide) (by decide) rfl (fun ls hl => ?_)
      refine lv_goto (tgt := 23) hx hb dL_law_2421 (by decide) ?_
      exact law_exit E hX hbl hbA hAs hS (i := 6) (by decide) (lv_at hl 3 rfl) (lv_at hl 0 rfl) (by decide) (by decide)

set_option maxHeartbeats 4000000 in
set_option maxRecDepth 100000 in
/-- the law: safe -/
theorem law_case_33 {p : Program} {l : Launch} {e : Env} {s : State} {m : MethodId} {below : List Frame} {meth : Method} {c : Code} {D : va_G} {cy : Nat → ClassId} {sa : Nat → Nat} {b : Nat} {xs : Nat → Int32} (hl0 : l.stackTraces = false) (E : kE yL_law cL_law 7 (some .boolean) #[Value.ref b] p s m meth c) (hX : va_X b 6 xs s s.heap) (hbl : b < s.heap.size) (hG : kG D cy sa (fun q => s.heap.size ≤ q) s) (u v : Nat → Nat) (o : Nat) (H : Heap) (locs : List Loc) (hP : va_P D vwCl [((u 0), .inr (12, [.ref (u 1), .int 0, .int (-1), .ref (u 2), .ref (u 3), .ref (u 4), .ref (u 5), .ref (u 6), .ref (u 7), .ref (u 8), .int 0, .ref (u 9), .ref (u 10), .ref (u 11), .ref (u 12), .ref (u 13), .ref (u 14)])), ((u 3), .inr (4, [.ref (u 15), .ref (u 16), .ref (u 17), .ref (u 18), .ref (u 19), .ref (u 20), .ref (u 21), .ref (u 22), .ref (u 23), .ref (u 24), .ref (u 25), .ref (u 26), .int 0, .int 0, .int 0, .int 0, .int 0])), ((v 0), .inr (13, [.int 0, .int 0, .int 0, .int (-1), .int 0, .int 0, .int 0, .int 0, .ref (v 1), .ref (v 2), .ref (v 3), .ref (v 4), .ref (v 5), .ref (v 6), .ref (v 7), .ref (v 8), .ref (v 9), .int 0, .int 0, .int 0, .int 0, .int 0, .int 0, .int 0, .int 0, .int 0, .ref (v 10), .ref (v 11), .ref (v 12), .ref (v 13), .int 0, .ref (v 14), .ref (v 15), .ref (v 16), .ref (v 17), .ref (v 18), .int 0, .int 0, .int 0, .ref (v 19), .ref (v 20), .ref (v 21), .ref (v 22), .ref (v 23), .int 0, .int 0, .int 0, .int 0])), ((v 5), .inl (cy 0, 5, .inl (fun _ => 0))), (o, .inl (cy 6, 1, .inr (.inl (fun _ => 0))))] H) (hD : va_D (fun q => s.heap.size ≤ q) [((u 0), .inr (12, [.ref (u 1), .int 0, .int (-1), .ref (u 2), .ref (u 3), .ref (u 4), .ref (u 5), .ref (u 6), .ref (u 7), .ref (u 8), .int 0, .ref (u 9), .ref (u 10), .ref (u 11), .ref (u 12), .ref (u 13), .ref (u 14)])), ((u 3), .inr (4, [.ref (u 15), .ref (u 16), .ref (u 17), .ref (u 18), .ref (u 19), .ref (u 20), .ref (u 21), .ref (u 22), .ref (u 23), .ref (u 24), .ref (u 25), .ref (u 26), .int 0, .int 0, .int 0, .int 0, .int 0])), ((v 0), .inr (13, [.int 0, .int 0, .int 0, .int (-1), .int 0, .int 0, .int 0, .int 0, .ref (v 1), .ref (v 2), .ref (v 3), .ref (v 4), .ref (v 5), .ref (v 6), .ref (v 7), .ref (v 8), .ref (v 9), .int 0, .int 0, .int 0, .int 0, .int 0, .int 0, .int 0, .int 0, .int 0, .ref (v 10), .ref (v 11), .ref (v 12), .ref (v 13), .int 0, .ref (v 14), .ref (v 15), .ref (v 16), .ref (v 17), .ref (v 18), .int 0, .int 0, .int 0, .ref (v 19), .ref (v 20), .ref (v 21), .ref (v 22), .ref (v 23), .int 0, .int 0, .int 0, .int 0])), ((v 5), .inl (cy 0, 5, .inl (fun _ => 0))), (o, .inl (cy 6, 1, .inr (.inl (fun _ => 0))))]) (hS : va_S (fun q => s.heap.size ≤ q) s.heap H locs) (ls : Array Slot) (hl : lv_has ls 7 [(0, .ref b), (1, .ref (u 0)), (2, .ref (v 0)), (3, .ref o), (4, .int 0)]) : W p l e room_1 s m #[Value.ref b] below meth c H locs 179 322202 (lw_Z below #[Value.ref b] s) (F0 m 2285 ls []) := by
  obtain ⟨A, hAe⟩ : ∃ A : Nat → Prop, A = fun q => s.heap.size ≤ q := ⟨_, rfl⟩
  rw [← hAe] at hG hD hS
  have hA : ∀ q, s.heap.size ≤ q → A q := fun q h => by rw [hAe]; exact h
  have hAs : ∀ q, A q → s.heap.size ≤ q := fun q h => by rw [hAe] at h; exact h
  have hbA : ¬ A b := by rw [hAe]; exact Nat.not_le.mpr hbl
  obtain ⟨hx, hb, hml, hown, hts, hr, hlk, hnm⟩ := id E
  have hown : s.vm.findClass RL = some m.cls := hown
  refine lv_aload_n hx hb dL_law_2285 rfl (lv_at hl 1 rfl) ?_
  refine k_cali [2, 3, 4] (⟨hP, hD, hG, hS, hA, rfl, rfl⟩ : kAt D cy sa A s H _ _ [((u 0), .inr (12, [.ref (u 1), .int 0, .int (-1), .ref (u 2), .ref (u 3), .ref (u 4), .ref (u 5), .ref (u 6), .ref (u 7), .ref (u 8), .int 0, .ref (u 9), .ref (u 10), .ref (u 11), .ref (u 12), .ref (u 13), .ref (u 14)])), ((u 3), .inr (4, [.ref (u 15), .ref (u 16), .ref (u 17), .ref (u 18), .ref (u 19), .ref (u 20), .ref (u 21), .ref (u 22), .ref (u 23), .ref (u 24), .ref (u 25), .ref (u 26), .int 0, .int 0, .int 0, .int 0, .int 0]))] [0, 1]) (wr := [((v 0), .inr (13, [.int 0, .int 0, .int 0, .int (-1), .int 0, .int 0, .int 0, .int 0, .ref (v 1), .ref (v 2), .ref (v 3), .ref (v 4), .ref (v 5), .ref (v 6), .ref (v 7), .ref (v 8), .ref (v 9), .int 0, .int 0, .int 0, .int 0, .int 0, .int 0, .int 0, .int 0, .int 0, .ref (v 10), .ref (v 11), .ref (v 12), .ref (v 13), .int 0, .ref (v 14), .ref (v 15), .ref (v 16), .ref (v 17), .ref (v 18), .int 0, .int 0, .int 0, .ref (v 19), .ref (v 20), .ref (v 21), .ref (v 22), .ref (v 23), .int 0, .int 0, .int 0, .int 0])), ((v 5), .inl (cy 0, 5, .inl (fun _ => 0))), (o, .inl (cy 6, 1, .inr (.inl (fun _ => 0))))]) rfl rfl (by decide) (k_runV 12 0 (As := []) (rest := []) E lk_VRL_231 rfl rfl rfl (c_LM_safe l hl0 D cy sa u  H.size) (⟨hP, hD, hG, hS, hA, rfl, rfl⟩ : kAt D cy sa A s H _ _ [((u 0), .inr (12, [.ref (u 1), .int 0, .int (-1), .ref (u 2), .ref (u 3), .ref (u 4), .ref (u 5), .ref (u 6), .ref (u 7), .ref (u 8), .int 0, .ref (u 9), .ref (u 10), .ref (u 11), .ref (u 12), .ref (u 13), .ref (u 14)])), ((u 3), .inr (4, [.ref (u 15), .ref (u 16), .ref (u 17), .ref (u 18), .ref (u 19), .ref (u 20), .ref (u 21), .ref (u 22), .ref (u 23), .ref (u 24), .ref (u 25), .ref (u 26), .int 0, .int 0, .int 0, .int 0, .int 0]))] [0, 1]) hl.1 rfl rfl ⟨rfl, rfl, ⟨Nat.le_of_ble_eq_true rfl, Nat.le_of_ble_eq_true rfl⟩, ⟨Nat.le_of_ble_eq_true rfl, Nat.le_of_ble_eq_true rfl⟩, Nat.le_of_ble_eq_true rfl⟩ dL_law_2286) (fun r1 u2 H locs hwu2 hP hD hS => ?_)
  have hP : va_P D vwCl [((v 0), .inr (13, [.int 0, .int 0, .int 0, .int (-1), .int 0, .int 0, .int 0, .int 0, .ref (v 1), .ref (v 2), .ref (v 3), .ref (v 4), .ref (v 5), .ref (v 6), .ref (v 7), .ref (v 8), .ref (v 9), .int 0, .int 0, .int 0, .int 0, .int 0, .int 0, .int 0, .int 0, .int 0, .ref (v 10), .ref (v 11), .ref (v 12), .ref (v 13), .int 0, .ref (v 14), .ref (v 15), .ref (v 16), .ref (v 17), .ref (v 18), .int 0, .int 0, .int 0, .ref (v 19), .ref (v 20), .ref (v 21), .ref (v 22), .ref (v 23), .int 0, .int 0, .int 0, .int 0])), ((v 5), .inl (cy 0, 5, .inl (fun _ => 0))), (o, .inl (cy 6, 1, .inr (.inl (fun _ => 0))))] H := hP
  have hD : va_D A [((v 0), .inr (13, [.int 0, .int 0, .int 0, .int (-1), .int 0, .int 0, .int 0, .int 0, .ref (v 1), .ref (v 2), .ref (v 3), .ref (v 4), .ref (v 5), .ref (v 6), .ref (v 7), .ref (v 8), .ref (v 9), .int 0, .int 0, .int 0, .int 0, .int 0, .int 0, .int 0, .int 0, .int 0, .ref (v 10), .ref (v 11), .ref (v 12), .ref (v 13), .int 0, .ref (v 14), .ref (v 15), .ref (v 16), .ref (v 17), .ref (v 18), .int 0, .int 0, .int 0, .ref (v 19), .ref (v 20), .ref (v 21), .ref (v 22), .ref (v 23), .int 0, .int 0, .int 0, .int 0])), ((v 5), .inl (cy 0, 5, .inl (fun _ => 0))), (o, .inl (cy 6, 1, .inr (.inl (fun _ => 0))))] := hD
  refine lv_aload_n hx hb dL_law_2289 rfl (lv_at hl 2 rfl) ?_
  refine k_cali [2] (⟨hP, hD, hG, hS, hA, rfl, rfl⟩ : kAt D cy sa A s H _ _ [((v 0), .inr (13, [.int 0, .int 0, .int 0, .int (-1), .int 0, .int 0, .int 0, .int 0, .ref (v 1), .ref (v 2), .ref (v 3), .ref (v 4), .ref (v 5), .ref (v 6), .ref (v 7), .ref (v 8), .ref (v 9), .int 0, .int 0, .int 0, .int 0, .int 0, .int 0, .int 0, .int 0, .int 0, .ref (v 10), .ref (v 11), .ref (v 12), .ref (v 13), .int 0, .ref (v 14), .ref (v 15), .ref (v 16), .ref (v 17), .ref (v 18), .int 0, .int 0, .int 0, .ref (v 19), .ref (v 20), .ref (v 21), .ref (v 22), .ref (v 23), .int 0, .int 0, .int 0, .int 0])), ((v 5), .inl (cy 0, 5, .inl (fun _ => 0)))] [0, 1]) (wr := [(o, .inl (cy 6, 1, .inr (.inl (fun _ => 0))))]) rfl rfl (by decide) (k_runV 13 0 (As := []) (rest := [.int r1]) E lk_VRL_234 rfl rfl rfl (m_safe_ l hl0 D cy sa v  H.size) (⟨hP, hD, hG, hS, hA, rfl, rfl⟩ : kAt D cy sa A s H _ _ [((v 0), .inr (13, [.int 0, .int 0, .int 0, .int (-1), .int 0, .int 0, .int 0, .int 0, .ref (v 1), .ref (v 2), .ref (v 3), .ref (v 4), .ref (v 5), .ref (v 6), .ref (v 7), .ref (v 8), .ref (v 9), .int 0, .int 0, .int 0, .int 0, .int 0, .int 0, .int 0, .int 0, .int 0, .ref (v 10), .ref (v 11), .ref (v 12), .ref (v 13), .int 0, .ref (v 14), .ref (v 15), .ref (v 16), .ref (v 17), .ref (v 18), .int 0, .int 0, .int 0, .ref (v 19), .ref (v 20), .ref (v 21), .ref (v 22), .ref (v 23), .int 0, .int 0, .int 0, .int 0])), ((v 5), .inl (cy 0, 5, .inl (fun _ => 0)))] [0, 1]) hl.1 rfl rfl ⟨rfl, rfl, ⟨Nat.le_of_ble_eq_true rfl, Nat.le_of_ble_eq_true rfl⟩, ⟨Nat.le_of_ble_eq_true rfl, Nat.le_of_ble_eq_true rfl⟩, Nat.le_of_ble_eq_true rfl⟩ dL_law_2290) (fun r3 u4 H locs hwu4 hP hD hS => ?_)
  have hP : va_P D vwCl [(o, .inl (cy 6, 1, .inr (.inl (fun _ => 0)))), ((v 0), .inr (13, .int u4.1 :: u4.2))] H := hP
  have hD : va_D A [(o, .inl (cy 6, 1, .inr (.inl (fun _ => 0)))), ((v 0), .inr (13, .int u4.1 :: u4.2))] := hD
  have heq : r1 = r3 := hwu2.trans (hwu4.1 trivial).2.symm
  refine lv_icmp_eq (tgt := 2418) hx hb dL_law_2293 (by decide) (fun _ => ?_) (fun h => absurd heq h)
  refine lv_iinc (v := 6) (lv' := [(4, .int 6), (0, .ref b), (1, .ref (u 0)), (2, .ref (v 0)), (3, .ref o)]) hx hb dL_law_2418 hl (k := 4) rfl (by decide) (by decide) rfl (fun ls hl => ?_)
  refine lv_goto (tgt := 23) hx hb dL_law_2421 (by decide) ?_
  exact law_exit E hX hbl hbA hAs hS (i := 6) (by decide) (lv_at hl 1 rfl) (lv_at hl 0 rfl) (by decide) (by decide)

set_option maxHeartbeats 4000000 in
set_option maxRecDepth 100000 in
/-- the law: gone -/
theorem law_case_34 {p : Program} {l : Launch} {e : Env} {s : State} {m : MethodId} {below : List Frame} {meth : Method} {c : Code} {D : va_G} {cy : Nat → ClassId} {sa : Nat → Nat} {b : Nat} {xs : Nat → Int32} (hl0 : l.stackTraces = false) (E : kE yL_law cL_law 7 (some .boolean) #[Value.ref b] p s m meth c) (hX : va_X b 6 xs s s.heap) (hbl : b < s.heap.size) (hG : kG D cy sa (fun q => s.heap.size ≤ q) s) (u v : Nat → Nat) (o : Nat) (H : Heap) (locs : List Loc) (hP : va_P D vwCl [((u 0), .inr (12, [.ref (u 1), .int 0, .int (-1), .ref (u 2), .ref (u 3), .ref (u 4), .ref (u 5), .ref (u 6), .ref (u 7), .ref (u 8), .int 0, .ref (u 9), .ref (u 10), .ref (u 11), .ref (u 12), .ref (u 13), .ref (u 14)])), ((u 11), .inr (11, [.ref (u 79), .ref (u 82), .int 0, .int 0, .int 0])), ((u 79), .inr (7, [.ref (u 80), .ref (u 81), .int 0, .int 0, .int 0, .int 0, .int 0, .int 0, .int 0, .int 0])), ((u 80), .inl (cy 0, 9, .inl (fun _ => 0))), ((u 81), .inl (cy 0, 9, .inl (fun _ => 0))), ((u 82), .inl (cy 0, 9, .inl (fun _ => 0))), ((u 3), .inr (4, [.ref (u 15), .ref (u 16), .ref (u 17), .ref (u 18), .ref (u 19), .ref (u 20), .ref (u 21), .ref (u 22), .ref (u 23), .ref (u 24), .ref (u 25), .ref (u 26), .int 0, .int 0, .int 0, .int 0, .int 0])), ((u 5), .inr (7, [.ref (u 39), .ref (u 40), .int 0, .int 0, .int 0, .int 0, .int 0, .int 0, .int 0, .int 0])), ((u 39), .inl (cy 0, 9, .inl (fun _ => 0))), ((u 40), .inl (cy 0, 9, .inl (fun _ => 0))), ((v 0), .inr (13, [.int 0, .int 0, .int 0, .int (-1), .int 0, .int 0, .int 0, .int 0, .ref (v 1), .ref (v 2), .ref (v 3), .ref (v 4), .ref (v 5), .ref (v 6), .ref (v 7), .ref (v 8), .ref (v 9), .int 0, .int 0, .int 0, .int 0, .int 0, .int 0, .int 0, .int 0, .int 0, .ref (v 10), .ref (v 11), .ref (v 12), .ref (v 13), .int 0, .ref (v 14), .ref (v 15), .ref (v 16), .ref (v 17), .ref (v 18), .int 0, .int 0, .int 0, .ref (v 19), .ref (v 20), .ref (v 21), .ref (v 22), .ref (v 23), .int 0, .int 0, .int 0, .int 0])), ((v 13), .inl (cy 5, 2, .inr (.inr (.inr (.inr (fun i => if i < 2 then some ((v 13) + 1 + i) else none)))))), (((v 13) + 1 + 0), .inl (cy 0, 120, .inl (fun _ => 0))), ((v 6), .inl (cy 0, 9, .inl (fun _ => 0))), ((v 7), .inl (cy 0, 9, .inl (fun _ => 0))), ((v 8), .inl (cy 0, 9, .inl (fun _ => 0))), ((v 9), .inl (cy 0, 9, .inl (fun _ => 0))), ((v 5), .inl (cy 0, 5, .inl (fun _ => 0))), (o, .inl (cy 6, 1, .inr (.inl (fun _ => 0))))] H) (hD : va_D (fun q => s.heap.size ≤ q) [((u 0), .inr (12, [.ref (u 1), .int 0, .int (-1), .ref (u 2), .ref (u 3), .ref (u 4), .ref (u 5), .ref (u 6), .ref (u 7), .ref (u 8), .int 0, .ref (u 9), .ref (u 10), .ref (u 11), .ref (u 12), .ref (u 13), .ref (u 14)])), ((u 11), .inr (11, [.ref (u 79), .ref (u 82), .int 0, .int 0, .int 0])), ((u 79), .inr (7, [.ref (u 80), .ref (u 81), .int 0, .int 0, .int 0, .int 0, .int 0, .int 0, .int 0, .int 0])), ((u 80), .inl (cy 0, 9, .inl (fun _ => 0))), ((u 81), .inl (cy 0, 9, .inl (fun _ => 0))), ((u 82), .inl (cy 0, 9, .inl (fun _ => 0))), ((u 3), .inr (4, [.ref (u 15), .ref (u 16), .ref (u 17), .ref (u 18), .ref (u 19), .ref (u 20), .ref (u 21), .ref (u 22), .ref (u 23), .ref (u 24), .ref (u 25), .ref (u 26), .int 0, .int 0, .int 0, .int 0, .int 0])), ((u 5), .inr (7, [.ref (u 39), .ref (u 40), .int 0, .int 0, .int 0, .int 0, .int 0, .int 0, .int 0, .int 0])), ((u 39), .inl (cy 0, 9, .inl (fun _ => 0))), ((u 40), .inl (cy 0, 9, .inl (fun _ => 0))), ((v 0), .inr (13, [.int 0, .int 0, .int 0, .int (-1), .int 0, .int 0, .int 0, .int 0, .ref (v 1), .ref (v 2), .ref (v 3), .ref (v 4), .ref (v 5), .ref (v 6), .ref (v 7), .ref (v 8), .ref (v 9), .int 0, .int 0, .int 0, .int 0, .int 0, .int 0, .int 0, .int 0, .int 0, .ref (v 10), .ref (v 11), .ref (v 12), .ref (v 13), .int 0, .ref (v 14), .ref (v 15), .ref (v 16), .ref (v 17), .ref (v 18), .int 0, .int 0, .int 0, .ref (v 19), .ref (v 20), .ref (v 21), .ref (v 22), .ref (v 23), .int 0, .int 0, .int 0, .int 0])), ((v 13), .inl (cy 5, 2, .inr (.inr (.inr (.inr (fun i => if i < 2 then some ((v 13) + 1 + i) else none)))))), (((v 13) + 1 + 0), .inl (cy 0, 120, .inl (fun _ => 0))), ((v 6), .inl (cy 0, 9, .inl (fun _ => 0))), ((v 7), .inl (cy 0, 9, .inl (fun _ => 0))), ((v 8), .inl (cy 0, 9, .inl (fun _ => 0))), ((v 9), .inl (cy 0, 9, .inl (fun _ => 0))), ((v 5), .inl (cy 0, 5, .inl (fun _ => 0))), (o, .inl (cy 6, 1, .inr (.inl (fun _ => 0))))]) (hS : va_S (fun q => s.heap.size ≤ q) s.heap H locs) (ls : Array Slot) (hl : lv_has ls 7 [(0, .ref b), (1, .ref (u 0)), (2, .ref (v 0)), (3, .ref o), (4, .int 0)]) : W p l e room_1 s m #[Value.ref b] below meth c H locs 179 322202 (lw_Z below #[Value.ref b] s) (F0 m 2298 ls []) := by
  obtain ⟨A, hAe⟩ : ∃ A : Nat → Prop, A = fun q => s.heap.size ≤ q := ⟨_, rfl⟩
  rw [← hAe] at hG hD hS
  have hA : ∀ q, s.heap.size ≤ q → A q := fun q h => by rw [hAe]; exact h
  have hAs : ∀ q, A q → s.heap.size ≤ q := fun q h => by rw [hAe] at h; exact h
  have hbA : ¬ A b := by rw [hAe]; exact Nat.not_le.mpr hbl
  obtain ⟨hx, hb, hml, hown, hts, hr, hlk, hnm⟩ := id E
  have hown : s.vm.findClass RL = some m.cls := hown
  refine lv_aload_n hx hb dL_law_2298 rfl (lv_at hl 1 rfl) ?_
  refine lv_aload_n hx hb dL_law_2299 rfl (lv_at hl 0 rfl) ?_
  refine lv_iload hx hb dL_law_2300 (lv_at hl 4 rfl) ?_
  refine lv_iconst (v := 1) hx hb dL_law_2302 (by decide) ?_
  refine lv_iadd hx hb dL_law_2303 ?_
  refine lv_topi (fun x1 ex1 => ?_)
  obtain rfl : x1 = 1 := ex1.trans (by decide)
  refine va_sld hx hb hX hbl hbA hS (by unfold vp_in; decide) dL_law_2304 ?_
  refine lv_topi (fun x2 ex2 => ?_)
  obtain rfl : x2 = xs 1 := ex2.trans rfl
  refine lv_aload_n hx hb dL_law_2305 rfl (lv_at hl 3 rfl) ?_
  refine x_cali [10, 11, 12, 13, 14, 15, 16, 17] (⟨hP, hD, hG, hS, hA, rfl, rfl⟩ : kAt D cy sa A s H _ _ [((u 0), .inr (12, [.ref (u 1), .int 0, .int (-1), .ref (u 2), .ref (u 3), .ref (u 4), .ref (u 5), .ref (u 6), .ref (u 7), .ref (u 8), .int 0, .ref (u 9), .ref (u 10), .ref (u 11), .ref (u 12), .ref (u 13), .ref (u 14)])), ((u 11), .inr (11, [.ref (u 79), .ref (u 82), .int 0, .int 0, .int 0])), ((u 79), .inr (7, [.ref (u 80), .ref (u 81), .int 0, .int 0, .int 0, .int 0, .int 0, .int 0, .int 0, .int 0])), ((u 80), .inl (cy 0, 9, .inl (fun _ => 0))), ((u 81), .inl (cy 0, 9, .inl (fun _ => 0))), ((u 82), .inl (cy 0, 9, .inl (fun _ => 0))), ((u 3), .inr (4, [.ref (u 15), .ref (u 16), .ref (u 17), .ref (u 18), .ref (u 19), .ref (u 20), .ref (u 21), .ref (u 22), .ref (u 23), .ref (u 24), .ref (u 25), .ref (u 26), .int 0, .int 0, .int 0, .int 0, .int 0])), ((u 5), .inr (7, [.ref (u 39), .ref (u 40), .int 0, .int 0, .int 0, .int 0, .int 0, .int 0, .int 0, .int 0])), ((u 39), .inl (cy 0, 9, .inl (fun _ => 0))), ((u 40), .inl (cy 0, 9, .inl (fun _ => 0))), (o, .inl (cy 6, 1, .inr (.inl (fun _ => 0))))] [0, 1, 2, 3, 4, 5, 6, 7, 8, 9, 18]) (wr := [((v 0), .inr (13, [.int 0, .int 0, .int 0, .int (-1), .int 0, .int 0, .int 0, .int 0, .ref (v 1), .ref (v 2), .ref (v 3), .ref (v 4), .ref (v 5), .ref (v 6), .ref (v 7), .ref (v 8), .ref (v 9), .int 0, .int 0, .int 0, .int 0, .int 0, .int 0, .int 0, .int 0, .int 0, .ref (v 10), .ref (v 11), .ref (v 12), .ref (v 13), .int 0, .ref (v 14), .ref (v 15), .ref (v 16), .ref (v 17), .ref (v 18), .int 0, .int 0, .int 0, .ref (v 19), .ref (v 20), .ref (v 21), .ref (v 22), .ref (v 23), .int 0, .int 0, .int 0, .int 0])), ((v 13), .inl (cy 5, 2, .inr (.inr (.inr (.inr (fun i => if i < 2 then some ((v 13) + 1 + i) else none)))))), (((v 13) + 1 + 0), .inl (cy 0, 120, .inl (fun _ => 0))), ((v 6), .inl (cy 0, 9, .inl (fun _ => 0))), ((v 7), .inl (cy 0, 9, .inl (fun _ => 0))), ((v 8), .inl (cy 0, 9, .inl (fun _ => 0))), ((v 9), .inl (cy 0, 9, .inl (fun _ => 0))), ((v 5), .inl (cy 0, 5, .inl (fun _ => 0)))]) rfl rfl (by decide) (x_runW (As := [.ref (u 0), .int (xs 1), .ref o]) (rest := []) E lk_SRL_235 (w_gone l hl0 D cy sa u o (xs 1) H.size) (⟨hP, hD, hG, hS, hA, rfl, rfl⟩ : kAt D cy sa A s H _ _ [((u 0), .inr (12, [.ref (u 1), .int 0, .int (-1), .ref (u 2), .ref (u 3), .ref (u 4), .ref (u 5), .ref (u 6), .ref (u 7), .ref (u 8), .int 0, .ref (u 9), .ref (u 10), .ref (u 11), .ref (u 12), .ref (u 13), .ref (u 14)])), ((u 11), .inr (11, [.ref (u 79), .ref (u 82), .int 0, .int 0, .int 0])), ((u 79), .inr (7, [.ref (u 80), .ref (u 81), .int 0, .int 0, .int 0, .int 0, .int 0, .int 0, .int 0, .int 0])), ((u 80), .inl (cy 0, 9, .inl (fun _ => 0))), ((u 81), .inl (cy 0, 9, .inl (fun _ => 0))), ((u 82), .inl (cy 0, 9, .inl (fun _ => 0))), ((u 3), .inr (4, [.ref (u 15), .ref (u 16), .ref (u 17), .ref (u 18), .ref (u 19), .ref (u 20), .ref (u 21), .ref (u 22), .ref (u 23), .ref (u 24), .ref (u 25), .ref (u 26), .int 0, .int 0, .int 0, .int 0, .int 0])), ((u 5), .inr (7, [.ref (u 39), .ref (u 40), .int 0, .int 0, .int 0, .int 0, .int 0, .int 0, .int 0, .int 0])), ((u 39), .inl (cy 0, 9, .inl (fun _ => 0))), ((u 40), .inl (cy 0, 9, .inl (fun _ => 0))), (o, .inl (cy 6, 1, .inr (.inl (fun _ => 0))))] [0, 1, 2, 3, 4, 5, 6, 7, 8, 9, 18]) hl.1 rfl rfl ⟨rfl, rfl, ⟨Nat.le_of_ble_eq_true rfl, Nat.le_of_ble_eq_true rfl⟩, ⟨Nat.le_of_ble_eq_true rfl, Nat.le_of_ble_eq_true rfl⟩, Nat.le_of_ble_eq_true rfl⟩ dL_law_2306) (fun ce q9 u4 H locs hwu4 hP hD hS h1 h2 h3 => ?_) (fun r3 u4 H locs hwu4 hP hD hS => ?_)
  · have hP : va_P D vwCl [((v 0), .inr (13, [.int 0, .int 0, .int 0, .int (-1), .int 0, .int 0, .int 0, .int 0, .ref (v 1), .ref (v 2), .ref (v 3), .ref (v 4), .ref (v 5), .ref (v 6), .ref (v 7), .ref (v 8), .ref (v 9), .int 0, .int 0, .int 0, .int 0, .int 0, .int 0, .int 0, .int 0, .int 0, .ref (v 10), .ref (v 11), .ref (v 12), .ref (v 13), .int 0, .ref (v 14), .ref (v 15), .ref (v 16), .ref (v 17), .ref (v 18), .int 0, .int 0, .int 0, .ref (v 19), .ref (v 20), .ref (v 21), .ref (v 22), .ref (v 23), .int 0, .int 0, .int 0, .int 0])), ((v 13), .inl (cy 5, 2, .inr (.inr (.inr (.inr (fun i => if i < 2 then some ((v 13) + 1 + i) else none)))))), (((v 13) + 1 + 0), .inl (cy 0, 120, .inl (fun _ => 0))), ((v 6), .inl (cy 0, 9, .inl (fun _ => 0))), ((v 7), .inl (cy 0, 9, .inl (fun _ => 0))), ((v 8), .inl (cy 0, 9, .inl (fun _ => 0))), ((v 9), .inl (cy 0, 9, .inl (fun _ => 0))), ((v 5), .inl (cy 0, 5, .inl (fun _ => 0)))] H := hP
    have hD : va_D A [((v 0), .inr (13, [.int 0, .int 0, .int 0, .int (-1), .int 0, .int 0, .int 0, .int 0, .ref (v 1), .ref (v 2), .ref (v 3), .ref (v 4), .ref (v 5), .ref (v 6), .ref (v 7), .ref (v 8), .ref (v 9), .int 0, .int 0, .int 0, .int 0, .int 0, .int 0, .int 0, .int 0, .int 0, .ref (v 10), .ref (v 11), .ref (v 12), .ref (v 13), .int 0, .ref (v 14), .ref (v 15), .ref (v 16), .ref (v 17), .ref (v 18), .int 0, .int 0, .int 0, .ref (v 19), .ref (v 20), .ref (v 21), .ref (v 22), .ref (v 23), .int 0, .int 0, .int 0, .int 0])), ((v 13), .inl (cy 5, 2, .inr (.inr (.inr (.inr (fun i => if i < 2 then some ((v 13) + 1 + i) else none)))))), (((v 13) + 1 + 0), .inl (cy 0, 120, .inl (fun _ => 0))), ((v 6), .inl (cy 0, 9, .inl (fun _ => 0))), ((v 7), .inl (cy 0, 9, .inl (fun _ => 0))), ((v 8), .inl (cy 0, 9, .inl (fun _ => 0))), ((v 9), .inl (cy 0, 9, .inl (fun _ => 0))), ((v 5), .inl (cy 0, 5, .inl (fun _ => 0)))] := hD
    exact (hwu4).elim
  · have hP : va_P D vwCl [((v 0), .inr (13, [.int 0, .int 0, .int 0, .int (-1), .int 0, .int 0, .int 0, .int 0, .ref (v 1), .ref (v 2), .ref (v 3), .ref (v 4), .ref (v 5), .ref (v 6), .ref (v 7), .ref (v 8), .ref (v 9), .int 0, .int 0, .int 0, .int 0, .int 0, .int 0, .int 0, .int 0, .int 0, .ref (v 10), .ref (v 11), .ref (v 12), .ref (v 13), .int 0, .ref (v 14), .ref (v 15), .ref (v 16), .ref (v 17), .ref (v 18), .int 0, .int 0, .int 0, .ref (v 19), .ref (v 20), .ref (v 21), .ref (v 22), .ref (v 23), .int 0, .int 0, .int 0, .int 0])), ((v 13), .inl (cy 5, 2, .inr (.inr (.inr (.inr (fun i => if i < 2 then some ((v 13) + 1 + i) else none)))))), (((v 13) + 1 + 0), .inl (cy 0, 120, .inl (fun _ => 0))), ((v 6), .inl (cy 0, 9, .inl (fun _ => 0))), ((v 7), .inl (cy 0, 9, .inl (fun _ => 0))), ((v 8), .inl (cy 0, 9, .inl (fun _ => 0))), ((v 9), .inl (cy 0, 9, .inl (fun _ => 0))), ((v 5), .inl (cy 0, 5, .inl (fun _ => 0))), (o, .inl (cy 6, 1, .inr (.inl u4)))] H := hP
    have hD : va_D A [((v 0), .inr (13, [.int 0, .int 0, .int 0, .int (-1), .int 0, .int 0, .int 0, .int 0, .ref (v 1), .ref (v 2), .ref (v 3), .ref (v 4), .ref (v 5), .ref (v 6), .ref (v 7), .ref (v 8), .ref (v 9), .int 0, .int 0, .int 0, .int 0, .int 0, .int 0, .int 0, .int 0, .int 0, .ref (v 10), .ref (v 11), .ref (v 12), .ref (v 13), .int 0, .ref (v 14), .ref (v 15), .ref (v 16), .ref (v 17), .ref (v 18), .int 0, .int 0, .int 0, .ref (v 19), .ref (v 20), .ref (v 21), .ref (v 22), .ref (v 23), .int 0, .int 0, .int 0, .int 0])), ((v 13), .inl (cy 5, 2, .inr (.inr (.inr (.inr (fun i => if i < 2 then some ((v 13) + 1 + i) else none)))))), (((v 13) + 1 + 0), .inl (cy 0, 120, .inl (fun _ => 0))), ((v 6), .inl (cy 0, 9, .inl (fun _ => 0))), ((v 7), .inl (cy 0, 9, .inl (fun _ => 0))), ((v 8), .inl (cy 0, 9, .inl (fun _ => 0))), ((v 9), .inl (cy 0, 9, .inl (fun _ => 0))), ((v 5), .inl (cy 0, 5, .inl (fun _ => 0))), (o, .inl (cy 6, 1, .inr (.inl u4)))] := hD
    refine lv_istore (lv' := [(5, .int r3), (0, .ref b), (1, .ref (u 0)), (2, .ref (v 0)), (3, .ref o), (4, .int 0)]) hx hb dL_law_2309 hl (by decide) rfl (fun ls hl => ?_)
    refine lv_aload_n hx hb dL_law_2311 rfl (lv_at hl 3 rfl) ?_
    refine lv_aload_n hx hb dL_law_2312 rfl (lv_at hl 1 rfl) ?_
    refine lv_iload hx hb dL_law_2313 (lv_at hl 5 rfl) ?_
    refine lv_iconst (v := 1) hx hb dL_law_2315 (by decide) ?_
    refine lv_iadd hx hb dL_law_2316 ?_
    refine lv_topi (fun x5 ex5 => ?_)
    obtain rfl : x5 = 1 := ex5.trans (by decide)
    refine va_sld hx hb hX hbl hbA hS (by unfold vp_in; decide) dL_law_2317 ?_
    refine lv_topi (fun x6 ex6 => ?_)
    obtain rfl : x6 = xs 1 := ex6.trans rfl
    refine k_cali [8] (⟨hP, hD, hG, hS, hA, rfl, rfl⟩ : kAt D cy sa A s H _ _ [((v 0), .inr (13, [.int 0, .int 0, .int 0, .int (-1), .int 0, .int 0, .int 0, .int 0, .ref (v 1), .ref (v 2), .ref (v 3), .ref (v 4), .ref (v 5), .ref (v 6), .ref (v 7), .ref (v 8), .ref (v 9), .int 0, .int 0, .int 0, .int 0, .int 0, .int 0, .int 0, .int 0, .int 0, .ref (v 10), .ref (v 11), .ref (v 12), .ref (v 13), .int 0, .ref (v 14), .ref (v 15), .ref (v 16), .ref (v 17), .ref (v 18), .int 0, .int 0, .int 0, .ref (v 19), .ref (v 20), .ref (v 21), .ref (v 22), .ref (v 23), .int 0, .int 0, .int 0, .int 0])), ((v 13), .inl (cy 5, 2, .inr (.inr (.inr (.inr (fun i => if i < 2 then some ((v 13) + 1 + i) else none)))))), (((v 13) + 1 + 0), .inl (cy 0, 120, .inl (fun _ => 0))), ((v 6), .inl (cy 0, 9, .inl (fun _ => 0))), ((v 7), .inl (cy 0, 9, .inl (fun _ => 0))), ((v 8), .inl (cy 0, 9, .inl (fun _ => 0))), ((v 9), .inl (cy 0, 9, .inl (fun _ => 0))), ((v 5), .inl (cy 0, 5, .inl (fun _ => 0)))] [0, 1, 2, 3, 4, 5, 6, 7]) (wr := [(o, .inl (cy 6, 1, .inr (.inl u4)))]) rfl rfl (by decide) (k_runV 13 0 (As := [.int (xs 1)]) (rest := []) E lk_VRL_237 rfl rfl rfl (m_gone_ l hl0 D cy sa v (xs 1) H.size) (⟨hP, hD, hG, hS, hA, rfl, rfl⟩ : kAt D cy sa A s H _ _ [((v 0), .inr (13, [.int 0, .int 0, .int 0, .int (-1), .int 0, .int 0, .int 0, .int 0, .ref (v 1), .ref (v 2), .ref (v 3), .ref (v 4), .ref (v 5), .ref (v 6), .ref (v 7), .ref (v 8), .ref (v 9), .int 0, .int 0, .int 0, .int 0, .int 0, .int 0, .int 0, .int 0, .int 0, .ref (v 10), .ref (v 11), .ref (v 12), .ref (v 13), .int 0, .ref (v 14), .ref (v 15), .ref (v 16), .ref (v 17), .ref (v 18), .int 0, .int 0, .int 0, .ref (v 19), .ref (v 20), .ref (v 21), .ref (v 22), .ref (v 23), .int 0, .int 0, .int 0, .int 0])), ((v 13), .inl (cy 5, 2, .inr (.inr (.inr (.inr (fun i => if i < 2 then some ((v 13) + 1 + i) else none)))))), (((v 13) + 1 + 0), .inl (cy 0, 120, .inl (fun _ => 0))), ((v 6), .inl (cy 0, 9, .inl (fun _ => 0))), ((v 7), .inl (cy 0, 9, .inl (fun _ => 0))), ((v 8), .inl (cy 0, 9, .inl (fun _ => 0))), ((v 9), .inl (cy 0, 9, .inl (fun _ => 0))), ((v 5), .inl (cy 0, 5, .inl (fun _ => 0)))] [0, 1, 2, 3, 4, 5, 6, 7]) hl.1 rfl rfl ⟨rfl, rfl, ⟨Nat.le_of_ble_eq_true rfl, Nat.le_of_ble_eq_true rfl⟩, ⟨Nat.le_of_ble_eq_true rfl, Nat.le_of_ble_eq_true rfl⟩, Nat.le_of_ble_eq_true rfl⟩ dL_law_2318) (fun r7 u8 H locs hwu8 hP hD hS => ?_)
    have hP : va_P D vwCl [(o, .inl (cy 6, 1, .inr (.inl u4))), ((v 0), .inr (13, .int u8.1 :: u8.2))] H := hP
    have hD : va_D A [(o, .inl (cy 6, 1, .inr (.inl u4))), ((v 0), .inr (13, .int u8.1 :: u8.2))] := hD
    refine lv_istore (lv' := [(6, .int r7), (5, .int r3), (0, .ref b), (1, .ref (u 0)), (2, .ref (v 0)), (3, .ref o), (4, .int 0)]) hx hb dL_law_2321 hl (by decide) rfl (fun ls hl => ?_)
    refine lv_aload_n hx hb dL_law_2323 rfl (lv_at hl 4 rfl) ?_
    refine k_cali [0] (⟨hP, hD, hG, hS, hA, rfl, rfl⟩ : kAt D cy sa A s H _ _ [((v 0), .inr (13, .int u8.1 :: u8.2))] [1]) (wr := [(o, .inl (cy 6, 1, .inr (.inl u4)))]) rfl rfl (by decide) (k_runV 13 1 (As := []) (rest := []) E lk_VRL_127 rfl rfl rfl (m_thrown l hl0 D cy sa v u8.1 u8.2 H.size) (⟨hP, hD, hG, hS, hA, rfl, rfl⟩ : kAt D cy sa A s H _ _ [((v 0), .inr (13, .int u8.1 :: u8.2))] [1]) hl.1 rfl rfl ⟨rfl, rfl, ⟨Nat.le_of_ble_eq_true rfl, Nat.le_of_ble_eq_true rfl⟩, ⟨Nat.le_of_ble_eq_true rfl, Nat.le_of_ble_eq_true rfl⟩, Nat.le_of_ble_eq_true rfl⟩ dL_law_2324) (fun r9 u10 H locs hwu10 hP hD hS => ?_)
    have hP : va_P D vwCl [(o, .inl (cy 6, 1, .inr (.inl u4)))] H := hP
    have hD : va_D A [(o, .inl (cy 6, 1, .inr (.inl u4)))] := hD
    rcases hwu4 with ⟨rfl, x9, hx9, hf9⟩ | ⟨rfl, hpx⟩
    · obtain ⟨ht9, hr9⟩ := hwu8.1 (hx9.1)
      obtain rfl : r9 = 0 := hwu10.trans ht9
      have heq : x9 = r7 := hx9.2.trans hr9.symm
      refine lv_iload hx hb dL_law_2327 (lv_at hl 1 rfl) ?_
      refine lv_icmp_eq (tgt := 2334) hx hb dL_law_2329 (by decide) (fun _ => ?_) (fun h => absurd (by decide) h)
      refine lv_iload hx hb dL_law_2334 (lv_at hl 1 rfl) ?_
      refine lv_if_ne (tgt := 2351) hx hb dL_law_2336 (by decide) (fun h => absurd (by decide) h) (fun _ => ?_)
      refine lv_aload_n hx hb dL_law_2339 rfl (lv_at hl 5 rfl) ?_
      refine lv_iconst (v := 0) hx hb dL_law_2340 (by decide) ?_
      refine va_lald hx hb hG.1 hP 0 6 rfl rfl (by unfold vp_in; decide) dL_law_2341 ?_
      refine W.eq (g2 := F0 m 2342 ls [.long (u4 0)]) rfl ?_
      refine lv_iload hx hb dL_law_2342 (lv_at hl 0 rfl) ?_
      refine lv_i2l (v := (r7 : Int32).toInt64) hx hb dL_law_2344 rfl ?_
      refine W.lcmp hx hb dL_law_2345 ?_
      refine lv_topi (fun x11 ex11 => ?_)
      obtain rfl : x11 = 0 := ex11.trans (by rw [hf9, heq]; exact k_cmp _)
      refine lv_if_eq (tgt := 2351) hx hb dL_law_2346 (by decide) (fun _ => ?_) (fun h => absurd (by decide) h)
      refine lv_goto (tgt := 2418) hx hb dL_law_2351 (by decide) ?_
      refine lv_iinc (v := 6) (lv' := [(4, .int 6), (6, .int r7), (5, .int 0), (0, .ref b), (1, .ref (u 0)), (2, .ref (v 0)), (3, .ref o)]) hx hb dL_law_2418 hl (k := 6) rfl (by decide) (by decide) rfl (fun ls hl => ?_)
      refine lv_goto (tgt := 23) hx hb dL_law_2421 (by decide) ?_
      exact law_exit E hX hbl hbA hAs hS (i := 6) (by decide) (lv_at hl 3 rfl) (lv_at hl 0 rfl) (by decide) (by decide)
    · obtain rfl : r9 = 1 := hwu10.trans (hwu8.2 (fun h => absurd h hpx))
      refine lv_iload hx hb dL_law_2327 (lv_at hl 1 rfl) ?_
      refine lv_icmp_eq (tgt := 2334) hx hb dL_law_2329 (by decide) (fun _ => ?_) (fun h => absurd (by decide) h)
      refine lv_iload hx hb dL_law_2334 (lv_at hl 1 rfl) ?_
      refine lv_if_ne (tgt := 2351) hx hb dL_law_2336 (by decide) (fun _ => ?_) (fun h => absurd h (by decide))
      refine lv_goto (tgt := 2418) hx hb dL_law_2351 (by decide) ?_
      refine lv_iinc (v := 6) (lv' := [(4, .int 6), (6, .int r7), (5, .int 1), (0, .ref b), (1, .ref (u 0)), (2, .ref (v 0)), (3, .ref o)]) hx hb dL_law_2418 hl (k := 6) rfl (by decide) (by decide) rfl (fun ls hl => ?_)
      refine lv_goto (tgt := 23) hx hb dL_law_2421 (by decide) ?_
      exact law_exit E hX hbl hbA hAs hS (i := 6) (by decide) (lv_at hl 3 rfl) (lv_at hl 0 rfl) (by decide) (by decide)

set_option maxHeartbeats 4000000 in
set_option maxRecDepth 100000 in
/-- the law: over -/
theorem law_case_35 {p : Program} {l : Launch} {e : Env} {s : State} {m : MethodId} {below : List Frame} {meth : Method} {c : Code} {D : va_G} {cy : Nat → ClassId} {sa : Nat → Nat} {b : Nat} {xs : Nat → Int32} (hl0 : l.stackTraces = false) (E : kE yL_law cL_law 7 (some .boolean) #[Value.ref b] p s m meth c) (hX : va_X b 6 xs s s.heap) (hbl : b < s.heap.size) (hG : kG D cy sa (fun q => s.heap.size ≤ q) s) (u v : Nat → Nat) (o : Nat) (H : Heap) (locs : List Loc) (hP : va_P D vwCl [((u 0), .inr (12, [.ref (u 1), .int 0, .int (-1), .ref (u 2), .ref (u 3), .ref (u 4), .ref (u 5), .ref (u 6), .ref (u 7), .ref (u 8), .int 0, .ref (u 9), .ref (u 10), .ref (u 11), .ref (u 12), .ref (u 13), .ref (u 14)])), ((u 3), .inr (4, [.ref (u 15), .ref (u 16), .ref (u 17), .ref (u 18), .ref (u 19), .ref (u 20), .ref (u 21), .ref (u 22), .ref (u 23), .ref (u 24), .ref (u 25), .ref (u 26), .int 0, .int 0, .int 0, .int 0, .int 0])), ((u 5), .inr (7, [.ref (u 39), .ref (u 40), .int 0, .int 0, .int 0, .int 0, .int 0, .int 0, .int 0, .int 0])), ((v 0), .inr (13, [.int 0, .int 0, .int 0, .int (-1), .int 0, .int 0, .int 0, .int 0, .ref (v 1), .ref (v 2), .ref (v 3), .ref (v 4), .ref (v 5), .ref (v 6), .ref (v 7), .ref (v 8), .ref (v 9), .int 0, .int 0, .int 0, .int 0, .int 0, .int 0, .int 0, .int 0, .int 0, .ref (v 10), .ref (v 11), .ref (v 12), .ref (v 13), .int 0, .ref (v 14), .ref (v 15), .ref (v 16), .ref (v 17), .ref (v 18), .int 0, .int 0, .int 0, .ref (v 19), .ref (v 20), .ref (v 21), .ref (v 22), .ref (v 23), .int 0, .int 0, .int 0, .int 0])), ((v 5), .inl (cy 0, 5, .inl (fun _ => 0))), (o, .inl (cy 6, 1, .inr (.inl (fun _ => 0))))] H) (hD : va_D (fun q => s.heap.size ≤ q) [((u 0), .inr (12, [.ref (u 1), .int 0, .int (-1), .ref (u 2), .ref (u 3), .ref (u 4), .ref (u 5), .ref (u 6), .ref (u 7), .ref (u 8), .int 0, .ref (u 9), .ref (u 10), .ref (u 11), .ref (u 12), .ref (u 13), .ref (u 14)])), ((u 3), .inr (4, [.ref (u 15), .ref (u 16), .ref (u 17), .ref (u 18), .ref (u 19), .ref (u 20), .ref (u 21), .ref (u 22), .ref (u 23), .ref (u 24), .ref (u 25), .ref (u 26), .int 0, .int 0, .int 0, .int 0, .int 0])), ((u 5), .inr (7, [.ref (u 39), .ref (u 40), .int 0, .int 0, .int 0, .int 0, .int 0, .int 0, .int 0, .int 0])), ((v 0), .inr (13, [.int 0, .int 0, .int 0, .int (-1), .int 0, .int 0, .int 0, .int 0, .ref (v 1), .ref (v 2), .ref (v 3), .ref (v 4), .ref (v 5), .ref (v 6), .ref (v 7), .ref (v 8), .ref (v 9), .int 0, .int 0, .int 0, .int 0, .int 0, .int 0, .int 0, .int 0, .int 0, .ref (v 10), .ref (v 11), .ref (v 12), .ref (v 13), .int 0, .ref (v 14), .ref (v 15), .ref (v 16), .ref (v 17), .ref (v 18), .int 0, .int 0, .int 0, .ref (v 19), .ref (v 20), .ref (v 21), .ref (v 22), .ref (v 23), .int 0, .int 0, .int 0, .int 0])), ((v 5), .inl (cy 0, 5, .inl (fun _ => 0))), (o, .inl (cy 6, 1, .inr (.inl (fun _ => 0))))]) (hS : va_S (fun q => s.heap.size ≤ q) s.heap H locs) (ls : Array Slot) (hl : lv_has ls 7 [(0, .ref b), (1, .ref (u 0)), (2, .ref (v 0)), (3, .ref o), (4, .int 0)]) : W p l e room_1 s m #[Value.ref b] below meth c H locs 179 322202 (lw_Z below #[Value.ref b] s) (F0 m 2354 ls []) := by
  obtain ⟨A, hAe⟩ : ∃ A : Nat → Prop, A = fun q => s.heap.size ≤ q := ⟨_, rfl⟩
  rw [← hAe] at hG hD hS
  have hA : ∀ q, s.heap.size ≤ q → A q := fun q h => by rw [hAe]; exact h
  have hAs : ∀ q, A q → s.heap.size ≤ q := fun q h => by rw [hAe] at h; exact h
  have hbA : ¬ A b := by rw [hAe]; exact Nat.not_le.mpr hbl
  obtain ⟨hx, hb, hml, hown, hts, hr, hlk, hnm⟩ := id E
  have hown : s.vm.findClass RL = some m.cls := hown
  refine lv_aload_n hx hb dL_law_2354 rfl (lv_at hl 1 rfl) ?_
  refine k_cali [3, 4, 5] (⟨hP, hD, hG, hS, hA, rfl, rfl⟩ : kAt D cy sa A s H _ _ [((u 0), .inr (12, [.ref (u 1), .int 0, .int (-1), .ref (u 2), .ref (u 3), .ref (u 4), .ref (u 5), .ref (u 6), .ref (u 7), .ref (u 8), .int 0, .ref (u 9), .ref (u 10), .ref (u 11), .ref (u 12), .ref (u 13), .ref (u 14)])), ((u 3), .inr (4, [.ref (u 15), .ref (u 16), .ref (u 17), .ref (u 18), .ref (u 19), .ref (u 20), .ref (u 21), .ref (u 22), .ref (u 23), .ref (u 24), .ref (u 25), .ref (u 26), .int 0, .int 0, .int 0, .int 0, .int 0])), ((u 5), .inr (7, [.ref (u 39), .ref (u 40), .int 0, .int 0, .int 0, .int 0, .int 0, .int 0, .int 0, .int 0]))] [0, 1, 2]) (wr := [((v 0), .inr (13, [.int 0, .int 0, .int 0, .int (-1), .int 0, .int 0, .int 0, .int 0, .ref (v 1), .ref (v 2), .ref (v 3), .ref (v 4), .ref (v 5), .ref (v 6), .ref (v 7), .ref (v 8), .ref (v 9), .int 0, .int 0, .int 0, .int 0, .int 0, .int 0, .int 0, .int 0, .int 0, .ref (v 10), .ref (v 11), .ref (v 12), .ref (v 13), .int 0, .ref (v 14), .ref (v 15), .ref (v 16), .ref (v 17), .ref (v 18), .int 0, .int 0, .int 0, .ref (v 19), .ref (v 20), .ref (v 21), .ref (v 22), .ref (v 23), .int 0, .int 0, .int 0, .int 0])), ((v 5), .inl (cy 0, 5, .inl (fun _ => 0))), (o, .inl (cy 6, 1, .inr (.inl (fun _ => 0))))]) rfl rfl (by decide) (k_runV 12 0 (As := []) (rest := []) E lk_VRL_238 rfl rfl rfl (c_LM_over l hl0 D cy sa u  H.size) (⟨hP, hD, hG, hS, hA, rfl, rfl⟩ : kAt D cy sa A s H _ _ [((u 0), .inr (12, [.ref (u 1), .int 0, .int (-1), .ref (u 2), .ref (u 3), .ref (u 4), .ref (u 5), .ref (u 6), .ref (u 7), .ref (u 8), .int 0, .ref (u 9), .ref (u 10), .ref (u 11), .ref (u 12), .ref (u 13), .ref (u 14)])), ((u 3), .inr (4, [.ref (u 15), .ref (u 16), .ref (u 17), .ref (u 18), .ref (u 19), .ref (u 20), .ref (u 21), .ref (u 22), .ref (u 23), .ref (u 24), .ref (u 25), .ref (u 26), .int 0, .int 0, .int 0, .int 0, .int 0])), ((u 5), .inr (7, [.ref (u 39), .ref (u 40), .int 0, .int 0, .int 0, .int 0, .int 0, .int 0, .int 0, .int 0]))] [0, 1, 2]) hl.1 rfl rfl ⟨rfl, rfl, ⟨Nat.le_of_ble_eq_true rfl, Nat.le_of_ble_eq_true rfl⟩, ⟨Nat.le_of_ble_eq_true rfl, Nat.le_of_ble_eq_true rfl⟩, Nat.le_of_ble_eq_true rfl⟩ dL_law_2355) (fun r1 u2 H locs hwu2 hP hD hS => ?_)
  have hP : va_P D vwCl [((v 0), .inr (13, [.int 0, .int 0, .int 0, .int (-1), .int 0, .int 0, .int 0, .int 0, .ref (v 1), .ref (v 2), .ref (v 3), .ref (v 4), .ref (v 5), .ref (v 6), .ref (v 7), .ref (v 8), .ref (v 9), .int 0, .int 0, .int 0, .int 0, .int 0, .int 0, .int 0, .int 0, .int 0, .ref (v 10), .ref (v 11), .ref (v 12), .ref (v 13), .int 0, .ref (v 14), .ref (v 15), .ref (v 16), .ref (v 17), .ref (v 18), .int 0, .int 0, .int 0, .ref (v 19), .ref (v 20), .ref (v 21), .ref (v 22), .ref (v 23), .int 0, .int 0, .int 0, .int 0])), ((v 5), .inl (cy 0, 5, .inl (fun _ => 0))), (o, .inl (cy 6, 1, .inr (.inl (fun _ => 0))))] H := hP
  have hD : va_D A [((v 0), .inr (13, [.int 0, .int 0, .int 0, .int (-1), .int 0, .int 0, .int 0, .int 0, .ref (v 1), .ref (v 2), .ref (v 3), .ref (v 4), .ref (v 5), .ref (v 6), .ref (v 7), .ref (v 8), .ref (v 9), .int 0, .int 0, .int 0, .int 0, .int 0, .int 0, .int 0, .int 0, .int 0, .ref (v 10), .ref (v 11), .ref (v 12), .ref (v 13), .int 0, .ref (v 14), .ref (v 15), .ref (v 16), .ref (v 17), .ref (v 18), .int 0, .int 0, .int 0, .ref (v 19), .ref (v 20), .ref (v 21), .ref (v 22), .ref (v 23), .int 0, .int 0, .int 0, .int 0])), ((v 5), .inl (cy 0, 5, .inl (fun _ => 0))), (o, .inl (cy 6, 1, .inr (.inl (fun _ => 0))))] := hD
  refine lv_aload_n hx hb dL_law_2358 rfl (lv_at hl 2 rfl) ?_
  refine k_cali [2] (⟨hP, hD, hG, hS, hA, rfl, rfl⟩ : kAt D cy sa A s H _ _ [((v 0), .inr (13, [.int 0, .int 0, .int 0, .int (-1), .int 0, .int 0, .int 0, .int 0, .ref (v 1), .ref (v 2), .ref (v 3), .ref (v 4), .ref (v 5), .ref (v 6), .ref (v 7), .ref (v 8), .ref (v 9), .int 0, .int 0, .int 0, .int 0, .int 0, .int 0, .int 0, .int 0, .int 0, .ref (v 10), .ref (v 11), .ref (v 12), .ref (v 13), .int 0, .ref (v 14), .ref (v 15), .ref (v 16), .ref (v 17), .ref (v 18), .int 0, .int 0, .int 0, .ref (v 19), .ref (v 20), .ref (v 21), .ref (v 22), .ref (v 23), .int 0, .int 0, .int 0, .int 0])), ((v 5), .inl (cy 0, 5, .inl (fun _ => 0)))] [0, 1]) (wr := [(o, .inl (cy 6, 1, .inr (.inl (fun _ => 0))))]) rfl rfl (by decide) (k_runV 13 0 (As := []) (rest := [.int r1]) E lk_VRL_241 rfl rfl rfl (m_over_ l hl0 D cy sa v  H.size) (⟨hP, hD, hG, hS, hA, rfl, rfl⟩ : kAt D cy sa A s H _ _ [((v 0), .inr (13, [.int 0, .int 0, .int 0, .int (-1), .int 0, .int 0, .int 0, .int 0, .ref (v 1), .ref (v 2), .ref (v 3), .ref (v 4), .ref (v 5), .ref (v 6), .ref (v 7), .ref (v 8), .ref (v 9), .int 0, .int 0, .int 0, .int 0, .int 0, .int 0, .int 0, .int 0, .int 0, .ref (v 10), .ref (v 11), .ref (v 12), .ref (v 13), .int 0, .ref (v 14), .ref (v 15), .ref (v 16), .ref (v 17), .ref (v 18), .int 0, .int 0, .int 0, .ref (v 19), .ref (v 20), .ref (v 21), .ref (v 22), .ref (v 23), .int 0, .int 0, .int 0, .int 0])), ((v 5), .inl (cy 0, 5, .inl (fun _ => 0)))] [0, 1]) hl.1 rfl rfl ⟨rfl, rfl, ⟨Nat.le_of_ble_eq_true rfl, Nat.le_of_ble_eq_true rfl⟩, ⟨Nat.le_of_ble_eq_true rfl, Nat.le_of_ble_eq_true rfl⟩, Nat.le_of_ble_eq_true rfl⟩ dL_law_2359) (fun r3 u4 H locs hwu4 hP hD hS => ?_)
  have hP : va_P D vwCl [(o, .inl (cy 6, 1, .inr (.inl (fun _ => 0)))), ((v 0), .inr (13, .int u4.1 :: u4.2))] H := hP
  have hD : va_D A [(o, .inl (cy 6, 1, .inr (.inl (fun _ => 0)))), ((v 0), .inr (13, .int u4.1 :: u4.2))] := hD
  have heq : r1 = r3 := hwu2.trans (hwu4.1 trivial).2.symm
  refine lv_icmp_eq (tgt := 2418) hx hb dL_law_2362 (by decide) (fun _ => ?_) (fun h => absurd heq h)
  refine lv_iinc (v := 6) (lv' := [(4, .int 6), (0, .ref b), (1, .ref (u 0)), (2, .ref (v 0)), (3, .ref o)]) hx hb dL_law_2418 hl (k := 4) rfl (by decide) (by decide) rfl (fun ls hl => ?_)
  refine lv_goto (tgt := 23) hx hb dL_law_2421 (by decide) ?_
  exact law_exit E hX hbl hbA hAs hS (i := 6) (by decide) (lv_at hl 1 rfl) (lv_at hl 0 rfl) (by decide) (by decide)

set_option maxHeartbeats 4000000 in
set_option maxRecDepth 100000 in
/-- the law: image -/
theorem law_case_36 {p : Program} {l : Launch} {e : Env} {s : State} {m : MethodId} {below : List Frame} {meth : Method} {c : Code} {D : va_G} {cy : Nat → ClassId} {sa : Nat → Nat} {b : Nat} {xs : Nat → Int32} (hl0 : l.stackTraces = false) (E : kE yL_law cL_law 7 (some .boolean) #[Value.ref b] p s m meth c) (hX : va_X b 6 xs s s.heap) (hbl : b < s.heap.size) (hG : kG D cy sa (fun q => s.heap.size ≤ q) s) (u v : Nat → Nat) (o : Nat) (H : Heap) (locs : List Loc) (hP : va_P D vwCl [((u 0), .inr (12, [.ref (u 1), .int 0, .int (-1), .ref (u 2), .ref (u 3), .ref (u 4), .ref (u 5), .ref (u 6), .ref (u 7), .ref (u 8), .int 0, .ref (u 9), .ref (u 10), .ref (u 11), .ref (u 12), .ref (u 13), .ref (u 14)])), ((u 7), .inl (cy 3, 3, .inr (.inr (.inr (.inr (va_up (va_up (va_up (fun _ => none) 0 (some (u 46))) 1 (some (u 47))) 2 (some (u 48)))))))), ((u 8), .inl (cy 4, 3, .inr (.inr (.inr (.inr (va_up (va_up (va_up (fun _ => none) 0 (some (u 55))) 1 (some (u 56))) 2 (some (u 57)))))))), ((u 46), .inr (7, [.ref (u 49), .ref (u 50), .int 0, .int 0, .int 0, .int 0, .int 0, .int 0, .int 0, .int 0])), ((u 49), .inl (cy 0, 9, .inl (fun _ => 0))), ((u 50), .inl (cy 0, 9, .inl (fun _ => 0))), ((u 5), .inr (7, [.ref (u 39), .ref (u 40), .int 0, .int 0, .int 0, .int 0, .int 0, .int 0, .int 0, .int 0])), ((u 39), .inl (cy 0, 9, .inl (fun _ => 0))), ((u 40), .inl (cy 0, 9, .inl (fun _ => 0))), ((u 55), .inr (8, [.ref (u 58), .ref (u 59), .int 0, .ref (u 60), .ref (u 61), .int 0, .ref (u 62)])), ((u 58), .inl (cy 0, 30, .inl (fun _ => 0))), ((u 59), .inl (cy 0, 30, .inl (fun _ => 0))), ((u 60), .inl (cy 0, 6, .inl (fun _ => 0))), ((u 61), .inl (cy 0, 6, .inl (fun _ => 0))), ((u 6), .inr (8, [.ref (u 41), .ref (u 42), .int 0, .ref (u 43), .ref (u 44), .int 0, .ref (u 45)])), ((u 41), .inl (cy 0, 30, .inl (fun _ => 0))), ((u 42), .inl (cy 0, 30, .inl (fun _ => 0))), ((u 43), .inl (cy 0, 6, .inl (fun _ => 0))), ((u 44), .inl (cy 0, 6, .inl (fun _ => 0))), ((v 10), .inl (cy 5, 30, .inr (.inr (.inr (.inr (fun i => if i < 30 then some ((v 10) + 1 + i) else none)))))), (((v 10) + 1 + 0), .inl (cy 0, 2, .inl (fun _ => 0))), (((v 10) + 1 + 1), .inl (cy 0, 2, .inl (fun _ => 0))), (((v 10) + 1 + 2), .inl (cy 0, 2, .inl (fun _ => 0))), (((v 10) + 1 + 3), .inl (cy 0, 2, .inl (fun _ => 0))), (((v 10) + 1 + 4), .inl (cy 0, 2, .inl (fun _ => 0))), (((v 10) + 1 + 5), .inl (cy 0, 2, .inl (fun _ => 0))), (((v 10) + 1 + 6), .inl (cy 0, 2, .inl (fun _ => 0))), (((v 10) + 1 + 7), .inl (cy 0, 2, .inl (fun _ => 0))), (((v 10) + 1 + 8), .inl (cy 0, 2, .inl (fun _ => 0))), (((v 10) + 1 + 9), .inl (cy 0, 2, .inl (fun _ => 0))), (((v 10) + 1 + 10), .inl (cy 0, 2, .inl (fun _ => 0))), (((v 10) + 1 + 11), .inl (cy 0, 2, .inl (fun _ => 0))), (((v 10) + 1 + 12), .inl (cy 0, 2, .inl (fun _ => 0))), (((v 10) + 1 + 13), .inl (cy 0, 2, .inl (fun _ => 0))), (((v 10) + 1 + 14), .inl (cy 0, 2, .inl (fun _ => 0))), (((v 10) + 1 + 15), .inl (cy 0, 2, .inl (fun _ => 0))), (((v 10) + 1 + 16), .inl (cy 0, 2, .inl (fun _ => 0))), (((v 10) + 1 + 17), .inl (cy 0, 2, .inl (fun _ => 0))), (((v 10) + 1 + 18), .inl (cy 0, 2, .inl (fun _ => 0))), (((v 10) + 1 + 19), .inl (cy 0, 2, .inl (fun _ => 0))), (((v 10) + 1 + 20), .inl (cy 0, 2, .inl (fun _ => 0))), (((v 10) + 1 + 21), .inl (cy 0, 2, .inl (fun _ => 0))), (((v 10) + 1 + 22), .inl (cy 0, 2, .inl (fun _ => 0))), (((v 10) + 1 + 23), .inl (cy 0, 2, .inl (fun _ => 0))), (((v 10) + 1 + 24), .inl (cy 0, 2, .inl (fun _ => 0))), (((v 10) + 1 + 25), .inl (cy 0, 2, .inl (fun _ => 0))), (((v 10) + 1 + 26), .inl (cy 0, 2, .inl (fun _ => 0))), (((v 10) + 1 + 27), .inl (cy 0, 2, .inl (fun _ => 0))), (((v 10) + 1 + 28), .inl (cy 0, 2, .inl (fun _ => 0))), (((v 10) + 1 + 29), .inl (cy 0, 2, .inl (fun _ => 0))), ((v 11), .inl (cy 5, 6, .inr (.inr (.inr (.inr (fun i => if i < 6 then some ((v 11) + 1 + i) else none)))))), (((v 11) + 1 + 0), .inl (cy 0, 2, .inl (fun _ => 0))), (((v 11) + 1 + 1), .inl (cy 0, 2, .inl (fun _ => 0))), (((v 11) + 1 + 2), .inl (cy 0, 2, .inl (fun _ => 0))), (((v 11) + 1 + 3), .inl (cy 0, 2, .inl (fun _ => 0))), (((v 11) + 1 + 4), .inl (cy 0, 2, .inl (fun _ => 0))), (((v 11) + 1 + 5), .inl (cy 0, 2, .inl (fun _ => 0))), ((v 0), .inr (13, [.int 0, .int 0, .int 0, .int (-1), .int 0, .int 0, .int 0, .int 0, .ref (v 1), .ref (v 2), .ref (v 3), .ref (v 4), .ref (v 5), .ref (v 6), .ref (v 7), .ref (v 8), .ref (v 9), .int 0, .int 0, .int 0, .int 0, .int 0, .int 0, .int 0, .int 0, .int 0, .ref (v 10), .ref (v 11), .ref (v 12), .ref (v 13), .int 0, .ref (v 14), .ref (v 15), .ref (v 16), .ref (v 17), .ref (v 18), .int 0, .int 0, .int 0, .ref (v 19), .ref (v 20), .ref (v 21), .ref (v 22), .ref (v 23), .int 0, .int 0, .int 0, .int 0])), ((v 12), .inl (cy 5, 3, .inr (.inr (.inr (.inr (fun i => if i < 3 then some ((v 12) + 1 + i) else none)))))), (((v 12) + 1 + 0), .inl (cy 0, 120, .inl (fun _ => 0))), ((v 6), .inl (cy 0, 9, .inl (fun _ => 0))), ((v 7), .inl (cy 0, 9, .inl (fun _ => 0))), ((v 8), .inl (cy 0, 9, .inl (fun _ => 0))), ((v 9), .inl (cy 0, 9, .inl (fun _ => 0))), (o, .inl (cy 6, 1, .inr (.inl (fun _ => 0))))] H) (hD : va_D (fun q => s.heap.size ≤ q) [((u 0), .inr (12, [.ref (u 1), .int 0, .int (-1), .ref (u 2), .ref (u 3), .ref (u 4), .ref (u 5), .ref (u 6), .ref (u 7), .ref (u 8), .int 0, .ref (u 9), .ref (u 10), .ref (u 11), .ref (u 12), .ref (u 13), .ref (u 14)])), ((u 7), .inl (cy 3, 3, .inr (.inr (.inr (.inr (va_up (va_up (va_up (fun _ => none) 0 (some (u 46))) 1 (some (u 47))) 2 (some (u 48)))))))), ((u 8), .inl (cy 4, 3, .inr (.inr (.inr (.inr (va_up (va_up (va_up (fun _ => none) 0 (some (u 55))) 1 (some (u 56))) 2 (some (u 57)))))))), ((u 46), .inr (7, [.ref (u 49), .ref (u 50), .int 0, .int 0, .int 0, .int 0, .int 0, .int 0, .int 0, .int 0])), ((u 49), .inl (cy 0, 9, .inl (fun _ => 0))), ((u 50), .inl (cy 0, 9, .inl (fun _ => 0))), ((u 5), .inr (7, [.ref (u 39), .ref (u 40), .int 0, .int 0, .int 0, .int 0, .int 0, .int 0, .int 0, .int 0])), ((u 39), .inl (cy 0, 9, .inl (fun _ => 0))), ((u 40), .inl (cy 0, 9, .inl (fun _ => 0))), ((u 55), .inr (8, [.ref (u 58), .ref (u 59), .int 0, .ref (u 60), .ref (u 61), .int 0, .ref (u 62)])), ((u 58), .inl (cy 0, 30, .inl (fun _ => 0))), ((u 59), .inl (cy 0, 30, .inl (fun _ => 0))), ((u 60), .inl (cy 0, 6, .inl (fun _ => 0))), ((u 61), .inl (cy 0, 6, .inl (fun _ => 0))), ((u 6), .inr (8, [.ref (u 41), .ref (u 42), .int 0, .ref (u 43), .ref (u 44), .int 0, .ref (u 45)])), ((u 41), .inl (cy 0, 30, .inl (fun _ => 0))), ((u 42), .inl (cy 0, 30, .inl (fun _ => 0))), ((u 43), .inl (cy 0, 6, .inl (fun _ => 0))), ((u 44), .inl (cy 0, 6, .inl (fun _ => 0))), ((v 10), .inl (cy 5, 30, .inr (.inr (.inr (.inr (fun i => if i < 30 then some ((v 10) + 1 + i) else none)))))), (((v 10) + 1 + 0), .inl (cy 0, 2, .inl (fun _ => 0))), (((v 10) + 1 + 1), .inl (cy 0, 2, .inl (fun _ => 0))), (((v 10) + 1 + 2), .inl (cy 0, 2, .inl (fun _ => 0))), (((v 10) + 1 + 3), .inl (cy 0, 2, .inl (fun _ => 0))), (((v 10) + 1 + 4), .inl (cy 0, 2, .inl (fun _ => 0))), (((v 10) + 1 + 5), .inl (cy 0, 2, .inl (fun _ => 0))), (((v 10) + 1 + 6), .inl (cy 0, 2, .inl (fun _ => 0))), (((v 10) + 1 + 7), .inl (cy 0, 2, .inl (fun _ => 0))), (((v 10) + 1 + 8), .inl (cy 0, 2, .inl (fun _ => 0))), (((v 10) + 1 + 9), .inl (cy 0, 2, .inl (fun _ => 0))), (((v 10) + 1 + 10), .inl (cy 0, 2, .inl (fun _ => 0))), (((v 10) + 1 + 11), .inl (cy 0, 2, .inl (fun _ => 0))), (((v 10) + 1 + 12), .inl (cy 0, 2, .inl (fun _ => 0))), (((v 10) + 1 + 13), .inl (cy 0, 2, .inl (fun _ => 0))), (((v 10) + 1 + 14), .inl (cy 0, 2, .inl (fun _ => 0))), (((v 10) + 1 + 15), .inl (cy 0, 2, .inl (fun _ => 0))), (((v 10) + 1 + 16), .inl (cy 0, 2, .inl (fun _ => 0))), (((v 10) + 1 + 17), .inl (cy 0, 2, .inl (fun _ => 0))), (((v 10) + 1 + 18), .inl (cy 0, 2, .inl (fun _ => 0))), (((v 10) + 1 + 19), .inl (cy 0, 2, .inl (fun _ => 0))), (((v 10) + 1 + 20), .inl (cy 0, 2, .inl (fun _ => 0))), (((v 10) + 1 + 21), .inl (cy 0, 2, .inl (fun _ => 0))), (((v 10) + 1 + 22), .inl (cy 0, 2, .inl (fun _ => 0))), (((v 10) + 1 + 23), .inl (cy 0, 2, .inl (fun _ => 0))), (((v 10) + 1 + 24), .inl (cy 0, 2, .inl (fun _ => 0))), (((v 10) + 1 + 25), .inl (cy 0, 2, .inl (fun _ => 0))), (((v 10) + 1 + 26), .inl (cy 0, 2, .inl (fun _ => 0))), (((v 10) + 1 + 27), .inl (cy 0, 2, .inl (fun _ => 0))), (((v 10) + 1 + 28), .inl (cy 0, 2, .inl (fun _ => 0))), (((v 10) + 1 + 29), .inl (cy 0, 2, .inl (fun _ => 0))), ((v 11), .inl (cy 5, 6, .inr (.inr (.inr (.inr (fun i => if i < 6 then some ((v 11) + 1 + i) else none)))))), (((v 11) + 1 + 0), .inl (cy 0, 2, .inl (fun _ => 0))), (((v 11) + 1 + 1), .inl (cy 0, 2, .inl (fun _ => 0))), (((v 11) + 1 + 2), .inl (cy 0, 2, .inl (fun _ => 0))), (((v 11) + 1 + 3), .inl (cy 0, 2, .inl (fun _ => 0))), (((v 11) + 1 + 4), .inl (cy 0, 2, .inl (fun _ => 0))), (((v 11) + 1 + 5), .inl (cy 0, 2, .inl (fun _ => 0))), ((v 0), .inr (13, [.int 0, .int 0, .int 0, .int (-1), .int 0, .int 0, .int 0, .int 0, .ref (v 1), .ref (v 2), .ref (v 3), .ref (v 4), .ref (v 5), .ref (v 6), .ref (v 7), .ref (v 8), .ref (v 9), .int 0, .int 0, .int 0, .int 0, .int 0, .int 0, .int 0, .int 0, .int 0, .ref (v 10), .ref (v 11), .ref (v 12), .ref (v 13), .int 0, .ref (v 14), .ref (v 15), .ref (v 16), .ref (v 17), .ref (v 18), .int 0, .int 0, .int 0, .ref (v 19), .ref (v 20), .ref (v 21), .ref (v 22), .ref (v 23), .int 0, .int 0, .int 0, .int 0])), ((v 12), .inl (cy 5, 3, .inr (.inr (.inr (.inr (fun i => if i < 3 then some ((v 12) + 1 + i) else none)))))), (((v 12) + 1 + 0), .inl (cy 0, 120, .inl (fun _ => 0))), ((v 6), .inl (cy 0, 9, .inl (fun _ => 0))), ((v 7), .inl (cy 0, 9, .inl (fun _ => 0))), ((v 8), .inl (cy 0, 9, .inl (fun _ => 0))), ((v 9), .inl (cy 0, 9, .inl (fun _ => 0))), (o, .inl (cy 6, 1, .inr (.inl (fun _ => 0))))]) (hS : va_S (fun q => s.heap.size ≤ q) s.heap H locs) (ls : Array Slot) (hl : lv_has ls 7 [(0, .ref b), (1, .ref (u 0)), (2, .ref (v 0)), (3, .ref o), (4, .int 0)]) : W p l e room_1 s m #[Value.ref b] below meth c H locs 179 322202 (lw_Z below #[Value.ref b] s) (F0 m 2367 ls []) := by
  obtain ⟨A, hAe⟩ : ∃ A : Nat → Prop, A = fun q => s.heap.size ≤ q := ⟨_, rfl⟩
  rw [← hAe] at hG hD hS
  have hA : ∀ q, s.heap.size ≤ q → A q := fun q h => by rw [hAe]; exact h
  have hAs : ∀ q, A q → s.heap.size ≤ q := fun q h => by rw [hAe] at h; exact h
  have hbA : ¬ A b := by rw [hAe]; exact Nat.not_le.mpr hbl
  obtain ⟨hx, hb, hml, hown, hts, hr, hlk, hnm⟩ := id E
  have hown : s.vm.findClass RL = some m.cls := hown
  refine lv_aload_n hx hb dL_law_2367 rfl (lv_at hl 1 rfl) ?_
  refine k_cali [19, 20, 21, 22, 23, 24, 25, 26, 27, 28, 29, 30, 31, 32, 33, 34, 35, 36, 37, 38, 39, 40, 41, 42, 43, 44, 45, 46, 47, 48, 49, 50, 51, 52, 53, 54, 55, 56, 57, 58, 59, 60, 61, 62, 63, 64] (⟨hP, hD, hG, hS, hA, rfl, rfl⟩ : kAt D cy sa A s H _ _ [((u 0), .inr (12, [.ref (u 1), .int 0, .int (-1), .ref (u 2), .ref (u 3), .ref (u 4), .ref (u 5), .ref (u 6), .ref (u 7), .ref (u 8), .int 0, .ref (u 9), .ref (u 10), .ref (u 11), .ref (u 12), .ref (u 13), .ref (u 14)])), ((u 7), .inl (cy 3, 3, .inr (.inr (.inr (.inr (va_up (va_up (va_up (fun _ => none) 0 (some (u 46))) 1 (some (u 47))) 2 (some (u 48)))))))), ((u 8), .inl (cy 4, 3, .inr (.inr (.inr (.inr (va_up (va_up (va_up (fun _ => none) 0 (some (u 55))) 1 (some (u 56))) 2 (some (u 57)))))))), ((u 46), .inr (7, [.ref (u 49), .ref (u 50), .int 0, .int 0, .int 0, .int 0, .int 0, .int 0, .int 0, .int 0])), ((u 49), .inl (cy 0, 9, .inl (fun _ => 0))), ((u 50), .inl (cy 0, 9, .inl (fun _ => 0))), ((u 5), .inr (7, [.ref (u 39), .ref (u 40), .int 0, .int 0, .int 0, .int 0, .int 0, .int 0, .int 0, .int 0])), ((u 39), .inl (cy 0, 9, .inl (fun _ => 0))), ((u 40), .inl (cy 0, 9, .inl (fun _ => 0))), ((u 55), .inr (8, [.ref (u 58), .ref (u 59), .int 0, .ref (u 60), .ref (u 61), .int 0, .ref (u 62)])), ((u 58), .inl (cy 0, 30, .inl (fun _ => 0))), ((u 59), .inl (cy 0, 30, .inl (fun _ => 0))), ((u 60), .inl (cy 0, 6, .inl (fun _ => 0))), ((u 61), .inl (cy 0, 6, .inl (fun _ => 0))), ((u 6), .inr (8, [.ref (u 41), .ref (u 42), .int 0, .ref (u 43), .ref (u 44), .int 0, .ref (u 45)])), ((u 41), .inl (cy 0, 30, .inl (fun _ => 0))), ((u 42), .inl (cy 0, 30, .inl (fun _ => 0))), ((u 43), .inl (cy 0, 6, .inl (fun _ => 0))), ((u 44), .inl (cy 0, 6, .inl (fun _ => 0)))] [0, 1, 2, 3, 4, 5, 6, 7, 8, 9, 10, 11, 12, 13, 14, 15, 16, 17, 18]) (wr := (toldW cy v ++ [((v 0), .inr (13, [.int 0, .int 0, .int 0, .int (-1), .int 0, .int 0, .int 0, .int 0, .ref (v 1), .ref (v 2), .ref (v 3), .ref (v 4), .ref (v 5), .ref (v 6), .ref (v 7), .ref (v 8), .ref (v 9), .int 0, .int 0, .int 0, .int 0, .int 0, .int 0, .int 0, .int 0, .int 0, .ref (v 10), .ref (v 11), .ref (v 12), .ref (v 13), .int 0, .ref (v 14), .ref (v 15), .ref (v 16), .ref (v 17), .ref (v 18), .int 0, .int 0, .int 0, .ref (v 19), .ref (v 20), .ref (v 21), .ref (v 22), .ref (v 23), .int 0, .int 0, .int 0, .int 0])), ((v 12), .inl (cy 5, 3, .inr (.inr (.inr (.inr (fun i => if i < 3 then some ((v 12) + 1 + i) else none)))))), (((v 12) + 1 + 0), .inl (cy 0, 120, .inl (fun _ => 0))), ((v 6), .inl (cy 0, 9, .inl (fun _ => 0))), ((v 7), .inl (cy 0, 9, .inl (fun _ => 0))), ((v 8), .inl (cy 0, 9, .inl (fun _ => 0))), ((v 9), .inl (cy 0, 9, .inl (fun _ => 0))), (o, .inl (cy 6, 1, .inr (.inl (fun _ => 0))))])) rfl rfl (by decide) (k_runV 12 0 (As := []) (rest := []) E lk_VRL_242 rfl rfl rfl (c_LM_image l hl0 D cy sa u  H.size) (⟨hP, hD, hG, hS, hA, rfl, rfl⟩ : kAt D cy sa A s H _ _ [((u 0), .inr (12, [.ref (u 1), .int 0, .int (-1), .ref (u 2), .ref (u 3), .ref (u 4), .ref (u 5), .ref (u 6), .ref (u 7), .ref (u 8), .int 0, .ref (u 9), .ref (u 10), .ref (u 11), .ref (u 12), .ref (u 13), .ref (u 14)])), ((u 7), .inl (cy 3, 3, .inr (.inr (.inr (.inr (va_up (va_up (va_up (fun _ => none) 0 (some (u 46))) 1 (some (u 47))) 2 (some (u 48)))))))), ((u 8), .inl (cy 4, 3, .inr (.inr (.inr (.inr (va_up (va_up (va_up (fun _ => none) 0 (some (u 55))) 1 (some (u 56))) 2 (some (u 57)))))))), ((u 46), .inr (7, [.ref (u 49), .ref (u 50), .int 0, .int 0, .int 0, .int 0, .int 0, .int 0, .int 0, .int 0])), ((u 49), .inl (cy 0, 9, .inl (fun _ => 0))), ((u 50), .inl (cy 0, 9, .inl (fun _ => 0))), ((u 5), .inr (7, [.ref (u 39), .ref (u 40), .int 0, .int 0, .int 0, .int 0, .int 0, .int 0, .int 0, .int 0])), ((u 39), .inl (cy 0, 9, .inl (fun _ => 0))), ((u 40), .inl (cy 0, 9, .inl (fun _ => 0))), ((u 55), .inr (8, [.ref (u 58), .ref (u 59), .int 0, .ref (u 60), .ref (u 61), .int 0, .ref (u 62)])), ((u 58), .inl (cy 0, 30, .inl (fun _ => 0))), ((u 59), .inl (cy 0, 30, .inl (fun _ => 0))), ((u 60), .inl (cy 0, 6, .inl (fun _ => 0))), ((u 61), .inl (cy 0, 6, .inl (fun _ => 0))), ((u 6), .inr (8, [.ref (u 41), .ref (u 42), .int 0, .ref (u 43), .ref (u 44), .int 0, .ref (u 45)])), ((u 41), .inl (cy 0, 30, .inl (fun _ => 0))), ((u 42), .inl (cy 0, 30, .inl (fun _ => 0))), ((u 43), .inl (cy 0, 6, .inl (fun _ => 0))), ((u 44), .inl (cy 0, 6, .inl (fun _ => 0)))] [0, 1, 2, 3, 4, 5, 6, 7, 8, 9, 10, 11, 12, 13, 14, 15, 16, 17, 18]) hl.1 rfl rfl ⟨rfl, rfl, ⟨Nat.le_of_ble_eq_true rfl, Nat.le_of_ble_eq_true rfl⟩, ⟨Nat.le_of_ble_eq_true rfl, Nat.le_of_ble_eq_true rfl⟩, Nat.le_of_ble_eq_true rfl⟩ dL_law_2368) (fun r1 u2 H locs hwu2 hP hD hS => ?_)
  have hP : va_P D vwCl (toldW cy v ++ [((v 0), .inr (13, [.int 0, .int 0, .int 0, .int (-1), .int 0, .int 0, .int 0, .int 0, .ref (v 1), .ref (v 2), .ref (v 3), .ref (v 4), .ref (v 5), .ref (v 6), .ref (v 7), .ref (v 8), .ref (v 9), .int 0, .int 0, .int 0, .int 0, .int 0, .int 0, .int 0, .int 0, .int 0, .ref (v 10), .ref (v 11), .ref (v 12), .ref (v 13), .int 0, .ref (v 14), .ref (v 15), .ref (v 16), .ref (v 17), .ref (v 18), .int 0, .int 0, .int 0, .ref (v 19), .ref (v 20), .ref (v 21), .ref (v 22), .ref (v 23), .int 0, .int 0, .int 0, .int 0])), ((v 12), .inl (cy 5, 3, .inr (.inr (.inr (.inr (fun i => if i < 3 then some ((v 12) + 1 + i) else none)))))), (((v 12) + 1 + 0), .inl (cy 0, 120, .inl (fun _ => 0))), ((v 6), .inl (cy 0, 9, .inl (fun _ => 0))), ((v 7), .inl (cy 0, 9, .inl (fun _ => 0))), ((v 8), .inl (cy 0, 9, .inl (fun _ => 0))), ((v 9), .inl (cy 0, 9, .inl (fun _ => 0))), (o, .inl (cy 6, 1, .inr (.inl (fun _ => 0))))]) H := hP
  have hD : va_D A (toldW cy v ++ [((v 0), .inr (13, [.int 0, .int 0, .int 0, .int (-1), .int 0, .int 0, .int 0, .int 0, .ref (v 1), .ref (v 2), .ref (v 3), .ref (v 4), .ref (v 5), .ref (v 6), .ref (v 7), .ref (v 8), .ref (v 9), .int 0, .int 0, .int 0, .int 0, .int 0, .int 0, .int 0, .int 0, .int 0, .ref (v 10), .ref (v 11), .ref (v 12), .ref (v 13), .int 0, .ref (v 14), .ref (v 15), .ref (v 16), .ref (v 17), .ref (v 18), .int 0, .int 0, .int 0, .ref (v 19), .ref (v 20), .ref (v 21), .ref (v 22), .ref (v 23), .int 0, .int 0, .int 0, .int 0])), ((v 12), .inl (cy 5, 3, .inr (.inr (.inr (.inr (fun i => if i < 3 then some ((v 12) + 1 + i) else none)))))), (((v 12) + 1 + 0), .inl (cy 0, 120, .inl (fun _ => 0))), ((v 6), .inl (cy 0, 9, .inl (fun _ => 0))), ((v 7), .inl (cy 0, 9, .inl (fun _ => 0))), ((v 8), .inl (cy 0, 9, .inl (fun _ => 0))), ((v 9), .inl (cy 0, 9, .inl (fun _ => 0))), (o, .inl (cy 6, 1, .inr (.inl (fun _ => 0))))]) := hD
  refine lv_aload_n hx hb dL_law_2371 rfl (lv_at hl 2 rfl) ?_
  refine k_cali [45] (⟨hP, hD, hG, hS, hA, rfl, rfl⟩ : kAt D cy sa A s H _ _ (toldW cy v ++ [((v 0), .inr (13, [.int 0, .int 0, .int 0, .int (-1), .int 0, .int 0, .int 0, .int 0, .ref (v 1), .ref (v 2), .ref (v 3), .ref (v 4), .ref (v 5), .ref (v 6), .ref (v 7), .ref (v 8), .ref (v 9), .int 0, .int 0, .int 0, .int 0, .int 0, .int 0, .int 0, .int 0, .int 0, .ref (v 10), .ref (v 11), .ref (v 12), .ref (v 13), .int 0, .ref (v 14), .ref (v 15), .ref (v 16), .ref (v 17), .ref (v 18), .int 0, .int 0, .int 0, .ref (v 19), .ref (v 20), .ref (v 21), .ref (v 22), .ref (v 23), .int 0, .int 0, .int 0, .int 0])), ((v 12), .inl (cy 5, 3, .inr (.inr (.inr (.inr (fun i => if i < 3 then some ((v 12) + 1 + i) else none)))))), (((v 12) + 1 + 0), .inl (cy 0, 120, .inl (fun _ => 0))), ((v 6), .inl (cy 0, 9, .inl (fun _ => 0))), ((v 7), .inl (cy 0, 9, .inl (fun _ => 0))), ((v 8), .inl (cy 0, 9, .inl (fun _ => 0))), ((v 9), .inl (cy 0, 9, .inl (fun _ => 0)))]) [0, 1, 2, 3, 4, 5, 6, 7, 8, 9, 10, 11, 12, 13, 14, 15, 16, 17, 18, 19, 20, 21, 22, 23, 24, 25, 26, 27, 28, 29, 30, 31, 32, 33, 34, 35, 36, 37, 38, 39, 40, 41, 42, 43, 44]) (wr := [(o, .inl (cy 6, 1, .inr (.inl (fun _ => 0))))]) rfl rfl (by decide) (k_runV 13 38 (As := []) (rest := [.int r1]) E lk_VRL_245 rfl rfl rfl (m_image_ l hl0 D cy sa v  H.size) (⟨hP, hD, hG, hS, hA, rfl, rfl⟩ : kAt D cy sa A s H _ _ (toldW cy v ++ [((v 0), .inr (13, [.int 0, .int 0, .int 0, .int (-1), .int 0, .int 0, .int 0, .int 0, .ref (v 1), .ref (v 2), .ref (v 3), .ref (v 4), .ref (v 5), .ref (v 6), .ref (v 7), .ref (v 8), .ref (v 9), .int 0, .int 0, .int 0, .int 0, .int 0, .int 0, .int 0, .int 0, .int 0, .ref (v 10), .ref (v 11), .ref (v 12), .ref (v 13), .int 0, .ref (v 14), .ref (v 15), .ref (v 16), .ref (v 17), .ref (v 18), .int 0, .int 0, .int 0, .ref (v 19), .ref (v 20), .ref (v 21), .ref (v 22), .ref (v 23), .int 0, .int 0, .int 0, .int 0])), ((v 12), .inl (cy 5, 3, .inr (.inr (.inr (.inr (fun i => if i < 3 then some ((v 12) + 1 + i) else none)))))), (((v 12) + 1 + 0), .inl (cy 0, 120, .inl (fun _ => 0))), ((v 6), .inl (cy 0, 9, .inl (fun _ => 0))), ((v 7), .inl (cy 0, 9, .inl (fun _ => 0))), ((v 8), .inl (cy 0, 9, .inl (fun _ => 0))), ((v 9), .inl (cy 0, 9, .inl (fun _ => 0)))]) [0, 1, 2, 3, 4, 5, 6, 7, 8, 9, 10, 11, 12, 13, 14, 15, 16, 17, 18, 19, 20, 21, 22, 23, 24, 25, 26, 27, 28, 29, 30, 31, 32, 33, 34, 35, 36, 37, 38, 39, 40, 41, 42, 43, 44]) hl.1 rfl rfl ⟨rfl, rfl, ⟨Nat.le_of_ble_eq_true rfl, Nat.le_of_ble_eq_true rfl⟩, ⟨Nat.le_of_ble_eq_true rfl, Nat.le_of_ble_eq_true rfl⟩, Nat.le_of_ble_eq_true rfl⟩ dL_law_2372) (fun r3 u4 H locs hwu4 hP hD hS => ?_)
  have hP : va_P D vwCl [(o, .inl (cy 6, 1, .inr (.inl (fun _ => 0)))), ((v 0), .inr (13, .int u4.1 :: u4.2))] H := hP
  have hD : va_D A [(o, .inl (cy 6, 1, .inr (.inl (fun _ => 0)))), ((v 0), .inr (13, .int u4.1 :: u4.2))] := hD
  have heq : r1 = r3 := hwu2.trans (hwu4.1 trivial).2.symm
  refine lv_icmp_eq (tgt := 2418) hx hb dL_law_2375 (by decide) (fun _ => ?_) (fun h => absurd heq h)
  refine lv_iinc (v := 6) (lv' := [(4, .int 6), (0, .ref b), (1, .ref (u 0)), (2, .ref (v 0)), (3, .ref o)]) hx hb dL_law_2418 hl (k := 4) rfl (by decide) (by decide) rfl (fun ls hl => ?_)
  refine lv_goto (tgt := 23) hx hb dL_law_2421 (by decide) ?_
  exact law_exit E hX hbl hbA hAs hS (i := 6) (by decide) (lv_at hl 1 rfl) (lv_at hl 0 rfl) (by decide) (by decide)

set_option maxHeartbeats 4000000 in
set_option maxRecDepth 100000 in
/-- the law: restore -/
theorem law_case_37 {p : Program} {l : Launch} {e : Env} {s : State} {m : MethodId} {below : List Frame} {meth : Method} {c : Code} {D : va_G} {cy : Nat → ClassId} {sa : Nat → Nat} {b : Nat} {xs : Nat → Int32} (hl0 : l.stackTraces = false) (E : kE yL_law cL_law 7 (some .boolean) #[Value.ref b] p s m meth c) (hX : va_X b 6 xs s s.heap) (hbl : b < s.heap.size) (hG : kG D cy sa (fun q => s.heap.size ≤ q) s) (u v : Nat → Nat) (o : Nat) (H : Heap) (locs : List Loc) (hP : va_P D vwCl [((u 0), .inr (12, [.ref (u 1), .int 0, .int (-1), .ref (u 2), .ref (u 3), .ref (u 4), .ref (u 5), .ref (u 6), .ref (u 7), .ref (u 8), .int 0, .ref (u 9), .ref (u 10), .ref (u 11), .ref (u 12), .ref (u 13), .ref (u 14)])), ((v 0), .inr (13, [.int 0, .int 0, .int 0, .int (-1), .int 0, .int 0, .int 0, .int 0, .ref (v 1), .ref (v 2), .ref (v 3), .ref (v 4), .ref (v 5), .ref (v 6), .ref (v 7), .ref (v 8), .ref (v 9), .int 0, .int 0, .int 0, .int 0, .int 0, .int 0, .int 0, .int 0, .int 0, .ref (v 10), .ref (v 11), .ref (v 12), .ref (v 13), .int 0, .ref (v 14), .ref (v 15), .ref (v 16), .ref (v 17), .ref (v 18), .int 0, .int 0, .int 0, .ref (v 19), .ref (v 20), .ref (v 21), .ref (v 22), .ref (v 23), .int 0, .int 0, .int 0, .int 0])), (o, .inl (cy 6, 1, .inr (.inl (fun _ => 0))))] H) (hD : va_D (fun q => s.heap.size ≤ q) [((u 0), .inr (12, [.ref (u 1), .int 0, .int (-1), .ref (u 2), .ref (u 3), .ref (u 4), .ref (u 5), .ref (u 6), .ref (u 7), .ref (u 8), .int 0, .ref (u 9), .ref (u 10), .ref (u 11), .ref (u 12), .ref (u 13), .ref (u 14)])), ((v 0), .inr (13, [.int 0, .int 0, .int 0, .int (-1), .int 0, .int 0, .int 0, .int 0, .ref (v 1), .ref (v 2), .ref (v 3), .ref (v 4), .ref (v 5), .ref (v 6), .ref (v 7), .ref (v 8), .ref (v 9), .int 0, .int 0, .int 0, .int 0, .int 0, .int 0, .int 0, .int 0, .int 0, .ref (v 10), .ref (v 11), .ref (v 12), .ref (v 13), .int 0, .ref (v 14), .ref (v 15), .ref (v 16), .ref (v 17), .ref (v 18), .int 0, .int 0, .int 0, .ref (v 19), .ref (v 20), .ref (v 21), .ref (v 22), .ref (v 23), .int 0, .int 0, .int 0, .int 0])), (o, .inl (cy 6, 1, .inr (.inl (fun _ => 0))))]) (hS : va_S (fun q => s.heap.size ≤ q) s.heap H locs) (ls : Array Slot) (hl : lv_has ls 7 [(0, .ref b), (1, .ref (u 0)), (2, .ref (v 0)), (3, .ref o), (4, .int 0)]) : W p l e room_1 s m #[Value.ref b] below meth c H locs 179 322202 (lw_Z below #[Value.ref b] s) (F0 m 2380 ls []) := by
  obtain ⟨A, hAe⟩ : ∃ A : Nat → Prop, A = fun q => s.heap.size ≤ q := ⟨_, rfl⟩
  rw [← hAe] at hG hD hS
  have hA : ∀ q, s.heap.size ≤ q → A q := fun q h => by rw [hAe]; exact h
  have hAs : ∀ q, A q → s.heap.size ≤ q := fun q h => by rw [hAe] at h; exact h
  have hbA : ¬ A b := by rw [hAe]; exact Nat.not_le.mpr hbl
  obtain ⟨hx, hb, hml, hown, hts, hr, hlk, hnm⟩ := id E
  have hown : s.vm.findClass RL = some m.cls := hown
  refine lv_aload_n hx hb dL_law_2380 rfl (lv_at hl 1 rfl) ?_
  refine k_cali [1, 2] (⟨hP, hD, hG, hS, hA, rfl, rfl⟩ : kAt D cy sa A s H _ _ [((u 0), .inr (12, [.ref (u 1), .int 0, .int (-1), .ref (u 2), .ref (u 3), .ref (u 4), .ref (u 5), .ref (u 6), .ref (u 7), .ref (u 8), .int 0, .ref (u 9), .ref (u 10), .ref (u 11), .ref (u 12), .ref (u 13), .ref (u 14)]))] [0]) (wr := [((v 0), .inr (13, [.int 0, .int 0, .int 0, .int (-1), .int 0, .int 0, .int 0, .int 0, .ref (v 1), .ref (v 2), .ref (v 3), .ref (v 4), .ref (v 5), .ref (v 6), .ref (v 7), .ref (v 8), .ref (v 9), .int 0, .int 0, .int 0, .int 0, .int 0, .int 0, .int 0, .int 0, .int 0, .ref (v 10), .ref (v 11), .ref (v 12), .ref (v 13), .int 0, .ref (v 14), .ref (v 15), .ref (v 16), .ref (v 17), .ref (v 18), .int 0, .int 0, .int 0, .ref (v 19), .ref (v 20), .ref (v 21), .ref (v 22), .ref (v 23), .int 0, .int 0, .int 0, .int 0])), (o, .inl (cy 6, 1, .inr (.inl (fun _ => 0))))]) rfl rfl (by decide) (k_runV 12 0 (As := []) (rest := []) E lk_VRL_246 rfl rfl rfl (c_LM_restore l hl0 D cy sa u  H.size) (⟨hP, hD, hG, hS, hA, rfl, rfl⟩ : kAt D cy sa A s H _ _ [((u 0), .inr (12, [.ref (u 1), .int 0, .int (-1), .ref (u 2), .ref (u 3), .ref (u 4), .ref (u 5), .ref (u 6), .ref (u 7), .ref (u 8), .int 0, .ref (u 9), .ref (u 10), .ref (u 11), .ref (u 12), .ref (u 13), .ref (u 14)]))] [0]) hl.1 rfl rfl ⟨rfl, rfl, ⟨Nat.le_of_ble_eq_true rfl, Nat.le_of_ble_eq_true rfl⟩, ⟨Nat.le_of_ble_eq_true rfl, Nat.le_of_ble_eq_true rfl⟩, Nat.le_of_ble_eq_true rfl⟩ dL_law_2381) (fun r1 u2 H locs hwu2 hP hD hS => ?_)
  have hP : va_P D vwCl [((v 0), .inr (13, [.int 0, .int 0, .int 0, .int (-1), .int 0, .int 0, .int 0, .int 0, .ref (v 1), .ref (v 2), .ref (v 3), .ref (v 4), .ref (v 5), .ref (v 6), .ref (v 7), .ref (v 8), .ref (v 9), .int 0, .int 0, .int 0, .int 0, .int 0, .int 0, .int 0, .int 0, .int 0, .ref (v 10), .ref (v 11), .ref (v 12), .ref (v 13), .int 0, .ref (v 14), .ref (v 15), .ref (v 16), .ref (v 17), .ref (v 18), .int 0, .int 0, .int 0, .ref (v 19), .ref (v 20), .ref (v 21), .ref (v 22), .ref (v 23), .int 0, .int 0, .int 0, .int 0])), (o, .inl (cy 6, 1, .inr (.inl (fun _ => 0))))] H := hP
  have hD : va_D A [((v 0), .inr (13, [.int 0, .int 0, .int 0, .int (-1), .int 0, .int 0, .int 0, .int 0, .ref (v 1), .ref (v 2), .ref (v 3), .ref (v 4), .ref (v 5), .ref (v 6), .ref (v 7), .ref (v 8), .ref (v 9), .int 0, .int 0, .int 0, .int 0, .int 0, .int 0, .int 0, .int 0, .int 0, .ref (v 10), .ref (v 11), .ref (v 12), .ref (v 13), .int 0, .ref (v 14), .ref (v 15), .ref (v 16), .ref (v 17), .ref (v 18), .int 0, .int 0, .int 0, .ref (v 19), .ref (v 20), .ref (v 21), .ref (v 22), .ref (v 23), .int 0, .int 0, .int 0, .int 0])), (o, .inl (cy 6, 1, .inr (.inl (fun _ => 0))))] := hD
  refine lv_aload_n hx hb dL_law_2384 rfl (lv_at hl 2 rfl) ?_
  refine k_cali [1] (⟨hP, hD, hG, hS, hA, rfl, rfl⟩ : kAt D cy sa A s H _ _ [((v 0), .inr (13, [.int 0, .int 0, .int 0, .int (-1), .int 0, .int 0, .int 0, .int 0, .ref (v 1), .ref (v 2), .ref (v 3), .ref (v 4), .ref (v 5), .ref (v 6), .ref (v 7), .ref (v 8), .ref (v 9), .int 0, .int 0, .int 0, .int 0, .int 0, .int 0, .int 0, .int 0, .int 0, .ref (v 10), .ref (v 11), .ref (v 12), .ref (v 13), .int 0, .ref (v 14), .ref (v 15), .ref (v 16), .ref (v 17), .ref (v 18), .int 0, .int 0, .int 0, .ref (v 19), .ref (v 20), .ref (v 21), .ref (v 22), .ref (v 23), .int 0, .int 0, .int 0, .int 0]))] [0]) (wr := [(o, .inl (cy 6, 1, .inr (.inl (fun _ => 0))))]) rfl rfl (by decide) (k_runV 13 0 (As := []) (rest := [.int r1]) E lk_VRL_249 rfl rfl rfl (m_restore_ l hl0 D cy sa v  H.size) (⟨hP, hD, hG, hS, hA, rfl, rfl⟩ : kAt D cy sa A s H _ _ [((v 0), .inr (13, [.int 0, .int 0, .int 0, .int (-1), .int 0, .int 0, .int 0, .int 0, .ref (v 1), .ref (v 2), .ref (v 3), .ref (v 4), .ref (v 5), .ref (v 6), .ref (v 7), .ref (v 8), .ref (v 9), .int 0, .int 0, .int 0, .int 0, .int 0, .int 0, .int 0, .int 0, .int 0, .ref (v 10), .ref (v 11), .ref (v 12), .ref (v 13), .int 0, .ref (v 14), .ref (v 15), .ref (v 16), .ref (v 17), .ref (v 18), .int 0, .int 0, .int 0, .ref (v 19), .ref (v 20), .ref (v 21), .ref (v 22), .ref (v 23), .int 0, .int 0, .int 0, .int 0]))] [0]) hl.1 rfl rfl ⟨rfl, rfl, ⟨Nat.le_of_ble_eq_true rfl, Nat.le_of_ble_eq_true rfl⟩, ⟨Nat.le_of_ble_eq_true rfl, Nat.le_of_ble_eq_true rfl⟩, Nat.le_of_ble_eq_true rfl⟩ dL_law_2385) (fun r3 u4 H locs hwu4 hP hD hS => ?_)
  have hP : va_P D vwCl [(o, .inl (cy 6, 1, .inr (.inl (fun _ => 0)))), ((v 0), .inr (13, .int u4.1 :: u4.2))] H := hP
  have hD : va_D A [(o, .inl (cy 6, 1, .inr (.inl (fun _ => 0)))), ((v 0), .inr (13, .int u4.1 :: u4.2))] := hD
  have heq : r1 = r3 := hwu2.trans (hwu4.1 trivial).2.symm
  refine lv_icmp_eq (tgt := 2418) hx hb dL_law_2388 (by decide) (fun _ => ?_) (fun h => absurd heq h)
  refine lv_iinc (v := 6) (lv' := [(4, .int 6), (0, .ref b), (1, .ref (u 0)), (2, .ref (v 0)), (3, .ref o)]) hx hb dL_law_2418 hl (k := 4) rfl (by decide) (by decide) rfl (fun ls hl => ?_)
  refine lv_goto (tgt := 23) hx hb dL_law_2421 (by decide) ?_
  exact law_exit E hX hbl hbA hAs hS (i := 6) (by decide) (lv_at hl 1 rfl) (lv_at hl 0 rfl) (by decide) (by decide)

set_option maxHeartbeats 4000000 in
set_option maxRecDepth 100000 in
/-- the law: count -/
theorem law_case_38 {p : Program} {l : Launch} {e : Env} {s : State} {m : MethodId} {below : List Frame} {meth : Method} {c : Code} {D : va_G} {cy : Nat → ClassId} {sa : Nat → Nat} {b : Nat} {xs : Nat → Int32} (hl0 : l.stackTraces = false) (E : kE yL_law cL_law 7 (some .boolean) #[Value.ref b] p s m meth c) (hX : va_X b 6 xs s s.heap) (hbl : b < s.heap.size) (hG : kG D cy sa (fun q => s.heap.size ≤ q) s) (u v : Nat → Nat) (o : Nat) (H : Heap) (locs : List Loc) (hP : va_P D vwCl [((u 0), .inr (12, [.ref (u 1), .int 0, .int (-1), .ref (u 2), .ref (u 3), .ref (u 4), .ref (u 5), .ref (u 6), .ref (u 7), .ref (u 8), .int 0, .ref (u 9), .ref (u 10), .ref (u 11), .ref (u 12), .ref (u 13), .ref (u 14)])), ((u 5), .inr (7, [.ref (u 39), .ref (u 40), .int 0, .int 0, .int 0, .int 0, .int 0, .int 0, .int 0, .int 0])), ((u 6), .inr (8, [.ref (u 41), .ref (u 42), .int 0, .ref (u 43), .ref (u 44), .int 0, .ref (u 45)])), ((v 0), .inr (13, [.int 0, .int 0, .int 0, .int (-1), .int 0, .int 0, .int 0, .int 0, .ref (v 1), .ref (v 2), .ref (v 3), .ref (v 4), .ref (v 5), .ref (v 6), .ref (v 7), .ref (v 8), .ref (v 9), .int 0, .int 0, .int 0, .int 0, .int 0, .int 0, .int 0, .int 0, .int 0, .ref (v 10), .ref (v 11), .ref (v 12), .ref (v 13), .int 0, .ref (v 14), .ref (v 15), .ref (v 16), .ref (v 17), .ref (v 18), .int 0, .int 0, .int 0, .ref (v 19), .ref (v 20), .ref (v 21), .ref (v 22), .ref (v 23), .int 0, .int 0, .int 0, .int 0])), ((v 5), .inl (cy 0, 5, .inl (fun _ => 0))), (o, .inl (cy 6, 1, .inr (.inl (fun _ => 0))))] H) (hD : va_D (fun q => s.heap.size ≤ q) [((u 0), .inr (12, [.ref (u 1), .int 0, .int (-1), .ref (u 2), .ref (u 3), .ref (u 4), .ref (u 5), .ref (u 6), .ref (u 7), .ref (u 8), .int 0, .ref (u 9), .ref (u 10), .ref (u 11), .ref (u 12), .ref (u 13), .ref (u 14)])), ((u 5), .inr (7, [.ref (u 39), .ref (u 40), .int 0, .int 0, .int 0, .int 0, .int 0, .int 0, .int 0, .int 0])), ((u 6), .inr (8, [.ref (u 41), .ref (u 42), .int 0, .ref (u 43), .ref (u 44), .int 0, .ref (u 45)])), ((v 0), .inr (13, [.int 0, .int 0, .int 0, .int (-1), .int 0, .int 0, .int 0, .int 0, .ref (v 1), .ref (v 2), .ref (v 3), .ref (v 4), .ref (v 5), .ref (v 6), .ref (v 7), .ref (v 8), .ref (v 9), .int 0, .int 0, .int 0, .int 0, .int 0, .int 0, .int 0, .int 0, .int 0, .ref (v 10), .ref (v 11), .ref (v 12), .ref (v 13), .int 0, .ref (v 14), .ref (v 15), .ref (v 16), .ref (v 17), .ref (v 18), .int 0, .int 0, .int 0, .ref (v 19), .ref (v 20), .ref (v 21), .ref (v 22), .ref (v 23), .int 0, .int 0, .int 0, .int 0])), ((v 5), .inl (cy 0, 5, .inl (fun _ => 0))), (o, .inl (cy 6, 1, .inr (.inl (fun _ => 0))))]) (hS : va_S (fun q => s.heap.size ≤ q) s.heap H locs) (ls : Array Slot) (hl : lv_has ls 7 [(0, .ref b), (1, .ref (u 0)), (2, .ref (v 0)), (3, .ref o), (4, .int 0)]) : W p l e room_1 s m #[Value.ref b] below meth c H locs 179 322202 (lw_Z below #[Value.ref b] s) (F0 m 2393 ls []) := by
  obtain ⟨A, hAe⟩ : ∃ A : Nat → Prop, A = fun q => s.heap.size ≤ q := ⟨_, rfl⟩
  rw [← hAe] at hG hD hS
  have hA : ∀ q, s.heap.size ≤ q → A q := fun q h => by rw [hAe]; exact h
  have hAs : ∀ q, A q → s.heap.size ≤ q := fun q h => by rw [hAe] at h; exact h
  have hbA : ¬ A b := by rw [hAe]; exact Nat.not_le.mpr hbl
  obtain ⟨hx, hb, hml, hown, hts, hr, hlk, hnm⟩ := id E
  have hown : s.vm.findClass RL = some m.cls := hown
  refine lv_aload_n hx hb dL_law_2393 rfl (lv_at hl 1 rfl) ?_
  refine lv_aload_n hx hb dL_law_2394 rfl (lv_at hl 0 rfl) ?_
  refine lv_iload hx hb dL_law_2395 (lv_at hl 4 rfl) ?_
  refine lv_iconst (v := 1) hx hb dL_law_2397 (by decide) ?_
  refine lv_iadd hx hb dL_law_2398 ?_
  refine lv_topi (fun x1 ex1 => ?_)
  obtain rfl : x1 = 1 := ex1.trans (by decide)
  refine va_sld hx hb hX hbl hbA hS (by unfold vp_in; decide) dL_law_2399 ?_
  refine lv_topi (fun x2 ex2 => ?_)
  obtain rfl : x2 = xs 1 := ex2.trans rfl
  refine k_cali [3, 4, 5] (⟨hP, hD, hG, hS, hA, rfl, rfl⟩ : kAt D cy sa A s H _ _ [((u 0), .inr (12, [.ref (u 1), .int 0, .int (-1), .ref (u 2), .ref (u 3), .ref (u 4), .ref (u 5), .ref (u 6), .ref (u 7), .ref (u 8), .int 0, .ref (u 9), .ref (u 10), .ref (u 11), .ref (u 12), .ref (u 13), .ref (u 14)])), ((u 5), .inr (7, [.ref (u 39), .ref (u 40), .int 0, .int 0, .int 0, .int 0, .int 0, .int 0, .int 0, .int 0])), ((u 6), .inr (8, [.ref (u 41), .ref (u 42), .int 0, .ref (u 43), .ref (u 44), .int 0, .ref (u 45)]))] [0, 1, 2]) (wr := [((v 0), .inr (13, [.int 0, .int 0, .int 0, .int (-1), .int 0, .int 0, .int 0, .int 0, .ref (v 1), .ref (v 2), .ref (v 3), .ref (v 4), .ref (v 5), .ref (v 6), .ref (v 7), .ref (v 8), .ref (v 9), .int 0, .int 0, .int 0, .int 0, .int 0, .int 0, .int 0, .int 0, .int 0, .ref (v 10), .ref (v 11), .ref (v 12), .ref (v 13), .int 0, .ref (v 14), .ref (v 15), .ref (v 16), .ref (v 17), .ref (v 18), .int 0, .int 0, .int 0, .ref (v 19), .ref (v 20), .ref (v 21), .ref (v 22), .ref (v 23), .int 0, .int 0, .int 0, .int 0])), ((v 5), .inl (cy 0, 5, .inl (fun _ => 0))), (o, .inl (cy 6, 1, .inr (.inl (fun _ => 0))))]) rfl rfl (by decide) (k_runV 12 0 (As := [.int (xs 1)]) (rest := []) E lk_VRL_250 rfl rfl rfl (c_LM_count l hl0 D cy sa u (xs 1) H.size) (⟨hP, hD, hG, hS, hA, rfl, rfl⟩ : kAt D cy sa A s H _ _ [((u 0), .inr (12, [.ref (u 1), .int 0, .int (-1), .ref (u 2), .ref (u 3), .ref (u 4), .ref (u 5), .ref (u 6), .ref (u 7), .ref (u 8), .int 0, .ref (u 9), .ref (u 10), .ref (u 11), .ref (u 12), .ref (u 13), .ref (u 14)])), ((u 5), .inr (7, [.ref (u 39), .ref (u 40), .int 0, .int 0, .int 0, .int 0, .int 0, .int 0, .int 0, .int 0])), ((u 6), .inr (8, [.ref (u 41), .ref (u 42), .int 0, .ref (u 43), .ref (u 44), .int 0, .ref (u 45)]))] [0, 1, 2]) hl.1 rfl rfl ⟨rfl, rfl, ⟨Nat.le_of_ble_eq_true rfl, Nat.le_of_ble_eq_true rfl⟩, ⟨Nat.le_of_ble_eq_true rfl, Nat.le_of_ble_eq_true rfl⟩, Nat.le_of_ble_eq_true rfl⟩ dL_law_2400) (fun r3 u4 H locs hwu4 hP hD hS => ?_)
  have hP : va_P D vwCl [((v 0), .inr (13, [.int 0, .int 0, .int 0, .int (-1), .int 0, .int 0, .int 0, .int 0, .ref (v 1), .ref (v 2), .ref (v 3), .ref (v 4), .ref (v 5), .ref (v 6), .ref (v 7), .ref (v 8), .ref (v 9), .int 0, .int 0, .int 0, .int 0, .int 0, .int 0, .int 0, .int 0, .int 0, .ref (v 10), .ref (v 11), .ref (v 12), .ref (v 13), .int 0, .ref (v 14), .ref (v 15), .ref (v 16), .ref (v 17), .ref (v 18), .int 0, .int 0, .int 0, .ref (v 19), .ref (v 20), .ref (v 21), .ref (v 22), .ref (v 23), .int 0, .int 0, .int 0, .int 0])), ((v 5), .inl (cy 0, 5, .inl (fun _ => 0))), (o, .inl (cy 6, 1, .inr (.inl (fun _ => 0))))] H := hP
  have hD : va_D A [((v 0), .inr (13, [.int 0, .int 0, .int 0, .int (-1), .int 0, .int 0, .int 0, .int 0, .ref (v 1), .ref (v 2), .ref (v 3), .ref (v 4), .ref (v 5), .ref (v 6), .ref (v 7), .ref (v 8), .ref (v 9), .int 0, .int 0, .int 0, .int 0, .int 0, .int 0, .int 0, .int 0, .int 0, .ref (v 10), .ref (v 11), .ref (v 12), .ref (v 13), .int 0, .ref (v 14), .ref (v 15), .ref (v 16), .ref (v 17), .ref (v 18), .int 0, .int 0, .int 0, .ref (v 19), .ref (v 20), .ref (v 21), .ref (v 22), .ref (v 23), .int 0, .int 0, .int 0, .int 0])), ((v 5), .inl (cy 0, 5, .inl (fun _ => 0))), (o, .inl (cy 6, 1, .inr (.inl (fun _ => 0))))] := hD
  refine lv_aload_n hx hb dL_law_2403 rfl (lv_at hl 2 rfl) ?_
  refine lv_aload_n hx hb dL_law_2404 rfl (lv_at hl 0 rfl) ?_
  refine lv_iload hx hb dL_law_2405 (lv_at hl 4 rfl) ?_
  refine lv_iconst (v := 1) hx hb dL_law_2407 (by decide) ?_
  refine lv_iadd hx hb dL_law_2408 ?_
  refine lv_topi (fun x5 ex5 => ?_)
  obtain rfl : x5 = 1 := ex5.trans (by decide)
  refine va_sld hx hb hX hbl hbA hS (by unfold vp_in; decide) dL_law_2409 ?_
  refine lv_topi (fun x6 ex6 => ?_)
  obtain rfl : x6 = xs 1 := ex6.trans rfl
  refine k_cali [2] (⟨hP, hD, hG, hS, hA, rfl, rfl⟩ : kAt D cy sa A s H _ _ [((v 0), .inr (13, [.int 0, .int 0, .int 0, .int (-1), .int 0, .int 0, .int 0, .int 0, .ref (v 1), .ref (v 2), .ref (v 3), .ref (v 4), .ref (v 5), .ref (v 6), .ref (v 7), .ref (v 8), .ref (v 9), .int 0, .int 0, .int 0, .int 0, .int 0, .int 0, .int 0, .int 0, .int 0, .ref (v 10), .ref (v 11), .ref (v 12), .ref (v 13), .int 0, .ref (v 14), .ref (v 15), .ref (v 16), .ref (v 17), .ref (v 18), .int 0, .int 0, .int 0, .ref (v 19), .ref (v 20), .ref (v 21), .ref (v 22), .ref (v 23), .int 0, .int 0, .int 0, .int 0])), ((v 5), .inl (cy 0, 5, .inl (fun _ => 0)))] [0, 1]) (wr := [(o, .inl (cy 6, 1, .inr (.inl (fun _ => 0))))]) rfl rfl (by decide) (k_runV 13 0 (As := [.int (xs 1)]) (rest := [.int r3]) E lk_VRL_253 rfl rfl rfl (m_count_ l hl0 D cy sa v (xs 1) H.size) (⟨hP, hD, hG, hS, hA, rfl, rfl⟩ : kAt D cy sa A s H _ _ [((v 0), .inr (13, [.int 0, .int 0, .int 0, .int (-1), .int 0, .int 0, .int 0, .int 0, .ref (v 1), .ref (v 2), .ref (v 3), .ref (v 4), .ref (v 5), .ref (v 6), .ref (v 7), .ref (v 8), .ref (v 9), .int 0, .int 0, .int 0, .int 0, .int 0, .int 0, .int 0, .int 0, .int 0, .ref (v 10), .ref (v 11), .ref (v 12), .ref (v 13), .int 0, .ref (v 14), .ref (v 15), .ref (v 16), .ref (v 17), .ref (v 18), .int 0, .int 0, .int 0, .ref (v 19), .ref (v 20), .ref (v 21), .ref (v 22), .ref (v 23), .int 0, .int 0, .int 0, .int 0])), ((v 5), .inl (cy 0, 5, .inl (fun _ => 0)))] [0, 1]) hl.1 rfl rfl ⟨rfl, rfl, ⟨Nat.le_of_ble_eq_true rfl, Nat.le_of_ble_eq_true rfl⟩, ⟨Nat.le_of_ble_eq_true rfl, Nat.le_of_ble_eq_true rfl⟩, Nat.le_of_ble_eq_true rfl⟩ dL_law_2410) (fun r7 u8 H locs hwu8 hP hD hS => ?_)
  have hP : va_P D vwCl [(o, .inl (cy 6, 1, .inr (.inl (fun _ => 0)))), ((v 0), .inr (13, .int u8.1 :: u8.2))] H := hP
  have hD : va_D A [(o, .inl (cy 6, 1, .inr (.inl (fun _ => 0)))), ((v 0), .inr (13, .int u8.1 :: u8.2))] := hD
  have heq : r3 = r7 := hwu4.trans (hwu8.1 trivial).2.symm
  refine lv_icmp_eq (tgt := 2418) hx hb dL_law_2413 (by decide) (fun _ => ?_) (fun h => absurd heq h)
  refine lv_iinc (v := 6) (lv' := [(4, .int 6), (0, .ref b), (1, .ref (u 0)), (2, .ref (v 0)), (3, .ref o)]) hx hb dL_law_2418 hl (k := 4) rfl (by decide) (by decide) rfl (fun ls hl => ?_)
  refine lv_goto (tgt := 23) hx hb dL_law_2421 (by decide) ?_
  exact law_exit E hX hbl hbA hAs hS (i := 6) (by decide) (lv_at hl 1 rfl) (lv_at hl 0 rfl) (by decide) (by decide)
